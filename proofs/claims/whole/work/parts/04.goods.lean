set_option maxRecDepth 20000 in
theorem ggX3_grow_X3_allFish : GoodIn wsX3_grow wsX3_allFish := goodIn_r _ [10, 1, 11, 12, 13, 14] (by decide +kernel) (by decide +kernel)
set_option maxRecDepth 20000 in
theorem gX3_grow_X3_allFish : GoodIn wsX3_grow (wsV RX3 31 RX3 yX3_allFish wsX3_allFish) := goodIn_app (goodIn_of _ (by decide +kernel)) ggX3_grow_X3_allFish
set_option maxRecDepth 20000 in
theorem ggX6_init_X4_init : GoodIn wsX6_init wsX4_init := goodIn_r _ [15, 16, 2, 3, 17, 18, 19, 20, 21, 22, 32, 33] (by decide +kernel) (by decide +kernel)
set_option maxRecDepth 20000 in
theorem gX6_init_X4_init : GoodIn wsX6_init (wsX4_init) := ggX6_init_X4_init
set_option maxRecDepth 20000 in
theorem ggX6_read_X7_forget : GoodIn wsX6_read wsX7_forget := goodIn_r _ [14, 15, 16, 17, 18, 19, 20, 266, 267, 268, 269, 270, 271, 272, 273, 274, 275, 276, 277, 278, 279, 280, 281, 282, 283, 284, 285, 286] (by decide +kernel) (by decide +kernel)
set_option maxRecDepth 20000 in
theorem gX6_read_X7_forget : GoodIn wsX6_read (wsV RX6 38 RX7 yX7_forget wsX7_forget) := goodIn_app (goodIn_of _ (by decide +kernel)) ggX6_read_X7_forget
set_option maxRecDepth 20000 in
theorem ggX6_read_X6_sign : GoodIn wsX6_read wsX6_sign := goodIn_r _ [25, 6, 26, 8, 251, 252, 253, 254, 255, 256, 257, 258, 259, 260, 261, 262, 263, 264, 265] (by decide +kernel) (by decide +kernel)
set_option maxRecDepth 20000 in
theorem gX6_read_X6_sign : GoodIn wsX6_read (wsV RX6 43 RX6 yX6_sign wsX6_sign) := goodIn_app (goodIn_of _ (by decide +kernel)) ggX6_read_X6_sign
set_option maxRecDepth 20000 in
theorem ggX6_read_Jx29ce0_ordinal_8abf5 : GoodIn wsX6_read wsJx29ce0_ordinal_8abf5 := goodIn_r _ [32, 33] (by decide +kernel) (by decide +kernel)
set_option maxRecDepth 20000 in
theorem gX6_read_Jx29ce0_ordinal_8abf5_u59X8 : GoodIn wsX6_read (va_wsU RX6 59 RX8 "java/lang/Enum" ⟨"TideLots$Sign", "ordinal", "()I"⟩ yJx29ce0_ordinal_8abf5 wsJx29ce0_ordinal_8abf5) := goodIn_app (goodIn_of _ (by decide +kernel)) ggX6_read_Jx29ce0_ordinal_8abf5
set_option maxRecDepth 20000 in
theorem ggX6_read_X6_groundLine : GoodIn wsX6_read wsX6_groundLine := goodIn_r _ [37, 38, 39, 1, 40, 41, 42, 43, 44, 45, 46, 47, 24, 48, 8, 21, 22, 23, 25, 6, 26, 49, 50, 51, 52, 53, 54, 55, 56, 57, 58, 59, 60, 61, 62, 63, 64, 65, 5, 7, 9, 66, 67, 68, 69, 70, 71, 72, 13, 73, 15, 74, 75, 76, 77, 78, 79, 80, 81, 82, 83, 84, 85, 86, 87, 88, 89, 90, 91, 92, 93, 94, 95, 96, 97, 98, 251, 252, 253, 254, 255, 256, 257, 258, 259, 287, 288, 289, 290, 260, 261, 262, 263, 264, 265, 291, 292, 266, 267, 268, 269, 270, 271, 272, 273, 274, 275, 276, 277, 278, 279, 280, 281, 282] (by decide +kernel) (by decide +kernel)
set_option maxRecDepth 20000 in
theorem gX6_read_X6_groundLine : GoodIn wsX6_read (wsV RX6 63 RX6 yX6_groundLine wsX6_groundLine) := goodIn_app (goodIn_of _ (by decide +kernel)) ggX6_read_X6_groundLine
set_option maxRecDepth 20000 in
theorem ggX6_read_X6_fisherLine : GoodIn wsX6_read wsX6_fisherLine := goodIn_r _ [102, 103, 104, 1, 105, 41, 106, 107, 108, 109, 110, 111, 45, 46, 47, 24, 48, 8, 21, 22, 23, 25, 6, 26, 49, 50, 51, 52, 53, 54, 55, 56, 57, 58, 59, 60, 61, 62, 63, 64, 65, 5, 7, 9, 66, 67, 68, 69, 112, 113, 114, 13, 115, 16, 74, 75, 76, 77, 116, 117, 118, 119, 120, 121, 122, 123, 124, 125, 126, 127, 128, 129, 130, 131, 132, 133, 89, 90, 91, 92, 93, 251, 252, 253, 254, 255, 256, 257, 258, 259, 293, 294, 295, 296, 297, 298, 299, 300, 301, 302, 303, 260, 261, 262, 263, 264, 265, 291, 292, 266, 267, 268, 269, 270, 271, 272, 273, 274, 275, 276, 277, 278, 279, 280, 281, 282] (by decide +kernel) (by decide +kernel)
set_option maxRecDepth 20000 in
theorem gX6_read_X6_fisherLine : GoodIn wsX6_read (wsV RX6 67 RX6 yX6_fisherLine wsX6_fisherLine) := goodIn_app (goodIn_of _ (by decide +kernel)) ggX6_read_X6_fisherLine
set_option maxRecDepth 20000 in
theorem ggX6_read_X6_goLine : GoodIn wsX6_read wsX6_goLine := goodIn_r _ [137, 1, 138, 139, 104, 41, 140, 141, 39, 142, 143, 144, 145, 146, 147, 62, 63, 64, 24, 65, 5, 6, 7, 8, 9, 148, 149, 150, 13, 151, 17, 74, 75, 76, 77, 152, 45, 46, 47, 48, 21, 22, 23, 25, 26, 153, 154, 155, 156, 53, 54, 55, 56, 57, 58, 59, 60, 61, 157, 158, 159, 160, 161, 162, 163, 164, 165, 166, 167, 168, 169, 170, 171, 172, 173, 174, 175, 176, 177, 178, 3, 179, 180, 181, 182, 27, 28, 29, 30, 31, 32, 33, 183, 184, 185, 186, 187, 188, 189, 190, 191, 192, 193, 194, 195, 196, 197, 198, 199, 200, 201, 202, 44, 89, 90, 91, 92, 93, 203, 204, 205, 206, 251, 252, 253, 254, 255, 256, 257, 258, 259, 266, 267, 268, 269, 270, 271, 272, 273, 274, 275, 276, 277, 278, 279, 280, 281, 282, 304, 305, 306, 307, 283, 284, 285, 286, 260, 261, 262, 263, 264, 265, 291, 292] (by decide +kernel) (by decide +kernel)
set_option maxRecDepth 20000 in
theorem gX6_read_X6_goLine : GoodIn wsX6_read (wsV RX6 70 RX6 yX6_goLine wsX6_goLine) := goodIn_app (goodIn_of _ (by decide +kernel)) ggX6_read_X6_goLine
set_option maxRecDepth 20000 in
theorem ggX6_read_X6_pactLine : GoodIn wsX6_read wsX6_pactLine := goodIn_r _ [210, 211, 212, 1, 213, 44, 214, 215, 39, 41, 216, 143, 144, 217, 218, 219, 45, 46, 47, 24, 48, 8, 21, 22, 23, 25, 6, 26, 49, 50, 51, 52, 53, 54, 55, 56, 57, 58, 59, 60, 61, 62, 63, 64, 65, 5, 7, 9, 66, 67, 68, 69, 220, 221, 222, 13, 223, 18, 74, 75, 76, 77, 224, 225, 226, 227, 228, 229, 230, 231, 232, 233, 234, 235, 236, 237, 238, 239, 240, 241, 242, 104, 243, 244, 245, 246, 153, 154, 155, 156, 247, 248, 249, 250, 183, 184, 185, 186, 187, 188, 189, 190, 191, 165, 166, 167, 168, 169, 170, 171, 172, 192, 193, 194, 195, 196, 197, 198, 3, 199, 200, 201, 202, 27, 28, 29, 30, 31, 32, 33, 89, 90, 91, 92, 93, 251, 252, 253, 254, 255, 256, 257, 258, 259, 308, 309, 310, 311, 312, 313, 314, 315, 266, 267, 268, 269, 270, 271, 272, 273, 274, 275, 276, 277, 278, 279, 280, 281, 282, 283, 284, 285, 286, 260, 261, 262, 263, 264, 265, 291, 292] (by decide +kernel) (by decide +kernel)
set_option maxRecDepth 20000 in
theorem gX6_read_X6_pactLine : GoodIn wsX6_read (wsV RX6 73 RX6 yX6_pactLine wsX6_pactLine) := goodIn_app (goodIn_of _ (by decide +kernel)) ggX6_read_X6_pactLine
set_option maxRecDepth 20000 in
theorem ggX6_read_X6_take : GoodIn wsX6_read wsX6_take := goodIn_r _ [48, 8, 21, 22, 23, 24, 25, 6, 26, 251, 252, 253, 254, 255, 256, 257, 258, 259, 260, 261, 262, 263, 264, 265] (by decide +kernel) (by decide +kernel)
set_option maxRecDepth 20000 in
theorem gX6_read_X6_take : GoodIn wsX6_read (wsV RX6 79 RX6 yX6_take wsX6_take) := goodIn_app (goodIn_of _ (by decide +kernel)) ggX6_read_X6_take
set_option maxRecDepth 20000 in
theorem ggX6_groundLine_X6_take : GoodIn wsX6_groundLine wsX6_take := goodIn_r _ [13, 14, 15, 16, 17, 12, 18, 19, 20, 76, 77, 78, 79, 80, 81, 82, 83, 84, 89, 90, 91, 92, 93, 94] (by decide +kernel) (by decide +kernel)
set_option maxRecDepth 20000 in
theorem gX6_groundLine_X6_take : GoodIn wsX6_groundLine (wsV RX6 79 RX6 yX6_take wsX6_take) := goodIn_app (goodIn_of _ (by decide +kernel)) ggX6_groundLine_X6_take
set_option maxRecDepth 20000 in
theorem ggX6_groundLine_X6_takeNew : GoodIn wsX6_groundLine wsX6_takeNew := goodIn_r _ [24, 25, 19, 26, 14, 15, 16, 17, 12, 18, 20, 27, 28, 29, 30, 31, 32, 33, 34, 35, 36, 37, 38, 39, 40, 41, 42, 43, 44, 9, 10, 11, 13, 76, 77, 78, 79, 80, 81, 82, 83, 84, 89, 90, 91, 92, 93, 94, 95, 96] (by decide +kernel) (by decide +kernel)
set_option maxRecDepth 20000 in
theorem gX6_groundLine_X6_takeNew : GoodIn wsX6_groundLine (wsV RX6 97 RX6 yX6_takeNew wsX6_takeNew) := goodIn_app (goodIn_of _ (by decide +kernel)) ggX6_groundLine_X6_takeNew
set_option maxRecDepth 20000 in
theorem ggX6_groundLine_X7_nextGround : GoodIn wsX6_groundLine wsX7_nextGround := goodIn_r _ [49, 50, 51, 52, 53, 54, 55, 56, 57, 58, 59, 60, 61, 62, 63, 64, 65, 97, 98, 99, 100, 101, 102, 103, 104, 105, 106, 107, 108, 109, 110, 111, 112, 113, 85, 86, 87, 88] (by decide +kernel) (by decide +kernel)
set_option maxRecDepth 20000 in
theorem gX6_groundLine_X7_nextGround : GoodIn wsX6_groundLine (wsV RX6 101 RX7 yX7_nextGround wsX7_nextGround) := goodIn_app (goodIn_of _ (by decide +kernel)) ggX6_groundLine_X7_nextGround
set_option maxRecDepth 20000 in
theorem ggX6_groundLine_X6_takeNumber : GoodIn wsX6_groundLine wsX6_takeNumber := goodIn_r _ [69, 70, 19, 26, 14, 5, 15, 16, 17, 12, 18, 20, 34, 35, 36, 37, 38, 39, 40, 9, 10, 11, 13, 76, 77, 78, 79, 80, 81, 82, 83, 84, 89, 90, 91, 92, 93, 94] (by decide +kernel) (by decide +kernel)
set_option maxRecDepth 20000 in
theorem gX6_groundLine_X6_takeNumber : GoodIn wsX6_groundLine (wsV RX6 108 RX6 yX6_takeNumber wsX6_takeNumber) := goodIn_app (goodIn_of _ (by decide +kernel)) ggX6_groundLine_X6_takeNumber
set_option maxRecDepth 20000 in
theorem ggX6_groundLine_X6_takeFish : GoodIn wsX6_groundLine wsX6_takeFish := goodIn_r _ [74, 70, 75, 5, 15, 16, 17, 12, 18, 19, 20, 14, 34, 35, 36, 37, 38, 39, 40, 66, 67, 68, 69, 26, 9, 10, 11, 13, 85, 86, 87, 88, 76, 77, 78, 79, 80, 81, 82, 83, 84, 89, 90, 91, 92, 93, 94] (by decide +kernel) (by decide +kernel)
set_option maxRecDepth 20000 in
theorem gX6_groundLine_X6_takeFish : GoodIn wsX6_groundLine (wsV RX6 123 RX6 yX6_takeFish wsX6_takeFish) := goodIn_app (goodIn_of _ (by decide +kernel)) ggX6_groundLine_X6_takeFish
set_option maxRecDepth 20000 in
theorem ggX6_takeFish_X6_sign : GoodIn wsX6_takeFish wsX6_sign := goodIn_r _ [8, 9, 10, 11, 32, 33, 34, 35, 36, 37, 38, 39, 40, 41, 42, 43, 44, 45, 46] (by decide +kernel) (by decide +kernel)
set_option maxRecDepth 20000 in
theorem gX6_takeFish_X6_sign : GoodIn wsX6_takeFish (wsV RX6 43 RX6 yX6_sign wsX6_sign) := goodIn_app (goodIn_of _ (by decide +kernel)) ggX6_takeFish_X6_sign
set_option maxRecDepth 20000 in
theorem ggX6_takeFish_X6_noteError : GoodIn wsX6_takeFish wsX6_noteError := goodIn_r _ [15, 16, 9, 17, 11, 18, 32, 33, 34, 35, 36, 37, 38, 39, 40, 41, 42, 43, 44, 45, 46] (by decide +kernel) (by decide +kernel)
set_option maxRecDepth 20000 in
theorem gX6_takeFish_X6_noteError : GoodIn wsX6_takeFish (wsV RX6 133 RX6 yX6_noteError wsX6_noteError) := goodIn_app (goodIn_of _ (by decide +kernel)) ggX6_takeFish_X6_noteError
set_option maxRecDepth 20000 in
theorem ggX6_takeFish_X6_takeNumber : GoodIn wsX6_takeFish wsX6_takeNumber := goodIn_r _ [22, 1, 9, 23, 11, 3, 4, 5, 6, 7, 8, 10, 12, 13, 14, 15, 16, 17, 18, 24, 25, 26, 27, 32, 33, 34, 35, 36, 37, 38, 39, 40, 41, 42, 43, 44, 45, 46] (by decide +kernel) (by decide +kernel)
set_option maxRecDepth 20000 in
theorem gX6_takeFish_X6_takeNumber : GoodIn wsX6_takeFish (wsV RX6 108 RX6 yX6_takeNumber wsX6_takeNumber) := goodIn_app (goodIn_of _ (by decide +kernel)) ggX6_takeFish_X6_takeNumber
set_option maxRecDepth 20000 in
theorem ggX6_fisherLine_X6_take : GoodIn wsX6_fisherLine wsX6_take := goodIn_r _ [16, 17, 18, 19, 20, 15, 21, 22, 23, 81, 82, 83, 84, 85, 86, 87, 88, 89, 101, 102, 103, 104, 105, 106] (by decide +kernel) (by decide +kernel)
set_option maxRecDepth 20000 in
theorem gX6_fisherLine_X6_take : GoodIn wsX6_fisherLine (wsV RX6 79 RX6 yX6_take wsX6_take) := goodIn_app (goodIn_of _ (by decide +kernel)) ggX6_fisherLine_X6_take
set_option maxRecDepth 20000 in
theorem ggX6_fisherLine_X6_takeNew : GoodIn wsX6_fisherLine wsX6_takeNew := goodIn_r _ [27, 28, 22, 29, 17, 18, 19, 20, 15, 21, 23, 30, 31, 32, 33, 34, 35, 36, 37, 38, 39, 40, 41, 42, 43, 44, 45, 46, 47, 12, 13, 14, 16, 81, 82, 83, 84, 85, 86, 87, 88, 89, 101, 102, 103, 104, 105, 106, 107, 108] (by decide +kernel) (by decide +kernel)
set_option maxRecDepth 20000 in
theorem gX6_fisherLine_X6_takeNew : GoodIn wsX6_fisherLine (wsV RX6 97 RX6 yX6_takeNew wsX6_takeNew) := goodIn_app (goodIn_of _ (by decide +kernel)) ggX6_fisherLine_X6_takeNew
set_option maxRecDepth 20000 in
theorem ggX6_fisherLine_X7_nextFisher : GoodIn wsX6_fisherLine wsX7_nextFisher := goodIn_r _ [52, 53, 54, 55, 56, 57, 58, 59, 60, 61, 62, 63, 64, 65, 66, 67, 68, 69, 70, 71, 72, 73, 74, 75, 109, 110, 111, 112, 113, 114, 115, 116, 117, 118, 119, 120, 121, 122, 123, 124, 125, 90, 91, 92, 93, 94, 95, 96, 97, 98, 99, 100] (by decide +kernel) (by decide +kernel)
set_option maxRecDepth 20000 in
theorem gX6_fisherLine_X7_nextFisher : GoodIn wsX6_fisherLine (wsV RX6 142 RX7 yX7_nextFisher wsX7_nextFisher) := goodIn_app (goodIn_of _ (by decide +kernel)) ggX6_fisherLine_X7_nextFisher
set_option maxRecDepth 20000 in
theorem ggX6_fisherLine_X6_takeNumber : GoodIn wsX6_fisherLine wsX6_takeNumber := goodIn_r _ [79, 80, 22, 29, 17, 5, 18, 19, 20, 15, 21, 23, 37, 38, 39, 40, 41, 42, 43, 12, 13, 14, 16, 81, 82, 83, 84, 85, 86, 87, 88, 89, 101, 102, 103, 104, 105, 106] (by decide +kernel) (by decide +kernel)
set_option maxRecDepth 20000 in
theorem gX6_fisherLine_X6_takeNumber : GoodIn wsX6_fisherLine (wsV RX6 108 RX6 yX6_takeNumber wsX6_takeNumber) := goodIn_app (goodIn_of _ (by decide +kernel)) ggX6_fisherLine_X6_takeNumber
set_option maxRecDepth 20000 in
theorem ggX6_goLine_X6_noteError : GoodIn wsX6_goLine wsX6_noteError := goodIn_r _ [19, 20, 21, 22, 23, 24, 122, 123, 124, 125, 126, 127, 128, 129, 130, 156, 157, 158, 159, 160, 161] (by decide +kernel) (by decide +kernel)
set_option maxRecDepth 20000 in
theorem gX6_goLine_X6_noteError : GoodIn wsX6_goLine (wsV RX6 133 RX6 yX6_noteError wsX6_noteError) := goodIn_app (goodIn_of _ (by decide +kernel)) ggX6_goLine_X6_noteError
set_option maxRecDepth 20000 in
theorem ggX6_goLine_X7_nextGo : GoodIn wsX6_goLine wsX7_nextGo := goodIn_r _ [29, 30, 31, 32, 33, 34, 35, 131, 132, 133, 134, 135, 136, 137, 138, 139, 140, 141, 142, 143, 144, 145, 146, 147] (by decide +kernel) (by decide +kernel)
set_option maxRecDepth 20000 in
theorem gX6_goLine_X7_nextGo : GoodIn wsX6_goLine (wsV RX6 172 RX7 yX7_nextGo wsX7_nextGo) := goodIn_app (goodIn_of _ (by decide +kernel)) ggX6_goLine_X7_nextGo
set_option maxRecDepth 20000 in
theorem ggX6_goLine_X6_take : GoodIn wsX6_goLine wsX6_take := goodIn_r _ [39, 23, 40, 41, 42, 18, 43, 21, 44, 122, 123, 124, 125, 126, 127, 128, 129, 130, 156, 157, 158, 159, 160, 161] (by decide +kernel) (by decide +kernel)
set_option maxRecDepth 20000 in
theorem gX6_goLine_X6_take : GoodIn wsX6_goLine (wsV RX6 79 RX6 yX6_take wsX6_take) := goodIn_app (goodIn_of _ (by decide +kernel)) ggX6_goLine_X6_take
set_option maxRecDepth 20000 in
theorem ggX6_goLine_X6_takeKnown : GoodIn wsX6_goLine wsX6_takeKnown := goodIn_r _ [48, 49, 21, 50, 23, 5, 40, 41, 42, 18, 43, 44, 51, 52, 53, 54, 55, 56, 57, 15, 16, 17, 19, 20, 22, 24, 36, 37, 38, 39, 122, 123, 124, 125, 126, 127, 128, 129, 130, 156, 157, 158, 159, 160, 161, 162, 163] (by decide +kernel) (by decide +kernel)
set_option maxRecDepth 20000 in
theorem gX6_goLine_X6_takeKnown : GoodIn wsX6_goLine (wsV RX6 179 RX6 yX6_takeKnown wsX6_takeKnown) := goodIn_app (goodIn_of _ (by decide +kernel)) ggX6_goLine_X6_takeKnown
set_option maxRecDepth 20000 in
theorem ggX6_goLine_X6_test : GoodIn wsX6_goLine wsX6_test := goodIn_r _ [61, 62, 1, 10, 63, 64, 65, 18, 36, 37, 38, 39, 23, 40, 41, 42, 43, 21, 44, 66, 67, 68, 69, 70, 71, 72, 73, 74, 75, 76, 77, 78, 79, 80, 81, 82, 83, 84, 4, 5, 85, 86, 87, 88, 89, 90, 91, 58, 59, 60, 45, 46, 47, 48, 49, 50, 51, 52, 53, 54, 55, 56, 57, 15, 16, 17, 19, 20, 22, 24, 92, 93, 94, 95, 96, 97, 98, 99, 100, 101, 102, 103, 104, 105, 106, 107, 108, 8, 109, 110, 111, 112, 113, 114, 115, 116, 117, 118, 119, 120, 121, 122, 123, 124, 125, 126, 127, 128, 129, 130, 131, 132, 133, 134, 135, 136, 137, 138, 139, 140, 141, 142, 143, 144, 145, 146, 147, 156, 157, 158, 159, 160, 161, 152, 153, 154, 155, 162, 163] (by decide +kernel) (by decide +kernel)
set_option maxRecDepth 20000 in
theorem gX6_goLine_X6_test : GoodIn wsX6_goLine (wsV RX6 208 RX6 yX6_test wsX6_test) := goodIn_app (goodIn_of _ (by decide +kernel)) ggX6_goLine_X6_test
set_option maxRecDepth 20000 in
theorem ggX6_pactLine_X6_take : GoodIn wsX6_pactLine wsX6_take := goodIn_r _ [20, 21, 22, 23, 24, 19, 25, 26, 27, 135, 136, 137, 138, 139, 140, 141, 142, 143, 173, 174, 175, 176, 177, 178] (by decide +kernel) (by decide +kernel)
set_option maxRecDepth 20000 in
theorem gX6_pactLine_X6_take : GoodIn wsX6_pactLine (wsV RX6 79 RX6 yX6_take wsX6_take) := goodIn_app (goodIn_of _ (by decide +kernel)) ggX6_pactLine_X6_take
set_option maxRecDepth 20000 in
theorem ggX6_pactLine_X6_takeNew : GoodIn wsX6_pactLine wsX6_takeNew := goodIn_r _ [31, 32, 26, 33, 21, 22, 23, 24, 19, 25, 27, 34, 35, 36, 37, 38, 39, 40, 41, 42, 43, 44, 45, 46, 47, 48, 49, 50, 51, 16, 17, 18, 20, 135, 136, 137, 138, 139, 140, 141, 142, 143, 173, 174, 175, 176, 177, 178, 179, 180] (by decide +kernel) (by decide +kernel)
set_option maxRecDepth 20000 in
theorem gX6_pactLine_X6_takeNew : GoodIn wsX6_pactLine (wsV RX6 97 RX6 yX6_takeNew wsX6_takeNew) := goodIn_app (goodIn_of _ (by decide +kernel)) ggX6_pactLine_X6_takeNew
set_option maxRecDepth 20000 in
theorem ggX6_pactLine_X7_nextPact : GoodIn wsX6_pactLine wsX7_nextPact := goodIn_r _ [56, 57, 58, 59, 60, 61, 62, 63, 64, 65, 66, 67, 68, 69, 70, 71, 72, 73, 74, 75, 76, 152, 153, 154, 155, 156, 157, 158, 159, 160, 161, 162, 163, 164, 165, 166, 167, 168, 144, 145, 146, 147, 148, 149, 150, 151] (by decide +kernel) (by decide +kernel)
set_option maxRecDepth 20000 in
theorem gX6_pactLine_X7_nextPact : GoodIn wsX6_pactLine (wsV RX6 218 RX7 yX7_nextPact wsX7_nextPact) := goodIn_app (goodIn_of _ (by decide +kernel)) ggX6_pactLine_X7_nextPact
set_option maxRecDepth 20000 in
theorem ggX6_pactLine_X6_takeMember : GoodIn wsX6_pactLine wsX6_takeMember := goodIn_r _ [80, 32, 81, 26, 33, 21, 9, 22, 23, 24, 19, 25, 27, 34, 35, 36, 37, 38, 39, 40, 82, 83, 84, 67, 85, 72, 76, 41, 42, 43, 44, 45, 46, 47, 86, 87, 88, 89, 16, 17, 18, 20, 90, 91, 92, 93, 135, 136, 137, 138, 139, 140, 141, 142, 143, 173, 174, 175, 176, 177, 178, 179, 180, 144, 145, 146, 147, 148, 149, 150, 151] (by decide +kernel) (by decide +kernel)
set_option maxRecDepth 20000 in
theorem gX6_pactLine_X6_takeMember : GoodIn wsX6_pactLine (wsV RX6 225 RX6 yX6_takeMember wsX6_takeMember) := goodIn_app (goodIn_of _ (by decide +kernel)) ggX6_pactLine_X6_takeMember
set_option maxRecDepth 20000 in
theorem ggX6_pactLine_X6_takeKnown : GoodIn wsX6_pactLine wsX6_takeKnown := goodIn_r _ [89, 32, 26, 33, 21, 9, 22, 23, 24, 19, 25, 27, 34, 35, 36, 37, 38, 39, 40, 41, 42, 43, 44, 45, 46, 47, 16, 17, 18, 20, 135, 136, 137, 138, 139, 140, 141, 142, 143, 173, 174, 175, 176, 177, 178, 179, 180] (by decide +kernel) (by decide +kernel)
set_option maxRecDepth 20000 in
theorem gX6_pactLine_X6_takeKnown : GoodIn wsX6_pactLine (wsV RX6 179 RX6 yX6_takeKnown wsX6_takeKnown) := goodIn_app (goodIn_of _ (by decide +kernel)) ggX6_pactLine_X6_takeKnown
set_option maxRecDepth 20000 in
theorem ggX6_pactLine_X6_sum : GoodIn wsX6_pactLine wsX6_sum := goodIn_r _ [97, 98, 99, 3, 11, 100, 101, 102, 19, 22, 23, 24, 25, 26, 27, 21, 16, 17, 18, 20, 103, 104, 105, 106, 107, 108, 109, 110, 111, 112, 113, 114, 115, 116, 117, 118, 119, 81, 8, 120, 121, 122, 5, 9, 123, 124, 125, 126, 127, 128, 129, 130, 131, 132, 133, 134, 33, 41, 42, 43, 44, 45, 46, 47, 86, 87, 88, 89, 32, 34, 35, 36, 37, 38, 39, 40, 94, 95, 96, 135, 136, 137, 138, 139, 140, 141, 142, 143, 152, 153, 154, 155, 156, 157, 158, 159, 160, 161, 162, 163, 164, 165, 166, 167, 168, 173, 174, 175, 176, 177, 178, 169, 170, 171, 172, 179, 180] (by decide +kernel) (by decide +kernel)
set_option maxRecDepth 20000 in
theorem gX6_pactLine_X6_sum : GoodIn wsX6_pactLine (wsV RX6 244 RX6 yX6_sum wsX6_sum) := goodIn_app (goodIn_of _ (by decide +kernel)) ggX6_pactLine_X6_sum
set_option maxRecDepth 20000 in
theorem ggX6_takeMember_X6_sign : GoodIn wsX6_takeMember wsX6_sign := goodIn_r _ [11, 3, 12, 5, 46, 47, 48, 49, 50, 51, 52, 53, 54, 55, 56, 57, 58, 59, 60] (by decide +kernel) (by decide +kernel)
set_option maxRecDepth 20000 in
theorem gX6_takeMember_X6_sign : GoodIn wsX6_takeMember (wsV RX6 43 RX6 yX6_sign wsX6_sign) := goodIn_app (goodIn_of _ (by decide +kernel)) ggX6_takeMember_X6_sign
set_option maxRecDepth 20000 in
theorem ggX6_takeMember_X4_find : GoodIn wsX6_takeMember wsX4_find := goodIn_r _ [17, 18, 19, 61, 62] (by decide +kernel) (by decide +kernel)
set_option maxRecDepth 20000 in
theorem gX6_takeMember_X4_find : GoodIn wsX6_takeMember (wsV RX6 257 RX4 yX4_find wsX4_find) := goodIn_app (goodIn_of _ (by decide +kernel)) ggX6_takeMember_X4_find
set_option maxRecDepth 20000 in
theorem ggX6_takeMember_X5_has : GoodIn wsX6_takeMember wsX5_has := goodIn_r _ [24, 25, 26, 63, 64, 65, 66, 67, 68, 69, 70] (by decide +kernel) (by decide +kernel)
set_option maxRecDepth 20000 in
theorem gX6_takeMember_X5_has : GoodIn wsX6_takeMember (wsV RX6 261 RX5 yX5_has wsX5_has) := goodIn_app (goodIn_of _ (by decide +kernel)) ggX6_takeMember_X5_has
set_option maxRecDepth 20000 in
theorem ggX6_takeMember_X6_noteError : GoodIn wsX6_takeMember wsX6_noteError := goodIn_r _ [30, 31, 3, 32, 5, 33, 46, 47, 48, 49, 50, 51, 52, 53, 54, 55, 56, 57, 58, 59, 60] (by decide +kernel) (by decide +kernel)
set_option maxRecDepth 20000 in
theorem gX6_takeMember_X6_noteError : GoodIn wsX6_takeMember (wsV RX6 133 RX6 yX6_noteError wsX6_noteError) := goodIn_app (goodIn_of _ (by decide +kernel)) ggX6_takeMember_X6_noteError
set_option maxRecDepth 20000 in
theorem ggX6_takeMember_X6_takeKnown : GoodIn wsX6_takeMember wsX6_takeKnown := goodIn_r _ [37, 1, 3, 4, 5, 6, 7, 8, 9, 10, 11, 12, 13, 14, 15, 16, 17, 18, 19, 27, 28, 29, 30, 31, 32, 33, 38, 39, 40, 41, 46, 47, 48, 49, 50, 51, 52, 53, 54, 55, 56, 57, 58, 59, 60, 61, 62] (by decide +kernel) (by decide +kernel)
set_option maxRecDepth 20000 in
theorem gX6_takeMember_X6_takeKnown : GoodIn wsX6_takeMember (wsV RX6 179 RX6 yX6_takeKnown wsX6_takeKnown) := goodIn_app (goodIn_of _ (by decide +kernel)) ggX6_takeMember_X6_takeKnown
set_option maxRecDepth 20000 in
theorem ggX6_takeMember_X5_add : GoodIn wsX6_takeMember wsX5_add := goodIn_r _ [45, 25, 26, 63, 64, 65, 66, 67, 68, 69, 70] (by decide +kernel) (by decide +kernel)
set_option maxRecDepth 20000 in
theorem gX6_takeMember_X5_add : GoodIn wsX6_takeMember (wsV RX6 264 RX5 yX5_add wsX5_add) := goodIn_app (goodIn_of _ (by decide +kernel)) ggX6_takeMember_X5_add
set_option maxRecDepth 20000 in
theorem ggX6_test_X6_both : GoodIn wsX6_test wsX6_both := goodIn_r _ [27, 28, 2, 3, 29, 30, 31, 7, 8, 9, 10, 11, 12, 13, 14, 15, 16, 17, 18, 19, 20, 21, 22, 23, 24, 25, 26, 32, 33, 34, 35, 36, 37, 38, 39, 40, 41, 42, 43, 44, 45, 46, 47, 48, 49, 50, 51, 52, 53, 54, 55, 56, 57, 58, 59, 60, 61, 62, 63, 64, 65, 66, 67, 68, 69, 70, 71, 72, 73, 74, 75, 76, 77, 78, 79, 80, 81, 82, 83, 84, 85, 86, 87, 88, 89, 90, 91, 92, 93, 94, 95, 96, 97, 98, 99, 100, 0, 1, 4, 5, 6, 101, 102, 103, 104, 105, 106, 107, 108, 109, 110, 111, 112, 113, 114, 115, 116, 117, 118, 119, 120, 121, 122, 123, 124, 125, 126, 127, 128, 129, 130, 131, 132, 133, 134, 135, 136, 137, 138] (by decide +kernel) (by decide +kernel)
set_option maxRecDepth 20000 in
theorem gX6_test_X6_both : GoodIn wsX6_test (wsV RX6 267 RX6 yX6_both wsX6_both) := goodIn_app (goodIn_of _ (by decide +kernel)) ggX6_test_X6_both
set_option maxRecDepth 20000 in
theorem ggX6_test_X6_take : GoodIn wsX6_test wsX6_take := goodIn_r _ [11, 12, 13, 14, 15, 7, 16, 17, 18, 101, 102, 103, 104, 105, 106, 107, 108, 109, 127, 128, 129, 130, 131, 132] (by decide +kernel) (by decide +kernel)
set_option maxRecDepth 20000 in
theorem gX6_test_X6_take : GoodIn wsX6_test (wsV RX6 79 RX6 yX6_take wsX6_take) := goodIn_app (goodIn_of _ (by decide +kernel)) ggX6_test_X6_take
set_option maxRecDepth 20000 in
theorem ggX6_test_X9_add : GoodIn wsX6_test wsX9_add := goodIn_r _ [23, 24, 25, 26, 133, 134, 135, 136] (by decide +kernel) (by decide +kernel)
set_option maxRecDepth 20000 in
theorem gX6_test_X9_add : GoodIn wsX6_test (wsV RX6 273 RX9 yX9_add wsX9_add) := goodIn_app (goodIn_of _ (by decide +kernel)) ggX6_test_X9_add
set_option maxRecDepth 20000 in
theorem ggX6_both_X6_single : GoodIn wsX6_both wsX6_single := goodIn_r _ [27, 28, 29, 2, 3, 30, 31, 32, 33, 34, 13, 14, 15, 7, 16, 17, 18, 12, 35, 36, 37, 38, 39, 40, 41, 8, 9, 10, 11, 4, 5, 6, 19, 20, 21, 22, 23, 24, 25, 26, 42, 43, 44, 45, 46, 47, 48, 49, 50, 51, 52, 53, 54, 55, 56, 57, 58, 59, 60, 61, 62, 63, 64, 65, 66, 67, 68, 69, 70, 71, 72, 73, 74, 75, 76, 77, 78, 79, 80, 81, 82, 83, 84, 85, 86, 87, 88, 89, 90, 91, 92, 93, 94, 95, 0, 1, 96, 97, 98, 99, 100, 101, 102, 103, 104, 105, 106, 107, 108, 109, 110, 111, 112, 113, 114, 115, 116, 117, 118, 119, 120, 121, 122, 123, 124, 125, 126, 127, 128, 129, 130, 131, 132, 133, 134, 135, 136, 137, 138] (by decide +kernel) (by decide +kernel)
set_option maxRecDepth 20000 in
theorem gX6_both_X6_single : GoodIn wsX6_both (wsV RX6 276 RX6 yX6_single wsX6_single) := goodIn_app (goodIn_of _ (by decide +kernel)) ggX6_both_X6_single
set_option maxRecDepth 20000 in
theorem ggX6_both_X6_take : GoodIn wsX6_both wsX6_take := goodIn_r _ [11, 12, 13, 14, 15, 7, 16, 17, 18, 101, 102, 103, 104, 105, 106, 107, 108, 109, 127, 128, 129, 130, 131, 132] (by decide +kernel) (by decide +kernel)
set_option maxRecDepth 20000 in
theorem gX6_both_X6_take : GoodIn wsX6_both (wsV RX6 79 RX6 yX6_take wsX6_take) := goodIn_app (goodIn_of _ (by decide +kernel)) ggX6_both_X6_take
set_option maxRecDepth 20000 in
theorem ggX6_both_X9_add : GoodIn wsX6_both wsX9_add := goodIn_r _ [23, 24, 25, 26, 133, 134, 135, 136] (by decide +kernel) (by decide +kernel)
set_option maxRecDepth 20000 in
theorem gX6_both_X9_add : GoodIn wsX6_both (wsV RX6 273 RX9 yX9_add wsX9_add) := goodIn_app (goodIn_of _ (by decide +kernel)) ggX6_both_X9_add
set_option maxRecDepth 20000 in
theorem ggX6_single_X6_sign : GoodIn wsX6_single wsX6_sign := goodIn_r _ [14, 15, 16, 17, 101, 102, 103, 104, 105, 106, 107, 108, 109, 127, 128, 129, 130, 131, 132] (by decide +kernel) (by decide +kernel)
set_option maxRecDepth 20000 in
theorem gX6_single_X6_sign : GoodIn wsX6_single (wsV RX6 43 RX6 yX6_sign wsX6_sign) := goodIn_app (goodIn_of _ (by decide +kernel)) ggX6_single_X6_sign
set_option maxRecDepth 20000 in
theorem ggX6_single_Jx29ce0_ordinal_8abf5 : GoodIn wsX6_single wsJx29ce0_ordinal_8abf5 := goodIn_r _ [23, 24] (by decide +kernel) (by decide +kernel)
set_option maxRecDepth 20000 in
theorem gX6_single_Jx29ce0_ordinal_8abf5_u59X8 : GoodIn wsX6_single (va_wsU RX6 59 RX8 "java/lang/Enum" ⟨"TideLots$Sign", "ordinal", "()I"⟩ yJx29ce0_ordinal_8abf5 wsJx29ce0_ordinal_8abf5) := goodIn_app (goodIn_of _ (by decide +kernel)) ggX6_single_Jx29ce0_ordinal_8abf5
set_option maxRecDepth 20000 in
theorem ggX6_single_X6_take : GoodIn wsX6_single wsX6_take := goodIn_r _ [28, 17, 10, 11, 12, 13, 14, 15, 16, 101, 102, 103, 104, 105, 106, 107, 108, 109, 127, 128, 129, 130, 131, 132] (by decide +kernel) (by decide +kernel)
set_option maxRecDepth 20000 in
theorem gX6_single_X6_take : GoodIn wsX6_single (wsV RX6 79 RX6 yX6_take wsX6_take) := goodIn_app (goodIn_of _ (by decide +kernel)) ggX6_single_X6_take
set_option maxRecDepth 20000 in
theorem ggX6_single_X6_single : GoodIn wsX6_single wsX6_single := goodIn_r _ [0, 1, 2, 3, 4, 5, 6, 7, 8, 9, 10, 11, 12, 13, 14, 15, 16, 17, 18, 19, 20, 21, 22, 23, 24, 25, 26, 27, 28, 29, 30, 31, 32, 33, 34, 35, 36, 37, 38, 39, 40, 41, 42, 43, 44, 45, 46, 47, 48, 49, 50, 51, 52, 53, 54, 55, 56, 57, 58, 59, 60, 61, 62, 63, 64, 65, 66, 67, 68, 69, 70, 71, 72, 73, 74, 75, 76, 77, 78, 79, 80, 81, 82, 83, 84, 85, 86, 87, 88, 89, 90, 91, 92, 93, 94, 95, 96, 97, 98, 99, 100, 101, 102, 103, 104, 105, 106, 107, 108, 109, 110, 111, 112, 113, 114, 115, 116, 117, 118, 119, 120, 121, 122, 123, 124, 125, 126, 127, 128, 129, 130, 131, 132, 133, 134, 135, 136, 137, 138] (by decide +kernel) (by decide +kernel)
set_option maxRecDepth 20000 in
theorem gX6_single_X6_single : GoodIn wsX6_single (wsV RX6 276 RX6 yX6_single wsX6_single) := goodIn_app (goodIn_of _ (by decide +kernel)) ggX6_single_X6_single
set_option maxRecDepth 20000 in
theorem ggX6_single_X9_add : GoodIn wsX6_single wsX9_add := goodIn_r _ [36, 37, 38, 39, 133, 134, 135, 136] (by decide +kernel) (by decide +kernel)
set_option maxRecDepth 20000 in
theorem gX6_single_X9_add : GoodIn wsX6_single (wsV RX6 273 RX9 yX9_add wsX9_add) := goodIn_app (goodIn_of _ (by decide +kernel)) ggX6_single_X9_add
set_option maxRecDepth 20000 in
theorem ggX6_single_X6_test : GoodIn wsX6_single wsX6_test := goodIn_r _ [96, 97, 3, 4, 98, 99, 100, 13, 25, 26, 27, 28, 17, 10, 11, 12, 14, 15, 16, 32, 33, 34, 35, 36, 37, 38, 39, 94, 95, 29, 30, 31, 0, 1, 2, 5, 6, 7, 8, 9, 18, 19, 20, 21, 22, 23, 24, 40, 41, 42, 43, 44, 45, 46, 47, 48, 49, 50, 51, 52, 53, 54, 55, 56, 57, 58, 59, 60, 61, 62, 63, 64, 65, 66, 67, 68, 69, 70, 71, 72, 73, 74, 75, 76, 77, 78, 79, 80, 81, 82, 83, 84, 85, 86, 87, 88, 89, 90, 91, 92, 93, 101, 102, 103, 104, 105, 106, 107, 108, 109, 110, 111, 112, 113, 114, 115, 116, 117, 118, 119, 120, 121, 122, 123, 124, 125, 126, 127, 128, 129, 130, 131, 132, 133, 134, 135, 136, 137, 138] (by decide +kernel) (by decide +kernel)
set_option maxRecDepth 20000 in
theorem gX6_single_X6_test : GoodIn wsX6_single (wsV RX6 208 RX6 yX6_test wsX6_test) := goodIn_app (goodIn_of _ (by decide +kernel)) ggX6_single_X6_test
set_option maxRecDepth 20000 in
theorem ggX6_single_X6_takeKnown : GoodIn wsX6_single wsX6_takeKnown := goodIn_r _ [46, 47, 15, 48, 17, 9, 10, 11, 12, 13, 14, 16, 49, 50, 51, 52, 53, 54, 55, 56, 57, 58, 59, 60, 61, 62, 25, 26, 27, 28, 101, 102, 103, 104, 105, 106, 107, 108, 109, 127, 128, 129, 130, 131, 132, 137, 138] (by decide +kernel) (by decide +kernel)
set_option maxRecDepth 20000 in
theorem gX6_single_X6_takeKnown : GoodIn wsX6_single (wsV RX6 179 RX6 yX6_takeKnown wsX6_takeKnown) := goodIn_app (goodIn_of _ (by decide +kernel)) ggX6_single_X6_takeKnown
set_option maxRecDepth 20000 in
theorem ggX6_single_X6_sum : GoodIn wsX6_single wsX6_sum := goodIn_r _ [66, 67, 68, 3, 4, 69, 70, 71, 13, 10, 11, 12, 14, 15, 16, 17, 25, 26, 27, 28, 32, 33, 34, 35, 36, 37, 38, 39, 72, 73, 74, 75, 76, 77, 78, 1, 79, 8, 80, 81, 82, 83, 84, 9, 18, 19, 20, 21, 22, 23, 24, 85, 86, 87, 88, 89, 48, 56, 57, 58, 59, 60, 61, 62, 43, 44, 45, 46, 47, 49, 50, 51, 52, 53, 54, 55, 63, 64, 65, 101, 102, 103, 104, 105, 106, 107, 108, 109, 110, 111, 112, 113, 114, 115, 116, 117, 118, 119, 120, 121, 122, 123, 124, 125, 126, 127, 128, 129, 130, 131, 132, 133, 134, 135, 136, 137, 138] (by decide +kernel) (by decide +kernel)
set_option maxRecDepth 20000 in
theorem gX6_single_X6_sum : GoodIn wsX6_single (wsV RX6 244 RX6 yX6_sum wsX6_sum) := goodIn_app (goodIn_of _ (by decide +kernel)) ggX6_single_X6_sum
set_option maxRecDepth 20000 in
theorem ggX6_single_X6_comparedSum : GoodIn wsX6_single wsX6_comparedSum := goodIn_r _ [93, 1, 3, 4, 10, 11, 12, 13, 14, 15, 16, 17, 18, 19, 20, 21, 22, 23, 24, 25, 26, 27, 28, 63, 64, 65, 66, 67, 68, 69, 70, 71, 32, 33, 34, 35, 36, 37, 38, 39, 72, 73, 74, 75, 76, 77, 78, 79, 8, 80, 81, 82, 83, 84, 9, 85, 86, 87, 88, 89, 48, 56, 57, 58, 59, 60, 61, 62, 43, 44, 45, 46, 47, 49, 50, 51, 52, 53, 54, 55, 101, 102, 103, 104, 105, 106, 107, 108, 109, 110, 111, 112, 113, 114, 115, 116, 117, 118, 119, 120, 121, 122, 123, 124, 125, 126, 127, 128, 129, 130, 131, 132, 133, 134, 135, 136, 137, 138] (by decide +kernel) (by decide +kernel)
set_option maxRecDepth 20000 in
theorem gX6_single_X6_comparedSum : GoodIn wsX6_single (wsV RX6 294 RX6 yX6_comparedSum wsX6_comparedSum) := goodIn_app (goodIn_of _ (by decide +kernel)) ggX6_single_X6_comparedSum
set_option maxRecDepth 20000 in
theorem ggX6_comparedSum_X6_sign : GoodIn wsX6_comparedSum wsX6_sign := goodIn_r _ [8, 9, 10, 11, 80, 81, 82, 83, 84, 85, 86, 87, 88, 106, 107, 108, 109, 110, 111] (by decide +kernel) (by decide +kernel)
set_option maxRecDepth 20000 in
theorem gX6_comparedSum_X6_sign : GoodIn wsX6_comparedSum (wsV RX6 43 RX6 yX6_sign wsX6_sign) := goodIn_app (goodIn_of _ (by decide +kernel)) ggX6_comparedSum_X6_sign
set_option maxRecDepth 20000 in
theorem ggX6_comparedSum_Jx29ce0_ordinal_8abf5 : GoodIn wsX6_comparedSum wsJx29ce0_ordinal_8abf5 := goodIn_r _ [17, 18] (by decide +kernel) (by decide +kernel)
set_option maxRecDepth 20000 in
theorem gX6_comparedSum_Jx29ce0_ordinal_8abf5_u59X8 : GoodIn wsX6_comparedSum (va_wsU RX6 59 RX8 "java/lang/Enum" ⟨"TideLots$Sign", "ordinal", "()I"⟩ yJx29ce0_ordinal_8abf5 wsJx29ce0_ordinal_8abf5) := goodIn_app (goodIn_of _ (by decide +kernel)) ggX6_comparedSum_Jx29ce0_ordinal_8abf5
set_option maxRecDepth 20000 in
theorem ggX6_comparedSum_X6_take : GoodIn wsX6_comparedSum wsX6_take := goodIn_r _ [22, 11, 4, 5, 6, 7, 8, 9, 10, 80, 81, 82, 83, 84, 85, 86, 87, 88, 106, 107, 108, 109, 110, 111] (by decide +kernel) (by decide +kernel)
set_option maxRecDepth 20000 in
theorem gX6_comparedSum_X6_take : GoodIn wsX6_comparedSum (wsV RX6 79 RX6 yX6_take wsX6_take) := goodIn_app (goodIn_of _ (by decide +kernel)) ggX6_comparedSum_X6_take
set_option maxRecDepth 20000 in
theorem ggX6_comparedSum_X6_sum : GoodIn wsX6_comparedSum wsX6_sum := goodIn_r _ [26, 27, 28, 2, 3, 29, 30, 31, 7, 4, 5, 6, 8, 9, 10, 11, 19, 20, 21, 22, 32, 33, 34, 35, 36, 37, 38, 39, 40, 41, 42, 43, 44, 45, 46, 1, 47, 48, 49, 50, 51, 52, 53, 54, 12, 13, 14, 15, 16, 17, 18, 55, 56, 57, 58, 59, 60, 61, 62, 63, 64, 65, 66, 67, 68, 69, 70, 71, 72, 73, 74, 75, 76, 77, 78, 79, 23, 24, 25, 80, 81, 82, 83, 84, 85, 86, 87, 88, 89, 90, 91, 92, 93, 94, 95, 96, 97, 98, 99, 100, 101, 102, 103, 104, 105, 106, 107, 108, 109, 110, 111, 112, 113, 114, 115, 116, 117] (by decide +kernel) (by decide +kernel)
set_option maxRecDepth 20000 in
theorem gX6_comparedSum_X6_sum : GoodIn wsX6_comparedSum (wsV RX6 244 RX6 yX6_sum wsX6_sum) := goodIn_app (goodIn_of _ (by decide +kernel)) ggX6_comparedSum_X6_sum
set_option maxRecDepth 20000 in
theorem ggX6_comparedSum_X9_add : GoodIn wsX6_comparedSum wsX9_add := goodIn_r _ [36, 37, 38, 39, 112, 113, 114, 115] (by decide +kernel) (by decide +kernel)
set_option maxRecDepth 20000 in
theorem gX6_comparedSum_X9_add : GoodIn wsX6_comparedSum (wsV RX6 273 RX9 yX9_add wsX9_add) := goodIn_app (goodIn_of _ (by decide +kernel)) ggX6_comparedSum_X9_add
set_option maxRecDepth 20000 in
theorem ggX6_sum_X6_product : GoodIn wsX6_sum wsX6_product := goodIn_r _ [28, 29, 30, 3, 4, 31, 32, 33, 8, 9, 10, 11, 12, 13, 14, 15, 16, 17, 18, 19, 20, 21, 22, 23, 24, 25, 26, 27, 0, 1, 2, 5, 6, 7, 34, 35, 36, 37, 38, 39, 40, 41, 42, 43, 44, 45, 46, 47, 48, 49, 50, 51, 52, 53, 54, 55, 56, 57, 58, 59, 60, 61, 62, 63, 64, 65, 66, 67, 68, 69, 70, 71, 72, 73, 74, 75, 76, 77, 78, 79, 80, 81, 82, 83, 84, 85, 86, 87, 88, 89, 90, 91, 92, 93, 94, 95, 96, 97, 98, 99, 100, 101, 102, 103, 104, 105, 106, 107, 108, 109, 110, 111, 112, 113, 114, 115, 116] (by decide +kernel) (by decide +kernel)
set_option maxRecDepth 20000 in
theorem gX6_sum_X6_product : GoodIn wsX6_sum (wsV RX6 297 RX6 yX6_product wsX6_product) := goodIn_app (goodIn_of _ (by decide +kernel)) ggX6_sum_X6_product
set_option maxRecDepth 20000 in
theorem ggX6_sum_X6_sign : GoodIn wsX6_sum wsX6_sign := goodIn_r _ [12, 13, 14, 15, 79, 80, 81, 82, 83, 84, 85, 86, 87, 105, 106, 107, 108, 109, 110] (by decide +kernel) (by decide +kernel)
set_option maxRecDepth 20000 in
theorem gX6_sum_X6_sign : GoodIn wsX6_sum (wsV RX6 43 RX6 yX6_sign wsX6_sign) := goodIn_app (goodIn_of _ (by decide +kernel)) ggX6_sum_X6_sign
set_option maxRecDepth 20000 in
theorem ggX6_sum_X6_take : GoodIn wsX6_sum wsX6_take := goodIn_r _ [19, 15, 9, 10, 11, 8, 12, 13, 14, 79, 80, 81, 82, 83, 84, 85, 86, 87, 105, 106, 107, 108, 109, 110] (by decide +kernel) (by decide +kernel)
set_option maxRecDepth 20000 in
theorem gX6_sum_X6_take : GoodIn wsX6_sum (wsV RX6 79 RX6 yX6_take wsX6_take) := goodIn_app (goodIn_of _ (by decide +kernel)) ggX6_sum_X6_take
set_option maxRecDepth 20000 in
theorem ggX6_sum_X9_add : GoodIn wsX6_sum wsX9_add := goodIn_r _ [24, 25, 26, 27, 111, 112, 113, 114] (by decide +kernel) (by decide +kernel)
set_option maxRecDepth 20000 in
theorem gX6_sum_X9_add : GoodIn wsX6_sum (wsV RX6 273 RX9 yX9_add wsX9_add) := goodIn_app (goodIn_of _ (by decide +kernel)) ggX6_sum_X9_add
set_option maxRecDepth 20000 in
theorem ggX6_product_X6_value : GoodIn wsX6_product wsX6_value := goodIn_r _ [34, 35, 36, 37, 38, 39, 30, 40, 41, 42, 3, 4, 43, 9, 10, 11, 8, 12, 13, 14, 15, 44, 45, 46, 47, 48, 49, 50, 51, 52, 53, 54, 55, 56, 57, 58, 59, 60, 61, 62, 63, 16, 17, 18, 19, 64, 65, 66, 67, 68, 69, 70, 71, 72, 73, 74, 75, 5, 6, 7, 76, 77, 78, 20, 21, 22, 23, 24, 25, 26, 27, 0, 1, 2, 28, 29, 31, 32, 33, 79, 80, 81, 82, 83, 84, 85, 86, 87, 88, 89, 90, 91, 92, 93, 94, 95, 96, 97, 98, 99, 100, 101, 102, 103, 104, 105, 106, 107, 108, 109, 110, 111, 112, 113, 114, 115, 116] (by decide +kernel) (by decide +kernel)
set_option maxRecDepth 20000 in
theorem gX6_product_X6_value : GoodIn wsX6_product (wsV RX6 306 RX6 yX6_value wsX6_value) := goodIn_app (goodIn_of _ (by decide +kernel)) ggX6_product_X6_value
set_option maxRecDepth 20000 in
theorem ggX6_product_X6_sign : GoodIn wsX6_product wsX6_sign := goodIn_r _ [12, 13, 14, 15, 79, 80, 81, 82, 83, 84, 85, 86, 87, 105, 106, 107, 108, 109, 110] (by decide +kernel) (by decide +kernel)
set_option maxRecDepth 20000 in
theorem gX6_product_X6_sign : GoodIn wsX6_product (wsV RX6 43 RX6 yX6_sign wsX6_sign) := goodIn_app (goodIn_of _ (by decide +kernel)) ggX6_product_X6_sign
set_option maxRecDepth 20000 in
theorem ggX6_product_X6_take : GoodIn wsX6_product wsX6_take := goodIn_r _ [19, 15, 9, 10, 11, 8, 12, 13, 14, 79, 80, 81, 82, 83, 84, 85, 86, 87, 105, 106, 107, 108, 109, 110] (by decide +kernel) (by decide +kernel)
set_option maxRecDepth 20000 in
theorem gX6_product_X6_take : GoodIn wsX6_product (wsV RX6 79 RX6 yX6_take wsX6_take) := goodIn_app (goodIn_of _ (by decide +kernel)) ggX6_product_X6_take
set_option maxRecDepth 20000 in
theorem ggX6_product_X9_add : GoodIn wsX6_product wsX9_add := goodIn_r _ [24, 25, 26, 27, 111, 112, 113, 114] (by decide +kernel) (by decide +kernel)
set_option maxRecDepth 20000 in
theorem gX6_product_X9_add : GoodIn wsX6_product (wsV RX6 273 RX9 yX9_add wsX9_add) := goodIn_app (goodIn_of _ (by decide +kernel)) ggX6_product_X9_add
set_option maxRecDepth 20000 in
theorem ggX6_value_X6_sign : GoodIn wsX6_value wsX6_sign := goodIn_r _ [17, 18, 19, 20, 79, 80, 81, 82, 83, 84, 85, 86, 87, 105, 106, 107, 108, 109, 110] (by decide +kernel) (by decide +kernel)
set_option maxRecDepth 20000 in
theorem gX6_value_X6_sign : GoodIn wsX6_value (wsV RX6 43 RX6 yX6_sign wsX6_sign) := goodIn_app (goodIn_of _ (by decide +kernel)) ggX6_value_X6_sign
set_option maxRecDepth 20000 in
theorem ggX6_value_Jx29ce0_ordinal_8abf5 : GoodIn wsX6_value wsJx29ce0_ordinal_8abf5 := goodIn_r _ [26, 27] (by decide +kernel) (by decide +kernel)
set_option maxRecDepth 20000 in
theorem gX6_value_Jx29ce0_ordinal_8abf5_u59X8 : GoodIn wsX6_value (va_wsU RX6 59 RX8 "java/lang/Enum" ⟨"TideLots$Sign", "ordinal", "()I"⟩ yJx29ce0_ordinal_8abf5 wsJx29ce0_ordinal_8abf5) := goodIn_app (goodIn_of _ (by decide +kernel)) ggX6_value_Jx29ce0_ordinal_8abf5
set_option maxRecDepth 20000 in
theorem ggX6_value_X6_takeNumber : GoodIn wsX6_value wsX6_takeNumber := goodIn_r _ [31, 32, 18, 33, 20, 12, 13, 14, 15, 16, 17, 19, 34, 35, 36, 37, 38, 39, 40, 41, 42, 43, 44, 79, 80, 81, 82, 83, 84, 85, 86, 87, 105, 106, 107, 108, 109, 110] (by decide +kernel) (by decide +kernel)
set_option maxRecDepth 20000 in
theorem gX6_value_X6_takeNumber : GoodIn wsX6_value (wsV RX6 108 RX6 yX6_takeNumber wsX6_takeNumber) := goodIn_app (goodIn_of _ (by decide +kernel)) ggX6_value_X6_takeNumber
set_option maxRecDepth 20000 in
theorem ggX6_value_X6_take : GoodIn wsX6_value wsX6_take := goodIn_r _ [44, 20, 13, 14, 15, 16, 17, 18, 19, 79, 80, 81, 82, 83, 84, 85, 86, 87, 105, 106, 107, 108, 109, 110] (by decide +kernel) (by decide +kernel)
set_option maxRecDepth 20000 in
theorem gX6_value_X6_take : GoodIn wsX6_value (wsV RX6 79 RX6 yX6_take wsX6_take) := goodIn_app (goodIn_of _ (by decide +kernel)) ggX6_value_X6_take
set_option maxRecDepth 20000 in
theorem ggX6_value_X6_takeKnown : GoodIn wsX6_value wsX6_takeKnown := goodIn_r _ [48, 49, 18, 33, 20, 12, 13, 14, 15, 16, 17, 19, 50, 51, 52, 53, 54, 55, 56, 34, 35, 36, 37, 38, 39, 40, 41, 42, 43, 44, 79, 80, 81, 82, 83, 84, 85, 86, 87, 105, 106, 107, 108, 109, 110, 115, 116] (by decide +kernel) (by decide +kernel)
set_option maxRecDepth 20000 in
theorem gX6_value_X6_takeKnown : GoodIn wsX6_value (wsV RX6 179 RX6 yX6_takeKnown wsX6_takeKnown) := goodIn_app (goodIn_of _ (by decide +kernel)) ggX6_value_X6_takeKnown
set_option maxRecDepth 20000 in
theorem ggX6_value_X6_value : GoodIn wsX6_value wsX6_value := goodIn_r _ [0, 1, 2, 3, 4, 5, 6, 7, 8, 9, 10, 11, 12, 13, 14, 15, 16, 17, 18, 19, 20, 21, 22, 23, 24, 25, 26, 27, 28, 29, 30, 31, 32, 33, 34, 35, 36, 37, 38, 39, 40, 41, 42, 43, 44, 45, 46, 47, 48, 49, 50, 51, 52, 53, 54, 55, 56, 57, 58, 59, 60, 61, 62, 63, 64, 65, 66, 67, 68, 69, 70, 71, 72, 73, 74, 75, 76, 77, 78, 79, 80, 81, 82, 83, 84, 85, 86, 87, 88, 89, 90, 91, 92, 93, 94, 95, 96, 97, 98, 99, 100, 101, 102, 103, 104, 105, 106, 107, 108, 109, 110, 111, 112, 113, 114, 115, 116] (by decide +kernel) (by decide +kernel)
set_option maxRecDepth 20000 in
theorem gX6_value_X6_value : GoodIn wsX6_value (wsV RX6 306 RX6 yX6_value wsX6_value) := goodIn_app (goodIn_of _ (by decide +kernel)) ggX6_value_X6_value
set_option maxRecDepth 20000 in
theorem ggX6_value_X6_sum : GoodIn wsX6_value wsX6_sum := goodIn_r _ [74, 75, 6, 10, 11, 76, 77, 78, 16, 13, 14, 15, 17, 18, 19, 20, 41, 42, 43, 44, 63, 64, 65, 66, 67, 68, 69, 70, 71, 72, 73, 57, 58, 59, 0, 1, 2, 3, 4, 5, 7, 8, 9, 12, 21, 22, 23, 24, 25, 26, 27, 28, 29, 30, 31, 32, 33, 34, 35, 36, 37, 38, 39, 40, 45, 46, 47, 48, 49, 50, 51, 52, 53, 54, 55, 56, 60, 61, 62, 79, 80, 81, 82, 83, 84, 85, 86, 87, 88, 89, 90, 91, 92, 93, 94, 95, 96, 97, 98, 99, 100, 101, 102, 103, 104, 105, 106, 107, 108, 109, 110, 111, 112, 113, 114, 115, 116] (by decide +kernel) (by decide +kernel)
set_option maxRecDepth 20000 in
theorem gX6_value_X6_sum : GoodIn wsX6_value (wsV RX6 244 RX6 yX6_sum wsX6_sum) := goodIn_app (goodIn_of _ (by decide +kernel)) ggX6_value_X6_sum
set_option maxRecDepth 20000 in
theorem ggX6_value_X9_add : GoodIn wsX6_value wsX9_add := goodIn_r _ [67, 68, 69, 70, 111, 112, 113, 114] (by decide +kernel) (by decide +kernel)
set_option maxRecDepth 20000 in
theorem gX6_value_X9_add : GoodIn wsX6_value (wsV RX6 273 RX9 yX9_add wsX9_add) := goodIn_app (goodIn_of _ (by decide +kernel)) ggX6_value_X9_add
set_option maxRecDepth 20000 in
theorem ggX6_takeNew_X6_sign : GoodIn wsX6_takeNew wsX6_sign := goodIn_r _ [9, 2, 10, 4, 33, 34, 35, 36, 37, 38, 39, 40, 41, 42, 43, 44, 45, 46, 47] (by decide +kernel) (by decide +kernel)
set_option maxRecDepth 20000 in
theorem gX6_takeNew_X6_sign : GoodIn wsX6_takeNew (wsV RX6 43 RX6 yX6_sign wsX6_sign) := goodIn_app (goodIn_of _ (by decide +kernel)) ggX6_takeNew_X6_sign
set_option maxRecDepth 20000 in
theorem ggX6_takeNew_X4_find : GoodIn wsX6_takeNew wsX4_find := goodIn_r _ [15, 16, 17, 48, 49] (by decide +kernel) (by decide +kernel)
set_option maxRecDepth 20000 in
theorem gX6_takeNew_X4_find : GoodIn wsX6_takeNew (wsV RX6 257 RX4 yX4_find wsX4_find) := goodIn_app (goodIn_of _ (by decide +kernel)) ggX6_takeNew_X4_find
set_option maxRecDepth 20000 in
theorem ggX6_takeNew_X6_noteError : GoodIn wsX6_takeNew wsX6_noteError := goodIn_r _ [21, 22, 2, 23, 4, 24, 33, 34, 35, 36, 37, 38, 39, 40, 41, 42, 43, 44, 45, 46, 47] (by decide +kernel) (by decide +kernel)
set_option maxRecDepth 20000 in
theorem gX6_takeNew_X6_noteError : GoodIn wsX6_takeNew (wsV RX6 133 RX6 yX6_noteError wsX6_noteError) := goodIn_app (goodIn_of _ (by decide +kernel)) ggX6_takeNew_X6_noteError
set_option maxRecDepth 20000 in
theorem ggX6_takeNew_X4_add : GoodIn wsX6_takeNew wsX4_add := goodIn_r _ [28, 16, 17, 48, 49] (by decide +kernel) (by decide +kernel)
set_option maxRecDepth 20000 in
theorem gX6_takeNew_X4_add : GoodIn wsX6_takeNew (wsV RX6 325 RX4 yX4_add wsX4_add) := goodIn_app (goodIn_of _ (by decide +kernel)) ggX6_takeNew_X4_add
set_option maxRecDepth 20000 in
theorem ggX6_takeNew_X6_take : GoodIn wsX6_takeNew wsX6_take := goodIn_r _ [32, 4, 5, 6, 7, 8, 9, 2, 10, 33, 34, 35, 36, 37, 38, 39, 40, 41, 42, 43, 44, 45, 46, 47] (by decide +kernel) (by decide +kernel)
set_option maxRecDepth 20000 in
theorem gX6_takeNew_X6_take : GoodIn wsX6_takeNew (wsV RX6 79 RX6 yX6_take wsX6_take) := goodIn_app (goodIn_of _ (by decide +kernel)) ggX6_takeNew_X6_take
set_option maxRecDepth 20000 in
theorem ggX6_takeKnown_X6_sign : GoodIn wsX6_takeKnown wsX6_sign := goodIn_r _ [10, 2, 11, 4, 30, 31, 32, 33, 34, 35, 36, 37, 38, 39, 40, 41, 42, 43, 44] (by decide +kernel) (by decide +kernel)
set_option maxRecDepth 20000 in
theorem gX6_takeKnown_X6_sign : GoodIn wsX6_takeKnown (wsV RX6 43 RX6 yX6_sign wsX6_sign) := goodIn_app (goodIn_of _ (by decide +kernel)) ggX6_takeKnown_X6_sign
set_option maxRecDepth 20000 in
theorem ggX6_takeKnown_X4_find : GoodIn wsX6_takeKnown wsX4_find := goodIn_r _ [16, 17, 18, 45, 46] (by decide +kernel) (by decide +kernel)
set_option maxRecDepth 20000 in
theorem gX6_takeKnown_X4_find : GoodIn wsX6_takeKnown (wsV RX6 257 RX4 yX4_find wsX4_find) := goodIn_app (goodIn_of _ (by decide +kernel)) ggX6_takeKnown_X4_find
set_option maxRecDepth 20000 in
theorem ggX6_takeKnown_X6_noteError : GoodIn wsX6_takeKnown wsX6_noteError := goodIn_r _ [22, 23, 2, 24, 4, 25, 30, 31, 32, 33, 34, 35, 36, 37, 38, 39, 40, 41, 42, 43, 44] (by decide +kernel) (by decide +kernel)
set_option maxRecDepth 20000 in
theorem gX6_takeKnown_X6_noteError : GoodIn wsX6_takeKnown (wsV RX6 133 RX6 yX6_noteError wsX6_noteError) := goodIn_app (goodIn_of _ (by decide +kernel)) ggX6_takeKnown_X6_noteError
set_option maxRecDepth 20000 in
theorem ggX6_takeKnown_X6_take : GoodIn wsX6_takeKnown wsX6_take := goodIn_r _ [29, 4, 6, 7, 8, 9, 10, 2, 11, 30, 31, 32, 33, 34, 35, 36, 37, 38, 39, 40, 41, 42, 43, 44] (by decide +kernel) (by decide +kernel)
set_option maxRecDepth 20000 in
theorem gX6_takeKnown_X6_take : GoodIn wsX6_takeKnown (wsV RX6 79 RX6 yX6_take wsX6_take) := goodIn_app (goodIn_of _ (by decide +kernel)) ggX6_takeKnown_X6_take
set_option maxRecDepth 20000 in
theorem ggX6_takeNumber_X6_sign : GoodIn wsX6_takeNumber wsX6_sign := goodIn_r _ [10, 2, 11, 4, 23, 24, 25, 26, 27, 28, 29, 30, 31, 32, 33, 34, 35, 36, 37] (by decide +kernel) (by decide +kernel)
set_option maxRecDepth 20000 in
theorem gX6_takeNumber_X6_sign : GoodIn wsX6_takeNumber (wsV RX6 43 RX6 yX6_sign wsX6_sign) := goodIn_app (goodIn_of _ (by decide +kernel)) ggX6_takeNumber_X6_sign
set_option maxRecDepth 20000 in
theorem ggX6_takeNumber_X6_noteError : GoodIn wsX6_takeNumber wsX6_noteError := goodIn_r _ [15, 16, 2, 17, 4, 18, 23, 24, 25, 26, 27, 28, 29, 30, 31, 32, 33, 34, 35, 36, 37] (by decide +kernel) (by decide +kernel)
set_option maxRecDepth 20000 in
theorem gX6_takeNumber_X6_noteError : GoodIn wsX6_takeNumber (wsV RX6 133 RX6 yX6_noteError wsX6_noteError) := goodIn_app (goodIn_of _ (by decide +kernel)) ggX6_takeNumber_X6_noteError
set_option maxRecDepth 20000 in
theorem ggX6_takeNumber_X6_take : GoodIn wsX6_takeNumber wsX6_take := goodIn_r _ [22, 4, 6, 7, 8, 9, 10, 2, 11, 23, 24, 25, 26, 27, 28, 29, 30, 31, 32, 33, 34, 35, 36, 37] (by decide +kernel) (by decide +kernel)
set_option maxRecDepth 20000 in
theorem gX6_takeNumber_X6_take : GoodIn wsX6_takeNumber (wsV RX6 79 RX6 yX6_take wsX6_take) := goodIn_app (goodIn_of _ (by decide +kernel)) ggX6_takeNumber_X6_take
set_option maxRecDepth 20000 in
theorem ggX6_take_X6_sign : GoodIn wsX6_take wsX6_sign := goodIn_r _ [6, 7, 8, 1, 9, 10, 11, 12, 13, 14, 15, 16, 17, 18, 19, 20, 21, 22, 23] (by decide +kernel) (by decide +kernel)
set_option maxRecDepth 20000 in
theorem gX6_take_X6_sign : GoodIn wsX6_take (wsV RX6 43 RX6 yX6_sign wsX6_sign) := goodIn_app (goodIn_of _ (by decide +kernel)) ggX6_take_X6_sign
set_option maxRecDepth 20000 in
theorem ggX7_init_X9_init : GoodIn wsX7_init wsX9_init := goodIn_r _ [34, 35, 2, 3, 36, 37, 17, 38, 39, 40, 75, 76, 77, 78] (by decide +kernel) (by decide +kernel)
set_option maxRecDepth 20000 in
theorem gX7_init_X9_init : GoodIn wsX7_init (wsX9_init) := ggX7_init_X9_init
set_option maxRecDepth 20000 in
theorem ggX7_init_X3_init : GoodIn wsX7_init wsX3_init := goodIn_r _ [42, 43, 2, 3, 17, 44, 79, 80, 81, 82] (by decide +kernel) (by decide +kernel)
set_option maxRecDepth 20000 in
theorem gX7_init_X3_init_n56 : GoodIn wsX7_init (wsX3_init) := ggX7_init_X3_init
set_option maxRecDepth 20000 in
theorem ggX7_init_X1_init : GoodIn wsX7_init wsX1_init := goodIn_r _ [46, 47, 2, 3, 48, 17, 49, 83, 84, 85, 86, 87, 88, 89, 90, 91, 92, 93] (by decide +kernel) (by decide +kernel)
set_option maxRecDepth 20000 in
theorem gX7_init_X1_init_n61 : GoodIn wsX7_init (wsX1_init) := ggX7_init_X1_init
set_option maxRecDepth 20000 in
theorem ggX7_init_X5_init : GoodIn wsX7_init wsX5_init := goodIn_r _ [51, 52, 2, 3, 53, 17, 54, 94, 95, 96, 97, 98, 99, 100, 101] (by decide +kernel) (by decide +kernel)
set_option maxRecDepth 20000 in
theorem gX7_init_X5_init_n66 : GoodIn wsX7_init (wsX5_init) := ggX7_init_X5_init
set_option maxRecDepth 20000 in
theorem ggX7_init_X2_init : GoodIn wsX7_init wsX2_init := goodIn_r _ [56, 57, 2, 3] (by decide +kernel) (by decide +kernel)
set_option maxRecDepth 20000 in
theorem gX7_init_X2_init_n71 : GoodIn wsX7_init (wsX2_init) := ggX7_init_X2_init
set_option maxRecDepth 20000 in
theorem ggX7_nextGround_X3_copyFrom : GoodIn wsX7_nextGround wsX3_copyFrom := goodIn_r _ [12, 13, 14, 15, 16, 34, 35, 36, 37] (by decide +kernel) (by decide +kernel)
set_option maxRecDepth 20000 in
theorem gX7_nextGround_X3_copyFrom : GoodIn wsX7_nextGround (wsV RX7 93 RX3 yX3_copyFrom wsX3_copyFrom) := goodIn_app (goodIn_of _ (by decide +kernel)) ggX7_nextGround_X3_copyFrom
set_option maxRecDepth 20000 in
theorem ggX7_nextFisher_X1_copyFrom : GoodIn wsX7_nextFisher wsX1_copyFrom := goodIn_r _ [12, 13, 14, 15, 16, 17, 18, 19, 20, 21, 22, 23, 41, 42, 43, 44, 45, 46, 47, 48, 49, 50, 51] (by decide +kernel) (by decide +kernel)
set_option maxRecDepth 20000 in
theorem gX7_nextFisher_X1_copyFrom : GoodIn wsX7_nextFisher (wsV RX7 97 RX1 yX1_copyFrom wsX1_copyFrom) := goodIn_app (goodIn_of _ (by decide +kernel)) ggX7_nextFisher_X1_copyFrom
set_option maxRecDepth 20000 in
theorem ggX7_nextPact_X5_copyFrom : GoodIn wsX7_nextPact wsX5_copyFrom := goodIn_r _ [12, 13, 14, 15, 16, 17, 18, 19, 20, 38, 39, 40, 41, 42, 43, 44, 45] (by decide +kernel) (by decide +kernel)
set_option maxRecDepth 20000 in
theorem gX7_nextPact_X5_copyFrom : GoodIn wsX7_nextPact (wsV RX7 100 RX5 yX5_copyFrom wsX5_copyFrom) := goodIn_app (goodIn_of _ (by decide +kernel)) ggX7_nextPact_X5_copyFrom
set_option maxRecDepth 20000 in
theorem ggX7_copyFrom_X3_copyFrom : GoodIn wsX7_copyFrom wsX3_copyFrom := goodIn_r _ [16, 17, 18, 19, 20, 84, 85, 86, 87] (by decide +kernel) (by decide +kernel)
set_option maxRecDepth 20000 in
theorem gX7_copyFrom_X3_copyFrom : GoodIn wsX7_copyFrom (wsV RX7 93 RX3 yX3_copyFrom wsX3_copyFrom) := goodIn_app (goodIn_of _ (by decide +kernel)) ggX7_copyFrom_X3_copyFrom
set_option maxRecDepth 20000 in
theorem ggX7_copyFrom_X1_copyFrom : GoodIn wsX7_copyFrom wsX1_copyFrom := goodIn_r _ [25, 26, 27, 28, 29, 30, 31, 32, 33, 34, 35, 36, 88, 89, 90, 91, 92, 93, 94, 95, 96, 97, 98] (by decide +kernel) (by decide +kernel)
set_option maxRecDepth 20000 in
theorem gX7_copyFrom_X1_copyFrom : GoodIn wsX7_copyFrom (wsV RX7 97 RX1 yX1_copyFrom wsX1_copyFrom) := goodIn_app (goodIn_of _ (by decide +kernel)) ggX7_copyFrom_X1_copyFrom
set_option maxRecDepth 20000 in
theorem ggX7_copyFrom_X2_copyFrom : GoodIn wsX7_copyFrom wsX2_copyFrom := goodIn_r _ [41, 42, 43, 44, 45, 99, 100, 101, 102] (by decide +kernel) (by decide +kernel)
set_option maxRecDepth 20000 in
theorem gX7_copyFrom_X2_copyFrom : GoodIn wsX7_copyFrom (wsV RX7 106 RX2 yX2_copyFrom wsX2_copyFrom) := goodIn_app (goodIn_of _ (by decide +kernel)) ggX7_copyFrom_X2_copyFrom
set_option maxRecDepth 20000 in
theorem ggX7_copyFrom_X5_copyFrom : GoodIn wsX7_copyFrom wsX5_copyFrom := goodIn_r _ [50, 51, 52, 53, 54, 55, 56, 57, 58, 103, 104, 105, 106, 107, 108, 109, 110] (by decide +kernel) (by decide +kernel)
set_option maxRecDepth 20000 in
theorem gX7_copyFrom_X5_copyFrom : GoodIn wsX7_copyFrom (wsV RX7 100 RX5 yX5_copyFrom wsX5_copyFrom) := goodIn_app (goodIn_of _ (by decide +kernel)) ggX7_copyFrom_X5_copyFrom
set_option maxRecDepth 20000 in
theorem ggX7_copyFrom_X9_copyFrom : GoodIn wsX7_copyFrom wsX9_copyFrom := goodIn_r _ [63, 64, 65, 66, 111, 112, 113, 114] (by decide +kernel) (by decide +kernel)
set_option maxRecDepth 20000 in
theorem gX7_copyFrom_X9_copyFrom : GoodIn wsX7_copyFrom (wsV RX7 109 RX9 yX9_copyFrom wsX9_copyFrom) := goodIn_app (goodIn_of _ (by decide +kernel)) ggX7_copyFrom_X9_copyFrom
set_option maxRecDepth 20000 in
theorem ggX7_allFish_X3_allFish : GoodIn wsX7_allFish wsX3_allFish := goodIn_r _ [7, 8, 26, 27, 28, 29] (by decide +kernel) (by decide +kernel)
set_option maxRecDepth 20000 in
theorem gX7_allFish_X3_allFish : GoodIn wsX7_allFish (wsV RX7 112 RX3 yX3_allFish wsX3_allFish) := goodIn_app (goodIn_of _ (by decide +kernel)) ggX7_allFish_X3_allFish
set_option maxRecDepth 20000 in
theorem ggX7_passTides_X7_drawLots : GoodIn wsX7_passTides wsX7_drawLots := goodIn_r _ [13, 1, 2, 14, 15, 3, 151, 152, 153, 154, 155, 156, 157, 158, 159, 160, 161, 162, 163, 164, 165, 166, 167] (by decide +kernel) (by decide +kernel)
set_option maxRecDepth 20000 in
theorem gX7_passTides_X7_drawLots : GoodIn wsX7_passTides (wsV RX7 133 RX7 yX7_drawLots wsX7_drawLots) := goodIn_app (goodIn_of _ (by decide +kernel)) ggX7_passTides_X7_drawLots
set_option maxRecDepth 20000 in
theorem ggX7_passTides_X7_callBoatsHome : GoodIn wsX7_passTides wsX7_callBoatsHome := goodIn_r _ [19, 6, 7, 20, 151, 152, 153, 154, 155, 156, 157, 158, 159, 160, 161, 162, 163, 164, 165, 166, 167, 168, 169, 170, 171] (by decide +kernel) (by decide +kernel)
set_option maxRecDepth 20000 in
theorem gX7_passTides_X7_callBoatsHome : GoodIn wsX7_passTides (wsV RX7 136 RX7 yX7_callBoatsHome wsX7_callBoatsHome) := goodIn_app (goodIn_of _ (by decide +kernel)) ggX7_passTides_X7_callBoatsHome
set_option maxRecDepth 20000 in
theorem ggX7_passTides_X7_firstGo : GoodIn wsX7_passTides wsX7_firstGo := goodIn_r _ [24, 25, 26, 27, 7, 28, 20, 29, 30, 31, 32, 33, 34, 35, 36, 37, 38, 39, 40, 41, 42, 43, 44, 45, 46, 47, 48, 49, 50, 51, 52, 53, 54, 55, 56, 57, 58, 59, 60, 61, 62, 63, 64, 65, 66, 67, 68, 69, 70, 71, 72, 73, 74, 75, 76, 77, 78, 79, 80, 12, 81, 82, 83, 4, 5, 84, 85, 86, 87, 88, 89, 90, 91, 92, 93, 94, 151, 152, 153, 154, 155, 156, 157, 158, 159, 160, 161, 162, 163, 164, 165, 166, 167, 172, 173, 174, 175, 168, 169, 170, 171, 176, 177, 178, 179, 180, 181, 182, 183, 184, 185, 186, 187, 188, 189, 190, 191, 192, 193, 194, 195, 196, 197, 198] (by decide +kernel) (by decide +kernel)
set_option maxRecDepth 20000 in
theorem gX7_passTides_X7_firstGo : GoodIn wsX7_passTides (wsV RX7 139 RX7 yX7_firstGo wsX7_firstGo) := goodIn_app (goodIn_of _ (by decide +kernel)) ggX7_passTides_X7_firstGo
set_option maxRecDepth 20000 in
theorem ggX7_passTides_X7_sail : GoodIn wsX7_passTides wsX7_sail := goodIn_r _ [98, 82, 99, 100, 7, 20, 101, 102, 103, 104, 12, 105, 106, 107, 108, 109, 110, 72, 73, 74, 111, 112, 113, 114, 115, 116, 117, 118, 119, 120, 121, 122, 123, 124, 125, 151, 152, 153, 154, 155, 156, 157, 158, 159, 160, 161, 162, 163, 164, 165, 166, 167, 180, 181, 182, 183, 184, 185, 186, 187, 188, 189, 190, 168, 169, 170, 171] (by decide +kernel) (by decide +kernel)
set_option maxRecDepth 20000 in
theorem gX7_passTides_X7_sail : GoodIn wsX7_passTides (wsV RX7 143 RX7 yX7_sail wsX7_sail) := goodIn_app (goodIn_of _ (by decide +kernel)) ggX7_passTides_X7_sail
set_option maxRecDepth 20000 in
theorem ggX7_passTides_X7_split : GoodIn wsX7_passTides wsX7_split := goodIn_r _ [129, 130, 82, 131, 83, 100, 132, 133, 134, 135, 136, 137, 90, 138, 139, 191, 192, 193, 194, 195, 196, 197, 198, 151, 152, 153, 154, 155, 156, 157, 158, 159, 160, 161, 162, 163, 164, 165, 166, 167, 180, 181, 182, 183, 184, 185, 186, 187, 188, 189, 190] (by decide +kernel) (by decide +kernel)
set_option maxRecDepth 20000 in
theorem gX7_passTides_X7_split : GoodIn wsX7_passTides (wsV RX7 147 RX7 yX7_split wsX7_split) := goodIn_app (goodIn_of _ (by decide +kernel)) ggX7_passTides_X7_split
set_option maxRecDepth 20000 in
theorem ggX7_passTides_X7_storeCatches : GoodIn wsX7_passTides wsX7_storeCatches := goodIn_r _ [143, 2, 82, 144, 100, 151, 152, 153, 154, 155, 156, 157, 158, 159, 160, 161, 162, 163, 164, 165, 166, 167, 180, 181, 182, 183, 184, 185, 186, 187, 188, 189, 190] (by decide +kernel) (by decide +kernel)
set_option maxRecDepth 20000 in
theorem gX7_passTides_X7_storeCatches : GoodIn wsX7_passTides (wsV RX7 150 RX7 yX7_storeCatches wsX7_storeCatches) := goodIn_app (goodIn_of _ (by decide +kernel)) ggX7_passTides_X7_storeCatches
set_option maxRecDepth 20000 in
theorem ggX7_passTides_X3_grow : GoodIn wsX7_passTides wsX3_grow := goodIn_r _ [148, 67, 149, 72, 73, 74, 150, 63, 64, 65, 66, 168, 169, 170, 171] (by decide +kernel) (by decide +kernel)
set_option maxRecDepth 20000 in
theorem gX7_passTides_X3_grow : GoodIn wsX7_passTides (wsV RX7 153 RX3 yX3_grow wsX3_grow) := goodIn_app (goodIn_of _ (by decide +kernel)) ggX7_passTides_X3_grow
set_option maxRecDepth 20000 in
theorem ggX7_firstGo_X9_reckon : GoodIn wsX7_firstGo wsX9_reckon := goodIn_r _ [15, 16, 17, 18, 19, 20, 21, 22, 23, 24, 25, 26, 27, 28, 29, 30, 14, 31, 32, 33, 34, 35, 36, 37, 38, 39, 40, 41, 42, 43, 44, 45, 46, 47, 48, 49, 50, 51, 52, 53, 54, 55, 101, 102, 103, 104, 76, 77, 78, 79, 80, 81, 82, 83, 84, 85, 86, 87, 88, 89, 90, 91, 92, 105, 106, 107, 108, 109, 110, 111, 112, 113, 114, 115, 97, 98, 99, 100] (by decide +kernel) (by decide +kernel)
set_option maxRecDepth 20000 in
theorem gX7_firstGo_X9_reckon : GoodIn wsX7_firstGo (wsV RX7 174 RX9 yX9_reckon wsX9_reckon) := goodIn_app (goodIn_of _ (by decide +kernel)) ggX7_firstGo_X9_reckon
set_option maxRecDepth 20000 in
theorem ggX7_firstGo_X7_isSpared : GoodIn wsX7_firstGo wsX7_isSpared := goodIn_r _ [60, 61, 62, 63, 64, 65, 4, 10, 66, 67, 68, 69, 70, 71, 72, 73, 74, 75, 41, 42, 43, 44, 45, 11, 12, 13, 14, 15, 16, 17, 18, 19, 20, 21, 22, 23, 24, 25, 26, 27, 28, 29, 30, 31, 32, 33, 34, 35, 36, 37, 38, 39, 40, 46, 47, 48, 49, 50, 51, 52, 53, 54, 55, 76, 77, 78, 79, 80, 81, 82, 83, 84, 85, 86, 87, 88, 89, 90, 91, 92, 105, 106, 107, 108, 109, 110, 111, 112, 113, 114, 115, 116, 117, 118, 119, 120, 121, 122, 123, 97, 98, 99, 100, 101, 102, 103, 104] (by decide +kernel) (by decide +kernel)
set_option maxRecDepth 20000 in
theorem gX7_firstGo_X7_isSpared : GoodIn wsX7_firstGo (wsV RX7 178 RX7 yX7_isSpared wsX7_isSpared) := goodIn_app (goodIn_of _ (by decide +kernel)) ggX7_firstGo_X7_isSpared
set_option maxRecDepth 20000 in
theorem ggX7_isSpared_X5_has : GoodIn wsX7_isSpared wsX5_has := goodIn_r _ [14, 15, 16, 91, 92, 93, 94, 95, 96, 97, 98] (by decide +kernel) (by decide +kernel)
set_option maxRecDepth 20000 in
theorem gX7_isSpared_X5_has : GoodIn wsX7_isSpared (wsV RX7 183 RX5 yX5_has wsX5_has) := goodIn_app (goodIn_of _ (by decide +kernel)) ggX7_isSpared_X5_has
set_option maxRecDepth 20000 in
theorem ggX7_isSpared_X3_allFish : GoodIn wsX7_isSpared wsX3_allFish := goodIn_r _ [21, 22, 99, 100, 101, 102] (by decide +kernel) (by decide +kernel)
set_option maxRecDepth 20000 in
theorem gX7_isSpared_X3_allFish : GoodIn wsX7_isSpared (wsV RX7 112 RX3 yX3_allFish wsX3_allFish) := goodIn_app (goodIn_of _ (by decide +kernel)) ggX7_isSpared_X3_allFish
set_option maxRecDepth 20000 in
theorem ggX7_isSpared_X9_reckon : GoodIn wsX7_isSpared wsX9_reckon := goodIn_r _ [27, 28, 29, 30, 31, 32, 33, 34, 35, 36, 37, 38, 39, 40, 41, 42, 26, 43, 44, 45, 46, 47, 48, 49, 50, 51, 52, 18, 19, 20, 21, 22, 53, 54, 55, 56, 57, 58, 59, 60, 61, 62, 103, 104, 105, 106, 63, 64, 65, 66, 67, 68, 69, 70, 71, 72, 73, 74, 75, 76, 77, 78, 79, 80, 81, 82, 83, 84, 85, 86, 87, 88, 89, 90, 99, 100, 101, 102] (by decide +kernel) (by decide +kernel)
set_option maxRecDepth 20000 in
theorem gX7_isSpared_X9_reckon : GoodIn wsX7_isSpared (wsV RX7 174 RX9 yX9_reckon wsX9_reckon) := goodIn_app (goodIn_of _ (by decide +kernel)) ggX7_isSpared_X9_reckon
set_option maxRecDepth 20000 in
theorem ggX7_sail_X7_haulFrom : GoodIn wsX7_sail wsX7_haulFrom := goodIn_r _ [11, 12, 13, 14, 15, 16, 17, 18, 19, 20, 21, 22, 23, 24, 25, 26, 27, 28, 52, 53, 54, 55, 56, 57, 58, 59, 60, 61, 62, 35, 36, 37, 38, 39, 40, 41, 42, 43, 44, 45, 46, 47, 48, 49, 50, 51, 63, 64, 65, 66] (by decide +kernel) (by decide +kernel)
set_option maxRecDepth 20000 in
theorem gX7_sail_X7_haulFrom : GoodIn wsX7_sail (wsV RX7 199 RX7 yX7_haulFrom wsX7_haulFrom) := goodIn_app (goodIn_of _ (by decide +kernel)) ggX7_sail_X7_haulFrom
set_option maxRecDepth 20000 in
theorem ggX7_sail_X7_landHaul : GoodIn wsX7_sail wsX7_landHaul := goodIn_r _ [32, 12, 13, 3, 14, 33, 34, 52, 53, 54, 55, 56, 57, 58, 59, 60, 61, 62, 35, 36, 37, 38, 39, 40, 41, 42, 43, 44, 45, 46, 47, 48, 49, 50, 51, 63, 64, 65, 66] (by decide +kernel) (by decide +kernel)
set_option maxRecDepth 20000 in
theorem gX7_sail_X7_landHaul : GoodIn wsX7_sail (wsV RX7 203 RX7 yX7_landHaul wsX7_landHaul) := goodIn_app (goodIn_of _ (by decide +kernel)) ggX7_sail_X7_landHaul
set_option maxRecDepth 20000 in
theorem ggX7_haulFrom_X1_tear : GoodIn wsX7_haulFrom wsX1_tear := goodIn_r _ [14, 15, 16, 6, 7, 8, 17, 18, 19, 20, 21, 22, 23, 24, 25, 26, 27, 28] (by decide +kernel) (by decide +kernel)
set_option maxRecDepth 20000 in
theorem gX7_haulFrom_X1_tear : GoodIn wsX7_haulFrom (wsV RX7 219 RX1 yX1_tear wsX1_tear) := goodIn_app (goodIn_of _ (by decide +kernel)) ggX7_haulFrom_X1_tear
set_option maxRecDepth 20000 in
theorem ggX7_split_X5_splits : GoodIn wsX7_split wsX5_splits := goodIn_r _ [13, 14, 15, 16, 17, 18, 19, 20, 21, 22] (by decide +kernel) (by decide +kernel)
set_option maxRecDepth 20000 in
theorem gX7_split_X5_splits : GoodIn wsX7_split (wsV RX7 226 RX5 yX5_splits wsX5_splits) := goodIn_app (goodIn_of _ (by decide +kernel)) ggX7_split_X5_splits
set_option maxRecDepth 20000 in
theorem ggX9_reckon_Jx29ce0_ordinal_8abf5 : GoodIn wsX9_reckon wsJx29ce0_ordinal_8abf5 := goodIn_r _ [12, 13] (by decide +kernel) (by decide +kernel)
set_option maxRecDepth 20000 in
theorem gX9_reckon_Jx29ce0_ordinal_8abf5_u37X8 : GoodIn wsX9_reckon (va_wsU RX9 37 RX8 "java/lang/Enum" ⟨"TideLots$Sign", "ordinal", "()I"⟩ yJx29ce0_ordinal_8abf5 wsJx29ce0_ordinal_8abf5) := goodIn_app (goodIn_of _ (by decide +kernel)) ggX9_reckon_Jx29ce0_ordinal_8abf5
set_option maxRecDepth 20000 in
theorem ggX9_reckon_X9_valueOn : GoodIn wsX9_reckon wsX9_valueOn := goodIn_r _ [17, 2, 18, 19, 20, 21, 22, 23, 24, 25, 7, 8, 9, 10, 11, 12, 13, 26, 27, 28, 29, 30, 31, 46, 47, 48, 49, 50, 51, 52, 53, 54, 55, 56, 57, 58, 59, 60, 61, 62, 63, 64, 65, 66, 67, 68, 69, 70, 71, 72, 73, 74, 75, 76, 77] (by decide +kernel) (by decide +kernel)
set_option maxRecDepth 20000 in
theorem gX9_reckon_X9_valueOn : GoodIn wsX9_reckon (va_wsS RX9 41 yX9_valueOn wsX9_valueOn) := goodIn_app (goodIn_of _ (by decide +kernel)) ggX9_reckon_X9_valueOn
set_option maxRecDepth 20000 in
theorem ggX9_reckon_X9_combine : GoodIn wsX9_reckon wsX9_combine := goodIn_r _ [34, 2, 35, 36, 37, 38, 39, 40, 41, 7, 8, 9, 10, 11, 12, 13] (by decide +kernel) (by decide +kernel)
set_option maxRecDepth 20000 in
theorem gX9_reckon_X9_combine : GoodIn wsX9_reckon (va_wsS RX9 48 yX9_combine wsX9_combine) := goodIn_app (goodIn_of _ (by decide +kernel)) ggX9_reckon_X9_combine
set_option maxRecDepth 20000 in
theorem ggX9_valueOn_Jx29ce0_ordinal_8abf5 : GoodIn wsX9_valueOn wsJx29ce0_ordinal_8abf5 := goodIn_r _ [15, 16] (by decide +kernel) (by decide +kernel)
set_option maxRecDepth 20000 in
theorem gX9_valueOn_Jx29ce0_ordinal_8abf5_u37X8 : GoodIn wsX9_valueOn (va_wsU RX9 37 RX8 "java/lang/Enum" ⟨"TideLots$Sign", "ordinal", "()I"⟩ yJx29ce0_ordinal_8abf5 wsJx29ce0_ordinal_8abf5) := goodIn_app (goodIn_of _ (by decide +kernel)) ggX9_valueOn_Jx29ce0_ordinal_8abf5
set_option maxRecDepth 20000 in
theorem ggX9_valueOn_X3_allFish : GoodIn wsX9_valueOn wsX3_allFish := goodIn_r _ [21, 22, 51, 52, 53, 54] (by decide +kernel) (by decide +kernel)
set_option maxRecDepth 20000 in
theorem gX9_valueOn_X3_allFish : GoodIn wsX9_valueOn (wsV RX9 80 RX3 yX3_allFish wsX3_allFish) := goodIn_app (goodIn_of _ (by decide +kernel)) ggX9_valueOn_X3_allFish
set_option maxRecDepth 20000 in
theorem ggX9_combine_Jx29ce0_ordinal_8abf5 : GoodIn wsX9_combine wsJx29ce0_ordinal_8abf5 := goodIn_r _ [14, 15] (by decide +kernel) (by decide +kernel)
set_option maxRecDepth 20000 in
theorem gX9_combine_Jx29ce0_ordinal_8abf5_u37X8 : GoodIn wsX9_combine (va_wsU RX9 37 RX8 "java/lang/Enum" ⟨"TideLots$Sign", "ordinal", "()I"⟩ yJx29ce0_ordinal_8abf5 wsJx29ce0_ordinal_8abf5) := goodIn_app (goodIn_of _ (by decide +kernel)) ggX9_combine_Jx29ce0_ordinal_8abf5
set_option maxRecDepth 20000 in
theorem ggX10_scan_X10_skipBlanks : GoodIn wsX10_scan wsX10_skipBlanks := goodIn_r _ [11, 1, 4, 12, 13, 14, 10, 15, 16, 104, 105, 106, 107, 108, 109] (by decide +kernel) (by decide +kernel)
set_option maxRecDepth 20000 in
theorem gX10_scan_X10_skipBlanks : GoodIn wsX10_scan (wsV RX10 40 RX10 yX10_skipBlanks wsX10_skipBlanks) := goodIn_app (goodIn_of _ (by decide +kernel)) ggX10_scan_X10_skipBlanks
set_option maxRecDepth 20000 in
theorem ggX10_scan_X10_scanToken : GoodIn wsX10_scan wsX10_scanToken := goodIn_r _ [20, 1, 4, 6, 21, 22, 23, 10, 24, 12, 13, 14, 15, 16, 25, 26, 27, 28, 29, 30, 5, 31, 32, 33, 34, 35, 36, 37, 38, 39, 40, 41, 42, 43, 44, 45, 46, 47, 48, 49, 50, 51, 52, 53, 54, 55, 56, 57, 58, 59, 60, 61, 62, 63, 64, 65, 66, 67, 68, 69, 70, 71, 72, 73, 74, 75, 76, 77, 78, 79, 80, 81, 82, 83, 84, 85, 86, 87, 88, 89, 90, 91, 92, 93, 94, 95, 96, 97, 98, 99, 100, 101, 102, 103, 104, 105, 106, 107, 108, 109] (by decide +kernel) (by decide +kernel)
set_option maxRecDepth 20000 in
theorem gX10_scan_X10_scanToken : GoodIn wsX10_scan (wsV RX10 43 RX10 yX10_scanToken wsX10_scanToken) := goodIn_app (goodIn_of _ (by decide +kernel)) ggX10_scan_X10_scanToken
set_option maxRecDepth 20000 in
theorem ggX10_skipBlanks_X10_at : GoodIn wsX10_skipBlanks wsX10_at := goodIn_r _ [7, 2, 8, 9, 10, 11, 12, 13, 14] (by decide +kernel) (by decide +kernel)
set_option maxRecDepth 20000 in
theorem gX10_skipBlanks_X10_at : GoodIn wsX10_skipBlanks (wsV RX10 50 RX10 yX10_at wsX10_at) := goodIn_app (goodIn_of _ (by decide +kernel)) ggX10_skipBlanks_X10_at
set_option maxRecDepth 20000 in
theorem ggX10_scanToken_X10_isLetter : GoodIn wsX10_scanToken wsX10_isLetter := goodIn_r _ [8, 9, 10, 11, 7, 12, 2, 13, 94, 95, 96, 97, 98, 99] (by decide +kernel) (by decide +kernel)
set_option maxRecDepth 20000 in
theorem gX10_scanToken_X10_isLetter : GoodIn wsX10_scanToken (wsV RX10 54 RX10 yX10_isLetter wsX10_isLetter) := goodIn_app (goodIn_of _ (by decide +kernel)) ggX10_scanToken_X10_isLetter
set_option maxRecDepth 20000 in
theorem ggX10_scanToken_X10_scanWord : GoodIn wsX10_scanToken wsX10_scanWord := goodIn_r _ [17, 1, 2, 18, 19, 20, 21, 4, 5, 6, 7, 8, 9, 10, 11, 12, 13, 22, 23, 24, 25, 26, 27, 28, 29, 30, 31, 32, 33, 34, 35, 36, 37, 38, 39, 40, 41, 42, 43, 44, 45, 46, 47, 48, 49, 50, 51, 52, 53, 54, 55, 56, 57, 58, 59, 60, 61, 62, 63, 64, 65, 66, 67, 68, 69, 70, 71, 72, 73, 74, 75, 76, 77, 78, 79, 80, 81, 82, 83, 94, 95, 96, 97, 98, 99] (by decide +kernel) (by decide +kernel)
set_option maxRecDepth 20000 in
theorem gX10_scanToken_X10_scanWord : GoodIn wsX10_scanToken (wsV RX10 58 RX10 yX10_scanWord wsX10_scanWord) := goodIn_app (goodIn_of _ (by decide +kernel)) ggX10_scanToken_X10_scanWord
set_option maxRecDepth 20000 in
theorem ggX10_scanToken_X10_isDigit : GoodIn wsX10_scanToken wsX10_isDigit := goodIn_r _ [25, 9, 10, 11, 7, 12, 2, 13, 94, 95, 96, 97, 98, 99] (by decide +kernel) (by decide +kernel)
set_option maxRecDepth 20000 in
theorem gX10_scanToken_X10_isDigit : GoodIn wsX10_scanToken (wsV RX10 61 RX10 yX10_isDigit wsX10_isDigit) := goodIn_app (goodIn_of _ (by decide +kernel)) ggX10_scanToken_X10_isDigit
set_option maxRecDepth 20000 in
theorem ggX10_scanToken_X10_scanNumber : GoodIn wsX10_scanToken wsX10_scanNumber := goodIn_r _ [87, 1, 2, 88, 19, 20, 89, 22, 23, 24, 7, 25, 9, 10, 11, 12, 13, 94, 95, 96, 97, 98, 99] (by decide +kernel) (by decide +kernel)
set_option maxRecDepth 20000 in
theorem gX10_scanToken_X10_scanNumber : GoodIn wsX10_scanToken (wsV RX10 64 RX10 yX10_scanNumber wsX10_scanNumber) := goodIn_app (goodIn_of _ (by decide +kernel)) ggX10_scanToken_X10_scanNumber
set_option maxRecDepth 20000 in
theorem ggX10_scanToken_X10_scanSymbol : GoodIn wsX10_scanToken wsX10_scanSymbol := goodIn_r _ [93, 1, 20, 26, 27, 28, 7, 29, 30, 31, 32, 33, 34, 35, 36, 37, 38, 39, 40, 41, 42, 43, 44, 45, 46, 9, 10, 11, 12, 2, 13, 47, 48, 49, 50, 51, 52, 53, 54, 55, 56, 57, 58, 59, 60, 61, 62, 63, 64, 65, 66, 67, 68, 69, 70, 71, 72, 73, 74, 75, 76, 77, 78, 79, 80, 81, 82, 83, 94, 95, 96, 97, 98, 99] (by decide +kernel) (by decide +kernel)
set_option maxRecDepth 20000 in
theorem gX10_scanToken_X10_scanSymbol : GoodIn wsX10_scanToken (wsV RX10 67 RX10 yX10_scanSymbol wsX10_scanSymbol) := goodIn_app (goodIn_of _ (by decide +kernel)) ggX10_scanToken_X10_scanSymbol
set_option maxRecDepth 20000 in
theorem ggX10_scanWord_X10_isLetter : GoodIn wsX10_scanWord wsX10_isLetter := goodIn_r _ [11, 12, 13, 14, 10, 15, 2, 16, 79, 80, 81, 82, 83, 84] (by decide +kernel) (by decide +kernel)
set_option maxRecDepth 20000 in
theorem gX10_scanWord_X10_isLetter : GoodIn wsX10_scanWord (wsV RX10 54 RX10 yX10_isLetter wsX10_isLetter) := goodIn_app (goodIn_of _ (by decide +kernel)) ggX10_scanWord_X10_isLetter
set_option maxRecDepth 20000 in
theorem ggX10_scanWord_X10_isDigit : GoodIn wsX10_scanWord wsX10_isDigit := goodIn_r _ [20, 12, 13, 14, 10, 15, 2, 16, 79, 80, 81, 82, 83, 84] (by decide +kernel) (by decide +kernel)
set_option maxRecDepth 20000 in
theorem gX10_scanWord_X10_isDigit : GoodIn wsX10_scanWord (wsV RX10 61 RX10 yX10_isDigit wsX10_isDigit) := goodIn_app (goodIn_of _ (by decide +kernel)) ggX10_scanWord_X10_isDigit
set_option maxRecDepth 20000 in
theorem ggX10_scanWord_X10_at : GoodIn wsX10_scanWord wsX10_at := goodIn_r _ [15, 2, 16, 79, 80, 81, 82, 83, 84] (by decide +kernel) (by decide +kernel)
set_option maxRecDepth 20000 in
theorem gX10_scanWord_X10_at : GoodIn wsX10_scanWord (wsV RX10 50 RX10 yX10_at wsX10_at) := goodIn_app (goodIn_of _ (by decide +kernel)) ggX10_scanWord_X10_at
set_option maxRecDepth 20000 in
theorem ggX10_scanWord_X10_signOf : GoodIn wsX10_scanWord wsX10_signOf := goodIn_r _ [24, 25, 26, 27, 28, 10, 29, 30, 31, 32, 33, 34, 35, 36, 37, 38, 39, 40, 41, 12, 13, 14, 15, 2, 16, 42, 43, 44, 45, 46, 47, 48, 49, 50, 51, 52, 53, 54, 55, 56, 57, 58, 59, 60, 61, 62, 63, 64, 65, 66, 67, 68, 69, 70, 71, 72, 73, 74, 75, 76, 77, 78, 79, 80, 81, 82, 83, 84] (by decide +kernel) (by decide +kernel)
set_option maxRecDepth 20000 in
theorem gX10_scanWord_X10_signOf : GoodIn wsX10_scanWord (wsV RX10 76 RX10 yX10_signOf wsX10_signOf) := goodIn_app (goodIn_of _ (by decide +kernel)) ggX10_scanWord_X10_signOf
set_option maxRecDepth 20000 in
theorem ggX10_scanNumber_X10_isDigit : GoodIn wsX10_scanNumber wsX10_isDigit := goodIn_r _ [11, 12, 13, 14, 10, 15, 2, 16, 17, 18, 19, 20, 21, 22] (by decide +kernel) (by decide +kernel)
set_option maxRecDepth 20000 in
theorem gX10_scanNumber_X10_isDigit : GoodIn wsX10_scanNumber (wsV RX10 61 RX10 yX10_isDigit wsX10_isDigit) := goodIn_app (goodIn_of _ (by decide +kernel)) ggX10_scanNumber_X10_isDigit
set_option maxRecDepth 20000 in
theorem ggX10_scanNumber_X10_at : GoodIn wsX10_scanNumber wsX10_at := goodIn_r _ [15, 2, 16, 17, 18, 19, 20, 21, 22] (by decide +kernel) (by decide +kernel)
set_option maxRecDepth 20000 in
theorem gX10_scanNumber_X10_at : GoodIn wsX10_scanNumber (wsV RX10 50 RX10 yX10_at wsX10_at) := goodIn_app (goodIn_of _ (by decide +kernel)) ggX10_scanNumber_X10_at
set_option maxRecDepth 20000 in
theorem ggX10_scanSymbol_X10_signOf : GoodIn wsX10_scanSymbol wsX10_signOf := goodIn_r _ [7, 8, 9, 10, 11, 6, 12, 13, 14, 15, 16, 17, 18, 19, 20, 21, 22, 23, 24, 25, 26, 27, 28, 29, 30, 31, 32, 33, 34, 35, 36, 37, 38, 39, 40, 41, 42, 43, 44, 45, 46, 47, 48, 49, 50, 51, 52, 53, 54, 55, 56, 57, 58, 59, 60, 61, 62, 63, 64, 65, 66, 67, 68, 69, 70, 71, 72, 73] (by decide +kernel) (by decide +kernel)
set_option maxRecDepth 20000 in
theorem gX10_scanSymbol_X10_signOf : GoodIn wsX10_scanSymbol (wsV RX10 76 RX10 yX10_signOf wsX10_signOf) := goodIn_app (goodIn_of _ (by decide +kernel)) ggX10_scanSymbol_X10_signOf
set_option maxRecDepth 20000 in
theorem ggX10_signOf_X10_reads : GoodIn wsX10_signOf wsX10_reads := goodIn_r _ [6, 7, 8, 9, 10, 11, 12, 13, 14, 15, 16, 17, 18, 19, 20, 21, 5, 22, 23, 24, 25, 26, 27, 28, 29, 30, 31, 32, 33, 34, 35, 36, 37, 38, 39, 40, 41, 42, 43, 44, 45, 46, 47, 48, 49, 50, 51, 52, 53, 54, 55, 56, 57, 58, 59, 60, 61, 62, 63, 64, 65, 66, 67] (by decide +kernel) (by decide +kernel)
set_option maxRecDepth 20000 in
theorem gX10_signOf_X10_reads : GoodIn wsX10_signOf (wsV RX10 92 RX10 yX10_reads wsX10_reads) := goodIn_app (goodIn_of _ (by decide +kernel)) ggX10_signOf_X10_reads
set_option maxRecDepth 20000 in
theorem ggX10_reads_J0_length_8abf5 : GoodIn wsX10_reads wsJ0_length_8abf5 := goodIn_r _ [5, 6, 7, 8, 9, 4, 10, 11, 12] (by decide +kernel) (by decide +kernel)
set_option maxRecDepth 20000 in
theorem gX10_reads_J0_length_8abf5 : GoodIn wsX10_reads (wsV RX10 96 RJ0 yJ0_length_8abf5 wsJ0_length_8abf5) := goodIn_app (goodIn_of _ (by decide +kernel)) ggX10_reads_J0_length_8abf5
set_option maxRecDepth 20000 in
theorem ggX10_reads_X10_at : GoodIn wsX10_reads wsX10_at := goodIn_r _ [17, 18, 19, 57, 58, 59, 60, 61, 62] (by decide +kernel) (by decide +kernel)
set_option maxRecDepth 20000 in
theorem gX10_reads_X10_at : GoodIn wsX10_reads (wsV RX10 50 RX10 yX10_at wsX10_at) := goodIn_app (goodIn_of _ (by decide +kernel)) ggX10_reads_X10_at
set_option maxRecDepth 20000 in
theorem ggX10_reads_J0_charAt_5068e : GoodIn wsX10_reads wsJ0_charAt_5068e := goodIn_r _ [23, 6, 24, 25, 26, 4, 27, 11, 12, 28, 29, 30, 31, 32, 33, 34, 35, 36, 37, 38, 39, 40, 41, 42, 43, 44, 45, 46, 47, 48, 49, 50, 51, 52, 53, 54, 55, 56] (by decide +kernel) (by decide +kernel)
set_option maxRecDepth 20000 in
theorem gX10_reads_J0_charAt_5068e : GoodIn wsX10_reads (wsV RX10 101 RJ0 yJ0_charAt_5068e wsJ0_charAt_5068e) := goodIn_app (goodIn_of _ (by decide +kernel)) ggX10_reads_J0_charAt_5068e
set_option maxRecDepth 20000 in
theorem ggX10_isLetter_X10_at : GoodIn wsX10_isLetter wsX10_at := goodIn_r _ [5, 6, 7, 8, 9, 10, 11, 12, 13] (by decide +kernel) (by decide +kernel)
set_option maxRecDepth 20000 in
theorem gX10_isLetter_X10_at : GoodIn wsX10_isLetter (wsV RX10 50 RX10 yX10_at wsX10_at) := goodIn_app (goodIn_of _ (by decide +kernel)) ggX10_isLetter_X10_at
set_option maxRecDepth 20000 in
theorem ggX10_isDigit_X10_at : GoodIn wsX10_isDigit wsX10_at := goodIn_r _ [5, 6, 7, 8, 9, 10, 11, 12, 13] (by decide +kernel) (by decide +kernel)
set_option maxRecDepth 20000 in
theorem gX10_isDigit_X10_at : GoodIn wsX10_isDigit (wsV RX10 50 RX10 yX10_at wsX10_at) := goodIn_app (goodIn_of _ (by decide +kernel)) ggX10_isDigit_X10_at
set_option maxRecDepth 20000 in
theorem ggX11_init_X10_init : GoodIn wsX11_init wsX10_init := goodIn_r _ [16, 17, 2, 3, 18, 19, 20, 21, 22, 23, 24, 25, 26, 84, 85, 86, 87, 88, 89] (by decide +kernel) (by decide +kernel)
set_option maxRecDepth 20000 in
theorem gX11_init_X10_init : GoodIn wsX11_init (wsX10_init) := ggX11_init_X10_init
set_option maxRecDepth 20000 in
theorem ggX11_init_X7_init : GoodIn wsX11_init wsX7_init := goodIn_r _ [29, 30, 2, 3, 31, 32, 33, 34, 35, 36, 37, 38, 39, 40, 41, 42, 43, 22, 44, 45, 46, 47, 48, 49, 50, 51, 52, 53, 54, 55, 56, 57, 58, 59, 60, 61, 62, 63, 64, 65, 66, 67, 68, 69, 70, 71, 72, 73, 74, 75, 76, 77, 78, 79, 80, 81, 82, 83, 94, 95, 96, 97, 98, 99, 100, 101, 102, 103, 104, 105, 106, 107, 108, 109, 110, 111, 112, 113, 114, 115, 116, 117, 118, 119, 120, 121, 122, 123, 124, 125, 126, 127, 128, 129, 130, 131, 132, 133, 134, 135, 136, 137, 138, 139, 140, 141] (by decide +kernel) (by decide +kernel)
set_option maxRecDepth 20000 in
theorem gX11_init_X7_init : GoodIn wsX11_init (wsX7_init) := ggX11_init_X7_init
set_option maxRecDepth 20000 in
theorem ggX11_feed_X10_append : GoodIn wsX11_feed wsX10_append := goodIn_r _ [9, 10, 11, 16, 17, 18, 19, 20, 21] (by decide +kernel) (by decide +kernel)
set_option maxRecDepth 20000 in
theorem gX11_feed_X10_append : GoodIn wsX11_feed (wsV RX11 40 RX10 yX10_append wsX10_append) := goodIn_app (goodIn_of _ (by decide +kernel)) ggX11_feed_X10_append
set_option maxRecDepth 20000 in
theorem ggX11_teach_X10_scan : GoodIn wsX11_teach wsX10_scan := goodIn_r _ [16, 17, 18, 19, 20, 21, 22, 23, 24, 25, 15, 26, 27, 28, 29, 30, 31, 32, 33, 34, 35, 36, 37, 38, 39, 40, 41, 42, 43, 44, 45, 46, 47, 48, 49, 50, 51, 52, 53, 54, 55, 56, 57, 58, 59, 60, 61, 62, 63, 64, 65, 66, 67, 68, 69, 70, 71, 72, 73, 74, 75, 76, 77, 78, 79, 80, 81, 82, 83, 84, 85, 86, 87, 88, 89, 90, 91, 92, 93, 94, 95, 96, 97, 98, 99, 100, 101, 102, 103, 104, 105, 106, 107, 108, 109, 110, 111, 112, 113, 114, 115, 116, 117, 118, 401, 402, 403, 404, 405, 406] (by decide +kernel) (by decide +kernel)
set_option maxRecDepth 20000 in
theorem gX11_teach_X10_scan : GoodIn wsX11_teach (wsV RX11 49 RX10 yX10_scan wsX10_scan) := goodIn_app (goodIn_of _ (by decide +kernel)) ggX11_teach_X10_scan
set_option maxRecDepth 20000 in
theorem ggX11_teach_X6_init : GoodIn wsX11_teach wsX6_init := goodIn_r _ [121, 122, 123, 124, 125, 126, 127, 128, 129, 130, 131, 132, 133, 134, 135, 136, 137, 138, 139, 140, 141, 142, 143, 392, 393, 394, 395, 396, 397, 398, 399, 400, 424, 425] (by decide +kernel) (by decide +kernel)
set_option maxRecDepth 20000 in
theorem gX11_teach_X6_init : GoodIn wsX11_teach (wsX6_init) := ggX11_teach_X6_init
set_option maxRecDepth 20000 in
theorem ggX11_teach_X6_read : GoodIn wsX11_teach wsX6_read := goodIn_r _ [147, 133, 148, 149, 150, 151, 132, 152, 153, 125, 154, 155, 156, 157, 158, 159, 160, 161, 162, 163, 164, 165, 166, 167, 4, 168, 169, 170, 171, 172, 173, 174, 175, 176, 177, 178, 179, 180, 181, 129, 182, 183, 184, 185, 186, 187, 188, 189, 190, 191, 192, 193, 194, 195, 196, 197, 198, 199, 128, 200, 201, 143, 202, 203, 204, 205, 206, 207, 208, 209, 210, 211, 212, 213, 214, 215, 140, 216, 217, 218, 219, 220, 221, 222, 223, 224, 225, 226, 227, 228, 229, 230, 231, 232, 233, 234, 235, 236, 237, 238, 239, 240, 241, 242, 130, 243, 244, 245, 246, 247, 248, 249, 250, 251, 252, 253, 254, 255, 256, 257, 258, 259, 260, 261, 262, 263, 264, 265, 266, 267, 268, 269, 270, 271, 272, 273, 274, 275, 276, 277, 278, 279, 280, 281, 282, 283, 284, 285, 286, 287, 288, 289, 290, 291, 292, 293, 294, 295, 296, 297, 298, 299, 300, 301, 302, 303, 304, 305, 306, 307, 308, 309, 310, 311, 312, 313, 314, 315, 316, 317, 318, 319, 320, 321, 322, 323, 324, 325, 326, 327, 328, 329, 330, 331, 332, 333, 334, 335, 336, 337, 338, 339, 340, 341, 342, 343, 344, 345, 346, 347, 348, 349, 131, 350, 351, 352, 353, 354, 355, 356, 357, 358, 359, 360, 361, 362, 363, 364, 365, 366, 367, 368, 369, 370, 371, 372, 373, 374, 375, 376, 377, 378, 379, 380, 381, 382, 383, 384, 385, 386, 387, 392, 393, 394, 395, 396, 397, 398, 399, 400, 401, 402, 403, 404, 405, 406, 407, 408, 409, 410, 411, 412, 413, 414, 415, 416, 417, 418, 419, 420, 421, 422, 423, 426, 427, 428, 429, 430, 431, 432, 433, 424, 425, 434, 435, 436, 437, 438, 439, 440, 441, 442, 443, 444, 445, 446, 447, 448, 449, 450, 451, 452, 453, 454, 455, 456] (by decide +kernel) (by decide +kernel)
set_option maxRecDepth 20000 in
theorem gX11_teach_X6_read : GoodIn wsX11_teach (wsV RX11 57 RX6 yX6_read wsX6_read) := goodIn_app (goodIn_of _ (by decide +kernel)) ggX11_teach_X6_read
set_option maxRecDepth 20000 in
theorem ggX11_count_X7_allFish : GoodIn wsX11_count wsX7_allFish := goodIn_r _ [15, 16, 17, 18, 19, 20, 21, 22, 23, 46, 47, 48, 49, 50, 51, 52, 53, 54, 55, 56, 57, 58, 59, 60, 61, 62, 69, 70, 71, 72] (by decide +kernel) (by decide +kernel)
set_option maxRecDepth 20000 in
theorem gX11_count_X7_allFish : GoodIn wsX11_count (wsV RX11 80 RX7 yX7_allFish wsX7_allFish) := goodIn_app (goodIn_of _ (by decide +kernel)) ggX11_count_X7_allFish
set_option maxRecDepth 20000 in
theorem ggX11_count_X7_allStores : GoodIn wsX11_count wsX7_allStores := goodIn_r _ [27, 28, 29, 30, 46, 47, 48, 49, 50, 51, 52, 53, 54, 55, 56, 57, 58, 59, 60, 61, 62, 73, 74, 75, 76, 77, 78, 79, 80, 81, 82, 83] (by decide +kernel) (by decide +kernel)
set_option maxRecDepth 20000 in
theorem gX11_count_X7_allStores : GoodIn wsX11_count (wsV RX11 83 RX7 yX7_allStores wsX7_allStores) := goodIn_app (goodIn_of _ (by decide +kernel)) ggX11_count_X7_allStores
set_option maxRecDepth 20000 in
theorem ggX11_count_X7_widenedNets : GoodIn wsX11_count wsX7_widenedNets := goodIn_r _ [34, 28, 29, 35, 36, 46, 47, 48, 49, 50, 51, 52, 53, 54, 55, 56, 57, 58, 59, 60, 61, 62, 73, 74, 75, 76, 77, 78, 79, 80, 81, 82, 83] (by decide +kernel) (by decide +kernel)
set_option maxRecDepth 20000 in
theorem gX11_count_X7_widenedNets : GoodIn wsX11_count (wsV RX11 86 RX7 yX7_widenedNets wsX7_widenedNets) := goodIn_app (goodIn_of _ (by decide +kernel)) ggX11_count_X7_widenedNets
set_option maxRecDepth 20000 in
theorem ggX11_count_X7_allCheats : GoodIn wsX11_count wsX7_allCheats := goodIn_r _ [40, 28, 29, 41, 46, 47, 48, 49, 50, 51, 52, 53, 54, 55, 56, 57, 58, 59, 60, 61, 62, 73, 74, 75, 76, 77, 78, 79, 80, 81, 82, 83] (by decide +kernel) (by decide +kernel)
set_option maxRecDepth 20000 in
theorem gX11_count_X7_allCheats : GoodIn wsX11_count (wsV RX11 89 RX7 yX7_allCheats wsX7_allCheats) := goodIn_app (goodIn_of _ (by decide +kernel)) ggX11_count_X7_allCheats
set_option maxRecDepth 20000 in
theorem ggX11_ground_X11_checkGround : GoodIn wsX11_ground wsX11_checkGround := goodIn_ca (goodIn_r _ [13, 1, 2, 3, 14, 21, 22, 23, 24, 25, 26, 27, 28, 29, 30, 31, 32, 33, 34, 35, 36, 37, 38, 39, 40, 41] (by decide +kernel) (by decide +kernel)) (goodIn_sub (fun _ h => List.mem_cons_of_mem _ (List.mem_append_right _ h)) (by decide +kernel))
set_option maxRecDepth 20000 in
theorem gX11_ground_X11_checkGround : GoodIn wsX11_ground (wsV RX11 97 RX11 yX11_checkGround wsX11_checkGround) := goodIn_app (goodIn_of _ (by decide +kernel)) ggX11_ground_X11_checkGround
set_option maxRecDepth 20000 in
theorem ggX11_ground_X3_allFish : GoodIn wsX11_ground wsX3_allFish := goodIn_r _ [19, 20, 42, 43, 44, 45] (by decide +kernel) (by decide +kernel)
set_option maxRecDepth 20000 in
theorem gX11_ground_X3_allFish : GoodIn wsX11_ground (wsV RX11 104 RX3 yX3_allFish wsX3_allFish) := goodIn_app (goodIn_of _ (by decide +kernel)) ggX11_ground_X3_allFish
set_option maxRecDepth 20000 in
theorem ggX11_fisher_X11_checkFisher : GoodIn wsX11_fisher wsX11_checkFisher := goodIn_ca (goodIn_r _ [19, 1, 2, 3, 20, 21, 22, 23, 24, 25, 26, 27, 28, 29, 30, 31, 32, 33, 34, 35, 36, 37, 38, 39, 40, 41] (by decide +kernel) (by decide +kernel)) (goodIn_sub (fun _ h => List.mem_cons_of_mem _ (List.mem_append_right _ h)) (by decide +kernel))
set_option maxRecDepth 20000 in
theorem gX11_fisher_X11_checkFisher : GoodIn wsX11_fisher (wsV RX11 122 RX11 yX11_checkFisher wsX11_checkFisher) := goodIn_app (goodIn_of _ (by decide +kernel)) ggX11_fisher_X11_checkFisher
set_option maxRecDepth 20000 in
theorem ggX11_pact_X5_splits : GoodIn wsX11_pact wsX5_splits := goodIn_r _ [16, 17, 39, 40, 41, 42, 43, 44, 45, 46] (by decide +kernel) (by decide +kernel)
set_option maxRecDepth 20000 in
theorem gX11_pact_X5_splits : GoodIn wsX11_pact (wsV RX11 168 RX5 yX5_splits wsX5_splits) := goodIn_app (goodIn_of _ (by decide +kernel)) ggX11_pact_X5_splits
set_option maxRecDepth 20000 in
theorem ggX11_cheat_X11_checkFisher : GoodIn wsX11_cheat wsX11_checkFisher := goodIn_ca (goodIn_r _ [8, 9, 10, 1, 11, 20, 21, 22, 23, 24, 25, 26, 27, 28, 29, 30, 31, 32, 33, 34, 35, 36, 37, 38, 39, 40] (by decide +kernel) (by decide +kernel)) (goodIn_sub (fun _ h => List.mem_cons_of_mem _ (List.mem_append_right _ h)) (by decide +kernel))
set_option maxRecDepth 20000 in
theorem gX11_cheat_X11_checkFisher : GoodIn wsX11_cheat (wsV RX11 122 RX11 yX11_checkFisher wsX11_checkFisher) := goodIn_app (goodIn_of _ (by decide +kernel)) ggX11_cheat_X11_checkFisher
set_option maxRecDepth 20000 in
theorem ggX11_cheat_X7_allCheats : GoodIn wsX11_cheat wsX7_allCheats := goodIn_r _ [16, 17, 18, 19, 24, 25, 26, 27, 28, 29, 30, 31, 32, 33, 34, 35, 36, 37, 38, 39, 40, 41, 42, 43, 44, 45, 46, 47, 48, 49, 50, 51] (by decide +kernel) (by decide +kernel)
set_option maxRecDepth 20000 in
theorem gX11_cheat_X7_allCheats : GoodIn wsX11_cheat (wsV RX11 89 RX7 yX7_allCheats wsX7_allCheats) := goodIn_app (goodIn_of _ (by decide +kernel)) ggX11_cheat_X7_allCheats
set_option maxRecDepth 20000 in
theorem ggX11_mend_X11_checkFisher : GoodIn wsX11_mend wsX11_checkFisher := goodIn_ca (goodIn_r _ [12, 13, 14, 3, 15, 16, 17, 18, 19, 20, 21, 22, 23, 24, 25, 26, 27, 28, 29, 30, 31, 32, 33, 34, 35, 36] (by decide +kernel) (by decide +kernel)) (goodIn_sub (fun _ h => List.mem_cons_of_mem _ (List.mem_append_right _ h)) (by decide +kernel))
set_option maxRecDepth 20000 in
theorem gX11_mend_X11_checkFisher : GoodIn wsX11_mend (wsV RX11 122 RX11 yX11_checkFisher wsX11_checkFisher) := goodIn_app (goodIn_of _ (by decide +kernel)) ggX11_mend_X11_checkFisher
set_option maxRecDepth 20000 in
theorem ggX11_lot_X7_drawLots : GoodIn wsX11_lot wsX7_drawLots := goodIn_r _ [10, 11, 12, 13, 14, 15, 20, 21, 22, 23, 24, 25, 26, 27, 28, 29, 30, 31, 32, 33, 34, 35, 36] (by decide +kernel) (by decide +kernel)
set_option maxRecDepth 20000 in
theorem gX11_lot_X7_drawLots : GoodIn wsX11_lot (wsV RX11 197 RX7 yX7_drawLots wsX7_drawLots) := goodIn_app (goodIn_of _ (by decide +kernel)) ggX11_lot_X7_drawLots
set_option maxRecDepth 20000 in
theorem ggX11_took_X11_checkGround : GoodIn wsX11_took wsX11_checkGround := goodIn_ca (goodIn_r _ [8, 9, 10, 1, 11, 17, 18, 19, 20, 21, 22, 23, 24, 25, 26, 27, 28, 29, 30, 31, 32, 33, 34, 35, 36, 37] (by decide +kernel) (by decide +kernel)) (goodIn_sub (fun _ h => List.mem_cons_of_mem _ (List.mem_append_right _ h)) (by decide +kernel))
set_option maxRecDepth 20000 in
theorem gX11_took_X11_checkGround : GoodIn wsX11_took (wsV RX11 97 RX11 yX11_checkGround wsX11_checkGround) := goodIn_app (goodIn_of _ (by decide +kernel)) ggX11_took_X11_checkGround
set_option maxRecDepth 20000 in
theorem ggX11_took_X11_checkFisher : GoodIn wsX11_took wsX11_checkFisher := goodIn_ca (goodIn_r _ [15, 9, 10, 1, 16, 17, 18, 19, 20, 21, 22, 23, 24, 25, 26, 27, 28, 29, 30, 31, 32, 33, 34, 35, 36, 37] (by decide +kernel) (by decide +kernel)) (goodIn_sub (fun _ h => List.mem_cons_of_mem _ (List.mem_append_right _ h)) (by decide +kernel))
set_option maxRecDepth 20000 in
theorem gX11_took_X11_checkFisher : GoodIn wsX11_took (wsV RX11 122 RX11 yX11_checkFisher wsX11_checkFisher) := goodIn_app (goodIn_of _ (by decide +kernel)) ggX11_took_X11_checkFisher
set_option maxRecDepth 20000 in
theorem ggX11_blame_X11_checkGround : GoodIn wsX11_blame wsX11_checkGround := goodIn_ca (goodIn_r _ [9, 10, 11, 1, 12, 13, 14, 15, 16, 17, 18, 19, 20, 21, 22, 23, 24, 25, 26, 27, 28, 29, 30, 31, 32, 33] (by decide +kernel) (by decide +kernel)) (goodIn_sub (fun _ h => List.mem_cons_of_mem _ (List.mem_append_right _ h)) (by decide +kernel))
set_option maxRecDepth 20000 in
theorem gX11_blame_X11_checkGround : GoodIn wsX11_blame (wsV RX11 97 RX11 yX11_checkGround wsX11_checkGround) := goodIn_app (goodIn_of _ (by decide +kernel)) ggX11_blame_X11_checkGround
set_option maxRecDepth 20000 in
theorem ggX11_gap_X7_storeGap : GoodIn wsX11_gap wsX7_storeGap := goodIn_r _ [6, 7, 8, 9, 10, 11, 12, 13, 14, 15, 16, 21, 22, 23, 24, 25, 26, 27, 28, 29, 30, 31, 32, 33, 34, 35, 36, 37, 38, 39, 40, 41, 42, 43, 44, 45, 46, 47, 48] (by decide +kernel) (by decide +kernel)
set_option maxRecDepth 20000 in
theorem gX11_gap_X7_storeGap : GoodIn wsX11_gap (wsV RX11 206 RX7 yX7_storeGap wsX7_storeGap) := goodIn_app (goodIn_of _ (by decide +kernel)) ggX11_gap_X7_storeGap
set_option maxRecDepth 20000 in
theorem ggX11_pass_X11_checkTides : GoodIn wsX11_pass wsX11_checkTides := goodIn_ca (goodIn_r _ [5, 6, 7] (by decide +kernel) (by decide +kernel)) (goodIn_sub (fun _ h => List.mem_cons_of_mem _ (List.mem_append_right _ h)) (by decide +kernel))
set_option maxRecDepth 20000 in
theorem gX11_pass_X11_checkTides : GoodIn wsX11_pass (va_wsS RX11 209 yX11_checkTides wsX11_checkTides) := goodIn_app (goodIn_of _ (by decide +kernel)) ggX11_pass_X11_checkTides
set_option maxRecDepth 20000 in
theorem ggX11_pass_X7_passTides : GoodIn wsX11_pass wsX7_passTides := goodIn_r _ [12, 13, 14, 15, 16, 17, 18, 19, 20, 21, 22, 23, 11, 24, 25, 26, 27, 28, 29, 30, 31, 32, 33, 34, 35, 36, 37, 38, 39, 40, 41, 42, 43, 44, 45, 46, 47, 48, 49, 50, 51, 52, 53, 54, 55, 56, 57, 58, 59, 60, 61, 62, 63, 64, 65, 66, 67, 68, 69, 70, 71, 72, 73, 74, 75, 76, 77, 78, 79, 80, 81, 82, 83, 84, 85, 86, 87, 88, 89, 90, 91, 92, 93, 94, 95, 96, 97, 98, 99, 100, 101, 102, 103, 104, 105, 106, 107, 108, 109, 110, 111, 112, 113, 114, 115, 116, 117, 118, 119, 120, 121, 122, 123, 124, 125, 126, 127, 128, 129, 130, 131, 132, 133, 134, 135, 136, 137, 138, 139, 140, 141, 142, 143, 144, 145, 146, 147, 148, 149, 150, 151, 152, 153, 154, 155, 156, 157, 158, 159, 160, 161, 166, 167, 168, 169, 170, 171, 172, 173, 174, 175, 176, 177, 178, 179, 180, 181, 182, 183, 184, 185, 186, 187, 188, 189, 190, 191, 192, 193, 194, 195, 196, 197, 198, 199, 200, 201, 202, 203, 204, 205, 206, 207, 208, 209, 210, 211, 212, 213] (by decide +kernel) (by decide +kernel)
set_option maxRecDepth 20000 in
theorem gX11_pass_X7_passTides : GoodIn wsX11_pass (wsV RX11 213 RX7 yX7_passTides wsX7_passTides) := goodIn_app (goodIn_of _ (by decide +kernel)) ggX11_pass_X7_passTides
set_option maxRecDepth 20000 in
theorem ggX11_foresee_X11_checkTides : GoodIn wsX11_foresee wsX11_checkTides := goodIn_ca (goodIn_r _ [6, 7, 8] (by decide +kernel) (by decide +kernel)) (goodIn_sub (fun _ h => List.mem_cons_of_mem _ (List.mem_append_right _ h)) (by decide +kernel))
set_option maxRecDepth 20000 in
theorem gX11_foresee_X11_checkTides : GoodIn wsX11_foresee (va_wsS RX11 209 yX11_checkTides wsX11_checkTides) := goodIn_app (goodIn_of _ (by decide +kernel)) ggX11_foresee_X11_checkTides
set_option maxRecDepth 20000 in
theorem ggX11_foresee_X11_lookAhead : GoodIn wsX11_foresee wsX11_lookAhead := goodIn_r _ [12, 13, 14, 15, 16, 17, 18, 19, 20, 21, 22, 23, 24, 25, 26, 27, 28, 29, 30, 31, 32, 33, 34, 35, 36, 37, 38, 39, 40, 41, 42, 43, 44, 45, 46, 47, 48, 49, 50, 51, 52, 53, 54, 55, 56, 57, 58, 59, 60, 61, 62, 63, 64, 65, 66, 67, 68, 69, 70, 71, 72, 73, 74, 75, 76, 77, 78, 79, 80, 81, 82, 83, 84, 85, 228, 229, 230, 231, 232, 233, 234, 235, 236, 237, 238, 239, 240, 241, 242, 243, 244, 245, 246, 247, 248, 249, 250, 251, 252, 253, 254, 255, 256, 257, 258, 259, 260, 261, 262, 263, 264, 265, 266, 267, 268, 269, 270, 271, 272, 273, 274, 275, 276, 277, 278, 279] (by decide +kernel) (by decide +kernel)
set_option maxRecDepth 20000 in
theorem gX11_foresee_X11_lookAhead : GoodIn wsX11_foresee (wsV RX11 219 RX11 yX11_lookAhead wsX11_lookAhead) := goodIn_app (goodIn_of _ (by decide +kernel)) ggX11_foresee_X11_lookAhead
set_option maxRecDepth 20000 in
theorem ggX11_foresee_X7_passTides : GoodIn wsX11_foresee wsX7_passTides := goodIn_r _ [89, 21, 23, 90, 25, 29, 22, 26, 20, 91, 92, 93, 18, 94, 95, 96, 97, 98, 99, 100, 101, 102, 103, 104, 105, 24, 28, 106, 107, 108, 109, 110, 30, 111, 112, 113, 81, 114, 83, 115, 84, 116, 85, 117, 118, 119, 120, 121, 122, 123, 124, 125, 126, 127, 128, 129, 130, 131, 132, 133, 134, 135, 136, 137, 138, 34, 139, 39, 140, 141, 142, 143, 144, 145, 146, 147, 148, 149, 150, 151, 152, 153, 27, 154, 155, 156, 157, 158, 159, 160, 68, 161, 73, 77, 162, 163, 164, 165, 166, 167, 168, 169, 170, 171, 172, 173, 174, 175, 176, 177, 178, 179, 180, 181, 182, 43, 183, 46, 184, 52, 185, 186, 187, 188, 189, 190, 191, 192, 193, 194, 195, 196, 197, 198, 199, 200, 201, 202, 203, 70, 204, 205, 206, 207, 208, 209, 210, 211, 212, 213, 214, 232, 233, 234, 235, 236, 237, 238, 239, 240, 241, 242, 243, 244, 245, 246, 247, 248, 249, 250, 251, 252, 264, 265, 266, 267, 276, 277, 278, 279, 253, 254, 255, 256, 257, 258, 259, 260, 261, 262, 263, 268, 269, 270, 271, 272, 273, 274, 275] (by decide +kernel) (by decide +kernel)
set_option maxRecDepth 20000 in
theorem gX11_foresee_X7_passTides : GoodIn wsX11_foresee (wsV RX11 213 RX7 yX7_passTides wsX7_passTides) := goodIn_app (goodIn_of _ (by decide +kernel)) ggX11_foresee_X7_passTides
set_option maxRecDepth 20000 in
theorem ggX11_foresee_X7_allStores : GoodIn wsX11_foresee wsX7_allStores := goodIn_r _ [218, 23, 27, 208, 232, 233, 234, 235, 236, 237, 238, 239, 240, 241, 242, 243, 244, 245, 246, 247, 248, 253, 254, 255, 256, 257, 258, 259, 260, 261, 262, 263] (by decide +kernel) (by decide +kernel)
set_option maxRecDepth 20000 in
theorem gX11_foresee_X7_allStores : GoodIn wsX11_foresee (wsV RX11 83 RX7 yX7_allStores wsX7_allStores) := goodIn_app (goodIn_of _ (by decide +kernel)) ggX11_foresee_X7_allStores
set_option maxRecDepth 20000 in
theorem ggX11_foresee_X7_allFish : GoodIn wsX11_foresee wsX7_allFish := goodIn_r _ [222, 22, 26, 162, 137, 138, 34, 139, 39, 232, 233, 234, 235, 236, 237, 238, 239, 240, 241, 242, 243, 244, 245, 246, 247, 248, 249, 250, 251, 252] (by decide +kernel) (by decide +kernel)
set_option maxRecDepth 20000 in
theorem gX11_foresee_X7_allFish : GoodIn wsX11_foresee (wsV RX11 80 RX7 yX7_allFish wsX7_allFish) := goodIn_app (goodIn_of _ (by decide +kernel)) ggX11_foresee_X7_allFish
set_option maxRecDepth 20000 in
theorem ggX11_foresee_X7_storeGap : GoodIn wsX11_foresee wsX7_storeGap := goodIn_r _ [226, 23, 27, 208, 178, 144, 145, 146, 227, 148, 149, 232, 233, 234, 235, 236, 237, 238, 239, 240, 241, 242, 243, 244, 245, 246, 247, 248, 253, 254, 255, 256, 257, 258, 259, 260, 261, 262, 263] (by decide +kernel) (by decide +kernel)
set_option maxRecDepth 20000 in
theorem gX11_foresee_X7_storeGap : GoodIn wsX11_foresee (wsV RX11 206 RX7 yX7_storeGap wsX7_storeGap) := goodIn_app (goodIn_of _ (by decide +kernel)) ggX11_foresee_X7_storeGap
set_option maxRecDepth 20000 in
theorem ggX11_pays_X11_checkFisher : GoodIn wsX11_pays wsX11_checkFisher := goodIn_ca (goodIn_r _ [8, 9, 10, 11, 12, 251, 252, 253, 254, 223, 224, 225, 226, 227, 228, 229, 230, 231, 232, 233, 234, 235, 236, 237, 238, 239] (by decide +kernel) (by decide +kernel)) (goodIn_sub (fun _ h => List.mem_cons_of_mem _ (List.mem_append_left _ (List.mem_append_right _ h))) (by decide +kernel))
set_option maxRecDepth 20000 in
theorem gX11_pays_X11_checkFisher : GoodIn wsX11_pays (wsV RX11 122 RX11 yX11_checkFisher wsX11_checkFisher) := goodIn_app (goodIn_of _ (by decide +kernel)) ggX11_pays_X11_checkFisher
set_option maxRecDepth 20000 in
theorem ggX11_pays_X11_checkTides : GoodIn wsX11_pays wsX11_checkTides := goodIn_ca (goodIn_r _ [15, 16, 17] (by decide +kernel) (by decide +kernel)) (goodIn_sub (fun _ h => List.mem_cons_of_mem _ (List.mem_append_right _ h)) (by decide +kernel))
set_option maxRecDepth 20000 in
theorem gX11_pays_X11_checkTides : GoodIn wsX11_pays (va_wsS RX11 209 yX11_checkTides wsX11_checkTides) := goodIn_app (goodIn_of _ (by decide +kernel)) ggX11_pays_X11_checkTides
set_option maxRecDepth 20000 in
theorem ggX11_pays_X11_lookAhead : GoodIn wsX11_pays wsX11_lookAhead := goodIn_r _ [21, 22, 11, 23, 24, 25, 26, 27, 28, 29, 30, 31, 32, 33, 34, 35, 36, 37, 38, 39, 40, 41, 42, 43, 44, 45, 46, 47, 48, 49, 50, 51, 52, 53, 54, 55, 56, 57, 58, 59, 60, 61, 62, 63, 64, 65, 66, 67, 68, 69, 70, 71, 72, 73, 74, 75, 76, 77, 78, 79, 80, 81, 82, 83, 84, 85, 86, 87, 88, 89, 90, 91, 92, 93, 251, 252, 253, 254, 223, 224, 225, 226, 227, 228, 229, 230, 231, 232, 233, 234, 235, 236, 237, 238, 239, 255, 256, 257, 258, 240, 241, 242, 243, 244, 245, 246, 247, 248, 249, 250, 259, 260, 261, 262, 263, 264, 265, 266, 267, 268, 269, 270, 271, 272, 273, 274] (by decide +kernel) (by decide +kernel)
set_option maxRecDepth 20000 in
theorem gX11_pays_X11_lookAhead : GoodIn wsX11_pays (wsV RX11 219 RX11 yX11_lookAhead wsX11_lookAhead) := goodIn_app (goodIn_of _ (by decide +kernel)) ggX11_pays_X11_lookAhead
set_option maxRecDepth 20000 in
theorem ggX11_pays_X7_passTides : GoodIn wsX11_pays wsX7_passTides := goodIn_r _ [97, 29, 31, 98, 33, 37, 30, 34, 28, 99, 100, 101, 26, 102, 103, 104, 105, 106, 107, 108, 109, 110, 111, 112, 113, 32, 36, 114, 115, 116, 117, 118, 38, 119, 120, 121, 89, 122, 91, 123, 92, 124, 93, 125, 126, 127, 128, 129, 130, 131, 132, 133, 134, 135, 136, 137, 138, 139, 140, 141, 142, 143, 144, 145, 146, 42, 147, 47, 148, 149, 150, 151, 152, 153, 154, 155, 156, 157, 158, 159, 160, 161, 35, 162, 163, 164, 165, 166, 167, 168, 76, 169, 81, 85, 170, 171, 172, 173, 174, 175, 176, 177, 178, 179, 180, 181, 182, 183, 184, 185, 186, 187, 188, 189, 190, 51, 191, 54, 192, 60, 193, 194, 195, 196, 197, 198, 199, 200, 201, 202, 203, 204, 205, 206, 207, 208, 209, 210, 211, 78, 212, 213, 214, 215, 216, 217, 218, 219, 220, 221, 222, 223, 224, 225, 226, 227, 228, 229, 230, 231, 232, 233, 234, 235, 236, 237, 238, 239, 255, 256, 257, 258, 259, 260, 261, 262, 271, 272, 273, 274, 240, 241, 242, 243, 244, 245, 246, 247, 248, 249, 250, 263, 264, 265, 266, 267, 268, 269, 270] (by decide +kernel) (by decide +kernel)
set_option maxRecDepth 20000 in
theorem gX11_pays_X7_passTides : GoodIn wsX11_pays (wsV RX11 213 RX7 yX7_passTides wsX7_passTides) := goodIn_app (goodIn_of _ (by decide +kernel)) ggX11_pays_X7_passTides
set_option maxRecDepth 20000 in
theorem ggX11_empty_X11_checkGround : GoodIn wsX11_empty wsX11_checkGround := goodIn_ca (goodIn_r _ [6, 7, 8, 9, 10, 234, 235, 236, 237, 217, 218, 219, 220, 221, 222, 223, 224, 225, 226, 227, 228, 229, 230, 231, 232, 233] (by decide +kernel) (by decide +kernel)) (goodIn_sub (fun _ h => List.mem_cons_of_mem _ (List.mem_append_right _ h)) (by decide +kernel))
set_option maxRecDepth 20000 in
theorem gX11_empty_X11_checkGround : GoodIn wsX11_empty (wsV RX11 97 RX11 yX11_checkGround wsX11_checkGround) := goodIn_app (goodIn_of _ (by decide +kernel)) ggX11_empty_X11_checkGround
set_option maxRecDepth 20000 in
theorem ggX11_empty_X11_lookAhead : GoodIn wsX11_empty wsX11_lookAhead := goodIn_r _ [14, 15, 9, 16, 17, 18, 19, 20, 21, 22, 23, 24, 25, 26, 27, 28, 29, 30, 31, 32, 33, 34, 35, 36, 37, 38, 39, 40, 41, 42, 43, 44, 45, 46, 47, 48, 49, 50, 51, 52, 53, 54, 55, 56, 57, 58, 59, 60, 61, 62, 63, 64, 65, 66, 67, 68, 69, 70, 71, 72, 73, 74, 75, 76, 77, 78, 79, 80, 81, 82, 83, 84, 85, 86, 234, 235, 236, 237, 217, 218, 219, 220, 221, 222, 223, 224, 225, 226, 227, 228, 229, 230, 231, 232, 233, 238, 239, 240, 241, 242, 243, 244, 245, 246, 247, 248, 249, 250, 251, 252, 253, 254, 255, 256, 257, 258, 259, 260, 261, 262, 263, 264, 265, 266, 267, 268] (by decide +kernel) (by decide +kernel)
set_option maxRecDepth 20000 in
theorem gX11_empty_X11_lookAhead : GoodIn wsX11_empty (wsV RX11 219 RX11 yX11_lookAhead wsX11_lookAhead) := goodIn_app (goodIn_of _ (by decide +kernel)) ggX11_empty_X11_lookAhead
set_option maxRecDepth 20000 in
theorem ggX11_empty_X7_passTides : GoodIn wsX11_empty wsX7_passTides := goodIn_r _ [90, 22, 24, 91, 26, 30, 23, 27, 21, 92, 93, 94, 19, 95, 96, 97, 98, 99, 100, 101, 102, 103, 104, 105, 106, 25, 29, 107, 108, 109, 110, 111, 31, 112, 113, 114, 82, 115, 84, 116, 85, 117, 86, 118, 119, 120, 121, 122, 123, 124, 125, 126, 127, 128, 129, 130, 131, 132, 133, 134, 135, 136, 137, 138, 139, 35, 140, 40, 141, 142, 143, 144, 145, 146, 147, 148, 149, 150, 151, 152, 153, 154, 28, 155, 156, 157, 158, 159, 160, 161, 69, 162, 74, 78, 163, 164, 165, 166, 167, 168, 169, 170, 171, 172, 173, 174, 175, 176, 177, 178, 179, 180, 181, 182, 183, 44, 184, 47, 185, 53, 186, 187, 188, 189, 190, 191, 192, 193, 194, 195, 196, 197, 198, 199, 200, 201, 202, 203, 204, 71, 205, 206, 207, 208, 209, 210, 211, 212, 213, 214, 215, 217, 218, 219, 220, 221, 222, 223, 224, 225, 226, 227, 228, 229, 230, 231, 232, 233, 238, 239, 240, 241, 253, 254, 255, 256, 265, 266, 267, 268, 242, 243, 244, 245, 246, 247, 248, 249, 250, 251, 252, 257, 258, 259, 260, 261, 262, 263, 264] (by decide +kernel) (by decide +kernel)
set_option maxRecDepth 20000 in
theorem gX11_empty_X7_passTides : GoodIn wsX11_empty (wsV RX11 213 RX7 yX7_passTides wsX7_passTides) := goodIn_app (goodIn_of _ (by decide +kernel)) ggX11_empty_X7_passTides
set_option maxRecDepth 20000 in
theorem ggX11_empty_X3_allFish : GoodIn wsX11_empty wsX3_allFish := goodIn_r _ [140, 40, 238, 239, 240, 241] (by decide +kernel) (by decide +kernel)
set_option maxRecDepth 20000 in
theorem gX11_empty_X3_allFish : GoodIn wsX11_empty (wsV RX11 104 RX3 yX3_allFish wsX3_allFish) := goodIn_app (goodIn_of _ (by decide +kernel)) ggX11_empty_X3_allFish
set_option maxRecDepth 20000 in
theorem ggX11_advise_X11_checkFisher : GoodIn wsX11_advise wsX11_checkFisher := goodIn_ca (goodIn_r _ [8, 9, 10, 11, 12, 251, 252, 253, 254, 223, 224, 225, 226, 227, 228, 229, 230, 231, 232, 233, 234, 235, 236, 237, 238, 239] (by decide +kernel) (by decide +kernel)) (goodIn_sub (fun _ h => List.mem_cons_of_mem _ (List.mem_append_left _ (List.mem_append_right _ h))) (by decide +kernel))
set_option maxRecDepth 20000 in
theorem gX11_advise_X11_checkFisher : GoodIn wsX11_advise (wsV RX11 122 RX11 yX11_checkFisher wsX11_checkFisher) := goodIn_app (goodIn_of _ (by decide +kernel)) ggX11_advise_X11_checkFisher
set_option maxRecDepth 20000 in
theorem ggX11_advise_X11_checkTides : GoodIn wsX11_advise wsX11_checkTides := goodIn_ca (goodIn_r _ [15, 16, 17] (by decide +kernel) (by decide +kernel)) (goodIn_sub (fun _ h => List.mem_cons_of_mem _ (List.mem_append_right _ h)) (by decide +kernel))
set_option maxRecDepth 20000 in
theorem gX11_advise_X11_checkTides : GoodIn wsX11_advise (va_wsS RX11 209 yX11_checkTides wsX11_checkTides) := goodIn_app (goodIn_of _ (by decide +kernel)) ggX11_advise_X11_checkTides
set_option maxRecDepth 20000 in
theorem ggX11_advise_X11_lookAhead : GoodIn wsX11_advise wsX11_lookAhead := goodIn_r _ [21, 22, 11, 23, 24, 25, 26, 27, 28, 29, 30, 31, 32, 33, 34, 35, 36, 37, 38, 39, 40, 41, 42, 43, 44, 45, 46, 47, 48, 49, 50, 51, 52, 53, 54, 55, 56, 57, 58, 59, 60, 61, 62, 63, 64, 65, 66, 67, 68, 69, 70, 71, 72, 73, 74, 75, 76, 77, 78, 79, 80, 81, 82, 83, 84, 85, 86, 87, 88, 89, 90, 91, 92, 93, 251, 252, 253, 254, 223, 224, 225, 226, 227, 228, 229, 230, 231, 232, 233, 234, 235, 236, 237, 238, 239, 255, 256, 257, 258, 240, 241, 242, 243, 244, 245, 246, 247, 248, 249, 250, 259, 260, 261, 262, 263, 264, 265, 266, 267, 268, 269, 270, 271, 272, 273, 274] (by decide +kernel) (by decide +kernel)
set_option maxRecDepth 20000 in
theorem gX11_advise_X11_lookAhead : GoodIn wsX11_advise (wsV RX11 219 RX11 yX11_lookAhead wsX11_lookAhead) := goodIn_app (goodIn_of _ (by decide +kernel)) ggX11_advise_X11_lookAhead
set_option maxRecDepth 20000 in
theorem ggX11_advise_X7_passTides : GoodIn wsX11_advise wsX7_passTides := goodIn_r _ [97, 29, 31, 98, 33, 37, 30, 34, 28, 99, 100, 101, 26, 102, 103, 104, 105, 106, 107, 108, 109, 110, 111, 112, 113, 32, 36, 114, 115, 116, 117, 118, 38, 119, 120, 121, 89, 122, 91, 123, 92, 124, 93, 125, 126, 127, 128, 129, 130, 131, 132, 133, 134, 135, 136, 137, 138, 139, 140, 141, 142, 143, 144, 145, 146, 42, 147, 47, 148, 149, 150, 151, 152, 153, 154, 155, 156, 157, 158, 159, 160, 161, 35, 162, 163, 164, 165, 166, 167, 168, 76, 169, 81, 85, 170, 171, 172, 173, 174, 175, 176, 177, 178, 179, 180, 181, 182, 183, 184, 185, 186, 187, 188, 189, 190, 51, 191, 54, 192, 60, 193, 194, 195, 196, 197, 198, 199, 200, 201, 202, 203, 204, 205, 206, 207, 208, 209, 210, 211, 78, 212, 213, 214, 215, 216, 217, 218, 219, 220, 221, 222, 223, 224, 225, 226, 227, 228, 229, 230, 231, 232, 233, 234, 235, 236, 237, 238, 239, 255, 256, 257, 258, 259, 260, 261, 262, 271, 272, 273, 274, 240, 241, 242, 243, 244, 245, 246, 247, 248, 249, 250, 263, 264, 265, 266, 267, 268, 269, 270] (by decide +kernel) (by decide +kernel)
set_option maxRecDepth 20000 in
theorem gX11_advise_X7_passTides : GoodIn wsX11_advise (wsV RX11 213 RX7 yX7_passTides wsX7_passTides) := goodIn_app (goodIn_of _ (by decide +kernel)) ggX11_advise_X7_passTides
set_option maxRecDepth 20000 in
theorem ggX11_mean_X7_allStores : GoodIn wsX11_mean wsX7_allStores := goodIn_r _ [7, 8, 9, 10, 15, 16, 17, 18, 19, 20, 21, 22, 23, 24, 25, 26, 27, 28, 29, 30, 31, 32, 33, 34, 35, 36, 37, 38, 39, 40, 41, 42] (by decide +kernel) (by decide +kernel)
set_option maxRecDepth 20000 in
theorem gX11_mean_X7_allStores : GoodIn wsX11_mean (wsV RX11 83 RX7 yX7_allStores wsX7_allStores) := goodIn_app (goodIn_of _ (by decide +kernel)) ggX11_mean_X7_allStores
set_option maxRecDepth 20000 in
theorem ggX11_digest_X11_count : GoodIn wsX11_digest wsX11_count := goodIn_ca (goodIn_r _ [12, 13, 14, 3, 15, 4, 5, 16, 6, 17, 18, 19, 20, 21, 22, 23, 24, 25, 26, 27, 28, 29, 30, 31, 32, 33, 34, 35, 36, 37, 38, 39, 40, 41, 42, 43, 44, 45, 46, 47, 48, 49, 113, 114, 115, 116, 117, 118, 119, 120, 121, 122, 123, 124, 125, 126, 127, 128, 129, 130, 131, 132, 133, 134, 135, 136, 137, 138, 139, 140, 141, 142, 143, 144, 145, 146, 147, 148, 149, 150, 151, 152, 153, 154] (by decide +kernel) (by decide +kernel)) (goodIn_sub (fun _ h => List.mem_cons_of_mem _ (List.mem_append_right _ h)) (by decide +kernel))
set_option maxRecDepth 20000 in
theorem gX11_digest_X11_count : GoodIn wsX11_digest (wsV RX11 227 RX11 yX11_count wsX11_count) := goodIn_app (goodIn_of _ (by decide +kernel)) ggX11_digest_X11_count
set_option maxRecDepth 20000 in
theorem ggX11_digest_X11_ground : GoodIn wsX11_digest wsX11_ground := goodIn_ca (goodIn_r _ [53, 13, 14, 3, 54, 55, 56, 57, 58, 59, 60, 61, 11, 62, 4, 63, 27, 28, 29, 30, 31, 113, 114, 115, 116, 117, 118, 119, 120, 121, 122, 123, 124, 125, 126, 127, 128, 129, 130, 131, 132, 133, 140, 141, 142, 143] (by decide +kernel) (by decide +kernel)) (goodIn_sub (fun _ h => List.mem_cons_of_mem _ (List.mem_append_right _ h)) (by decide +kernel))
set_option maxRecDepth 20000 in
theorem gX11_digest_X11_ground : GoodIn wsX11_digest (wsV RX11 230 RX11 yX11_ground wsX11_ground) := goodIn_app (goodIn_of _ (by decide +kernel)) ggX11_digest_X11_ground
set_option maxRecDepth 20000 in
theorem ggX11_digest_X11_took : GoodIn wsX11_digest wsX11_took := goodIn_ca (goodIn_r _ [67, 3, 68, 69, 59, 60, 61, 11, 62, 13, 14, 4, 70, 71, 72, 73, 5, 113, 114, 115, 116, 117, 118, 119, 120, 121, 122, 123, 124, 125, 126, 127, 128, 129, 130, 131, 132, 133, 144, 145, 146, 147, 148, 149, 150, 151, 152, 153, 154] (by decide +kernel) (by decide +kernel)) (goodIn_sub (fun _ h => List.mem_cons_of_mem _ (List.mem_append_right _ h)) (by decide +kernel))
set_option maxRecDepth 20000 in
theorem gX11_digest_X11_took : GoodIn wsX11_digest (wsV RX11 233 RX11 yX11_took wsX11_took) := goodIn_app (goodIn_of _ (by decide +kernel)) ggX11_digest_X11_took
set_option maxRecDepth 20000 in
theorem ggX11_digest_X11_fisher : GoodIn wsX11_digest wsX11_fisher := goodIn_ca (goodIn_r _ [77, 13, 14, 3, 68, 78, 79, 80, 81, 82, 83, 84, 85, 86, 87, 70, 71, 72, 11, 73, 5, 113, 114, 115, 116, 117, 118, 119, 120, 121, 122, 123, 124, 125, 126, 127, 128, 129, 130, 131, 132, 133, 144, 145, 146, 147, 148, 149, 150, 151, 152, 153, 154] (by decide +kernel) (by decide +kernel)) (goodIn_sub (fun _ h => List.mem_cons_of_mem _ (List.mem_append_right _ h)) (by decide +kernel))
set_option maxRecDepth 20000 in
theorem gX11_digest_X11_fisher : GoodIn wsX11_digest (wsV RX11 235 RX11 yX11_fisher wsX11_fisher) := goodIn_app (goodIn_of _ (by decide +kernel)) ggX11_digest_X11_fisher
set_option maxRecDepth 20000 in
theorem ggX11_digest_X11_pact : GoodIn wsX11_digest wsX11_pact := goodIn_ca (goodIn_r _ [91, 13, 14, 3, 6, 92, 93, 94, 95, 96, 97, 98, 99, 100, 101, 102, 103, 104, 113, 114, 115, 116, 117, 118, 119, 120, 121, 122, 123, 124, 125, 126, 127, 128, 129, 130, 131, 132, 133, 155, 156, 157, 158, 159, 160, 161, 162] (by decide +kernel) (by decide +kernel)) (goodIn_sub (fun _ h => List.mem_cons_of_mem _ (List.mem_append_right _ h)) (by decide +kernel))
set_option maxRecDepth 20000 in
theorem gX11_digest_X11_pact : GoodIn wsX11_digest (wsV RX11 238 RX11 yX11_pact wsX11_pact) := goodIn_app (goodIn_of _ (by decide +kernel)) ggX11_digest_X11_pact
set_option maxRecDepth 20000 in
theorem ggX11_digest_X7_drawLots : GoodIn wsX11_digest wsX7_drawLots := goodIn_r _ [108, 109, 36, 110, 111, 112, 117, 118, 119, 120, 121, 122, 123, 124, 125, 126, 127, 128, 129, 130, 131, 132, 133] (by decide +kernel) (by decide +kernel)
set_option maxRecDepth 20000 in
theorem gX11_digest_X7_drawLots : GoodIn wsX11_digest (wsV RX11 197 RX7 yX7_drawLots wsX7_drawLots) := goodIn_app (goodIn_of _ (by decide +kernel)) ggX11_digest_X7_drawLots
set_option maxRecDepth 20000 in
theorem ggX11_lookAhead_X7_copyFrom : GoodIn wsX11_lookAhead wsX7_copyFrom := goodIn_r _ [7, 8, 9, 10, 11, 12, 13, 14, 15, 16, 17, 18, 19, 20, 21, 22, 23, 24, 25, 26, 27, 28, 29, 30, 31, 32, 33, 34, 35, 36, 37, 38, 39, 40, 41, 42, 43, 44, 45, 46, 47, 48, 49, 50, 51, 52, 53, 54, 55, 56, 57, 58, 59, 60, 61, 62, 63, 64, 65, 66, 67, 68, 69, 70, 71, 72, 73, 78, 79, 80, 81, 82, 83, 84, 85, 86, 87, 88, 89, 90, 91, 92, 93, 94, 95, 96, 97, 98, 99, 100, 101, 102, 103, 104, 105, 106, 107, 108, 109, 110, 111, 112, 113, 114, 115, 116, 117, 118, 119, 120, 121, 122, 123, 124, 125] (by decide +kernel) (by decide +kernel)
set_option maxRecDepth 20000 in
theorem gX11_lookAhead_X7_copyFrom : GoodIn wsX11_lookAhead (wsV RX11 241 RX7 yX7_copyFrom wsX7_copyFrom) := goodIn_app (goodIn_of _ (by decide +kernel)) ggX11_lookAhead_X7_copyFrom
set_option maxRecDepth 20000 in
theorem ggX12_become_X12_copy : GoodIn wsX12_become wsX12_copy := goodIn_r _ [19, 20, 21, 22, 23] (by decide +kernel) (by decide +kernel)
set_option maxRecDepth 20000 in
theorem gX12_become_X12_copy : GoodIn wsX12_become (wsV RX12 77 RX12 yX12_copy wsX12_copy) := goodIn_app (goodIn_of _ (by decide +kernel)) ggX12_become_X12_copy
set_option maxRecDepth 20000 in
theorem ggX12_begin_X12_copy : GoodIn wsX12_begin wsX12_copy := goodIn_r _ [19, 20, 21, 22, 23] (by decide +kernel) (by decide +kernel)
set_option maxRecDepth 20000 in
theorem gX12_begin_X12_copy : GoodIn wsX12_begin (wsV RX12 77 RX12 yX12_copy wsX12_copy) := goodIn_app (goodIn_of _ (by decide +kernel)) ggX12_begin_X12_copy
set_option maxRecDepth 20000 in
theorem ggX12_pass_X12_draw : GoodIn wsX12_pass wsX12_draw := goodIn_r _ [11, 2, 12, 13, 14, 3, 15, 16, 17, 18, 82, 83, 84, 85, 86, 87, 88, 89, 90, 91, 92, 93, 94, 95, 96, 97, 98, 99, 100, 101, 102, 103, 104, 105, 106, 107, 108, 109, 110, 111, 112, 113, 114, 115, 116, 117, 118, 119, 120, 121, 122, 123, 124, 125, 126, 127, 128, 129, 130, 131, 132, 133, 134, 135, 136, 137, 138, 139, 140] (by decide +kernel) (by decide +kernel)
set_option maxRecDepth 20000 in
theorem gX12_pass_X12_draw : GoodIn wsX12_pass (wsV RX12 106 RX12 yX12_draw wsX12_draw) := goodIn_app (goodIn_of _ (by decide +kernel)) ggX12_pass_X12_draw
set_option maxRecDepth 20000 in
theorem ggX12_pass_X12_fisher : GoodIn wsX12_pass wsX12_fisher := goodIn_r _ [22, 23, 2, 5, 1, 24, 25, 26, 10, 27, 28, 29, 30, 31, 32, 33, 6, 34, 35, 36, 37, 38, 39, 40, 41, 42, 43, 4, 44, 45, 46, 47, 48, 49, 50, 51, 52, 53, 54, 55, 56, 57, 58, 59, 60, 61, 62, 63, 64, 65, 66, 67, 68, 69, 70, 82, 83, 84, 85, 86, 87, 88, 89, 90, 91, 92, 93, 94, 95, 96, 97, 98, 99, 100, 101, 102, 103, 104, 105, 106, 107, 108, 109, 110, 111, 112, 113, 114, 115, 116, 117, 118, 119, 120, 121, 122, 123, 124, 125, 126, 127, 128, 129, 130, 131, 132, 133, 134, 135, 136, 137, 138, 139, 140] (by decide +kernel) (by decide +kernel)
set_option maxRecDepth 20000 in
theorem gX12_pass_X12_fisher : GoodIn wsX12_pass (wsV RX12 109 RX12 yX12_fisher wsX12_fisher) := goodIn_app (goodIn_of _ (by decide +kernel)) ggX12_pass_X12_fisher
set_option maxRecDepth 20000 in
theorem ggX12_pass_X12_split : GoodIn wsX12_pass wsX12_split := goodIn_r _ [74, 2, 28, 5, 75, 76, 77, 82, 83, 84, 85, 86, 87, 88, 89, 90, 91, 92, 93, 94, 95, 96, 97, 98, 99, 100, 101, 102, 103, 104, 105, 106, 107, 108, 109, 110, 111, 112, 113, 114, 115, 116, 117, 118, 119, 120, 121, 122, 123, 124, 125, 126, 127, 128, 129, 130, 131, 132, 133, 134, 135, 136, 137, 138, 139, 140] (by decide +kernel) (by decide +kernel)
set_option maxRecDepth 20000 in
theorem gX12_pass_X12_split : GoodIn wsX12_pass (wsV RX12 119 RX12 yX12_split wsX12_split) := goodIn_app (goodIn_of _ (by decide +kernel)) ggX12_pass_X12_split
set_option maxRecDepth 20000 in
theorem ggX12_pass_X12_grow : GoodIn wsX12_pass wsX12_grow := goodIn_r _ [81, 49, 68, 53, 54, 55, 45, 46, 47, 10, 48, 82, 83, 84, 85, 86, 87, 88, 89, 90, 91, 92, 93, 94, 95, 96, 97, 98, 99, 100] (by decide +kernel) (by decide +kernel)
set_option maxRecDepth 20000 in
theorem gX12_pass_X12_grow : GoodIn wsX12_pass (wsV RX12 125 RX12 yX12_grow wsX12_grow) := goodIn_app (goodIn_of _ (by decide +kernel)) ggX12_pass_X12_grow
set_option maxRecDepth 20000 in
theorem ggX12_fisher_X12_canGo : GoodIn wsX12_fisher wsX12_canGo := goodIn_r _ [9, 2, 4, 10, 11, 12, 13, 8, 14, 15, 16, 17, 18, 19, 20, 21, 22, 23, 24, 25, 26, 27, 3, 28, 29, 30, 31, 32, 33, 34, 35, 36, 37, 38, 39, 40, 41, 42, 43, 44, 45, 46, 55, 56, 57, 58, 59, 60, 61, 62, 63, 64, 65, 66, 67, 68, 69, 70, 71, 72, 73, 74, 75, 76, 77, 78, 79, 80, 81, 82, 83, 84, 85, 86, 87, 88, 89, 90, 91, 92, 93, 94, 95, 96, 97, 98, 99, 100, 101, 102, 103, 104, 105, 106, 107, 108, 109, 110, 111, 112, 113] (by decide +kernel) (by decide +kernel)
set_option maxRecDepth 20000 in
theorem gX12_fisher_X12_canGo : GoodIn wsX12_fisher (wsV RX12 134 RX12 yX12_canGo wsX12_canGo) := goodIn_app (goodIn_of _ (by decide +kernel)) ggX12_fisher_X12_canGo
set_option maxRecDepth 20000 in
theorem ggX12_fisher_X12_fishFor : GoodIn wsX12_fisher wsX12_fishFor := goodIn_r _ [50, 51, 28, 33, 2, 52, 37, 38, 39, 53, 3, 54, 55, 56, 57, 58, 59, 60, 61, 62, 63, 64, 65, 66, 67, 68, 69, 70, 71, 72, 73, 74, 75, 76, 77, 78, 79, 80, 81, 82, 83, 84, 85, 86, 87, 88, 89, 90, 91, 92, 93, 94, 95, 96, 97, 98, 99, 100, 101, 102, 103, 104, 105, 106, 107, 108, 109, 110, 111, 112, 113] (by decide +kernel) (by decide +kernel)
set_option maxRecDepth 20000 in
theorem gX12_fisher_X12_fishFor : GoodIn wsX12_fisher (wsV RX12 141 RX12 yX12_fishFor wsX12_fishFor) := goodIn_app (goodIn_of _ (by decide +kernel)) ggX12_fisher_X12_fishFor
set_option maxRecDepth 20000 in
theorem ggX12_canGo_X12_carryOut : GoodIn wsX12_canGo wsX12_carryOut := goodIn_r _ [8, 1, 9, 10, 11, 12, 13, 14, 15, 16, 17, 18, 19, 7, 20, 21, 22, 23, 2, 3, 24, 25, 26, 27, 28, 29, 30, 31, 32, 33, 34, 35, 36, 37, 42, 43, 44, 45, 46, 47, 48, 49, 50, 51, 52, 53, 54, 55, 56, 57, 58, 59, 60, 61, 62, 63, 64, 65, 66, 67, 68, 69, 70, 71, 72, 73, 74, 75, 76, 77, 78, 79, 80, 81, 82, 83, 84, 85, 86, 87, 88, 89, 90, 91, 92, 93, 94, 95, 96, 97, 98, 99, 100] (by decide +kernel) (by decide +kernel)
set_option maxRecDepth 20000 in
theorem gX12_canGo_X12_carryOut : GoodIn wsX12_canGo (wsV RX12 154 RX12 yX12_carryOut wsX12_carryOut) := goodIn_app (goodIn_of _ (by decide +kernel)) ggX12_canGo_X12_carryOut
set_option maxRecDepth 20000 in
theorem ggX12_canGo_X12_isSpared : GoodIn wsX12_canGo wsX12_isSpared := goodIn_r _ [41, 1, 24, 25, 26, 7, 27, 28, 4, 5, 6, 8, 9, 10, 11, 12, 13, 14, 15, 16, 17, 18, 19, 20, 21, 22, 23, 2, 3, 29, 30, 31, 32, 33, 34, 35, 36, 37, 42, 43, 44, 45, 46, 47, 48, 49, 50, 51, 52, 53, 54, 55, 56, 57, 58, 59, 60, 61, 62, 63, 64, 65, 66, 67, 68, 69, 70, 71, 72, 73, 74, 75, 76, 77, 78, 79, 80, 81, 82, 83, 84, 85, 86, 87, 88, 89, 90, 91, 92, 93, 94, 95, 96, 97, 98, 99, 100] (by decide +kernel) (by decide +kernel)
set_option maxRecDepth 20000 in
theorem gX12_canGo_X12_isSpared : GoodIn wsX12_canGo (wsV RX12 157 RX12 yX12_isSpared wsX12_isSpared) := goodIn_app (goodIn_of _ (by decide +kernel)) ggX12_canGo_X12_isSpared
set_option maxRecDepth 20000 in
theorem ggX12_isSpared_X12_fishAt : GoodIn wsX12_isSpared wsX12_fishAt := goodIn_r _ [6, 7, 38, 39, 40, 41, 42, 43, 44, 45, 46, 47, 48, 49, 50, 51, 52, 53, 54, 55, 56] (by decide +kernel) (by decide +kernel)
set_option maxRecDepth 20000 in
theorem gX12_isSpared_X12_fishAt : GoodIn wsX12_isSpared (wsV RX12 166 RX12 yX12_fishAt wsX12_fishAt) := goodIn_app (goodIn_of _ (by decide +kernel)) ggX12_isSpared_X12_fishAt
set_option maxRecDepth 20000 in
theorem ggX12_isSpared_X12_carryOut : GoodIn wsX12_isSpared wsX12_carryOut := goodIn_r _ [11, 1, 12, 13, 14, 15, 16, 17, 18, 19, 20, 21, 22, 5, 23, 24, 25, 26, 27, 28, 2, 3, 4, 6, 7, 29, 30, 31, 32, 33, 34, 35, 36, 37, 38, 39, 40, 41, 42, 43, 44, 45, 46, 47, 48, 49, 50, 51, 52, 53, 54, 55, 56, 57, 58, 59, 60, 61, 62, 63, 64, 65, 66, 67, 68, 69, 70, 71, 72, 73, 74, 75, 76, 77, 78, 79, 80, 81, 82, 83, 84, 85, 86, 87, 88, 89, 90, 91, 92, 93, 94, 95, 96] (by decide +kernel) (by decide +kernel)
set_option maxRecDepth 20000 in
theorem gX12_isSpared_X12_carryOut : GoodIn wsX12_isSpared (wsV RX12 154 RX12 yX12_carryOut wsX12_carryOut) := goodIn_app (goodIn_of _ (by decide +kernel)) ggX12_isSpared_X12_carryOut
set_option maxRecDepth 20000 in
theorem ggX12_grow_X12_fishAt : GoodIn wsX12_grow wsX12_fishAt := goodIn_r _ [10, 1, 11, 12, 13, 14, 15, 16, 17, 18, 19, 20, 21, 22, 23, 24, 25, 26, 27, 28, 29] (by decide +kernel) (by decide +kernel)
set_option maxRecDepth 20000 in
theorem gX12_grow_X12_fishAt : GoodIn wsX12_grow (wsV RX12 166 RX12 yX12_fishAt wsX12_fishAt) := goodIn_app (goodIn_of _ (by decide +kernel)) ggX12_grow_X12_fishAt
set_option maxRecDepth 20000 in
theorem ggX12_carryOut_X14_isPushed : GoodIn wsX12_carryOut wsX14_isPushed := goodIn_r _ [6, 7, 8, 5, 9] (by decide +kernel) (by decide +kernel)
set_option maxRecDepth 20000 in
theorem gX12_carryOut_X14_isPushed_n183 : GoodIn wsX12_carryOut (wsX14_isPushed) := ggX12_carryOut_X14_isPushed
set_option maxRecDepth 20000 in
theorem ggX12_carryOut_X12_pushed : GoodIn wsX12_carryOut wsX12_pushed := goodIn_r _ [14, 15, 16, 17, 18, 19, 20, 21, 22, 13, 23, 24, 34, 35, 36, 37, 38, 39, 40, 41, 42, 43, 44, 45, 46, 47, 48, 49, 50, 51, 52] (by decide +kernel) (by decide +kernel)
set_option maxRecDepth 20000 in
theorem gX12_carryOut_X12_pushed : GoodIn wsX12_carryOut (wsV RX12 187 RX12 yX12_pushed wsX12_pushed) := goodIn_app (goodIn_of _ (by decide +kernel)) ggX12_carryOut_X12_pushed
set_option maxRecDepth 20000 in
theorem ggX12_carryOut_X14_both : GoodIn wsX12_carryOut wsX14_both := goodIn_r _ [26, 27, 28, 29, 30, 31, 32, 33] (by decide +kernel) (by decide +kernel)
set_option maxRecDepth 20000 in
theorem gX12_carryOut_X14_both_n190 : GoodIn wsX12_carryOut (wsX14_both) := ggX12_carryOut_X14_both
set_option maxRecDepth 20000 in
theorem ggX12_pushed_X12_fishAt : GoodIn wsX12_pushed wsX12_fishAt := goodIn_r _ [10, 11, 12, 13, 14, 15, 16, 17, 18, 19, 20, 21, 22, 23, 24, 25, 26, 27, 28, 29, 30] (by decide +kernel) (by decide +kernel)
set_option maxRecDepth 20000 in
theorem gX12_pushed_X12_fishAt : GoodIn wsX12_pushed (wsV RX12 166 RX12 yX12_fishAt wsX12_fishAt) := goodIn_app (goodIn_of _ (by decide +kernel)) ggX12_pushed_X12_fishAt
set_option maxRecDepth 20000 in
theorem ggX14_init_X13_init : GoodIn wsX14_init wsX13_init := goodIn_r _ [23, 24, 2, 3, 4, 25, 26, 27, 28, 29, 30, 31, 32, 33, 34, 35, 36, 37, 38, 39, 40, 90, 91, 92, 93, 94, 95, 96, 97, 98, 99, 100, 101, 102, 103, 104, 105, 106, 107, 108, 109, 110, 111, 112, 113, 114] (by decide +kernel) (by decide +kernel)
set_option maxRecDepth 20000 in
theorem gX14_init_X13_init_n34 : GoodIn wsX14_init (wsX13_init) := ggX14_init_X13_init
set_option maxRecDepth 20000 in
theorem ggX14_init_X12_init : GoodIn wsX14_init wsX12_init := goodIn_r _ [42, 43, 44, 2, 3, 45, 4, 46, 47, 48, 49, 50, 51, 52, 53, 54, 55, 56, 57, 58, 59, 60, 61, 115, 116, 117, 118, 119, 120, 121, 122, 123, 124, 125, 126, 127, 128, 129, 130, 131, 132, 133] (by decide +kernel) (by decide +kernel)
set_option maxRecDepth 20000 in
theorem gX14_init_X12_init_n44 : GoodIn wsX14_init (wsX12_init) := ggX14_init_X12_init
set_option maxRecDepth 20000 in
theorem ggX14_init_X12_begin : GoodIn wsX14_init wsX12_begin := goodIn_r _ [65, 43, 46, 49, 66, 47, 48, 50, 51, 53, 54, 55, 56, 57, 52, 67, 68, 69, 19, 70, 71, 72, 73, 74, 115, 116, 117, 118, 119, 120, 121, 122, 123, 124, 125, 126, 127, 128, 129, 130, 131, 132, 133, 75, 76, 77, 78, 79, 80, 81, 82, 83, 84, 85, 86, 87, 88, 89, 90, 91, 92, 93, 94, 95, 96, 97, 98, 99, 100, 101, 102, 103, 104, 105, 106, 107, 108, 109, 110, 111, 112, 113, 114] (by decide +kernel) (by decide +kernel)
set_option maxRecDepth 20000 in
theorem gX14_init_X12_begin : GoodIn wsX14_init (wsV RX14 54 RX12 yX12_begin wsX12_begin) := goodIn_app (goodIn_of _ (by decide +kernel)) ggX14_init_X12_begin
set_option maxRecDepth 20000 in
theorem ggX14_isGround_X14_isIn : GoodIn wsX14_isGround wsX14_isIn := goodIn_r _ [5] (by decide +kernel) (by decide +kernel)
set_option maxRecDepth 20000 in
theorem gX14_isGround_X14_isIn : GoodIn wsX14_isGround (va_wsS RX14 63 yX14_isIn wsX14_isIn) := goodIn_app (goodIn_of _ (by decide +kernel)) ggX14_isGround_X14_isIn
set_option maxRecDepth 20000 in
theorem ggX14_isFisher_X14_isIn : GoodIn wsX14_isFisher wsX14_isIn := goodIn_r _ [5] (by decide +kernel) (by decide +kernel)
set_option maxRecDepth 20000 in
theorem gX14_isFisher_X14_isIn : GoodIn wsX14_isFisher (va_wsS RX14 63 yX14_isIn wsX14_isIn) := goodIn_app (goodIn_of _ (by decide +kernel)) ggX14_isFisher_X14_isIn
set_option maxRecDepth 20000 in
theorem ggX14_isPushed_X14_isIn : GoodIn wsX14_isPushed wsX14_isIn := goodIn_r _ [4] (by decide +kernel) (by decide +kernel)
set_option maxRecDepth 20000 in
theorem gX14_isPushed_X14_isIn : GoodIn wsX14_isPushed (va_wsS RX14 63 yX14_isIn wsX14_isIn) := goodIn_app (goodIn_of _ (by decide +kernel)) ggX14_isPushed_X14_isIn
set_option maxRecDepth 20000 in
theorem ggX14_kindAt_X14_byteOf : GoodIn wsX14_kindAt wsX14_byteOf := goodIn_r _ [6, 7, 8, 130, 131, 132, 133, 134, 135, 136, 137, 138, 139, 140, 141, 142, 143, 144] (by decide +kernel) (by decide +kernel)
set_option maxRecDepth 20000 in
theorem gX14_kindAt_X14_byteOf : GoodIn wsX14_kindAt (wsV RX14 82 RX14 yX14_byteOf wsX14_byteOf) := goodIn_app (goodIn_of _ (by decide +kernel)) ggX14_kindAt_X14_byteOf
set_option maxRecDepth 20000 in
theorem ggX14_kindAt_X14_isLetter : GoodIn wsX14_kindAt wsX14_isLetter := goodIn_r _ [11] (by decide +kernel) (by decide +kernel)
set_option maxRecDepth 20000 in
theorem gX14_kindAt_X14_isLetter : GoodIn wsX14_kindAt (va_wsS RX14 86 yX14_isLetter wsX14_isLetter) := goodIn_app (goodIn_of _ (by decide +kernel)) ggX14_kindAt_X14_isLetter
set_option maxRecDepth 20000 in
theorem ggX14_kindAt_X14_isDigit : GoodIn wsX14_kindAt wsX14_isDigit := goodIn_r _ [14] (by decide +kernel) (by decide +kernel)
set_option maxRecDepth 20000 in
theorem gX14_kindAt_X14_isDigit : GoodIn wsX14_kindAt (va_wsS RX14 90 yX14_isDigit wsX14_isDigit) := goodIn_app (goodIn_of _ (by decide +kernel)) ggX14_kindAt_X14_isDigit
set_option maxRecDepth 20000 in
theorem ggX14_kindAt_X14_word : GoodIn wsX14_kindAt wsX14_word := goodIn_r _ [18, 19, 8, 20, 21, 22, 23, 24, 25, 26, 27, 28, 29, 30, 31, 32, 33, 34, 35, 36, 37, 38, 39, 40, 41, 42, 43, 44, 45, 46, 47, 48, 49, 50, 51, 52, 53, 54, 55, 56, 57, 58, 59, 60, 61, 62, 63, 64, 65, 66, 67, 68, 130, 131, 132, 133, 134, 135, 136, 137, 138, 139, 140, 141, 142, 143, 144] (by decide +kernel) (by decide +kernel)
set_option maxRecDepth 20000 in
theorem gX14_kindAt_X14_word : GoodIn wsX14_kindAt (wsV RX14 93 RX14 yX14_word wsX14_word) := goodIn_app (goodIn_of _ (by decide +kernel)) ggX14_kindAt_X14_word
set_option maxRecDepth 20000 in
theorem ggX14_kindAt_J0_indexOf_0f7a4 : GoodIn wsX14_kindAt wsJ0_indexOf_0f7a4 := goodIn_r _ [72, 73, 74, 75, 23, 76, 25, 36, 37, 38, 39, 30, 31, 77, 21, 22, 24, 26, 27, 28, 29, 78, 79, 42, 80, 81, 82, 83, 84, 85, 86, 87, 88, 89, 90, 91, 92, 93, 94, 95, 54, 96, 97, 98, 99, 100, 101, 102, 103, 104, 105, 59, 60, 61, 106, 107, 108, 47, 109, 110, 50, 111, 112, 113, 114, 63, 64, 65, 66, 67, 68, 115, 116, 117, 118, 119, 120, 121, 122, 123, 124, 125, 126, 127, 128, 129] (by decide +kernel) (by decide +kernel)
set_option maxRecDepth 20000 in
theorem gX14_kindAt_J0_indexOf_0f7a4 : GoodIn wsX14_kindAt (wsV RX14 98 RJ0 yJ0_indexOf_0f7a4 wsJ0_indexOf_0f7a4) := goodIn_app (goodIn_of _ (by decide +kernel)) ggX14_kindAt_J0_indexOf_0f7a4
set_option maxRecDepth 20000 in
theorem ggX14_word_J0_length_8abf5 : GoodIn wsX14_word wsJ0_length_8abf5 := goodIn_r _ [7, 8, 9, 10, 11, 6, 12, 13, 14] (by decide +kernel) (by decide +kernel)
set_option maxRecDepth 20000 in
theorem gX14_word_J0_length_8abf5 : GoodIn wsX14_word (wsV RX14 107 RJ0 yJ0_length_8abf5 wsJ0_length_8abf5) := goodIn_app (goodIn_of _ (by decide +kernel)) ggX14_word_J0_length_8abf5
set_option maxRecDepth 20000 in
theorem ggX14_word_J0_charAt_5068e : GoodIn wsX14_word wsJ0_charAt_5068e := goodIn_r _ [18, 8, 19, 20, 21, 6, 22, 13, 14, 23, 24, 25, 26, 27, 28, 29, 30, 31, 32, 33, 34, 35, 36, 37, 38, 39, 40, 41, 42, 43, 44, 45, 46, 47, 48, 49, 50, 51] (by decide +kernel) (by decide +kernel)
set_option maxRecDepth 20000 in
theorem gX14_word_J0_charAt_5068e : GoodIn wsX14_word (wsV RX14 111 RJ0 yJ0_charAt_5068e wsJ0_charAt_5068e) := goodIn_app (goodIn_of _ (by decide +kernel)) ggX14_word_J0_charAt_5068e
set_option maxRecDepth 20000 in
theorem ggX14_cut_X14_byteOf : GoodIn wsX14_cut wsX14_byteOf := goodIn_r _ [10, 11, 12, 138, 139, 140, 141, 142, 143, 144, 145, 146, 147, 148, 149, 150, 151, 152] (by decide +kernel) (by decide +kernel)
set_option maxRecDepth 20000 in
theorem gX14_cut_X14_byteOf : GoodIn wsX14_cut (wsV RX14 82 RX14 yX14_byteOf wsX14_byteOf) := goodIn_app (goodIn_of _ (by decide +kernel)) ggX14_cut_X14_byteOf
set_option maxRecDepth 20000 in
theorem ggX14_cut_X14_kindAt : GoodIn wsX14_cut wsX14_kindAt := goodIn_r _ [16, 5, 6, 7, 8, 9, 10, 11, 12, 17, 18, 19, 20, 21, 22, 23, 24, 25, 26, 27, 28, 29, 30, 31, 32, 33, 34, 35, 36, 37, 38, 39, 40, 41, 42, 43, 44, 45, 46, 47, 48, 49, 50, 51, 52, 53, 54, 55, 56, 57, 58, 59, 60, 61, 62, 63, 64, 65, 66, 67, 68, 69, 70, 71, 72, 73, 74, 75, 76, 77, 78, 79, 80, 81, 82, 83, 84, 85, 86, 87, 88, 89, 90, 91, 92, 93, 94, 95, 96, 97, 98, 99, 100, 101, 102, 103, 104, 105, 106, 107, 108, 109, 110, 111, 112, 113, 114, 115, 116, 117, 118, 119, 120, 121, 122, 123, 124, 125, 126, 127, 128, 129, 130, 131, 132, 133, 134, 135, 136, 137, 138, 139, 140, 141, 142, 143, 144, 145, 146, 147, 148, 149, 150, 151, 152] (by decide +kernel) (by decide +kernel)
set_option maxRecDepth 20000 in
theorem gX14_cut_X14_kindAt : GoodIn wsX14_cut (wsV RX14 115 RX14 yX14_kindAt wsX14_kindAt) := goodIn_app (goodIn_of _ (by decide +kernel)) ggX14_cut_X14_kindAt
set_option maxRecDepth 20000 in
theorem ggX14_eat_X14_is : GoodIn wsX14_eat wsX14_is := goodIn_r _ [6, 7, 1, 8, 9, 10, 11, 12, 13, 14, 15, 16, 17, 18, 19, 20, 21, 22] (by decide +kernel) (by decide +kernel)
set_option maxRecDepth 20000 in
theorem gX14_eat_X14_is : GoodIn wsX14_eat (wsV RX14 121 RX14 yX14_is wsX14_is) := goodIn_app (goodIn_of _ (by decide +kernel)) ggX14_eat_X14_is
set_option maxRecDepth 20000 in
theorem ggX14_eatSign_X14_eat : GoodIn wsX14_eatSign wsX14_eat := goodIn_r _ [5, 6, 7, 8, 9, 4, 10, 11, 12, 13, 14, 15, 16, 17, 18, 19, 20, 21, 22, 23, 24, 25, 26] (by decide +kernel) (by decide +kernel)
set_option maxRecDepth 20000 in
theorem gX14_eatSign_X14_eat : GoodIn wsX14_eatSign (wsV RX14 124 RX14 yX14_eat wsX14_eat) := goodIn_app (goodIn_of _ (by decide +kernel)) ggX14_eatSign_X14_eat
set_option maxRecDepth 20000 in
theorem ggX14_eatAs_X14_eat : GoodIn wsX14_eatAs wsX14_eat := goodIn_r _ [7, 2, 8, 9, 10, 6, 11, 12, 13, 14, 15, 16, 17, 18, 19, 20, 21, 22, 23, 24, 25, 26, 27] (by decide +kernel) (by decide +kernel)
set_option maxRecDepth 20000 in
theorem gX14_eatAs_X14_eat : GoodIn wsX14_eatAs (wsV RX14 124 RX14 yX14_eat wsX14_eat) := goodIn_app (goodIn_of _ (by decide +kernel)) ggX14_eatAs_X14_eat
set_option maxRecDepth 20000 in
theorem ggX14_isText_X14_is : GoodIn wsX14_isText wsX14_is := goodIn_r _ [5, 6, 7, 90, 91, 92, 93, 94, 95, 96, 97, 98, 99, 100, 101, 102, 103, 104] (by decide +kernel) (by decide +kernel)
set_option maxRecDepth 20000 in
theorem gX14_isText_X14_is : GoodIn wsX14_isText (wsV RX14 121 RX14 yX14_is wsX14_is) := goodIn_app (goodIn_of _ (by decide +kernel)) ggX14_isText_X14_is
set_option maxRecDepth 20000 in
theorem ggX14_isText_X14_isGroundLine : GoodIn wsX14_isText wsX14_isGroundLine := goodIn_r _ [11, 7, 12, 13, 14, 4, 15, 16, 17, 18, 19, 20, 1, 2, 3, 5, 6, 21, 22, 23, 24, 90, 91, 92, 93, 94, 95, 96, 97, 98, 99, 100, 101, 102, 103, 104] (by decide +kernel) (by decide +kernel)
set_option maxRecDepth 20000 in
theorem gX14_isText_X14_isGroundLine : GoodIn wsX14_isText (wsV RX14 132 RX14 yX14_isGroundLine wsX14_isGroundLine) := goodIn_app (goodIn_of _ (by decide +kernel)) ggX14_isText_X14_isGroundLine
set_option maxRecDepth 20000 in
theorem ggX14_isText_X14_isFisherLine : GoodIn wsX14_isText wsX14_isFisherLine := goodIn_r _ [28, 7, 12, 13, 14, 4, 15, 16, 17, 18, 19, 20, 1, 2, 3, 5, 6, 90, 91, 92, 93, 94, 95, 96, 97, 98, 99, 100, 101, 102, 103, 104] (by decide +kernel) (by decide +kernel)
set_option maxRecDepth 20000 in
theorem gX14_isText_X14_isFisherLine : GoodIn wsX14_isText (wsV RX14 136 RX14 yX14_isFisherLine wsX14_isFisherLine) := goodIn_app (goodIn_of _ (by decide +kernel)) ggX14_isText_X14_isFisherLine
set_option maxRecDepth 20000 in
theorem ggX14_isText_X14_isGoLine : GoodIn wsX14_isText wsX14_isGoLine := goodIn_r _ [32, 16, 7, 33, 34, 35, 36, 37, 12, 13, 14, 4, 15, 17, 18, 19, 20, 1, 2, 3, 5, 6, 38, 39, 40, 41, 42, 43, 44, 45, 46, 47, 48, 49, 50, 51, 52, 53, 54, 55, 56, 57, 58, 59, 60, 61, 62, 21, 22, 23, 24, 63, 64, 65, 66, 67, 68, 69, 70, 71, 72, 73, 74, 75, 76, 77, 78, 79, 80, 81, 82, 83, 84, 85, 90, 91, 92, 93, 94, 95, 96, 97, 98, 99, 100, 101, 102, 103, 104, 105, 106, 107, 108, 109, 110, 111, 112, 113, 114, 115, 116, 117, 118, 119, 120, 121, 122, 123, 124, 125, 126, 127, 128, 129] (by decide +kernel) (by decide +kernel)
set_option maxRecDepth 20000 in
theorem gX14_isText_X14_isGoLine : GoodIn wsX14_isText (wsV RX14 139 RX14 yX14_isGoLine wsX14_isGoLine) := goodIn_app (goodIn_of _ (by decide +kernel)) ggX14_isText_X14_isGoLine
set_option maxRecDepth 20000 in
theorem ggX14_isText_X14_isPactLine : GoodIn wsX14_isText wsX14_isPactLine := goodIn_r _ [89, 7, 33, 34, 35, 36, 37, 12, 13, 14, 4, 15, 16, 17, 18, 19, 20, 1, 2, 3, 5, 6, 21, 22, 23, 24, 67, 68, 69, 70, 71, 72, 73, 59, 60, 61, 62, 45, 46, 47, 48, 74, 75, 76, 77, 78, 54, 79, 80, 81, 82, 83, 84, 85, 63, 64, 65, 66, 55, 56, 57, 58, 90, 91, 92, 93, 94, 95, 96, 97, 98, 99, 100, 101, 102, 103, 104, 105, 106, 107, 108, 109, 110, 111, 112, 113, 114, 115, 116, 117, 118, 119, 120, 121, 122, 123, 124, 125, 126, 127, 128, 129] (by decide +kernel) (by decide +kernel)
set_option maxRecDepth 20000 in
theorem gX14_isText_X14_isPactLine : GoodIn wsX14_isText (wsV RX14 142 RX14 yX14_isPactLine wsX14_isPactLine) := goodIn_app (goodIn_of _ (by decide +kernel)) ggX14_isText_X14_isPactLine
set_option maxRecDepth 20000 in
theorem ggX14_isText_X14_eatSign : GoodIn wsX14_isText wsX14_eatSign := goodIn_r _ [24, 17, 18, 19, 4, 20, 7, 1, 2, 3, 5, 6, 90, 91, 92, 93, 94, 95, 96, 97, 98, 99, 100, 101, 102, 103, 104] (by decide +kernel) (by decide +kernel)
set_option maxRecDepth 20000 in
theorem gX14_isText_X14_eatSign : GoodIn wsX14_isText (wsV RX14 145 RX14 yX14_eatSign wsX14_eatSign) := goodIn_app (goodIn_of _ (by decide +kernel)) ggX14_isText_X14_eatSign
set_option maxRecDepth 20000 in
theorem ggX14_isGroundLine_X14_eatAs : GoodIn wsX14_isGroundLine wsX14_eatAs := goodIn_r _ [6, 7, 1, 8, 9, 10, 5, 11, 12, 13, 14, 15, 16, 21, 22, 23, 24, 25, 26, 27, 28, 29, 30, 31, 32, 33, 34, 35] (by decide +kernel) (by decide +kernel)
set_option maxRecDepth 20000 in
theorem gX14_isGroundLine_X14_eatAs : GoodIn wsX14_isGroundLine (wsV RX14 149 RX14 yX14_eatAs wsX14_eatAs) := goodIn_app (goodIn_of _ (by decide +kernel)) ggX14_isGroundLine_X14_eatAs
set_option maxRecDepth 20000 in
theorem ggX14_isGroundLine_X14_eat : GoodIn wsX14_isGroundLine wsX14_eat := goodIn_r _ [11, 1, 12, 13, 14, 5, 15, 16, 21, 22, 23, 24, 25, 26, 27, 28, 29, 30, 31, 32, 33, 34, 35] (by decide +kernel) (by decide +kernel)
set_option maxRecDepth 20000 in
theorem gX14_isGroundLine_X14_eat : GoodIn wsX14_isGroundLine (wsV RX14 124 RX14 yX14_eat wsX14_eat) := goodIn_app (goodIn_of _ (by decide +kernel)) ggX14_isGroundLine_X14_eat
set_option maxRecDepth 20000 in
theorem ggX14_isGroundLine_X14_eatSign : GoodIn wsX14_isGroundLine wsX14_eatSign := goodIn_r _ [20, 8, 9, 10, 5, 11, 1, 12, 13, 14, 15, 16, 21, 22, 23, 24, 25, 26, 27, 28, 29, 30, 31, 32, 33, 34, 35] (by decide +kernel) (by decide +kernel)
set_option maxRecDepth 20000 in
theorem gX14_isGroundLine_X14_eatSign : GoodIn wsX14_isGroundLine (wsV RX14 145 RX14 yX14_eatSign wsX14_eatSign) := goodIn_app (goodIn_of _ (by decide +kernel)) ggX14_isGroundLine_X14_eatSign
set_option maxRecDepth 20000 in
theorem ggX14_isFisherLine_X14_eatAs : GoodIn wsX14_isFisherLine wsX14_eatAs := goodIn_r _ [6, 7, 1, 8, 9, 10, 5, 11, 12, 13, 14, 15, 16, 17, 18, 19, 20, 21, 22, 23, 24, 25, 26, 27, 28, 29, 30, 31] (by decide +kernel) (by decide +kernel)
set_option maxRecDepth 20000 in
theorem gX14_isFisherLine_X14_eatAs : GoodIn wsX14_isFisherLine (wsV RX14 149 RX14 yX14_eatAs wsX14_eatAs) := goodIn_app (goodIn_of _ (by decide +kernel)) ggX14_isFisherLine_X14_eatAs
set_option maxRecDepth 20000 in
theorem ggX14_isFisherLine_X14_eat : GoodIn wsX14_isFisherLine wsX14_eat := goodIn_r _ [11, 1, 12, 13, 14, 5, 15, 16, 17, 18, 19, 20, 21, 22, 23, 24, 25, 26, 27, 28, 29, 30, 31] (by decide +kernel) (by decide +kernel)
set_option maxRecDepth 20000 in
theorem gX14_isFisherLine_X14_eat : GoodIn wsX14_isFisherLine (wsV RX14 124 RX14 yX14_eat wsX14_eat) := goodIn_app (goodIn_of _ (by decide +kernel)) ggX14_isFisherLine_X14_eat
set_option maxRecDepth 20000 in
theorem ggX14_isGoLine_X14_eatAs : GoodIn wsX14_isGoLine wsX14_eatAs := goodIn_r _ [12, 1, 2, 13, 14, 15, 11, 16, 17, 18, 19, 20, 21, 74, 75, 76, 77, 78, 79, 80, 81, 82, 83, 84, 85, 86, 87, 88] (by decide +kernel) (by decide +kernel)
set_option maxRecDepth 20000 in
theorem gX14_isGoLine_X14_eatAs : GoodIn wsX14_isGoLine (wsV RX14 149 RX14 yX14_eatAs wsX14_eatAs) := goodIn_app (goodIn_of _ (by decide +kernel)) ggX14_isGoLine_X14_eatAs
set_option maxRecDepth 20000 in
theorem ggX14_isGoLine_X14_eat : GoodIn wsX14_isGoLine wsX14_eat := goodIn_r _ [16, 2, 17, 18, 19, 11, 20, 21, 74, 75, 76, 77, 78, 79, 80, 81, 82, 83, 84, 85, 86, 87, 88] (by decide +kernel) (by decide +kernel)
set_option maxRecDepth 20000 in
theorem gX14_isGoLine_X14_eat : GoodIn wsX14_isGoLine (wsV RX14 124 RX14 yX14_eat wsX14_eat) := goodIn_app (goodIn_of _ (by decide +kernel)) ggX14_isGoLine_X14_eat
set_option maxRecDepth 20000 in
theorem ggX14_isGoLine_X14_isTest : GoodIn wsX14_isGoLine wsX14_isTest := goodIn_r _ [25, 26, 27, 28, 11, 13, 14, 15, 16, 2, 17, 18, 19, 20, 21, 29, 30, 31, 32, 3, 33, 34, 35, 36, 37, 38, 39, 40, 41, 42, 43, 44, 45, 46, 22, 23, 24, 47, 48, 49, 50, 51, 52, 53, 54, 8, 9, 10, 12, 1, 55, 56, 57, 58, 59, 60, 61, 62, 63, 64, 65, 66, 67, 68, 69, 70, 71, 72, 73, 74, 75, 76, 77, 78, 79, 80, 81, 82, 83, 84, 85, 86, 87, 88, 89, 90, 91, 92, 93, 94, 95, 96, 97, 98, 99, 100, 101, 102, 103, 104, 105, 106, 107, 108, 109, 110, 111, 112, 113] (by decide +kernel) (by decide +kernel)
set_option maxRecDepth 20000 in
theorem gX14_isGoLine_X14_isTest : GoodIn wsX14_isGoLine (wsV RX14 159 RX14 yX14_isTest wsX14_isTest) := goodIn_app (goodIn_of _ (by decide +kernel)) ggX14_isGoLine_X14_isTest
set_option maxRecDepth 20000 in
theorem ggX14_isPactLine_X14_eatAs : GoodIn wsX14_isPactLine wsX14_eatAs := goodIn_r _ [11, 12, 1, 13, 14, 15, 10, 16, 17, 18, 19, 20, 21, 62, 63, 64, 65, 66, 67, 68, 69, 70, 71, 72, 73, 74, 75, 76] (by decide +kernel) (by decide +kernel)
set_option maxRecDepth 20000 in
theorem gX14_isPactLine_X14_eatAs : GoodIn wsX14_isPactLine (wsV RX14 149 RX14 yX14_eatAs wsX14_eatAs) := goodIn_app (goodIn_of _ (by decide +kernel)) ggX14_isPactLine_X14_eatAs
set_option maxRecDepth 20000 in
theorem ggX14_isPactLine_X14_eat : GoodIn wsX14_isPactLine wsX14_eat := goodIn_r _ [16, 1, 17, 18, 19, 10, 20, 21, 62, 63, 64, 65, 66, 67, 68, 69, 70, 71, 72, 73, 74, 75, 76] (by decide +kernel) (by decide +kernel)
set_option maxRecDepth 20000 in
theorem gX14_isPactLine_X14_eat : GoodIn wsX14_isPactLine (wsV RX14 124 RX14 yX14_eat wsX14_eat) := goodIn_app (goodIn_of _ (by decide +kernel)) ggX14_isPactLine_X14_eat
set_option maxRecDepth 20000 in
theorem ggX14_isPactLine_X14_eatSign : GoodIn wsX14_isPactLine wsX14_eatSign := goodIn_r _ [25, 13, 14, 15, 10, 16, 1, 17, 18, 19, 20, 21, 62, 63, 64, 65, 66, 67, 68, 69, 70, 71, 72, 73, 74, 75, 76] (by decide +kernel) (by decide +kernel)
set_option maxRecDepth 20000 in
theorem gX14_isPactLine_X14_eatSign : GoodIn wsX14_isPactLine (wsV RX14 145 RX14 yX14_eatSign wsX14_eatSign) := goodIn_app (goodIn_of _ (by decide +kernel)) ggX14_isPactLine_X14_eatSign
set_option maxRecDepth 20000 in
theorem ggX14_isPactLine_X14_isSum : GoodIn wsX14_isPactLine wsX14_isSum := goodIn_r _ [29, 1, 30, 31, 32, 10, 33, 34, 35, 36, 21, 37, 38, 39, 40, 2, 41, 42, 43, 44, 45, 46, 17, 18, 19, 20, 47, 48, 49, 50, 51, 52, 53, 54, 55, 56, 57, 7, 8, 9, 11, 12, 13, 14, 15, 16, 58, 59, 60, 61, 26, 27, 28, 22, 23, 24, 25, 62, 63, 64, 65, 66, 67, 68, 69, 70, 71, 72, 73, 74, 75, 76, 77, 78, 79, 80, 81, 82, 83, 84, 85, 86, 87, 88, 89, 90, 91, 92, 93, 94, 95, 96, 97, 98, 99, 100, 101] (by decide +kernel) (by decide +kernel)
set_option maxRecDepth 20000 in
theorem gX14_isPactLine_X14_isSum : GoodIn wsX14_isPactLine (wsV RX14 171 RX14 yX14_isSum wsX14_isSum) := goodIn_app (goodIn_of _ (by decide +kernel)) ggX14_isPactLine_X14_isSum
set_option maxRecDepth 20000 in
theorem ggX14_isTest_X14_isBoth : GoodIn wsX14_isTest wsX14_isBoth := goodIn_r _ [20, 21, 22, 23, 4, 5, 6, 7, 8, 9, 10, 11, 12, 13, 14, 15, 16, 17, 18, 19, 24, 25, 26, 27, 28, 29, 30, 31, 32, 33, 34, 35, 36, 37, 38, 39, 40, 41, 42, 43, 44, 45, 46, 47, 48, 49, 50, 51, 52, 53, 54, 55, 56, 57, 58, 59, 60, 61, 62, 63, 64, 65, 66, 67, 68, 0, 1, 2, 3, 69, 70, 71, 72, 73, 74, 75, 76, 77, 78, 79, 80, 81, 82, 83, 84, 85, 86, 87, 88, 89, 90, 91, 92, 93, 94, 95, 96, 97, 98, 99, 100, 101, 102, 103, 104, 105, 106, 107, 108] (by decide +kernel) (by decide +kernel)
set_option maxRecDepth 20000 in
theorem gX14_isTest_X14_isBoth : GoodIn wsX14_isTest (wsV RX14 177 RX14 yX14_isBoth wsX14_isBoth) := goodIn_app (goodIn_of _ (by decide +kernel)) ggX14_isTest_X14_isBoth
set_option maxRecDepth 20000 in
theorem ggX14_isTest_X14_eat : GoodIn wsX14_isTest wsX14_eat := goodIn_r _ [8, 9, 10, 11, 12, 4, 13, 14, 69, 70, 71, 72, 73, 74, 75, 76, 77, 78, 79, 80, 81, 82, 83] (by decide +kernel) (by decide +kernel)
set_option maxRecDepth 20000 in
theorem gX14_isTest_X14_eat : GoodIn wsX14_isTest (wsV RX14 124 RX14 yX14_eat wsX14_eat) := goodIn_app (goodIn_of _ (by decide +kernel)) ggX14_isTest_X14_eat
set_option maxRecDepth 20000 in
theorem ggX14_isTest_X14_put : GoodIn wsX14_isTest wsX14_put := goodIn_r _ [18, 19, 69, 70, 71, 72, 73, 74, 75, 76, 77, 78, 79, 80, 81, 82, 83, 84, 85, 86, 87, 88, 89, 90, 91, 92, 93, 94, 95, 96, 97, 98, 99, 100, 101, 102, 103, 104, 105, 106, 107, 108] (by decide +kernel) (by decide +kernel)
set_option maxRecDepth 20000 in
theorem gX14_isTest_X14_put : GoodIn wsX14_isTest (wsV RX14 180 RX14 yX14_put wsX14_put) := goodIn_app (goodIn_of _ (by decide +kernel)) ggX14_isTest_X14_put
set_option maxRecDepth 20000 in
theorem ggX14_isBoth_X14_isSingle : GoodIn wsX14_isBoth wsX14_isSingle := goodIn_r _ [20, 21, 9, 10, 11, 12, 4, 13, 14, 22, 23, 24, 25, 1, 2, 3, 15, 16, 17, 18, 19, 26, 27, 28, 29, 30, 31, 32, 33, 34, 35, 36, 5, 6, 7, 8, 37, 38, 39, 40, 41, 42, 43, 44, 45, 46, 47, 48, 49, 50, 51, 52, 53, 54, 55, 56, 57, 58, 59, 60, 61, 62, 63, 64, 0, 65, 66, 67, 68, 69, 70, 71, 72, 73, 74, 75, 76, 77, 78, 79, 80, 81, 82, 83, 84, 85, 86, 87, 88, 89, 90, 91, 92, 93, 94, 95, 96, 97, 98, 99, 100, 101, 102, 103, 104, 105, 106, 107, 108] (by decide +kernel) (by decide +kernel)
set_option maxRecDepth 20000 in
theorem gX14_isBoth_X14_isSingle : GoodIn wsX14_isBoth (wsV RX14 184 RX14 yX14_isSingle wsX14_isSingle) := goodIn_app (goodIn_of _ (by decide +kernel)) ggX14_isBoth_X14_isSingle
set_option maxRecDepth 20000 in
theorem ggX14_isBoth_X14_eat : GoodIn wsX14_isBoth wsX14_eat := goodIn_r _ [8, 9, 10, 11, 12, 4, 13, 14, 69, 70, 71, 72, 73, 74, 75, 76, 77, 78, 79, 80, 81, 82, 83] (by decide +kernel) (by decide +kernel)
set_option maxRecDepth 20000 in
theorem gX14_isBoth_X14_eat : GoodIn wsX14_isBoth (wsV RX14 124 RX14 yX14_eat wsX14_eat) := goodIn_app (goodIn_of _ (by decide +kernel)) ggX14_isBoth_X14_eat
set_option maxRecDepth 20000 in
theorem ggX14_isBoth_X14_put : GoodIn wsX14_isBoth wsX14_put := goodIn_r _ [18, 19, 69, 70, 71, 72, 73, 74, 75, 76, 77, 78, 79, 80, 81, 82, 83, 84, 85, 86, 87, 88, 89, 90, 91, 92, 93, 94, 95, 96, 97, 98, 99, 100, 101, 102, 103, 104, 105, 106, 107, 108] (by decide +kernel) (by decide +kernel)
set_option maxRecDepth 20000 in
theorem gX14_isBoth_X14_put : GoodIn wsX14_isBoth (wsV RX14 180 RX14 yX14_put wsX14_put) := goodIn_app (goodIn_of _ (by decide +kernel)) ggX14_isBoth_X14_put
set_option maxRecDepth 20000 in
theorem ggX14_isNamed_X14_put : GoodIn wsX14_isNamed wsX14_put := goodIn_r _ [8, 3, 22, 23, 24, 25, 26, 27, 28, 29, 30, 31, 32, 33, 34, 35, 36, 37, 38, 39, 40, 41, 42, 43, 44, 45, 46, 47, 48, 49, 50, 51, 52, 53, 54, 55, 56, 57, 58, 59, 60, 61] (by decide +kernel) (by decide +kernel)
set_option maxRecDepth 20000 in
theorem gX14_isNamed_X14_put : GoodIn wsX14_isNamed (wsV RX14 180 RX14 yX14_put wsX14_put) := goodIn_app (goodIn_of _ (by decide +kernel)) ggX14_isNamed_X14_put
set_option maxRecDepth 20000 in
theorem ggX14_isNamed_X14_eatAs : GoodIn wsX14_isNamed wsX14_eatAs := goodIn_r _ [12, 13, 2, 14, 15, 16, 7, 17, 18, 19, 20, 21, 1, 22, 23, 24, 25, 26, 27, 28, 29, 30, 31, 32, 33, 34, 35, 36] (by decide +kernel) (by decide +kernel)
set_option maxRecDepth 20000 in
theorem gX14_isNamed_X14_eatAs : GoodIn wsX14_isNamed (wsV RX14 149 RX14 yX14_eatAs wsX14_eatAs) := goodIn_app (goodIn_of _ (by decide +kernel)) ggX14_isNamed_X14_eatAs
set_option maxRecDepth 20000 in
theorem ggX14_isSingle_X14_is : GoodIn wsX14_isSingle wsX14_is := goodIn_r _ [7, 8, 2, 69, 70, 71, 72, 73, 74, 75, 76, 77, 78, 79, 80, 81, 82, 83] (by decide +kernel) (by decide +kernel)
set_option maxRecDepth 20000 in
theorem gX14_isSingle_X14_is : GoodIn wsX14_isSingle (wsV RX14 121 RX14 yX14_is wsX14_is) := goodIn_app (goodIn_of _ (by decide +kernel)) ggX14_isSingle_X14_is
set_option maxRecDepth 20000 in
theorem ggX14_isSingle_X14_isDeeper : GoodIn wsX14_isSingle wsX14_isDeeper := goodIn_r _ [12, 1, 2, 69, 70, 71, 72, 73, 74, 75, 76, 77, 78, 79, 80, 81, 82, 83] (by decide +kernel) (by decide +kernel)
set_option maxRecDepth 20000 in
theorem gX14_isSingle_X14_isDeeper : GoodIn wsX14_isSingle (wsV RX14 196 RX14 yX14_isDeeper wsX14_isDeeper) := goodIn_app (goodIn_of _ (by decide +kernel)) ggX14_isSingle_X14_isDeeper
set_option maxRecDepth 20000 in
theorem ggX14_isSingle_X14_isSingle : GoodIn wsX14_isSingle wsX14_isSingle := goodIn_r _ [0, 1, 2, 3, 4, 5, 6, 7, 8, 9, 10, 11, 12, 13, 14, 15, 16, 17, 18, 19, 20, 21, 22, 23, 24, 25, 26, 27, 28, 29, 30, 31, 32, 33, 34, 35, 36, 37, 38, 39, 40, 41, 42, 43, 44, 45, 46, 47, 48, 49, 50, 51, 52, 53, 54, 55, 56, 57, 58, 59, 60, 61, 62, 63, 64, 65, 66, 67, 68, 69, 70, 71, 72, 73, 74, 75, 76, 77, 78, 79, 80, 81, 82, 83, 84, 85, 86, 87, 88, 89, 90, 91, 92, 93, 94, 95, 96, 97, 98, 99, 100, 101, 102, 103, 104, 105, 106, 107, 108] (by decide +kernel) (by decide +kernel)
set_option maxRecDepth 20000 in
theorem gX14_isSingle_X14_isSingle : GoodIn wsX14_isSingle (wsV RX14 184 RX14 yX14_isSingle wsX14_isSingle) := goodIn_app (goodIn_of _ (by decide +kernel)) ggX14_isSingle_X14_isSingle
set_option maxRecDepth 20000 in
theorem ggX14_isSingle_X14_put : GoodIn wsX14_isSingle wsX14_put := goodIn_r _ [19, 20, 69, 70, 71, 72, 73, 74, 75, 76, 77, 78, 79, 80, 81, 82, 83, 84, 85, 86, 87, 88, 89, 90, 91, 92, 93, 94, 95, 96, 97, 98, 99, 100, 101, 102, 103, 104, 105, 106, 107, 108] (by decide +kernel) (by decide +kernel)
set_option maxRecDepth 20000 in
theorem gX14_isSingle_X14_put : GoodIn wsX14_isSingle (wsV RX14 180 RX14 yX14_put wsX14_put) := goodIn_app (goodIn_of _ (by decide +kernel)) ggX14_isSingle_X14_put
set_option maxRecDepth 20000 in
theorem ggX14_isSingle_X14_isSign : GoodIn wsX14_isSingle wsX14_isSign := goodIn_r _ [24, 8, 2, 69, 70, 71, 72, 73, 74, 75, 76, 77, 78, 79, 80, 81, 82, 83] (by decide +kernel) (by decide +kernel)
set_option maxRecDepth 20000 in
theorem gX14_isSingle_X14_isSign : GoodIn wsX14_isSingle (wsV RX14 199 RX14 yX14_isSign wsX14_isSign) := goodIn_app (goodIn_of _ (by decide +kernel)) ggX14_isSingle_X14_isSign
set_option maxRecDepth 20000 in
theorem ggX14_isSingle_X14_isTest : GoodIn wsX14_isSingle wsX14_isTest := goodIn_r _ [65, 66, 67, 68, 6, 32, 33, 34, 35, 2, 3, 4, 5, 7, 8, 16, 17, 18, 19, 20, 64, 13, 14, 15, 0, 1, 9, 10, 11, 12, 21, 22, 23, 24, 25, 26, 27, 28, 29, 30, 31, 36, 37, 38, 39, 40, 41, 42, 43, 44, 45, 46, 47, 48, 49, 50, 51, 52, 53, 54, 55, 56, 57, 58, 59, 60, 61, 62, 63, 69, 70, 71, 72, 73, 74, 75, 76, 77, 78, 79, 80, 81, 82, 83, 84, 85, 86, 87, 88, 89, 90, 91, 92, 93, 94, 95, 96, 97, 98, 99, 100, 101, 102, 103, 104, 105, 106, 107, 108] (by decide +kernel) (by decide +kernel)
set_option maxRecDepth 20000 in
theorem gX14_isSingle_X14_isTest : GoodIn wsX14_isSingle (wsV RX14 159 RX14 yX14_isTest wsX14_isTest) := goodIn_app (goodIn_of _ (by decide +kernel)) ggX14_isSingle_X14_isTest
set_option maxRecDepth 20000 in
theorem ggX14_isSingle_X14_eatSign : GoodIn wsX14_isSingle wsX14_eatSign := goodIn_r _ [31, 32, 33, 34, 6, 35, 2, 3, 4, 5, 7, 8, 69, 70, 71, 72, 73, 74, 75, 76, 77, 78, 79, 80, 81, 82, 83] (by decide +kernel) (by decide +kernel)
set_option maxRecDepth 20000 in
theorem gX14_isSingle_X14_eatSign : GoodIn wsX14_isSingle (wsV RX14 145 RX14 yX14_eatSign wsX14_eatSign) := goodIn_app (goodIn_of _ (by decide +kernel)) ggX14_isSingle_X14_eatSign
set_option maxRecDepth 20000 in
theorem ggX14_isSingle_X14_isNamed : GoodIn wsX14_isSingle wsX14_isNamed := goodIn_r _ [39, 8, 2, 20, 16, 17, 18, 6, 19, 40, 41, 42, 43, 44, 32, 33, 34, 35, 3, 4, 5, 7, 69, 70, 71, 72, 73, 74, 75, 76, 77, 78, 79, 80, 81, 82, 83, 84, 85, 86, 87, 88, 89, 90, 91, 92, 93, 94, 95, 96, 97, 98, 99, 100, 101, 102, 103, 104, 105, 106, 107, 108] (by decide +kernel) (by decide +kernel)
set_option maxRecDepth 20000 in
theorem gX14_isSingle_X14_isNamed : GoodIn wsX14_isSingle (wsV RX14 202 RX14 yX14_isNamed wsX14_isNamed) := goodIn_app (goodIn_of _ (by decide +kernel)) ggX14_isSingle_X14_isNamed
set_option maxRecDepth 20000 in
theorem ggX14_isSingle_X14_isSum : GoodIn wsX14_isSingle wsX14_isSum := goodIn_r _ [48, 2, 49, 50, 51, 6, 21, 22, 23, 24, 8, 16, 17, 18, 19, 20, 52, 53, 54, 55, 56, 1, 3, 4, 5, 7, 57, 58, 59, 60, 61, 62, 63, 36, 37, 38, 39, 40, 41, 42, 43, 44, 32, 33, 34, 35, 9, 10, 11, 12, 45, 46, 47, 28, 29, 30, 31, 69, 70, 71, 72, 73, 74, 75, 76, 77, 78, 79, 80, 81, 82, 83, 84, 85, 86, 87, 88, 89, 90, 91, 92, 93, 94, 95, 96, 97, 98, 99, 100, 101, 102, 103, 104, 105, 106, 107, 108] (by decide +kernel) (by decide +kernel)
set_option maxRecDepth 20000 in
theorem gX14_isSingle_X14_isSum : GoodIn wsX14_isSingle (wsV RX14 171 RX14 yX14_isSum wsX14_isSum) := goodIn_app (goodIn_of _ (by decide +kernel)) ggX14_isSingle_X14_isSum
set_option maxRecDepth 20000 in
theorem ggX14_isSum_X14_isProduct : GoodIn wsX14_isSum wsX14_isProduct := goodIn_r _ [16, 1, 17, 18, 19, 5, 6, 7, 8, 9, 10, 11, 12, 13, 14, 15, 0, 2, 3, 4, 20, 21, 22, 23, 24, 25, 26, 27, 28, 29, 30, 31, 32, 33, 34, 35, 36, 37, 38, 39, 40, 41, 42, 43, 44, 45, 46, 47, 48, 49, 50, 51, 52, 53, 54, 55, 56, 57, 58, 59, 60, 61, 62, 63, 64, 65, 66, 67, 68, 69, 70, 71, 72, 73, 74, 75, 76, 77, 78, 79, 80, 81, 82, 83, 84, 85, 86, 87, 88, 89, 90, 91, 92, 93, 94, 95, 96] (by decide +kernel) (by decide +kernel)
set_option maxRecDepth 20000 in
theorem gX14_isSum_X14_isProduct : GoodIn wsX14_isSum (wsV RX14 205 RX14 yX14_isProduct wsX14_isProduct) := goodIn_app (goodIn_of _ (by decide +kernel)) ggX14_isSum_X14_isProduct
set_option maxRecDepth 20000 in
theorem ggX14_isSum_X14_isSign : GoodIn wsX14_isSum wsX14_isSign := goodIn_r _ [9, 10, 1, 57, 58, 59, 60, 61, 62, 63, 64, 65, 66, 67, 68, 69, 70, 71] (by decide +kernel) (by decide +kernel)
set_option maxRecDepth 20000 in
theorem gX14_isSum_X14_isSign : GoodIn wsX14_isSum (wsV RX14 199 RX14 yX14_isSign wsX14_isSign) := goodIn_app (goodIn_of _ (by decide +kernel)) ggX14_isSum_X14_isSign
set_option maxRecDepth 20000 in
theorem ggX14_isSum_X14_put : GoodIn wsX14_isSum wsX14_put := goodIn_r _ [14, 15, 57, 58, 59, 60, 61, 62, 63, 64, 65, 66, 67, 68, 69, 70, 71, 72, 73, 74, 75, 76, 77, 78, 79, 80, 81, 82, 83, 84, 85, 86, 87, 88, 89, 90, 91, 92, 93, 94, 95, 96] (by decide +kernel) (by decide +kernel)
set_option maxRecDepth 20000 in
theorem gX14_isSum_X14_put : GoodIn wsX14_isSum (wsV RX14 180 RX14 yX14_put wsX14_put) := goodIn_app (goodIn_of _ (by decide +kernel)) ggX14_isSum_X14_put
set_option maxRecDepth 20000 in
theorem ggX14_isProduct_X14_isValue : GoodIn wsX14_isProduct wsX14_isValue := goodIn_r _ [20, 1, 21, 10, 22, 23, 24, 5, 25, 11, 12, 13, 14, 15, 26, 27, 28, 29, 30, 31, 32, 33, 34, 35, 36, 37, 38, 39, 40, 41, 42, 43, 44, 45, 6, 7, 8, 9, 46, 47, 48, 49, 2, 3, 4, 50, 51, 52, 53, 54, 55, 56, 0, 16, 17, 18, 19, 57, 58, 59, 60, 61, 62, 63, 64, 65, 66, 67, 68, 69, 70, 71, 72, 73, 74, 75, 76, 77, 78, 79, 80, 81, 82, 83, 84, 85, 86, 87, 88, 89, 90, 91, 92, 93, 94, 95, 96] (by decide +kernel) (by decide +kernel)
set_option maxRecDepth 20000 in
theorem gX14_isProduct_X14_isValue : GoodIn wsX14_isProduct (wsV RX14 208 RX14 yX14_isValue wsX14_isValue) := goodIn_app (goodIn_of _ (by decide +kernel)) ggX14_isProduct_X14_isValue
set_option maxRecDepth 20000 in
theorem ggX14_isProduct_X14_isSign : GoodIn wsX14_isProduct wsX14_isSign := goodIn_r _ [9, 10, 1, 57, 58, 59, 60, 61, 62, 63, 64, 65, 66, 67, 68, 69, 70, 71] (by decide +kernel) (by decide +kernel)
set_option maxRecDepth 20000 in
theorem gX14_isProduct_X14_isSign : GoodIn wsX14_isProduct (wsV RX14 199 RX14 yX14_isSign wsX14_isSign) := goodIn_app (goodIn_of _ (by decide +kernel)) ggX14_isProduct_X14_isSign
set_option maxRecDepth 20000 in
theorem ggX14_isProduct_X14_put : GoodIn wsX14_isProduct wsX14_put := goodIn_r _ [14, 15, 57, 58, 59, 60, 61, 62, 63, 64, 65, 66, 67, 68, 69, 70, 71, 72, 73, 74, 75, 76, 77, 78, 79, 80, 81, 82, 83, 84, 85, 86, 87, 88, 89, 90, 91, 92, 93, 94, 95, 96] (by decide +kernel) (by decide +kernel)
set_option maxRecDepth 20000 in
theorem gX14_isProduct_X14_put : GoodIn wsX14_isProduct (wsV RX14 180 RX14 yX14_put wsX14_put) := goodIn_app (goodIn_of _ (by decide +kernel)) ggX14_isProduct_X14_put
set_option maxRecDepth 20000 in
theorem ggX14_isValue_X14_is : GoodIn wsX14_isValue wsX14_is := goodIn_r _ [8, 3, 1, 57, 58, 59, 60, 61, 62, 63, 64, 65, 66, 67, 68, 69, 70, 71] (by decide +kernel) (by decide +kernel)
set_option maxRecDepth 20000 in
theorem gX14_isValue_X14_is : GoodIn wsX14_isValue (wsV RX14 121 RX14 yX14_is wsX14_is) := goodIn_app (goodIn_of _ (by decide +kernel)) ggX14_isValue_X14_is
set_option maxRecDepth 20000 in
theorem ggX14_isValue_X14_put : GoodIn wsX14_isValue wsX14_put := goodIn_r _ [12, 13, 57, 58, 59, 60, 61, 62, 63, 64, 65, 66, 67, 68, 69, 70, 71, 72, 73, 74, 75, 76, 77, 78, 79, 80, 81, 82, 83, 84, 85, 86, 87, 88, 89, 90, 91, 92, 93, 94, 95, 96] (by decide +kernel) (by decide +kernel)
set_option maxRecDepth 20000 in
theorem gX14_isValue_X14_put : GoodIn wsX14_isValue (wsV RX14 180 RX14 yX14_put wsX14_put) := goodIn_app (goodIn_of _ (by decide +kernel)) ggX14_isValue_X14_put
set_option maxRecDepth 20000 in
theorem ggX14_isValue_X14_numberAt : GoodIn wsX14_isValue wsX14_numberAt := goodIn_r _ [17, 18, 19, 20, 57, 58, 59, 60, 61, 62, 63, 64, 65, 66, 67, 68, 69, 70, 71] (by decide +kernel) (by decide +kernel)
set_option maxRecDepth 20000 in
theorem gX14_isValue_X14_numberAt : GoodIn wsX14_isValue (wsV RX14 211 RX14 yX14_numberAt wsX14_numberAt) := goodIn_app (goodIn_of _ (by decide +kernel)) ggX14_isValue_X14_numberAt
set_option maxRecDepth 20000 in
theorem ggX14_isValue_X14_isNamed : GoodIn wsX14_isValue wsX14_isNamed := goodIn_r _ [24, 3, 1, 13, 9, 10, 11, 7, 12, 25, 26, 27, 28, 29, 30, 31, 32, 33, 4, 5, 6, 8, 57, 58, 59, 60, 61, 62, 63, 64, 65, 66, 67, 68, 69, 70, 71, 72, 73, 74, 75, 76, 77, 78, 79, 80, 81, 82, 83, 84, 85, 86, 87, 88, 89, 90, 91, 92, 93, 94, 95, 96] (by decide +kernel) (by decide +kernel)
set_option maxRecDepth 20000 in
theorem gX14_isValue_X14_isNamed : GoodIn wsX14_isValue (wsV RX14 202 RX14 yX14_isNamed wsX14_isNamed) := goodIn_app (goodIn_of _ (by decide +kernel)) ggX14_isValue_X14_isNamed
set_option maxRecDepth 20000 in
theorem ggX14_isValue_X14_isSign : GoodIn wsX14_isValue wsX14_isSign := goodIn_r _ [37, 3, 1, 57, 58, 59, 60, 61, 62, 63, 64, 65, 66, 67, 68, 69, 70, 71] (by decide +kernel) (by decide +kernel)
set_option maxRecDepth 20000 in
theorem gX14_isValue_X14_isSign : GoodIn wsX14_isValue (wsV RX14 199 RX14 yX14_isSign wsX14_isSign) := goodIn_app (goodIn_of _ (by decide +kernel)) ggX14_isValue_X14_isSign
set_option maxRecDepth 20000 in
theorem ggX14_isValue_X14_isDeeper : GoodIn wsX14_isValue wsX14_isDeeper := goodIn_r _ [41, 2, 1, 57, 58, 59, 60, 61, 62, 63, 64, 65, 66, 67, 68, 69, 70, 71] (by decide +kernel) (by decide +kernel)
set_option maxRecDepth 20000 in
theorem gX14_isValue_X14_isDeeper : GoodIn wsX14_isValue (wsV RX14 196 RX14 yX14_isDeeper wsX14_isDeeper) := goodIn_app (goodIn_of _ (by decide +kernel)) ggX14_isValue_X14_isDeeper
set_option maxRecDepth 20000 in
theorem ggX14_isValue_X14_isValue : GoodIn wsX14_isValue wsX14_isValue := goodIn_r _ [0, 1, 2, 3, 4, 5, 6, 7, 8, 9, 10, 11, 12, 13, 14, 15, 16, 17, 18, 19, 20, 21, 22, 23, 24, 25, 26, 27, 28, 29, 30, 31, 32, 33, 34, 35, 36, 37, 38, 39, 40, 41, 42, 43, 44, 45, 46, 47, 48, 49, 50, 51, 52, 53, 54, 55, 56, 57, 58, 59, 60, 61, 62, 63, 64, 65, 66, 67, 68, 69, 70, 71, 72, 73, 74, 75, 76, 77, 78, 79, 80, 81, 82, 83, 84, 85, 86, 87, 88, 89, 90, 91, 92, 93, 94, 95, 96] (by decide +kernel) (by decide +kernel)
set_option maxRecDepth 20000 in
theorem gX14_isValue_X14_isValue : GoodIn wsX14_isValue (wsV RX14 208 RX14 yX14_isValue wsX14_isValue) := goodIn_app (goodIn_of _ (by decide +kernel)) ggX14_isValue_X14_isValue
set_option maxRecDepth 20000 in
theorem ggX14_isValue_X14_eat : GoodIn wsX14_isValue wsX14_eat := goodIn_r _ [33, 1, 4, 5, 6, 7, 8, 3, 57, 58, 59, 60, 61, 62, 63, 64, 65, 66, 67, 68, 69, 70, 71] (by decide +kernel) (by decide +kernel)
set_option maxRecDepth 20000 in
theorem gX14_isValue_X14_eat : GoodIn wsX14_isValue (wsV RX14 124 RX14 yX14_eat wsX14_eat) := goodIn_app (goodIn_of _ (by decide +kernel)) ggX14_isValue_X14_eat
set_option maxRecDepth 20000 in
theorem ggX14_isValue_X14_isSum : GoodIn wsX14_isValue wsX14_isSum := goodIn_r _ [53, 1, 54, 55, 56, 7, 34, 35, 36, 37, 3, 9, 10, 11, 12, 13, 52, 42, 43, 44, 0, 2, 4, 5, 6, 8, 14, 15, 16, 17, 18, 19, 20, 21, 22, 23, 24, 25, 26, 27, 28, 29, 30, 31, 32, 33, 38, 39, 40, 41, 45, 46, 47, 48, 49, 50, 51, 57, 58, 59, 60, 61, 62, 63, 64, 65, 66, 67, 68, 69, 70, 71, 72, 73, 74, 75, 76, 77, 78, 79, 80, 81, 82, 83, 84, 85, 86, 87, 88, 89, 90, 91, 92, 93, 94, 95, 96] (by decide +kernel) (by decide +kernel)
set_option maxRecDepth 20000 in
theorem gX14_isValue_X14_isSum : GoodIn wsX14_isValue (wsV RX14 171 RX14 yX14_isSum wsX14_isSum) := goodIn_app (goodIn_of _ (by decide +kernel)) ggX14_isValue_X14_isSum
set_option maxRecDepth 20000 in
theorem ggX14_isValue_X14_eatSign : GoodIn wsX14_isValue wsX14_eatSign := goodIn_r _ [51, 30, 31, 32, 7, 33, 1, 4, 5, 6, 8, 3, 57, 58, 59, 60, 61, 62, 63, 64, 65, 66, 67, 68, 69, 70, 71] (by decide +kernel) (by decide +kernel)
set_option maxRecDepth 20000 in
theorem gX14_isValue_X14_eatSign : GoodIn wsX14_isValue (wsV RX14 145 RX14 yX14_eatSign wsX14_eatSign) := goodIn_app (goodIn_of _ (by decide +kernel)) ggX14_isValue_X14_eatSign
set_option maxRecDepth 20000 in
theorem ggX14_told_X14_isSame : GoodIn wsX14_told wsX14_isSame := goodIn_r _ [6, 7, 8, 9, 10, 11, 12, 13, 14, 15, 16, 17, 18, 19, 20, 21, 22, 23, 24] (by decide +kernel) (by decide +kernel)
set_option maxRecDepth 20000 in
theorem gX14_told_X14_isSame : GoodIn wsX14_told (wsV RX14 214 RX14 yX14_isSame wsX14_isSame) := goodIn_app (goodIn_of _ (by decide +kernel)) ggX14_told_X14_isSame
set_option maxRecDepth 20000 in
theorem ggX14_look_X14_told : GoodIn wsX14_look wsX14_told := goodIn_r _ [6, 7, 8, 9, 10, 5, 11, 12, 13, 14, 15, 16, 17, 18, 19, 20, 21, 22, 23, 24, 25, 26, 27, 28, 29] (by decide +kernel) (by decide +kernel)
set_option maxRecDepth 20000 in
theorem gX14_look_X14_told : GoodIn wsX14_look (wsV RX14 217 RX14 yX14_told wsX14_told) := goodIn_app (goodIn_of _ (by decide +kernel)) ggX14_look_X14_told
set_option maxRecDepth 20000 in
theorem ggX14_inRange_X14_numberAt : GoodIn wsX14_inRange wsX14_numberAt := goodIn_r _ [5, 6, 7, 8, 12, 13, 14, 15, 16, 17, 18, 19, 20, 21, 22, 23, 24, 25, 26] (by decide +kernel) (by decide +kernel)
set_option maxRecDepth 20000 in
theorem gX14_inRange_X14_numberAt : GoodIn wsX14_inRange (wsV RX14 211 RX14 yX14_numberAt wsX14_numberAt) := goodIn_app (goodIn_of _ (by decide +kernel)) ggX14_inRange_X14_numberAt
set_option maxRecDepth 20000 in
theorem ggX14_inRange_X14_isIn : GoodIn wsX14_inRange wsX14_isIn := goodIn_r _ [11] (by decide +kernel) (by decide +kernel)
set_option maxRecDepth 20000 in
theorem gX14_inRange_X14_isIn : GoodIn wsX14_inRange (va_wsS RX14 63 yX14_isIn wsX14_isIn) := goodIn_app (goodIn_of _ (by decide +kernel)) ggX14_inRange_X14_isIn
set_option maxRecDepth 20000 in
theorem ggX14_errorOf_X14_told : GoodIn wsX14_errorOf wsX14_told := goodIn_r _ [8, 2, 9, 10, 11, 7, 12, 13, 14, 15, 35, 36, 37, 38, 39, 40, 41, 42, 43, 44, 45, 46, 47, 48, 49] (by decide +kernel) (by decide +kernel)
set_option maxRecDepth 20000 in
theorem gX14_errorOf_X14_told : GoodIn wsX14_errorOf (wsV RX14 217 RX14 yX14_told wsX14_told) := goodIn_app (goodIn_of _ (by decide +kernel)) ggX14_errorOf_X14_told
set_option maxRecDepth 20000 in
theorem ggX14_errorOf_X14_numberAt : GoodIn wsX14_errorOf wsX14_numberAt := goodIn_r _ [19, 13, 14, 15, 35, 36, 37, 38, 39, 40, 41, 42, 43, 44, 45, 46, 47, 48, 49] (by decide +kernel) (by decide +kernel)
set_option maxRecDepth 20000 in
theorem gX14_errorOf_X14_numberAt : GoodIn wsX14_errorOf (wsV RX14 211 RX14 yX14_numberAt wsX14_numberAt) := goodIn_app (goodIn_of _ (by decide +kernel)) ggX14_errorOf_X14_numberAt
set_option maxRecDepth 20000 in
theorem ggX14_errorOf_X14_inRange : GoodIn wsX14_errorOf wsX14_inRange := goodIn_r _ [23, 16, 17, 18, 7, 19, 13, 14, 15, 24, 25, 26, 35, 36, 37, 38, 39, 40, 41, 42, 43, 44, 45, 46, 47, 48, 49] (by decide +kernel) (by decide +kernel)
set_option maxRecDepth 20000 in
theorem gX14_errorOf_X14_inRange : GoodIn wsX14_errorOf (wsV RX14 234 RX14 yX14_inRange wsX14_inRange) := goodIn_app (goodIn_of _ (by decide +kernel)) ggX14_errorOf_X14_inRange
set_option maxRecDepth 20000 in
theorem ggX14_errorOf_X14_look : GoodIn wsX14_errorOf wsX14_look := goodIn_r _ [30, 3, 4, 5, 6, 7, 8, 2, 9, 10, 11, 12, 13, 14, 15, 35, 36, 37, 38, 39, 40, 41, 42, 43, 44, 45, 46, 47, 48, 49] (by decide +kernel) (by decide +kernel)
set_option maxRecDepth 20000 in
theorem gX14_errorOf_X14_look : GoodIn wsX14_errorOf (wsV RX14 250 RX14 yX14_look wsX14_look) := goodIn_app (goodIn_of _ (by decide +kernel)) ggX14_errorOf_X14_look
set_option maxRecDepth 20000 in
theorem ggX14_errorOf_X14_member : GoodIn wsX14_errorOf wsX14_member := goodIn_r _ [34, 1, 35, 36, 37, 38, 39, 40, 41, 42, 43, 44, 45, 46, 47, 48, 49, 50, 51, 52, 53, 54, 55, 56, 57, 58, 59, 60, 61, 62, 63, 64, 65, 66, 67, 68, 69, 70, 71, 72, 73, 74] (by decide +kernel) (by decide +kernel)
set_option maxRecDepth 20000 in
theorem gX14_errorOf_X14_member : GoodIn wsX14_errorOf (wsV RX14 259 RX14 yX14_member wsX14_member) := goodIn_app (goodIn_of _ (by decide +kernel)) ggX14_errorOf_X14_member
set_option maxRecDepth 20000 in
theorem ggX14_read_X13_init : GoodIn wsX14_read wsX13_init := goodIn_r _ [11, 12, 13, 14, 15, 16, 17, 18, 19, 20, 21, 22, 23, 24, 25, 26, 27, 28, 29, 30, 31, 279, 280, 281, 282, 283, 284, 285, 286, 287, 288, 289, 290, 291, 292, 293, 294, 295, 296, 297, 298, 299, 300, 301, 302, 303] (by decide +kernel) (by decide +kernel)
set_option maxRecDepth 20000 in
theorem gX14_read_X13_init_n34 : GoodIn wsX14_read (wsX13_init) := ggX14_read_X13_init
set_option maxRecDepth 20000 in
theorem ggX14_read_X14_cut : GoodIn wsX14_read wsX14_cut := goodIn_r _ [36, 7, 37, 9, 38, 39, 40, 41, 42, 35, 43, 44, 45, 46, 47, 48, 49, 50, 51, 52, 53, 54, 55, 56, 57, 58, 59, 60, 61, 62, 63, 64, 65, 66, 67, 68, 69, 70, 71, 72, 73, 74, 75, 76, 77, 78, 79, 80, 81, 82, 83, 84, 85, 86, 87, 88, 89, 90, 91, 92, 93, 94, 95, 96, 97, 98, 99, 100, 101, 102, 103, 104, 105, 106, 107, 108, 109, 110, 111, 112, 113, 114, 115, 116, 117, 118, 119, 120, 121, 122, 123, 124, 125, 126, 127, 128, 129, 130, 131, 132, 133, 134, 135, 136, 137, 138, 139, 140, 141, 142, 143, 144, 145, 146, 147, 148, 149, 150, 151, 152, 153, 154, 155, 156, 157, 158, 159, 160, 161, 162, 163, 164, 165, 166, 167, 168, 169, 170, 304, 305, 306, 307, 308, 309, 310, 311, 312, 313, 314, 315, 316, 317, 318] (by decide +kernel) (by decide +kernel)
set_option maxRecDepth 20000 in
theorem gX14_read_X14_cut : GoodIn wsX14_read (wsV RX14 267 RX14 yX14_cut wsX14_cut) := goodIn_app (goodIn_of _ (by decide +kernel)) ggX14_read_X14_cut
set_option maxRecDepth 20000 in
theorem ggX14_read_X14_isText : GoodIn wsX14_read wsX14_isText := goodIn_r _ [174, 175, 176, 177, 35, 178, 38, 5, 179, 180, 181, 182, 183, 184, 185, 186, 37, 187, 188, 189, 190, 191, 192, 193, 194, 195, 196, 197, 198, 199, 200, 201, 202, 4, 203, 127, 124, 128, 204, 205, 206, 207, 208, 209, 210, 211, 212, 213, 214, 215, 216, 217, 218, 219, 6, 220, 221, 222, 223, 224, 225, 226, 227, 228, 229, 230, 231, 232, 233, 234, 235, 236, 237, 238, 239, 240, 241, 242, 243, 244, 245, 246, 247, 39, 45, 7, 248, 249, 250, 251, 304, 305, 306, 307, 308, 309, 310, 311, 312, 313, 314, 315, 316, 317, 318, 279, 280, 281, 282, 283, 284, 285, 286, 287, 288, 289, 290, 291, 292, 293, 294, 295, 296, 297, 298, 299, 300, 301, 302, 303] (by decide +kernel) (by decide +kernel)
set_option maxRecDepth 20000 in
theorem gX14_read_X14_isText : GoodIn wsX14_read (wsV RX14 270 RX14 yX14_isText wsX14_isText) := goodIn_app (goodIn_of _ (by decide +kernel)) ggX14_read_X14_isText
set_option maxRecDepth 20000 in
theorem ggX14_read_X14_errorOf : GoodIn wsX14_read wsX14_errorOf := goodIn_r _ [255, 4, 37, 9, 256, 257, 258, 35, 259, 260, 261, 262, 263, 39, 45, 7, 244, 245, 246, 247, 264, 265, 266, 267, 268, 269, 270, 271, 272, 273, 274, 275, 276, 277, 278, 304, 305, 306, 307, 308, 309, 310, 311, 312, 313, 314, 315, 316, 317, 318, 279, 280, 281, 282, 283, 284, 285, 286, 287, 288, 289, 290, 291, 292, 293, 294, 295, 296, 297, 298, 299, 300, 301, 302, 303] (by decide +kernel) (by decide +kernel)
set_option maxRecDepth 20000 in
theorem gX14_read_X14_errorOf : GoodIn wsX14_read (wsV RX14 273 RX14 yX14_errorOf wsX14_errorOf) := goodIn_app (goodIn_of _ (by decide +kernel)) ggX14_read_X14_errorOf
set_option maxRecDepth 20000 in
theorem ggX14_feed_X14_no : GoodIn wsX14_feed wsX14_no := goodIn_r _ [9, 1, 10, 11, 12, 13, 14, 15, 16, 17, 18, 19, 20, 21, 22, 23, 24] (by decide +kernel) (by decide +kernel)
set_option maxRecDepth 20000 in
theorem gX14_feed_X14_no : GoodIn wsX14_feed (wsV RX14 276 RX14 yX14_no wsX14_no) := goodIn_app (goodIn_of _ (by decide +kernel)) ggX14_feed_X14_no
set_option maxRecDepth 20000 in
theorem ggX14_trim_X14_isIn : GoodIn wsX14_trim wsX14_isIn := goodIn_r _ [6] (by decide +kernel) (by decide +kernel)
set_option maxRecDepth 20000 in
theorem gX14_trim_X14_isIn : GoodIn wsX14_trim (va_wsS RX14 63 yX14_isIn wsX14_isIn) := goodIn_app (goodIn_of _ (by decide +kernel)) ggX14_trim_X14_isIn
set_option maxRecDepth 20000 in
theorem ggX14_trim_X14_no : GoodIn wsX14_trim wsX14_no := goodIn_r _ [10, 1, 11, 12, 13, 14, 15, 16, 17, 18, 19, 20, 21, 22, 23, 24, 25] (by decide +kernel) (by decide +kernel)
set_option maxRecDepth 20000 in
theorem gX14_trim_X14_no : GoodIn wsX14_trim (wsV RX14 276 RX14 yX14_no wsX14_no) := goodIn_app (goodIn_of _ (by decide +kernel)) ggX14_trim_X14_no
set_option maxRecDepth 20000 in
theorem ggX14_teach_X14_read : GoodIn wsX14_teach wsX14_read := goodIn_r _ [11, 12, 13, 14, 4, 15, 16, 17, 2, 18, 19, 20, 21, 22, 23, 24, 25, 26, 27, 28, 29, 30, 31, 32, 33, 34, 35, 36, 37, 38, 39, 40, 41, 42, 43, 10, 44, 45, 46, 47, 48, 49, 50, 51, 3, 52, 53, 54, 55, 56, 57, 58, 59, 60, 61, 62, 63, 64, 65, 66, 67, 68, 69, 70, 71, 72, 73, 74, 75, 76, 77, 78, 79, 80, 81, 82, 83, 84, 85, 86, 87, 88, 89, 90, 91, 92, 93, 94, 95, 96, 97, 98, 99, 100, 101, 102, 103, 104, 105, 106, 107, 108, 109, 110, 111, 112, 113, 114, 115, 116, 117, 118, 119, 120, 121, 122, 123, 124, 125, 126, 127, 128, 129, 130, 131, 132, 133, 134, 135, 136, 137, 138, 139, 140, 141, 142, 143, 144, 145, 146, 147, 148, 149, 150, 151, 152, 153, 154, 155, 156, 157, 158, 159, 160, 161, 162, 163, 164, 165, 166, 167, 168, 169, 170, 171, 172, 173, 174, 175, 176, 177, 178, 179, 180, 181, 182, 183, 184, 185, 186, 187, 188, 189, 190, 191, 192, 193, 194, 195, 196, 197, 198, 199, 200, 201, 202, 203, 204, 205, 206, 207, 208, 209, 210, 211, 212, 213, 214, 215, 216, 217, 218, 219, 220, 221, 222, 223, 224, 225, 226, 227, 228, 229, 230, 231, 232, 233, 234, 235, 236, 237, 238, 239, 240, 241, 242, 243, 244, 245, 246, 247, 248, 249, 250, 251, 252, 253, 254, 255, 256, 257, 258, 259, 260, 261, 262, 263, 264, 265, 266, 267, 268, 269, 270, 271, 272, 273, 274, 275, 276, 277, 278, 279, 280, 281, 282, 283, 284, 285, 328, 329, 330, 331, 332, 333, 334, 335, 336, 337, 338, 339, 340, 341, 342, 343, 344, 345, 346, 347, 348, 349, 350, 351, 352, 313, 314, 315, 316, 317, 318, 319, 320, 321, 322, 323, 324, 325, 326, 327] (by decide +kernel) (by decide +kernel)
set_option maxRecDepth 20000 in
theorem gX14_teach_X14_read : GoodIn wsX14_teach (wsV RX14 279 RX14 yX14_read wsX14_read) := goodIn_app (goodIn_of _ (by decide +kernel)) ggX14_teach_X14_read
set_option maxRecDepth 20000 in
theorem ggX14_teach_X12_begin : GoodIn wsX14_teach wsX12_begin := goodIn_r _ [290, 291, 292, 293, 294, 295, 296, 297, 298, 299, 300, 301, 302, 303, 304, 305, 306, 307, 289, 308, 309, 310, 311, 312, 353, 354, 355, 356, 357, 358, 359, 360, 361, 362, 363, 364, 365, 366, 367, 368, 369, 370, 371, 313, 314, 315, 316, 317, 318, 319, 320, 321, 322, 323, 324, 325, 326, 327, 328, 329, 330, 331, 332, 333, 334, 335, 336, 337, 338, 339, 340, 341, 342, 343, 344, 345, 346, 347, 348, 349, 350, 351, 352] (by decide +kernel) (by decide +kernel)
set_option maxRecDepth 20000 in
theorem gX14_teach_X12_begin : GoodIn wsX14_teach (wsV RX14 54 RX12 yX12_begin wsX12_begin) := goodIn_app (goodIn_of _ (by decide +kernel)) ggX14_teach_X12_begin
set_option maxRecDepth 20000 in
theorem ggX14_counted_X12_sum : GoodIn wsX14_counted wsX12_sum := goodIn_r _ [9] (by decide +kernel) (by decide +kernel)
set_option maxRecDepth 20000 in
theorem gX14_counted_X12_sum : GoodIn wsX14_counted (wsV RX14 287 RX12 yX12_sum wsX12_sum) := goodIn_app (goodIn_of _ (by decide +kernel)) ggX14_counted_X12_sum
set_option maxRecDepth 20000 in
theorem ggX14_count_X14_isIn : GoodIn wsX14_count wsX14_isIn := goodIn_r _ [5] (by decide +kernel) (by decide +kernel)
set_option maxRecDepth 20000 in
theorem gX14_count_X14_isIn : GoodIn wsX14_count (va_wsS RX14 63 yX14_isIn wsX14_isIn) := goodIn_app (goodIn_of _ (by decide +kernel)) ggX14_count_X14_isIn
set_option maxRecDepth 20000 in
theorem ggX14_count_X14_counted : GoodIn wsX14_count wsX14_counted := goodIn_r _ [9, 10, 11, 12, 13, 14, 15, 16, 17, 18, 23, 24, 25, 26, 27, 28, 29, 30, 31, 32, 33, 34, 35, 36, 37, 38, 39, 40, 41, 42, 43, 44, 45, 46, 47, 48, 49, 50, 51, 52, 53, 54, 55, 56, 57, 58, 59, 60, 61, 62, 63, 64, 65, 66, 67, 68, 69, 70, 71, 72, 73, 74, 75, 76, 77, 78, 79, 80, 81] (by decide +kernel) (by decide +kernel)
set_option maxRecDepth 20000 in
theorem gX14_count_X14_counted : GoodIn wsX14_count (wsV RX14 296 RX14 yX14_counted wsX14_counted) := goodIn_app (goodIn_of _ (by decide +kernel)) ggX14_count_X14_counted
set_option maxRecDepth 20000 in
theorem ggX14_count_X14_no : GoodIn wsX14_count wsX14_no := goodIn_r _ [22, 1, 23, 24, 25, 26, 27, 28, 29, 30, 31, 32, 33, 34, 35, 36, 37] (by decide +kernel) (by decide +kernel)
set_option maxRecDepth 20000 in
theorem gX14_count_X14_no : GoodIn wsX14_count (wsV RX14 276 RX14 yX14_no wsX14_no) := goodIn_app (goodIn_of _ (by decide +kernel)) ggX14_count_X14_no
set_option maxRecDepth 20000 in
theorem ggX14_groundTold_X12_fishAt : GoodIn wsX14_groundTold wsX12_fishAt := goodIn_r _ [7, 8, 29, 30, 31, 32, 33, 34, 35, 36, 37, 38, 39, 40, 41, 42, 43, 44, 45, 46, 47] (by decide +kernel) (by decide +kernel)
set_option maxRecDepth 20000 in
theorem gX14_groundTold_X12_fishAt : GoodIn wsX14_groundTold (wsV RX14 302 RX12 yX12_fishAt wsX12_fishAt) := goodIn_app (goodIn_of _ (by decide +kernel)) ggX14_groundTold_X12_fishAt
set_option maxRecDepth 20000 in
theorem ggX14_groundTold_X14_takenAt : GoodIn wsX14_groundTold wsX14_takenAt := goodIn_r _ [13, 2, 1, 14, 15, 16, 17, 18, 19, 20, 21, 22, 23, 24, 25, 26, 27, 28, 48, 49, 50, 51, 52, 53, 54, 55, 56, 57, 58, 59, 60, 61, 62, 63, 64, 65, 66, 67, 68, 69, 70, 71, 72, 29, 30, 31, 32, 33, 34, 35, 36, 37, 38, 39, 40, 41, 42, 43, 44, 45, 46, 47] (by decide +kernel) (by decide +kernel)
set_option maxRecDepth 20000 in
theorem gX14_groundTold_X14_takenAt : GoodIn wsX14_groundTold (wsV RX14 308 RX14 yX14_takenAt wsX14_takenAt) := goodIn_app (goodIn_of _ (by decide +kernel)) ggX14_groundTold_X14_takenAt
set_option maxRecDepth 20000 in
theorem ggX14_ground_X14_isGround : GoodIn wsX14_ground wsX14_isGround := goodIn_r _ [6, 7, 8, 9, 5, 10, 30, 31, 32, 33, 34, 35, 36, 37, 38, 39, 40, 41, 42, 43, 44, 45, 46, 47, 48, 49, 50, 51, 52, 53, 54, 55, 56, 57, 58, 59, 60, 61, 62, 63, 64, 65, 66, 67, 68, 69] (by decide +kernel) (by decide +kernel)
set_option maxRecDepth 20000 in
theorem gX14_ground_X14_isGround : GoodIn wsX14_ground (wsV RX14 311 RX14 yX14_isGround wsX14_isGround) := goodIn_app (goodIn_of _ (by decide +kernel)) ggX14_ground_X14_isGround
set_option maxRecDepth 20000 in
theorem ggX14_ground_X14_isIn : GoodIn wsX14_ground wsX14_isIn := goodIn_r _ [10] (by decide +kernel) (by decide +kernel)
set_option maxRecDepth 20000 in
theorem gX14_ground_X14_isIn : GoodIn wsX14_ground (va_wsS RX14 63 yX14_isIn wsX14_isIn) := goodIn_app (goodIn_of _ (by decide +kernel)) ggX14_ground_X14_isIn
set_option maxRecDepth 20000 in
theorem ggX14_ground_X14_groundTold : GoodIn wsX14_ground wsX14_groundTold := goodIn_r _ [14, 15, 7, 16, 17, 18, 19, 20, 21, 22, 23, 24, 5, 25, 30, 31, 32, 33, 34, 35, 36, 37, 38, 39, 40, 41, 42, 43, 44, 70, 71, 72, 73, 74, 75, 76, 77, 78, 79, 80, 81, 82, 83, 84, 85, 86, 87, 88, 45, 46, 47, 48, 49, 50, 51, 52, 53, 54, 55, 56, 57, 58, 59, 60, 61, 62, 63, 64, 65, 66, 67, 68, 69] (by decide +kernel) (by decide +kernel)
set_option maxRecDepth 20000 in
theorem gX14_ground_X14_groundTold : GoodIn wsX14_ground (wsV RX14 314 RX14 yX14_groundTold wsX14_groundTold) := goodIn_app (goodIn_of _ (by decide +kernel)) ggX14_ground_X14_groundTold
set_option maxRecDepth 20000 in
theorem ggX14_ground_X14_no : GoodIn wsX14_ground wsX14_no := goodIn_r _ [29, 1, 30, 31, 32, 33, 34, 35, 36, 37, 38, 39, 40, 41, 42, 43, 44] (by decide +kernel) (by decide +kernel)
set_option maxRecDepth 20000 in
theorem gX14_ground_X14_no : GoodIn wsX14_ground (wsV RX14 276 RX14 yX14_no wsX14_no) := goodIn_app (goodIn_of _ (by decide +kernel)) ggX14_ground_X14_no
set_option maxRecDepth 20000 in
theorem ggX14_fisherTold_X14_takenBy : GoodIn wsX14_fisherTold wsX14_takenBy := goodIn_r _ [8, 3, 2, 9, 10, 11, 12, 13, 14, 15, 16, 17, 18, 19, 20, 21, 22, 23, 43, 44, 45, 46, 47, 48, 49, 50, 51, 52, 53, 54, 55, 56, 57, 58, 59, 60, 61, 62, 63, 64, 65, 66, 67, 24, 25, 26, 27, 28, 29, 30, 31, 32, 33, 34, 35, 36, 37, 38, 39, 40, 41, 42] (by decide +kernel) (by decide +kernel)
set_option maxRecDepth 20000 in
theorem gX14_fisherTold_X14_takenBy : GoodIn wsX14_fisherTold (wsV RX14 326 RX14 yX14_takenBy wsX14_takenBy) := goodIn_app (goodIn_of _ (by decide +kernel)) ggX14_fisherTold_X14_takenBy
set_option maxRecDepth 20000 in
theorem ggX14_fisher_X14_isFisher : GoodIn wsX14_fisher wsX14_isFisher := goodIn_r _ [6, 7, 8, 9, 5, 10, 25, 26, 27, 28, 29, 30, 31, 32, 33, 34, 35, 36, 37, 38, 39, 40, 41, 42, 43, 44, 45, 46, 47, 48, 49, 50, 51, 52, 53, 54, 55, 56, 57, 58, 59, 60, 61, 62, 63, 64] (by decide +kernel) (by decide +kernel)
set_option maxRecDepth 20000 in
theorem gX14_fisher_X14_isFisher : GoodIn wsX14_fisher (wsV RX14 329 RX14 yX14_isFisher wsX14_isFisher) := goodIn_app (goodIn_of _ (by decide +kernel)) ggX14_fisher_X14_isFisher
set_option maxRecDepth 20000 in
theorem ggX14_fisher_X14_isIn : GoodIn wsX14_fisher wsX14_isIn := goodIn_r _ [10] (by decide +kernel) (by decide +kernel)
set_option maxRecDepth 20000 in
theorem gX14_fisher_X14_isIn : GoodIn wsX14_fisher (va_wsS RX14 63 yX14_isIn wsX14_isIn) := goodIn_app (goodIn_of _ (by decide +kernel)) ggX14_fisher_X14_isIn
set_option maxRecDepth 20000 in
theorem ggX14_fisher_X14_fisherTold : GoodIn wsX14_fisher wsX14_fisherTold := goodIn_r _ [14, 15, 16, 7, 17, 18, 19, 5, 20, 25, 26, 27, 28, 29, 30, 31, 32, 33, 34, 35, 36, 37, 38, 39, 65, 66, 67, 68, 69, 70, 71, 72, 73, 74, 75, 76, 77, 78, 79, 80, 81, 82, 83, 40, 41, 42, 43, 44, 45, 46, 47, 48, 49, 50, 51, 52, 53, 54, 55, 56, 57, 58, 59, 60, 61, 62, 63, 64] (by decide +kernel) (by decide +kernel)
set_option maxRecDepth 20000 in
theorem gX14_fisher_X14_fisherTold : GoodIn wsX14_fisher (wsV RX14 332 RX14 yX14_fisherTold wsX14_fisherTold) := goodIn_app (goodIn_of _ (by decide +kernel)) ggX14_fisher_X14_fisherTold
set_option maxRecDepth 20000 in
theorem ggX14_fisher_X14_no : GoodIn wsX14_fisher wsX14_no := goodIn_r _ [24, 1, 25, 26, 27, 28, 29, 30, 31, 32, 33, 34, 35, 36, 37, 38, 39] (by decide +kernel) (by decide +kernel)
set_option maxRecDepth 20000 in
theorem gX14_fisher_X14_no : GoodIn wsX14_fisher (wsV RX14 276 RX14 yX14_no wsX14_no) := goodIn_app (goodIn_of _ (by decide +kernel)) ggX14_fisher_X14_no
set_option maxRecDepth 20000 in
theorem ggX14_pact_X14_isIn : GoodIn wsX14_pact wsX14_isIn := goodIn_r _ [6] (by decide +kernel) (by decide +kernel)
set_option maxRecDepth 20000 in
theorem gX14_pact_X14_isIn : GoodIn wsX14_pact (va_wsS RX14 63 yX14_isIn wsX14_isIn) := goodIn_app (goodIn_of _ (by decide +kernel)) ggX14_pact_X14_isIn
set_option maxRecDepth 20000 in
theorem ggX14_pact_X14_pactTold : GoodIn wsX14_pact wsX14_pactTold := goodIn_r _ [10, 11, 2, 12, 17, 18, 19, 20, 21, 22, 23, 24, 25, 26, 27, 28, 29, 30, 31, 32, 33, 34, 35, 36, 37, 38, 39, 40, 41, 42, 43, 44, 45, 46, 47, 48, 49, 50, 51, 52, 53, 54, 55, 56, 57, 58, 59, 60, 61, 62, 63, 64, 65, 66, 67, 68, 69, 70, 71, 72, 73, 74, 75] (by decide +kernel) (by decide +kernel)
set_option maxRecDepth 20000 in
theorem gX14_pact_X14_pactTold : GoodIn wsX14_pact (wsV RX14 344 RX14 yX14_pactTold wsX14_pactTold) := goodIn_app (goodIn_of _ (by decide +kernel)) ggX14_pact_X14_pactTold
set_option maxRecDepth 20000 in
theorem ggX14_pact_X14_no : GoodIn wsX14_pact wsX14_no := goodIn_r _ [16, 1, 17, 18, 19, 20, 21, 22, 23, 24, 25, 26, 27, 28, 29, 30, 31] (by decide +kernel) (by decide +kernel)
set_option maxRecDepth 20000 in
theorem gX14_pact_X14_no : GoodIn wsX14_pact (wsV RX14 276 RX14 yX14_no wsX14_no) := goodIn_app (goodIn_of _ (by decide +kernel)) ggX14_pact_X14_no
set_option maxRecDepth 20000 in
theorem ggX14_cheat_X14_isFisher : GoodIn wsX14_cheat wsX14_isFisher := goodIn_r _ [7, 8, 9, 10, 6, 11, 21, 22, 23, 24, 25, 26, 27, 28, 29, 30, 31, 32, 33, 34, 35, 55, 56, 57, 58, 59, 60, 61, 62, 63, 64, 65, 66, 67, 68, 69, 70, 71, 72, 73, 74, 75, 76, 77, 78, 79] (by decide +kernel) (by decide +kernel)
set_option maxRecDepth 20000 in
theorem gX14_cheat_X14_isFisher : GoodIn wsX14_cheat (wsV RX14 329 RX14 yX14_isFisher wsX14_isFisher) := goodIn_app (goodIn_of _ (by decide +kernel)) ggX14_cheat_X14_isFisher
set_option maxRecDepth 20000 in
theorem ggX14_cheat_X14_no : GoodIn wsX14_cheat wsX14_no := goodIn_r _ [15, 1, 21, 22, 23, 24, 25, 26, 27, 28, 29, 30, 31, 32, 33, 34, 35] (by decide +kernel) (by decide +kernel)
set_option maxRecDepth 20000 in
theorem gX14_cheat_X14_no : GoodIn wsX14_cheat (wsV RX14 276 RX14 yX14_no wsX14_no) := goodIn_app (goodIn_of _ (by decide +kernel)) ggX14_cheat_X14_no
set_option maxRecDepth 20000 in
theorem ggX14_cheat_X12_sum : GoodIn wsX14_cheat wsX12_sum := goodIn_r _ [20] (by decide +kernel) (by decide +kernel)
set_option maxRecDepth 20000 in
theorem gX14_cheat_X12_sum : GoodIn wsX14_cheat (wsV RX14 287 RX12 yX12_sum wsX12_sum) := goodIn_app (goodIn_of _ (by decide +kernel)) ggX14_cheat_X12_sum
set_option maxRecDepth 20000 in
theorem ggX14_mend_X14_isFisher : GoodIn wsX14_mend wsX14_isFisher := goodIn_r _ [8, 3, 9, 10, 7, 11, 16, 17, 18, 19, 20, 21, 22, 23, 24, 25, 26, 27, 28, 29, 30, 50, 51, 52, 53, 54, 55, 56, 57, 58, 59, 60, 61, 62, 63, 64, 65, 66, 67, 68, 69, 70, 71, 72, 73, 74] (by decide +kernel) (by decide +kernel)
set_option maxRecDepth 20000 in
theorem gX14_mend_X14_isFisher : GoodIn wsX14_mend (wsV RX14 329 RX14 yX14_isFisher wsX14_isFisher) := goodIn_app (goodIn_of _ (by decide +kernel)) ggX14_mend_X14_isFisher
set_option maxRecDepth 20000 in
theorem ggX14_mend_X14_no : GoodIn wsX14_mend wsX14_no := goodIn_r _ [15, 1, 16, 17, 18, 19, 20, 21, 22, 23, 24, 25, 26, 27, 28, 29, 30] (by decide +kernel) (by decide +kernel)
set_option maxRecDepth 20000 in
theorem gX14_mend_X14_no : GoodIn wsX14_mend (wsV RX14 276 RX14 yX14_no wsX14_no) := goodIn_app (goodIn_of _ (by decide +kernel)) ggX14_mend_X14_no
set_option maxRecDepth 20000 in
theorem ggX14_lotOf_X12_draw : GoodIn wsX14_lotOf wsX12_draw := goodIn_r _ [7, 8, 9, 10, 11, 12, 13, 14, 15, 16, 32, 33, 34, 35, 36, 37, 38, 39, 40, 41, 42, 43, 44, 45, 46, 47, 48, 49, 50, 17, 18, 19, 20, 21, 22, 23, 24, 25, 26, 27, 28, 29, 30, 31, 51, 52, 53, 54, 55, 56, 57, 58, 59, 60, 61, 62, 63, 64, 65, 66, 67, 68, 69, 70, 71, 72, 73, 74, 75] (by decide +kernel) (by decide +kernel)
set_option maxRecDepth 20000 in
theorem gX14_lotOf_X12_draw : GoodIn wsX14_lotOf (wsV RX14 350 RX12 yX12_draw wsX12_draw) := goodIn_app (goodIn_of _ (by decide +kernel)) ggX14_lotOf_X12_draw
set_option maxRecDepth 20000 in
theorem ggX14_lot_X14_isFisher : GoodIn wsX14_lot wsX14_isFisher := goodIn_r _ [6, 7, 8, 9, 5, 10, 35, 36, 37, 38, 39, 40, 41, 42, 43, 44, 45, 46, 47, 48, 49, 50, 51, 52, 53, 54, 55, 56, 57, 58, 59, 60, 61, 62, 63, 64, 65, 66, 67, 68, 69, 70, 71, 72, 73, 74] (by decide +kernel) (by decide +kernel)
set_option maxRecDepth 20000 in
theorem gX14_lot_X14_isFisher : GoodIn wsX14_lot (wsV RX14 329 RX14 yX14_isFisher wsX14_isFisher) := goodIn_app (goodIn_of _ (by decide +kernel)) ggX14_lot_X14_isFisher
set_option maxRecDepth 20000 in
theorem ggX14_lot_X14_lotOf : GoodIn wsX14_lot wsX14_lotOf := goodIn_r _ [14, 15, 16, 17, 18, 19, 20, 21, 22, 23, 24, 25, 26, 27, 28, 29, 30, 35, 36, 37, 38, 39, 40, 41, 42, 43, 44, 45, 46, 47, 48, 49, 75, 76, 77, 78, 79, 80, 81, 82, 83, 84, 85, 86, 87, 88, 89, 90, 91, 92, 93, 50, 51, 52, 53, 54, 55, 56, 57, 58, 59, 60, 61, 62, 63, 64, 65, 66, 67, 68, 69, 70, 71, 72, 73, 74] (by decide +kernel) (by decide +kernel)
set_option maxRecDepth 20000 in
theorem gX14_lot_X14_lotOf : GoodIn wsX14_lot (wsV RX14 356 RX14 yX14_lotOf wsX14_lotOf) := goodIn_app (goodIn_of _ (by decide +kernel)) ggX14_lot_X14_lotOf
set_option maxRecDepth 20000 in
theorem ggX14_lot_X14_no : GoodIn wsX14_lot wsX14_no := goodIn_r _ [34, 1, 35, 36, 37, 38, 39, 40, 41, 42, 43, 44, 45, 46, 47, 48, 49] (by decide +kernel) (by decide +kernel)
set_option maxRecDepth 20000 in
theorem gX14_lot_X14_no : GoodIn wsX14_lot (wsV RX14 276 RX14 yX14_no wsX14_no) := goodIn_app (goodIn_of _ (by decide +kernel)) ggX14_lot_X14_no
set_option maxRecDepth 20000 in
theorem ggX14_took_X14_isGround : GoodIn wsX14_took wsX14_isGround := goodIn_r _ [7, 8, 9, 10, 6, 11, 20, 21, 22, 23, 24, 25, 26, 27, 28, 29, 30, 31, 32, 33, 34, 54, 55, 56, 57, 58, 59, 60, 61, 62, 63, 64, 65, 66, 67, 68, 69, 70, 71, 72, 73, 74, 75, 76, 77, 78] (by decide +kernel) (by decide +kernel)
set_option maxRecDepth 20000 in
theorem gX14_took_X14_isGround : GoodIn wsX14_took (wsV RX14 311 RX14 yX14_isGround wsX14_isGround) := goodIn_app (goodIn_of _ (by decide +kernel)) ggX14_took_X14_isGround
set_option maxRecDepth 20000 in
theorem ggX14_took_X14_isFisher : GoodIn wsX14_took wsX14_isFisher := goodIn_r _ [15, 8, 9, 10, 6, 11, 20, 21, 22, 23, 24, 25, 26, 27, 28, 29, 30, 31, 32, 33, 34, 54, 55, 56, 57, 58, 59, 60, 61, 62, 63, 64, 65, 66, 67, 68, 69, 70, 71, 72, 73, 74, 75, 76, 77, 78] (by decide +kernel) (by decide +kernel)
set_option maxRecDepth 20000 in
theorem gX14_took_X14_isFisher : GoodIn wsX14_took (wsV RX14 329 RX14 yX14_isFisher wsX14_isFisher) := goodIn_app (goodIn_of _ (by decide +kernel)) ggX14_took_X14_isFisher
set_option maxRecDepth 20000 in
theorem ggX14_took_X14_no : GoodIn wsX14_took wsX14_no := goodIn_r _ [19, 1, 20, 21, 22, 23, 24, 25, 26, 27, 28, 29, 30, 31, 32, 33, 34] (by decide +kernel) (by decide +kernel)
set_option maxRecDepth 20000 in
theorem gX14_took_X14_no : GoodIn wsX14_took (wsV RX14 276 RX14 yX14_no wsX14_no) := goodIn_app (goodIn_of _ (by decide +kernel)) ggX14_took_X14_no
set_option maxRecDepth 20000 in
theorem ggX14_blame_X14_isGround : GoodIn wsX14_blame wsX14_isGround := goodIn_r _ [8, 2, 9, 10, 7, 11, 16, 17, 18, 19, 20, 21, 22, 23, 24, 25, 26, 27, 28, 29, 30, 31, 32, 33, 34, 35, 36, 37, 38, 39, 40, 41, 42, 43, 44, 45, 46, 47, 48, 49, 50, 51, 52, 53, 54, 55] (by decide +kernel) (by decide +kernel)
set_option maxRecDepth 20000 in
theorem gX14_blame_X14_isGround : GoodIn wsX14_blame (wsV RX14 311 RX14 yX14_isGround wsX14_isGround) := goodIn_app (goodIn_of _ (by decide +kernel)) ggX14_blame_X14_isGround
set_option maxRecDepth 20000 in
theorem ggX14_blame_X14_no : GoodIn wsX14_blame wsX14_no := goodIn_r _ [15, 1, 16, 17, 18, 19, 20, 21, 22, 23, 24, 25, 26, 27, 28, 29, 30] (by decide +kernel) (by decide +kernel)
set_option maxRecDepth 20000 in
theorem gX14_blame_X14_no : GoodIn wsX14_blame (wsV RX14 276 RX14 yX14_no wsX14_no) := goodIn_app (goodIn_of _ (by decide +kernel)) ggX14_blame_X14_no
set_option maxRecDepth 20000 in
theorem ggX14_gap_X12_gap : GoodIn wsX14_gap wsX12_gap := goodIn_r _ [7, 8, 9, 10, 11, 12, 13, 14, 15, 16, 17, 33, 34, 35, 36, 37, 38, 39, 40, 41, 42, 43, 44, 45, 46, 47, 48, 49, 50, 51, 18, 19, 20, 21, 22, 23, 24, 25, 26, 27, 28, 29, 30, 31, 32, 52, 53, 54, 55, 56, 57, 58, 59, 60, 61, 62, 63, 64, 65, 66, 67, 68, 69, 70, 71, 72, 73, 74, 75, 76] (by decide +kernel) (by decide +kernel)
set_option maxRecDepth 20000 in
theorem gX14_gap_X12_gap : GoodIn wsX14_gap (wsV RX14 359 RX12 yX12_gap wsX12_gap) := goodIn_app (goodIn_of _ (by decide +kernel)) ggX14_gap_X12_gap
set_option maxRecDepth 20000 in
theorem ggX14_pass_X14_isIn : GoodIn wsX14_pass wsX14_isIn := goodIn_r _ [6] (by decide +kernel) (by decide +kernel)
set_option maxRecDepth 20000 in
theorem gX14_pass_X14_isIn : GoodIn wsX14_pass (va_wsS RX14 63 yX14_isIn wsX14_isIn) := goodIn_app (goodIn_of _ (by decide +kernel)) ggX14_pass_X14_isIn
set_option maxRecDepth 20000 in
theorem ggX14_pass_X14_no : GoodIn wsX14_pass wsX14_no := goodIn_r _ [10, 1, 96, 97, 98, 99, 100, 101, 102, 103, 104, 105, 106, 107, 108, 109, 110] (by decide +kernel) (by decide +kernel)
set_option maxRecDepth 20000 in
theorem gX14_pass_X14_no : GoodIn wsX14_pass (wsV RX14 276 RX14 yX14_no wsX14_no) := goodIn_app (goodIn_of _ (by decide +kernel)) ggX14_pass_X14_no
set_option maxRecDepth 20000 in
theorem ggX14_pass_X12_sum : GoodIn wsX14_pass wsX12_sum := goodIn_r _ [15] (by decide +kernel) (by decide +kernel)
set_option maxRecDepth 20000 in
theorem gX14_pass_X12_sum : GoodIn wsX14_pass (wsV RX14 287 RX12 yX12_sum wsX12_sum) := goodIn_app (goodIn_of _ (by decide +kernel)) ggX14_pass_X12_sum
set_option maxRecDepth 20000 in
theorem ggX14_pass_X12_pass : GoodIn wsX14_pass wsX12_pass := goodIn_r _ [19, 20, 21, 22, 23, 24, 25, 26, 27, 28, 14, 29, 30, 31, 32, 33, 34, 35, 36, 37, 38, 39, 40, 41, 42, 43, 44, 45, 46, 47, 48, 49, 50, 51, 52, 5, 53, 3, 4, 6, 54, 55, 56, 57, 58, 59, 60, 61, 62, 63, 64, 65, 66, 67, 68, 69, 70, 71, 72, 73, 74, 75, 76, 77, 78, 79, 80, 81, 82, 83, 84, 85, 86, 87, 88, 89, 90, 91, 92, 93, 94, 95, 111, 112, 113, 114, 115, 116, 117, 118, 119, 120, 121, 122, 123, 124, 125, 126, 127, 128, 129, 96, 97, 98, 99, 100, 101, 102, 103, 104, 105, 106, 107, 108, 109, 110, 130, 131, 132, 133, 134, 135, 136, 137, 138, 139, 140, 141, 142, 143, 144, 145, 146, 147, 148, 149, 150, 151, 152, 153, 154] (by decide +kernel) (by decide +kernel)
set_option maxRecDepth 20000 in
theorem gX14_pass_X12_pass : GoodIn wsX14_pass (wsV RX14 362 RX12 yX12_pass wsX12_pass) := goodIn_app (goodIn_of _ (by decide +kernel)) ggX14_pass_X12_pass
set_option maxRecDepth 20000 in
theorem ggX14_foresee_X14_isIn : GoodIn wsX14_foresee wsX14_isIn := goodIn_r _ [7] (by decide +kernel) (by decide +kernel)
set_option maxRecDepth 20000 in
theorem gX14_foresee_X14_isIn : GoodIn wsX14_foresee (va_wsS RX14 63 yX14_isIn wsX14_isIn) := goodIn_app (goodIn_of _ (by decide +kernel)) ggX14_foresee_X14_isIn
set_option maxRecDepth 20000 in
theorem ggX14_foresee_X14_no : GoodIn wsX14_foresee wsX14_no := goodIn_r _ [11, 1, 111, 112, 113, 114, 115, 116, 117, 118, 119, 120, 121, 122, 123, 124, 125] (by decide +kernel) (by decide +kernel)
set_option maxRecDepth 20000 in
theorem gX14_foresee_X14_no : GoodIn wsX14_foresee (wsV RX14 276 RX14 yX14_no wsX14_no) := goodIn_app (goodIn_of _ (by decide +kernel)) ggX14_foresee_X14_no
set_option maxRecDepth 20000 in
theorem ggX14_foresee_X12_become : GoodIn wsX14_foresee wsX12_become := goodIn_r _ [16, 17, 18, 19, 20, 21, 22, 23, 24, 25, 26, 27, 28, 29, 30, 31, 32, 33, 15, 34, 35, 36, 37, 38, 126, 127, 128, 129, 130, 131, 132, 133, 134, 135, 136, 137, 138, 139, 140, 141, 142, 143, 144] (by decide +kernel) (by decide +kernel)
set_option maxRecDepth 20000 in
theorem gX14_foresee_X12_become : GoodIn wsX14_foresee (wsV RX14 365 RX12 yX12_become wsX12_become) := goodIn_app (goodIn_of _ (by decide +kernel)) ggX14_foresee_X12_become
set_option maxRecDepth 20000 in
theorem ggX14_foresee_X12_pass : GoodIn wsX14_foresee wsX12_pass := goodIn_r _ [42, 20, 43, 44, 23, 24, 17, 45, 46, 47, 15, 48, 49, 18, 50, 35, 36, 37, 38, 51, 52, 53, 54, 25, 55, 56, 57, 58, 27, 59, 60, 61, 62, 63, 64, 6, 65, 4, 5, 7, 66, 67, 68, 69, 22, 70, 71, 72, 73, 19, 74, 75, 76, 77, 78, 79, 80, 81, 82, 83, 84, 85, 86, 87, 88, 89, 90, 91, 92, 26, 21, 93, 94, 95, 96, 28, 29, 30, 97, 98, 99, 100, 126, 127, 128, 129, 130, 131, 132, 133, 134, 135, 136, 137, 138, 139, 140, 141, 142, 143, 144, 111, 112, 113, 114, 115, 116, 117, 118, 119, 120, 121, 122, 123, 124, 125, 145, 146, 147, 148, 149, 150, 151, 152, 153, 154, 155, 156, 157, 158, 159, 160, 161, 162, 163, 164, 165, 166, 167, 168, 169] (by decide +kernel) (by decide +kernel)
set_option maxRecDepth 20000 in
theorem gX14_foresee_X12_pass : GoodIn wsX14_foresee (wsV RX14 362 RX12 yX12_pass wsX12_pass) := goodIn_app (goodIn_of _ (by decide +kernel)) ggX14_foresee_X12_pass
set_option maxRecDepth 20000 in
theorem ggX14_foresee_X12_sum : GoodIn wsX14_foresee wsX12_sum := goodIn_r _ [104] (by decide +kernel) (by decide +kernel)
set_option maxRecDepth 20000 in
theorem gX14_foresee_X12_sum : GoodIn wsX14_foresee (wsV RX14 287 RX12 yX12_sum wsX12_sum) := goodIn_app (goodIn_of _ (by decide +kernel)) ggX14_foresee_X12_sum
set_option maxRecDepth 20000 in
theorem ggX14_foresee_X12_gap : GoodIn wsX14_foresee wsX12_gap := goodIn_r _ [108, 109, 43, 23, 92, 77, 78, 79, 110, 81, 82, 126, 127, 128, 129, 130, 131, 132, 133, 134, 135, 136, 137, 138, 139, 140, 141, 142, 143, 144, 111, 112, 113, 114, 115, 116, 117, 118, 119, 120, 121, 122, 123, 124, 125, 145, 146, 147, 148, 149, 150, 151, 152, 153, 154, 155, 156, 157, 158, 159, 160, 161, 162, 163, 164, 165, 166, 167, 168, 169] (by decide +kernel) (by decide +kernel)
set_option maxRecDepth 20000 in
theorem gX14_foresee_X12_gap : GoodIn wsX14_foresee (wsV RX14 359 RX12 yX12_gap wsX12_gap) := goodIn_app (goodIn_of _ (by decide +kernel)) ggX14_foresee_X12_gap
set_option maxRecDepth 20000 in
theorem ggX14_storeAs_X12_become : GoodIn wsX14_storeAs wsX12_become := goodIn_r _ [7, 8, 9, 10, 11, 12, 13, 14, 15, 16, 17, 18, 19, 20, 21, 22, 23, 24, 6, 25, 26, 27, 28, 29, 111, 112, 113, 114, 115, 116, 117, 118, 119, 120, 121, 122, 123, 124, 125, 126, 127, 128, 129] (by decide +kernel) (by decide +kernel)
set_option maxRecDepth 20000 in
theorem gX14_storeAs_X12_become : GoodIn wsX14_storeAs (wsV RX14 365 RX12 yX12_become wsX12_become) := goodIn_app (goodIn_of _ (by decide +kernel)) ggX14_storeAs_X12_become
set_option maxRecDepth 20000 in
theorem ggX14_storeAs_X12_pass : GoodIn wsX14_storeAs wsX12_pass := goodIn_r _ [33, 11, 34, 35, 14, 15, 8, 36, 37, 38, 6, 39, 40, 9, 41, 26, 27, 28, 29, 42, 43, 44, 45, 16, 46, 47, 48, 49, 18, 50, 51, 52, 53, 54, 55, 56, 57, 58, 59, 60, 61, 62, 63, 64, 13, 65, 66, 67, 68, 10, 69, 70, 71, 72, 73, 74, 75, 76, 77, 78, 79, 80, 81, 82, 83, 84, 85, 86, 87, 17, 12, 88, 89, 90, 91, 19, 20, 21, 92, 93, 94, 95, 111, 112, 113, 114, 115, 116, 117, 118, 119, 120, 121, 122, 123, 124, 125, 126, 127, 128, 129, 96, 97, 98, 99, 100, 101, 102, 103, 104, 105, 106, 107, 108, 109, 110, 130, 131, 132, 133, 134, 135, 136, 137, 138, 139, 140, 141, 142, 143, 144, 145, 146, 147, 148, 149, 150, 151, 152, 153, 154] (by decide +kernel) (by decide +kernel)
set_option maxRecDepth 20000 in
theorem gX14_storeAs_X12_pass : GoodIn wsX14_storeAs (wsV RX14 362 RX12 yX12_pass wsX12_pass) := goodIn_app (goodIn_of _ (by decide +kernel)) ggX14_storeAs_X12_pass
set_option maxRecDepth 20000 in
theorem ggX14_pays_X14_isFisher : GoodIn wsX14_pays wsX14_isFisher := goodIn_r _ [7, 8, 9, 10, 6, 11, 110, 111, 112, 113, 114, 115, 116, 117, 118, 119, 120, 121, 122, 123, 124, 144, 145, 146, 147, 148, 149, 150, 151, 152, 153, 154, 155, 156, 157, 158, 159, 160, 161, 162, 163, 164, 165, 166, 167, 168] (by decide +kernel) (by decide +kernel)
set_option maxRecDepth 20000 in
theorem gX14_pays_X14_isFisher : GoodIn wsX14_pays (wsV RX14 329 RX14 yX14_isFisher wsX14_isFisher) := goodIn_app (goodIn_of _ (by decide +kernel)) ggX14_pays_X14_isFisher
set_option maxRecDepth 20000 in
theorem ggX14_pays_X14_no : GoodIn wsX14_pays wsX14_no := goodIn_r _ [15, 1, 110, 111, 112, 113, 114, 115, 116, 117, 118, 119, 120, 121, 122, 123, 124] (by decide +kernel) (by decide +kernel)
set_option maxRecDepth 20000 in
theorem gX14_pays_X14_no : GoodIn wsX14_pays (wsV RX14 276 RX14 yX14_no wsX14_no) := goodIn_app (goodIn_of _ (by decide +kernel)) ggX14_pays_X14_no
set_option maxRecDepth 20000 in
theorem ggX14_pays_X14_isIn : GoodIn wsX14_pays wsX14_isIn := goodIn_r _ [11] (by decide +kernel) (by decide +kernel)
set_option maxRecDepth 20000 in
theorem gX14_pays_X14_isIn : GoodIn wsX14_pays (va_wsS RX14 63 yX14_isIn wsX14_isIn) := goodIn_app (goodIn_of _ (by decide +kernel)) ggX14_pays_X14_isIn
set_option maxRecDepth 20000 in
theorem ggX14_pays_X14_storeAs : GoodIn wsX14_pays wsX14_storeAs := goodIn_r _ [19, 20, 2, 21, 22, 23, 24, 25, 26, 27, 28, 29, 30, 31, 32, 33, 34, 35, 36, 37, 38, 39, 40, 41, 42, 43, 44, 45, 46, 47, 48, 49, 50, 51, 52, 53, 54, 55, 56, 57, 58, 59, 60, 61, 62, 63, 64, 65, 66, 67, 68, 69, 70, 71, 72, 73, 6, 74, 9, 10, 11, 75, 76, 77, 78, 79, 80, 81, 82, 83, 84, 85, 86, 87, 88, 89, 90, 91, 92, 93, 94, 95, 96, 97, 98, 99, 100, 101, 102, 103, 104, 105, 106, 107, 108, 109, 110, 111, 112, 113, 114, 115, 116, 117, 118, 119, 120, 121, 122, 123, 124, 125, 126, 127, 128, 129, 130, 131, 132, 133, 134, 135, 136, 137, 138, 139, 140, 141, 142, 143, 144, 145, 146, 147, 148, 149, 150, 151, 152, 153, 154, 155, 156, 157, 158, 159, 160, 161, 162, 163, 164, 165, 166, 167, 168] (by decide +kernel) (by decide +kernel)
set_option maxRecDepth 20000 in
theorem gX14_pays_X14_storeAs : GoodIn wsX14_pays (wsV RX14 369 RX14 yX14_storeAs wsX14_storeAs) := goodIn_app (goodIn_of _ (by decide +kernel)) ggX14_pays_X14_storeAs
set_option maxRecDepth 20000 in
theorem ggX14_empty_X14_isGround : GoodIn wsX14_empty wsX14_isGround := goodIn_r _ [8, 9, 10, 11, 7, 12, 107, 108, 109, 110, 111, 112, 113, 114, 115, 116, 117, 118, 119, 120, 121, 122, 123, 124, 125, 126, 127, 128, 129, 130, 131, 132, 133, 134, 135, 136, 137, 138, 139, 140, 141, 142, 143, 144, 145, 146] (by decide +kernel) (by decide +kernel)
set_option maxRecDepth 20000 in
theorem gX14_empty_X14_isGround : GoodIn wsX14_empty (wsV RX14 311 RX14 yX14_isGround wsX14_isGround) := goodIn_app (goodIn_of _ (by decide +kernel)) ggX14_empty_X14_isGround
set_option maxRecDepth 20000 in
theorem ggX14_empty_X14_no : GoodIn wsX14_empty wsX14_no := goodIn_r _ [16, 1, 107, 108, 109, 110, 111, 112, 113, 114, 115, 116, 117, 118, 119, 120, 121] (by decide +kernel) (by decide +kernel)
set_option maxRecDepth 20000 in
theorem gX14_empty_X14_no : GoodIn wsX14_empty (wsV RX14 276 RX14 yX14_no wsX14_no) := goodIn_app (goodIn_of _ (by decide +kernel)) ggX14_empty_X14_no
set_option maxRecDepth 20000 in
theorem ggX14_empty_X12_become : GoodIn wsX14_empty wsX12_become := goodIn_r _ [21, 22, 23, 24, 25, 26, 27, 28, 29, 30, 31, 32, 33, 34, 35, 36, 37, 38, 20, 39, 40, 41, 42, 43, 147, 148, 149, 150, 151, 152, 153, 154, 155, 156, 157, 158, 159, 160, 161, 162, 163, 164, 165] (by decide +kernel) (by decide +kernel)
set_option maxRecDepth 20000 in
theorem gX14_empty_X12_become : GoodIn wsX14_empty (wsV RX14 365 RX12 yX12_become wsX12_become) := goodIn_app (goodIn_of _ (by decide +kernel)) ggX14_empty_X12_become
set_option maxRecDepth 20000 in
theorem ggX14_empty_X12_fishAt : GoodIn wsX14_empty wsX12_fishAt := goodIn_r _ [47, 24, 147, 148, 149, 150, 151, 152, 153, 154, 155, 156, 157, 158, 159, 160, 161, 162, 163, 164, 165] (by decide +kernel) (by decide +kernel)
set_option maxRecDepth 20000 in
theorem gX14_empty_X12_fishAt : GoodIn wsX14_empty (wsV RX14 302 RX12 yX12_fishAt wsX12_fishAt) := goodIn_app (goodIn_of _ (by decide +kernel)) ggX14_empty_X12_fishAt
set_option maxRecDepth 20000 in
theorem ggX14_empty_X12_pass : GoodIn wsX14_empty wsX12_pass := goodIn_r _ [51, 25, 52, 53, 28, 29, 22, 54, 55, 56, 20, 57, 58, 23, 59, 40, 41, 42, 43, 60, 61, 62, 63, 30, 64, 65, 66, 67, 32, 68, 69, 70, 71, 72, 73, 7, 74, 10, 11, 12, 75, 76, 77, 78, 27, 79, 45, 46, 47, 24, 80, 81, 82, 83, 84, 85, 86, 87, 88, 89, 90, 91, 92, 93, 94, 95, 96, 97, 98, 31, 26, 99, 100, 101, 102, 33, 34, 35, 103, 104, 105, 106, 147, 148, 149, 150, 151, 152, 153, 154, 155, 156, 157, 158, 159, 160, 161, 162, 163, 164, 165, 107, 108, 109, 110, 111, 112, 113, 114, 115, 116, 117, 118, 119, 120, 121, 122, 123, 124, 125, 126, 127, 128, 129, 130, 131, 132, 133, 134, 135, 136, 137, 138, 139, 140, 141, 142, 143, 144, 145, 146] (by decide +kernel) (by decide +kernel)
set_option maxRecDepth 20000 in
theorem gX14_empty_X12_pass : GoodIn wsX14_empty (wsV RX14 362 RX12 yX12_pass wsX12_pass) := goodIn_app (goodIn_of _ (by decide +kernel)) ggX14_empty_X12_pass
set_option maxRecDepth 20000 in
theorem ggX14_advise_X14_isFisher : GoodIn wsX14_advise wsX14_isFisher := goodIn_r _ [7, 8, 9, 10, 6, 11, 110, 111, 112, 113, 114, 115, 116, 117, 118, 119, 120, 121, 122, 123, 124, 144, 145, 146, 147, 148, 149, 150, 151, 152, 153, 154, 155, 156, 157, 158, 159, 160, 161, 162, 163, 164, 165, 166, 167, 168] (by decide +kernel) (by decide +kernel)
set_option maxRecDepth 20000 in
theorem gX14_advise_X14_isFisher : GoodIn wsX14_advise (wsV RX14 329 RX14 yX14_isFisher wsX14_isFisher) := goodIn_app (goodIn_of _ (by decide +kernel)) ggX14_advise_X14_isFisher
set_option maxRecDepth 20000 in
theorem ggX14_advise_X14_no : GoodIn wsX14_advise wsX14_no := goodIn_r _ [15, 1, 110, 111, 112, 113, 114, 115, 116, 117, 118, 119, 120, 121, 122, 123, 124] (by decide +kernel) (by decide +kernel)
set_option maxRecDepth 20000 in
theorem gX14_advise_X14_no : GoodIn wsX14_advise (wsV RX14 276 RX14 yX14_no wsX14_no) := goodIn_app (goodIn_of _ (by decide +kernel)) ggX14_advise_X14_no
set_option maxRecDepth 20000 in
theorem ggX14_advise_X14_isIn : GoodIn wsX14_advise wsX14_isIn := goodIn_r _ [11] (by decide +kernel) (by decide +kernel)
set_option maxRecDepth 20000 in
theorem gX14_advise_X14_isIn : GoodIn wsX14_advise (va_wsS RX14 63 yX14_isIn wsX14_isIn) := goodIn_app (goodIn_of _ (by decide +kernel)) ggX14_advise_X14_isIn
set_option maxRecDepth 20000 in
theorem ggX14_advise_X14_storeAs : GoodIn wsX14_advise wsX14_storeAs := goodIn_r _ [19, 20, 2, 21, 22, 23, 24, 25, 26, 27, 28, 29, 30, 31, 32, 33, 34, 35, 36, 37, 38, 39, 40, 41, 42, 43, 44, 45, 46, 47, 48, 49, 50, 51, 52, 53, 54, 55, 56, 57, 58, 59, 60, 61, 62, 63, 64, 65, 66, 67, 68, 69, 70, 71, 72, 73, 6, 74, 9, 10, 11, 75, 76, 77, 78, 79, 80, 81, 82, 83, 84, 85, 86, 87, 88, 89, 90, 91, 92, 93, 94, 95, 96, 97, 98, 99, 100, 101, 102, 103, 104, 105, 106, 107, 108, 109, 110, 111, 112, 113, 114, 115, 116, 117, 118, 119, 120, 121, 122, 123, 124, 125, 126, 127, 128, 129, 130, 131, 132, 133, 134, 135, 136, 137, 138, 139, 140, 141, 142, 143, 144, 145, 146, 147, 148, 149, 150, 151, 152, 153, 154, 155, 156, 157, 158, 159, 160, 161, 162, 163, 164, 165, 166, 167, 168] (by decide +kernel) (by decide +kernel)
set_option maxRecDepth 20000 in
theorem gX14_advise_X14_storeAs : GoodIn wsX14_advise (wsV RX14 369 RX14 yX14_storeAs wsX14_storeAs) := goodIn_app (goodIn_of _ (by decide +kernel)) ggX14_advise_X14_storeAs
set_option maxRecDepth 20000 in
theorem ggX14_mean_X12_sum : GoodIn wsX14_mean wsX12_sum := goodIn_r _ [8] (by decide +kernel) (by decide +kernel)
set_option maxRecDepth 20000 in
theorem gX14_mean_X12_sum : GoodIn wsX14_mean (wsV RX14 287 RX12 yX12_sum wsX12_sum) := goodIn_app (goodIn_of _ (by decide +kernel)) ggX14_mean_X12_sum
set_option maxRecDepth 20000 in
theorem ggX14_digest_X14_counted : GoodIn wsX14_digest wsX14_counted := goodIn_r _ [10, 4, 5, 11, 12, 13, 14, 15, 16, 17, 61, 62, 63, 64, 65, 66, 67, 68, 69, 70, 71, 72, 73, 74, 75, 76, 77, 78, 79, 80, 81, 82, 83, 84, 85, 86, 87, 88, 89, 90, 91, 92, 93, 94, 95, 96, 97, 98, 99, 100, 101, 102, 103, 104, 105, 106, 107, 108, 109, 110, 111, 112, 113, 114, 115, 116, 117, 118, 119] (by decide +kernel) (by decide +kernel)
set_option maxRecDepth 20000 in
theorem gX14_digest_X14_counted : GoodIn wsX14_digest (wsV RX14 296 RX14 yX14_counted wsX14_counted) := goodIn_app (goodIn_of _ (by decide +kernel)) ggX14_digest_X14_counted
set_option maxRecDepth 20000 in
theorem ggX14_digest_X14_groundTold : GoodIn wsX14_digest wsX14_groundTold := goodIn_r _ [21, 5, 4, 22, 23, 24, 16, 25, 26, 27, 28, 29, 9, 30, 61, 62, 63, 64, 65, 66, 67, 68, 69, 70, 71, 72, 73, 74, 75, 101, 102, 103, 104, 105, 106, 107, 108, 109, 110, 111, 112, 113, 114, 115, 116, 117, 118, 119, 76, 77, 78, 79, 80, 81, 82, 83, 84, 85, 86, 87, 88, 89, 90, 91, 92, 93, 94, 95, 96, 97, 98, 99, 100] (by decide +kernel) (by decide +kernel)
set_option maxRecDepth 20000 in
theorem gX14_digest_X14_groundTold : GoodIn wsX14_digest (wsV RX14 314 RX14 yX14_groundTold wsX14_groundTold) := goodIn_app (goodIn_of _ (by decide +kernel)) ggX14_digest_X14_groundTold
set_option maxRecDepth 20000 in
theorem ggX14_digest_X14_fisherTold : GoodIn wsX14_digest wsX14_fisherTold := goodIn_r _ [34, 11, 5, 4, 35, 36, 37, 9, 38, 61, 62, 63, 64, 65, 66, 67, 68, 69, 70, 71, 72, 73, 74, 75, 101, 102, 103, 104, 105, 106, 107, 108, 109, 110, 111, 112, 113, 114, 115, 116, 117, 118, 119, 76, 77, 78, 79, 80, 81, 82, 83, 84, 85, 86, 87, 88, 89, 90, 91, 92, 93, 94, 95, 96, 97, 98, 99, 100] (by decide +kernel) (by decide +kernel)
set_option maxRecDepth 20000 in
theorem gX14_digest_X14_fisherTold : GoodIn wsX14_digest (wsV RX14 332 RX14 yX14_fisherTold wsX14_fisherTold) := goodIn_app (goodIn_of _ (by decide +kernel)) ggX14_digest_X14_fisherTold
set_option maxRecDepth 20000 in
theorem ggX14_digest_X14_pactTold : GoodIn wsX14_digest wsX14_pactTold := goodIn_r _ [42, 11, 4, 5, 61, 62, 63, 64, 65, 66, 67, 68, 69, 70, 71, 72, 73, 74, 75, 76, 77, 78, 79, 80, 81, 82, 83, 84, 85, 86, 87, 88, 89, 90, 91, 92, 93, 94, 95, 96, 97, 98, 99, 100, 101, 102, 103, 104, 105, 106, 107, 108, 109, 110, 111, 112, 113, 114, 115, 116, 117, 118, 119] (by decide +kernel) (by decide +kernel)
set_option maxRecDepth 20000 in
theorem gX14_digest_X14_pactTold : GoodIn wsX14_digest (wsV RX14 344 RX14 yX14_pactTold wsX14_pactTold) := goodIn_app (goodIn_of _ (by decide +kernel)) ggX14_digest_X14_pactTold
set_option maxRecDepth 20000 in
theorem ggX14_digest_X14_lotOf : GoodIn wsX14_digest wsX14_lotOf := goodIn_r _ [46, 47, 5, 48, 49, 50, 16, 51, 52, 53, 54, 55, 56, 57, 58, 59, 60, 61, 62, 63, 64, 65, 66, 67, 68, 69, 70, 71, 72, 73, 74, 75, 101, 102, 103, 104, 105, 106, 107, 108, 109, 110, 111, 112, 113, 114, 115, 116, 117, 118, 119, 76, 77, 78, 79, 80, 81, 82, 83, 84, 85, 86, 87, 88, 89, 90, 91, 92, 93, 94, 95, 96, 97, 98, 99, 100] (by decide +kernel) (by decide +kernel)
set_option maxRecDepth 20000 in
theorem gX14_digest_X14_lotOf : GoodIn wsX14_digest (wsV RX14 356 RX14 yX14_lotOf wsX14_lotOf) := goodIn_app (goodIn_of _ (by decide +kernel)) ggX14_digest_X14_lotOf
set_option maxRecDepth 20000 in
theorem ggJ0_length_8abf5_J0_coder_7d493 : GoodIn wsJ0_length_8abf5 wsJ0_coder_7d493 := goodIn_r _ [6, 7, 8] (by decide +kernel) (by decide +kernel)
set_option maxRecDepth 20000 in
theorem gJ0_length_8abf5_J0_coder_7d493 : GoodIn wsJ0_length_8abf5 (wsV RJ0 335 RJ0 yJ0_coder_7d493 wsJ0_coder_7d493) := goodIn_app (goodIn_of _ (by decide +kernel)) ggJ0_length_8abf5_J0_coder_7d493
set_option maxRecDepth 20000 in
theorem ggJ0_charAt_5068e_J0_isLatin1_aae02 : GoodIn wsJ0_charAt_5068e wsJ0_isLatin1_aae02 := goodIn_r _ [6, 7, 8] (by decide +kernel) (by decide +kernel)
set_option maxRecDepth 20000 in
theorem gJ0_charAt_5068e_J0_isLatin1_aae02 : GoodIn wsJ0_charAt_5068e (wsV RJ0 492 RJ0 yJ0_isLatin1_aae02 wsJ0_isLatin1_aae02) := goodIn_app (goodIn_of _ (by decide +kernel)) ggJ0_charAt_5068e_J0_isLatin1_aae02
set_option maxRecDepth 20000 in
theorem ggJ0_charAt_5068e_J1_charAt_3b067 : GoodIn wsJ0_charAt_5068e wsJ1_charAt_3b067 := goodIn_r _ [12, 13, 14, 5, 15, 16, 17, 18, 19, 20] (by decide +kernel) (by decide +kernel)
set_option maxRecDepth 20000 in
theorem gJ0_charAt_5068e_J1_charAt_3b067 : GoodIn wsJ0_charAt_5068e (va_wsS RJ0 495 yJ1_charAt_3b067 wsJ1_charAt_3b067) := goodIn_app (goodIn_of _ (by decide +kernel)) ggJ0_charAt_5068e_J1_charAt_3b067
set_option maxRecDepth 20000 in
theorem ggJ0_charAt_5068e_J2_charAt_3b067 : GoodIn wsJ0_charAt_5068e wsJ2_charAt_3b067 := goodIn_r _ [24, 25, 26, 23, 27, 28, 29, 30, 31, 14, 5, 15, 16, 17, 18, 19, 20, 32, 33, 34, 35, 36, 37] (by decide +kernel) (by decide +kernel)
set_option maxRecDepth 20000 in
theorem gJ0_charAt_5068e_J2_charAt_3b067 : GoodIn wsJ0_charAt_5068e (va_wsS RJ0 498 yJ2_charAt_3b067 wsJ2_charAt_3b067) := goodIn_app (goodIn_of _ (by decide +kernel)) ggJ0_charAt_5068e_J2_charAt_3b067
set_option maxRecDepth 20000 in
theorem ggJ0_indexOf_0f7a4_J0_indexOf_7cf53 : GoodIn wsJ0_indexOf_0f7a4 wsJ0_indexOf_7cf53 := goodIn_r _ [5, 6, 7, 8, 9, 4, 10, 11, 12, 13, 14, 15, 16, 17, 18, 19, 20, 21, 22, 23, 24, 25, 26, 27, 28, 29, 30, 31, 32, 33, 34, 35, 36, 37, 38, 39, 40, 41, 42, 43, 44, 45, 46, 47, 48, 49, 50, 51, 52, 53, 54, 55, 56, 57, 58, 59, 60, 61, 62, 63, 64, 65, 66, 67, 68, 69, 70, 71, 72, 73, 74, 75, 76, 77, 78, 79, 80, 81, 82, 83, 84, 85] (by decide +kernel) (by decide +kernel)
set_option maxRecDepth 20000 in
theorem gJ0_indexOf_0f7a4_J0_indexOf_7cf53 : GoodIn wsJ0_indexOf_0f7a4 (wsV RJ0 633 RJ0 yJ0_indexOf_7cf53 wsJ0_indexOf_7cf53) := goodIn_app (goodIn_of _ (by decide +kernel)) ggJ0_indexOf_0f7a4_J0_indexOf_7cf53
set_option maxRecDepth 20000 in
theorem ggJ0_indexOf_7cf53_J0_isLatin1_aae02 : GoodIn wsJ0_indexOf_7cf53 wsJ0_isLatin1_aae02 := goodIn_r _ [6, 7, 8] (by decide +kernel) (by decide +kernel)
set_option maxRecDepth 20000 in
theorem gJ0_indexOf_7cf53_J0_isLatin1_aae02 : GoodIn wsJ0_indexOf_7cf53 (wsV RJ0 492 RJ0 yJ0_isLatin1_aae02 wsJ0_isLatin1_aae02) := goodIn_app (goodIn_of _ (by decide +kernel)) ggJ0_indexOf_7cf53_J0_isLatin1_aae02
set_option maxRecDepth 20000 in
theorem ggJ0_indexOf_7cf53_J0_length_8abf5 : GoodIn wsJ0_indexOf_7cf53 wsJ0_length_8abf5 := goodIn_r _ [12, 1, 13, 14, 15, 5, 16, 7, 8] (by decide +kernel) (by decide +kernel)
set_option maxRecDepth 20000 in
theorem gJ0_indexOf_7cf53_J0_length_8abf5 : GoodIn wsJ0_indexOf_7cf53 (wsV RJ0 505 RJ0 yJ0_length_8abf5 wsJ0_length_8abf5) := goodIn_app (goodIn_of _ (by decide +kernel)) ggJ0_indexOf_7cf53_J0_length_8abf5
set_option maxRecDepth 20000 in
theorem ggJ0_indexOf_7cf53_J1_indexOf_4cfef : GoodIn wsJ0_indexOf_7cf53 wsJ1_indexOf_4cfef := goodIn_r _ [20, 21, 22, 23, 24, 25, 26, 27, 28, 29, 19, 30, 31, 32, 33] (by decide +kernel) (by decide +kernel)
set_option maxRecDepth 20000 in
theorem gJ0_indexOf_7cf53_J1_indexOf_4cfef : GoodIn wsJ0_indexOf_7cf53 (va_wsS RJ0 637 yJ1_indexOf_4cfef wsJ1_indexOf_4cfef) := goodIn_app (goodIn_of _ (by decide +kernel)) ggJ0_indexOf_7cf53_J1_indexOf_4cfef
set_option maxRecDepth 20000 in
theorem ggJ0_indexOf_7cf53_J2_indexOf_4cfef : GoodIn wsJ0_indexOf_7cf53 wsJ2_indexOf_4cfef := goodIn_r _ [37, 38, 22, 23, 24, 39, 26, 27, 40, 41, 42, 36, 43, 44, 45, 46, 47, 48, 49, 50, 51, 5, 52, 53, 54, 55, 56, 57, 58, 59, 60, 61, 62, 63, 64, 65, 66, 67, 68, 69, 70, 71, 72, 73, 74, 75, 76, 77, 78, 79, 80, 81] (by decide +kernel) (by decide +kernel)
set_option maxRecDepth 20000 in
theorem gJ0_indexOf_7cf53_J2_indexOf_4cfef : GoodIn wsJ0_indexOf_7cf53 (va_wsS RJ0 640 yJ2_indexOf_4cfef wsJ2_indexOf_4cfef) := goodIn_app (goodIn_of _ (by decide +kernel)) ggJ0_indexOf_7cf53_J2_indexOf_4cfef
set_option maxRecDepth 20000 in
theorem ggJ0_checkIndex_df160_J3_checkIndex_8e157 : GoodIn wsJ0_checkIndex_df160 wsJ3_checkIndex_8e157 := goodIn_r _ [5] (by decide +kernel) (by decide +kernel)
set_option maxRecDepth 20000 in
theorem gJ0_checkIndex_df160_J3_checkIndex_8e157 : GoodIn wsJ0_checkIndex_df160 (va_wsS RJ0 1059 yJ3_checkIndex_8e157 wsJ3_checkIndex_8e157) := goodIn_app (goodIn_of _ (by decide +kernel)) ggJ0_checkIndex_df160_J3_checkIndex_8e157
set_option maxRecDepth 20000 in
theorem ggJ0_checkBoundsBeginEnd_23922_J3_checkFromToIndex_8c36e : GoodIn wsJ0_checkBoundsBeginEnd_23922 wsJ3_checkFromToIndex_8c36e := goodIn_r _ [5] (by decide +kernel) (by decide +kernel)
set_option maxRecDepth 20000 in
theorem gJ0_checkBoundsBeginEnd_23922_J3_checkFromToIndex_8c36e : GoodIn wsJ0_checkBoundsBeginEnd_23922 (va_wsS RJ0 1062 yJ3_checkFromToIndex_8c36e wsJ3_checkFromToIndex_8c36e) := goodIn_app (goodIn_of _ (by decide +kernel)) ggJ0_checkBoundsBeginEnd_23922_J3_checkFromToIndex_8c36e
set_option maxRecDepth 20000 in
theorem ggJ1_charAt_3b067_J0_checkIndex_df160 : GoodIn wsJ1_charAt_3b067 wsJ0_checkIndex_df160 := goodIn_r _ [4, 5, 6, 7, 8, 9] (by decide +kernel) (by decide +kernel)
set_option maxRecDepth 20000 in
theorem gJ1_charAt_3b067_J0_checkIndex_df160 : GoodIn wsJ1_charAt_3b067 (va_wsS RJ1 9 yJ0_checkIndex_df160 wsJ0_checkIndex_df160) := goodIn_app (goodIn_of _ (by decide +kernel)) ggJ1_charAt_3b067_J0_checkIndex_df160
set_option maxRecDepth 20000 in
theorem ggJ1_indexOf_4cfef_J1_canEncode_9a6ad : GoodIn wsJ1_indexOf_4cfef wsJ1_canEncode_9a6ad := goodIn_r _ [11] (by decide +kernel) (by decide +kernel)
set_option maxRecDepth 20000 in
theorem gJ1_indexOf_4cfef_J1_canEncode_9a6ad : GoodIn wsJ1_indexOf_4cfef (va_wsS RJ1 88 yJ1_canEncode_9a6ad wsJ1_canEncode_9a6ad) := goodIn_app (goodIn_of _ (by decide +kernel)) ggJ1_indexOf_4cfef_J1_canEncode_9a6ad
set_option maxRecDepth 20000 in
theorem ggJ1_indexOf_4cfef_J1_indexOfChar_4cfef : GoodIn wsJ1_indexOf_4cfef wsJ1_indexOfChar_4cfef := goodIn_r _ [14] (by decide +kernel) (by decide +kernel)
set_option maxRecDepth 20000 in
theorem gJ1_indexOf_4cfef_J1_indexOfChar_4cfef : GoodIn wsJ1_indexOf_4cfef (va_wsS RJ1 95 yJ1_indexOfChar_4cfef wsJ1_indexOfChar_4cfef) := goodIn_app (goodIn_of _ (by decide +kernel)) ggJ1_indexOf_4cfef_J1_indexOfChar_4cfef
set_option maxRecDepth 20000 in
theorem ggJ2_getChar_3b067_J2_length_9d52b : GoodIn wsJ2_getChar_3b067 wsJ2_length_9d52b := goodIn_r _ [7] (by decide +kernel) (by decide +kernel)
set_option maxRecDepth 20000 in
theorem gJ2_getChar_3b067_J2_length_9d52b : GoodIn wsJ2_getChar_3b067 (va_wsS RJ2 48 yJ2_length_9d52b wsJ2_length_9d52b) := goodIn_app (goodIn_of _ (by decide +kernel)) ggJ2_getChar_3b067_J2_length_9d52b
set_option maxRecDepth 20000 in
theorem ggJ2_indexOf_4cfef_J2_indexOfChar_4cfef : GoodIn wsJ2_indexOf_4cfef wsJ2_indexOfChar_4cfef := goodIn_r _ [12, 13, 14, 11, 15, 16, 17, 18, 19, 20, 21, 22, 23, 24, 25, 26, 27, 28, 29, 30, 31, 32, 33, 34, 35, 36] (by decide +kernel) (by decide +kernel)
set_option maxRecDepth 20000 in
theorem gJ2_indexOf_4cfef_J2_indexOfChar_4cfef : GoodIn wsJ2_indexOf_4cfef (va_wsS RJ2 228 yJ2_indexOfChar_4cfef wsJ2_indexOfChar_4cfef) := goodIn_app (goodIn_of _ (by decide +kernel)) ggJ2_indexOf_4cfef_J2_indexOfChar_4cfef
set_option maxRecDepth 20000 in
theorem ggJ2_indexOf_4cfef_J2_indexOfSupplementary_4cfef : GoodIn wsJ2_indexOf_4cfef wsJ2_indexOfSupplementary_4cfef := goodIn_r _ [39, 40, 41, 42, 43, 44, 45, 46, 47, 48, 49, 50, 51, 13, 14, 11, 15, 16, 17, 18, 19, 20, 21, 22, 23, 24, 25, 26, 27, 31, 32, 33, 34, 35, 36] (by decide +kernel) (by decide +kernel)
set_option maxRecDepth 20000 in
theorem gJ2_indexOf_4cfef_J2_indexOfSupplementary_4cfef : GoodIn wsJ2_indexOf_4cfef (va_wsS RJ2 232 yJ2_indexOfSupplementary_4cfef wsJ2_indexOfSupplementary_4cfef) := goodIn_app (goodIn_of _ (by decide +kernel)) ggJ2_indexOf_4cfef_J2_indexOfSupplementary_4cfef
set_option maxRecDepth 20000 in
theorem ggJ2_indexOfChar_4cfef_J2_checkBoundsBeginEnd_d044e : GoodIn wsJ2_indexOfChar_4cfef wsJ2_checkBoundsBeginEnd_d044e := goodIn_r _ [4, 5, 6, 3, 7, 8, 9, 10, 11, 12, 13, 14, 15, 16] (by decide +kernel) (by decide +kernel)
set_option maxRecDepth 20000 in
theorem gJ2_indexOfChar_4cfef_J2_checkBoundsBeginEnd_d044e : GoodIn wsJ2_indexOfChar_4cfef (va_wsS RJ2 96 yJ2_checkBoundsBeginEnd_d044e wsJ2_checkBoundsBeginEnd_d044e) := goodIn_app (goodIn_of _ (by decide +kernel)) ggJ2_indexOfChar_4cfef_J2_checkBoundsBeginEnd_d044e
set_option maxRecDepth 20000 in
theorem ggJ2_indexOfChar_4cfef_J2_indexOfCharUnsafe_4cfef : GoodIn wsJ2_indexOfChar_4cfef wsJ2_indexOfCharUnsafe_4cfef := goodIn_r _ [19, 20, 21, 3, 22, 23, 24, 25, 5, 6, 7] (by decide +kernel) (by decide +kernel)
set_option maxRecDepth 20000 in
theorem gJ2_indexOfChar_4cfef_J2_indexOfCharUnsafe_4cfef : GoodIn wsJ2_indexOfChar_4cfef (va_wsS RJ2 244 yJ2_indexOfCharUnsafe_4cfef wsJ2_indexOfCharUnsafe_4cfef) := goodIn_app (goodIn_of _ (by decide +kernel)) ggJ2_indexOfChar_4cfef_J2_indexOfCharUnsafe_4cfef
set_option maxRecDepth 20000 in
theorem ggJ2_indexOfCharUnsafe_4cfef_J2_getChar_3b067 : GoodIn wsJ2_indexOfCharUnsafe_4cfef wsJ2_getChar_3b067 := goodIn_r _ [4, 5, 6, 7, 8, 9, 3, 10] (by decide +kernel) (by decide +kernel)
set_option maxRecDepth 20000 in
theorem gJ2_indexOfCharUnsafe_4cfef_J2_getChar_3b067 : GoodIn wsJ2_indexOfCharUnsafe_4cfef (va_wsS RJ2 71 yJ2_getChar_3b067 wsJ2_getChar_3b067) := goodIn_app (goodIn_of _ (by decide +kernel)) ggJ2_indexOfCharUnsafe_4cfef_J2_getChar_3b067
set_option maxRecDepth 20000 in
theorem ggJ2_indexOfSupplementary_4cfef_J11_isValidCodePoint_9a6ad : GoodIn wsJ2_indexOfSupplementary_4cfef wsJ11_isValidCodePoint_9a6ad := goodIn_r _ [4] (by decide +kernel) (by decide +kernel)
set_option maxRecDepth 20000 in
theorem gJ2_indexOfSupplementary_4cfef_J11_isValidCodePoint_9a6ad : GoodIn wsJ2_indexOfSupplementary_4cfef (va_wsS RJ2 164 yJ11_isValidCodePoint_9a6ad wsJ11_isValidCodePoint_9a6ad) := goodIn_app (goodIn_of _ (by decide +kernel)) ggJ2_indexOfSupplementary_4cfef_J11_isValidCodePoint_9a6ad
set_option maxRecDepth 20000 in
theorem ggJ2_indexOfSupplementary_4cfef_J11_highSurrogate_5068e : GoodIn wsJ2_indexOfSupplementary_4cfef wsJ11_highSurrogate_5068e := goodIn_r _ [7, 8] (by decide +kernel) (by decide +kernel)
set_option maxRecDepth 20000 in
theorem gJ2_indexOfSupplementary_4cfef_J11_highSurrogate_5068e : GoodIn wsJ2_indexOfSupplementary_4cfef (va_wsS RJ2 157 yJ11_highSurrogate_5068e wsJ11_highSurrogate_5068e) := goodIn_app (goodIn_of _ (by decide +kernel)) ggJ2_indexOfSupplementary_4cfef_J11_highSurrogate_5068e
set_option maxRecDepth 20000 in
theorem ggJ2_indexOfSupplementary_4cfef_J11_lowSurrogate_5068e : GoodIn wsJ2_indexOfSupplementary_4cfef wsJ11_lowSurrogate_5068e := goodIn_r _ [11, 12] (by decide +kernel) (by decide +kernel)
set_option maxRecDepth 20000 in
theorem gJ2_indexOfSupplementary_4cfef_J11_lowSurrogate_5068e : GoodIn wsJ2_indexOfSupplementary_4cfef (va_wsS RJ2 161 yJ11_lowSurrogate_5068e wsJ11_lowSurrogate_5068e) := goodIn_app (goodIn_of _ (by decide +kernel)) ggJ2_indexOfSupplementary_4cfef_J11_lowSurrogate_5068e
set_option maxRecDepth 20000 in
theorem ggJ2_indexOfSupplementary_4cfef_J2_checkBoundsBeginEnd_d044e : GoodIn wsJ2_indexOfSupplementary_4cfef wsJ2_checkBoundsBeginEnd_d044e := goodIn_r _ [16, 17, 18, 15, 19, 20, 21, 22, 23, 24, 25, 26, 27, 28] (by decide +kernel) (by decide +kernel)
set_option maxRecDepth 20000 in
theorem gJ2_indexOfSupplementary_4cfef_J2_checkBoundsBeginEnd_d044e : GoodIn wsJ2_indexOfSupplementary_4cfef (va_wsS RJ2 96 yJ2_checkBoundsBeginEnd_d044e wsJ2_checkBoundsBeginEnd_d044e) := goodIn_app (goodIn_of _ (by decide +kernel)) ggJ2_indexOfSupplementary_4cfef_J2_checkBoundsBeginEnd_d044e
set_option maxRecDepth 20000 in
theorem ggJ2_indexOfSupplementary_4cfef_J2_getChar_3b067 : GoodIn wsJ2_indexOfSupplementary_4cfef wsJ2_getChar_3b067 := goodIn_r _ [31, 32, 33, 34, 17, 18, 15, 19] (by decide +kernel) (by decide +kernel)
set_option maxRecDepth 20000 in
theorem gJ2_indexOfSupplementary_4cfef_J2_getChar_3b067 : GoodIn wsJ2_indexOfSupplementary_4cfef (va_wsS RJ2 71 yJ2_getChar_3b067 wsJ2_getChar_3b067) := goodIn_app (goodIn_of _ (by decide +kernel)) ggJ2_indexOfSupplementary_4cfef_J2_getChar_3b067
set_option maxRecDepth 20000 in
theorem ggJ2_charAt_3b067_J2_checkIndex_2214a : GoodIn wsJ2_charAt_3b067 wsJ2_checkIndex_2214a := goodIn_r _ [4, 5, 6, 3, 7, 8, 9, 10, 11, 12, 13, 14, 15, 16] (by decide +kernel) (by decide +kernel)
set_option maxRecDepth 20000 in
theorem gJ2_charAt_3b067_J2_checkIndex_2214a : GoodIn wsJ2_charAt_3b067 (va_wsS RJ2 67 yJ2_checkIndex_2214a wsJ2_checkIndex_2214a) := goodIn_app (goodIn_of _ (by decide +kernel)) ggJ2_charAt_3b067_J2_checkIndex_2214a
set_option maxRecDepth 20000 in
theorem ggJ2_charAt_3b067_J2_getChar_3b067 : GoodIn wsJ2_charAt_3b067 wsJ2_getChar_3b067 := goodIn_r _ [19, 20, 21, 22, 5, 6, 3, 7] (by decide +kernel) (by decide +kernel)
set_option maxRecDepth 20000 in
theorem gJ2_charAt_3b067_J2_getChar_3b067 : GoodIn wsJ2_charAt_3b067 (va_wsS RJ2 71 yJ2_getChar_3b067 wsJ2_getChar_3b067) := goodIn_app (goodIn_of _ (by decide +kernel)) ggJ2_charAt_3b067_J2_getChar_3b067
set_option maxRecDepth 20000 in
theorem ggJ2_checkIndex_2214a_J2_length_9d52b : GoodIn wsJ2_checkIndex_2214a wsJ2_length_9d52b := goodIn_r _ [4] (by decide +kernel) (by decide +kernel)
set_option maxRecDepth 20000 in
theorem gJ2_checkIndex_2214a_J2_length_9d52b : GoodIn wsJ2_checkIndex_2214a (va_wsS RJ2 48 yJ2_length_9d52b wsJ2_length_9d52b) := goodIn_app (goodIn_of _ (by decide +kernel)) ggJ2_checkIndex_2214a_J2_length_9d52b
set_option maxRecDepth 20000 in
theorem ggJ2_checkIndex_2214a_J0_checkIndex_df160 : GoodIn wsJ2_checkIndex_2214a wsJ0_checkIndex_df160 := goodIn_r _ [8, 9, 10, 11, 12, 13] (by decide +kernel) (by decide +kernel)
set_option maxRecDepth 20000 in
theorem gJ2_checkIndex_2214a_J0_checkIndex_df160 : GoodIn wsJ2_checkIndex_2214a (va_wsS RJ2 414 yJ0_checkIndex_df160 wsJ0_checkIndex_df160) := goodIn_app (goodIn_of _ (by decide +kernel)) ggJ2_checkIndex_2214a_J0_checkIndex_df160
set_option maxRecDepth 20000 in
theorem ggJ2_checkBoundsBeginEnd_d044e_J2_length_9d52b : GoodIn wsJ2_checkBoundsBeginEnd_d044e wsJ2_length_9d52b := goodIn_r _ [4] (by decide +kernel) (by decide +kernel)
set_option maxRecDepth 20000 in
theorem gJ2_checkBoundsBeginEnd_d044e_J2_length_9d52b : GoodIn wsJ2_checkBoundsBeginEnd_d044e (va_wsS RJ2 48 yJ2_length_9d52b wsJ2_length_9d52b) := goodIn_app (goodIn_of _ (by decide +kernel)) ggJ2_checkBoundsBeginEnd_d044e_J2_length_9d52b
set_option maxRecDepth 20000 in
theorem ggJ2_checkBoundsBeginEnd_d044e_J0_checkBoundsBeginEnd_23922 : GoodIn wsJ2_checkBoundsBeginEnd_d044e wsJ0_checkBoundsBeginEnd_23922 := goodIn_r _ [8, 9, 10, 11, 12, 13] (by decide +kernel) (by decide +kernel)
set_option maxRecDepth 20000 in
theorem gJ2_checkBoundsBeginEnd_d044e_J0_checkBoundsBeginEnd_23922 : GoodIn wsJ2_checkBoundsBeginEnd_d044e (va_wsS RJ2 241 yJ0_checkBoundsBeginEnd_23922 wsJ0_checkBoundsBeginEnd_23922) := goodIn_app (goodIn_of _ (by decide +kernel)) ggJ2_checkBoundsBeginEnd_d044e_J0_checkBoundsBeginEnd_23922
set_option maxRecDepth 20000 in
theorem ggL_feed_X11_feed : GoodIn wsL_feed wsX11_feed := goodIn_ca (goodIn_r _ [6, 7, 8, 9, 10, 11, 12, 13, 14, 15, 16, 17, 18, 19, 20, 21, 22, 23, 24, 25, 26, 27] (by decide +kernel) (by decide +kernel)) (goodIn_sub (fun _ h => List.mem_cons_of_mem _ (List.mem_append_right _ h)) (by decide +kernel))
set_option maxRecDepth 20000 in
theorem gL_feed_X11_feed : GoodIn wsL_feed (wsV RL 7 RX11 yX11_feed wsX11_feed) := goodIn_app (goodIn_of _ (by decide +kernel)) ggL_feed_X11_feed
set_option maxRecDepth 20000 in
theorem ggL_trim_X11_trim : GoodIn wsL_trim wsX11_trim := goodIn_ca (goodIn_r _ [6, 7, 8, 9, 10, 11, 12, 13, 14, 15, 16, 17, 18, 19, 20] (by decide +kernel) (by decide +kernel)) (goodIn_sub (fun _ h => List.mem_cons_of_mem _ (List.mem_append_right _ h)) (by decide +kernel))
set_option maxRecDepth 20000 in
theorem gL_trim_X11_trim : GoodIn wsL_trim (wsV RL 15 RX11 yX11_trim wsX11_trim) := goodIn_app (goodIn_of _ (by decide +kernel)) ggL_trim_X11_trim
set_option maxRecDepth 20000 in
theorem ggL_count_X11_count : GoodIn wsL_count wsX11_count := goodIn_ca (goodIn_r _ [6, 7, 8, 9, 10, 11, 12, 13, 14, 15, 16, 17, 18, 19, 20, 21, 22, 23, 24, 25, 26, 27, 28, 29, 30, 31, 32, 33, 34, 35, 36, 37, 38, 39, 40, 41, 42, 43, 44, 45, 46, 47, 48, 49, 50, 51, 52, 53, 54, 55, 56, 57, 58, 59, 60, 61, 62, 63, 64, 65, 66, 67, 68, 69, 70, 71, 72, 73, 74, 75, 76, 77, 78, 79, 80, 81, 82, 83, 84, 85, 86, 87, 88, 89] (by decide +kernel) (by decide +kernel)) (goodIn_sub (fun _ h => List.mem_cons_of_mem _ (List.mem_append_right _ h)) (by decide +kernel))
set_option maxRecDepth 20000 in
theorem gL_count_X11_count : GoodIn wsL_count (wsV RL 21 RX11 yX11_count wsX11_count) := goodIn_app (goodIn_of _ (by decide +kernel)) ggL_count_X11_count
set_option maxRecDepth 20000 in
theorem ggL_ground_X11_ground : GoodIn wsL_ground wsX11_ground := goodIn_ca (goodIn_r _ [6, 7, 8, 9, 10, 11, 12, 13, 14, 15, 16, 17, 5, 18, 19, 20, 21, 22, 23, 24, 25, 26, 27, 28, 29, 30, 31, 32, 33, 34, 35, 36, 37, 38, 39, 40, 41, 42, 43, 44, 45, 46, 47, 48, 49, 50] (by decide +kernel) (by decide +kernel)) (goodIn_sub (fun _ h => List.mem_cons_of_mem _ (List.mem_append_right _ h)) (by decide +kernel))
set_option maxRecDepth 20000 in
theorem gL_ground_X11_ground : GoodIn wsL_ground (wsV RL 26 RX11 yX11_ground wsX11_ground) := goodIn_app (goodIn_of _ (by decide +kernel)) ggL_ground_X11_ground
set_option maxRecDepth 20000 in
theorem ggL_fisher_X11_fisher : GoodIn wsL_fisher wsX11_fisher := goodIn_ca (goodIn_r _ [6, 7, 8, 9, 10, 11, 12, 13, 14, 15, 16, 17, 18, 19, 20, 21, 22, 23, 5, 24, 25, 26, 27, 28, 29, 30, 31, 32, 33, 34, 35, 36, 37, 38, 39, 40, 41, 42, 43, 44, 45, 46, 47, 48, 49, 50, 51, 52, 53, 54, 55, 56, 57] (by decide +kernel) (by decide +kernel)) (goodIn_sub (fun _ h => List.mem_cons_of_mem _ (List.mem_append_right _ h)) (by decide +kernel))
set_option maxRecDepth 20000 in
theorem gL_fisher_X11_fisher : GoodIn wsL_fisher (wsV RL 30 RX11 yX11_fisher wsX11_fisher) := goodIn_app (goodIn_of _ (by decide +kernel)) ggL_fisher_X11_fisher
set_option maxRecDepth 20000 in
theorem ggL_pact_X11_pact : GoodIn wsL_pact wsX11_pact := goodIn_ca (goodIn_r _ [6, 7, 8, 9, 10, 11, 12, 13, 14, 15, 16, 17, 18, 19, 20, 21, 22, 23, 24, 25, 26, 27, 28, 29, 30, 31, 32, 33, 34, 35, 36, 37, 38, 39, 40, 41, 42, 43, 44, 45, 46, 47, 48, 49, 50, 51, 52] (by decide +kernel) (by decide +kernel)) (goodIn_sub (fun _ h => List.mem_cons_of_mem _ (List.mem_append_right _ h)) (by decide +kernel))
set_option maxRecDepth 20000 in
theorem gL_pact_X11_pact : GoodIn wsL_pact (wsV RL 33 RX11 yX11_pact wsX11_pact) := goodIn_app (goodIn_of _ (by decide +kernel)) ggL_pact_X11_pact
set_option maxRecDepth 20000 in
theorem ggL_cheat_X11_cheat : GoodIn wsL_cheat wsX11_cheat := goodIn_ca (goodIn_r _ [6, 7, 8, 9, 10, 11, 12, 5, 13, 14, 15, 16, 17, 18, 19, 20, 21, 22, 23, 24, 25, 26, 27, 28, 29, 30, 31, 32, 33, 34, 35, 36, 37, 38, 39, 40, 41, 42, 43, 44, 45, 46, 47, 48, 49, 50, 51, 52, 53, 54, 55, 56] (by decide +kernel) (by decide +kernel)) (goodIn_sub (fun _ h => List.mem_cons_of_mem _ (List.mem_append_right _ h)) (by decide +kernel))
set_option maxRecDepth 20000 in
theorem gL_cheat_X11_cheat : GoodIn wsL_cheat (wsV RL 36 RX11 yX11_cheat wsX11_cheat) := goodIn_app (goodIn_of _ (by decide +kernel)) ggL_cheat_X11_cheat
set_option maxRecDepth 20000 in
theorem ggL_mend_X11_mend : GoodIn wsL_mend wsX11_mend := goodIn_ca (goodIn_ca (goodIn_r _ [6, 7, 8, 9, 10, 11, 12, 13, 14, 15, 16, 5, 17, 18, 19, 20, 21, 22, 23, 24, 25, 26, 27, 28, 29, 30, 31, 32, 33, 34, 35, 36, 37, 38, 39, 40, 41, 42, 43, 44, 45, 46, 47, 48, 49, 50, 51, 52] (by decide +kernel) (by decide +kernel)) (goodIn_sub (fun _ h => List.mem_cons_of_mem _ (List.mem_append_left _ (List.mem_append_right _ h))) (by decide +kernel))) (goodIn_sub (fun _ h => List.mem_cons_of_mem _ (List.mem_append_right _ h)) (by decide +kernel))
set_option maxRecDepth 20000 in
theorem gL_mend_X11_mend : GoodIn wsL_mend (wsV RL 40 RX11 yX11_mend wsX11_mend) := goodIn_app (goodIn_of _ (by decide +kernel)) ggL_mend_X11_mend
set_option maxRecDepth 20000 in
theorem ggL_lot_X11_lot : GoodIn wsL_lot wsX11_lot := goodIn_ca (goodIn_r _ [6, 7, 8, 9, 10, 11, 12, 13, 14, 15, 16, 17, 18, 19, 20, 21, 22, 23, 24, 25, 26, 27, 28, 29, 30, 31, 32, 33, 34, 35, 36, 37, 38, 39, 40, 41, 42] (by decide +kernel) (by decide +kernel)) (goodIn_sub (fun _ h => List.mem_cons_of_mem _ (List.mem_append_right _ h)) (by decide +kernel))
set_option maxRecDepth 20000 in
theorem gL_lot_X11_lot : GoodIn wsL_lot (wsV RL 43 RX11 yX11_lot wsX11_lot) := goodIn_app (goodIn_of _ (by decide +kernel)) ggL_lot_X11_lot
set_option maxRecDepth 20000 in
theorem ggL_took_X11_took : GoodIn wsL_took wsX11_took := goodIn_ca (goodIn_r _ [6, 7, 8, 9, 10, 11, 12, 5, 13, 14, 15, 16, 17, 18, 19, 20, 21, 22, 23, 24, 25, 26, 27, 28, 29, 30, 31, 32, 33, 34, 35, 36, 37, 38, 39, 40, 41, 42, 43, 44, 45, 46, 47, 48, 49, 50, 51, 52, 53] (by decide +kernel) (by decide +kernel)) (goodIn_sub (fun _ h => List.mem_cons_of_mem _ (List.mem_append_right _ h)) (by decide +kernel))
set_option maxRecDepth 20000 in
theorem gL_took_X11_took : GoodIn wsL_took (wsV RL 46 RX11 yX11_took wsX11_took) := goodIn_app (goodIn_of _ (by decide +kernel)) ggL_took_X11_took
set_option maxRecDepth 20000 in
theorem ggL_blame_X11_blame : GoodIn wsL_blame wsX11_blame := goodIn_ca (goodIn_r _ [6, 7, 8, 9, 10, 11, 12, 13, 5, 14, 15, 16, 17, 18, 19, 20, 21, 22, 23, 24, 25, 26, 27, 28, 29, 30, 31, 32, 33, 34, 35, 36, 37, 38, 39, 40, 41, 42, 43, 44, 45, 46, 47, 48, 49] (by decide +kernel) (by decide +kernel)) (goodIn_sub (fun _ h => List.mem_cons_of_mem _ (List.mem_append_right _ h)) (by decide +kernel))
set_option maxRecDepth 20000 in
theorem gL_blame_X11_blame : GoodIn wsL_blame (wsV RL 49 RX11 yX11_blame wsX11_blame) := goodIn_app (goodIn_of _ (by decide +kernel)) ggL_blame_X11_blame
set_option maxRecDepth 20000 in
theorem ggL_pass_X11_pass : GoodIn wsL_pass wsX11_pass := goodIn_ca (goodIn_r _ [6, 7, 8, 9, 5, 10, 11, 12, 13, 14, 15, 16, 17, 18, 19, 20, 21, 22, 23, 24, 25, 26, 27, 28, 29, 30, 31, 32, 33, 34, 35, 36, 37, 38, 39, 40, 41, 42, 43, 44, 45, 46, 47, 48, 49, 50, 51, 52, 53, 54, 55, 56, 57, 58, 59, 60, 61, 62, 63, 64, 65, 66, 67, 68, 69, 70, 71, 72, 73, 74, 75, 76, 77, 78, 79, 80, 81, 82, 83, 84, 85, 86, 87, 88, 89, 90, 91, 92, 93, 94, 95, 96, 97, 98, 99, 100, 101, 102, 103, 104, 105, 106, 107, 108, 109, 110, 111, 112, 113, 114, 115, 116, 117, 118, 119, 120, 121, 122, 123, 124, 125, 126, 127, 128, 129, 130, 131, 132, 133, 134, 135, 136, 137, 138, 139, 140, 141, 142, 143, 144, 145, 146, 147, 148, 149, 150, 151, 152, 153, 154, 155, 156, 157, 158, 159, 160, 161, 162, 163, 164, 165, 166, 167, 168, 169, 170, 171, 172, 173, 174, 175, 176, 177, 178, 179, 180, 181, 182, 183, 184, 185, 186, 187, 188, 189, 190, 191, 192, 193, 194, 195, 196, 197, 198, 199, 200, 201, 202, 203, 204, 205, 206, 207, 208, 209, 210, 211, 212, 213, 214, 215, 216, 217, 218] (by decide +kernel) (by decide +kernel)) (goodIn_sub (fun _ h => List.mem_cons_of_mem _ (List.mem_append_right _ h)) (by decide +kernel))
set_option maxRecDepth 20000 in
theorem gL_pass_X11_pass : GoodIn wsL_pass (wsV RL 52 RX11 yX11_pass wsX11_pass) := goodIn_app (goodIn_of _ (by decide +kernel)) ggL_pass_X11_pass
set_option maxRecDepth 20000 in
theorem ggL_foresee_X11_foresee : GoodIn wsL_foresee wsX11_foresee := goodIn_ca (goodIn_ca (goodIn_r _ [6, 7, 8, 9, 10, 5, 11, 12, 13, 14, 15, 16, 17, 18, 19, 20, 21, 22, 23, 24, 25, 26, 27, 28, 29, 30, 31, 32, 33, 34, 35, 36, 37, 38, 39, 40, 41, 42, 43, 44, 45, 46, 47, 48, 49, 50, 51, 52, 53, 54, 55, 56, 57, 58, 59, 60, 61, 62, 63, 64, 65, 66, 67, 68, 69, 70, 71, 72, 73, 74, 75, 76, 77, 78, 79, 80, 81, 82, 83, 84, 85, 86, 87, 88, 89, 90, 91, 92, 93, 94, 95, 96, 97, 98, 99, 100, 101, 102, 103, 104, 105, 106, 107, 108, 109, 110, 111, 112, 113, 114, 115, 116, 117, 118, 119, 120, 121, 122, 123, 124, 125, 126, 127, 128, 129, 130, 131, 132, 133, 134, 135, 136, 137, 138, 139, 140, 141, 142, 143, 144, 145, 146, 147, 148, 149, 150, 151, 152, 153, 154, 155, 156, 157, 158, 159, 160, 161, 162, 163, 164, 165, 166, 167, 168, 169, 170, 171, 172, 173, 174, 175, 176, 177, 178, 179, 180, 181, 182, 183, 184, 185, 186, 187, 188, 189, 190, 191, 192, 193, 194, 195, 196, 197, 198, 199, 200, 201, 202, 203, 204, 205, 206, 207, 208, 209, 210, 211, 212, 213, 214, 215, 216, 217, 218, 219, 220, 221, 222, 223, 224, 225, 226, 227, 228, 229, 230, 231, 232, 233, 234, 235, 236, 237, 238, 239, 240, 241, 242, 243, 244, 245, 246, 247, 248, 249, 250, 251, 252, 253, 254, 255, 256, 257, 258, 259, 260, 261, 262, 263, 264, 265, 266, 267, 268, 269, 270, 271, 272, 273, 274, 275, 276, 277, 278, 279, 280, 281, 282, 283, 284] (by decide +kernel) (by decide +kernel)) (goodIn_sub (fun _ h => List.mem_cons_of_mem _ (List.mem_append_left _ (List.mem_append_right _ h))) (by decide +kernel))) (goodIn_sub (fun _ h => List.mem_cons_of_mem _ (List.mem_append_right _ h)) (by decide +kernel))
set_option maxRecDepth 20000 in
theorem gL_foresee_X11_foresee : GoodIn wsL_foresee (wsV RL 55 RX11 yX11_foresee wsX11_foresee) := goodIn_app (goodIn_of _ (by decide +kernel)) ggL_foresee_X11_foresee
set_option maxRecDepth 20000 in
theorem ggL_pays_X11_pays : GoodIn wsL_pays wsX11_pays := goodIn_ca (goodIn_ca (goodIn_r _ [6, 7, 8, 9, 10, 11, 12, 5, 13, 14, 15, 16, 17, 18, 19, 20, 21, 22, 23, 24, 25, 26, 27, 28, 29, 30, 31, 32, 33, 34, 35, 36, 37, 38, 39, 40, 41, 42, 43, 44, 45, 46, 47, 48, 49, 50, 51, 52, 53, 54, 55, 56, 57, 58, 59, 60, 61, 62, 63, 64, 65, 66, 67, 68, 69, 70, 71, 72, 73, 74, 75, 76, 77, 78, 79, 80, 81, 82, 83, 84, 85, 86, 87, 88, 89, 90, 91, 92, 93, 94, 95, 96, 97, 98, 99, 100, 101, 102, 103, 104, 105, 106, 107, 108, 109, 110, 111, 112, 113, 114, 115, 116, 117, 118, 119, 120, 121, 122, 123, 124, 125, 126, 127, 128, 129, 130, 131, 132, 133, 134, 135, 136, 137, 138, 139, 140, 141, 142, 143, 144, 145, 146, 147, 148, 149, 150, 151, 152, 153, 154, 155, 156, 157, 158, 159, 160, 161, 162, 163, 164, 165, 166, 167, 168, 169, 170, 171, 172, 173, 174, 175, 176, 177, 178, 179, 180, 181, 182, 183, 184, 185, 186, 187, 188, 189, 190, 191, 192, 193, 194, 195, 196, 197, 198, 199, 200, 201, 202, 203, 204, 205, 206, 207, 208, 209, 210, 211, 212, 213, 214, 215, 216, 217, 218, 219, 220, 221, 222, 223, 224, 225, 226, 227, 228, 229, 230, 231, 232, 233, 234, 235, 236, 237, 238, 239, 240, 241, 242, 243, 244, 245, 246, 247, 248, 249, 250, 251, 252, 253, 254, 255, 256, 257, 258, 259, 260, 261, 262, 263, 264, 265, 266, 267, 268, 269, 270, 271, 272, 273, 274, 275, 276, 277, 278, 279] (by decide +kernel) (by decide +kernel)) (goodIn_sub (fun _ h => List.mem_cons_of_mem _ (List.mem_append_left _ (List.mem_append_right _ h))) (by decide +kernel))) (goodIn_sub (fun _ h => List.mem_cons_of_mem _ (List.mem_append_right _ h)) (by decide +kernel))
set_option maxRecDepth 20000 in
theorem gL_pays_X11_pays : GoodIn wsL_pays (wsV RL 58 RX11 yX11_pays wsX11_pays) := goodIn_app (goodIn_of _ (by decide +kernel)) ggL_pays_X11_pays
set_option maxRecDepth 20000 in
theorem ggL_empty_X11_empty : GoodIn wsL_empty wsX11_empty := goodIn_ca (goodIn_r _ [6, 7, 8, 9, 10, 5, 11, 12, 13, 14, 15, 16, 17, 18, 19, 20, 21, 22, 23, 24, 25, 26, 27, 28, 29, 30, 31, 32, 33, 34, 35, 36, 37, 38, 39, 40, 41, 42, 43, 44, 45, 46, 47, 48, 49, 50, 51, 52, 53, 54, 55, 56, 57, 58, 59, 60, 61, 62, 63, 64, 65, 66, 67, 68, 69, 70, 71, 72, 73, 74, 75, 76, 77, 78, 79, 80, 81, 82, 83, 84, 85, 86, 87, 88, 89, 90, 91, 92, 93, 94, 95, 96, 97, 98, 99, 100, 101, 102, 103, 104, 105, 106, 107, 108, 109, 110, 111, 112, 113, 114, 115, 116, 117, 118, 119, 120, 121, 122, 123, 124, 125, 126, 127, 128, 129, 130, 131, 132, 133, 134, 135, 136, 137, 138, 139, 140, 141, 142, 143, 144, 145, 146, 147, 148, 149, 150, 151, 152, 153, 154, 155, 156, 157, 158, 159, 160, 161, 162, 163, 164, 165, 166, 167, 168, 169, 170, 171, 172, 173, 174, 175, 176, 177, 178, 179, 180, 181, 182, 183, 184, 185, 186, 187, 188, 189, 190, 191, 192, 193, 194, 195, 196, 197, 198, 199, 200, 201, 202, 203, 204, 205, 206, 207, 208, 209, 210, 211, 212, 213, 214, 215, 216, 217, 218, 219, 220, 221, 222, 223, 224, 225, 226, 227, 228, 229, 230, 231, 232, 233, 234, 235, 236, 237, 238, 239, 240, 241, 242, 243, 244, 245, 246, 247, 248, 249, 250, 251, 252, 253, 254, 255, 256, 257, 258, 259, 260, 261, 262, 263, 264, 265, 266, 267, 268, 269, 270, 271, 272, 273] (by decide +kernel) (by decide +kernel)) (goodIn_sub (fun _ h => List.mem_cons_of_mem _ (List.mem_append_right _ h)) (by decide +kernel))
set_option maxRecDepth 20000 in
theorem gL_empty_X11_empty : GoodIn wsL_empty (wsV RL 61 RX11 yX11_empty wsX11_empty) := goodIn_app (goodIn_of _ (by decide +kernel)) ggL_empty_X11_empty
set_option maxRecDepth 20000 in
theorem ggL_advise_X11_advise : GoodIn wsL_advise wsX11_advise := goodIn_ca (goodIn_ca (goodIn_r _ [6, 7, 8, 9, 10, 11, 12, 5, 13, 14, 15, 16, 17, 18, 19, 20, 21, 22, 23, 24, 25, 26, 27, 28, 29, 30, 31, 32, 33, 34, 35, 36, 37, 38, 39, 40, 41, 42, 43, 44, 45, 46, 47, 48, 49, 50, 51, 52, 53, 54, 55, 56, 57, 58, 59, 60, 61, 62, 63, 64, 65, 66, 67, 68, 69, 70, 71, 72, 73, 74, 75, 76, 77, 78, 79, 80, 81, 82, 83, 84, 85, 86, 87, 88, 89, 90, 91, 92, 93, 94, 95, 96, 97, 98, 99, 100, 101, 102, 103, 104, 105, 106, 107, 108, 109, 110, 111, 112, 113, 114, 115, 116, 117, 118, 119, 120, 121, 122, 123, 124, 125, 126, 127, 128, 129, 130, 131, 132, 133, 134, 135, 136, 137, 138, 139, 140, 141, 142, 143, 144, 145, 146, 147, 148, 149, 150, 151, 152, 153, 154, 155, 156, 157, 158, 159, 160, 161, 162, 163, 164, 165, 166, 167, 168, 169, 170, 171, 172, 173, 174, 175, 176, 177, 178, 179, 180, 181, 182, 183, 184, 185, 186, 187, 188, 189, 190, 191, 192, 193, 194, 195, 196, 197, 198, 199, 200, 201, 202, 203, 204, 205, 206, 207, 208, 209, 210, 211, 212, 213, 214, 215, 216, 217, 218, 219, 220, 221, 222, 223, 224, 225, 226, 227, 228, 229, 230, 231, 232, 233, 234, 235, 236, 237, 238, 239, 240, 241, 242, 243, 244, 245, 246, 247, 248, 249, 250, 251, 252, 253, 254, 255, 256, 257, 258, 259, 260, 261, 262, 263, 264, 265, 266, 267, 268, 269, 270, 271, 272, 273, 274, 275, 276, 277, 278, 279] (by decide +kernel) (by decide +kernel)) (goodIn_sub (fun _ h => List.mem_cons_of_mem _ (List.mem_append_left _ (List.mem_append_right _ h))) (by decide +kernel))) (goodIn_sub (fun _ h => List.mem_cons_of_mem _ (List.mem_append_right _ h)) (by decide +kernel))
set_option maxRecDepth 20000 in
theorem gL_advise_X11_advise : GoodIn wsL_advise (wsV RL 64 RX11 yX11_advise wsX11_advise) := goodIn_app (goodIn_of _ (by decide +kernel)) ggL_advise_X11_advise
