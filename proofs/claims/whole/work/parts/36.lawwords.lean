/-! ===== the words of the law's calls ===== -/
theorem mL_20 : (Cond.initialized RX3 : Cond) ∈ lw_tbl := List.mem_of_getElem? (i := 20) (by decide +kernel)
theorem mL_25 : (Cond.initialized RX4 : Cond) ∈ lw_tbl := List.mem_of_getElem? (i := 25) (by decide +kernel)
theorem mL_27 : (Cond.classLink RL 7 RX3 : Cond) ∈ lw_tbl := List.mem_of_getElem? (i := 27) (by decide +kernel)
theorem mL_28 : (Cond.instantiable RX3 5 : Cond) ∈ lw_tbl := List.mem_of_getElem? (i := 28) (by decide +kernel)
theorem mL_29 : (Cond.methodLink RL 9 yX3_init : Cond) ∈ lw_tbl := List.mem_of_getElem? (i := 29) (by decide +kernel)
theorem mL_30 : (Cond.instanceMethod yX3_init : Cond) ∈ lw_tbl := List.mem_of_getElem? (i := 30) (by decide +kernel)
theorem mL_36 : (Cond.instantiable RX2 3 : Cond) ∈ lw_tbl := List.mem_of_getElem? (i := 36) (by decide +kernel)
theorem mL_57 : (Cond.arrayClass .int : Cond) ∈ lw_tbl := List.mem_of_getElem? (i := 57) (by decide +kernel)
theorem mL_59 : (Cond.instantiable RX0 4 : Cond) ∈ lw_tbl := List.mem_of_getElem? (i := 59) (by decide +kernel)
theorem mL_60 : (Cond.methodLinkNest RX3 23 yX0_init RX3 : Cond) ∈ lw_tbl := List.mem_of_getElem? (i := 60) (by decide +kernel)
theorem mL_78 : (Cond.instantiable RX1 7 : Cond) ∈ lw_tbl := List.mem_of_getElem? (i := 78) (by decide +kernel)
theorem mL_79 : (Cond.methodLinkNest RX3 34 yX1_init RX3 : Cond) ∈ lw_tbl := List.mem_of_getElem? (i := 79) (by decide +kernel)
theorem mL_90 : (Cond.fieldLinkNest RX3 116 RX1 "counter" "I" RX3 : Cond) ∈ lw_tbl := List.mem_of_getElem? (i := 90) (by decide +kernel)
theorem mL_92 : (Cond.fieldLinkNest RX3 96 RX1 "condition" "I" RX3 : Cond) ∈ lw_tbl := List.mem_of_getElem? (i := 92) (by decide +kernel)
theorem mL_94 : (Cond.fieldLinkNest RX3 119 RX1 "showCount" "I" RX3 : Cond) ∈ lw_tbl := List.mem_of_getElem? (i := 94) (by decide +kernel)
theorem mL_184 : (Cond.methodLinkNest RX0 21 yX3_isAddress RX3 : Cond) ∈ lw_tbl := List.mem_of_getElem? (i := 184) (by decide +kernel)
theorem mL_283 : (Cond.methodLinkNest RX1 49 yX3_isRegister RX3 : Cond) ∈ lw_tbl := List.mem_of_getElem? (i := 283) (by decide +kernel)
theorem mL_288 : (Cond.methodLinkNest RX1 53 yX3_isCell RX3 : Cond) ∈ lw_tbl := List.mem_of_getElem? (i := 288) (by decide +kernel)
theorem mL_349 : (Cond.classLink RL 10 RX4 : Cond) ∈ lw_tbl := List.mem_of_getElem? (i := 349) (by decide +kernel)
theorem mL_350 : (Cond.instantiable RX4 17 : Cond) ∈ lw_tbl := List.mem_of_getElem? (i := 350) (by decide +kernel)
theorem mL_351 : (Cond.methodLink RL 12 yX4_init : Cond) ∈ lw_tbl := List.mem_of_getElem? (i := 351) (by decide +kernel)
theorem mL_352 : (Cond.instanceMethod yX4_init : Cond) ∈ lw_tbl := List.mem_of_getElem? (i := 352) (by decide +kernel)
set_option maxRecDepth 20000 in
theorem gL_law_X3_add : GoodIn lw_tbl (wsV RL 13 RX3 yX3_add wsX3_add) := goodIn_r _ [126, 127, 128, 20, 129, 110, 130, 131, 20, 132, 133, 134, 135, 136, 137, 138, 139, 140, 141, 142, 143, 144, 21, 145, 49, 48, 146, 147, 148, 149, 150, 151, 152, 153, 47, 154, 155, 157, 0, 158, 111, 114, 159, 160, 161, 162, 163, 164, 165, 24, 166, 91, 115, 117, 119, 121, 123, 50, 52, 54, 95, 97, 99, 101, 103, 105, 107] (by decide +kernel) (by decide +kernel)
set_option maxRecDepth 20000 in
theorem gL_law_X3_allow : GoodIn lw_tbl (wsV RL 18 RX3 yX3_allow wsX3_allow) := goodIn_r _ [167, 168, 169, 20, 170, 110, 112, 171, 172, 173, 21, 174, 47, 175, 176, 177, 178, 49, 179, 180, 181, 182, 23, 183, 67, 64, 65, 140, 20, 141, 185, 187, 1, 188, 66, 197, 42, 22, 43, 198, 45, 46, 189, 190, 191, 192, 193, 194, 195, 196, 199, 200, 201, 155, 157, 0, 158, 111, 114, 159, 160, 161, 162, 163, 164, 165, 24, 166, 91, 115, 117, 119, 121, 123, 50, 52, 54, 68, 70, 72, 74, 95, 97, 99, 101, 103, 105, 107] (by decide +kernel) (by decide +kernel)
set_option maxRecDepth 20000 in
theorem gL_law_X3_guarded : GoodIn lw_tbl (wsV RL 33 RX3 yX3_guarded wsX3_guarded) := goodIn_r _ [235, 236, 237, 20, 238, 111, 171, 172, 173, 21, 174, 47, 175, 176, 177, 178, 49, 115, 117, 119, 121, 123, 50, 52, 54] (by decide +kernel) (by decide +kernel)
set_option maxRecDepth 20000 in
theorem gL_law_X3_init : GoodIn lw_tbl wsX3_init := goodIn_r _ [31, 32, 33, 34, 35, 36, 21, 110, 111, 58, 59, 23, 112, 57, 113, 77, 78, 24, 114, 37, 38, 39, 40, 41, 42, 22, 43, 44, 45, 46, 48, 47, 61, 62, 63, 64, 65, 66, 80, 81, 82, 85, 86, 87, 83, 88, 91, 84, 50, 52, 54, 115, 117, 119, 121, 123, 68, 70, 72, 74, 95, 97, 99, 101, 103, 105, 107] (by decide +kernel) (by decide +kernel)
set_option maxRecDepth 20000 in
theorem gL_law_X3_label : GoodIn lw_tbl (wsV RL 42 RX3 yX3_label wsX3_label) := goodIn_r _ [247, 248, 249, 20, 250, 110, 112, 179, 176, 177, 21, 178, 49, 221, 194, 195, 23, 196, 65, 140, 20, 141, 115, 117, 119, 121, 123, 50, 52, 54, 68, 70, 72, 74] (by decide +kernel) (by decide +kernel)
set_option maxRecDepth 20000 in
theorem gL_law_X3_memory : GoodIn lw_tbl (wsV RL 63 RX3 yX3_memory wsX3_memory) := goodIn_r _ [323, 324, 325, 20, 326, 114, 318, 319, 320, 24, 321, 91, 327, 285, 286, 287, 86, 137, 20, 138, 115, 117, 119, 121, 123, 95, 97, 99, 101, 103, 105, 107] (by decide +kernel) (by decide +kernel)
set_option maxRecDepth 20000 in
theorem gL_law_X3_overwrite : GoodIn lw_tbl (wsV RL 59 RX3 yX3_overwrite wsX3_overwrite) := goodIn_r _ [314, 315, 316, 20, 317, 114, 318, 319, 320, 24, 321, 91, 136, 137, 20, 138, 322, 294, 295, 296, 86, 115, 117, 119, 121, 123, 95, 97, 99, 101, 103, 105, 107] (by decide +kernel) (by decide +kernel)
set_option maxRecDepth 20000 in
theorem gL_law_X3_pc : GoodIn lw_tbl (wsV RL 71 RX3 yX3_pc wsX3_pc) := goodIn_r _ [333, 334, 335, 20, 336, 114, 318, 319, 320, 24, 321, 91, 115, 117, 119, 121, 123, 95, 97, 99, 101, 103, 105, 107] (by decide +kernel) (by decide +kernel)
set_option maxRecDepth 20000 in
theorem gL_law_X3_place : GoodIn lw_tbl (wsV RL 37 RX3 yX3_place wsX3_place) := goodIn_r _ [239, 240, 241, 20, 242, 110, 243, 245, 7, 20, 246, 111, 146, 147, 148, 21, 149, 49, 179, 176, 177, 178, 227, 229, 6, 230, 113, 139, 140, 141, 115, 117, 119, 121, 123, 50, 52, 54] (by decide +kernel) (by decide +kernel)
set_option maxRecDepth 20000 in
theorem gL_law_X3_protect : GoodIn lw_tbl (wsV RL 23 RX3 yX3_protect wsX3_protect) := goodIn_r _ [202, 203, 204, 20, 205, 110, 111, 155, 157, 0, 20, 158, 114, 159, 160, 161, 21, 162, 49, 163, 164, 165, 24, 166, 91, 206, 208, 2, 209, 146, 147, 148, 149, 171, 172, 173, 174, 47, 175, 176, 177, 178, 210, 212, 3, 213, 179, 214, 215, 216, 217, 219, 4, 220, 113, 112, 221, 194, 195, 23, 196, 65, 140, 141, 222, 224, 5, 225, 150, 151, 152, 153, 154, 143, 144, 145, 48, 226, 190, 191, 192, 66, 227, 229, 6, 230, 139, 115, 117, 119, 121, 123, 50, 52, 54, 95, 97, 99, 101, 103, 105, 107, 68, 70, 72, 74] (by decide +kernel) (by decide +kernel)
set_option maxRecDepth 20000 in
theorem gL_law_X3_register : GoodIn lw_tbl (wsV RL 67 RX3 yX3_register wsX3_register) := goodIn_r _ [328, 329, 330, 20, 331, 114, 318, 319, 320, 24, 321, 91, 332, 290, 291, 292, 85, 134, 20, 135, 115, 117, 119, 121, 123, 95, 97, 99, 101, 103, 105, 107] (by decide +kernel) (by decide +kernel)
set_option maxRecDepth 20000 in
theorem gL_law_X3_run : GoodIn lw_tbl (wsV RL 51 RX3 yX3_run wsX3_run) := goodIn_r _ [262, 263, 264, 20, 265, 114, 266, 267, 268, 24, 269, 91, 270, 272, 8, 273, 88, 89, 274, 172, 173, 21, 174, 47, 175, 176, 177, 178, 49, 275, 277, 9, 278, 279, 281, 10, 282, 85, 134, 20, 135, 284, 285, 286, 287, 86, 137, 138, 289, 290, 291, 292, 293, 294, 295, 296, 297, 299, 11, 300, 87, 93, 301, 303, 12, 304, 305, 306, 308, 13, 309, 115, 117, 119, 121, 123, 95, 97, 99, 101, 103, 105, 107, 50, 52, 54] (by decide +kernel) (by decide +kernel)
set_option maxRecDepth 20000 in
theorem gL_law_X3_shown : GoodIn lw_tbl (wsV RL 79 RX3 yX3_shown wsX3_shown) := goodIn_r _ [341, 342, 343, 20, 344, 114, 318, 319, 320, 24, 321, 91, 345, 346, 347, 348, 93, 87, 115, 117, 119, 121, 123, 95, 97, 99, 101, 103, 105, 107] (by decide +kernel) (by decide +kernel)
set_option maxRecDepth 20000 in
theorem gL_law_X3_shows : GoodIn lw_tbl (wsV RL 75 RX3 yX3_shows wsX3_shows) := goodIn_r _ [337, 338, 339, 20, 340, 114, 318, 319, 320, 24, 321, 91, 115, 117, 119, 121, 123, 95, 97, 99, 101, 103, 105, 107] (by decide +kernel) (by decide +kernel)
set_option maxRecDepth 20000 in
theorem gL_law_X3_source : GoodIn lw_tbl (wsV RL 28 RX3 yX3_source wsX3_source) := goodIn_r _ [231, 232, 233, 20, 234, 110, 171, 172, 173, 21, 174, 47, 175, 176, 177, 178, 49, 115, 117, 119, 121, 123, 50, 52, 54] (by decide +kernel) (by decide +kernel)
set_option maxRecDepth 20000 in
theorem gL_law_X3_start : GoodIn lw_tbl (wsV RL 46 RX3 yX3_start wsX3_start) := goodIn_r _ [251, 252, 253, 20, 254, 114, 111, 110, 243, 245, 7, 20, 246, 146, 147, 148, 21, 149, 49, 255, 256, 257, 24, 258, 88, 85, 86, 89, 93, 91, 259, 260, 26, 261, 115, 117, 119, 121, 123, 50, 52, 54, 95, 97, 99, 101, 103, 105, 107] (by decide +kernel) (by decide +kernel)
set_option maxRecDepth 20000 in
theorem gL_law_X3_state : GoodIn lw_tbl (wsV RL 55 RX3 yX3_state wsX3_state) := goodIn_r _ [310, 311, 312, 20, 313, 114, 115, 117, 119, 121, 123, 95, 97, 99, 101, 103, 105, 107] (by decide +kernel) (by decide +kernel)
set_option maxRecDepth 20000 in
theorem gL_law_X4_add : GoodIn lw_tbl (wsV RL 17 RX4 yX4_add wsX4_add) := goodIn_r _ [407, 408, 409, 25, 410, 356, 355, 411, 412, 25, 413, 414, 415, 416, 417, 419, 14, 420, 357, 368, 372, 374, 376, 378, 380, 382, 384, 386, 388, 390, 392, 394, 396, 398, 400, 402, 404] (by decide +kernel) (by decide +kernel)
set_option maxRecDepth 20000 in
theorem gL_law_X4_allow : GoodIn lw_tbl (wsV RL 22 RX4 yX4_allow wsX4_allow) := goodIn_r _ [421, 422, 423, 25, 424, 356, 355, 360, 358, 359, 414, 415, 25, 416, 417, 419, 14, 420, 357, 368, 372, 374, 376, 378, 380, 382, 384, 386, 388, 390, 392, 394, 396, 398, 400, 402, 404] (by decide +kernel) (by decide +kernel)
set_option maxRecDepth 20000 in
theorem gL_law_X4_guarded : GoodIn lw_tbl (wsV RL 36 RX4 yX4_guarded wsX4_guarded) := goodIn_r _ [445, 446, 447, 25, 448, 357, 355, 414, 415, 25, 416, 372, 374, 376, 378, 380, 382, 384, 386, 388, 390, 392, 394, 396, 398, 400, 402, 404] (by decide +kernel) (by decide +kernel)
set_option maxRecDepth 20000 in
theorem gL_law_X4_init : GoodIn lw_tbl wsX4_init := goodIn_r _ [353, 354, 33, 34, 57, 355, 358, 359, 361, 362, 363, 364, 365, 366, 368, 372, 374, 376, 378, 380, 382, 384, 386, 388, 390, 392, 394, 396, 398, 400, 402, 404] (by decide +kernel) (by decide +kernel)
set_option maxRecDepth 20000 in
theorem gL_law_X4_label : GoodIn lw_tbl (wsV RL 45 RX4 yX4_label wsX4_label) := goodIn_r _ [453, 454, 455, 25, 456, 356, 361, 414, 415, 25, 416, 433, 435, 16, 436, 362, 360, 359, 358, 372, 374, 376, 378, 380, 382, 384, 386, 388, 390, 392, 394, 396, 398, 400, 402, 404] (by decide +kernel) (by decide +kernel)
set_option maxRecDepth 20000 in
theorem gL_law_X4_memory : GoodIn lw_tbl (wsV RL 66 RX4 yX4_memory wsX4_memory) := goodIn_r _ [477, 478, 479, 25, 480, 368, 365, 414, 415, 25, 416, 372, 374, 376, 378, 380, 382, 384, 386, 388, 390, 392, 394, 396, 398, 400, 402, 404] (by decide +kernel) (by decide +kernel)
set_option maxRecDepth 20000 in
theorem gL_law_X4_overwrite : GoodIn lw_tbl (wsV RL 62 RX4 yX4_overwrite wsX4_overwrite) := goodIn_r _ [473, 474, 475, 25, 476, 368, 365, 414, 415, 25, 416, 372, 374, 376, 378, 380, 382, 384, 386, 388, 390, 392, 394, 396, 398, 400, 402, 404] (by decide +kernel) (by decide +kernel)
set_option maxRecDepth 20000 in
theorem gL_law_X4_pc : GoodIn lw_tbl (wsV RL 74 RX4 yX4_pc wsX4_pc) := goodIn_r _ [485, 486, 487, 25, 488, 368, 367, 372, 374, 376, 378, 380, 382, 384, 386, 388, 390, 392, 394, 396, 398, 400, 402, 404] (by decide +kernel) (by decide +kernel)
set_option maxRecDepth 20000 in
theorem gL_law_X4_place : GoodIn lw_tbl (wsV RL 41 RX4 yX4_place wsX4_place) := goodIn_r _ [449, 450, 451, 25, 452, 356, 357, 363, 414, 415, 25, 416, 372, 374, 376, 378, 380, 382, 384, 386, 388, 390, 392, 394, 396, 398, 400, 402, 404] (by decide +kernel) (by decide +kernel)
set_option maxRecDepth 20000 in
theorem gL_law_X4_protect : GoodIn lw_tbl (wsV RL 27 RX4 yX4_protect wsX4_protect) := goodIn_r _ [425, 426, 427, 25, 428, 356, 363, 361, 355, 362, 357, 417, 419, 14, 25, 420, 368, 429, 431, 15, 432, 433, 435, 16, 436, 360, 359, 358, 437, 439, 17, 440, 372, 374, 376, 378, 380, 382, 384, 386, 388, 390, 392, 394, 396, 398, 400, 402, 404] (by decide +kernel) (by decide +kernel)
set_option maxRecDepth 20000 in
theorem gL_law_X4_register : GoodIn lw_tbl (wsV RL 70 RX4 yX4_register wsX4_register) := goodIn_r _ [481, 482, 483, 25, 484, 368, 364, 414, 415, 25, 416, 372, 374, 376, 378, 380, 382, 384, 386, 388, 390, 392, 394, 396, 398, 400, 402, 404] (by decide +kernel) (by decide +kernel)
set_option maxRecDepth 20000 in
theorem gL_law_X4_run : GoodIn lw_tbl (wsV RL 54 RX4 yX4_run wsX4_run) := goodIn_r _ [461, 462, 463, 25, 464, 368, 465, 467, 18, 25, 468, 355, 370, 367, 364, 365, 366, 369, 371, 414, 415, 416, 372, 374, 376, 378, 380, 382, 384, 386, 388, 390, 392, 394, 396, 398, 400, 402, 404] (by decide +kernel) (by decide +kernel)
set_option maxRecDepth 20000 in
theorem gL_law_X4_shown : GoodIn lw_tbl (wsV RL 82 RX4 yX4_shown wsX4_shown) := goodIn_r _ [493, 494, 495, 25, 496, 368, 369, 366, 414, 415, 25, 416, 372, 374, 376, 378, 380, 382, 384, 386, 388, 390, 392, 394, 396, 398, 400, 402, 404] (by decide +kernel) (by decide +kernel)
set_option maxRecDepth 20000 in
theorem gL_law_X4_shows : GoodIn lw_tbl (wsV RL 78 RX4 yX4_shows wsX4_shows) := goodIn_r _ [489, 490, 491, 25, 492, 368, 369, 372, 374, 376, 378, 380, 382, 384, 386, 388, 390, 392, 394, 396, 398, 400, 402, 404] (by decide +kernel) (by decide +kernel)
set_option maxRecDepth 20000 in
theorem gL_law_X4_source : GoodIn lw_tbl (wsV RL 32 RX4 yX4_source wsX4_source) := goodIn_r _ [441, 442, 443, 25, 444, 356, 355, 414, 415, 25, 416, 372, 374, 376, 378, 380, 382, 384, 386, 388, 390, 392, 394, 396, 398, 400, 402, 404] (by decide +kernel) (by decide +kernel)
set_option maxRecDepth 20000 in
theorem gL_law_X4_start : GoodIn lw_tbl (wsV RL 50 RX4 yX4_start wsX4_start) := goodIn_r _ [457, 458, 459, 25, 460, 357, 370, 356, 371, 364, 365, 367, 368, 369, 372, 374, 376, 378, 380, 382, 384, 386, 388, 390, 392, 394, 396, 398, 400, 402, 404] (by decide +kernel) (by decide +kernel)
set_option maxRecDepth 20000 in
theorem gL_law_X4_state : GoodIn lw_tbl (wsV RL 58 RX4 yX4_state wsX4_state) := goodIn_r _ [469, 470, 471, 25, 472, 368, 372, 374, 376, 378, 380, 382, 384, 386, 388, 390, 392, 394, 396, 398, 400, 402, 404] (by decide +kernel) (by decide +kernel)
