/-! ===== tables: methods, fields, classes, calls, by numbers; each with the place of its word in lw_tbl ===== -/
def xOwn : List String := [RJx4a65c, RX0, RX1, RX2, RX2, RX4, RX5, RX6, RX6, RJ9, RJxa1e45, RJxc12de, RJ7, RJ15, RJ8, RJ3, RL]
abbrev xMT : Type := MethodName × ByteArray × Nat × Option FieldType × Nat × Nat
/-- name, code, locals, what it returns, how many parameters, its file by number -/
def xM : List xMT := [(yX0_init, cX0_init, 1, none, 0, 1),
  (yX0_vineAt, cX0_vineAt, 2, some (.object "VineGarden$Vine"), 1, 1),
  (yX0_isPlanted, cX0_isPlanted, 3, some .boolean, 1, 1),
  (yX0_growTo, cX0_growTo, 4, none, 1, 1),
  (yX0_init, cX0_init, 1, none, 0, 1),
  (yX0_init, cX0_init, 1, none, 0, 1),
  (yX0_restart, cX0_restart, 3, none, 0, 1),
  (yX0_grow, cX0_grow, 4, none, 1, 1),
  (yX0_freeWay, cX0_freeWay, 8, some .int, 1, 1),
  (yX0_take, cX0_take, 5, none, 3, 1),
  (yX1_init, cX1_init, 1, none, 0, 2),
  (yX1_isOn, cX1_isOn, 2, some .boolean, 1, 2),
  (yX1_mark, cX1_mark, 3, some .boolean, 2, 2),
  (yX1_clear, cX1_clear, 2, none, 0, 2),
  (yX1_movesOn, cX1_movesOn, 5, some .int, 2, 2),
  (yX1_dayOfMove, cX1_dayOfMove, 4, some .int, 1, 2),
  (yX2_init, cX2_init, 1, none, 0, 3),
  (yX2_isMissing, cX2_isMissing, 1, some .boolean, 0, 3),
  (yX2_hasCell, cX2_hasCell, 2, some .boolean, 1, 3),
  (yX2_signOf, cX2_signOf, 2, some .int, 1, 3),
  (yX2_mark, cX2_mark, 3, none, 2, 3),
  (yX2_clear, cX2_clear, 3, none, 2, 3),
  (yX2_beside, cX2_beside, 4, some .int, 2, 3),
  (yX2_stepsOut, cX2_stepsOut, 8, some .int, 1, 3),
  (yX2_spread, cX2_spread, 8, some .long, 1, 3),
  (yX0_init, cX0_init, 1, none, 0, 1),
  (yX4_init, cX4_init, 1, none, 0, 5),
  (yX4_isNothing, cX4_isNothing, 1, some .boolean, 0, 5),
  (yX0_init, cX0_init, 1, none, 0, 1),
  (yX4_renew, cX4_renew, 3, none, 2, 5),
  (yX4_faultOfTaking, cX4_faultOfTaking, 2, some .int, 1, 5),
  (yX4_hasPlace, cX4_hasPlace, 2, some .boolean, 1, 5),
  (yX4_holds, cX4_holds, 3, some .boolean, 2, 5),
  (yX4_read, cX4_read, 2, some .int, 1, 5),
  (yX4_write, cX4_write, 3, none, 2, 5),
  (yX5_init, cX5_init, 4, none, 3, 6),
  (yX5_restart, cX5_restart, 1, none, 0, 6),
  (yX5_isGrowing, cX5_isGrowing, 1, some .boolean, 0, 6),
  (yX5_goOn, cX5_goOn, 3, none, 2, 6),
  (yX5_wayBack, cX5_wayBack, 1, some .int, 0, 6),
  (yX5_doubleBack, cX5_doubleBack, 3, none, 2, 6),
  (yX6_init, cX6_init, 2, none, 0, 7),
  (yX6_garden, cX6_garden, 8, some .int, 4, 7),
  (yX6_sign, cX6_sign, 2, some .int, 1, 7),
  (yX6_set, cX6_set, 4, some .int, 2, 7),
  (yX6_vine, cX6_vine, 5, some .int, 3, 7),
  (yX6_ofVine, cX6_ofVine, 4, some .int, 2, 7),
  (yX6_pull, cX6_pull, 4, some .int, 1, 7),
  (yX6_frost, cX6_frost, 3, some .int, 2, 7),
  (yX6_tip, cX6_tip, 4, some .int, 2, 7),
  (yX6_leaves, cX6_leaves, 4, some .long, 2, 7),
  (yX6_doubts, cX6_doubts, 4, some .int, 2, 7),
  (yX6_ends, cX6_ends, 4, some .int, 2, 7),
  (yX6_shortest, cX6_shortest, 3, some .int, 1, 7),
  (yX0_init, cX0_init, 1, none, 0, 1),
  (yX0_init, cX0_init, 1, none, 0, 1),
  (yX0_init, cX0_init, 1, none, 0, 1),
  (yX6_first, cX6_first, 5, some .int, 0, 7),
  (yX0_init, cX0_init, 1, none, 0, 1),
  (yX0_init, cX0_init, 1, none, 0, 1),
  (yX0_init, cX0_init, 1, none, 0, 1),
  (yX0_init, cX0_init, 1, none, 0, 1),
  (yX0_init, cX0_init, 1, none, 0, 1),
  (yX6_sheet, cX6_sheet, 5, some .int, 3, 7),
  (yX0_init, cX0_init, 1, none, 0, 1),
  (yX6_put, cX6_put, 5, some .int, 3, 7),
  (yX0_init, cX0_init, 1, none, 0, 1),
  (yX0_init, cX0_init, 1, none, 0, 1),
  (yX0_init, cX0_init, 1, none, 0, 1),
  (yX0_init, cX0_init, 1, none, 0, 1),
  (yX0_init, cX0_init, 1, none, 0, 1),
  (yX0_init, cX0_init, 1, none, 0, 1),
  (yX0_init, cX0_init, 1, none, 0, 1),
  (yX6_many, cX6_many, 2, some .int, 1, 7),
  (yX6_isBelow, cX6_isBelow, 2, some .boolean, 2, 7),
  (yX0_init, cX0_init, 1, none, 0, 1),
  (yX6_failed, cX6_failed, 2, some .int, 1, 7),
  (yX6_sheetAt, cX6_sheetAt, 2, some (.object "VineGarden$Sheet"), 1, 7),
  (yX6_codeAt, cX6_codeAt, 4, some .int, 4, 7),
  (yX6_signOfCode, cX6_signOfCode, 1, some .int, 1, 7),
  (yX6_firstWrongCode, cX6_firstWrongCode, 8, some .int, 3, 7),
  (yX6_layOut, cX6_layOut, 9, none, 2, 7),
  (yX0_init, cX0_init, 1, none, 0, 1),
  (yX0_init, cX0_init, 1, none, 0, 1),
  (yX0_init, cX0_init, 1, none, 0, 1),
  (yX0_init, cX0_init, 1, none, 0, 1),
  (yX0_init, cX0_init, 1, none, 0, 1),
  (yX0_init, cX0_init, 1, none, 0, 1),
  (yX0_init, cX0_init, 1, none, 0, 1),
  (yX0_init, cX0_init, 1, none, 0, 1),
  (yX0_init, cX0_init, 1, none, 0, 1),
  (yX0_init, cX0_init, 1, none, 0, 1),
  (yX0_init, cX0_init, 1, none, 0, 1),
  (yX0_init, cX0_init, 1, none, 0, 1),
  (yX0_init, cX0_init, 1, none, 0, 1),
  (yX0_init, cX0_init, 1, none, 0, 1),
  (yX0_init, cX0_init, 1, none, 0, 1),
  (yX0_init, cX0_init, 1, none, 0, 1),
  (yX0_init, cX0_init, 1, none, 0, 1),
  (yX0_init, cX0_init, 1, none, 0, 1),
  (yX0_init, cX0_init, 1, none, 0, 1),
  (yX0_init, cX0_init, 1, none, 0, 1),
  (yX0_init, cX0_init, 1, none, 0, 1),
  (yX0_init, cX0_init, 1, none, 0, 1),
  (yX0_init, cX0_init, 1, none, 0, 1),
  (yX0_init, cX0_init, 1, none, 0, 1),
  (yX0_init, cX0_init, 1, none, 0, 1),
  (yX0_init, cX0_init, 1, none, 0, 1),
  (yX0_init, cX0_init, 1, none, 0, 1),
  (yX0_init, cX0_init, 1, none, 0, 1),
  (yX0_init, cX0_init, 1, none, 0, 1),
  (yX0_init, cX0_init, 1, none, 0, 1),
  (yX0_init, cX0_init, 1, none, 0, 1),
  (yX0_init, cX0_init, 1, none, 0, 1),
  (yX0_init, cX0_init, 1, none, 0, 1),
  (yX0_init, cX0_init, 1, none, 0, 1),
  (yX0_init, cX0_init, 1, none, 0, 1),
  (yX0_init, cX0_init, 1, none, 0, 1),
  (yX0_init, cX0_init, 1, none, 0, 1),
  (yX0_init, cX0_init, 1, none, 0, 1),
  (yX0_init, cX0_init, 1, none, 0, 1),
  (yX0_init, cX0_init, 1, none, 0, 1),
  (yX0_init, cX0_init, 1, none, 0, 1),
  (yX0_init, cX0_init, 1, none, 0, 1),
  (yX0_init, cX0_init, 1, none, 0, 1),
  (yX0_init, cX0_init, 1, none, 0, 1),
  (yX0_init, cX0_init, 1, none, 0, 1),
  (yX0_init, cX0_init, 1, none, 0, 1),
  (yX0_init, cX0_init, 1, none, 0, 1),
  (yX0_init, cX0_init, 1, none, 0, 1),
  (yX0_init, cX0_init, 1, none, 0, 1),
  (yX0_init, cX0_init, 1, none, 0, 1),
  (yX0_init, cX0_init, 1, none, 0, 1),
  (yX0_init, cX0_init, 1, none, 0, 1),
  (yX0_init, cX0_init, 1, none, 0, 1),
  (yX0_init, cX0_init, 1, none, 0, 1),
  (yX0_init, cX0_init, 1, none, 0, 1),
  (yX0_init, cX0_init, 1, none, 0, 1),
  (yX0_init, cX0_init, 1, none, 0, 1),
  (yX0_init, cX0_init, 1, none, 0, 1),
  (yX0_init, cX0_init, 1, none, 0, 1),
  (yX0_init, cX0_init, 1, none, 0, 1),
  (yX0_init, cX0_init, 1, none, 0, 1),
  (yX0_init, cX0_init, 1, none, 0, 1),
  (yX0_init, cX0_init, 1, none, 0, 1),
  (yX0_init, cX0_init, 1, none, 0, 1),
  (yX0_init, cX0_init, 1, none, 0, 1),
  (yX0_init, cX0_init, 1, none, 0, 1),
  (yX0_init, cX0_init, 1, none, 0, 1),
  (yX0_init, cX0_init, 1, none, 0, 1),
  (yX0_init, cX0_init, 1, none, 0, 1),
  (yX0_init, cX0_init, 1, none, 0, 1),
  (yX0_init, cX0_init, 1, none, 0, 1),
  (yJ9_max_7cf53, cJ9_max_7cf53, 2, some .int, 2, 9),
  (yJ9_min_7cf53, cJ9_min_7cf53, 2, some .int, 2, 9),
  (yJxa1e45_init_da8c8, cJxa1e45_init_da8c8, 1, none, 0, 10),
  (yJxc12de_init_da8c8, cJxc12de_init_da8c8, 1, none, 0, 11),
  (yJx4a65c_init_da8c8, cJx4a65c_init_da8c8, 1, none, 0, 0),
  (yJx4a65c_grow_92f84, cJx4a65c_grow_92f84, 4, some (.array (.object "java/lang/Object")), 1, 0),
  (yJx4a65c_grow_d5877, cJx4a65c_grow_d5877, 1, some (.array (.object "java/lang/Object")), 0, 0),
  (yJx4a65c_size_8abf5, cJx4a65c_size_8abf5, 1, some .int, 0, 0),
  (yJx4a65c_elementData_915e3, cJx4a65c_elementData_915e3, 2, some (.object "java/lang/Object"), 1, 0),
  (yJx4a65c_get_915e3, cJx4a65c_get_915e3, 2, some (.object "java/lang/Object"), 1, 0),
  (yJx4a65c_add_72be8, cJx4a65c_add_72be8, 4, none, 3, 0),
  (yJx4a65c_add_9ea2d, cJx4a65c_add_9ea2d, 2, some .boolean, 1, 0),
  (yJx4a65c_remove_915e3, cJx4a65c_remove_915e3, 4, some (.object "java/lang/Object"), 1, 0),
  (yJx4a65c_fastRemove_b59b0, cJx4a65c_fastRemove_b59b0, 4, none, 2, 0),
  (yJx4a65c_clear_da8c8, cJx4a65c_clear_da8c8, 4, none, 0, 0),
  (yJ7_fill_53178, cJ7_fill_53178, 4, none, 2, 12),
  (yJ7_copyOf_1904c, cJ7_copyOf_1904c, 2, some (.array (.object "java/lang/Object")), 2, 12),
  (yJ7_copyOf_6403c, cJ7_copyOf_6403c, 4, some (.array (.object "java/lang/Object")), 3, 12),
  (yJ15_checkIndex_7cf53, cJ15_checkIndex_7cf53, 2, some .int, 2, 13),
  (yJ8_newLength_cabcc, cJ8_newLength_cabcc, 4, some .int, 3, 14),
  (yJ8_hugeLength_7cf53, cJ8_hugeLength_7cf53, 3, some .int, 2, 14),
  (yJ3_checkIndex_8e157, cJ3_checkIndex_8e157, 3, some .int, 3, 15),
  (yL_cell, cL_cell, 2, some .int, 2, 16),
  (yL_some, cL_some, 2, some .int, 2, 16),
  (yL_put, cL_put, 9, some .int, 5, 16),
  (yL_isPlanted, cL_isPlanted, 3, some .boolean, 2, 16),
  (yL_change, cL_change, 16, some .boolean, 6, 16),
  (yL_to, cL_to, 5, some .int, 3, 16),
  (yL_go, cL_go, 15, none, 6, 16),
  (yL_law, cL_law, 19, some .boolean, 1, 16)]
/-- what a virtual or special call of a method stands on: places of .code, .instanceMethod or .static, .selects, .initialized -/
def xMw : List (Nat × Nat × Nat × Nat) := [(38, 37, 0, 12), (373, 371, 372, 12), (235, 233, 234, 12), (408, 406, 407, 12), (38, 37, 0, 12), (38, 37, 0, 12), (420, 418, 419, 12), (428, 426, 427, 12), (436, 435, 7, 12), (445, 444, 8, 12), (63, 62, 0, 14), (416, 414, 415, 14), (400, 398, 399, 14), (211, 209, 210, 14), (412, 410, 411, 14), (474, 472, 473, 14), (44, 43, 0, 13), (396, 394, 395, 13), (223, 221, 222, 13), (227, 225, 226, 13), (215, 213, 214, 13), (200, 198, 199, 13), (440, 438, 439, 13), (482, 480, 481, 13), (486, 485, 9, 13), (38, 37, 0, 12), (119, 118, 0, 18), (167, 165, 166, 18), (38, 37, 0, 12), (515, 513, 514, 18), (163, 161, 162, 18), (189, 187, 188, 18), (171, 169, 170, 18), (185, 183, 184, 18), (527, 525, 526, 18), (264, 263, 0, 23), (424, 422, 423, 23), (432, 430, 431, 23), (449, 447, 448, 23), (453, 451, 452, 23), (457, 455, 456, 23), (30, 29, 0, 11), (152, 150, 151, 11), (219, 217, 218, 11), (231, 229, 230, 11), (258, 256, 257, 11), (369, 367, 368, 11), (377, 375, 376, 11), (392, 390, 391, 11), (404, 402, 403, 11), (461, 459, 460, 11), (466, 464, 465, 11), (470, 468, 469, 11), (478, 476, 477, 11), (38, 37, 0, 12), (38, 37, 0, 12), (38, 37, 0, 12), (492, 490, 491, 11), (38, 37, 0, 12), (38, 37, 0, 12), (38, 37, 0, 12), (38, 37, 0, 12), (38, 37, 0, 12), (511, 509, 510, 11), (38, 37, 0, 12), (521, 519, 520, 11), (38, 37, 0, 12), (38, 37, 0, 12), (38, 37, 0, 12), (38, 37, 0, 12), (38, 37, 0, 12), (38, 37, 0, 12), (38, 37, 0, 12), (496, 494, 495, 11), (159, 158, 0, 11), (38, 37, 0, 12), (175, 174, 1, 11), (156, 155, 0, 11), (181, 180, 0, 11), (192, 191, 0, 11), (178, 177, 0, 11), (196, 195, 2, 11), (38, 37, 0, 12), (38, 37, 0, 12), (38, 37, 0, 12), (38, 37, 0, 12), (38, 37, 0, 12), (38, 37, 0, 12), (38, 37, 0, 12), (38, 37, 0, 12), (38, 37, 0, 12), (38, 37, 0, 12), (38, 37, 0, 12), (38, 37, 0, 12), (38, 37, 0, 12), (38, 37, 0, 12), (38, 37, 0, 12), (38, 37, 0, 12), (38, 37, 0, 12), (38, 37, 0, 12), (38, 37, 0, 12), (38, 37, 0, 12), (38, 37, 0, 12), (38, 37, 0, 12), (38, 37, 0, 12), (38, 37, 0, 12), (38, 37, 0, 12), (38, 37, 0, 12), (38, 37, 0, 12), (38, 37, 0, 12), (38, 37, 0, 12), (38, 37, 0, 12), (38, 37, 0, 12), (38, 37, 0, 12), (38, 37, 0, 12), (38, 37, 0, 12), (38, 37, 0, 12), (38, 37, 0, 12), (38, 37, 0, 12), (38, 37, 0, 12), (38, 37, 0, 12), (38, 37, 0, 12), (38, 37, 0, 12), (38, 37, 0, 12), (38, 37, 0, 12), (38, 37, 0, 12), (38, 37, 0, 12), (38, 37, 0, 12), (38, 37, 0, 12), (38, 37, 0, 12), (38, 37, 0, 12), (38, 37, 0, 12), (38, 37, 0, 12), (38, 37, 0, 12), (38, 37, 0, 12), (38, 37, 0, 12), (38, 37, 0, 12), (38, 37, 0, 12), (38, 37, 0, 12), (38, 37, 0, 12), (38, 37, 0, 12), (38, 37, 0, 12), (38, 37, 0, 12), (38, 37, 0, 12), (38, 37, 0, 12), (38, 37, 0, 12), (38, 37, 0, 12), (38, 37, 0, 12), (38, 37, 0, 12), (38, 37, 0, 12), (38, 37, 0, 12), (38, 37, 0, 12), (38, 37, 0, 12), (333, 332, 0, 19), (360, 359, 0, 19), (80, 79, 0, 15), (77, 76, 0, 16), (74, 73, 0, 17), (327, 326, 5, 17), (323, 322, 4, 17), (239, 237, 238, 17), (253, 251, 252, 17), (243, 241, 242, 17), (319, 318, 3, 17), (315, 313, 314, 17), (381, 379, 380, 17), (385, 384, 6, 17), (207, 205, 206, 17), (203, 202, 0, 20), (340, 339, 0, 20), (354, 353, 0, 20), (246, 245, 0, 21), (330, 329, 0, 24), (337, 336, 0, 24), (249, 248, 0, 22), (499, 498, 0, 10), (506, 505, 0, 10), (503, 502, 0, 10), (533, 532, 0, 10), (530, 529, 0, 10), (537, 536, 0, 10), (540, 539, 0, 10), (0, 0, 0, 10)]
/-- own file, place in its pool, file and slot, kind (0 plain, 1 nest mate, 2 by a subclass), the word -/
def xF : List (Nat × Nat × Nat × Nat × Nat × Nat) := [(3, 9, 3, 0, 0, 46), (3, 19, 3, 1, 0, 47), (7, 246, 3, 1, 1, 48), (3, 15, 3, 2, 0, 49), (7, 69, 3, 2, 1, 50), (2, 9, 2, 0, 0, 65), (0, 9, 0, 1, 0, 84), (0, 48, 0, 2, 0, 85), (11, 7, 0, 0, 0, 86), (0, 63, 0, 0, 2, 87), (1, 12, 1, 0, 0, 96), (7, 65, 1, 0, 1, 97), (1, 21, 1, 1, 0, 98), (7, 133, 1, 1, 1, 99), (1, 28, 1, 2, 0, 100), (7, 88, 1, 2, 1, 101), (1, 71, 1, 3, 0, 102), (5, 9, 5, 0, 0, 121), (5, 15, 5, 1, 0, 122), (5, 19, 5, 2, 0, 123), (7, 14, 7, 0, 0, 131), (7, 18, 7, 1, 0, 132), (7, 24, 7, 2, 0, 133), (7, 30, 7, 3, 0, 134), (7, 35, 7, 5, 0, 135), (6, 15, 6, 0, 0, 266), (1, 42, 6, 0, 1, 267), (7, 111, 6, 0, 1, 268), (6, 9, 6, 1, 0, 269), (7, 108, 6, 1, 1, 270), (1, 84, 6, 1, 1, 271), (6, 18, 6, 2, 0, 272), (7, 114, 6, 2, 1, 273), (6, 21, 6, 3, 0, 274), (7, 146, 6, 3, 1, 275), (1, 90, 6, 3, 1, 276), (6, 24, 6, 4, 0, 277), (1, 87, 6, 4, 1, 278), (6, 27, 6, 5, 0, 279), (7, 155, 6, 5, 1, 280), (6, 30, 6, 6, 0, 281), (1, 61, 6, 6, 1, 282), (7, 158, 6, 6, 1, 283), (6, 33, 6, 7, 0, 284), (1, 103, 6, 7, 1, 285), (7, 161, 6, 7, 1, 286), (6, 36, 6, 8, 0, 287), (1, 76, 6, 8, 1, 288), (7, 151, 6, 8, 1, 289), (6, 40, 6, 9, 0, 290)]
/-- own file, place, kind (0 virtual, 1 <init>, 2 static, 3 a nest mate's <init>, 4 Object.<init>, 5 arraycopy), method, parameters, the word -/
def xC0 : List (Nat × Nat × Nat × Nat × Nat × Nat) := [(16, 48, 1, 41, 0, 28), (7, 5, 4, 0, 0, 31), (7, 13, 3, 0, 0, 36), (1, 3, 4, 0, 0, 39), (1, 11, 3, 16, 0, 42), (3, 3, 4, 0, 0, 45), (1, 20, 3, 10, 0, 61), (2, 3, 4, 0, 0, 64), (1, 27, 1, 157, 0, 72), (0, 1, 1, 156, 0, 75), (11, 1, 1, 155, 0, 78), (10, 1, 4, 0, 0, 81), (7, 23, 1, 157, 0, 113), (7, 34, 3, 26, 0, 117), (5, 3, 4, 0, 0, 120), (16, 52, 0, 42, 4, 149), (7, 39, 0, 77, 1, 153), (7, 43, 2, 74, 2, 157), (7, 47, 0, 30, 1, 160), (5, 34, 0, 27, 0, 164), (7, 51, 0, 32, 2, 168), (7, 54, 0, 76, 1, 172), (7, 57, 2, 80, 3, 176), (7, 249, 2, 78, 4, 179), (7, 212, 0, 33, 1, 182), (5, 38, 0, 31, 1, 186), (7, 253, 2, 79, 1, 190), (7, 61, 0, 81, 2, 193), (7, 184, 0, 21, 2, 197), (3, 22, 2, 168, 2, 201), (7, 181, 0, 167, 0, 204), (7, 256, 0, 13, 0, 208), (7, 84, 0, 20, 2, 212), (16, 60, 0, 43, 1, 216), (7, 74, 0, 18, 1, 220), (7, 78, 0, 19, 1, 224), (16, 35, 0, 44, 2, 228), (7, 81, 0, 2, 1, 232), (1, 32, 0, 160, 0, 236), (1, 36, 0, 162, 1, 240), (0, 118, 2, 171, 2, 244), (13, 105, 2, 174, 3, 247), (0, 123, 0, 161, 1, 250), (16, 32, 0, 45, 3, 255), (7, 91, 0, 160, 0, 259), (7, 97, 1, 35, 3, 262), (6, 3, 4, 0, 0, 265), (7, 100, 0, 164, 1, 312), (0, 131, 0, 163, 3, 316), (0, 129, 0, 159, 0, 320), (0, 69, 0, 158, 1, 324), (0, 73, 2, 172, 3, 328), (14, 194, 6, 153, 2, 331), (14, 201, 2, 173, 2, 335), (0, 66, 2, 169, 2, 338), (12, 300, 2, 170, 3, 352), (12, 304, 7, 154, 2, 358), (12, 150, 5, 0, 5, 361), (0, 79, 6, 153, 2, 364), (16, 81, 0, 46, 2, 366), (7, 104, 0, 1, 1, 370), (16, 96, 0, 47, 1, 374), (7, 117, 0, 165, 1, 378), (0, 144, 0, 166, 2, 382), (0, 112, 5, 0, 5, 386), (7, 121, 0, 162, 1, 387), (16, 38, 0, 48, 2, 389), (7, 129, 0, 17, 0, 393), (7, 137, 0, 12, 2, 397), (16, 68, 0, 49, 2, 401), (7, 142, 0, 3, 1, 405), (1, 46, 0, 14, 2, 409), (2, 15, 0, 11, 1, 413), (1, 50, 0, 6, 0, 417), (1, 75, 0, 36, 0, 421), (1, 53, 0, 7, 1, 425), (1, 57, 0, 37, 0, 429), (1, 77, 0, 8, 1, 433), (1, 93, 0, 22, 2, 437), (1, 96, 0, 19, 1, 441), (1, 80, 0, 9, 3, 442), (1, 99, 0, 38, 2, 446), (1, 106, 0, 39, 0, 450), (1, 109, 0, 40, 2, 454), (16, 71, 0, 50, 2, 458), (16, 75, 0, 51, 2, 463), (16, 78, 0, 52, 2, 467), (7, 164, 0, 15, 1, 471), (16, 84, 0, 53, 1, 475), (7, 167, 0, 23, 1, 479), (3, 28, 0, 24, 1, 483), (3, 36, 0, 22, 2, 487), (3, 32, 0, 19, 1, 488), (16, 87, 0, 57, 0, 489), (16, 91, 0, 73, 1, 493), (16, 9, 2, 175, 2, 497), (16, 49, 2, 177, 5, 501), (16, 15, 2, 176, 2, 504), (16, 19, 0, 63, 3, 508), (7, 197, 0, 29, 2, 512), (5, 22, 7, 154, 2, 516), (5, 28, 2, 168, 2, 517), (16, 25, 0, 65, 3, 518), (7, 200, 0, 27, 0, 522), (7, 206, 0, 31, 1, 523), (7, 209, 0, 34, 2, 524), (16, 56, 2, 179, 6, 528), (16, 28, 2, 178, 2, 531), (16, 44, 2, 180, 3, 535), (16, 64, 2, 181, 6, 538)]
/-- own file, place, the file (99: not one of ours), the word -/
def xK : List (Nat × Nat × Nat × Nat) := [(16, 20, 7, 26), (7, 11, 1, 34), (1, 9, 3, 40), (1, 18, 2, 59), (1, 25, 0, 70), (7, 21, 0, 112), (7, 28, 5, 114), (1, 40, 6, 254), (7, 95, 6, 260), (12, 110, 99, 355), (12, 2, 99, 357), (0, 7, 99, 365), (7, 124, 99, 388)]
def xI : List (Nat × Nat × Int32 × Nat) := [(14, 200, 2147483639, 334), (16, 7, 747796405, 500), (16, 8, 2147483647, 507)]
def xJ : List (Nat × Nat × Int64 × Nat) := [(7, 149, -9223372036854775808, 462), (16, 42, -1, 534), (16, 94, -9223372036854775808, 541)]
abbrev vwCl : List vw_C := [(RJx4a65c, TJx4a65c, 3), (RX0, TX0, 4), (RX1, TX1, 1), (RX2, TX2, 3), (RX2, TX2, 3), (RX4, TX4, 3), (RX5, TX5, 10), (RX6, TX6, 6), (RX6, TX6, 6)]
/-- the types of the fields, file by file; which are final -/
def xT : List (List FieldType) := [[.int, (.array (.object "java/lang/Object")), .int], [(.object "VineGarden$Plan"), (.object "VineGarden$Frosts"), (.object "java/util/ArrayList"), .long], [(.array .boolean)], [(.array .int), .int, .int], [(.array .int), .int, .int], [(.array .int), .int, .int], [.int, .int, .int, .int, .int, .int, .int, .int, .long, .long], [(.object "VineGarden$Bed"), (.object "VineGarden$Bed"), (.object "java/util/ArrayList"), (.array (.object "VineGarden$Sheet")), .int, .int], [(.object "VineGarden$Bed"), (.object "VineGarden$Bed"), (.object "java/util/ArrayList"), (.array (.object "VineGarden$Sheet")), .int, .int]]
def xFin : List (List Bool) := [[false, false, false], [true, true, true, false], [true], [true, false, false], [true, false, false], [true, false, false], [true, false, false, false, false, false, false, false, false, false], [true, true, true, true, false, false], [true, true, true, true, false, false]]
def xDef : List (List Value) := [[.int 0, .null, .int 0], [.null, .null, .null, .long 0], [.null], [.null, .int 0, .int 0], [.null, .int 0, .int 0], [.null, .int 0, .int 0], [.int 0, .int 0, .int 0, .int 0, .int 0, .int 0, .int 0, .int 0, .long 0, .long 0], [.null, .null, .null, .null, .int 0, .int 0], [.null, .null, .null, .null, .int 0, .int 0]]
/-- of a file whose objects are made: places of .instantiable, .initialized -/
def xNw : List (Nat × Nat) := [(71, 17), (35, 12), (60, 14), (41, 13), (41, 13), (116, 18), (261, 23), (27, 11), (27, 11)]
abbrev xLaw : Nat := 182
def xG : List Cond := lw_tbl.filter goodWord
def xok (n : Nat) (w : Cond) : Bool := decide (lw_tbl[n]? = some w) && goodWord w
theorem xok_in {n : Nat} {w : Cond} (h : xok n w = true) : w ∈ xG := by
  simp only [xok, Bool.and_eq_true, decide_eq_true_eq] at h
  exact List.mem_filter.mpr ⟨List.mem_of_getElem? h.1, h.2⟩
theorem xok_tbl {n : Nat} {w : Cond} (h : xok n w = true) : w ∈ lw_tbl := (List.mem_filter.mp (xok_in h)).1
def xownS (o : Nat) : String := (xOwn[o]?).getD ""
def xMok (i : Nat) : Bool := match xM[i]?, xMw[i]? with
  | some (y, c, ml, rt, np, o), some (w, wi, ws, wn) => decide (xOwn[o]? = some y.cls) && decide (y.cls ≠ "java/lang/invoke/MethodHandle") && decide (y.cls ≠ "java/lang/invoke/VarHandle") && decide ((parseMethodDescriptor y.desc).map (fun d => d.parameters.length) = some np) && xok wn (.initialized y.cls) && decide (ml ≤ 19)
  | _, _ => false
set_option maxRecDepth 100000 in
theorem xM_ok : (List.range xLaw).all xMok = true := by decide +kernel
set_option maxRecDepth 100000 in
theorem xMc_ok : (xMw.take xLaw).map (fun q => lw_tbl[q.1]?) = (xM.take xLaw).map (fun q => some (Cond.code q.1 q.2.1 q.2.2.1 q.2.2.2.1)) := by rfl
def xFok (q : Nat × Nat × Nat × Nat × Nat × Nat) : Bool := match q with
  | (o, idx, ci, k, kd, w) => match vwCl[ci]? with
    | some (_, T, N) => decide (k < N) && (match kd with
      | 0 => xok w (.fieldLink (xownS o) idx (T k).1 (T k).2.1 (T k).2.2.1)
      | 1 => decide (lw_tbl[w]? = some (.fieldLinkNest (xownS o) idx (T k).1 (T k).2.1 (T k).2.2.1 "VineGarden"))
      | _ => xok w (.fieldLink (xownS o) idx (xownS o) (T k).2.1 (T k).2.2.1) && xok 88 (.sameField (xownS o) (T k).1 (T k).2.1 (T k).2.2.1))
    | none => false
set_option maxRecDepth 100000 in
theorem xF_ok : xF.all xFok = true := by decide +kernel
def xCok (q : Nat × Nat × Nat × Nat × Nat × Nat) : Bool := match q with
  | (o, idx, kd, j, np, w) => match kd with
    | 4 => xok w (.methodLink (xownS o) idx objectInit)
    | 5 => xok w (.methodLink (xownS o) idx arraycopyName)
    | 6 => xok w (.methodLink (xownS o) idx Lib.Math.max.name)
    | 7 => xok w (.methodLink (xownS o) idx Lib.Math.min.name)
    | kd => match xM[j]?, xMw[j]? with
      | some (y, _, _, rt, np', _), some (_, wi, ws, _) => decide (np = np') && decide (j < xLaw) && plainName y.cls && (match kd with
        | 0 => xok w (.methodLink (xownS o) idx y) && xok wi (.instanceMethod y) && xok ws (.selects y.cls y y)
        | 1 => xok w (.methodLink (xownS o) idx y) && xok wi (.instanceMethod y) && decide (y.name = "<init>") && decide (rt = none)
        | 2 => xok w (.methodLink (xownS o) idx y) && xok wi (.static y)
        | 3 => decide (lw_tbl[w]? = some (.methodLinkNest (xownS o) idx y "VineGarden")) && xok wi (.instanceMethod y) && decide (y.name = "<init>") && decide (rt = none)
        | _ => false)
      | _, _ => false
set_option maxRecDepth 100000 in
theorem xC_ok : xC0.all xCok = true := by decide +kernel
def xKok (q : Nat × Nat × Nat × Nat) : Bool := match q with
  | (o, idx, ci, w) => match vwCl[ci]?, xNw[ci]? with
    | some (C, _, N), some (w1, w2) => xok w (.classLink (xownS o) idx C) && (w1 == 0 || (xok w1 (.instantiable C N) && xok w2 (.initialized C)))
    | _, _ => ci == 99
set_option maxRecDepth 100000 in
theorem xK_ok : xK.all xKok = true := by decide +kernel
set_option maxRecDepth 100000 in
theorem xI_ok : (xI.all fun q => xok q.2.2.2 (.constant (xownS q.1) q.2.1 q.2.2.1)) = true := by decide +kernel
set_option maxRecDepth 100000 in
theorem xJ_ok : (xJ.all fun q => xok q.2.2.2 (.constantLong (xownS q.1) q.2.1 q.2.2.1)) = true := by decide +kernel
/-- each file's field words are among the tables' words; names and types of its fields -/
def xUok (q : vw_C) : Bool := (u_ws q.1 q.2.1 q.2.2).all (fun w => goodWord w && decide (w ∈ lw_tbl))
set_option maxRecDepth 100000 in
theorem xU_ok : vwCl.all xUok = true := by decide +kernel
def xTok (ci : Nat) : Bool := match vwCl[ci]?, xT[ci]?, xFin[ci]?, xDef[ci]? with
  | some (_, T, N), some ts, some fs, some ds => decide (ts.length = N) && decide (fs.length = N) && decide (ds.length = N) && (List.range N).all (fun k => decide (parseFieldDescriptor (T k).2.2.1 = ts[k]?) && decide (fs[k]? = some (T k).2.2.2) && decide ((ts[k]?).map defaultValue = ds[k]?) && (List.range N).all (fun j => decide (k = j) || decide ((T k).2.1 ≠ (T j).2.1)))
  | _, _, _, _ => false
set_option maxRecDepth 100000 in
theorem xT_ok : (List.range vwCl.length).all xTok = true := by decide +kernel
