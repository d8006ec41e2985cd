/-! ===== tables: methods, fields, classes, calls, by numbers; each with the place of its word in lw_tbl ===== -/
def xOwn : List String := [RJx4a65c, RX0, RX1, RX2, RX3, RX4, RX5, RX6, RX7, RJ6, RJ9, RJxa1e45, RJxc12de, RJ7, RJ15, RJ8, RJ3, RL]
abbrev xMT : Type := MethodName × ByteArray × Nat × Option FieldType × Nat × Nat
/-- name, code, locals, what it returns, how many parameters, its file by number -/
def xM : List xMT := [(yX0_init, cX0_init, 1, none, 0, 1),
  (yX0_vineAt, cX0_vineAt, 2, some (.object "VineGarden$Vine"), 1, 1),
  (yX0_isPlanted, cX0_isPlanted, 3, some .boolean, 1, 1),
  (yX0_growTo, cX0_growTo, 4, none, 1, 1),
  (yX0_outMove, cX0_outMove, 3, some .int, 1, 1),
  (yX0_outDay, cX0_outDay, 2, some .int, 1, 1),
  (yX0_restart, cX0_restart, 3, none, 0, 1),
  (yX0_grow, cX0_grow, 4, none, 1, 1),
  (yX0_freeWay, cX0_freeWay, 8, some .int, 1, 1),
  (yX0_take, cX0_take, 5, none, 3, 1),
  (yX1_init, cX1_init, 1, none, 0, 2),
  (yX1_isOn, cX1_isOn, 2, some .boolean, 1, 2),
  (yX1_mark, cX1_mark, 3, some .boolean, 2, 2),
  (yX1_clear, cX1_clear, 2, none, 0, 2),
  (yX1_movesOn, cX1_movesOn, 5, some .int, 2, 2),
  (yX1_dayOfMove, cX1_dayOfMove, 4, some .int, 1, 2),
  (yX2_init, cX2_init, 1, none, 0, 3),
  (yX2_isMissing, cX2_isMissing, 1, some .boolean, 0, 3),
  (yX2_hasCell, cX2_hasCell, 2, some .boolean, 1, 3),
  (yX2_signOf, cX2_signOf, 2, some .int, 1, 3),
  (yX2_mark, cX2_mark, 3, none, 2, 3),
  (yX2_clear, cX2_clear, 3, none, 2, 3),
  (yX2_beside, cX2_beside, 4, some .int, 2, 3),
  (yX2_stepsOut, cX2_stepsOut, 8, some .int, 1, 3),
  (yX2_spread, cX2_spread, 8, some .long, 1, 3),
  (yX3_init, cX3_init, 4, none, 3, 4),
  (yX4_init, cX4_init, 1, none, 0, 5),
  (yX4_isNothing, cX4_isNothing, 1, some .boolean, 0, 5),
  (yX4_drop, cX4_drop, 1, none, 0, 5),
  (yX4_renew, cX4_renew, 3, none, 2, 5),
  (yX4_faultOfTaking, cX4_faultOfTaking, 2, some .int, 1, 5),
  (yX4_hasPlace, cX4_hasPlace, 2, some .boolean, 1, 5),
  (yX4_holds, cX4_holds, 3, some .boolean, 2, 5),
  (yX4_read, cX4_read, 2, some .int, 1, 5),
  (yX4_write, cX4_write, 3, none, 2, 5),
  (yX5_init, cX5_init, 4, none, 3, 6),
  (yX5_restart, cX5_restart, 1, none, 0, 6),
  (yX5_isGrowing, cX5_isGrowing, 1, some .boolean, 0, 6),
  (yX5_goOn, cX5_goOn, 3, none, 2, 6),
  (yX5_wayBack, cX5_wayBack, 1, some .int, 0, 6),
  (yX5_doubleBack, cX5_doubleBack, 3, none, 2, 6),
  (yX6_init, cX6_init, 2, none, 0, 7),
  (yX6_garden, cX6_garden, 8, some .int, 4, 7),
  (yX6_sign, cX6_sign, 2, some .int, 1, 7),
  (yX6_set, cX6_set, 4, some .int, 2, 7),
  (yX6_vine, cX6_vine, 5, some .int, 3, 7),
  (yX6_ofVine, cX6_ofVine, 4, some .int, 2, 7),
  (yX6_pull, cX6_pull, 4, some .int, 1, 7),
  (yX6_frost, cX6_frost, 3, some .int, 2, 7),
  (yX6_tip, cX6_tip, 4, some .int, 2, 7),
  (yX6_leaves, cX6_leaves, 4, some .long, 2, 7),
  (yX6_doubts, cX6_doubts, 4, some .int, 2, 7),
  (yX6_ends, cX6_ends, 4, some .int, 2, 7),
  (yX6_shortest, cX6_shortest, 3, some .int, 1, 7),
  (yX6_law, cX6_law, 9, some .int, 2, 7),
  (yX6_prop, cX6_prop, 3, some .int, 2, 7),
  (yX6_closed, cX6_closed, 3, some .int, 2, 7),
  (yX6_first, cX6_first, 5, some .int, 0, 7),
  (yX6_mazes, cX6_mazes, 7, some .int, 2, 7),
  (yX6_odds, cX6_odds, 9, some .long, 4, 7),
  (yX6_reading, cX6_reading, 5, some .int, 3, 7),
  (yX6_back, cX6_back, 4, some .int, 1, 7),
  (yX6_fits, cX6_fits, 8, some .int, 1, 7),
  (yX6_sheet, cX6_sheet, 5, some .int, 3, 7),
  (yX6_lose, cX6_lose, 4, some .int, 1, 7),
  (yX6_put, cX6_put, 5, some .int, 3, 7),
  (yX6_cell, cX6_cell, 5, some .long, 3, 7),
  (yX6_copy, cX6_copy, 8, some .int, 5, 7),
  (yX6_tell, cX6_tell, 3, some .int, 1, 7),
  (yX6_tie, cX6_tie, 3, some .int, 1, 7),
  (yX6_as, cX6_as, 4, some .int, 2, 7),
  (yX6_trace, cX6_trace, 1, some .int, 0, 7),
  (yX6_fault, cX6_fault, 1, some .int, 0, 7),
  (yX6_many, cX6_many, 2, some .int, 1, 7),
  (yX6_isBelow, cX6_isBelow, 2, some .boolean, 2, 7),
  (yX6_isEarlier, cX6_isEarlier, 2, some .boolean, 2, 7),
  (yX6_failed, cX6_failed, 2, some .int, 1, 7),
  (yX6_sheetAt, cX6_sheetAt, 2, some (.object "VineGarden$Sheet"), 1, 7),
  (yX6_codeAt, cX6_codeAt, 4, some .int, 4, 7),
  (yX6_signOfCode, cX6_signOfCode, 1, some .int, 1, 7),
  (yX6_firstWrongCode, cX6_firstWrongCode, 8, some .int, 3, 7),
  (yX6_layOut, cX6_layOut, 9, none, 2, 7),
  (yX6_bestChange, cX6_bestChange, 11, some .int, 3, 7),
  (yX6_rowsByWhichOut, cX6_rowsByWhichOut, 9, some .int, 3, 7),
  (yX6_isAsRead, cX6_isAsRead, 7, some .boolean, 2, 7),
  (yX6_leave, cX6_leave, 2, none, 1, 7),
  (yX6_tellVine, cX6_tellVine, 2, some .int, 1, 7),
  (yX6_tellClimber, cX6_tellClimber, 2, some .int, 1, 7),
  (yX6_tellRambler, cX6_tellRambler, 3, some .int, 1, 7),
  (yX6_tieLent, cX6_tieLent, 2, some .int, 1, 7),
  (yX6_tieRambler, cX6_tieRambler, 1, some .int, 0, 7),
  (yX7_init, cX7_init, 1, none, 0, 8),
  (yX7_fails, cX7_fails, 2, some .int, 1, 8),
  (yX7_lost, cX7_lost, 2, some .long, 1, 8),
  (yX7_within, cX7_within, 3, some .boolean, 3, 8),
  (yX7_isSheet, cX7_isSheet, 1, some .boolean, 1, 8),
  (yX7_isSort, cX7_isSort, 1, some .boolean, 1, 8),
  (yX7_against, cX7_against, 5, some .int, 4, 8),
  (yX7_all, cX7_all, 1, some .int, 0, 8),
  (yX7_isCell, cX7_isCell, 2, some .boolean, 1, 8),
  (yX7_isVine, cX7_isVine, 2, some .boolean, 1, 8),
  (yX7_isDay, cX7_isDay, 1, some .boolean, 1, 8),
  (yX7_digit, cX7_digit, 4, some .int, 3, 8),
  (yX7_garden, cX7_garden, 8, some .int, 4, 8),
  (yX7_signOf, cX7_signOf, 1, some .int, 1, 8),
  (yX7_readGarden, cX7_readGarden, 5, some .boolean, 1, 8),
  (yX7_sign, cX7_sign, 2, some .int, 1, 8),
  (yX7_isPlanted, cX7_isPlanted, 3, some .boolean, 1, 8),
  (yX7_set, cX7_set, 4, some .int, 2, 8),
  (yX7_vine, cX7_vine, 4, some .int, 3, 8),
  (yX7_ofVine, cX7_ofVine, 3, some .int, 2, 8),
  (yX7_pull, cX7_pull, 4, some .int, 1, 8),
  (yX7_frost, cX7_frost, 4, some .int, 2, 8),
  (yX7_beside, cX7_beside, 5, some .int, 2, 8),
  (yX7_isFree, cX7_isFree, 3, some .boolean, 1, 8),
  (yX7_feels, cX7_feels, 9, some .int, 4, 8),
  (yX7_goesOn, cX7_goesOn, 4, some .int, 1, 8),
  (yX7_doubleBack, cX7_doubleBack, 6, none, 2, 8),
  (yX7_grow, cX7_grow, 5, none, 2, 8),
  (yX7_goTo, cX7_goTo, 4, none, 1, 8),
  (yX7_tip, cX7_tip, 3, some .int, 2, 8),
  (yX7_leaves, cX7_leaves, 3, some .long, 2, 8),
  (yX7_doubts, cX7_doubts, 3, some .int, 2, 8),
  (yX7_outDay, cX7_outDay, 2, some .int, 1, 8),
  (yX7_ends, cX7_ends, 3, some .int, 2, 8),
  (yX7_shortest, cX7_shortest, 6, some .int, 1, 8),
  (yX7_isEarlier, cX7_isEarlier, 2, some .boolean, 2, 8),
  (yX7_law, cX7_law, 8, some .int, 2, 8),
  (yX7_changed, cX7_changed, 10, some .int, 3, 8),
  (yX7_prop, cX7_prop, 3, some .int, 2, 8),
  (yX7_closed, cX7_closed, 3, some .int, 2, 8),
  (yX7_first, cX7_first, 4, some .int, 0, 8),
  (yX7_mazes, cX7_mazes, 11, some .int, 2, 8),
  (yX7_countMazes, cX7_countMazes, 5, some .int, 1, 8),
  (yX7_inLeastTerms, cX7_inLeastTerms, 11, some .long, 3, 8),
  (yX7_odds, cX7_odds, 8, some .long, 4, 8),
  (yX7_reading, cX7_reading, 4, some .int, 3, 8),
  (yX7_back, cX7_back, 2, some .int, 1, 8),
  (yX7_areSo, cX7_areSo, 3, some .boolean, 1, 8),
  (yX7_fits, cX7_fits, 6, some .int, 1, 8),
  (yX7_sheet, cX7_sheet, 5, some .int, 3, 8),
  (yX7_lose, cX7_lose, 3, some .int, 1, 8),
  (yX7_put, cX7_put, 4, some .int, 3, 8),
  (yX7_cell, cX7_cell, 4, some .long, 3, 8),
  (yX7_copy, cX7_copy, 10, some .int, 5, 8),
  (yX7_begins, cX7_begins, 2, none, 1, 8),
  (yX7_tell, cX7_tell, 3, some .int, 1, 8),
  (yX7_tie, cX7_tie, 2, some .int, 1, 8),
  (yX7_as, cX7_as, 3, some .int, 2, 8),
  (yX7_trace, cX7_trace, 1, some .int, 0, 8),
  (yX7_fault, cX7_fault, 1, some .int, 0, 8),
  (yX7_many, cX7_many, 2, some .int, 1, 8),
  (yJ6_bitCount_0f7a4, cJ6_bitCount_0f7a4, 1, some .int, 1, 9),
  (yJ9_max_7cf53, cJ9_max_7cf53, 2, some .int, 2, 10),
  (yJ9_min_7cf53, cJ9_min_7cf53, 2, some .int, 2, 10),
  (yJxa1e45_init_da8c8, cJxa1e45_init_da8c8, 1, none, 0, 11),
  (yJxc12de_init_da8c8, cJxc12de_init_da8c8, 1, none, 0, 12),
  (yJx4a65c_init_da8c8, cJx4a65c_init_da8c8, 1, none, 0, 0),
  (yJx4a65c_grow_92f84, cJx4a65c_grow_92f84, 4, some (.array (.object "java/lang/Object")), 1, 0),
  (yJx4a65c_grow_d5877, cJx4a65c_grow_d5877, 1, some (.array (.object "java/lang/Object")), 0, 0),
  (yJx4a65c_size_8abf5, cJx4a65c_size_8abf5, 1, some .int, 0, 0),
  (yJx4a65c_elementData_915e3, cJx4a65c_elementData_915e3, 2, some (.object "java/lang/Object"), 1, 0),
  (yJx4a65c_get_915e3, cJx4a65c_get_915e3, 2, some (.object "java/lang/Object"), 1, 0),
  (yJx4a65c_add_72be8, cJx4a65c_add_72be8, 4, none, 3, 0),
  (yJx4a65c_add_9ea2d, cJx4a65c_add_9ea2d, 2, some .boolean, 1, 0),
  (yJx4a65c_remove_915e3, cJx4a65c_remove_915e3, 4, some (.object "java/lang/Object"), 1, 0),
  (yJx4a65c_fastRemove_b59b0, cJx4a65c_fastRemove_b59b0, 4, none, 2, 0),
  (yJx4a65c_clear_da8c8, cJx4a65c_clear_da8c8, 4, none, 0, 0),
  (yJ7_fill_53178, cJ7_fill_53178, 4, none, 2, 13),
  (yJ7_copyOf_1904c, cJ7_copyOf_1904c, 2, some (.array (.object "java/lang/Object")), 2, 13),
  (yJ7_copyOf_6403c, cJ7_copyOf_6403c, 4, some (.array (.object "java/lang/Object")), 3, 13),
  (yJ15_checkIndex_7cf53, cJ15_checkIndex_7cf53, 2, some .int, 2, 14),
  (yJ8_newLength_cabcc, cJ8_newLength_cabcc, 4, some .int, 3, 15),
  (yJ8_hugeLength_7cf53, cJ8_hugeLength_7cf53, 3, some .int, 2, 15),
  (yJ3_checkIndex_8e157, cJ3_checkIndex_8e157, 3, some .int, 3, 16),
  (yL_law, cL_law, 4, some .boolean, 1, 17)]
/-- what a virtual or special call of a method stands on: places of .code, .instanceMethod or .static, .selects, .initialized -/
def xMw : List (Nat × Nat × Nat × Nat) := [(71, 70, 0, 42), (411, 409, 410, 42), (271, 269, 270, 42), (446, 444, 445, 42), (538, 536, 537, 42), (534, 532, 533, 42), (458, 456, 457, 42), (466, 464, 465, 42), (474, 473, 7, 42), (483, 482, 8, 42), (96, 95, 0, 44), (454, 452, 453, 44), (438, 436, 437, 44), (247, 245, 246, 44), (450, 448, 449, 44), (512, 510, 511, 44), (77, 76, 0, 43), (434, 432, 433, 43), (259, 257, 258, 43), (263, 261, 262, 43), (251, 249, 250, 43), (236, 234, 235, 43), (478, 476, 477, 43), (520, 518, 519, 43), (524, 523, 9, 43), (587, 586, 0, 58), (152, 151, 0, 48), (203, 201, 202, 48), (635, 633, 634, 48), (624, 622, 623, 48), (199, 197, 198, 48), (225, 223, 224, 48), (207, 205, 206, 48), (221, 219, 220, 48), (644, 642, 643, 48), (300, 299, 0, 53), (462, 460, 461, 53), (470, 468, 469, 53), (487, 485, 486, 53), (491, 489, 490, 53), (495, 493, 494, 53), (63, 62, 0, 41), (188, 186, 187, 41), (255, 253, 254, 41), (267, 265, 266, 41), (294, 292, 293, 41), (407, 405, 406, 41), (415, 413, 414, 41), (430, 428, 429, 41), (442, 440, 441, 41), (499, 497, 498, 41), (504, 502, 503, 41), (508, 506, 507, 41), (516, 514, 515, 41), (530, 528, 529, 41), (546, 544, 545, 41), (554, 552, 553, 41), (558, 556, 557, 41), (562, 560, 561, 41), (567, 565, 566, 41), (583, 581, 582, 41), (605, 603, 604, 41), (609, 607, 608, 41), (620, 618, 619, 41), (630, 628, 629, 41), (639, 637, 638, 41), (648, 646, 647, 41), (652, 650, 651, 41), (657, 655, 656, 41), (677, 675, 676, 41), (689, 687, 688, 41), (693, 691, 692, 41), (697, 695, 696, 41), (701, 699, 700, 41), (195, 194, 0, 41), (542, 541, 0, 41), (211, 210, 1, 41), (192, 191, 0, 41), (217, 216, 0, 41), (228, 227, 0, 41), (214, 213, 0, 41), (232, 231, 2, 41), (550, 549, 10, 41), (571, 570, 11, 41), (613, 612, 12, 41), (665, 664, 14, 41), (673, 672, 16, 41), (669, 668, 15, 41), (661, 660, 13, 41), (685, 684, 18, 41), (681, 680, 17, 41), (706, 705, 0, 49), (825, 824, 20, 49), (1006, 1005, 38, 49), (814, 813, 0, 49), (811, 810, 0, 49), (817, 816, 0, 49), (821, 820, 19, 49), (840, 839, 23, 49), (848, 847, 24, 49), (868, 867, 26, 49), (879, 878, 0, 49), (833, 832, 22, 49), (808, 806, 807, 49), (836, 835, 0, 49), (829, 828, 21, 49), (844, 842, 843, 49), (856, 855, 25, 49), (852, 850, 851, 49), (860, 858, 859, 49), (864, 862, 863, 49), (872, 870, 871, 49), (876, 874, 875, 49), (903, 902, 31, 49), (907, 906, 32, 49), (899, 898, 30, 49), (895, 894, 29, 49), (911, 910, 33, 49), (891, 890, 28, 49), (887, 886, 27, 49), (883, 881, 882, 49), (915, 913, 914, 49), (920, 918, 919, 49), (936, 935, 34, 49), (924, 922, 923, 49), (928, 926, 927, 49), (939, 938, 0, 49), (932, 930, 931, 49), (947, 946, 35, 49), (943, 941, 942, 49), (951, 949, 950, 49), (955, 953, 954, 49), (959, 957, 958, 49), (963, 962, 36, 49), (970, 969, 0, 49), (967, 965, 966, 49), (974, 972, 973, 49), (978, 976, 977, 49), (986, 985, 37, 49), (982, 980, 981, 49), (990, 988, 989, 49), (994, 992, 993, 49), (998, 996, 997, 49), (1002, 1000, 1001, 49), (1010, 1008, 1009, 49), (1018, 1017, 39, 49), (1014, 1012, 1013, 49), (1022, 1020, 1021, 49), (1026, 1024, 1025, 49), (1030, 1028, 1029, 49), (1034, 1032, 1033, 49), (1038, 1036, 1037, 49), (576, 575, 0, 57), (369, 368, 0, 55), (398, 397, 0, 55), (113, 112, 0, 45), (110, 109, 0, 46), (107, 106, 0, 47), (363, 362, 5, 47), (359, 358, 4, 47), (275, 273, 274, 47), (289, 287, 288, 47), (279, 277, 278, 47), (355, 354, 3, 47), (351, 349, 350, 47), (419, 417, 418, 47), (423, 422, 6, 47), (243, 241, 242, 47), (239, 238, 0, 50), (376, 375, 0, 50), (392, 391, 0, 50), (282, 281, 0, 51), (366, 365, 0, 54), (373, 372, 0, 54), (285, 284, 0, 52), (0, 0, 0, 40)]
/-- own file, place in its pool, file and slot, kind (0 plain, 1 nest mate, 2 by a subclass), the word -/
def xF : List (Nat × Nat × Nat × Nat × Nat × Nat) := [(3, 9, 3, 0, 0, 79), (3, 19, 3, 1, 0, 80), (7, 246, 3, 1, 1, 81), (3, 15, 3, 2, 0, 82), (7, 69, 3, 2, 1, 83), (2, 9, 2, 0, 0, 98), (0, 9, 0, 1, 0, 117), (0, 48, 0, 2, 0, 118), (12, 7, 0, 0, 0, 119), (0, 63, 0, 0, 2, 120), (1, 12, 1, 0, 0, 129), (7, 65, 1, 0, 1, 130), (1, 21, 1, 1, 0, 131), (7, 133, 1, 1, 1, 132), (1, 28, 1, 2, 0, 133), (7, 88, 1, 2, 1, 134), (1, 71, 1, 3, 0, 135), (5, 9, 5, 0, 0, 154), (7, 218, 5, 0, 1, 155), (5, 15, 5, 1, 0, 156), (7, 215, 5, 1, 1, 157), (5, 19, 5, 2, 0, 158), (7, 14, 7, 0, 0, 166), (7, 18, 7, 1, 0, 167), (7, 24, 7, 2, 0, 168), (7, 30, 7, 3, 0, 169), (7, 243, 7, 4, 0, 170), (7, 35, 7, 5, 0, 171), (6, 15, 6, 0, 0, 302), (1, 42, 6, 0, 1, 303), (7, 111, 6, 0, 1, 304), (6, 9, 6, 1, 0, 305), (7, 108, 6, 1, 1, 306), (1, 84, 6, 1, 1, 307), (6, 18, 6, 2, 0, 308), (7, 114, 6, 2, 1, 309), (6, 21, 6, 3, 0, 310), (7, 146, 6, 3, 1, 311), (1, 90, 6, 3, 1, 312), (6, 24, 6, 4, 0, 313), (1, 87, 6, 4, 1, 314), (6, 27, 6, 5, 0, 315), (7, 155, 6, 5, 1, 316), (6, 30, 6, 6, 0, 317), (1, 61, 6, 6, 1, 318), (7, 158, 6, 6, 1, 319), (6, 33, 6, 7, 0, 320), (1, 103, 6, 7, 1, 321), (7, 161, 6, 7, 1, 322), (6, 36, 6, 8, 0, 323), (1, 76, 6, 8, 1, 324), (7, 151, 6, 8, 1, 325), (6, 40, 6, 9, 0, 326), (4, 7, 4, 0, 0, 589), (7, 126, 4, 0, 1, 590), (4, 13, 4, 1, 0, 591), (7, 280, 4, 1, 1, 592), (4, 16, 4, 2, 0, 593), (7, 283, 4, 2, 1, 594), (8, 80, 8, 0, 0, 708), (8, 201, 8, 1, 0, 709), (8, 9, 8, 2, 0, 710), (8, 13, 8, 3, 0, 711), (8, 16, 8, 4, 0, 712), (8, 90, 8, 5, 0, 713), (8, 93, 8, 6, 0, 714), (8, 19, 8, 7, 0, 715), (8, 100, 8, 8, 0, 716), (8, 22, 8, 9, 0, 717), (8, 25, 8, 10, 0, 718), (8, 28, 8, 11, 0, 719), (8, 31, 8, 12, 0, 720), (8, 103, 8, 13, 0, 721), (8, 124, 8, 14, 0, 722), (8, 127, 8, 15, 0, 723), (8, 35, 8, 16, 0, 724), (8, 38, 8, 17, 0, 725), (8, 41, 8, 18, 0, 726), (8, 44, 8, 19, 0, 727), (8, 47, 8, 20, 0, 728), (8, 50, 8, 21, 0, 729), (8, 53, 8, 22, 0, 730), (8, 56, 8, 23, 0, 731), (8, 59, 8, 24, 0, 732), (8, 62, 8, 25, 0, 733), (8, 65, 8, 26, 0, 734), (8, 68, 8, 27, 0, 735), (8, 130, 8, 28, 0, 736), (8, 71, 8, 29, 0, 737), (8, 74, 8, 30, 0, 738), (8, 77, 8, 31, 0, 739)]
/-- own file, place, kind (0 virtual, 1 <init>, 2 static, 3 a nest mate's <init>, 4 Object.<init>, 5 arraycopy), method, parameters, the word -/
def xC0 : List (Nat × Nat × Nat × Nat × Nat × Nat) := [(17, 9, 1, 41, 0, 61), (7, 5, 4, 0, 0, 64), (7, 13, 3, 0, 0, 69), (1, 3, 4, 0, 0, 72), (1, 11, 3, 16, 0, 75), (3, 3, 4, 0, 0, 78), (1, 20, 3, 10, 0, 94), (2, 3, 4, 0, 0, 97), (1, 27, 1, 157, 0, 105), (0, 1, 1, 156, 0, 108), (12, 1, 1, 155, 0, 111), (11, 1, 4, 0, 0, 114), (7, 23, 1, 157, 0, 146), (7, 34, 3, 26, 0, 150), (5, 3, 4, 0, 0, 153), (17, 13, 0, 42, 4, 185), (7, 39, 0, 77, 1, 189), (7, 43, 2, 74, 2, 193), (7, 47, 0, 30, 1, 196), (5, 34, 0, 27, 0, 200), (7, 51, 0, 32, 2, 204), (7, 54, 0, 76, 1, 208), (7, 57, 2, 80, 3, 212), (7, 249, 2, 78, 4, 215), (7, 212, 0, 33, 1, 218), (5, 38, 0, 31, 1, 222), (7, 253, 2, 79, 1, 226), (7, 61, 0, 81, 2, 229), (7, 184, 0, 21, 2, 233), (3, 22, 2, 168, 2, 237), (7, 181, 0, 167, 0, 240), (7, 256, 0, 13, 0, 244), (7, 84, 0, 20, 2, 248), (17, 18, 0, 43, 1, 252), (7, 74, 0, 18, 1, 256), (7, 78, 0, 19, 1, 260), (17, 23, 0, 44, 2, 264), (7, 81, 0, 2, 1, 268), (1, 32, 0, 160, 0, 272), (1, 36, 0, 162, 1, 276), (0, 118, 2, 171, 2, 280), (14, 105, 2, 174, 3, 283), (0, 123, 0, 161, 1, 286), (17, 28, 0, 45, 3, 291), (7, 91, 0, 160, 0, 295), (7, 97, 1, 35, 3, 298), (6, 3, 4, 0, 0, 301), (7, 100, 0, 164, 1, 348), (0, 131, 0, 163, 3, 352), (0, 129, 0, 159, 0, 356), (0, 69, 0, 158, 1, 360), (0, 73, 2, 172, 3, 364), (15, 194, 6, 153, 2, 367), (15, 201, 2, 173, 2, 371), (0, 66, 2, 169, 2, 374), (13, 300, 2, 170, 3, 390), (13, 304, 7, 154, 2, 396), (13, 150, 5, 0, 5, 399), (0, 79, 6, 153, 2, 402), (17, 33, 0, 46, 2, 404), (7, 104, 0, 1, 1, 408), (17, 37, 0, 47, 1, 412), (7, 117, 0, 165, 1, 416), (0, 144, 0, 166, 2, 420), (0, 112, 5, 0, 5, 424), (7, 121, 0, 162, 1, 425), (17, 41, 0, 48, 2, 427), (7, 129, 0, 17, 0, 431), (7, 137, 0, 12, 2, 435), (17, 46, 0, 49, 2, 439), (7, 142, 0, 3, 1, 443), (1, 46, 0, 14, 2, 447), (2, 15, 0, 11, 1, 451), (1, 50, 0, 6, 0, 455), (1, 75, 0, 36, 0, 459), (1, 53, 0, 7, 1, 463), (1, 57, 0, 37, 0, 467), (1, 77, 0, 8, 1, 471), (1, 93, 0, 22, 2, 475), (1, 96, 0, 19, 1, 479), (1, 80, 0, 9, 3, 480), (1, 99, 0, 38, 2, 484), (1, 106, 0, 39, 0, 488), (1, 109, 0, 40, 2, 492), (17, 50, 0, 50, 2, 496), (17, 55, 0, 51, 2, 501), (17, 59, 0, 52, 2, 505), (7, 164, 0, 15, 1, 509), (17, 63, 0, 53, 1, 513), (7, 167, 0, 23, 1, 517), (3, 28, 0, 24, 1, 521), (3, 36, 0, 22, 2, 525), (3, 32, 0, 19, 1, 526), (17, 67, 0, 54, 2, 527), (7, 170, 0, 5, 1, 531), (1, 64, 0, 4, 1, 535), (1, 67, 0, 15, 1, 539), (7, 174, 2, 75, 2, 540), (17, 71, 0, 55, 2, 543), (7, 177, 0, 82, 3, 547), (17, 75, 0, 56, 2, 551), (17, 79, 0, 57, 0, 555), (17, 84, 0, 58, 2, 559), (7, 186, 0, 4, 1, 563), (17, 88, 0, 59, 4, 564), (7, 188, 0, 83, 3, 568), (7, 257, 7, 154, 2, 572), (7, 263, 0, 14, 2, 573), (7, 266, 2, 152, 1, 574), (17, 93, 0, 60, 3, 580), (7, 192, 1, 25, 3, 585), (4, 1, 4, 0, 0, 588), (17, 97, 0, 61, 1, 602), (17, 101, 0, 62, 1, 606), (7, 193, 0, 84, 2, 610), (7, 271, 0, 6, 0, 614), (7, 274, 0, 11, 1, 615), (7, 277, 0, 7, 1, 616), (17, 105, 0, 63, 3, 617), (7, 197, 0, 29, 2, 621), (5, 22, 7, 154, 2, 625), (5, 28, 2, 168, 2, 626), (17, 109, 0, 64, 1, 627), (7, 200, 0, 27, 0, 631), (7, 203, 0, 28, 0, 632), (17, 113, 0, 65, 3, 636), (7, 206, 0, 31, 1, 640), (7, 209, 0, 34, 2, 641), (17, 117, 0, 66, 3, 645), (17, 122, 0, 67, 5, 649), (7, 222, 5, 0, 5, 653), (17, 127, 0, 68, 1, 654), (7, 228, 0, 88, 1, 658), (7, 286, 0, 85, 1, 662), (7, 231, 0, 87, 1, 666), (7, 234, 0, 86, 1, 670), (17, 131, 0, 69, 1, 674), (7, 237, 0, 90, 0, 678), (7, 240, 0, 89, 1, 682), (17, 135, 0, 70, 2, 686), (17, 139, 0, 71, 0, 690), (17, 143, 0, 72, 0, 694), (17, 147, 0, 73, 1, 698), (17, 12, 1, 91, 0, 704), (8, 1, 4, 0, 0, 707), (17, 17, 0, 103, 4, 805), (8, 106, 2, 95, 1, 809), (8, 86, 2, 94, 3, 812), (8, 110, 2, 96, 1, 815), (8, 113, 0, 97, 4, 818), (8, 117, 0, 92, 1, 822), (8, 121, 0, 105, 1, 826), (8, 133, 0, 102, 3, 830), (8, 137, 2, 104, 1, 834), (8, 96, 0, 98, 0, 837), (17, 22, 0, 106, 1, 841), (8, 140, 0, 99, 1, 845), (17, 27, 0, 108, 2, 849), (8, 143, 0, 107, 1, 853), (17, 32, 0, 109, 3, 857), (17, 36, 0, 110, 2, 861), (8, 146, 0, 100, 1, 865), (17, 40, 0, 111, 1, 869), (17, 45, 0, 112, 2, 873), (8, 149, 2, 101, 1, 877), (17, 49, 0, 120, 2, 880), (8, 173, 0, 119, 1, 884), (8, 170, 0, 118, 2, 888), (8, 163, 0, 116, 1, 892), (8, 159, 0, 115, 4, 896), (8, 152, 0, 113, 2, 900), (8, 156, 0, 114, 1, 904), (8, 166, 0, 117, 2, 908), (17, 54, 0, 121, 2, 912), (17, 58, 0, 122, 2, 917), (17, 62, 0, 124, 2, 921), (17, 66, 0, 125, 1, 925), (17, 70, 0, 127, 2, 929), (8, 177, 0, 123, 1, 933), (8, 180, 2, 126, 2, 937), (17, 74, 0, 129, 2, 940), (8, 184, 0, 128, 3, 944), (17, 78, 0, 130, 2, 948), (17, 83, 0, 131, 0, 952), (17, 87, 0, 132, 2, 956), (8, 187, 0, 133, 1, 960), (17, 92, 0, 135, 4, 964), (8, 190, 2, 134, 3, 968), (17, 96, 0, 136, 3, 971), (17, 100, 0, 137, 1, 975), (17, 104, 0, 139, 1, 979), (8, 194, 0, 138, 1, 983), (17, 108, 0, 140, 3, 987), (17, 112, 0, 141, 1, 991), (17, 116, 0, 142, 3, 995), (17, 121, 0, 143, 3, 999), (8, 197, 0, 93, 1, 1003), (17, 126, 0, 144, 5, 1007), (17, 130, 0, 146, 1, 1011), (8, 204, 0, 145, 1, 1015), (17, 134, 0, 147, 1, 1019), (17, 138, 0, 148, 2, 1023), (17, 142, 0, 149, 0, 1027), (17, 146, 0, 150, 0, 1031), (17, 150, 0, 151, 1, 1035)]
/-- own file, place, the file (99: not one of ours), the word -/
def xK : List (Nat × Nat × Nat × Nat) := [(17, 7, 7, 59), (7, 11, 1, 67), (1, 9, 3, 73), (1, 18, 2, 92), (1, 25, 0, 103), (7, 21, 0, 145), (7, 28, 5, 147), (1, 40, 6, 290), (7, 95, 6, 296), (13, 110, 99, 393), (13, 2, 99, 395), (0, 7, 99, 403), (7, 124, 4, 426), (17, 10, 8, 702)]
def xI : List (Nat × Nat × Int32 × Nat) := [(15, 200, 2147483639, 370), (9, 265, 1431655765, 577), (9, 266, 858993459, 578), (9, 267, 252645135, 579)]
def xJ : List (Nat × Nat × Int64 × Nat) := [(7, 149, -9223372036854775808, 500), (8, 84, -9223372036854775808, 916)]
abbrev vwCl : List vw_C := [(RJx4a65c, TJx4a65c, 3), (RX0, TX0, 4), (RX1, TX1, 1), (RX2, TX2, 3), (RX3, TX3, 3), (RX4, TX4, 3), (RX5, TX5, 10), (RX6, TX6, 6), (RX7, TX7, 32)]
/-- the types of the fields, file by file; which are final -/
def xT : List (List FieldType) := [[.int, (.array (.object "java/lang/Object")), .int], [(.object "VineGarden$Plan"), (.object "VineGarden$Frosts"), (.object "java/util/ArrayList"), .long], [(.array .boolean)], [(.array .int), .int, .int], [.int, .int, .int], [(.array .int), .int, .int], [.int, .int, .int, .int, .int, .int, .int, .int, .long, .long], [(.object "VineGarden$Bed"), (.object "VineGarden$Bed"), (.object "java/util/ArrayList"), (.array (.object "VineGarden$Sheet")), .int, .int], [.int, .int, (.array .int), (.array .int), (.array .int), .int, .int, (.array .int), .int, (.array .int), (.array .int), (.array .int), (.array .boolean), .int, .int, .int, (.array .int), (.array .int), (.array .int), (.array .int), (.array .int), (.array .int), (.array .int), (.array .int), (.array .int), (.array .int), (.array .int), (.array .boolean), .int, (.array .int), (.array .int), (.array .int)]]
def xFin : List (List Bool) := [[false, false, false], [true, true, true, false], [true], [true, false, false], [true, true, true], [true, false, false], [true, false, false, false, false, false, false, false, false, false], [true, true, true, true, false, false], [false, false, true, true, true, false, false, true, false, true, true, true, true, false, false, false, true, true, true, true, true, true, true, true, true, true, true, true, false, true, true, true]]
def xDef : List (List Value) := [[.int 0, .null, .int 0], [.null, .null, .null, .long 0], [.null], [.null, .int 0, .int 0], [.int 0, .int 0, .int 0], [.null, .int 0, .int 0], [.int 0, .int 0, .int 0, .int 0, .int 0, .int 0, .int 0, .int 0, .long 0, .long 0], [.null, .null, .null, .null, .int 0, .int 0], [.int 0, .int 0, .null, .null, .null, .int 0, .int 0, .null, .int 0, .null, .null, .null, .null, .int 0, .int 0, .int 0, .null, .null, .null, .null, .null, .null, .null, .null, .null, .null, .null, .null, .int 0, .null, .null, .null]]
/-- of a file whose objects are made: places of .instantiable, .initialized -/
def xNw : List (Nat × Nat) := [(104, 47), (68, 42), (93, 44), (74, 43), (584, 58), (149, 48), (297, 53), (60, 41), (703, 49)]
abbrev xLaw : Nat := 175
def xG : List Cond := lw_tbl.filter goodWord
def xok (n : Nat) (w : Cond) : Bool := decide (lw_tbl[n]? = some w) && goodWord w
theorem xok_in {n : Nat} {w : Cond} (h : xok n w = true) : w ∈ xG := by
  simp only [xok, Bool.and_eq_true, decide_eq_true_eq] at h
  exact List.mem_filter.mpr ⟨List.mem_of_getElem? h.1, h.2⟩
theorem xok_tbl {n : Nat} {w : Cond} (h : xok n w = true) : w ∈ lw_tbl := (List.mem_filter.mp (xok_in h)).1
def xownS (o : Nat) : String := (xOwn[o]?).getD ""
def xMok (i : Nat) : Bool := match xM[i]?, xMw[i]? with
  | some (y, c, ml, rt, np, o), some (w, wi, ws, wn) => decide (xOwn[o]? = some y.cls) && decide (y.cls ≠ "java/lang/invoke/MethodHandle") && decide (y.cls ≠ "java/lang/invoke/VarHandle") && decide ((parseMethodDescriptor y.desc).map (fun d => d.parameters.length) = some np) && xok wn (.initialized y.cls) && decide (ml ≤ 19)
  | _, _ => false
set_option maxRecDepth 100000 in
theorem xM_ok : (List.range xLaw).all xMok = true := by decide +kernel
set_option maxRecDepth 100000 in
theorem xMc_ok : (xMw.take xLaw).map (fun q => lw_tbl[q.1]?) = (xM.take xLaw).map (fun q => some (Cond.code q.1 q.2.1 q.2.2.1 q.2.2.2.1)) := by rfl
def xFok (q : Nat × Nat × Nat × Nat × Nat × Nat) : Bool := match q with
  | (o, idx, ci, k, kd, w) => match vwCl[ci]? with
    | some (_, T, N) => decide (k < N) && (match kd with
      | 0 => xok w (.fieldLink (xownS o) idx (T k).1 (T k).2.1 (T k).2.2.1)
      | 1 => decide (lw_tbl[w]? = some (.fieldLinkNest (xownS o) idx (T k).1 (T k).2.1 (T k).2.2.1 "VineGarden"))
      | _ => xok w (.fieldLink (xownS o) idx (xownS o) (T k).2.1 (T k).2.2.1) && xok 121 (.sameField (xownS o) (T k).1 (T k).2.1 (T k).2.2.1))
    | none => false
set_option maxRecDepth 100000 in
theorem xF_ok : xF.all xFok = true := by decide +kernel
def xCok (q : Nat × Nat × Nat × Nat × Nat × Nat) : Bool := match q with
  | (o, idx, kd, j, np, w) => match kd with
    | 4 => xok w (.methodLink (xownS o) idx objectInit)
    | 5 => xok w (.methodLink (xownS o) idx arraycopyName)
    | 6 => xok w (.methodLink (xownS o) idx Lib.Math.max.name)
    | 7 => xok w (.methodLink (xownS o) idx Lib.Math.min.name)
    | kd => match xM[j]?, xMw[j]? with
      | some (y, _, _, rt, np', _), some (_, wi, ws, _) => decide (np = np') && decide (j < xLaw) && plainName y.cls && (match kd with
        | 0 => xok w (.methodLink (xownS o) idx y) && xok wi (.instanceMethod y) && xok ws (.selects y.cls y y)
        | 1 => xok w (.methodLink (xownS o) idx y) && xok wi (.instanceMethod y) && decide (y.name = "<init>") && decide (rt = none)
        | 2 => xok w (.methodLink (xownS o) idx y) && xok wi (.static y)
        | 3 => decide (lw_tbl[w]? = some (.methodLinkNest (xownS o) idx y "VineGarden")) && xok wi (.instanceMethod y) && decide (y.name = "<init>") && decide (rt = none)
        | _ => false)
      | _, _ => false
set_option maxRecDepth 100000 in
theorem xC_ok : xC0.all xCok = true := by decide +kernel
def xKok (q : Nat × Nat × Nat × Nat) : Bool := match q with
  | (o, idx, ci, w) => match vwCl[ci]?, xNw[ci]? with
    | some (C, _, N), some (w1, w2) => xok w (.classLink (xownS o) idx C) && (w1 == 0 || (xok w1 (.instantiable C N) && xok w2 (.initialized C)))
    | _, _ => ci == 99
set_option maxRecDepth 100000 in
theorem xK_ok : xK.all xKok = true := by decide +kernel
set_option maxRecDepth 100000 in
theorem xI_ok : (xI.all fun q => xok q.2.2.2 (.constant (xownS q.1) q.2.1 q.2.2.1)) = true := by decide +kernel
set_option maxRecDepth 100000 in
theorem xJ_ok : (xJ.all fun q => xok q.2.2.2 (.constantLong (xownS q.1) q.2.1 q.2.2.1)) = true := by decide +kernel
/-- each file's field words are among the tables' words; names and types of its fields -/
def xUok (q : vw_C) : Bool := (u_ws q.1 q.2.1 q.2.2).all (fun w => goodWord w && decide (w ∈ lw_tbl))
set_option maxRecDepth 100000 in
theorem xU_ok : vwCl.all xUok = true := by decide +kernel
def xTok (ci : Nat) : Bool := match vwCl[ci]?, xT[ci]?, xFin[ci]?, xDef[ci]? with
  | some (_, T, N), some ts, some fs, some ds => decide (ts.length = N) && decide (fs.length = N) && decide (ds.length = N) && (List.range N).all (fun k => decide (parseFieldDescriptor (T k).2.2.1 = ts[k]?) && decide (fs[k]? = some (T k).2.2.2) && decide ((ts[k]?).map defaultValue = ds[k]?) && (List.range N).all (fun j => decide (k = j) || decide ((T k).2.1 ≠ (T j).2.1)))
  | _, _, _, _ => false
set_option maxRecDepth 100000 in
theorem xT_ok : (List.range vwCl.length).all xTok = true := by decide +kernel
