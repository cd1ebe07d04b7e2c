theorem il_m1 : Int32.ofInt (-1) = (-1) := by decide
theorem il_0 : Int32.ofInt (0) = 0 := by decide
theorem il_1 : Int32.ofInt (1) = 1 := by decide
theorem il_2 : Int32.ofInt (2) = 2 := by decide
theorem il_3 : Int32.ofInt (3) = 3 := by decide
theorem il_4 : Int32.ofInt (4) = 4 := by decide
theorem il_5 : Int32.ofInt (5) = 5 := by decide
theorem ib_m4 : (Int8.ofInt (-4)).toInt32 = (-4) := by decide
theorem ib_m3 : (Int8.ofInt (-3)).toInt32 = (-3) := by decide
theorem ib_m2 : (Int8.ofInt (-2)).toInt32 = (-2) := by decide
theorem ib_6 : (Int8.ofInt (6)).toInt32 = 6 := by decide
theorem ib_7 : (Int8.ofInt (7)).toInt32 = 7 := by decide
theorem ib_8 : (Int8.ofInt (8)).toInt32 = 8 := by decide
theorem ib_9 : (Int8.ofInt (9)).toInt32 = 9 := by decide
theorem ib_10 : (Int8.ofInt (10)).toInt32 = 10 := by decide
theorem ib_12 : (Int8.ofInt (12)).toInt32 = 12 := by decide
theorem ib_20 : (Int8.ofInt (20)).toInt32 = 20 := by decide
theorem ib_28 : (Int8.ofInt (28)).toInt32 = 28 := by decide
theorem ib_33 : (Int8.ofInt (33)).toInt32 = 33 := by decide
theorem ib_40 : (Int8.ofInt (40)).toInt32 = 40 := by decide
theorem ib_42 : (Int8.ofInt (42)).toInt32 = 42 := by decide
theorem ib_43 : (Int8.ofInt (43)).toInt32 = 43 := by decide
theorem ib_48 : (Int8.ofInt (48)).toInt32 = 48 := by decide
theorem ib_49 : (Int8.ofInt (49)).toInt32 = 49 := by decide
theorem ib_57 : (Int8.ofInt (57)).toInt32 = 57 := by decide
theorem ib_60 : (Int8.ofInt (60)).toInt32 = 60 := by decide
theorem ib_97 : (Int8.ofInt (97)).toInt32 = 97 := by decide
theorem ib_98 : (Int8.ofInt (98)).toInt32 = 98 := by decide
theorem ib_102 : (Int8.ofInt (102)).toInt32 = 102 := by decide
theorem ib_103 : (Int8.ofInt (103)).toInt32 = 103 := by decide
theorem ib_108 : (Int8.ofInt (108)).toInt32 = 108 := by decide
theorem ib_114 : (Int8.ofInt (114)).toInt32 = 114 := by decide
theorem ib_120 : (Int8.ofInt (120)).toInt32 = 120 := by decide
theorem ib_126 : (Int8.ofInt (126)).toInt32 = 126 := by decide
theorem is_m10000 : (Int16.ofInt (-10000)).toInt32 = (-10000) := by decide
theorem is_360 : (Int16.ofInt (360)).toInt32 = 360 := by decide
theorem is_480 : (Int16.ofInt (480)).toInt32 = 480 := by decide
theorem is_1000 : (Int16.ofInt (1000)).toInt32 = 1000 := by decide
theorem is_10290 : (Int16.ofInt (10290)).toInt32 = 10290 := by decide
theorem qfc_0_54 : qzFind qzCl 0 54 = some (84, true) := by decide +kernel
theorem qfc_0_58 : qzFind qzCl 0 58 = some (85, true) := by decide +kernel
theorem qfc_0_72 : qzFind qzCl 0 72 = some (3, false) := by decide +kernel
theorem qfc_0_81 : qzFind qzCl 0 81 = some (55, true) := by decide +kernel
theorem qfc_0_85 : qzFind qzCl 0 85 = some (56, true) := by decide +kernel
theorem qfc_0_89 : qzFind qzCl 0 89 = some (5, false) := by decide +kernel
theorem qfc_0_92 : qzFind qzCl 0 92 = some (11, false) := by decide +kernel
theorem qfc_0_95 : qzFind qzCl 0 95 = some (69, true) := by decide +kernel
theorem qfc_0_99 : qzFind qzCl 0 99 = some (70, true) := by decide +kernel
theorem qfc_0_103 : qzFind qzCl 0 103 = some (54, true) := by decide +kernel
theorem qfc_0_107 : qzFind qzCl 0 107 = some (57, true) := by decide +kernel
theorem qfc_0_110 : qzFind qzCl 0 110 = some (58, true) := by decide +kernel
theorem qfc_0_113 : qzFind qzCl 0 113 = some (10, false) := by decide +kernel
theorem qfc_0_116 : qzFind qzCl 0 116 = some (15, false) := by decide +kernel
theorem qfc_0_119 : qzFind qzCl 0 119 = some (71, true) := by decide +kernel
theorem qfc_1_21 : qzFind qzCl 1 21 = some (20, false) := by decide +kernel
theorem qfc_1_41 : qzFind qzCl 1 41 = some (148, false) := by decide +kernel
theorem qfc_1_47 : qzFind qzCl 1 47 = some (84, true) := by decide +kernel
theorem qfc_1_51 : qzFind qzCl 1 51 = some (23, false) := by decide +kernel
theorem qfc_1_55 : qzFind qzCl 1 55 = some (85, true) := by decide +kernel
theorem qfc_2_40 : qzFind qzCl 2 40 = some (59, false) := by decide +kernel
theorem qfc_2_44 : qzFind qzCl 2 44 = some (51, false) := by decide +kernel
theorem qfc_2_47 : qzFind qzCl 2 47 = some (53, false) := by decide +kernel
theorem qfc_2_51 : qzFind qzCl 2 51 = some (8, false) := by decide +kernel
theorem qfc_2_54 : qzFind qzCl 2 54 = some (60, false) := by decide +kernel
theorem qfc_2_57 : qzFind qzCl 2 57 = some (2, false) := by decide +kernel
theorem qfc_2_64 : qzFind qzCl 2 64 = some (9, false) := by decide +kernel
theorem qfc_2_72 : qzFind qzCl 2 72 = some (84, false) := by decide +kernel
theorem qfc_2_82 : qzFind qzCl 2 82 = some (85, false) := by decide +kernel
theorem qfc_2_89 : qzFind qzCl 2 89 = some (76, false) := by decide +kernel
theorem qfc_2_92 : qzFind qzCl 2 92 = some (79, false) := by decide +kernel
theorem qfc_2_95 : qzFind qzCl 2 95 = some (75, false) := by decide +kernel
theorem qfc_2_98 : qzFind qzCl 2 98 = some (72, false) := by decide +kernel
theorem qfc_2_102 : qzFind qzCl 2 102 = some (80, false) := by decide +kernel
theorem qfc_2_106 : qzFind qzCl 2 106 = some (81, false) := by decide +kernel
theorem qfc_2_110 : qzFind qzCl 2 110 = some (82, false) := by decide +kernel
theorem qfc_2_113 : qzFind qzCl 2 113 = some (74, false) := by decide +kernel
theorem qfc_2_120 : qzFind qzCl 2 120 = some (83, false) := by decide +kernel
theorem qfc_2_127 : qzFind qzCl 2 127 = some (12, false) := by decide +kernel
theorem qfc_2_130 : qzFind qzCl 2 130 = some (10, false) := by decide +kernel
theorem qfc_2_136 : qzFind qzCl 2 136 = some (11, false) := by decide +kernel
theorem qfc_2_139 : qzFind qzCl 2 139 = some (13, false) := by decide +kernel
theorem qfc_2_149 : qzFind qzCl 2 149 = some (4, false) := by decide +kernel
theorem qfc_2_153 : qzFind qzCl 2 153 = some (3, false) := by decide +kernel
theorem qfc_2_162 : qzFind qzCl 2 162 = some (5, false) := by decide +kernel
theorem qfc_2_168 : qzFind qzCl 2 168 = some (14, false) := by decide +kernel
theorem qfc_2_171 : qzFind qzCl 2 171 = some (16, false) := by decide +kernel
theorem qfc_2_174 : qzFind qzCl 2 174 = some (17, false) := by decide +kernel
theorem qfc_2_180 : qzFind qzCl 2 180 = some (15, false) := by decide +kernel
theorem qfc_2_183 : qzFind qzCl 2 183 = some (7, false) := by decide +kernel
theorem qfc_2_186 : qzFind qzCl 2 186 = some (62, false) := by decide +kernel
theorem qfc_2_190 : qzFind qzCl 2 190 = some (65, false) := by decide +kernel
theorem qfc_2_193 : qzFind qzCl 2 193 = some (66, false) := by decide +kernel
theorem qfc_2_197 : qzFind qzCl 2 197 = some (61, false) := by decide +kernel
theorem qfc_2_200 : qzFind qzCl 2 200 = some (1, false) := by decide +kernel
theorem qfc_2_204 : qzFind qzCl 2 204 = some (50, false) := by decide +kernel
theorem qfc_2_212 : qzFind qzCl 2 212 = some (52, false) := by decide +kernel
theorem qfc_2_215 : qzFind qzCl 2 215 = some (54, false) := by decide +kernel
theorem qfc_2_218 : qzFind qzCl 2 218 = some (55, false) := by decide +kernel
theorem qfc_2_221 : qzFind qzCl 2 221 = some (6, false) := by decide +kernel
theorem qfc_2_224 : qzFind qzCl 2 224 = some (19, false) := by decide +kernel
theorem qfc_2_228 : qzFind qzCl 2 228 = some (68, false) := by decide +kernel
theorem qfc_2_232 : qzFind qzCl 2 232 = some (21, false) := by decide +kernel
theorem qfc_2_236 : qzFind qzCl 2 236 = some (63, false) := by decide +kernel
theorem qfc_2_241 : qzFind qzCl 2 241 = some (64, false) := by decide +kernel
theorem qfc_2_245 : qzFind qzCl 2 245 = some (56, false) := by decide +kernel
theorem qfc_2_250 : qzFind qzCl 2 250 = some (69, false) := by decide +kernel
theorem qfc_2_254 : qzFind qzCl 2 254 = some (70, false) := by decide +kernel
theorem qfc_2_258 : qzFind qzCl 2 258 = some (57, false) := by decide +kernel
theorem qfc_2_261 : qzFind qzCl 2 261 = some (58, false) := by decide +kernel
theorem qfc_2_264 : qzFind qzCl 2 264 = some (22, false) := by decide +kernel
theorem qfc_2_268 : qzFind qzCl 2 268 = some (67, false) := by decide +kernel
theorem qfc_2_280 : qzFind qzCl 2 280 = some (71, false) := by decide +kernel
theorem qfc_2_284 : qzFind qzCl 2 284 = some (77, false) := by decide +kernel
theorem qfc_2_287 : qzFind qzCl 2 287 = some (78, false) := by decide +kernel
theorem qfc_2_290 : qzFind qzCl 2 290 = some (73, false) := by decide +kernel
theorem qfc_3_28 : qzFind qzCl 3 28 = some (90, false) := by decide +kernel
theorem qfc_3_35 : qzFind qzCl 3 35 = some (88, false) := by decide +kernel
theorem qfc_3_39 : qzFind qzCl 3 39 = some (95, false) := by decide +kernel
theorem qfc_3_43 : qzFind qzCl 3 43 = some (96, false) := by decide +kernel
theorem qfc_3_46 : qzFind qzCl 3 46 = some (94, false) := by decide +kernel
theorem qfc_3_50 : qzFind qzCl 3 50 = some (91, false) := by decide +kernel
theorem qfc_3_54 : qzFind qzCl 3 54 = some (97, false) := by decide +kernel
theorem qfc_3_58 : qzFind qzCl 3 58 = some (92, false) := by decide +kernel
theorem qfc_3_62 : qzFind qzCl 3 62 = some (87, false) := by decide +kernel
theorem qfc_3_66 : qzFind qzCl 3 66 = some (100, false) := by decide +kernel
theorem qfc_3_69 : qzFind qzCl 3 69 = some (101, false) := by decide +kernel
theorem qfc_3_73 : qzFind qzCl 3 73 = some (102, false) := by decide +kernel
theorem qfc_3_77 : qzFind qzCl 3 77 = some (103, false) := by decide +kernel
theorem qfc_3_81 : qzFind qzCl 3 81 = some (104, false) := by decide +kernel
theorem qfc_3_85 : qzFind qzCl 3 85 = some (106, false) := by decide +kernel
theorem qfc_3_89 : qzFind qzCl 3 89 = some (107, false) := by decide +kernel
theorem qfc_3_92 : qzFind qzCl 3 92 = some (108, false) := by decide +kernel
theorem qfc_3_96 : qzFind qzCl 3 96 = some (98, false) := by decide +kernel
theorem qfc_3_100 : qzFind qzCl 3 100 = some (99, false) := by decide +kernel
theorem qfc_3_103 : qzFind qzCl 3 103 = some (89, false) := by decide +kernel
theorem qfc_3_106 : qzFind qzCl 3 106 = some (93, false) := by decide +kernel
theorem qfc_3_110 : qzFind qzCl 3 110 = some (105, false) := by decide +kernel
theorem qfc_3_113 : qzFind qzCl 3 113 = some (109, false) := by decide +kernel
theorem qfc_3_126 : qzFind qzCl 3 126 = some (118, false) := by decide +kernel
theorem qfc_3_129 : qzFind qzCl 3 129 = some (119, false) := by decide +kernel
theorem qfc_3_133 : qzFind qzCl 3 133 = some (120, false) := by decide +kernel
theorem qfc_3_145 : qzFind qzCl 3 145 = some (121, false) := by decide +kernel
theorem qfc_3_149 : qzFind qzCl 3 149 = some (122, false) := by decide +kernel
theorem qfc_3_152 : qzFind qzCl 3 152 = some (124, false) := by decide +kernel
theorem qfc_3_155 : qzFind qzCl 3 155 = some (123, false) := by decide +kernel
theorem qfc_3_158 : qzFind qzCl 3 158 = some (125, false) := by decide +kernel
theorem qfc_3_161 : qzFind qzCl 3 161 = some (128, false) := by decide +kernel
theorem qfc_3_164 : qzFind qzCl 3 164 = some (134, false) := by decide +kernel
theorem qfc_3_167 : qzFind qzCl 3 167 = some (133, false) := by decide +kernel
theorem qfc_3_170 : qzFind qzCl 3 170 = some (135, false) := by decide +kernel
theorem qfc_3_173 : qzFind qzCl 3 173 = some (136, false) := by decide +kernel
theorem qff_0_9 : qzFind qzFl 0 9 = some (0, 0) := by decide +kernel
theorem qff_0_15 : qzFind qzFl 0 15 = some (0, 1) := by decide +kernel
theorem qff_0_18 : qzFind qzFl 0 18 = some (0, 2) := by decide +kernel
theorem qff_0_21 : qzFind qzFl 0 21 = some (0, 3) := by decide +kernel
theorem qff_0_24 : qzFind qzFl 0 24 = some (0, 4) := by decide +kernel
theorem qff_0_27 : qzFind qzFl 0 27 = some (0, 5) := by decide +kernel
theorem qff_0_38 : qzFind qzFl 0 38 = some (0, 6) := by decide +kernel
theorem qff_0_42 : qzFind qzFl 0 42 = some (0, 7) := by decide +kernel
theorem qff_0_45 : qzFind qzFl 0 45 = some (0, 8) := by decide +kernel
theorem qff_0_48 : qzFind qzFl 0 48 = some (0, 9) := by decide +kernel
theorem qff_1_9 : qzFind qzFl 1 9 = some (1, 0) := by decide +kernel
theorem qff_1_15 : qzFind qzFl 1 15 = some (1, 1) := by decide +kernel
theorem qff_1_18 : qzFind qzFl 1 18 = some (1, 2) := by decide +kernel
theorem qff_1_25 : qzFind qzFl 1 25 = some (0, 0) := by decide +kernel
theorem qff_1_34 : qzFind qzFl 1 34 = some (0, 1) := by decide +kernel
theorem qff_1_35 : qzFind qzFl 1 35 = some (0, 6) := by decide +kernel
theorem qff_1_39 : qzFind qzFl 1 39 = some (1, 3) := by decide +kernel
theorem qff_2_10 : qzFind qzFl 2 10 = some (2, 0) := by decide +kernel
theorem qff_2_16 : qzFind qzFl 2 16 = some (2, 1) := by decide +kernel
theorem qff_2_19 : qzFind qzFl 2 19 = some (2, 2) := by decide +kernel
theorem qff_2_22 : qzFind qzFl 2 22 = some (2, 4) := by decide +kernel
theorem qff_2_26 : qzFind qzFl 2 26 = some (2, 6) := by decide +kernel
theorem qff_2_33 : qzFind qzFl 2 33 = some (2, 8) := by decide +kernel
theorem qff_2_37 : qzFind qzFl 2 37 = some (2, 9) := by decide +kernel
theorem qff_2_60 : qzFind qzFl 2 60 = some (0, 6) := by decide +kernel
theorem qff_2_79 : qzFind qzFl 2 79 = some (0, 1) := by decide +kernel
theorem qff_2_86 : qzFind qzFl 2 86 = some (2, 7) := by decide +kernel
theorem qff_2_117 : qzFind qzFl 2 117 = some (0, 0) := by decide +kernel
theorem qff_2_124 : qzFind qzFl 2 124 = some (0, 4) := by decide +kernel
theorem qff_2_133 : qzFind qzFl 2 133 = some (0, 3) := by decide +kernel
theorem qff_2_143 : qzFind qzFl 2 143 = some (0, 2) := by decide +kernel
theorem qff_2_146 : qzFind qzFl 2 146 = some (0, 5) := by decide +kernel
theorem qff_2_156 : qzFind qzFl 2 156 = some (0, 7) := by decide +kernel
theorem qff_2_159 : qzFind qzFl 2 159 = some (0, 8) := by decide +kernel
theorem qff_2_165 : qzFind qzFl 2 165 = some (0, 9) := by decide +kernel
theorem qff_2_177 : qzFind qzFl 2 177 = some (2, 5) := by decide +kernel
theorem qff_2_208 : qzFind qzFl 2 208 = some (2, 3) := by decide +kernel
theorem qff_2_240 : qzFind qzFl 2 240 = some (1, 1) := by decide +kernel
theorem qff_2_249 : qzFind qzFl 2 249 = some (1, 0) := by decide +kernel
theorem qff_3_7 : qzFind qzFl 3 7 = some (3, 0) := by decide +kernel
theorem qff_3_13 : qzFind qzFl 3 13 = some (3, 1) := by decide +kernel
theorem qff_3_16 : qzFind qzFl 3 16 = some (3, 2) := by decide +kernel
theorem qff_3_19 : qzFind qzFl 3 19 = some (3, 4) := by decide +kernel
theorem qff_3_22 : qzFind qzFl 3 22 = some (3, 6) := by decide +kernel
theorem qff_3_25 : qzFind qzFl 3 25 = some (3, 8) := by decide +kernel
theorem qff_3_31 : qzFind qzFl 3 31 = some (3, 3) := by decide +kernel
theorem qff_3_116 : qzFind qzFl 3 116 = some (3, 7) := by decide +kernel
theorem qff_3_119 : qzFind qzFl 3 119 = some (3, 9) := by decide +kernel
theorem qff_3_122 : qzFind qzFl 3 122 = some (3, 10) := by decide +kernel
theorem qff_3_136 : qzFind qzFl 3 136 = some (3, 12) := by decide +kernel
theorem qff_3_139 : qzFind qzFl 3 139 = some (3, 11) := by decide +kernel
theorem qff_3_142 : qzFind qzFl 3 142 = some (3, 13) := by decide +kernel
theorem qff_3_176 : qzFind qzFl 3 176 = some (3, 5) := by decide +kernel
theorem mdc_0 : (qzMd 0).2.1 = cX0_init := rfl
theorem mdo_0 : (qzMd 0).2.2.2.2.2.2 = 0 := rfl
theorem mdr_0 : (qzMd 0).2.2.2.1 = none := rfl
theorem mdc_1 : (qzMd 1).2.1 = cX0_copyFrom := rfl
theorem mdo_1 : (qzMd 1).2.2.2.2.2.2 = 0 := rfl
theorem mdr_1 : (qzMd 1).2.2.2.1 = none := rfl
theorem mdc_2 : (qzMd 2).2.1 = cX0_begin := rfl
theorem mdo_2 : (qzMd 2).2.2.2.2.2.2 = 0 := rfl
theorem mdr_2 : (qzMd 2).2.2.2.1 = none := rfl
theorem mdc_3 : (qzMd 3).2.1 = cX0_remaining := rfl
theorem mdo_3 : (qzMd 3).2.2.2.2.2.2 = 0 := rfl
theorem mdr_3 : (qzMd 3).2.2.2.1 = (some .int) := rfl
theorem mdc_4 : (qzMd 4).2.1 = cX0_isOver := rfl
theorem mdo_4 : (qzMd 4).2.2.2.2.2.2 = 0 := rfl
theorem mdr_4 : (qzMd 4).2.2.2.1 = (some .boolean) := rfl
theorem mdc_5 : (qzMd 5).2.1 = cX0_onTurn := rfl
theorem mdo_5 : (qzMd 5).2.2.2.2.2.2 = 0 := rfl
theorem mdr_5 : (qzMd 5).2.2.2.1 = (some .int) := rfl
theorem mdc_6 : (qzMd 6).2.1 = cX0_longestCut := rfl
theorem mdo_6 : (qzMd 6).2.2.2.2.2.2 = 0 := rfl
theorem mdr_6 : (qzMd 6).2.2.2.1 = (some .int) := rfl
theorem mdc_7 : (qzMd 7).2.1 = cX0_worthOfCut := rfl
theorem mdo_7 : (qzMd 7).2.2.2.2.2.2 = 0 := rfl
theorem mdr_7 : (qzMd 7).2.2.2.1 = (some .int) := rfl
theorem mdc_8 : (qzMd 8).2.1 = cX0_sew := rfl
theorem mdo_8 : (qzMd 8).2.2.2.2.2.2 = 0 := rfl
theorem mdr_8 : (qzMd 8).2.2.2.1 = (some .int) := rfl
theorem mdc_9 : (qzMd 9).2.1 = cX0_turnRound := rfl
theorem mdo_9 : (qzMd 9).2.2.2.2.2.2 = 0 := rfl
theorem mdr_9 : (qzMd 9).2.2.2.1 = (some .int) := rfl
theorem mdc_10 : (qzMd 10).2.1 = cX0_piecesOf := rfl
theorem mdo_10 : (qzMd 10).2.2.2.2.2.2 = 0 := rfl
theorem mdr_10 : (qzMd 10).2.2.2.1 = (some .int) := rfl
theorem mdc_11 : (qzMd 11).2.1 = cX0_endOfCoat := rfl
theorem mdo_11 : (qzMd 11).2.2.2.2.2.2 = 0 := rfl
theorem mdr_11 : (qzMd 11).2.2.2.1 = (some .int) := rfl
theorem mdc_12 : (qzMd 12).2.1 = cX0_sumOfCoat := rfl
theorem mdo_12 : (qzMd 12).2.2.2.2.2.2 = 0 := rfl
theorem mdr_12 : (qzMd 12).2.2.2.1 = (some .int) := rfl
theorem mdc_13 : (qzMd 13).2.1 = cX0_piecesWith := rfl
theorem mdo_13 : (qzMd 13).2.2.2.2.2.2 = 0 := rfl
theorem mdr_13 : (qzMd 13).2.2.2.1 = (some .int) := rfl
theorem mdc_14 : (qzMd 14).2.1 = cX0_colourChanges := rfl
theorem mdo_14 : (qzMd 14).2.2.2.2.2.2 = 0 := rfl
theorem mdr_14 : (qzMd 14).2.2.2.1 = (some .int) := rfl
theorem mdc_15 : (qzMd 15).2.1 = cX0_stripesLeftOf := rfl
theorem mdo_15 : (qzMd 15).2.2.2.2.2.2 = 0 := rfl
theorem mdr_15 : (qzMd 15).2.2.2.1 = (some .int) := rfl
theorem mdc_16 : (qzMd 16).2.1 = cX0_coloursLeft := rfl
theorem mdo_16 : (qzMd 16).2.2.2.2.2.2 = 0 := rfl
theorem mdr_16 : (qzMd 16).2.2.2.1 = (some .int) := rfl
theorem mdc_17 : (qzMd 17).2.1 = cX0_longestFold := rfl
theorem mdo_17 : (qzMd 17).2.2.2.2.2.2 = 0 := rfl
theorem mdr_17 : (qzMd 17).2.2.2.1 = (some .int) := rfl
theorem mdc_18 : (qzMd 18).2.1 = cX1_init := rfl
theorem mdo_18 : (qzMd 18).2.2.2.2.2.2 = 1 := rfl
theorem mdr_18 : (qzMd 18).2.2.2.1 = none := rfl
theorem mdc_19 : (qzMd 19).2.1 = cX1_fitTo := rfl
theorem mdo_19 : (qzMd 19).2.2.2.2.2.2 = 1 := rfl
theorem mdr_19 : (qzMd 19).2.2.2.1 = none := rfl
theorem mdc_20 : (qzMd 20).2.1 = cX1_isFor := rfl
theorem mdo_20 : (qzMd 20).2.2.2.2.2.2 = 1 := rfl
theorem mdr_20 : (qzMd 20).2.2.2.1 = (some .boolean) := rfl
theorem mdc_21 : (qzMd 21).2.1 = cX1_told := rfl
theorem mdo_21 : (qzMd 21).2.2.2.2.2.2 = 1 := rfl
theorem mdr_21 : (qzMd 21).2.2.2.1 = (some .int) := rfl
theorem mdc_22 : (qzMd 22).2.1 = cX1_keep := rfl
theorem mdo_22 : (qzMd 22).2.2.2.2.2.2 = 1 := rfl
theorem mdr_22 : (qzMd 22).2.2.2.1 = none := rfl
theorem mdc_23 : (qzMd 23).2.1 = cX1_place := rfl
theorem mdo_23 : (qzMd 23).2.2.2.2.2.2 = 1 := rfl
theorem mdr_23 : (qzMd 23).2.2.2.1 = (some .int) := rfl
theorem mdc_24 : (qzMd 24).2.1 = cX2_init := rfl
theorem mdo_24 : (qzMd 24).2.2.2.2.2.2 = 2 := rfl
theorem mdr_24 : (qzMd 24).2.2.2.1 = none := rfl
theorem mdc_25 : (qzMd 25).2.1 = cX2_cut := rfl
theorem mdo_25 : (qzMd 25).2.2.2.2.2.2 = 2 := rfl
theorem mdr_25 : (qzMd 25).2.2.2.1 = (some .int) := rfl
theorem mdc_26 : (qzMd 26).2.1 = cX2_best := rfl
theorem mdo_26 : (qzMd 26).2.2.2.2.2.2 = 2 := rfl
theorem mdr_26 : (qzMd 26).2.2.2.1 = (some .int) := rfl
theorem mdc_27 : (qzMd 27).2.1 = cX2_greedy := rfl
theorem mdo_27 : (qzMd 27).2.2.2.2.2.2 = 2 := rfl
theorem mdr_27 : (qzMd 27).2.2.2.1 = (some .int) := rfl
theorem mdc_28 : (qzMd 28).2.1 = cX2_again := rfl
theorem mdo_28 : (qzMd 28).2.2.2.2.2.2 = 2 := rfl
theorem mdr_28 : (qzMd 28).2.2.2.1 = (some .int) := rfl
theorem mdc_29 : (qzMd 29).2.1 = cX2_mirror := rfl
theorem mdo_29 : (qzMd 29).2.2.2.2.2.2 = 2 := rfl
theorem mdr_29 : (qzMd 29).2.2.2.1 = (some .int) := rfl
theorem mdc_30 : (qzMd 30).2.1 = cX2_set := rfl
theorem mdo_30 : (qzMd 30).2.2.2.2.2.2 = 2 := rfl
theorem mdr_30 : (qzMd 30).2.2.2.1 = (some .int) := rfl
theorem mdc_31 : (qzMd 31).2.1 = cX2_append := rfl
theorem mdo_31 : (qzMd 31).2.2.2.2.2.2 = 2 := rfl
theorem mdr_31 : (qzMd 31).2.2.2.1 = (some .int) := rfl
theorem mdc_32 : (qzMd 32).2.1 = cX2_clear := rfl
theorem mdo_32 : (qzMd 32).2.2.2.2.2.2 = 2 := rfl
theorem mdr_32 : (qzMd 32).2.2.2.1 = (some .int) := rfl
theorem mdc_33 : (qzMd 33).2.1 = cX2_fault := rfl
theorem mdo_33 : (qzMd 33).2.2.2.2.2.2 = 2 := rfl
theorem mdr_33 : (qzMd 33).2.2.2.1 = (some .int) := rfl
theorem mdc_34 : (qzMd 34).2.1 = cX2_load := rfl
theorem mdo_34 : (qzMd 34).2.2.2.2.2.2 = 2 := rfl
theorem mdr_34 : (qzMd 34).2.2.2.1 = (some .int) := rfl
theorem mdc_35 : (qzMd 35).2.1 = cX2_play := rfl
theorem mdo_35 : (qzMd 35).2.2.2.2.2.2 = 2 := rfl
theorem mdr_35 : (qzMd 35).2.2.2.1 = (some .int) := rfl
theorem mdc_36 : (qzMd 36).2.1 = cX2_stripe := rfl
theorem mdo_36 : (qzMd 36).2.2.2.2.2.2 = 2 := rfl
theorem mdr_36 : (qzMd 36).2.2.2.1 = (some .int) := rfl
theorem mdc_37 : (qzMd 37).2.1 = cX2_coat := rfl
theorem mdo_37 : (qzMd 37).2.2.2.2.2.2 = 2 := rfl
theorem mdr_37 : (qzMd 37).2.2.2.1 = (some .int) := rfl
theorem mdc_38 : (qzMd 38).2.1 = cX2_piece := rfl
theorem mdo_38 : (qzMd 38).2.2.2.2.2.2 = 2 := rfl
theorem mdr_38 : (qzMd 38).2.2.2.1 = (some .int) := rfl
theorem mdc_39 : (qzMd 39).2.1 = cX2_count := rfl
theorem mdo_39 : (qzMd 39).2.2.2.2.2.2 = 2 := rfl
theorem mdr_39 : (qzMd 39).2.2.2.1 = (some .int) := rfl
theorem mdc_40 : (qzMd 40).2.1 = cX2_left := rfl
theorem mdo_40 : (qzMd 40).2.2.2.2.2.2 = 2 := rfl
theorem mdr_40 : (qzMd 40).2.2.2.1 = (some .int) := rfl
theorem mdc_41 : (qzMd 41).2.1 = cX2_worth := rfl
theorem mdo_41 : (qzMd 41).2.2.2.2.2.2 = 2 := rfl
theorem mdr_41 : (qzMd 41).2.2.2.1 = (some .int) := rfl
theorem mdc_42 : (qzMd 42).2.1 = cX2_lead := rfl
theorem mdo_42 : (qzMd 42).2.2.2.2.2.2 = 2 := rfl
theorem mdr_42 : (qzMd 42).2.2.2.1 = (some .int) := rfl
theorem mdc_43 : (qzMd 43).2.1 = cX2_leadWith := rfl
theorem mdo_43 : (qzMd 43).2.2.2.2.2.2 = 2 := rfl
theorem mdr_43 : (qzMd 43).2.2.2.1 = (some .int) := rfl
theorem mdc_44 : (qzMd 44).2.1 = cX2_bestCut := rfl
theorem mdo_44 : (qzMd 44).2.2.2.2.2.2 = 2 := rfl
theorem mdr_44 : (qzMd 44).2.2.2.1 = (some .int) := rfl
theorem mdc_45 : (qzMd 45).2.1 = cX2_ended := rfl
theorem mdo_45 : (qzMd 45).2.2.2.2.2.2 = 2 := rfl
theorem mdr_45 : (qzMd 45).2.2.2.1 = (some .int) := rfl
theorem mdc_46 : (qzMd 46).2.1 = cX2_rate := rfl
theorem mdo_46 : (qzMd 46).2.2.2.2.2.2 = 2 := rfl
theorem mdr_46 : (qzMd 46).2.2.2.1 = (some .double) := rfl
theorem mdc_47 : (qzMd 47).2.1 = cX2_undo := rfl
theorem mdo_47 : (qzMd 47).2.2.2.2.2.2 = 2 := rfl
theorem mdr_47 : (qzMd 47).2.2.2.1 = (some .int) := rfl
theorem mdc_48 : (qzMd 48).2.1 = cX2_save := rfl
theorem mdo_48 : (qzMd 48).2.2.2.2.2.2 = 2 := rfl
theorem mdr_48 : (qzMd 48).2.2.2.1 = (some .int) := rfl
theorem mdc_49 : (qzMd 49).2.1 = cX2_restore := rfl
theorem mdo_49 : (qzMd 49).2.2.2.2.2.2 = 2 := rfl
theorem mdr_49 : (qzMd 49).2.2.2.1 = (some .int) := rfl
theorem mdc_50 : (qzMd 50).2.1 = cX2_pastAt := rfl
theorem mdo_50 : (qzMd 50).2.2.2.2.2.2 = 2 := rfl
theorem mdr_50 : (qzMd 50).2.2.2.1 = (some (.object "BoltTailors$Game")) := rfl
theorem mdc_51 : (qzMd 51).2.1 = cX2_record := rfl
theorem mdo_51 : (qzMd 51).2.2.2.2.2.2 = 2 := rfl
theorem mdr_51 : (qzMd 51).2.2.2.1 = none := rfl
theorem mdc_52 : (qzMd 52).2.1 = cX2_dropOldest := rfl
theorem mdo_52 : (qzMd 52).2.2.2.2.2.2 = 2 := rfl
theorem mdr_52 : (qzMd 52).2.2.2.1 = none := rfl
theorem mdc_53 : (qzMd 53).2.1 = cX2_codeOf := rfl
theorem mdo_53 : (qzMd 53).2.2.2.2.2.2 = 2 := rfl
theorem mdr_53 : (qzMd 53).2.2.2.1 = (some .int) := rfl
theorem mdc_54 : (qzMd 54).2.1 = cX2_isFromLeft := rfl
theorem mdo_54 : (qzMd 54).2.2.2.2.2.2 = 2 := rfl
theorem mdr_54 : (qzMd 54).2.2.2.1 = (some .boolean) := rfl
theorem mdc_55 : (qzMd 55).2.1 = cX2_sizeOf := rfl
theorem mdo_55 : (qzMd 55).2.2.2.2.2.2 = 2 := rfl
theorem mdr_55 : (qzMd 55).2.2.2.1 = (some .int) := rfl
theorem mdc_56 : (qzMd 56).2.1 = cX2_pieceStart := rfl
theorem mdo_56 : (qzMd 56).2.2.2.2.2.2 = 2 := rfl
theorem mdr_56 : (qzMd 56).2.2.2.1 = (some .int) := rfl
theorem mdc_57 : (qzMd 57).2.1 = cX2_restStart := rfl
theorem mdo_57 : (qzMd 57).2.2.2.2.2.2 = 2 := rfl
theorem mdr_57 : (qzMd 57).2.2.2.1 = (some .int) := rfl
theorem mdc_58 : (qzMd 58).2.1 = cX2_restEnd := rfl
theorem mdo_58 : (qzMd 58).2.2.2.2.2.2 = 2 := rfl
theorem mdr_58 : (qzMd 58).2.2.2.1 = (some .int) := rfl
theorem mdc_59 : (qzMd 59).2.1 = cX2_errorOfCut := rfl
theorem mdo_59 : (qzMd 59).2.2.2.2.2.2 = 2 := rfl
theorem mdr_59 : (qzMd 59).2.2.2.1 = (some .int) := rfl
theorem mdc_60 : (qzMd 60).2.1 = cX2_cutBy := rfl
theorem mdo_60 : (qzMd 60).2.2.2.2.2.2 = 2 := rfl
theorem mdr_60 : (qzMd 60).2.2.2.1 = (some .int) := rfl
theorem mdc_61 : (qzMd 61).2.1 = cX2_choice := rfl
theorem mdo_61 : (qzMd 61).2.2.2.2.2.2 = 2 := rfl
theorem mdr_61 : (qzMd 61).2.2.2.1 = (some .int) := rfl
theorem mdc_62 : (qzMd 62).2.1 = cX2_leadTold := rfl
theorem mdo_62 : (qzMd 62).2.2.2.2.2.2 = 2 := rfl
theorem mdr_62 : (qzMd 62).2.2.2.1 = (some .int) := rfl
theorem mdc_63 : (qzMd 63).2.1 = cX2_tellRows := rfl
theorem mdo_63 : (qzMd 63).2.2.2.2.2.2 = 2 := rfl
theorem mdr_63 : (qzMd 63).2.2.2.1 = none := rfl
theorem mdc_64 : (qzMd 64).2.1 = cX2_raiseRow := rfl
theorem mdo_64 : (qzMd 64).2.2.2.2.2.2 = 2 := rfl
theorem mdr_64 : (qzMd 64).2.2.2.1 = none := rfl
theorem mdc_65 : (qzMd 65).2.1 = cX2_leadGoneInto := rfl
theorem mdo_65 : (qzMd 65).2.2.2.2.2.2 = 2 := rfl
theorem mdr_65 : (qzMd 65).2.2.2.1 = (some .int) := rfl
theorem mdc_66 : (qzMd 66).2.1 = cX2_leadOfCut := rfl
theorem mdo_66 : (qzMd 66).2.2.2.2.2.2 = 2 := rfl
theorem mdr_66 : (qzMd 66).2.2.2.1 = (some .int) := rfl
theorem mdc_67 : (qzMd 67).2.1 = cX2_goInto := rfl
theorem mdo_67 : (qzMd 67).2.2.2.2.2.2 = 2 := rfl
theorem mdr_67 : (qzMd 67).2.2.2.1 = (some .int) := rfl
theorem mdc_68 : (qzMd 68).2.1 = cX2_goThrough := rfl
theorem mdo_68 : (qzMd 68).2.2.2.2.2.2 = 2 := rfl
theorem mdr_68 : (qzMd 68).2.2.2.1 = (some .int) := rfl
theorem mdc_69 : (qzMd 69).2.1 = cX2_traitsOf := rfl
theorem mdo_69 : (qzMd 69).2.2.2.2.2.2 = 2 := rfl
theorem mdr_69 : (qzMd 69).2.2.2.1 = (some .int) := rfl
theorem mdc_70 : (qzMd 70).2.1 = cX2_worthOf := rfl
theorem mdo_70 : (qzMd 70).2.2.2.2.2.2 = 2 := rfl
theorem mdr_70 : (qzMd 70).2.2.2.1 = (some .int) := rfl
theorem mdc_71 : (qzMd 71).2.1 = cX2_isFold := rfl
theorem mdo_71 : (qzMd 71).2.2.2.2.2.2 = 2 := rfl
theorem mdr_71 : (qzMd 71).2.2.2.1 = (some .boolean) := rfl
theorem mdc_72 : (qzMd 72).2.1 = cX2_signAt := rfl
theorem mdo_72 : (qzMd 72).2.2.2.2.2.2 = 2 := rfl
theorem mdr_72 : (qzMd 72).2.2.2.1 = (some .char) := rfl
theorem mdc_73 : (qzMd 73).2.1 = cX2_digitAt := rfl
theorem mdo_73 : (qzMd 73).2.2.2.2.2.2 = 2 := rfl
theorem mdr_73 : (qzMd 73).2.2.2.1 = (some .int) := rfl
theorem mdc_74 : (qzMd 74).2.1 = cX2_isSide := rfl
theorem mdo_74 : (qzMd 74).2.2.2.2.2.2 = 2 := rfl
theorem mdr_74 : (qzMd 74).2.2.2.1 = (some .boolean) := rfl
theorem mdc_75 : (qzMd 75).2.1 = cX2_lettersAhead := rfl
theorem mdo_75 : (qzMd 75).2.2.2.2.2.2 = 2 := rfl
theorem mdr_75 : (qzMd 75).2.2.2.1 = (some .int) := rfl
theorem mdc_76 : (qzMd 76).2.1 = cX2_faultAsBolt := rfl
theorem mdo_76 : (qzMd 76).2.2.2.2.2.2 = 2 := rfl
theorem mdr_76 : (qzMd 76).2.2.2.1 = (some .int) := rfl
theorem mdc_77 : (qzMd 77).2.1 = cX2_faultBehindStar := rfl
theorem mdo_77 : (qzMd 77).2.2.2.2.2.2 = 2 := rfl
theorem mdr_77 : (qzMd 77).2.2.2.1 = (some .int) := rfl
theorem mdc_78 : (qzMd 78).2.1 = cX2_digitsOfNumber := rfl
theorem mdo_78 : (qzMd 78).2.2.2.2.2.2 = 2 := rfl
theorem mdr_78 : (qzMd 78).2.2.2.1 = (some .int) := rfl
theorem mdc_79 : (qzMd 79).2.1 = cX2_faultAsCuts := rfl
theorem mdo_79 : (qzMd 79).2.2.2.2.2.2 = 2 := rfl
theorem mdr_79 : (qzMd 79).2.2.2.1 = (some .int) := rfl
theorem mdc_80 : (qzMd 80).2.1 = cX2_layPattern := rfl
theorem mdo_80 : (qzMd 80).2.2.2.2.2.2 = 2 := rfl
theorem mdr_80 : (qzMd 80).2.2.2.1 = none := rfl
theorem mdc_81 : (qzMd 81).2.1 = cX2_layLetters := rfl
theorem mdo_81 : (qzMd 81).2.2.2.2.2.2 = 2 := rfl
theorem mdr_81 : (qzMd 81).2.2.2.1 = none := rfl
theorem mdc_82 : (qzMd 82).2.1 = cX2_codeOnPad := rfl
theorem mdo_82 : (qzMd 82).2.2.2.2.2.2 = 2 := rfl
theorem mdr_82 : (qzMd 82).2.2.2.1 = (some .int) := rfl
theorem mdc_83 : (qzMd 83).2.1 = cX2_isNoTailor := rfl
theorem mdo_83 : (qzMd 83).2.2.2.2.2.2 = 2 := rfl
theorem mdr_83 : (qzMd 83).2.2.2.1 = (some .boolean) := rfl
theorem mdc_84 : (qzMd 84).2.1 = cX2_at := rfl
theorem mdo_84 : (qzMd 84).2.2.2.2.2.2 = 2 := rfl
theorem mdr_84 : (qzMd 84).2.2.2.1 = (some .int) := rfl
theorem mdc_85 : (qzMd 85).2.1 = cX2_put := rfl
theorem mdo_85 : (qzMd 85).2.2.2.2.2.2 = 2 := rfl
theorem mdr_85 : (qzMd 85).2.2.2.1 = none := rfl
theorem mdc_86 : (qzMd 86).2.1 = cX3_init := rfl
theorem mdo_86 : (qzMd 86).2.2.2.2.2.2 = 3 := rfl
theorem mdr_86 : (qzMd 86).2.2.2.1 = none := rfl
theorem mdc_87 : (qzMd 87).2.1 = cX3_in := rfl
theorem mdo_87 : (qzMd 87).2.2.2.2.2.2 = 3 := rfl
theorem mdr_87 : (qzMd 87).2.2.2.1 = (some .boolean) := rfl
theorem mdc_88 : (qzMd 88).2.1 = cX3_copies := rfl
theorem mdo_88 : (qzMd 88).2.2.2.2.2.2 = 3 := rfl
theorem mdr_88 : (qzMd 88).2.2.2.1 = none := rfl
theorem mdc_89 : (qzMd 89).2.1 = cX3_records := rfl
theorem mdo_89 : (qzMd 89).2.2.2.2.2.2 = 3 := rfl
theorem mdr_89 : (qzMd 89).2.2.2.1 = none := rfl
theorem mdc_90 : (qzMd 90).2.1 = cX3_beginsAgain := rfl
theorem mdo_90 : (qzMd 90).2.2.2.2.2.2 = 3 := rfl
theorem mdr_90 : (qzMd 90).2.2.2.1 = none := rfl
theorem mdc_91 : (qzMd 91).2.1 = cX3_coatOf := rfl
theorem mdo_91 : (qzMd 91).2.2.2.2.2.2 = 3 := rfl
theorem mdr_91 : (qzMd 91).2.2.2.1 = (some .int) := rfl
theorem mdc_92 : (qzMd 92).2.1 = cX3_adds := rfl
theorem mdo_92 : (qzMd 92).2.2.2.2.2.2 = 3 := rfl
theorem mdr_92 : (qzMd 92).2.2.2.1 = none := rfl
theorem mdc_93 : (qzMd 93).2.1 = cX3_isOver := rfl
theorem mdo_93 : (qzMd 93).2.2.2.2.2.2 = 3 := rfl
theorem mdr_93 : (qzMd 93).2.2.2.1 = (some .boolean) := rfl
theorem mdc_94 : (qzMd 94).2.1 = cX3_firstOf := rfl
theorem mdo_94 : (qzMd 94).2.2.2.2.2.2 = 3 := rfl
theorem mdr_94 : (qzMd 94).2.2.2.1 = (some .int) := rfl
theorem mdc_95 : (qzMd 95).2.1 = cX3_folds := rfl
theorem mdo_95 : (qzMd 95).2.2.2.2.2.2 = 3 := rfl
theorem mdr_95 : (qzMd 95).2.2.2.1 = (some .boolean) := rfl
theorem mdc_96 : (qzMd 96).2.1 = cX3_matches := rfl
theorem mdo_96 : (qzMd 96).2.2.2.2.2.2 = 3 := rfl
theorem mdr_96 : (qzMd 96).2.2.2.1 = (some .boolean) := rfl
theorem mdc_97 : (qzMd 97).2.1 = cX3_worthOf := rfl
theorem mdo_97 : (qzMd 97).2.2.2.2.2.2 = 3 := rfl
theorem mdr_97 : (qzMd 97).2.2.2.1 = (some .int) := rfl
theorem mdc_98 : (qzMd 98).2.1 = cX3_goCut := rfl
theorem mdo_98 : (qzMd 98).2.2.2.2.2.2 = 3 := rfl
theorem mdr_98 : (qzMd 98).2.2.2.1 = (some .int) := rfl
theorem mdc_99 : (qzMd 99).2.1 = cX3_errorCut := rfl
theorem mdo_99 : (qzMd 99).2.2.2.2.2.2 = 3 := rfl
theorem mdr_99 : (qzMd 99).2.2.2.1 = (some .int) := rfl
theorem mdc_100 : (qzMd 100).2.1 = cX3_rowOf := rfl
theorem mdo_100 : (qzMd 100).2.2.2.2.2.2 = 3 := rfl
theorem mdr_100 : (qzMd 100).2.2.2.1 = (some .int) := rfl
theorem mdc_101 : (qzMd 101).2.1 = cX3_leadAt := rfl
theorem mdo_101 : (qzMd 101).2.2.2.2.2.2 = 3 := rfl
theorem mdr_101 : (qzMd 101).2.2.2.1 = (some .int) := rfl
theorem mdc_102 : (qzMd 102).2.1 = cX3_most := rfl
theorem mdo_102 : (qzMd 102).2.2.2.2.2.2 = 3 := rfl
theorem mdr_102 : (qzMd 102).2.2.2.1 = (some .int) := rfl
theorem mdc_103 : (qzMd 103).2.1 = cX3_leadBy := rfl
theorem mdo_103 : (qzMd 103).2.2.2.2.2.2 = 3 := rfl
theorem mdr_103 : (qzMd 103).2.2.2.1 = (some .int) := rfl
theorem mdc_104 : (qzMd 104).2.1 = cX3_laysLead := rfl
theorem mdo_104 : (qzMd 104).2.2.2.2.2.2 = 3 := rfl
theorem mdr_104 : (qzMd 104).2.2.2.1 = none := rfl
theorem mdc_105 : (qzMd 105).2.1 = cX3_laysLeads := rfl
theorem mdo_105 : (qzMd 105).2.2.2.2.2.2 = 3 := rfl
theorem mdr_105 : (qzMd 105).2.2.2.1 = none := rfl
theorem mdc_106 : (qzMd 106).2.1 = cX3_own := rfl
theorem mdo_106 : (qzMd 106).2.2.2.2.2.2 = 3 := rfl
theorem mdr_106 : (qzMd 106).2.2.2.1 = (some .int) := rfl
theorem mdc_107 : (qzMd 107).2.1 = cX3_others := rfl
theorem mdo_107 : (qzMd 107).2.2.2.2.2.2 = 3 := rfl
theorem mdr_107 : (qzMd 107).2.2.2.1 = (some .int) := rfl
theorem mdc_108 : (qzMd 108).2.1 = cX3_choice := rfl
theorem mdo_108 : (qzMd 108).2.2.2.2.2.2 = 3 := rfl
theorem mdr_108 : (qzMd 108).2.2.2.1 = (some .int) := rfl
theorem mdc_109 : (qzMd 109).2.1 = cX3_cutsBy := rfl
theorem mdo_109 : (qzMd 109).2.2.2.2.2.2 = 3 := rfl
theorem mdr_109 : (qzMd 109).2.2.2.1 = (some .int) := rfl
theorem mdc_110 : (qzMd 110).2.1 = cX3_cut := rfl
theorem mdo_110 : (qzMd 110).2.2.2.2.2.2 = 3 := rfl
theorem mdr_110 : (qzMd 110).2.2.2.1 = (some .int) := rfl
theorem mdc_111 : (qzMd 111).2.1 = cX3_best := rfl
theorem mdo_111 : (qzMd 111).2.2.2.2.2.2 = 3 := rfl
theorem mdr_111 : (qzMd 111).2.2.2.1 = (some .int) := rfl
theorem mdc_112 : (qzMd 112).2.1 = cX3_greedy := rfl
theorem mdo_112 : (qzMd 112).2.2.2.2.2.2 = 3 := rfl
theorem mdr_112 : (qzMd 112).2.2.2.1 = (some .int) := rfl
theorem mdc_113 : (qzMd 113).2.1 = cX3_again := rfl
theorem mdo_113 : (qzMd 113).2.2.2.2.2.2 = 3 := rfl
theorem mdr_113 : (qzMd 113).2.2.2.1 = (some .int) := rfl
theorem mdc_114 : (qzMd 114).2.1 = cX3_mirror := rfl
theorem mdo_114 : (qzMd 114).2.2.2.2.2.2 = 3 := rfl
theorem mdr_114 : (qzMd 114).2.2.2.1 = (some .int) := rfl
theorem mdc_115 : (qzMd 115).2.1 = cX3_set := rfl
theorem mdo_115 : (qzMd 115).2.2.2.2.2.2 = 3 := rfl
theorem mdr_115 : (qzMd 115).2.2.2.1 = (some .int) := rfl
theorem mdc_116 : (qzMd 116).2.1 = cX3_append := rfl
theorem mdo_116 : (qzMd 116).2.2.2.2.2.2 = 3 := rfl
theorem mdr_116 : (qzMd 116).2.2.2.1 = (some .int) := rfl
theorem mdc_117 : (qzMd 117).2.1 = cX3_clear := rfl
theorem mdo_117 : (qzMd 117).2.2.2.2.2.2 = 3 := rfl
theorem mdr_117 : (qzMd 117).2.2.2.1 = (some .int) := rfl
theorem mdc_118 : (qzMd 118).2.1 = cX3_here := rfl
theorem mdo_118 : (qzMd 118).2.2.2.2.2.2 = 3 := rfl
theorem mdr_118 : (qzMd 118).2.2.2.1 = (some .int) := rfl
theorem mdc_119 : (qzMd 119).2.1 = cX3_takes := rfl
theorem mdo_119 : (qzMd 119).2.2.2.2.2.2 = 3 := rfl
theorem mdr_119 : (qzMd 119).2.2.2.1 = none := rfl
theorem mdc_120 : (qzMd 120).2.1 = cX3_takesDigit := rfl
theorem mdo_120 : (qzMd 120).2.2.2.2.2.2 = 3 := rfl
theorem mdr_120 : (qzMd 120).2.2.2.1 = (some .int) := rfl
theorem mdc_121 : (qzMd 121).2.1 = cX3_isLetter := rfl
theorem mdo_121 : (qzMd 121).2.2.2.2.2.2 = 3 := rfl
theorem mdr_121 : (qzMd 121).2.2.2.1 = (some .boolean) := rfl
theorem mdc_122 : (qzMd 122).2.1 = cX3_takesRule := rfl
theorem mdo_122 : (qzMd 122).2.2.2.2.2.2 = 3 := rfl
theorem mdr_122 : (qzMd 122).2.2.2.1 = none := rfl
theorem mdc_123 : (qzMd 123).2.1 = cX3_isBolt := rfl
theorem mdo_123 : (qzMd 123).2.2.2.2.2.2 = 3 := rfl
theorem mdr_123 : (qzMd 123).2.2.2.1 = (some .boolean) := rfl
theorem mdc_124 : (qzMd 124).2.1 = cX3_takesCut := rfl
theorem mdo_124 : (qzMd 124).2.2.2.2.2.2 = 3 := rfl
theorem mdr_124 : (qzMd 124).2.2.2.1 = none := rfl
theorem mdc_125 : (qzMd 125).2.1 = cX3_areCuts := rfl
theorem mdo_125 : (qzMd 125).2.2.2.2.2.2 = 3 := rfl
theorem mdr_125 : (qzMd 125).2.2.2.1 = (some .boolean) := rfl
theorem mdc_126 : (qzMd 126).2.1 = cX3_fault := rfl
theorem mdo_126 : (qzMd 126).2.2.2.2.2.2 = 3 := rfl
theorem mdr_126 : (qzMd 126).2.2.2.1 = (some .int) := rfl
theorem mdc_127 : (qzMd 127).2.1 = cX3_load := rfl
theorem mdo_127 : (qzMd 127).2.2.2.2.2.2 = 3 := rfl
theorem mdr_127 : (qzMd 127).2.2.2.1 = (some .int) := rfl
theorem mdc_128 : (qzMd 128).2.1 = cX3_makes := rfl
theorem mdo_128 : (qzMd 128).2.2.2.2.2.2 = 3 := rfl
theorem mdr_128 : (qzMd 128).2.2.2.1 = (some .boolean) := rfl
theorem mdc_129 : (qzMd 129).2.1 = cX3_play := rfl
theorem mdo_129 : (qzMd 129).2.2.2.2.2.2 = 3 := rfl
theorem mdr_129 : (qzMd 129).2.2.2.1 = (some .int) := rfl
theorem mdc_130 : (qzMd 130).2.1 = cX3_stripe := rfl
theorem mdo_130 : (qzMd 130).2.2.2.2.2.2 = 3 := rfl
theorem mdr_130 : (qzMd 130).2.2.2.1 = (some .int) := rfl
theorem mdc_131 : (qzMd 131).2.1 = cX3_coat := rfl
theorem mdo_131 : (qzMd 131).2.2.2.2.2.2 = 3 := rfl
theorem mdr_131 : (qzMd 131).2.2.2.1 = (some .int) := rfl
theorem mdc_132 : (qzMd 132).2.1 = cX3_piece := rfl
theorem mdo_132 : (qzMd 132).2.2.2.2.2.2 = 3 := rfl
theorem mdr_132 : (qzMd 132).2.2.2.1 = (some .int) := rfl
theorem mdc_133 : (qzMd 133).2.1 = cX3_changes := rfl
theorem mdo_133 : (qzMd 133).2.2.2.2.2.2 = 3 := rfl
theorem mdr_133 : (qzMd 133).2.2.2.1 = (some .int) := rfl
theorem mdc_134 : (qzMd 134).2.1 = cX3_leftOf := rfl
theorem mdo_134 : (qzMd 134).2.2.2.2.2.2 = 3 := rfl
theorem mdr_134 : (qzMd 134).2.2.2.1 = (some .int) := rfl
theorem mdc_135 : (qzMd 135).2.1 = cX3_coloursLeft := rfl
theorem mdo_135 : (qzMd 135).2.2.2.2.2.2 = 3 := rfl
theorem mdr_135 : (qzMd 135).2.2.2.1 = (some .int) := rfl
theorem mdc_136 : (qzMd 136).2.1 = cX3_longestFold := rfl
theorem mdo_136 : (qzMd 136).2.2.2.2.2.2 = 3 := rfl
theorem mdr_136 : (qzMd 136).2.2.2.1 = (some .int) := rfl
theorem mdc_137 : (qzMd 137).2.1 = cX3_count := rfl
theorem mdo_137 : (qzMd 137).2.2.2.2.2.2 = 3 := rfl
theorem mdr_137 : (qzMd 137).2.2.2.1 = (some .int) := rfl
theorem mdc_138 : (qzMd 138).2.1 = cX3_left := rfl
theorem mdo_138 : (qzMd 138).2.2.2.2.2.2 = 3 := rfl
theorem mdr_138 : (qzMd 138).2.2.2.1 = (some .int) := rfl
theorem mdc_139 : (qzMd 139).2.1 = cX3_worth := rfl
theorem mdo_139 : (qzMd 139).2.2.2.2.2.2 = 3 := rfl
theorem mdr_139 : (qzMd 139).2.2.2.1 = (some .int) := rfl
theorem mdc_140 : (qzMd 140).2.1 = cX3_lead := rfl
theorem mdo_140 : (qzMd 140).2.2.2.2.2.2 = 3 := rfl
theorem mdr_140 : (qzMd 140).2.2.2.1 = (some .int) := rfl
theorem mdc_141 : (qzMd 141).2.1 = cX3_leadWith := rfl
theorem mdo_141 : (qzMd 141).2.2.2.2.2.2 = 3 := rfl
theorem mdr_141 : (qzMd 141).2.2.2.1 = (some .int) := rfl
theorem mdc_142 : (qzMd 142).2.1 = cX3_bestCut := rfl
theorem mdo_142 : (qzMd 142).2.2.2.2.2.2 = 3 := rfl
theorem mdr_142 : (qzMd 142).2.2.2.1 = (some .int) := rfl
theorem mdc_143 : (qzMd 143).2.1 = cX3_ended := rfl
theorem mdo_143 : (qzMd 143).2.2.2.2.2.2 = 3 := rfl
theorem mdr_143 : (qzMd 143).2.2.2.1 = (some .int) := rfl
theorem mdc_144 : (qzMd 144).2.1 = cX3_rate := rfl
theorem mdo_144 : (qzMd 144).2.2.2.2.2.2 = 3 := rfl
theorem mdr_144 : (qzMd 144).2.2.2.1 = (some .double) := rfl
theorem mdc_145 : (qzMd 145).2.1 = cX3_undo := rfl
theorem mdo_145 : (qzMd 145).2.2.2.2.2.2 = 3 := rfl
theorem mdr_145 : (qzMd 145).2.2.2.1 = (some .int) := rfl
theorem mdc_146 : (qzMd 146).2.1 = cX3_save := rfl
theorem mdo_146 : (qzMd 146).2.2.2.2.2.2 = 3 := rfl
theorem mdr_146 : (qzMd 146).2.2.2.1 = (some .int) := rfl
theorem mdc_147 : (qzMd 147).2.1 = cX3_restore := rfl
theorem mdo_147 : (qzMd 147).2.2.2.2.2.2 = 3 := rfl
theorem mdr_147 : (qzMd 147).2.2.2.1 = (some .int) := rfl
theorem mdc_148 : (qzMd 148).2.1 = cJ7_fill_53178 := rfl
theorem mdo_148 : (qzMd 148).2.2.2.2.2.2 = 4 := rfl
theorem mdr_148 : (qzMd 148).2.2.2.1 = none := rfl
section QC
variable {d mi pc : Nat} {ls st : List Value} {hp : qzH} {cc : ByteArray}
theorem qv_iconst {n : Int} {v : Int32} {pc' : Nat} (hc : (qzMd mi).2.1 = cc) (hd : decode cc pc = .ok (.iconst n, 1)) (hv : Int32.ofInt n = v) (hp' : pc + 1 = pc') : qzV d mi pc ls st hp = qzV d mi pc' ls (.int v :: st) hp := by
  subst hv
  exact qv_push hc hd rfl hp'
theorem qv_bipush {n : Int} {v : Int32} {pc' : Nat} (hc : (qzMd mi).2.1 = cc) (hd : decode cc pc = .ok (.bipush n, 2)) (hv : (Int8.ofInt n).toInt32 = v) (hp' : pc + 2 = pc') : qzV d mi pc ls st hp = qzV d mi pc' ls (.int v :: st) hp := by
  subst hv
  exact qv_push hc hd rfl hp'
theorem qv_sipush {n : Int} {v : Int32} {pc' : Nat} (hc : (qzMd mi).2.1 = cc) (hd : decode cc pc = .ok (.sipush n, 3)) (hv : (Int16.ofInt n).toInt32 = v) (hp' : pc + 3 = pc') : qzV d mi pc ls st hp = qzV d mi pc' ls (.int v :: st) hp := by
  subst hv
  exact qv_push hc hd rfl hp'
end QC
