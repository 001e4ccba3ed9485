set_option maxRecDepth 20000 in
theorem lk_30_9 : am_lk 30 9 = some (2, 0, mX12_init) := am_lk_of (a := 30) (b := 9) 0 (by decide +kernel) rfl
set_option maxRecDepth 20000 in
theorem lk_12_1 : am_lk 12 1 = some (4, 0, mX8_xOf) := am_lk_of (a := 12) (b := 1) 1 (by decide +kernel) rfl
set_option maxRecDepth 20000 in
theorem lk_12_22 : am_lk 12 22 = some (2, 0, mX10_init) := am_lk_of (a := 12) (b := 22) 2 (by decide +kernel) rfl
set_option maxRecDepth 20000 in
theorem lk_10_3 : am_lk 10 3 = some (4, 0, mX8_xOf) := am_lk_of (a := 10) (b := 3) 3 (by decide +kernel) rfl
set_option maxRecDepth 20000 in
theorem lk_1_5 : am_lk 1 5 = some (4, 0, mX8_xOf) := am_lk_of (a := 1) (b := 5) 4 (by decide +kernel) rfl
set_option maxRecDepth 20000 in
theorem lk_10_59 : am_lk 10 59 = some (0, 0, mX10_clear) := am_lk_of (a := 10) (b := 59) 5 (by decide +kernel) rfl
set_option maxRecDepth 20000 in
theorem lk_10_62 : am_lk 10 62 = some (0, 0, mX1_clear) := am_lk_of (a := 10) (b := 62) 6 (by decide +kernel) rfl
set_option maxRecDepth 20000 in
theorem lk_1_27 : am_lk 1 27 = some (0, 1, mX1_startLaw) := am_lk_of (a := 1) (b := 27) 7 (by decide +kernel) rfl
set_option maxRecDepth 20000 in
theorem lk_1_31 : am_lk 1 31 = some (0, 2, mX1_addStep) := am_lk_of (a := 1) (b := 31) 8 (by decide +kernel) rfl
set_option maxRecDepth 20000 in
theorem lk_9_3 : am_lk 9 3 = some (4, 0, mX8_xOf) := am_lk_of (a := 9) (b := 3) 9 (by decide +kernel) rfl
set_option maxRecDepth 20000 in
theorem lk_9_11 : am_lk 9 11 = some (2, 0, mX11_init) := am_lk_of (a := 9) (b := 11) 10 (by decide +kernel) rfl
set_option maxRecDepth 20000 in
theorem lk_11_3 : am_lk 11 3 = some (4, 0, mX8_xOf) := am_lk_of (a := 11) (b := 3) 11 (by decide +kernel) rfl
set_option maxRecDepth 20000 in
theorem lk_11_51 : am_lk 11 51 = some (0, 0, mJ0_length_8abf5) := am_lk_of (a := 11) (b := 51) 12 (by decide +kernel) rfl
set_option maxRecDepth 20000 in
theorem lk_20_335 : am_lk 20 335 = some (0, 0, mJ0_coder_7d493) := am_lk_of (a := 20) (b := 335) 13 (by decide +kernel) rfl
set_option maxRecDepth 20000 in
theorem lk_11_56 : am_lk 11 56 = some (0, 1, mJ0_charAt_5068e) := am_lk_of (a := 11) (b := 56) 14 (by decide +kernel) rfl
set_option maxRecDepth 20000 in
theorem lk_20_492 : am_lk 20 492 = some (0, 0, mJ0_isLatin1_aae02) := am_lk_of (a := 20) (b := 492) 15 (by decide +kernel) rfl
set_option maxRecDepth 20000 in
theorem lk_20_495 : am_lk 20 495 = some (1, 2, mJ1_charAt_3b067) := am_lk_of (a := 20) (b := 495) 16 (by decide +kernel) rfl
set_option maxRecDepth 20000 in
theorem lk_21_9 : am_lk 21 9 = some (1, 2, mJ0_checkIndex_df160) := am_lk_of (a := 21) (b := 9) 17 (by decide +kernel) rfl
set_option maxRecDepth 20000 in
theorem lk_20_1059 : am_lk 20 1059 = some (1, 3, mJ3_checkIndex_8e157) := am_lk_of (a := 20) (b := 1059) 18 (by decide +kernel) rfl
set_option maxRecDepth 20000 in
theorem lk_20_498 : am_lk 20 498 = some (1, 2, mJ2_charAt_3b067) := am_lk_of (a := 20) (b := 498) 19 (by decide +kernel) rfl
set_option maxRecDepth 20000 in
theorem lk_22_67 : am_lk 22 67 = some (1, 2, mJ2_checkIndex_2214a) := am_lk_of (a := 22) (b := 67) 20 (by decide +kernel) rfl
set_option maxRecDepth 20000 in
theorem lk_22_48 : am_lk 22 48 = some (1, 1, mJ2_length_9d52b) := am_lk_of (a := 22) (b := 48) 21 (by decide +kernel) rfl
set_option maxRecDepth 20000 in
theorem lk_22_414 : am_lk 22 414 = some (1, 2, mJ0_checkIndex_df160) := am_lk_of (a := 22) (b := 414) 22 (by decide +kernel) rfl
set_option maxRecDepth 20000 in
theorem lk_22_71 : am_lk 22 71 = some (1, 2, mJ2_getChar_3b067) := am_lk_of (a := 22) (b := 71) 23 (by decide +kernel) rfl
set_option maxRecDepth 20000 in
theorem lk_9_41 : am_lk 9 41 = some (2, 0, mX10_init) := am_lk_of (a := 9) (b := 41) 24 (by decide +kernel) rfl
set_option maxRecDepth 20000 in
theorem lk_12_36 : am_lk 12 36 = some (2, 1, mX0_init) := am_lk_of (a := 12) (b := 36) 25 (by decide +kernel) rfl
set_option maxRecDepth 20000 in
theorem lk_0_3 : am_lk 0 3 = some (4, 0, mX8_xOf) := am_lk_of (a := 0) (b := 3) 26 (by decide +kernel) rfl
set_option maxRecDepth 20000 in
theorem lk_3_3 : am_lk 3 3 = some (4, 0, mX8_xOf) := am_lk_of (a := 3) (b := 3) 27 (by decide +kernel) rfl
set_option maxRecDepth 20000 in
theorem lk_6_3 : am_lk 6 3 = some (4, 0, mX8_xOf) := am_lk_of (a := 6) (b := 3) 28 (by decide +kernel) rfl
set_option maxRecDepth 20000 in
theorem lk_12_59 : am_lk 12 59 = some (2, 2, mX7_init) := am_lk_of (a := 12) (b := 59) 29 (by decide +kernel) rfl
set_option maxRecDepth 20000 in
theorem lk_7_3 : am_lk 7 3 = some (4, 0, mX8_xOf) := am_lk_of (a := 7) (b := 3) 30 (by decide +kernel) rfl
set_option maxRecDepth 20000 in
theorem lk_12_68 : am_lk 12 68 = some (2, 2, mX4_init) := am_lk_of (a := 12) (b := 68) 31 (by decide +kernel) rfl
set_option maxRecDepth 20000 in
theorem lk_4_3 : am_lk 4 3 = some (4, 0, mX8_xOf) := am_lk_of (a := 4) (b := 3) 32 (by decide +kernel) rfl
set_option maxRecDepth 20000 in
theorem lk_12_75 : am_lk 12 75 = some (2, 2, mX5_init) := am_lk_of (a := 12) (b := 75) 33 (by decide +kernel) rfl
set_option maxRecDepth 20000 in
theorem lk_5_3 : am_lk 5 3 = some (4, 0, mX8_xOf) := am_lk_of (a := 5) (b := 3) 34 (by decide +kernel) rfl
set_option maxRecDepth 20000 in
theorem lk_12_82 : am_lk 12 82 = some (2, 1, mX2_init) := am_lk_of (a := 12) (b := 82) 35 (by decide +kernel) rfl
set_option maxRecDepth 20000 in
theorem lk_2_3 : am_lk 2 3 = some (4, 0, mX8_xOf) := am_lk_of (a := 2) (b := 3) 36 (by decide +kernel) rfl
set_option maxRecDepth 20000 in
theorem lk_30_13 : am_lk 30 13 = some (0, 5, mX12_feed) := am_lk_of (a := 30) (b := 13) 37 (by decide +kernel) rfl
set_option maxRecDepth 20000 in
theorem lk_12_87 : am_lk 12 87 = some (0, 1, mX12_putWord) := am_lk_of (a := 12) (b := 87) 38 (by decide +kernel) rfl
set_option maxRecDepth 20000 in
theorem lk_30_18 : am_lk 30 18 = some (0, 1, mX12_back) := am_lk_of (a := 30) (b := 18) 39 (by decide +kernel) rfl
set_option maxRecDepth 20000 in
theorem lk_30_23 : am_lk 30 23 = some (0, 0, mX12_read) := am_lk_of (a := 30) (b := 23) 40 (by decide +kernel) rfl
set_option maxRecDepth 20000 in
theorem lk_12_91 : am_lk 12 91 = some (0, 2, mX9_faultOf) := am_lk_of (a := 12) (b := 91) 41 (by decide +kernel) rfl
set_option maxRecDepth 20000 in
theorem lk_9_49 : am_lk 9 49 = some (0, 0, mX10_clear) := am_lk_of (a := 9) (b := 49) 42 (by decide +kernel) rfl
set_option maxRecDepth 20000 in
theorem lk_9_52 : am_lk 9 52 = some (0, 2, mX11_cut) := am_lk_of (a := 9) (b := 52) 43 (by decide +kernel) rfl
set_option maxRecDepth 20000 in
theorem lk_11_60 : am_lk 11 60 = some (7, 0, mX8_xOf) := am_lk_of (a := 11) (b := 60) 44 (by decide +kernel) rfl
set_option maxRecDepth 20000 in
theorem lk_11_66 : am_lk 11 66 = some (0, 0, mX11_cutOne) := am_lk_of (a := 11) (b := 66) 45 (by decide +kernel) rfl
set_option maxRecDepth 20000 in
theorem lk_11_72 : am_lk 11 72 = some (1, 1, mX11_isBlank) := am_lk_of (a := 11) (b := 72) 46 (by decide +kernel) rfl
set_option maxRecDepth 20000 in
theorem lk_11_76 : am_lk 11 76 = some (0, 0, mX11_cutLetters) := am_lk_of (a := 11) (b := 76) 47 (by decide +kernel) rfl
set_option maxRecDepth 20000 in
theorem lk_11_79 : am_lk 11 79 = some (0, 0, mX11_cutDigits) := am_lk_of (a := 11) (b := 79) 48 (by decide +kernel) rfl
set_option maxRecDepth 20000 in
theorem lk_11_84 : am_lk 11 84 = some (0, 1, mJ0_indexOf_0f7a4) := am_lk_of (a := 11) (b := 84) 49 (by decide +kernel) rfl
set_option maxRecDepth 20000 in
theorem lk_20_633 : am_lk 20 633 = some (0, 2, mJ0_indexOf_7cf53) := am_lk_of (a := 20) (b := 633) 50 (by decide +kernel) rfl
set_option maxRecDepth 20000 in
theorem lk_20_505 : am_lk 20 505 = some (0, 0, mJ0_length_8abf5) := am_lk_of (a := 20) (b := 505) 51 (by decide +kernel) rfl
set_option maxRecDepth 20000 in
theorem lk_20_637 : am_lk 20 637 = some (1, 4, mJ1_indexOf_4cfef) := am_lk_of (a := 20) (b := 637) 52 (by decide +kernel) rfl
set_option maxRecDepth 20000 in
theorem lk_21_88 : am_lk 21 88 = some (1, 1, mJ1_canEncode_9a6ad) := am_lk_of (a := 21) (b := 88) 53 (by decide +kernel) rfl
set_option maxRecDepth 20000 in
theorem lk_21_92 : am_lk 21 92 = some (6, 0, mX8_xOf) := am_lk_of (a := 21) (b := 92) 54 (by decide +kernel) rfl
set_option maxRecDepth 20000 in
theorem lk_21_38 : am_lk 21 38 = some (7, 0, mX8_xOf) := am_lk_of (a := 21) (b := 38) 55 (by decide +kernel) rfl
set_option maxRecDepth 20000 in
theorem lk_21_95 : am_lk 21 95 = some (1, 4, mJ1_indexOfChar_4cfef) := am_lk_of (a := 21) (b := 95) 56 (by decide +kernel) rfl
set_option maxRecDepth 20000 in
theorem lk_20_640 : am_lk 20 640 = some (1, 4, mJ2_indexOf_4cfef) := am_lk_of (a := 20) (b := 640) 57 (by decide +kernel) rfl
set_option maxRecDepth 20000 in
theorem lk_22_224 : am_lk 22 224 = some (6, 0, mX8_xOf) := am_lk_of (a := 22) (b := 224) 58 (by decide +kernel) rfl
set_option maxRecDepth 20000 in
theorem lk_22_183 : am_lk 22 183 = some (7, 0, mX8_xOf) := am_lk_of (a := 22) (b := 183) 59 (by decide +kernel) rfl
set_option maxRecDepth 20000 in
theorem lk_22_228 : am_lk 22 228 = some (1, 4, mJ2_indexOfChar_4cfef) := am_lk_of (a := 22) (b := 228) 60 (by decide +kernel) rfl
set_option maxRecDepth 20000 in
theorem lk_22_96 : am_lk 22 96 = some (1, 3, mJ2_checkBoundsBeginEnd_d044e) := am_lk_of (a := 22) (b := 96) 61 (by decide +kernel) rfl
set_option maxRecDepth 20000 in
theorem lk_22_241 : am_lk 22 241 = some (1, 3, mJ0_checkBoundsBeginEnd_23922) := am_lk_of (a := 22) (b := 241) 62 (by decide +kernel) rfl
set_option maxRecDepth 20000 in
theorem lk_20_1062 : am_lk 20 1062 = some (1, 4, mJ3_checkFromToIndex_8c36e) := am_lk_of (a := 20) (b := 1062) 63 (by decide +kernel) rfl
set_option maxRecDepth 20000 in
theorem lk_22_244 : am_lk 22 244 = some (1, 4, mJ2_indexOfCharUnsafe_4cfef) := am_lk_of (a := 22) (b := 244) 64 (by decide +kernel) rfl
set_option maxRecDepth 20000 in
theorem lk_22_232 : am_lk 22 232 = some (1, 4, mJ2_indexOfSupplementary_4cfef) := am_lk_of (a := 22) (b := 232) 65 (by decide +kernel) rfl
set_option maxRecDepth 20000 in
theorem lk_22_164 : am_lk 22 164 = some (1, 1, mJ11_isValidCodePoint_9a6ad) := am_lk_of (a := 22) (b := 164) 66 (by decide +kernel) rfl
set_option maxRecDepth 20000 in
theorem lk_22_157 : am_lk 22 157 = some (1, 1, mJ11_highSurrogate_5068e) := am_lk_of (a := 22) (b := 157) 67 (by decide +kernel) rfl
set_option maxRecDepth 20000 in
theorem lk_22_161 : am_lk 22 161 = some (1, 1, mJ11_lowSurrogate_5068e) := am_lk_of (a := 22) (b := 161) 68 (by decide +kernel) rfl
set_option maxRecDepth 20000 in
theorem lk_11_69 : am_lk 11 69 = some (0, 0, mX11_showNext) := am_lk_of (a := 11) (b := 69) 69 (by decide +kernel) rfl
set_option maxRecDepth 20000 in
theorem lk_9_59 : am_lk 9 59 = some (0, 0, mX9_puppetTold) := am_lk_of (a := 9) (b := 59) 70 (by decide +kernel) rfl
set_option maxRecDepth 20000 in
theorem lk_9_79 : am_lk 9 79 = some (0, 1, mX9_fail) := am_lk_of (a := 9) (b := 79) 71 (by decide +kernel) rfl
set_option maxRecDepth 20000 in
theorem lk_9_88 : am_lk 9 88 = some (0, 0, mX9_step) := am_lk_of (a := 9) (b := 88) 72 (by decide +kernel) rfl
set_option maxRecDepth 20000 in
theorem lk_9_85 : am_lk 9 85 = some (0, 0, mX11_showNext) := am_lk_of (a := 9) (b := 85) 73 (by decide +kernel) rfl
set_option maxRecDepth 20000 in
theorem lk_9_106 : am_lk 9 106 = some (0, 1, mX9_takeNewName) := am_lk_of (a := 9) (b := 106) 74 (by decide +kernel) rfl
set_option maxRecDepth 20000 in
theorem lk_9_99 : am_lk 9 99 = some (0, 0, mX9_indexOfName) := am_lk_of (a := 9) (b := 99) 75 (by decide +kernel) rfl
set_option maxRecDepth 20000 in
theorem lk_9_95 : am_lk 9 95 = some (0, 1, mX9_note) := am_lk_of (a := 9) (b := 95) 76 (by decide +kernel) rfl
set_option maxRecDepth 20000 in
theorem lk_9_109 : am_lk 9 109 = some (0, 1, mX9_takeInt) := am_lk_of (a := 9) (b := 109) 77 (by decide +kernel) rfl
set_option maxRecDepth 20000 in
theorem lk_9_115 : am_lk 9 115 = some (1, 3, mX8_shifted) := am_lk_of (a := 9) (b := 115) 78 (by decide +kernel) rfl
set_option maxRecDepth 20000 in
theorem lk_9_124 : am_lk 9 124 = some (0, 1, mX9_take) := am_lk_of (a := 9) (b := 124) 79 (by decide +kernel) rfl
set_option maxRecDepth 20000 in
theorem lk_9_63 : am_lk 9 63 = some (0, 0, mX9_stringTold) := am_lk_of (a := 9) (b := 63) 80 (by decide +kernel) rfl
set_option maxRecDepth 20000 in
theorem lk_9_130 : am_lk 9 130 = some (0, 0, mX9_takePuppetName) := am_lk_of (a := 9) (b := 130) 81 (by decide +kernel) rfl
set_option maxRecDepth 20000 in
theorem lk_9_66 : am_lk 9 66 = some (0, 0, mX9_childTold) := am_lk_of (a := 9) (b := 66) 82 (by decide +kernel) rfl
set_option maxRecDepth 20000 in
theorem lk_9_69 : am_lk 9 69 = some (0, 1, mX9_lawTold) := am_lk_of (a := 9) (b := 69) 83 (by decide +kernel) rfl
set_option maxRecDepth 20000 in
theorem lk_9_161 : am_lk 9 161 = some (0, 1, mX1_startLaw) := am_lk_of (a := 9) (b := 161) 84 (by decide +kernel) rfl
set_option maxRecDepth 20000 in
theorem lk_9_166 : am_lk 9 166 = some (0, 1, mX9_sum) := am_lk_of (a := 9) (b := 166) 85 (by decide +kernel) rfl
set_option maxRecDepth 20000 in
theorem lk_9_179 : am_lk 9 179 = some (0, 1, mX9_product) := am_lk_of (a := 9) (b := 179) 86 (by decide +kernel) rfl
set_option maxRecDepth 20000 in
theorem lk_9_182 : am_lk 9 182 = some (0, 1, mX9_unit) := am_lk_of (a := 9) (b := 182) 87 (by decide +kernel) rfl
set_option maxRecDepth 20000 in
theorem lk_9_172 : am_lk 9 172 = some (0, 2, mX1_addStep) := am_lk_of (a := 9) (b := 172) 88 (by decide +kernel) rfl
set_option maxRecDepth 20000 in
theorem lk_9_176 : am_lk 9 176 = some (0, 1, mX1_landHere) := am_lk_of (a := 9) (b := 176) 89 (by decide +kernel) rfl
set_option maxRecDepth 20000 in
theorem lk_9_73 : am_lk 9 73 = some (0, 0, mX9_stormTold) := am_lk_of (a := 9) (b := 73) 90 (by decide +kernel) rfl
set_option maxRecDepth 20000 in
theorem lk_9_76 : am_lk 9 76 = some (0, 0, mX9_seedTold) := am_lk_of (a := 9) (b := 76) 91 (by decide +kernel) rfl
set_option maxRecDepth 20000 in
theorem lk_12_99 : am_lk 12 99 = some (0, 1, mX10_copyFrom) := am_lk_of (a := 12) (b := 99) 92 (by decide +kernel) rfl
set_option maxRecDepth 20000 in
theorem lk_10_63 : am_lk 10 63 = some (5, 0, mX8_xOf) := am_lk_of (a := 10) (b := 63) 93 (by decide +kernel) rfl
set_option maxRecDepth 20000 in
theorem lk_10_69 : am_lk 10 69 = some (0, 1, mX1_copyFrom) := am_lk_of (a := 10) (b := 69) 94 (by decide +kernel) rfl
set_option maxRecDepth 20000 in
theorem lk_1_35 : am_lk 1 35 = some (5, 0, mX8_xOf) := am_lk_of (a := 1) (b := 35) 95 (by decide +kernel) rfl
set_option maxRecDepth 20000 in
theorem lk_12_105 : am_lk 12 105 = some (0, 1, mX3_begin) := am_lk_of (a := 12) (b := 105) 96 (by decide +kernel) rfl
set_option maxRecDepth 20000 in
theorem lk_3_55 : am_lk 3 55 = some (1, 2, mJ7_fill_53178) := am_lk_of (a := 3) (b := 55) 97 (by decide +kernel) rfl
set_option maxRecDepth 20000 in
theorem lk_3_61 : am_lk 3 61 = some (0, 1, mX3_openCase) := am_lk_of (a := 3) (b := 61) 98 (by decide +kernel) rfl
set_option maxRecDepth 20000 in
theorem lk_12_108 : am_lk 12 108 = some (0, 0, mX6_clear) := am_lk_of (a := 12) (b := 108) 99 (by decide +kernel) rfl
set_option maxRecDepth 20000 in
theorem lk_30_28 : am_lk 30 28 = some (0, 0, mX12_place) := am_lk_of (a := 30) (b := 28) 100 (by decide +kernel) rfl
set_option maxRecDepth 20000 in
theorem lk_30_32 : am_lk 30 32 = some (0, 2, mX12_puppet) := am_lk_of (a := 30) (b := 32) 101 (by decide +kernel) rfl
set_option maxRecDepth 20000 in
theorem lk_12_114 : am_lk 12 114 = some (0, 1, mX10_hasPuppet) := am_lk_of (a := 12) (b := 114) 102 (by decide +kernel) rfl
set_option maxRecDepth 20000 in
theorem lk_12_121 : am_lk 12 121 = some (1, 2, mX8_xOf) := am_lk_of (a := 12) (b := 121) 103 (by decide +kernel) rfl
set_option maxRecDepth 20000 in
theorem lk_12_127 : am_lk 12 127 = some (1, 2, mX8_headOf) := am_lk_of (a := 12) (b := 127) 104 (by decide +kernel) rfl
set_option maxRecDepth 20000 in
theorem lk_12_130 : am_lk 12 130 = some (1, 2, mX8_handOf) := am_lk_of (a := 12) (b := 130) 105 (by decide +kernel) rfl
set_option maxRecDepth 20000 in
theorem lk_12_137 : am_lk 12 137 = some (0, 1, mX10_stringsOf) := am_lk_of (a := 12) (b := 137) 106 (by decide +kernel) rfl
set_option maxRecDepth 20000 in
theorem lk_30_37 : am_lk 30 37 = some (0, 2, mX12_string) := am_lk_of (a := 30) (b := 37) 107 (by decide +kernel) rfl
set_option maxRecDepth 20000 in
theorem lk_12_141 : am_lk 12 141 = some (0, 1, mX10_hasString) := am_lk_of (a := 12) (b := 141) 108 (by decide +kernel) rfl
set_option maxRecDepth 20000 in
theorem lk_30_41 : am_lk 30 41 = some (0, 1, mX12_court) := am_lk_of (a := 30) (b := 41) 109 (by decide +kernel) rfl
set_option maxRecDepth 20000 in
theorem lk_12_165 : am_lk 12 165 = some (1, 1, mX8_apart) := am_lk_of (a := 12) (b := 165) 110 (by decide +kernel) rfl
set_option maxRecDepth 20000 in
theorem lk_8_11 : am_lk 8 11 = some (1, 2, mX8_xOf) := am_lk_of (a := 8) (b := 11) 111 (by decide +kernel) rfl
set_option maxRecDepth 20000 in
theorem lk_12_168 : am_lk 12 168 = some (0, 1, mX10_tanglesIn) := am_lk_of (a := 12) (b := 168) 112 (by decide +kernel) rfl
set_option maxRecDepth 20000 in
theorem lk_10_77 : am_lk 10 77 = some (1, 2, mX8_xOf) := am_lk_of (a := 10) (b := 77) 113 (by decide +kernel) rfl
set_option maxRecDepth 20000 in
theorem lk_12_171 : am_lk 12 171 = some (1, 1, mX8_nods) := am_lk_of (a := 12) (b := 171) 114 (by decide +kernel) rfl
set_option maxRecDepth 20000 in
theorem lk_8_15 : am_lk 8 15 = some (1, 1, mJ6_bitCount_0f7a4) := am_lk_of (a := 8) (b := 15) 115 (by decide +kernel) rfl
set_option maxRecDepth 20000 in
theorem lk_30_45 : am_lk 30 45 = some (0, 1, mX12_may) := am_lk_of (a := 30) (b := 45) 116 (by decide +kernel) rfl
set_option maxRecDepth 20000 in
theorem lk_12_177 : am_lk 12 177 = some (0, 2, mX12_mayBy) := am_lk_of (a := 12) (b := 177) 117 (by decide +kernel) rfl
set_option maxRecDepth 20000 in
theorem lk_12_181 : am_lk 12 181 = some (0, 4, mX0_allows) := am_lk_of (a := 12) (b := 181) 118 (by decide +kernel) rfl
set_option maxRecDepth 20000 in
theorem lk_0_36 : am_lk 0 36 = some (0, 1, mX10_hasString) := am_lk_of (a := 0) (b := 36) 119 (by decide +kernel) rfl
set_option maxRecDepth 20000 in
theorem lk_0_43 : am_lk 0 43 = some (0, 2, mX10_moved) := am_lk_of (a := 0) (b := 43) 120 (by decide +kernel) rfl
set_option maxRecDepth 20000 in
theorem lk_10_73 : am_lk 10 73 = some (0, 1, mX10_hasString) := am_lk_of (a := 10) (b := 73) 121 (by decide +kernel) rfl
set_option maxRecDepth 20000 in
theorem lk_10_83 : am_lk 10 83 = some (1, 3, mX8_shifted) := am_lk_of (a := 10) (b := 83) 122 (by decide +kernel) rfl
set_option maxRecDepth 20000 in
theorem lk_10_87 : am_lk 10 87 = some (1, 3, mX8_turned) := am_lk_of (a := 10) (b := 87) 123 (by decide +kernel) rfl
set_option maxRecDepth 20000 in
theorem lk_0_47 : am_lk 0 47 = some (0, 2, mX0_set) := am_lk_of (a := 0) (b := 47) 124 (by decide +kernel) rfl
set_option maxRecDepth 20000 in
theorem lk_0_19 : am_lk 0 19 = some (1, 1, mX8_apart) := am_lk_of (a := 0) (b := 19) 125 (by decide +kernel) rfl
set_option maxRecDepth 20000 in
theorem lk_0_25 : am_lk 0 25 = some (0, 1, mX10_tanglesIn) := am_lk_of (a := 0) (b := 25) 126 (by decide +kernel) rfl
set_option maxRecDepth 20000 in
theorem lk_0_30 : am_lk 0 30 = some (1, 1, mX8_nods) := am_lk_of (a := 0) (b := 30) 127 (by decide +kernel) rfl
set_option maxRecDepth 20000 in
theorem lk_0_33 : am_lk 0 33 = some (1, 1, mX8_judgesHand) := am_lk_of (a := 0) (b := 33) 128 (by decide +kernel) rfl
set_option maxRecDepth 20000 in
theorem lk_8_21 : am_lk 8 21 = some (1, 2, mX8_handOf) := am_lk_of (a := 8) (b := 21) 129 (by decide +kernel) rfl
set_option maxRecDepth 20000 in
theorem lk_0_54 : am_lk 0 54 = some (1, 2, mX8_xOf) := am_lk_of (a := 0) (b := 54) 130 (by decide +kernel) rfl
set_option maxRecDepth 20000 in
theorem lk_0_61 : am_lk 0 61 = some (0, 2, mX1_valueOf) := am_lk_of (a := 0) (b := 61) 131 (by decide +kernel) rfl
set_option maxRecDepth 20000 in
theorem lk_1_41 : am_lk 1 41 = some (1, 3, mX1_joined) := am_lk_of (a := 1) (b := 41) 132 (by decide +kernel) rfl
set_option maxRecDepth 20000 in
theorem lk_30_49 : am_lk 30 49 = some (0, 1, mX12_pull) := am_lk_of (a := 30) (b := 49) 133 (by decide +kernel) rfl
set_option maxRecDepth 20000 in
theorem lk_12_185 : am_lk 12 185 = some (0, 1, mX6_remember) := am_lk_of (a := 12) (b := 185) 134 (by decide +kernel) rfl
set_option maxRecDepth 20000 in
theorem lk_6_31 : am_lk 6 31 = some (0, 1, mX3_copyFrom) := am_lk_of (a := 6) (b := 31) 135 (by decide +kernel) rfl
set_option maxRecDepth 20000 in
theorem lk_3_65 : am_lk 3 65 = some (5, 0, mX8_xOf) := am_lk_of (a := 3) (b := 65) 136 (by decide +kernel) rfl
set_option maxRecDepth 20000 in
theorem lk_6_35 : am_lk 6 35 = some (7, 0, mX8_xOf) := am_lk_of (a := 6) (b := 35) 137 (by decide +kernel) rfl
set_option maxRecDepth 20000 in
theorem lk_12_195 : am_lk 12 195 = some (0, 2, mX10_stormsAt) := am_lk_of (a := 12) (b := 195) 138 (by decide +kernel) rfl
set_option maxRecDepth 20000 in
theorem lk_10_90 : am_lk 10 90 = some (1, 3, mX10_lot) := am_lk_of (a := 10) (b := 90) 139 (by decide +kernel) rfl
set_option maxRecDepth 20000 in
theorem lk_10_93 : am_lk 10 93 = some (1, 2, mX10_stirred) := am_lk_of (a := 10) (b := 93) 140 (by decide +kernel) rfl
set_option maxRecDepth 20000 in
theorem lk_12_201 : am_lk 12 201 = some (0, 2, mX10_drawnAt) := am_lk_of (a := 12) (b := 201) 141 (by decide +kernel) rfl
set_option maxRecDepth 20000 in
theorem lk_12_204 : am_lk 12 204 = some (0, 2, mX10_moved) := am_lk_of (a := 12) (b := 204) 142 (by decide +kernel) rfl
set_option maxRecDepth 20000 in
theorem lk_12_207 : am_lk 12 207 = some (0, 2, mX3_moveBy) := am_lk_of (a := 12) (b := 207) 143 (by decide +kernel) rfl
set_option maxRecDepth 20000 in
theorem lk_12_211 : am_lk 12 211 = some (0, 0, mX12_endTurn) := am_lk_of (a := 12) (b := 211) 144 (by decide +kernel) rfl
set_option maxRecDepth 20000 in
theorem lk_12_214 : am_lk 12 214 = some (0, 0, mX3_turnOver) := am_lk_of (a := 12) (b := 214) 145 (by decide +kernel) rfl
set_option maxRecDepth 20000 in
theorem lk_12_217 : am_lk 12 217 = some (0, 2, mX0_verdictOn) := am_lk_of (a := 12) (b := 217) 146 (by decide +kernel) rfl
set_option maxRecDepth 20000 in
theorem lk_12_220 : am_lk 12 220 = some (0, 3, mX3_close) := am_lk_of (a := 12) (b := 220) 147 (by decide +kernel) rfl
set_option maxRecDepth 20000 in
theorem lk_3_71 : am_lk 3 71 = some (0, 0, mX3_dropOldest) := am_lk_of (a := 3) (b := 71) 148 (by decide +kernel) rfl
set_option maxRecDepth 20000 in
theorem lk_30_53 : am_lk 30 53 = some (0, 0, mX12_pass) := am_lk_of (a := 30) (b := 53) 149 (by decide +kernel) rfl
set_option maxRecDepth 20000 in
theorem lk_30_57 : am_lk 30 57 = some (0, 0, mX12_open) := am_lk_of (a := 30) (b := 57) 150 (by decide +kernel) rfl
set_option maxRecDepth 20000 in
theorem lk_12_224 : am_lk 12 224 = some (0, 1, mX3_openCase) := am_lk_of (a := 12) (b := 224) 151 (by decide +kernel) rfl
set_option maxRecDepth 20000 in
theorem lk_30_61 : am_lk 30 61 = some (0, 0, mX12_undo) := am_lk_of (a := 30) (b := 61) 152 (by decide +kernel) rfl
set_option maxRecDepth 20000 in
theorem lk_12_230 : am_lk 12 230 = some (0, 1, mX6_takeBack) := am_lk_of (a := 12) (b := 230) 153 (by decide +kernel) rfl
set_option maxRecDepth 20000 in
theorem lk_30_66 : am_lk 30 66 = some (0, 2, mX12_after) := am_lk_of (a := 30) (b := 66) 154 (by decide +kernel) rfl
set_option maxRecDepth 20000 in
theorem lk_30_70 : am_lk 30 70 = some (0, 2, mX12_shortest) := am_lk_of (a := 30) (b := 70) 155 (by decide +kernel) rfl
set_option maxRecDepth 20000 in
theorem lk_12_234 : am_lk 12 234 = some (0, 3, mX7_aimAt) := am_lk_of (a := 12) (b := 234) 156 (by decide +kernel) rfl
set_option maxRecDepth 20000 in
theorem lk_12_237 : am_lk 12 237 = some (0, 1, mX7_fewest) := am_lk_of (a := 12) (b := 237) 157 (by decide +kernel) rfl
set_option maxRecDepth 20000 in
theorem lk_7_71 : am_lk 7 71 = some (0, 2, mX7_isGoal) := am_lk_of (a := 7) (b := 71) 158 (by decide +kernel) rfl
set_option maxRecDepth 20000 in
theorem lk_7_51 : am_lk 7 51 = some (1, 2, mX8_xOf) := am_lk_of (a := 7) (b := 51) 159 (by decide +kernel) rfl
set_option maxRecDepth 20000 in
theorem lk_7_57 : am_lk 7 57 = some (0, 1, mX10_tanglesIn) := am_lk_of (a := 7) (b := 57) 160 (by decide +kernel) rfl
set_option maxRecDepth 20000 in
theorem lk_7_81 : am_lk 7 81 = some (0, 2, mX7_oneMore) := am_lk_of (a := 7) (b := 81) 161 (by decide +kernel) rfl
set_option maxRecDepth 20000 in
theorem lk_7_87 : am_lk 7 87 = some (0, 4, mX0_allows) := am_lk_of (a := 7) (b := 87) 162 (by decide +kernel) rfl
set_option maxRecDepth 20000 in
theorem lk_7_93 : am_lk 7 93 = some (0, 2, mX10_moved) := am_lk_of (a := 7) (b := 93) 163 (by decide +kernel) rfl
set_option maxRecDepth 20000 in
theorem lk_7_96 : am_lk 7 96 = some (0, 3, mX7_reaches) := am_lk_of (a := 7) (b := 96) 164 (by decide +kernel) rfl
set_option maxRecDepth 20000 in
theorem lk_7_103 : am_lk 7 103 = some (0, 1, mX7_isNext) := am_lk_of (a := 7) (b := 103) 165 (by decide +kernel) rfl
set_option maxRecDepth 20000 in
theorem lk_7_107 : am_lk 7 107 = some (0, 2, mX0_verdictOn) := am_lk_of (a := 7) (b := 107) 166 (by decide +kernel) rfl
set_option maxRecDepth 20000 in
theorem lk_7_100 : am_lk 7 100 = some (0, 0, mX7_swap) := am_lk_of (a := 7) (b := 100) 167 (by decide +kernel) rfl
set_option maxRecDepth 20000 in
theorem lk_30_74 : am_lk 30 74 = some (0, 2, mX12_force) := am_lk_of (a := 30) (b := 74) 168 (by decide +kernel) rfl
set_option maxRecDepth 20000 in
theorem lk_12_244 : am_lk 12 244 = some (0, 3, mX4_forces) := am_lk_of (a := 12) (b := 244) 169 (by decide +kernel) rfl
set_option maxRecDepth 20000 in
theorem lk_4_41 : am_lk 4 41 = some (0, 3, mX4_start) := am_lk_of (a := 4) (b := 41) 170 (by decide +kernel) rfl
set_option maxRecDepth 20000 in
theorem lk_4_81 : am_lk 4 81 = some (1, 2, mJ7_fill_53178) := am_lk_of (a := 4) (b := 81) 171 (by decide +kernel) rfl
set_option maxRecDepth 20000 in
theorem lk_4_87 : am_lk 4 87 = some (7, 0, mX8_xOf) := am_lk_of (a := 4) (b := 87) 172 (by decide +kernel) rfl
set_option maxRecDepth 20000 in
theorem lk_4_53 : am_lk 4 53 = some (0, 2, mX4_tryAll) := am_lk_of (a := 4) (b := 53) 173 (by decide +kernel) rfl
set_option maxRecDepth 20000 in
theorem lk_4_68 : am_lk 4 68 = some (0, 4, mX0_allows) := am_lk_of (a := 4) (b := 68) 174 (by decide +kernel) rfl
set_option maxRecDepth 20000 in
theorem lk_4_74 : am_lk 4 74 = some (0, 2, mX10_moved) := am_lk_of (a := 4) (b := 74) 175 (by decide +kernel) rfl
set_option maxRecDepth 20000 in
theorem lk_4_78 : am_lk 4 78 = some (0, 2, mX4_isWon) := am_lk_of (a := 4) (b := 78) 176 (by decide +kernel) rfl
set_option maxRecDepth 20000 in
theorem lk_4_92 : am_lk 4 92 = some (0, 2, mX0_verdictOn) := am_lk_of (a := 4) (b := 92) 177 (by decide +kernel) rfl
set_option maxRecDepth 20000 in
theorem lk_4_95 : am_lk 4 95 = some (0, 2, mX4_recalled) := am_lk_of (a := 4) (b := 95) 178 (by decide +kernel) rfl
set_option maxRecDepth 20000 in
theorem lk_4_98 : am_lk 4 98 = some (0, 3, mX4_note) := am_lk_of (a := 4) (b := 98) 179 (by decide +kernel) rfl
set_option maxRecDepth 20000 in
theorem lk_30_78 : am_lk 30 78 = some (0, 0, mX12_straight) := am_lk_of (a := 30) (b := 78) 180 (by decide +kernel) rfl
set_option maxRecDepth 20000 in
theorem lk_30_82 : am_lk 30 82 = some (0, 2, mX12_reach) := am_lk_of (a := 30) (b := 82) 181 (by decide +kernel) rfl
set_option maxRecDepth 20000 in
theorem lk_30_86 : am_lk 30 86 = some (0, 1, mX12_strong) := am_lk_of (a := 30) (b := 86) 182 (by decide +kernel) rfl
set_option maxRecDepth 20000 in
theorem lk_12_248 : am_lk 12 248 = some (0, 2, mX4_strongString) := am_lk_of (a := 12) (b := 248) 183 (by decide +kernel) rfl
set_option maxRecDepth 20000 in
theorem lk_30_90 : am_lk 30 90 = some (0, 1, mX12_free) := am_lk_of (a := 30) (b := 90) 184 (by decide +kernel) rfl
set_option maxRecDepth 20000 in
theorem lk_30_94 : am_lk 30 94 = some (0, 0, mX12_worn) := am_lk_of (a := 30) (b := 94) 185 (by decide +kernel) rfl
set_option maxRecDepth 20000 in
theorem lk_30_98 : am_lk 30 98 = some (0, 0, mX12_verdicts) := am_lk_of (a := 30) (b := 98) 186 (by decide +kernel) rfl
set_option maxRecDepth 20000 in
theorem lk_12_255 : am_lk 12 255 = some (0, 1, mX5_poll) := am_lk_of (a := 12) (b := 255) 187 (by decide +kernel) rfl
set_option maxRecDepth 20000 in
theorem lk_5_27 : am_lk 5 27 = some (1, 2, mJ7_fill_53178) := am_lk_of (a := 5) (b := 27) 188 (by decide +kernel) rfl
set_option maxRecDepth 20000 in
theorem lk_5_46 : am_lk 5 46 = some (0, 3, mX0_votesOf) := am_lk_of (a := 5) (b := 46) 189 (by decide +kernel) rfl
set_option maxRecDepth 20000 in
theorem lk_0_67 : am_lk 0 67 = some (0, 1, mX10_hasChild) := am_lk_of (a := 0) (b := 67) 190 (by decide +kernel) rfl
set_option maxRecDepth 20000 in
theorem lk_0_73 : am_lk 0 73 = some (7, 0, mX8_xOf) := am_lk_of (a := 0) (b := 73) 191 (by decide +kernel) rfl
set_option maxRecDepth 20000 in
theorem lk_0_78 : am_lk 0 78 = some (6, 0, mX8_xOf) := am_lk_of (a := 0) (b := 78) 192 (by decide +kernel) rfl
set_option maxRecDepth 20000 in
theorem lk_12_258 : am_lk 12 258 = some (0, 0, mX5_likeliest) := am_lk_of (a := 12) (b := 258) 193 (by decide +kernel) rfl
set_option maxRecDepth 20000 in
theorem lk_30_102 : am_lk 30 102 = some (0, 1, mX12_half) := am_lk_of (a := 30) (b := 102) 194 (by decide +kernel) rfl
set_option maxRecDepth 20000 in
theorem lk_12_262 : am_lk 12 262 = some (0, 0, mX5_waysOfMost) := am_lk_of (a := 12) (b := 262) 195 (by decide +kernel) rfl
set_option maxRecDepth 20000 in
theorem lk_5_52 : am_lk 5 52 = some (0, 1, mX5_waysOf) := am_lk_of (a := 5) (b := 52) 196 (by decide +kernel) rfl
set_option maxRecDepth 20000 in
theorem lk_12_265 : am_lk 12 265 = some (0, 2, mX5_share) := am_lk_of (a := 12) (b := 265) 197 (by decide +kernel) rfl
set_option maxRecDepth 20000 in
theorem lk_5_56 : am_lk 5 56 = some (1, 2, mX5_greatestDivisor) := am_lk_of (a := 5) (b := 56) 198 (by decide +kernel) rfl
set_option maxRecDepth 20000 in
theorem lk_30_107 : am_lk 30 107 = some (0, 2, mX12_jury) := am_lk_of (a := 30) (b := 107) 199 (by decide +kernel) rfl
set_option maxRecDepth 20000 in
theorem lk_12_272 : am_lk 12 272 = some (0, 1, mX5_waysOf) := am_lk_of (a := 12) (b := 272) 200 (by decide +kernel) rfl
set_option maxRecDepth 20000 in
theorem lk_30_112 : am_lk 30 112 = some (0, 2, mX12_precedent) := am_lk_of (a := 30) (b := 112) 201 (by decide +kernel) rfl
set_option maxRecDepth 20000 in
theorem lk_12_278 : am_lk 12 278 = some (0, 1, mX3_hasPrecedent) := am_lk_of (a := 12) (b := 278) 202 (by decide +kernel) rfl
set_option maxRecDepth 20000 in
theorem lk_30_116 : am_lk 30 116 = some (0, 1, mX12_nearest) := am_lk_of (a := 30) (b := 116) 203 (by decide +kernel) rfl
set_option maxRecDepth 20000 in
theorem lk_12_290 : am_lk 12 290 = some (0, 2, mX3_nearestTo) := am_lk_of (a := 12) (b := 290) 204 (by decide +kernel) rfl
set_option maxRecDepth 20000 in
theorem lk_3_84 : am_lk 3 84 = some (0, 3, mX3_distance) := am_lk_of (a := 3) (b := 84) 205 (by decide +kernel) rfl
set_option maxRecDepth 20000 in
theorem lk_3_74 : am_lk 3 74 = some (0, 1, mX3_hasPrecedent) := am_lk_of (a := 3) (b := 74) 206 (by decide +kernel) rfl
set_option maxRecDepth 20000 in
theorem lk_3_78 : am_lk 3 78 = some (8, 0, mX8_xOf) := am_lk_of (a := 3) (b := 78) 207 (by decide +kernel) rfl
set_option maxRecDepth 20000 in
theorem lk_12_293 : am_lk 12 293 = some (0, 3, mX3_distance) := am_lk_of (a := 12) (b := 293) 208 (by decide +kernel) rfl
set_option maxRecDepth 20000 in
theorem lk_30_120 : am_lk 30 120 = some (0, 0, mX12_clashes) := am_lk_of (a := 30) (b := 120) 209 (by decide +kernel) rfl
set_option maxRecDepth 20000 in
theorem lk_12_297 : am_lk 12 297 = some (0, 0, mX3_clashing) := am_lk_of (a := 12) (b := 297) 210 (by decide +kernel) rfl
set_option maxRecDepth 20000 in
theorem lk_30_124 : am_lk 30 124 = some (0, 1, mX12_paint) := am_lk_of (a := 30) (b := 124) 211 (by decide +kernel) rfl
set_option maxRecDepth 20000 in
theorem lk_12_303 : am_lk 12 303 = some (0, 1, mX10_bestPainted) := am_lk_of (a := 12) (b := 303) 212 (by decide +kernel) rfl
set_option maxRecDepth 20000 in
theorem lk_10_98 : am_lk 10 98 = some (0, 2, mX10_paintGap) := am_lk_of (a := 10) (b := 98) 213 (by decide +kernel) rfl
set_option maxRecDepth 20000 in
theorem lk_10_101 : am_lk 10 101 = some (0, 1, mX10_hasPuppet) := am_lk_of (a := 10) (b := 101) 214 (by decide +kernel) rfl
set_option maxRecDepth 20000 in
theorem lk_10_104 : am_lk 10 104 = some (8, 0, mX8_xOf) := am_lk_of (a := 10) (b := 104) 215 (by decide +kernel) rfl
set_option maxRecDepth 20000 in
theorem lk_30_128 : am_lk 30 128 = some (0, 3, mX12_storms) := am_lk_of (a := 30) (b := 128) 216 (by decide +kernel) rfl
set_option maxRecDepth 20000 in
theorem lk_12_306 : am_lk 12 306 = some (0, 2, mX12_verdictBySeed) := am_lk_of (a := 12) (b := 306) 217 (by decide +kernel) rfl
set_option maxRecDepth 20000 in
theorem lk_30_133 : am_lk 30 133 = some (0, 3, mX12_tell) := am_lk_of (a := 30) (b := 133) 218 (by decide +kernel) rfl
set_option maxRecDepth 20000 in
theorem lk_12_309 : am_lk 12 309 = some (0, 3, mX2_add) := am_lk_of (a := 12) (b := 309) 219 (by decide +kernel) rfl
set_option maxRecDepth 20000 in
theorem lk_30_137 : am_lk 30 137 = some (0, 0, mX12_forget) := am_lk_of (a := 30) (b := 137) 220 (by decide +kernel) rfl
set_option maxRecDepth 20000 in
theorem lk_30_141 : am_lk 30 141 = some (0, 2, mX12_cloth) := am_lk_of (a := 30) (b := 141) 221 (by decide +kernel) rfl
set_option maxRecDepth 20000 in
theorem lk_12_312 : am_lk 12 312 = some (0, 2, mX2_asks) := am_lk_of (a := 12) (b := 312) 222 (by decide +kernel) rfl
set_option maxRecDepth 20000 in
theorem lk_12_315 : am_lk 12 315 = some (0, 3, mX2_walk) := am_lk_of (a := 12) (b := 315) 223 (by decide +kernel) rfl
set_option maxRecDepth 20000 in
theorem lk_2_49 : am_lk 2 49 = some (7, 0, mX8_xOf) := am_lk_of (a := 2) (b := 49) 224 (by decide +kernel) rfl
set_option maxRecDepth 20000 in
theorem lk_2_55 : am_lk 2 55 = some (1, 2, mJ7_fill_53178) := am_lk_of (a := 2) (b := 55) 225 (by decide +kernel) rfl
set_option maxRecDepth 20000 in
theorem lk_2_61 : am_lk 2 61 = some (0, 2, mX2_goOn) := am_lk_of (a := 2) (b := 61) 226 (by decide +kernel) rfl
set_option maxRecDepth 20000 in
theorem lk_2_65 : am_lk 2 65 = some (0, 1, mX2_countRow) := am_lk_of (a := 2) (b := 65) 227 (by decide +kernel) rfl
set_option maxRecDepth 20000 in
theorem lk_2_81 : am_lk 2 81 = some (1, 2, mX8_xOf) := am_lk_of (a := 2) (b := 81) 228 (by decide +kernel) rfl
set_option maxRecDepth 20000 in
theorem lk_2_74 : am_lk 2 74 = some (0, 2, mX10_moved) := am_lk_of (a := 2) (b := 74) 229 (by decide +kernel) rfl
set_option maxRecDepth 20000 in
theorem lk_2_77 : am_lk 2 77 = some (0, 2, mX2_fits) := am_lk_of (a := 2) (b := 77) 230 (by decide +kernel) rfl
set_option maxRecDepth 20000 in
theorem lk_30_145 : am_lk 30 145 = some (0, 3, mX12_sure) := am_lk_of (a := 30) (b := 145) 231 (by decide +kernel) rfl
set_option maxRecDepth 20000 in
theorem lk_30_149 : am_lk 30 149 = some (0, 2, mX12_look) := am_lk_of (a := 30) (b := 149) 232 (by decide +kernel) rfl
set_option maxRecDepth 20000 in
theorem lk_12_324 : am_lk 12 324 = some (0, 0, mX2_tellingPuppet) := am_lk_of (a := 12) (b := 324) 233 (by decide +kernel) rfl
set_option maxRecDepth 20000 in
theorem lk_2_90 : am_lk 2 90 = some (6, 0, mX8_xOf) := am_lk_of (a := 2) (b := 90) 234 (by decide +kernel) rfl
set_option maxRecDepth 20000 in
theorem lk_30_153 : am_lk 30 153 = some (0, 1, mX12_hold) := am_lk_of (a := 30) (b := 153) 235 (by decide +kernel) rfl
set_option maxRecDepth 20000 in
theorem lk_12_327 : am_lk 12 327 = some (0, 2, mX6_putInSlot) := am_lk_of (a := 12) (b := 327) 236 (by decide +kernel) rfl
set_option maxRecDepth 20000 in
theorem lk_30_158 : am_lk 30 158 = some (0, 1, mX12_restore) := am_lk_of (a := 30) (b := 158) 237 (by decide +kernel) rfl
set_option maxRecDepth 20000 in
theorem lk_12_331 : am_lk 12 331 = some (0, 2, mX6_takeFromSlot) := am_lk_of (a := 12) (b := 331) 238 (by decide +kernel) rfl
set_option maxRecDepth 20000 in
theorem lk_30_162 : am_lk 30 162 = some (0, 1, mX12_count) := am_lk_of (a := 30) (b := 162) 239 (by decide +kernel) rfl
set_option maxRecDepth 20000 in
theorem lk_12_337 : am_lk 12 337 = some (0, 0, mX6_slotsHeld) := am_lk_of (a := 12) (b := 337) 240 (by decide +kernel) rfl
set_option maxRecDepth 20000 in
theorem lk_6_41 : am_lk 6 41 = some (1, 1, mJ6_bitCount_0f7a4) := am_lk_of (a := 6) (b := 41) 241 (by decide +kernel) rfl
set_option maxRecDepth 20000 in
theorem lk_12_346 : am_lk 12 346 = some (0, 0, mX12_mayBits) := am_lk_of (a := 12) (b := 346) 242 (by decide +kernel) rfl
set_option maxRecDepth 20000 in
theorem lk_30_12 : am_lk 30 12 = some (2, 0, mX13_init) := am_lk_of (a := 30) (b := 12) 243 (by decide +kernel) rfl
set_option maxRecDepth 20000 in
theorem lk_13_7 : am_lk 13 7 = some (4, 0, mX8_xOf) := am_lk_of (a := 13) (b := 7) 244 (by decide +kernel) rfl
set_option maxRecDepth 20000 in
theorem lk_13_158 : am_lk 13 158 = some (0, 1, mX13_plain) := am_lk_of (a := 13) (b := 158) 245 (by decide +kernel) rfl
set_option maxRecDepth 20000 in
theorem lk_13_162 : am_lk 13 162 = some (1, 7, mX13_word) := am_lk_of (a := 13) (b := 162) 246 (by decide +kernel) rfl
set_option maxRecDepth 20000 in
theorem lk_13_183 : am_lk 13 183 = some (1, 2, mX13_appends) := am_lk_of (a := 13) (b := 183) 247 (by decide +kernel) rfl
set_option maxRecDepth 20000 in
theorem lk_13_166 : am_lk 13 166 = some (0, 0, mX13_begins) := am_lk_of (a := 13) (b := 166) 248 (by decide +kernel) rfl
set_option maxRecDepth 20000 in
theorem lk_13_323 : am_lk 13 323 = some (0, 0, mX13_opens) := am_lk_of (a := 13) (b := 323) 249 (by decide +kernel) rfl
set_option maxRecDepth 20000 in
theorem lk_13_169 : am_lk 13 169 = some (0, 0, mX13_keepsRow) := am_lk_of (a := 13) (b := 169) 250 (by decide +kernel) rfl
set_option maxRecDepth 20000 in
theorem lk_30_17 : am_lk 30 17 = some (0, 5, mX13_feed) := am_lk_of (a := 30) (b := 17) 251 (by decide +kernel) rfl
set_option maxRecDepth 20000 in
theorem lk_13_175 : am_lk 13 175 = some (0, 1, mX13_put) := am_lk_of (a := 13) (b := 175) 252 (by decide +kernel) rfl
set_option maxRecDepth 20000 in
theorem lk_30_22 : am_lk 30 22 = some (0, 1, mX13_back) := am_lk_of (a := 30) (b := 22) 253 (by decide +kernel) rfl
set_option maxRecDepth 20000 in
theorem lk_30_27 : am_lk 30 27 = some (0, 0, mX13_read) := am_lk_of (a := 30) (b := 27) 254 (by decide +kernel) rfl
set_option maxRecDepth 20000 in
theorem lk_13_233 : am_lk 13 233 = some (0, 0, mX13_cut) := am_lk_of (a := 13) (b := 233) 255 (by decide +kernel) rfl
set_option maxRecDepth 20000 in
theorem lk_13_190 : am_lk 13 190 = some (0, 1, mX13_byteAt) := am_lk_of (a := 13) (b := 190) 256 (by decide +kernel) rfl
set_option maxRecDepth 20000 in
theorem lk_13_194 : am_lk 13 194 = some (0, 4, mX13_token) := am_lk_of (a := 13) (b := 194) 257 (by decide +kernel) rfl
set_option maxRecDepth 20000 in
theorem lk_13_198 : am_lk 13 198 = some (1, 1, mX13_isLetter) := am_lk_of (a := 13) (b := 198) 258 (by decide +kernel) rfl
set_option maxRecDepth 20000 in
theorem lk_13_202 : am_lk 13 202 = some (1, 1, mX13_isDigit) := am_lk_of (a := 13) (b := 202) 259 (by decide +kernel) rfl
set_option maxRecDepth 20000 in
theorem lk_13_205 : am_lk 13 205 = some (0, 3, mX13_sign) := am_lk_of (a := 13) (b := 205) 260 (by decide +kernel) rfl
set_option maxRecDepth 20000 in
theorem lk_13_227 : am_lk 13 227 = some (0, 1, mX13_is) := am_lk_of (a := 13) (b := 227) 261 (by decide +kernel) rfl
set_option maxRecDepth 20000 in
theorem lk_13_254 : am_lk 13 254 = some (0, 0, mX13_tellOne) := am_lk_of (a := 13) (b := 254) 262 (by decide +kernel) rfl
set_option maxRecDepth 20000 in
theorem lk_13_263 : am_lk 13 263 = some (0, 2, mX13_roomFor) := am_lk_of (a := 13) (b := 263) 263 (by decide +kernel) rfl
set_option maxRecDepth 20000 in
theorem lk_13_224 : am_lk 13 224 = some (0, 1, mX13_fail) := am_lk_of (a := 13) (b := 224) 264 (by decide +kernel) rfl
set_option maxRecDepth 20000 in
theorem lk_13_230 : am_lk 13 230 = some (0, 0, mX13_goesOn) := am_lk_of (a := 13) (b := 230) 265 (by decide +kernel) rfl
set_option maxRecDepth 20000 in
theorem lk_13_267 : am_lk 13 267 = some (0, 0, mX13_tellPuppet) := am_lk_of (a := 13) (b := 267) 266 (by decide +kernel) rfl
set_option maxRecDepth 20000 in
theorem lk_13_286 : am_lk 13 286 = some (0, 0, mX13_named) := am_lk_of (a := 13) (b := 286) 267 (by decide +kernel) rfl
set_option maxRecDepth 20000 in
theorem lk_13_277 : am_lk 13 277 = some (0, 1, mX13_must) := am_lk_of (a := 13) (b := 277) 268 (by decide +kernel) rfl
set_option maxRecDepth 20000 in
theorem lk_13_283 : am_lk 13 283 = some (0, 2, mX13_wrong) := am_lk_of (a := 13) (b := 283) 269 (by decide +kernel) rfl
set_option maxRecDepth 20000 in
theorem lk_13_273 : am_lk 13 273 = some (0, 2, mX13_bounded) := am_lk_of (a := 13) (b := 273) 270 (by decide +kernel) rfl
set_option maxRecDepth 20000 in
theorem lk_13_290 : am_lk 13 290 = some (0, 2, mX13_ends) := am_lk_of (a := 13) (b := 290) 271 (by decide +kernel) rfl
set_option maxRecDepth 20000 in
theorem lk_13_270 : am_lk 13 270 = some (0, 0, mX13_tellString) := am_lk_of (a := 13) (b := 270) 272 (by decide +kernel) rfl
set_option maxRecDepth 20000 in
theorem lk_13_293 : am_lk 13 293 = some (0, 0, mX13_knownPuppet) := am_lk_of (a := 13) (b := 293) 273 (by decide +kernel) rfl
set_option maxRecDepth 20000 in
theorem lk_13_280 : am_lk 13 280 = some (0, 1, mX13_tellLaw) := am_lk_of (a := 13) (b := 280) 274 (by decide +kernel) rfl
set_option maxRecDepth 20000 in
theorem lk_13_296 : am_lk 13 296 = some (0, 0, mX13_expression) := am_lk_of (a := 13) (b := 296) 275 (by decide +kernel) rfl
set_option maxRecDepth 20000 in
theorem lk_13_308 : am_lk 13 308 = some (0, 0, mX13_unit) := am_lk_of (a := 13) (b := 308) 276 (by decide +kernel) rfl
set_option maxRecDepth 20000 in
theorem lk_13_305 : am_lk 13 305 = some (0, 2, mX13_emit) := am_lk_of (a := 13) (b := 305) 277 (by decide +kernel) rfl
set_option maxRecDepth 20000 in
theorem lk_13_311 : am_lk 13 311 = some (0, 1, mX13_comesOut) := am_lk_of (a := 13) (b := 311) 278 (by decide +kernel) rfl
set_option maxRecDepth 20000 in
theorem lk_13_299 : am_lk 13 299 = some (0, 0, mX13_term) := am_lk_of (a := 13) (b := 299) 279 (by decide +kernel) rfl
set_option maxRecDepth 20000 in
theorem lk_30_31 : am_lk 30 31 = some (0, 0, mX13_place) := am_lk_of (a := 30) (b := 31) 280 (by decide +kernel) rfl
set_option maxRecDepth 20000 in
theorem lk_30_36 : am_lk 30 36 = some (0, 2, mX13_puppet) := am_lk_of (a := 30) (b := 36) 281 (by decide +kernel) rfl
set_option maxRecDepth 20000 in
theorem lk_13_333 : am_lk 13 333 = some (0, 1, mX13_isPuppet) := am_lk_of (a := 13) (b := 333) 282 (by decide +kernel) rfl
set_option maxRecDepth 20000 in
theorem lk_13_319 : am_lk 13 319 = some (1, 3, mX13_in) := am_lk_of (a := 13) (b := 319) 283 (by decide +kernel) rfl
set_option maxRecDepth 20000 in
theorem lk_30_40 : am_lk 30 40 = some (0, 2, mX13_string) := am_lk_of (a := 30) (b := 40) 284 (by decide +kernel) rfl
set_option maxRecDepth 20000 in
theorem lk_13_379 : am_lk 13 379 = some (0, 1, mX13_isString) := am_lk_of (a := 13) (b := 379) 285 (by decide +kernel) rfl
set_option maxRecDepth 20000 in
theorem lk_30_44 : am_lk 30 44 = some (0, 1, mX13_court) := am_lk_of (a := 30) (b := 44) 286 (by decide +kernel) rfl
set_option maxRecDepth 20000 in
theorem lk_13_382 : am_lk 13 382 = some (0, 0, mX13_copies) := am_lk_of (a := 13) (b := 382) 287 (by decide +kernel) rfl
set_option maxRecDepth 20000 in
theorem lk_13_336 : am_lk 13 336 = some (0, 0, mX13_apartNow) := am_lk_of (a := 13) (b := 336) 288 (by decide +kernel) rfl
set_option maxRecDepth 20000 in
theorem lk_13_339 : am_lk 13 339 = some (0, 0, mX13_tanglesNow) := am_lk_of (a := 13) (b := 339) 289 (by decide +kernel) rfl
set_option maxRecDepth 20000 in
theorem lk_13_342 : am_lk 13 342 = some (0, 0, mX13_nodsNow) := am_lk_of (a := 13) (b := 342) 290 (by decide +kernel) rfl
set_option maxRecDepth 20000 in
theorem lk_30_48 : am_lk 30 48 = some (0, 1, mX13_may) := am_lk_of (a := 30) (b := 48) 291 (by decide +kernel) rfl
set_option maxRecDepth 20000 in
theorem lk_13_385 : am_lk 13 385 = some (0, 1, mX13_mayNow) := am_lk_of (a := 13) (b := 385) 292 (by decide +kernel) rfl
set_option maxRecDepth 20000 in
theorem lk_13_360 : am_lk 13 360 = some (0, 2, mX13_mayPull) := am_lk_of (a := 13) (b := 360) 293 (by decide +kernel) rfl
set_option maxRecDepth 20000 in
theorem lk_13_351 : am_lk 13 351 = some (0, 1, mX13_staysWithin) := am_lk_of (a := 13) (b := 351) 294 (by decide +kernel) rfl
set_option maxRecDepth 20000 in
theorem lk_13_348 : am_lk 13 348 = some (0, 1, mX13_goesTo) := am_lk_of (a := 13) (b := 348) 295 (by decide +kernel) rfl
set_option maxRecDepth 20000 in
theorem lk_13_354 : am_lk 13 354 = some (0, 0, mX13_looks) := am_lk_of (a := 13) (b := 354) 296 (by decide +kernel) rfl
set_option maxRecDepth 20000 in
theorem lk_13_357 : am_lk 13 357 = some (0, 2, mX13_asks) := am_lk_of (a := 13) (b := 357) 297 (by decide +kernel) rfl
set_option maxRecDepth 20000 in
theorem lk_13_345 : am_lk 13 345 = some (0, 2, mX13_termOf) := am_lk_of (a := 13) (b := 345) 298 (by decide +kernel) rfl
set_option maxRecDepth 20000 in
theorem lk_30_52 : am_lk 30 52 = some (0, 1, mX13_pull) := am_lk_of (a := 30) (b := 52) 299 (by decide +kernel) rfl
set_option maxRecDepth 20000 in
theorem lk_13_388 : am_lk 13 388 = some (0, 1, mX13_pulls) := am_lk_of (a := 13) (b := 388) 300 (by decide +kernel) rfl
set_option maxRecDepth 20000 in
theorem lk_13_373 : am_lk 13 373 = some (0, 2, mX13_lotOf) := am_lk_of (a := 13) (b := 373) 301 (by decide +kernel) rfl
set_option maxRecDepth 20000 in
theorem lk_13_330 : am_lk 13 330 = some (1, 2, mX13_mixed) := am_lk_of (a := 13) (b := 330) 302 (by decide +kernel) rfl
set_option maxRecDepth 20000 in
theorem lk_13_367 : am_lk 13 367 = some (0, 1, mX13_moves) := am_lk_of (a := 13) (b := 367) 303 (by decide +kernel) rfl
set_option maxRecDepth 20000 in
theorem lk_13_370 : am_lk 13 370 = some (0, 0, mX13_turnEnds) := am_lk_of (a := 13) (b := 370) 304 (by decide +kernel) rfl
set_option maxRecDepth 20000 in
theorem lk_13_364 : am_lk 13 364 = some (0, 0, mX13_verdictNow) := am_lk_of (a := 13) (b := 364) 305 (by decide +kernel) rfl
set_option maxRecDepth 20000 in
theorem lk_13_376 : am_lk 13 376 = some (0, 0, mX13_keepsCase) := am_lk_of (a := 13) (b := 376) 306 (by decide +kernel) rfl
set_option maxRecDepth 20000 in
theorem lk_13_391 : am_lk 13 391 = some (0, 0, mX13_keeps) := am_lk_of (a := 13) (b := 391) 307 (by decide +kernel) rfl
set_option maxRecDepth 20000 in
theorem lk_30_56 : am_lk 30 56 = some (0, 0, mX13_pass) := am_lk_of (a := 30) (b := 56) 308 (by decide +kernel) rfl
set_option maxRecDepth 20000 in
theorem lk_30_60 : am_lk 30 60 = some (0, 0, mX13_open) := am_lk_of (a := 30) (b := 60) 309 (by decide +kernel) rfl
set_option maxRecDepth 20000 in
theorem lk_30_65 : am_lk 30 65 = some (0, 0, mX13_undo) := am_lk_of (a := 30) (b := 65) 310 (by decide +kernel) rfl
set_option maxRecDepth 20000 in
theorem lk_30_69 : am_lk 30 69 = some (0, 2, mX13_after) := am_lk_of (a := 30) (b := 69) 311 (by decide +kernel) rfl
set_option maxRecDepth 20000 in
theorem lk_13_394 : am_lk 13 394 = some (0, 1, mX13_plays) := am_lk_of (a := 13) (b := 394) 312 (by decide +kernel) rfl
set_option maxRecDepth 20000 in
theorem lk_30_73 : am_lk 30 73 = some (0, 2, mX13_shortest) := am_lk_of (a := 30) (b := 73) 313 (by decide +kernel) rfl
set_option maxRecDepth 20000 in
theorem lk_13_397 : am_lk 13 397 = some (1, 1, mX13_sevens) := am_lk_of (a := 13) (b := 397) 314 (by decide +kernel) rfl
set_option maxRecDepth 20000 in
theorem lk_13_400 : am_lk 13 400 = some (0, 2, mX13_isPlayed) := am_lk_of (a := 13) (b := 400) 315 (by decide +kernel) rfl
set_option maxRecDepth 20000 in
theorem lk_30_77 : am_lk 30 77 = some (0, 2, mX13_force) := am_lk_of (a := 30) (b := 77) 316 (by decide +kernel) rfl
set_option maxRecDepth 20000 in
theorem lk_13_406 : am_lk 13 406 = some (0, 2, mX13_forces) := am_lk_of (a := 13) (b := 406) 317 (by decide +kernel) rfl
set_option maxRecDepth 20000 in
theorem lk_13_403 : am_lk 13 403 = some (0, 1, mX13_piles) := am_lk_of (a := 13) (b := 403) 318 (by decide +kernel) rfl
set_option maxRecDepth 20000 in
theorem lk_30_89 : am_lk 30 89 = some (0, 1, mX13_strong) := am_lk_of (a := 30) (b := 89) 319 (by decide +kernel) rfl
set_option maxRecDepth 20000 in
theorem lk_30_81 : am_lk 30 81 = some (0, 0, mX13_straight) := am_lk_of (a := 30) (b := 81) 320 (by decide +kernel) rfl
set_option maxRecDepth 20000 in
theorem lk_13_413 : am_lk 13 413 = some (0, 2, mX13_fewest) := am_lk_of (a := 13) (b := 413) 321 (by decide +kernel) rfl
set_option maxRecDepth 20000 in
theorem lk_13_409 : am_lk 13 409 = some (0, 4, mX13_leadsTo) := am_lk_of (a := 13) (b := 409) 322 (by decide +kernel) rfl
set_option maxRecDepth 20000 in
theorem lk_30_85 : am_lk 30 85 = some (0, 2, mX13_reach) := am_lk_of (a := 30) (b := 85) 323 (by decide +kernel) rfl
set_option maxRecDepth 20000 in
theorem lk_30_93 : am_lk 30 93 = some (0, 1, mX13_free) := am_lk_of (a := 30) (b := 93) 324 (by decide +kernel) rfl
set_option maxRecDepth 20000 in
theorem lk_30_97 : am_lk 30 97 = some (0, 0, mX13_worn) := am_lk_of (a := 30) (b := 97) 325 (by decide +kernel) rfl
set_option maxRecDepth 20000 in
theorem lk_30_111 : am_lk 30 111 = some (0, 2, mX13_jury) := am_lk_of (a := 30) (b := 111) 326 (by decide +kernel) rfl
set_option maxRecDepth 20000 in
theorem lk_13_419 : am_lk 13 419 = some (0, 0, mX13_fillsVotes) := am_lk_of (a := 13) (b := 419) 327 (by decide +kernel) rfl
set_option maxRecDepth 20000 in
theorem lk_13_422 : am_lk 13 422 = some (0, 2, mX13_lineOf) := am_lk_of (a := 13) (b := 422) 328 (by decide +kernel) rfl
set_option maxRecDepth 20000 in
theorem lk_13_416 : am_lk 13 416 = some (1, 2, mX13_common) := am_lk_of (a := 13) (b := 416) 329 (by decide +kernel) rfl
set_option maxRecDepth 20000 in
theorem lk_30_101 : am_lk 30 101 = some (0, 0, mX13_verdicts) := am_lk_of (a := 30) (b := 101) 330 (by decide +kernel) rfl
set_option maxRecDepth 20000 in
theorem lk_30_106 : am_lk 30 106 = some (0, 1, mX13_half) := am_lk_of (a := 30) (b := 106) 331 (by decide +kernel) rfl
set_option maxRecDepth 20000 in
theorem lk_30_115 : am_lk 30 115 = some (0, 2, mX13_precedent) := am_lk_of (a := 30) (b := 115) 332 (by decide +kernel) rfl
set_option maxRecDepth 20000 in
theorem lk_30_119 : am_lk 30 119 = some (0, 1, mX13_nearest) := am_lk_of (a := 30) (b := 119) 333 (by decide +kernel) rfl
set_option maxRecDepth 20000 in
theorem lk_13_426 : am_lk 13 426 = some (1, 2, mX13_off) := am_lk_of (a := 13) (b := 426) 334 (by decide +kernel) rfl
set_option maxRecDepth 20000 in
theorem lk_30_123 : am_lk 30 123 = some (0, 0, mX13_clashes) := am_lk_of (a := 30) (b := 123) 335 (by decide +kernel) rfl
set_option maxRecDepth 20000 in
theorem lk_30_127 : am_lk 30 127 = some (0, 1, mX13_paint) := am_lk_of (a := 30) (b := 127) 336 (by decide +kernel) rfl
set_option maxRecDepth 20000 in
theorem lk_13_429 : am_lk 13 429 = some (0, 2, mX13_offPaint) := am_lk_of (a := 13) (b := 429) 337 (by decide +kernel) rfl
set_option maxRecDepth 20000 in
theorem lk_30_132 : am_lk 30 132 = some (0, 3, mX13_storms) := am_lk_of (a := 30) (b := 132) 338 (by decide +kernel) rfl
set_option maxRecDepth 20000 in
theorem lk_30_136 : am_lk 30 136 = some (0, 3, mX13_tell) := am_lk_of (a := 30) (b := 136) 339 (by decide +kernel) rfl
set_option maxRecDepth 20000 in
theorem lk_30_140 : am_lk 30 140 = some (0, 0, mX13_forget) := am_lk_of (a := 30) (b := 140) 340 (by decide +kernel) rfl
set_option maxRecDepth 20000 in
theorem lk_30_144 : am_lk 30 144 = some (0, 2, mX13_cloth) := am_lk_of (a := 30) (b := 144) 341 (by decide +kernel) rfl
set_option maxRecDepth 20000 in
theorem lk_13_435 : am_lk 13 435 = some (0, 2, mX13_isAsked) := am_lk_of (a := 13) (b := 435) 342 (by decide +kernel) rfl
set_option maxRecDepth 20000 in
theorem lk_13_438 : am_lk 13 438 = some (0, 3, mX13_isCloth) := am_lk_of (a := 13) (b := 438) 343 (by decide +kernel) rfl
set_option maxRecDepth 20000 in
theorem lk_13_432 : am_lk 13 432 = some (0, 2, mX13_isSeen) := am_lk_of (a := 13) (b := 432) 344 (by decide +kernel) rfl
set_option maxRecDepth 20000 in
theorem lk_30_148 : am_lk 30 148 = some (0, 3, mX13_sure) := am_lk_of (a := 30) (b := 148) 345 (by decide +kernel) rfl
set_option maxRecDepth 20000 in
theorem lk_30_152 : am_lk 30 152 = some (0, 2, mX13_look) := am_lk_of (a := 30) (b := 152) 346 (by decide +kernel) rfl
set_option maxRecDepth 20000 in
theorem lk_30_157 : am_lk 30 157 = some (0, 1, mX13_hold) := am_lk_of (a := 30) (b := 157) 347 (by decide +kernel) rfl
set_option maxRecDepth 20000 in
theorem lk_30_161 : am_lk 30 161 = some (0, 1, mX13_restore) := am_lk_of (a := 30) (b := 161) 348 (by decide +kernel) rfl
set_option maxRecDepth 20000 in
theorem lk_30_165 : am_lk 30 165 = some (0, 1, mX13_count) := am_lk_of (a := 30) (b := 165) 349 (by decide +kernel) rfl
set_option maxRecDepth 20000 in
theorem lk_10_51 : am_lk 10 51 = some (3, 0, mX1_init) := am_lk_of (a := 10) (b := 51) 350 (by decide +kernel) rfl
set_option maxRecDepth 20000 in
theorem lk_12_29 : am_lk 12 29 = some (3, 0, mX9_init) := am_lk_of (a := 12) (b := 29) 351 (by decide +kernel) rfl
set_option maxRecDepth 20000 in
theorem lk_12_45 : am_lk 12 45 = some (3, 0, mX3_init) := am_lk_of (a := 12) (b := 45) 352 (by decide +kernel) rfl
set_option maxRecDepth 20000 in
theorem lk_12_52 : am_lk 12 52 = some (3, 0, mX6_init) := am_lk_of (a := 12) (b := 52) 353 (by decide +kernel) rfl
set_option maxRecDepth 20000 in
theorem lk_6_30 : am_lk 6 30 = some (3, 0, mX3_init) := am_lk_of (a := 6) (b := 30) 354 (by decide +kernel) rfl
set_option maxRecDepth 20000 in
theorem fl_1_11 : am_fl 1 11 = some (1, 0) := by decide +kernel
set_option maxRecDepth 20000 in
theorem fl_1_15 : am_fl 1 15 = some (1, 1) := by decide +kernel
set_option maxRecDepth 20000 in
theorem fl_1_18 : am_fl 1 18 = some (1, 2) := by decide +kernel
set_option maxRecDepth 20000 in
theorem fl_1_21 : am_fl 1 21 = some (1, 3) := by decide +kernel
set_option maxRecDepth 20000 in
theorem fl_9_169 : am_fl 9 169 = some (1, 3) := by decide +kernel
set_option maxRecDepth 20000 in
theorem fl_10_9 : am_fl 10 9 = some (9, 0) := by decide +kernel
set_option maxRecDepth 20000 in
theorem fl_2_86 : am_fl 2 86 = some (9, 0) := by decide +kernel
set_option maxRecDepth 20000 in
theorem fl_9_103 : am_fl 9 103 = some (9, 0) := by decide +kernel
set_option maxRecDepth 20000 in
theorem fl_12_300 : am_fl 12 300 = some (9, 0) := by decide +kernel
set_option maxRecDepth 20000 in
theorem fl_10_15 : am_fl 10 15 = some (9, 1) := by decide +kernel
set_option maxRecDepth 20000 in
theorem fl_4_60 : am_fl 4 60 = some (9, 1) := by decide +kernel
set_option maxRecDepth 20000 in
theorem fl_2_69 : am_fl 2 69 = some (9, 1) := by decide +kernel
set_option maxRecDepth 20000 in
theorem fl_7_84 : am_fl 7 84 = some (9, 1) := by decide +kernel
set_option maxRecDepth 20000 in
theorem fl_9_127 : am_fl 9 127 = some (9, 1) := by decide +kernel
set_option maxRecDepth 20000 in
theorem fl_12_252 : am_fl 12 252 = some (9, 1) := by decide +kernel
set_option maxRecDepth 20000 in
theorem fl_10_18 : am_fl 10 18 = some (9, 2) := by decide +kernel
set_option maxRecDepth 20000 in
theorem fl_5_33 : am_fl 5 33 = some (9, 2) := by decide +kernel
set_option maxRecDepth 20000 in
theorem fl_9_145 : am_fl 9 145 = some (9, 2) := by decide +kernel
set_option maxRecDepth 20000 in
theorem fl_12_269 : am_fl 12 269 = some (9, 2) := by decide +kernel
set_option maxRecDepth 20000 in
theorem fl_10_21 : am_fl 10 21 = some (9, 3) := by decide +kernel
set_option maxRecDepth 20000 in
theorem fl_9_151 : am_fl 9 151 = some (9, 3) := by decide +kernel
set_option maxRecDepth 20000 in
theorem fl_10_24 : am_fl 10 24 = some (9, 4) := by decide +kernel
set_option maxRecDepth 20000 in
theorem fl_12_189 : am_fl 12 189 = some (9, 4) := by decide +kernel
set_option maxRecDepth 20000 in
theorem fl_9_154 : am_fl 9 154 = some (9, 4) := by decide +kernel
set_option maxRecDepth 20000 in
theorem fl_10_27 : am_fl 10 27 = some (9, 5) := by decide +kernel
set_option maxRecDepth 20000 in
theorem fl_12_102 : am_fl 12 102 = some (9, 5) := by decide +kernel
set_option maxRecDepth 20000 in
theorem fl_9_112 : am_fl 9 112 = some (9, 5) := by decide +kernel
set_option maxRecDepth 20000 in
theorem fl_10_30 : am_fl 10 30 = some (9, 6) := by decide +kernel
set_option maxRecDepth 20000 in
theorem fl_12_133 : am_fl 12 133 = some (9, 6) := by decide +kernel
set_option maxRecDepth 20000 in
theorem fl_9_121 : am_fl 9 121 = some (9, 6) := by decide +kernel
set_option maxRecDepth 20000 in
theorem fl_10_34 : am_fl 10 34 = some (9, 7) := by decide +kernel
set_option maxRecDepth 20000 in
theorem fl_0_51 : am_fl 0 51 = some (9, 7) := by decide +kernel
set_option maxRecDepth 20000 in
theorem fl_12_144 : am_fl 12 144 = some (9, 7) := by decide +kernel
set_option maxRecDepth 20000 in
theorem fl_9_133 : am_fl 9 133 = some (9, 7) := by decide +kernel
set_option maxRecDepth 20000 in
theorem fl_10_37 : am_fl 10 37 = some (9, 8) := by decide +kernel
set_option maxRecDepth 20000 in
theorem fl_0_40 : am_fl 0 40 = some (9, 8) := by decide +kernel
set_option maxRecDepth 20000 in
theorem fl_12_147 : am_fl 12 147 = some (9, 8) := by decide +kernel
set_option maxRecDepth 20000 in
theorem fl_9_136 : am_fl 9 136 = some (9, 8) := by decide +kernel
set_option maxRecDepth 20000 in
theorem fl_10_40 : am_fl 10 40 = some (9, 9) := by decide +kernel
set_option maxRecDepth 20000 in
theorem fl_12_150 : am_fl 12 150 = some (9, 9) := by decide +kernel
set_option maxRecDepth 20000 in
theorem fl_9_139 : am_fl 9 139 = some (9, 9) := by decide +kernel
set_option maxRecDepth 20000 in
theorem fl_10_43 : am_fl 10 43 = some (9, 10) := by decide +kernel
set_option maxRecDepth 20000 in
theorem fl_12_153 : am_fl 12 153 = some (9, 10) := by decide +kernel
set_option maxRecDepth 20000 in
theorem fl_9_142 : am_fl 9 142 = some (9, 10) := by decide +kernel
set_option maxRecDepth 20000 in
theorem fl_10_46 : am_fl 10 46 = some (9, 11) := by decide +kernel
set_option maxRecDepth 20000 in
theorem fl_0_70 : am_fl 0 70 = some (9, 11) := by decide +kernel
set_option maxRecDepth 20000 in
theorem fl_9_148 : am_fl 9 148 = some (9, 11) := by decide +kernel
set_option maxRecDepth 20000 in
theorem fl_10_52 : am_fl 10 52 = some (9, 12) := by decide +kernel
set_option maxRecDepth 20000 in
theorem fl_0_57 : am_fl 0 57 = some (9, 12) := by decide +kernel
set_option maxRecDepth 20000 in
theorem fl_9_157 : am_fl 9 157 = some (9, 12) := by decide +kernel
set_option maxRecDepth 20000 in
theorem fl_10_56 : am_fl 10 56 = some (9, 13) := by decide +kernel
set_option maxRecDepth 20000 in
theorem fl_11_11 : am_fl 11 11 = some (10, 0) := by decide +kernel
set_option maxRecDepth 20000 in
theorem fl_11_15 : am_fl 11 15 = some (10, 1) := by decide +kernel
set_option maxRecDepth 20000 in
theorem fl_11_19 : am_fl 11 19 = some (10, 2) := by decide +kernel
set_option maxRecDepth 20000 in
theorem fl_11_22 : am_fl 11 22 = some (10, 3) := by decide +kernel
set_option maxRecDepth 20000 in
theorem fl_11_25 : am_fl 11 25 = some (10, 4) := by decide +kernel
set_option maxRecDepth 20000 in
theorem fl_11_29 : am_fl 11 29 = some (10, 5) := by decide +kernel
set_option maxRecDepth 20000 in
theorem fl_11_33 : am_fl 11 33 = some (10, 6) := by decide +kernel
set_option maxRecDepth 20000 in
theorem fl_11_36 : am_fl 11 36 = some (10, 7) := by decide +kernel
set_option maxRecDepth 20000 in
theorem fl_11_39 : am_fl 11 39 = some (10, 8) := by decide +kernel
set_option maxRecDepth 20000 in
theorem fl_9_56 : am_fl 9 56 = some (10, 8) := by decide +kernel
set_option maxRecDepth 20000 in
theorem fl_11_42 : am_fl 11 42 = some (10, 9) := by decide +kernel
set_option maxRecDepth 20000 in
theorem fl_9_82 : am_fl 9 82 = some (10, 9) := by decide +kernel
set_option maxRecDepth 20000 in
theorem fl_11_45 : am_fl 11 45 = some (10, 10) := by decide +kernel
set_option maxRecDepth 20000 in
theorem fl_9_91 : am_fl 9 91 = some (10, 10) := by decide +kernel
set_option maxRecDepth 20000 in
theorem fl_9_12 : am_fl 9 12 = some (8, 0) := by decide +kernel
set_option maxRecDepth 20000 in
theorem fl_9_18 : am_fl 9 18 = some (8, 1) := by decide +kernel
set_option maxRecDepth 20000 in
theorem fl_9_22 : am_fl 9 22 = some (8, 2) := by decide +kernel
set_option maxRecDepth 20000 in
theorem fl_9_26 : am_fl 9 26 = some (8, 3) := by decide +kernel
set_option maxRecDepth 20000 in
theorem fl_9_30 : am_fl 9 30 = some (8, 4) := by decide +kernel
set_option maxRecDepth 20000 in
theorem fl_9_33 : am_fl 9 33 = some (8, 5) := by decide +kernel
set_option maxRecDepth 20000 in
theorem fl_9_36 : am_fl 9 36 = some (8, 6) := by decide +kernel
set_option maxRecDepth 20000 in
theorem fl_9_42 : am_fl 9 42 = some (8, 7) := by decide +kernel
set_option maxRecDepth 20000 in
theorem fl_12_96 : am_fl 12 96 = some (8, 7) := by decide +kernel
set_option maxRecDepth 20000 in
theorem fl_9_46 : am_fl 9 46 = some (8, 8) := by decide +kernel
set_option maxRecDepth 20000 in
theorem fl_12_95 : am_fl 12 95 = some (8, 8) := by decide +kernel
set_option maxRecDepth 20000 in
theorem fl_0_15 : am_fl 0 15 = some (0, 0) := by decide +kernel
set_option maxRecDepth 20000 in
theorem fl_0_11 : am_fl 0 11 = some (0, 1) := by decide +kernel
set_option maxRecDepth 20000 in
theorem fl_3_9 : am_fl 3 9 = some (3, 0) := by decide +kernel
set_option maxRecDepth 20000 in
theorem fl_4_50 : am_fl 4 50 = some (3, 0) := by decide +kernel
set_option maxRecDepth 20000 in
theorem fl_5_38 : am_fl 5 38 = some (3, 0) := by decide +kernel
set_option maxRecDepth 20000 in
theorem fl_7_68 : am_fl 7 68 = some (3, 0) := by decide +kernel
set_option maxRecDepth 20000 in
theorem fl_12_118 : am_fl 12 118 = some (3, 0) := by decide +kernel
set_option maxRecDepth 20000 in
theorem fl_3_15 : am_fl 3 15 = some (3, 1) := by decide +kernel
set_option maxRecDepth 20000 in
theorem fl_5_43 : am_fl 5 43 = some (3, 1) := by decide +kernel
set_option maxRecDepth 20000 in
theorem fl_4_65 : am_fl 4 65 = some (3, 1) := by decide +kernel
set_option maxRecDepth 20000 in
theorem fl_7_75 : am_fl 7 75 = some (3, 1) := by decide +kernel
set_option maxRecDepth 20000 in
theorem fl_12_162 : am_fl 12 162 = some (3, 1) := by decide +kernel
set_option maxRecDepth 20000 in
theorem fl_3_18 : am_fl 3 18 = some (3, 2) := by decide +kernel
set_option maxRecDepth 20000 in
theorem fl_4_57 : am_fl 4 57 = some (3, 2) := by decide +kernel
set_option maxRecDepth 20000 in
theorem fl_7_78 : am_fl 7 78 = some (3, 2) := by decide +kernel
set_option maxRecDepth 20000 in
theorem fl_12_159 : am_fl 12 159 = some (3, 2) := by decide +kernel
set_option maxRecDepth 20000 in
theorem fl_3_21 : am_fl 3 21 = some (3, 3) := by decide +kernel
set_option maxRecDepth 20000 in
theorem fl_4_45 : am_fl 4 45 = some (3, 3) := by decide +kernel
set_option maxRecDepth 20000 in
theorem fl_7_63 : am_fl 7 63 = some (3, 3) := by decide +kernel
set_option maxRecDepth 20000 in
theorem fl_12_174 : am_fl 12 174 = some (3, 3) := by decide +kernel
set_option maxRecDepth 20000 in
theorem fl_3_24 : am_fl 3 24 = some (3, 4) := by decide +kernel
set_option maxRecDepth 20000 in
theorem fl_12_227 : am_fl 12 227 = some (3, 4) := by decide +kernel
set_option maxRecDepth 20000 in
theorem fl_3_27 : am_fl 3 27 = some (3, 5) := by decide +kernel
set_option maxRecDepth 20000 in
theorem fl_12_192 : am_fl 12 192 = some (3, 5) := by decide +kernel
set_option maxRecDepth 20000 in
theorem fl_3_30 : am_fl 3 30 = some (3, 6) := by decide +kernel
set_option maxRecDepth 20000 in
theorem fl_12_198 : am_fl 12 198 = some (3, 6) := by decide +kernel
set_option maxRecDepth 20000 in
theorem fl_3_33 : am_fl 3 33 = some (3, 7) := by decide +kernel
set_option maxRecDepth 20000 in
theorem fl_12_340 : am_fl 12 340 = some (3, 7) := by decide +kernel
set_option maxRecDepth 20000 in
theorem fl_3_36 : am_fl 3 36 = some (3, 8) := by decide +kernel
set_option maxRecDepth 20000 in
theorem fl_12_343 : am_fl 12 343 = some (3, 8) := by decide +kernel
set_option maxRecDepth 20000 in
theorem fl_3_39 : am_fl 3 39 = some (3, 9) := by decide +kernel
set_option maxRecDepth 20000 in
theorem fl_12_275 : am_fl 12 275 = some (3, 9) := by decide +kernel
set_option maxRecDepth 20000 in
theorem fl_3_42 : am_fl 3 42 = some (3, 10) := by decide +kernel
set_option maxRecDepth 20000 in
theorem fl_12_156 : am_fl 12 156 = some (3, 10) := by decide +kernel
set_option maxRecDepth 20000 in
theorem fl_3_46 : am_fl 3 46 = some (3, 11) := by decide +kernel
set_option maxRecDepth 20000 in
theorem fl_12_281 : am_fl 12 281 = some (3, 11) := by decide +kernel
set_option maxRecDepth 20000 in
theorem fl_3_49 : am_fl 3 49 = some (3, 12) := by decide +kernel
set_option maxRecDepth 20000 in
theorem fl_12_284 : am_fl 12 284 = some (3, 12) := by decide +kernel
set_option maxRecDepth 20000 in
theorem fl_3_52 : am_fl 3 52 = some (3, 13) := by decide +kernel
set_option maxRecDepth 20000 in
theorem fl_12_287 : am_fl 12 287 = some (3, 13) := by decide +kernel
set_option maxRecDepth 20000 in
theorem fl_6_11 : am_fl 6 11 = some (6, 0) := by decide +kernel
set_option maxRecDepth 20000 in
theorem fl_6_17 : am_fl 6 17 = some (6, 1) := by decide +kernel
set_option maxRecDepth 20000 in
theorem fl_6_20 : am_fl 6 20 = some (6, 2) := by decide +kernel
set_option maxRecDepth 20000 in
theorem fl_6_24 : am_fl 6 24 = some (6, 3) := by decide +kernel
set_option maxRecDepth 20000 in
theorem fl_6_27 : am_fl 6 27 = some (6, 4) := by decide +kernel
set_option maxRecDepth 20000 in
theorem fl_12_334 : am_fl 12 334 = some (6, 4) := by decide +kernel
set_option maxRecDepth 20000 in
theorem fl_7_43 : am_fl 7 43 = some (7, 0) := by decide +kernel
set_option maxRecDepth 20000 in
theorem fl_7_47 : am_fl 7 47 = some (7, 1) := by decide +kernel
set_option maxRecDepth 20000 in
theorem fl_7_11 : am_fl 7 11 = some (7, 2) := by decide +kernel
set_option maxRecDepth 20000 in
theorem fl_7_15 : am_fl 7 15 = some (7, 3) := by decide +kernel
set_option maxRecDepth 20000 in
theorem fl_7_18 : am_fl 7 18 = some (7, 4) := by decide +kernel
set_option maxRecDepth 20000 in
theorem fl_7_21 : am_fl 7 21 = some (7, 5) := by decide +kernel
set_option maxRecDepth 20000 in
theorem fl_7_24 : am_fl 7 24 = some (7, 6) := by decide +kernel
set_option maxRecDepth 20000 in
theorem fl_7_28 : am_fl 7 28 = some (7, 7) := by decide +kernel
set_option maxRecDepth 20000 in
theorem fl_7_31 : am_fl 7 31 = some (7, 8) := by decide +kernel
set_option maxRecDepth 20000 in
theorem fl_7_34 : am_fl 7 34 = some (7, 9) := by decide +kernel
set_option maxRecDepth 20000 in
theorem fl_7_37 : am_fl 7 37 = some (7, 10) := by decide +kernel
set_option maxRecDepth 20000 in
theorem fl_7_40 : am_fl 7 40 = some (7, 11) := by decide +kernel
set_option maxRecDepth 20000 in
theorem fl_12_241 : am_fl 12 241 = some (7, 11) := by decide +kernel
set_option maxRecDepth 20000 in
theorem fl_4_33 : am_fl 4 33 = some (4, 0) := by decide +kernel
set_option maxRecDepth 20000 in
theorem fl_4_37 : am_fl 4 37 = some (4, 1) := by decide +kernel
set_option maxRecDepth 20000 in
theorem fl_4_13 : am_fl 4 13 = some (4, 2) := by decide +kernel
set_option maxRecDepth 20000 in
theorem fl_4_16 : am_fl 4 16 = some (4, 3) := by decide +kernel
set_option maxRecDepth 20000 in
theorem fl_4_20 : am_fl 4 20 = some (4, 4) := by decide +kernel
set_option maxRecDepth 20000 in
theorem fl_4_24 : am_fl 4 24 = some (4, 5) := by decide +kernel
set_option maxRecDepth 20000 in
theorem fl_4_27 : am_fl 4 27 = some (4, 6) := by decide +kernel
set_option maxRecDepth 20000 in
theorem fl_4_30 : am_fl 4 30 = some (4, 7) := by decide +kernel
set_option maxRecDepth 20000 in
theorem fl_5_19 : am_fl 5 19 = some (5, 0) := by decide +kernel
set_option maxRecDepth 20000 in
theorem fl_5_23 : am_fl 5 23 = some (5, 1) := by decide +kernel
set_option maxRecDepth 20000 in
theorem fl_5_9 : am_fl 5 9 = some (5, 2) := by decide +kernel
set_option maxRecDepth 20000 in
theorem fl_5_15 : am_fl 5 15 = some (5, 3) := by decide +kernel
set_option maxRecDepth 20000 in
theorem fl_2_45 : am_fl 2 45 = some (2, 0) := by decide +kernel
set_option maxRecDepth 20000 in
theorem fl_2_9 : am_fl 2 9 = some (2, 1) := by decide +kernel
set_option maxRecDepth 20000 in
theorem fl_2_15 : am_fl 2 15 = some (2, 2) := by decide +kernel
set_option maxRecDepth 20000 in
theorem fl_2_18 : am_fl 2 18 = some (2, 3) := by decide +kernel
set_option maxRecDepth 20000 in
theorem fl_2_21 : am_fl 2 21 = some (2, 4) := by decide +kernel
set_option maxRecDepth 20000 in
theorem fl_2_26 : am_fl 2 26 = some (2, 5) := by decide +kernel
set_option maxRecDepth 20000 in
theorem fl_2_29 : am_fl 2 29 = some (2, 6) := by decide +kernel
set_option maxRecDepth 20000 in
theorem fl_2_33 : am_fl 2 33 = some (2, 7) := by decide +kernel
set_option maxRecDepth 20000 in
theorem fl_2_36 : am_fl 2 36 = some (2, 8) := by decide +kernel
set_option maxRecDepth 20000 in
theorem fl_12_321 : am_fl 12 321 = some (2, 8) := by decide +kernel
set_option maxRecDepth 20000 in
theorem fl_2_39 : am_fl 2 39 = some (2, 9) := by decide +kernel
set_option maxRecDepth 20000 in
theorem fl_12_318 : am_fl 12 318 = some (2, 9) := by decide +kernel
set_option maxRecDepth 20000 in
theorem fl_2_42 : am_fl 2 42 = some (2, 10) := by decide +kernel
set_option maxRecDepth 20000 in
theorem fl_12_111 : am_fl 12 111 = some (2, 10) := by decide +kernel
set_option maxRecDepth 20000 in
theorem fl_12_9 : am_fl 12 9 = some (11, 0) := by decide +kernel
set_option maxRecDepth 20000 in
theorem fl_12_13 : am_fl 12 13 = some (11, 1) := by decide +kernel
set_option maxRecDepth 20000 in
theorem fl_12_17 : am_fl 12 17 = some (11, 2) := by decide +kernel
set_option maxRecDepth 20000 in
theorem fl_12_23 : am_fl 12 23 = some (11, 3) := by decide +kernel
set_option maxRecDepth 20000 in
theorem fl_12_30 : am_fl 12 30 = some (11, 4) := by decide +kernel
set_option maxRecDepth 20000 in
theorem fl_12_39 : am_fl 12 39 = some (11, 5) := by decide +kernel
set_option maxRecDepth 20000 in
theorem fl_12_46 : am_fl 12 46 = some (11, 6) := by decide +kernel
set_option maxRecDepth 20000 in
theorem fl_12_53 : am_fl 12 53 = some (11, 7) := by decide +kernel
set_option maxRecDepth 20000 in
theorem fl_12_62 : am_fl 12 62 = some (11, 8) := by decide +kernel
set_option maxRecDepth 20000 in
theorem fl_12_69 : am_fl 12 69 = some (11, 9) := by decide +kernel
set_option maxRecDepth 20000 in
theorem fl_12_76 : am_fl 12 76 = some (11, 10) := by decide +kernel
set_option maxRecDepth 20000 in
theorem fl_12_83 : am_fl 12 83 = some (11, 11) := by decide +kernel
set_option maxRecDepth 20000 in
theorem fl_13_13 : am_fl 13 13 = some (12, 1) := by decide +kernel
set_option maxRecDepth 20000 in
theorem fl_13_172 : am_fl 13 172 = some (12, 2) := by decide +kernel
set_option maxRecDepth 20000 in
theorem fl_13_17 : am_fl 13 17 = some (12, 3) := by decide +kernel
set_option maxRecDepth 20000 in
theorem fl_13_178 : am_fl 13 178 = some (12, 4) := by decide +kernel
set_option maxRecDepth 20000 in
theorem fl_13_20 : am_fl 13 20 = some (12, 5) := by decide +kernel
set_option maxRecDepth 20000 in
theorem fl_13_24 : am_fl 13 24 = some (12, 6) := by decide +kernel
set_option maxRecDepth 20000 in
theorem fl_13_27 : am_fl 13 27 = some (12, 7) := by decide +kernel
set_option maxRecDepth 20000 in
theorem fl_13_30 : am_fl 13 30 = some (12, 8) := by decide +kernel
set_option maxRecDepth 20000 in
theorem fl_13_34 : am_fl 13 34 = some (12, 9) := by decide +kernel
set_option maxRecDepth 20000 in
theorem fl_13_187 : am_fl 13 187 = some (12, 10) := by decide +kernel
set_option maxRecDepth 20000 in
theorem fl_13_212 : am_fl 13 212 = some (12, 11) := by decide +kernel
set_option maxRecDepth 20000 in
theorem fl_13_236 : am_fl 13 236 = some (12, 12) := by decide +kernel
set_option maxRecDepth 20000 in
theorem fl_13_209 : am_fl 13 209 = some (12, 13) := by decide +kernel
set_option maxRecDepth 20000 in
theorem fl_13_215 : am_fl 13 215 = some (12, 14) := by decide +kernel
set_option maxRecDepth 20000 in
theorem fl_13_218 : am_fl 13 218 = some (12, 15) := by decide +kernel
set_option maxRecDepth 20000 in
theorem fl_13_221 : am_fl 13 221 = some (12, 16) := by decide +kernel
set_option maxRecDepth 20000 in
theorem fl_13_37 : am_fl 13 37 = some (12, 17) := by decide +kernel
set_option maxRecDepth 20000 in
theorem fl_13_239 : am_fl 13 239 = some (12, 18) := by decide +kernel
set_option maxRecDepth 20000 in
theorem fl_13_242 : am_fl 13 242 = some (12, 19) := by decide +kernel
set_option maxRecDepth 20000 in
theorem fl_13_245 : am_fl 13 245 = some (12, 20) := by decide +kernel
set_option maxRecDepth 20000 in
theorem fl_13_40 : am_fl 13 40 = some (12, 21) := by decide +kernel
set_option maxRecDepth 20000 in
theorem fl_13_43 : am_fl 13 43 = some (12, 22) := by decide +kernel
set_option maxRecDepth 20000 in
theorem fl_13_46 : am_fl 13 46 = some (12, 23) := by decide +kernel
set_option maxRecDepth 20000 in
theorem fl_13_49 : am_fl 13 49 = some (12, 24) := by decide +kernel
set_option maxRecDepth 20000 in
theorem fl_13_52 : am_fl 13 52 = some (12, 25) := by decide +kernel
set_option maxRecDepth 20000 in
theorem fl_13_55 : am_fl 13 55 = some (12, 26) := by decide +kernel
set_option maxRecDepth 20000 in
theorem fl_13_58 : am_fl 13 58 = some (12, 27) := by decide +kernel
set_option maxRecDepth 20000 in
theorem fl_13_61 : am_fl 13 61 = some (12, 28) := by decide +kernel
set_option maxRecDepth 20000 in
theorem fl_13_64 : am_fl 13 64 = some (12, 29) := by decide +kernel
set_option maxRecDepth 20000 in
theorem fl_13_67 : am_fl 13 67 = some (12, 30) := by decide +kernel
set_option maxRecDepth 20000 in
theorem fl_13_70 : am_fl 13 70 = some (12, 31) := by decide +kernel
set_option maxRecDepth 20000 in
theorem fl_13_73 : am_fl 13 73 = some (12, 32) := by decide +kernel
set_option maxRecDepth 20000 in
theorem fl_13_76 : am_fl 13 76 = some (12, 33) := by decide +kernel
set_option maxRecDepth 20000 in
theorem fl_13_79 : am_fl 13 79 = some (12, 34) := by decide +kernel
set_option maxRecDepth 20000 in
theorem fl_13_82 : am_fl 13 82 = some (12, 35) := by decide +kernel
set_option maxRecDepth 20000 in
theorem fl_13_85 : am_fl 13 85 = some (12, 36) := by decide +kernel
set_option maxRecDepth 20000 in
theorem fl_13_248 : am_fl 13 248 = some (12, 37) := by decide +kernel
set_option maxRecDepth 20000 in
theorem fl_13_88 : am_fl 13 88 = some (12, 38) := by decide +kernel
set_option maxRecDepth 20000 in
theorem fl_13_92 : am_fl 13 92 = some (12, 39) := by decide +kernel
set_option maxRecDepth 20000 in
theorem fl_13_95 : am_fl 13 95 = some (12, 40) := by decide +kernel
set_option maxRecDepth 20000 in
theorem fl_13_98 : am_fl 13 98 = some (12, 41) := by decide +kernel
set_option maxRecDepth 20000 in
theorem fl_13_101 : am_fl 13 101 = some (12, 42) := by decide +kernel
set_option maxRecDepth 20000 in
theorem fl_13_251 : am_fl 13 251 = some (12, 43) := by decide +kernel
set_option maxRecDepth 20000 in
theorem fl_13_104 : am_fl 13 104 = some (12, 44) := by decide +kernel
set_option maxRecDepth 20000 in
theorem fl_13_107 : am_fl 13 107 = some (12, 45) := by decide +kernel
set_option maxRecDepth 20000 in
theorem fl_13_110 : am_fl 13 110 = some (12, 46) := by decide +kernel
set_option maxRecDepth 20000 in
theorem fl_13_302 : am_fl 13 302 = some (12, 47) := by decide +kernel
set_option maxRecDepth 20000 in
theorem fl_13_113 : am_fl 13 113 = some (12, 48) := by decide +kernel
set_option maxRecDepth 20000 in
theorem fl_13_116 : am_fl 13 116 = some (12, 49) := by decide +kernel
set_option maxRecDepth 20000 in
theorem fl_13_315 : am_fl 13 315 = some (12, 50) := by decide +kernel
set_option maxRecDepth 20000 in
theorem fl_13_119 : am_fl 13 119 = some (12, 51) := by decide +kernel
set_option maxRecDepth 20000 in
theorem fl_13_122 : am_fl 13 122 = some (12, 52) := by decide +kernel
set_option maxRecDepth 20000 in
theorem fl_13_326 : am_fl 13 326 = some (12, 53) := by decide +kernel
set_option maxRecDepth 20000 in
theorem fl_13_257 : am_fl 13 257 = some (12, 54) := by decide +kernel
set_option maxRecDepth 20000 in
theorem fl_13_125 : am_fl 13 125 = some (12, 55) := by decide +kernel
set_option maxRecDepth 20000 in
theorem fl_13_128 : am_fl 13 128 = some (12, 56) := by decide +kernel
set_option maxRecDepth 20000 in
theorem fl_13_131 : am_fl 13 131 = some (12, 57) := by decide +kernel
set_option maxRecDepth 20000 in
theorem fl_13_134 : am_fl 13 134 = some (12, 58) := by decide +kernel
set_option maxRecDepth 20000 in
theorem fl_13_137 : am_fl 13 137 = some (12, 59) := by decide +kernel
set_option maxRecDepth 20000 in
theorem fl_13_260 : am_fl 13 260 = some (12, 60) := by decide +kernel
set_option maxRecDepth 20000 in
theorem fl_13_140 : am_fl 13 140 = some (12, 61) := by decide +kernel
set_option maxRecDepth 20000 in
theorem fl_13_143 : am_fl 13 143 = some (12, 62) := by decide +kernel
set_option maxRecDepth 20000 in
theorem fl_13_146 : am_fl 13 146 = some (12, 63) := by decide +kernel
set_option maxRecDepth 20000 in
theorem fl_13_149 : am_fl 13 149 = some (12, 64) := by decide +kernel
set_option maxRecDepth 20000 in
theorem fl_13_152 : am_fl 13 152 = some (12, 65) := by decide +kernel
set_option maxRecDepth 20000 in
theorem fl_13_155 : am_fl 13 155 = some (12, 66) := by decide +kernel
set_option maxRecDepth 20000 in
theorem fin_1_3 : am_fin 1 3 = false := by decide +kernel
set_option maxRecDepth 20000 in
theorem ty_1_3 : am_ty 1 3 = .int := rfl
set_option maxRecDepth 20000 in
theorem fin_2_6 : am_fin 2 6 = false := by decide +kernel
set_option maxRecDepth 20000 in
theorem ty_2_6 : am_ty 2 6 = .int := rfl
set_option maxRecDepth 20000 in
theorem fin_2_7 : am_fin 2 7 = false := by decide +kernel
set_option maxRecDepth 20000 in
theorem ty_2_7 : am_ty 2 7 = .int := rfl
set_option maxRecDepth 20000 in
theorem fin_2_9 : am_fin 2 9 = false := by decide +kernel
set_option maxRecDepth 20000 in
theorem ty_2_9 : am_ty 2 9 = .int := rfl
set_option maxRecDepth 20000 in
theorem fin_2_10 : am_fin 2 10 = false := by decide +kernel
set_option maxRecDepth 20000 in
theorem ty_2_10 : am_ty 2 10 = .int := rfl
set_option maxRecDepth 20000 in
theorem fin_3_0 : am_fin 3 0 = false := by decide +kernel
set_option maxRecDepth 20000 in
theorem ty_3_0 : am_ty 3 0 = .int := rfl
set_option maxRecDepth 20000 in
theorem fin_3_1 : am_fin 3 1 = false := by decide +kernel
set_option maxRecDepth 20000 in
theorem ty_3_1 : am_ty 3 1 = .int := rfl
set_option maxRecDepth 20000 in
theorem fin_3_2 : am_fin 3 2 = false := by decide +kernel
set_option maxRecDepth 20000 in
theorem ty_3_2 : am_ty 3 2 = .int := rfl
set_option maxRecDepth 20000 in
theorem fin_3_3 : am_fin 3 3 = false := by decide +kernel
set_option maxRecDepth 20000 in
theorem ty_3_3 : am_ty 3 3 = .int := rfl
set_option maxRecDepth 20000 in
theorem fin_3_4 : am_fin 3 4 = false := by decide +kernel
set_option maxRecDepth 20000 in
theorem ty_3_4 : am_ty 3 4 = .int := rfl
set_option maxRecDepth 20000 in
theorem fin_3_5 : am_fin 3 5 = false := by decide +kernel
set_option maxRecDepth 20000 in
theorem ty_3_5 : am_ty 3 5 = .int := rfl
set_option maxRecDepth 20000 in
theorem fin_3_6 : am_fin 3 6 = false := by decide +kernel
set_option maxRecDepth 20000 in
theorem ty_3_6 : am_ty 3 6 = .int := rfl
set_option maxRecDepth 20000 in
theorem fin_3_7 : am_fin 3 7 = false := by decide +kernel
set_option maxRecDepth 20000 in
theorem ty_3_7 : am_ty 3 7 = .int := rfl
set_option maxRecDepth 20000 in
theorem fin_3_8 : am_fin 3 8 = false := by decide +kernel
set_option maxRecDepth 20000 in
theorem ty_3_8 : am_ty 3 8 = .int := rfl
set_option maxRecDepth 20000 in
theorem fin_3_9 : am_fin 3 9 = false := by decide +kernel
set_option maxRecDepth 20000 in
theorem ty_3_9 : am_ty 3 9 = .int := rfl
set_option maxRecDepth 20000 in
theorem fin_4_4 : am_fin 4 4 = false := by decide +kernel
set_option maxRecDepth 20000 in
theorem ty_4_4 : am_ty 4 4 = .int := rfl
set_option maxRecDepth 20000 in
theorem fin_4_5 : am_fin 4 5 = false := by decide +kernel
set_option maxRecDepth 20000 in
theorem ty_4_5 : am_ty 4 5 = .int := rfl
set_option maxRecDepth 20000 in
theorem fin_4_6 : am_fin 4 6 = false := by decide +kernel
set_option maxRecDepth 20000 in
theorem ty_4_6 : am_ty 4 6 = .int := rfl
set_option maxRecDepth 20000 in
theorem fin_4_7 : am_fin 4 7 = false := by decide +kernel
set_option maxRecDepth 20000 in
theorem ty_4_7 : am_ty 4 7 = .int := rfl
set_option maxRecDepth 20000 in
theorem fin_5_3 : am_fin 5 3 = false := by decide +kernel
set_option maxRecDepth 20000 in
theorem ty_5_3 : am_ty 5 3 = .int := rfl
set_option maxRecDepth 20000 in
theorem fin_6_2 : am_fin 6 2 = false := by decide +kernel
set_option maxRecDepth 20000 in
theorem ty_6_2 : am_ty 6 2 = .int := rfl
set_option maxRecDepth 20000 in
theorem fin_6_3 : am_fin 6 3 = false := by decide +kernel
set_option maxRecDepth 20000 in
theorem ty_6_3 : am_ty 6 3 = .int := rfl
set_option maxRecDepth 20000 in
theorem fin_6_4 : am_fin 6 4 = false := by decide +kernel
set_option maxRecDepth 20000 in
theorem ty_6_4 : am_ty 6 4 = .int := rfl
set_option maxRecDepth 20000 in
theorem fin_7_2 : am_fin 7 2 = false := by decide +kernel
set_option maxRecDepth 20000 in
theorem fin_7_3 : am_fin 7 3 = false := by decide +kernel
set_option maxRecDepth 20000 in
theorem fin_7_4 : am_fin 7 4 = false := by decide +kernel
set_option maxRecDepth 20000 in
theorem fin_7_5 : am_fin 7 5 = false := by decide +kernel
set_option maxRecDepth 20000 in
theorem fin_7_6 : am_fin 7 6 = false := by decide +kernel
set_option maxRecDepth 20000 in
theorem ty_7_6 : am_ty 7 6 = .int := rfl
set_option maxRecDepth 20000 in
theorem fin_7_7 : am_fin 7 7 = false := by decide +kernel
set_option maxRecDepth 20000 in
theorem ty_7_7 : am_ty 7 7 = .int := rfl
set_option maxRecDepth 20000 in
theorem fin_7_8 : am_fin 7 8 = false := by decide +kernel
set_option maxRecDepth 20000 in
theorem ty_7_8 : am_ty 7 8 = .int := rfl
set_option maxRecDepth 20000 in
theorem fin_7_9 : am_fin 7 9 = false := by decide +kernel
set_option maxRecDepth 20000 in
theorem ty_7_9 : am_ty 7 9 = .int := rfl
set_option maxRecDepth 20000 in
theorem fin_7_10 : am_fin 7 10 = false := by decide +kernel
set_option maxRecDepth 20000 in
theorem ty_7_10 : am_ty 7 10 = .int := rfl
set_option maxRecDepth 20000 in
theorem fin_7_11 : am_fin 7 11 = false := by decide +kernel
set_option maxRecDepth 20000 in
theorem ty_7_11 : am_ty 7 11 = .int := rfl
set_option maxRecDepth 20000 in
theorem fin_8_3 : am_fin 8 3 = false := by decide +kernel
set_option maxRecDepth 20000 in
theorem ty_8_3 : am_ty 8 3 = .int := rfl
set_option maxRecDepth 20000 in
theorem fin_8_4 : am_fin 8 4 = false := by decide +kernel
set_option maxRecDepth 20000 in
theorem ty_8_4 : am_ty 8 4 = .int := rfl
set_option maxRecDepth 20000 in
theorem fin_8_5 : am_fin 8 5 = false := by decide +kernel
set_option maxRecDepth 20000 in
theorem ty_8_5 : am_ty 8 5 = .int := rfl
set_option maxRecDepth 20000 in
theorem fin_8_6 : am_fin 8 6 = false := by decide +kernel
set_option maxRecDepth 20000 in
theorem ty_8_6 : am_ty 8 6 = .int := rfl
set_option maxRecDepth 20000 in
theorem fin_8_8 : am_fin 8 8 = false := by decide +kernel
set_option maxRecDepth 20000 in
theorem ty_8_8 : am_ty 8 8 = .int := rfl
set_option maxRecDepth 20000 in
theorem fin_9_0 : am_fin 9 0 = false := by decide +kernel
set_option maxRecDepth 20000 in
theorem ty_9_0 : am_ty 9 0 = .int := rfl
set_option maxRecDepth 20000 in
theorem fin_9_1 : am_fin 9 1 = false := by decide +kernel
set_option maxRecDepth 20000 in
theorem ty_9_1 : am_ty 9 1 = .int := rfl
set_option maxRecDepth 20000 in
theorem fin_9_2 : am_fin 9 2 = false := by decide +kernel
set_option maxRecDepth 20000 in
theorem ty_9_2 : am_ty 9 2 = .int := rfl
set_option maxRecDepth 20000 in
theorem fin_9_3 : am_fin 9 3 = false := by decide +kernel
set_option maxRecDepth 20000 in
theorem ty_9_3 : am_ty 9 3 = .int := rfl
set_option maxRecDepth 20000 in
theorem fin_9_4 : am_fin 9 4 = false := by decide +kernel
set_option maxRecDepth 20000 in
theorem ty_9_4 : am_ty 9 4 = .int := rfl
set_option maxRecDepth 20000 in
theorem fin_9_5 : am_fin 9 5 = false := by decide +kernel
set_option maxRecDepth 20000 in
theorem ty_9_5 : am_ty 9 5 = .int := rfl
set_option maxRecDepth 20000 in
theorem fin_10_4 : am_fin 10 4 = false := by decide +kernel
set_option maxRecDepth 20000 in
theorem fin_10_5 : am_fin 10 5 = false := by decide +kernel
set_option maxRecDepth 20000 in
theorem ty_10_5 : am_ty 10 5 = .int := rfl
set_option maxRecDepth 20000 in
theorem fin_10_6 : am_fin 10 6 = false := by decide +kernel
set_option maxRecDepth 20000 in
theorem ty_10_6 : am_ty 10 6 = .int := rfl
set_option maxRecDepth 20000 in
theorem fin_10_7 : am_fin 10 7 = false := by decide +kernel
set_option maxRecDepth 20000 in
theorem ty_10_7 : am_ty 10 7 = .int := rfl
set_option maxRecDepth 20000 in
theorem fin_10_8 : am_fin 10 8 = false := by decide +kernel
set_option maxRecDepth 20000 in
theorem ty_10_8 : am_ty 10 8 = .int := rfl
set_option maxRecDepth 20000 in
theorem fin_10_9 : am_fin 10 9 = false := by decide +kernel
set_option maxRecDepth 20000 in
theorem ty_10_9 : am_ty 10 9 = .int := rfl
set_option maxRecDepth 20000 in
theorem fin_10_10 : am_fin 10 10 = false := by decide +kernel
set_option maxRecDepth 20000 in
theorem fin_11_1 : am_fin 11 1 = false := by decide +kernel
set_option maxRecDepth 20000 in
theorem ty_11_1 : am_ty 11 1 = .int := rfl
set_option maxRecDepth 20000 in
theorem fin_11_2 : am_fin 11 2 = false := by decide +kernel
set_option maxRecDepth 20000 in
theorem ty_11_2 : am_ty 11 2 = .int := rfl
set_option maxRecDepth 20000 in
theorem fin_12_0 : am_fin 12 0 = false := by decide +kernel
set_option maxRecDepth 20000 in
theorem ty_12_0 : am_ty 12 0 = .int := rfl
set_option maxRecDepth 20000 in
theorem fin_12_2 : am_fin 12 2 = false := by decide +kernel
set_option maxRecDepth 20000 in
theorem ty_12_2 : am_ty 12 2 = .int := rfl
set_option maxRecDepth 20000 in
theorem fin_12_4 : am_fin 12 4 = false := by decide +kernel
set_option maxRecDepth 20000 in
theorem ty_12_4 : am_ty 12 4 = .int := rfl
set_option maxRecDepth 20000 in
theorem fin_12_10 : am_fin 12 10 = false := by decide +kernel
set_option maxRecDepth 20000 in
theorem ty_12_10 : am_ty 12 10 = .int := rfl
set_option maxRecDepth 20000 in
theorem fin_12_11 : am_fin 12 11 = false := by decide +kernel
set_option maxRecDepth 20000 in
theorem ty_12_11 : am_ty 12 11 = .int := rfl
set_option maxRecDepth 20000 in
theorem fin_12_12 : am_fin 12 12 = false := by decide +kernel
set_option maxRecDepth 20000 in
theorem ty_12_12 : am_ty 12 12 = .int := rfl
set_option maxRecDepth 20000 in
theorem fin_12_13 : am_fin 12 13 = false := by decide +kernel
set_option maxRecDepth 20000 in
theorem ty_12_13 : am_ty 12 13 = .int := rfl
set_option maxRecDepth 20000 in
theorem fin_12_14 : am_fin 12 14 = false := by decide +kernel
set_option maxRecDepth 20000 in
theorem ty_12_14 : am_ty 12 14 = .int := rfl
set_option maxRecDepth 20000 in
theorem fin_12_15 : am_fin 12 15 = false := by decide +kernel
set_option maxRecDepth 20000 in
theorem ty_12_15 : am_ty 12 15 = .int := rfl
set_option maxRecDepth 20000 in
theorem fin_12_16 : am_fin 12 16 = false := by decide +kernel
set_option maxRecDepth 20000 in
theorem ty_12_16 : am_ty 12 16 = .int := rfl
set_option maxRecDepth 20000 in
theorem fin_12_17 : am_fin 12 17 = false := by decide +kernel
set_option maxRecDepth 20000 in
theorem ty_12_17 : am_ty 12 17 = .int := rfl
set_option maxRecDepth 20000 in
theorem fin_12_18 : am_fin 12 18 = false := by decide +kernel
set_option maxRecDepth 20000 in
theorem ty_12_18 : am_ty 12 18 = .int := rfl
set_option maxRecDepth 20000 in
theorem fin_12_19 : am_fin 12 19 = false := by decide +kernel
set_option maxRecDepth 20000 in
theorem ty_12_19 : am_ty 12 19 = .int := rfl
set_option maxRecDepth 20000 in
theorem fin_12_20 : am_fin 12 20 = false := by decide +kernel
set_option maxRecDepth 20000 in
theorem ty_12_20 : am_ty 12 20 = .int := rfl
set_option maxRecDepth 20000 in
theorem fin_12_37 : am_fin 12 37 = false := by decide +kernel
set_option maxRecDepth 20000 in
theorem ty_12_37 : am_ty 12 37 = .int := rfl
set_option maxRecDepth 20000 in
theorem fin_12_43 : am_fin 12 43 = false := by decide +kernel
set_option maxRecDepth 20000 in
theorem ty_12_43 : am_ty 12 43 = .int := rfl
set_option maxRecDepth 20000 in
theorem fin_12_47 : am_fin 12 47 = false := by decide +kernel
set_option maxRecDepth 20000 in
theorem ty_12_47 : am_ty 12 47 = .int := rfl
set_option maxRecDepth 20000 in
theorem fin_12_50 : am_fin 12 50 = false := by decide +kernel
set_option maxRecDepth 20000 in
theorem fin_12_53 : am_fin 12 53 = false := by decide +kernel
set_option maxRecDepth 20000 in
theorem ty_12_53 : am_ty 12 53 = .int := rfl
set_option maxRecDepth 20000 in
theorem fin_12_54 : am_fin 12 54 = false := by decide +kernel
set_option maxRecDepth 20000 in
theorem ty_12_54 : am_ty 12 54 = .int := rfl
set_option maxRecDepth 20000 in
theorem fin_12_60 : am_fin 12 60 = false := by decide +kernel
set_option maxRecDepth 20000 in
theorem ty_12_60 : am_ty 12 60 = .int := rfl
set_option maxRecDepth 20000 in
theorem shr_0 : am_SH 0 = (11, 12) := by decide +kernel
set_option maxRecDepth 20000 in
theorem shr_1 : am_SH 1 = (21, 2000) := by decide +kernel
set_option maxRecDepth 20000 in
theorem shr_2 : am_SH 2 = (9, 14) := by decide +kernel
set_option maxRecDepth 20000 in
theorem shr_3 : am_SH 3 = (20, 5) := by decide +kernel
set_option maxRecDepth 20000 in
theorem shr_4 : am_SH 4 = (20, 7) := by decide +kernel
set_option maxRecDepth 20000 in
theorem shr_5 : am_SH 5 = (20, 7) := by decide +kernel
set_option maxRecDepth 20000 in
theorem shr_6 : am_SH 6 = (20, 7) := by decide +kernel
set_option maxRecDepth 20000 in
theorem shr_7 : am_SH 7 = (20, 7) := by decide +kernel
set_option maxRecDepth 20000 in
theorem shr_8 : am_SH 8 = (20, 7) := by decide +kernel
set_option maxRecDepth 20000 in
theorem shr_9 : am_SH 9 = (1, 4) := by decide +kernel
set_option maxRecDepth 20000 in
theorem shr_10 : am_SH 10 = (20, 406) := by decide +kernel
set_option maxRecDepth 20000 in
theorem shr_11 : am_SH 11 = (20, 3) := by decide +kernel
set_option maxRecDepth 20000 in
theorem shr_12 : am_SH 12 = (20, 32) := by decide +kernel
set_option maxRecDepth 20000 in
theorem shr_13 : am_SH 13 = (20, 3) := by decide +kernel
set_option maxRecDepth 20000 in
theorem shr_14 : am_SH 14 = (8, 9) := by decide +kernel
set_option maxRecDepth 20000 in
theorem shr_15 : am_SH 15 = (10, 11) := by decide +kernel
set_option maxRecDepth 20000 in
theorem shr_16 : am_SH 16 = (23, 20) := by decide +kernel
set_option maxRecDepth 20000 in
theorem shr_17 : am_SH 17 = (20, 401) := by decide +kernel
set_option maxRecDepth 20000 in
theorem shr_18 : am_SH 18 = (20, 401) := by decide +kernel
set_option maxRecDepth 20000 in
theorem shr_19 : am_SH 19 = (23, 401) := by decide +kernel
set_option maxRecDepth 20000 in
theorem shr_20 : am_SH 20 = (21, 0) := by decide +kernel
set_option maxRecDepth 20000 in
theorem shr_21 : am_SH 21 = (23, 12) := by decide +kernel
set_option maxRecDepth 20000 in
theorem shr_22 : am_SH 22 = (20, 12) := by decide +kernel
set_option maxRecDepth 20000 in
theorem shr_23 : am_SH 23 = (9, 14) := by decide +kernel
set_option maxRecDepth 20000 in
theorem shr_24 : am_SH 24 = (20, 5) := by decide +kernel
set_option maxRecDepth 20000 in
theorem shr_25 : am_SH 25 = (20, 7) := by decide +kernel
set_option maxRecDepth 20000 in
theorem shr_26 : am_SH 26 = (20, 7) := by decide +kernel
set_option maxRecDepth 20000 in
theorem shr_27 : am_SH 27 = (20, 7) := by decide +kernel
set_option maxRecDepth 20000 in
theorem shr_28 : am_SH 28 = (20, 7) := by decide +kernel
set_option maxRecDepth 20000 in
theorem shr_29 : am_SH 29 = (20, 7) := by decide +kernel
set_option maxRecDepth 20000 in
theorem shr_30 : am_SH 30 = (1, 4) := by decide +kernel
set_option maxRecDepth 20000 in
theorem shr_31 : am_SH 31 = (20, 406) := by decide +kernel
set_option maxRecDepth 20000 in
theorem shr_32 : am_SH 32 = (20, 3) := by decide +kernel
set_option maxRecDepth 20000 in
theorem shr_33 : am_SH 33 = (20, 32) := by decide +kernel
set_option maxRecDepth 20000 in
theorem shr_34 : am_SH 34 = (20, 3) := by decide +kernel
set_option maxRecDepth 20000 in
theorem shr_35 : am_SH 35 = (0, 2) := by decide +kernel
set_option maxRecDepth 20000 in
theorem shr_36 : am_SH 36 = (20, 9) := by decide +kernel
set_option maxRecDepth 20000 in
theorem shr_37 : am_SH 37 = (3, 14) := by decide +kernel
set_option maxRecDepth 20000 in
theorem shr_38 : am_SH 38 = (20, 7) := by decide +kernel
set_option maxRecDepth 20000 in
theorem shr_39 : am_SH 39 = (20, 12) := by decide +kernel
set_option maxRecDepth 20000 in
theorem shr_40 : am_SH 40 = (20, 12) := by decide +kernel
set_option maxRecDepth 20000 in
theorem shr_41 : am_SH 41 = (20, 12) := by decide +kernel
set_option maxRecDepth 20000 in
theorem shr_42 : am_SH 42 = (6, 5) := by decide +kernel
set_option maxRecDepth 20000 in
theorem shr_43 : am_SH 43 = (24, 40) := by decide +kernel
set_option maxRecDepth 20000 in
theorem shr_44 : am_SH 44 = (24, 3) := by decide +kernel
set_option maxRecDepth 20000 in
theorem shr_45 : am_SH 45 = (7, 12) := by decide +kernel
set_option maxRecDepth 20000 in
theorem shr_46 : am_SH 46 = (20, 210) := by decide +kernel
set_option maxRecDepth 20000 in
theorem shr_47 : am_SH 47 = (20, 210) := by decide +kernel
set_option maxRecDepth 20000 in
theorem shr_48 : am_SH 48 = (20, 210) := by decide +kernel
set_option maxRecDepth 20000 in
theorem shr_49 : am_SH 49 = (20, 210) := by decide +kernel
set_option maxRecDepth 20000 in
theorem shr_50 : am_SH 50 = (4, 8) := by decide +kernel
set_option maxRecDepth 20000 in
theorem shr_51 : am_SH 51 = (25, 5) := by decide +kernel
set_option maxRecDepth 20000 in
theorem shr_52 : am_SH 52 = (20, 330) := by decide +kernel
set_option maxRecDepth 20000 in
theorem shr_53 : am_SH 53 = (20, 330) := by decide +kernel
set_option maxRecDepth 20000 in
theorem shr_54 : am_SH 54 = (20, 330) := by decide +kernel
set_option maxRecDepth 20000 in
theorem shr_55 : am_SH 55 = (20, 330) := by decide +kernel
set_option maxRecDepth 20000 in
theorem shr_56 : am_SH 56 = (20, 330) := by decide +kernel
set_option maxRecDepth 20000 in
theorem shr_57 : am_SH 57 = (20, 5) := by decide +kernel
set_option maxRecDepth 20000 in
theorem shr_58 : am_SH 58 = (5, 4) := by decide +kernel
set_option maxRecDepth 20000 in
theorem shr_59 : am_SH 59 = (20, 8) := by decide +kernel
set_option maxRecDepth 20000 in
theorem shr_60 : am_SH 60 = (2, 11) := by decide +kernel
set_option maxRecDepth 20000 in
theorem shr_61 : am_SH 61 = (20, 20) := by decide +kernel
set_option maxRecDepth 20000 in
theorem shr_62 : am_SH 62 = (20, 20) := by decide +kernel
set_option maxRecDepth 20000 in
theorem shr_63 : am_SH 63 = (20, 20) := by decide +kernel
set_option maxRecDepth 20000 in
theorem shr_64 : am_SH 64 = (20, 5) := by decide +kernel
set_option maxRecDepth 20000 in
theorem shr_65 : am_SH 65 = (25, 5) := by decide +kernel
set_option maxRecDepth 20000 in
theorem shr_66 : am_SH 66 = (20, 10) := by decide +kernel
set_option maxRecDepth 20000 in
theorem shr_67 : am_SH 67 = (20, 10) := by decide +kernel
set_option maxRecDepth 20000 in
theorem shr_68 : am_SH 68 = (20, 10) := by decide +kernel
set_option maxRecDepth 20000 in
theorem shr_69 : am_SH 69 = (20, 10) := by decide +kernel
set_option maxRecDepth 20000 in
theorem shr_70 : am_SH 70 = (20, 10) := by decide +kernel
set_option maxRecDepth 20000 in
theorem shr_71 : am_SH 71 = (20, 5) := by decide +kernel
set_option maxRecDepth 20000 in
theorem shr_72 : am_SH 72 = (12, 67) := by decide +kernel
set_option maxRecDepth 20000 in
theorem shr_73 : am_SH 73 = (21, 2000) := by decide +kernel
set_option maxRecDepth 20000 in
theorem shr_74 : am_SH 74 = (21, 2000) := by decide +kernel
set_option maxRecDepth 20000 in
theorem shr_75 : am_SH 75 = (20, 403) := by decide +kernel
set_option maxRecDepth 20000 in
theorem shr_76 : am_SH 76 = (20, 403) := by decide +kernel
set_option maxRecDepth 20000 in
theorem shr_77 : am_SH 77 = (20, 403) := by decide +kernel
set_option maxRecDepth 20000 in
theorem shr_78 : am_SH 78 = (23, 403) := by decide +kernel
set_option maxRecDepth 20000 in
theorem shr_79 : am_SH 79 = (23, 20) := by decide +kernel
set_option maxRecDepth 20000 in
theorem shr_80 : am_SH 80 = (23, 12) := by decide +kernel
set_option maxRecDepth 20000 in
theorem shr_81 : am_SH 81 = (20, 12) := by decide +kernel
set_option maxRecDepth 20000 in
theorem shr_82 : am_SH 82 = (20, 2) := by decide +kernel
set_option maxRecDepth 20000 in
theorem shr_83 : am_SH 83 = (20, 10) := by decide +kernel
set_option maxRecDepth 20000 in
theorem shr_84 : am_SH 84 = (20, 10) := by decide +kernel
set_option maxRecDepth 20000 in
theorem shr_85 : am_SH 85 = (20, 2) := by decide +kernel
set_option maxRecDepth 20000 in
theorem shr_86 : am_SH 86 = (20, 14) := by decide +kernel
set_option maxRecDepth 20000 in
theorem shr_87 : am_SH 87 = (20, 14) := by decide +kernel
set_option maxRecDepth 20000 in
theorem shr_88 : am_SH 88 = (20, 14) := by decide +kernel
set_option maxRecDepth 20000 in
theorem shr_89 : am_SH 89 = (20, 14) := by decide +kernel
set_option maxRecDepth 20000 in
theorem shr_90 : am_SH 90 = (20, 2) := by decide +kernel
set_option maxRecDepth 20000 in
theorem shr_91 : am_SH 91 = (20, 14) := by decide +kernel
set_option maxRecDepth 20000 in
theorem shr_92 : am_SH 92 = (20, 2) := by decide +kernel
set_option maxRecDepth 20000 in
theorem shr_93 : am_SH 93 = (20, 2) := by decide +kernel
set_option maxRecDepth 20000 in
theorem shr_94 : am_SH 94 = (20, 6) := by decide +kernel
set_option maxRecDepth 20000 in
theorem shr_95 : am_SH 95 = (20, 6) := by decide +kernel
set_option maxRecDepth 20000 in
theorem shr_96 : am_SH 96 = (22, 260) := by decide +kernel
set_option maxRecDepth 20000 in
theorem shr_97 : am_SH 97 = (20, 260) := by decide +kernel
set_option maxRecDepth 20000 in
theorem shr_98 : am_SH 98 = (20, 260) := by decide +kernel
set_option maxRecDepth 20000 in
theorem shr_99 : am_SH 99 = (20, 260) := by decide +kernel
set_option maxRecDepth 20000 in
theorem shr_100 : am_SH 100 = (20, 260) := by decide +kernel
set_option maxRecDepth 20000 in
theorem shr_101 : am_SH 101 = (20, 840) := by decide +kernel
set_option maxRecDepth 20000 in
theorem shr_102 : am_SH 102 = (20, 840) := by decide +kernel
set_option maxRecDepth 20000 in
theorem shr_103 : am_SH 103 = (20, 64) := by decide +kernel
set_option maxRecDepth 20000 in
theorem shr_104 : am_SH 104 = (20, 9) := by decide +kernel
set_option maxRecDepth 20000 in
theorem shr_105 : am_SH 105 = (20, 400) := by decide +kernel
set_option maxRecDepth 20000 in
theorem shr_106 : am_SH 106 = (20, 68) := by decide +kernel
set_option maxRecDepth 20000 in
theorem shr_107 : am_SH 107 = (20, 68) := by decide +kernel
set_option maxRecDepth 20000 in
theorem shr_108 : am_SH 108 = (20, 2720) := by decide +kernel
set_option maxRecDepth 20000 in
theorem shr_109 : am_SH 109 = (20, 108) := by decide +kernel
set_option maxRecDepth 20000 in
theorem shr_110 : am_SH 110 = (20, 6) := by decide +kernel
set_option maxRecDepth 20000 in
theorem shr_111 : am_SH 111 = (22, 6) := by decide +kernel
set_option maxRecDepth 20000 in
theorem shr_112 : am_SH 112 = (20, 8) := by decide +kernel
set_option maxRecDepth 20000 in
theorem shr_113 : am_SH 113 = (20, 20) := by decide +kernel
set_option maxRecDepth 20000 in
theorem shr_114 : am_SH 114 = (20, 20) := by decide +kernel
set_option maxRecDepth 20000 in
theorem shr_115 : am_SH 115 = (20, 20) := by decide +kernel
set_option maxRecDepth 20000 in
theorem shr_116 : am_SH 116 = (20, 50) := by decide +kernel
set_option maxRecDepth 20000 in
theorem shr_117 : am_SH 117 = (22, 3) := by decide +kernel
set_option maxRecDepth 20000 in
theorem shr_118 : am_SH 118 = (20, 204) := by decide +kernel
