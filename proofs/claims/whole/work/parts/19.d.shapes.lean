set_option maxRecDepth 20000 in
theorem sh_0 : am_SV 0 = (11, 12) := by decide +kernel
set_option maxRecDepth 20000 in
theorem sh_1 : am_SV 1 = (21, 2000) := by decide +kernel
set_option maxRecDepth 20000 in
theorem sh_2 : am_SV 2 = (9, 14) := by decide +kernel
set_option maxRecDepth 20000 in
theorem sh_3 : am_SV 3 = (20, 5) := by decide +kernel
set_option maxRecDepth 20000 in
theorem sh_4 : am_SV 4 = (20, 7) := by decide +kernel
set_option maxRecDepth 20000 in
theorem sh_5 : am_SV 5 = (20, 7) := by decide +kernel
set_option maxRecDepth 20000 in
theorem sh_6 : am_SV 6 = (20, 7) := by decide +kernel
set_option maxRecDepth 20000 in
theorem sh_7 : am_SV 7 = (20, 7) := by decide +kernel
set_option maxRecDepth 20000 in
theorem sh_8 : am_SV 8 = (20, 7) := by decide +kernel
set_option maxRecDepth 20000 in
theorem sh_9 : am_SV 9 = (1, 4) := by decide +kernel
set_option maxRecDepth 20000 in
theorem sh_10 : am_SV 10 = (20, 406) := by decide +kernel
set_option maxRecDepth 20000 in
theorem sh_11 : am_SV 11 = (20, 3) := by decide +kernel
set_option maxRecDepth 20000 in
theorem sh_12 : am_SV 12 = (20, 32) := by decide +kernel
set_option maxRecDepth 20000 in
theorem sh_13 : am_SV 13 = (20, 3) := by decide +kernel
set_option maxRecDepth 20000 in
theorem sh_14 : am_SV 14 = (8, 9) := by decide +kernel
set_option maxRecDepth 20000 in
theorem sh_15 : am_SV 15 = (10, 11) := by decide +kernel
set_option maxRecDepth 20000 in
theorem sh_16 : am_SV 16 = (23, 20) := by decide +kernel
set_option maxRecDepth 20000 in
theorem sh_2000 : am_SV 2000 = (20, 401) := by decide +kernel
set_option maxRecDepth 20000 in
theorem sh_2001 : am_SV 2001 = (20, 401) := by decide +kernel
set_option maxRecDepth 20000 in
theorem sh_2002 : am_SV 2002 = (23, 401) := by decide +kernel
set_option maxRecDepth 20000 in
theorem sh_17 : am_SV 17 = (21, 0) := by decide +kernel
set_option maxRecDepth 20000 in
theorem sh_18 : am_SV 18 = (23, 12) := by decide +kernel
set_option maxRecDepth 20000 in
theorem sh_19 : am_SV 19 = (20, 12) := by decide +kernel
set_option maxRecDepth 20000 in
theorem sh_20 : am_SV 20 = (9, 14) := by decide +kernel
set_option maxRecDepth 20000 in
theorem sh_21 : am_SV 21 = (20, 5) := by decide +kernel
set_option maxRecDepth 20000 in
theorem sh_22 : am_SV 22 = (20, 7) := by decide +kernel
set_option maxRecDepth 20000 in
theorem sh_23 : am_SV 23 = (20, 7) := by decide +kernel
set_option maxRecDepth 20000 in
theorem sh_24 : am_SV 24 = (20, 7) := by decide +kernel
set_option maxRecDepth 20000 in
theorem sh_25 : am_SV 25 = (20, 7) := by decide +kernel
set_option maxRecDepth 20000 in
theorem sh_26 : am_SV 26 = (20, 7) := by decide +kernel
set_option maxRecDepth 20000 in
theorem sh_27 : am_SV 27 = (1, 4) := by decide +kernel
set_option maxRecDepth 20000 in
theorem sh_28 : am_SV 28 = (20, 406) := by decide +kernel
set_option maxRecDepth 20000 in
theorem sh_29 : am_SV 29 = (20, 3) := by decide +kernel
set_option maxRecDepth 20000 in
theorem sh_30 : am_SV 30 = (20, 32) := by decide +kernel
set_option maxRecDepth 20000 in
theorem sh_31 : am_SV 31 = (20, 3) := by decide +kernel
set_option maxRecDepth 20000 in
theorem sh_32 : am_SV 32 = (0, 2) := by decide +kernel
set_option maxRecDepth 20000 in
theorem sh_33 : am_SV 33 = (20, 9) := by decide +kernel
set_option maxRecDepth 20000 in
theorem sh_34 : am_SV 34 = (3, 14) := by decide +kernel
set_option maxRecDepth 20000 in
theorem sh_35 : am_SV 35 = (20, 7) := by decide +kernel
set_option maxRecDepth 20000 in
theorem sh_36 : am_SV 36 = (20, 12) := by decide +kernel
set_option maxRecDepth 20000 in
theorem sh_37 : am_SV 37 = (20, 12) := by decide +kernel
set_option maxRecDepth 20000 in
theorem sh_38 : am_SV 38 = (20, 12) := by decide +kernel
set_option maxRecDepth 20000 in
theorem sh_39 : am_SV 39 = (6, 5) := by decide +kernel
set_option maxRecDepth 20000 in
theorem sh_40 : am_SV 40 = (24, 40) := by decide +kernel
set_option maxRecDepth 20000 in
theorem sh_41 : am_SV 41 = (24, 3) := by decide +kernel
set_option maxRecDepth 20000 in
theorem sh_42 : am_SV 42 = (7, 12) := by decide +kernel
set_option maxRecDepth 20000 in
theorem sh_43 : am_SV 43 = (20, 210) := by decide +kernel
set_option maxRecDepth 20000 in
theorem sh_44 : am_SV 44 = (20, 210) := by decide +kernel
set_option maxRecDepth 20000 in
theorem sh_45 : am_SV 45 = (20, 210) := by decide +kernel
set_option maxRecDepth 20000 in
theorem sh_46 : am_SV 46 = (20, 210) := by decide +kernel
set_option maxRecDepth 20000 in
theorem sh_47 : am_SV 47 = (4, 8) := by decide +kernel
set_option maxRecDepth 20000 in
theorem sh_48 : am_SV 48 = (25, 5) := by decide +kernel
set_option maxRecDepth 20000 in
theorem sh_49 : am_SV 49 = (20, 330) := by decide +kernel
set_option maxRecDepth 20000 in
theorem sh_50 : am_SV 50 = (20, 330) := by decide +kernel
set_option maxRecDepth 20000 in
theorem sh_51 : am_SV 51 = (20, 330) := by decide +kernel
set_option maxRecDepth 20000 in
theorem sh_52 : am_SV 52 = (20, 330) := by decide +kernel
set_option maxRecDepth 20000 in
theorem sh_53 : am_SV 53 = (20, 330) := by decide +kernel
set_option maxRecDepth 20000 in
theorem sh_54 : am_SV 54 = (20, 5) := by decide +kernel
set_option maxRecDepth 20000 in
theorem sh_55 : am_SV 55 = (5, 4) := by decide +kernel
set_option maxRecDepth 20000 in
theorem sh_56 : am_SV 56 = (20, 8) := by decide +kernel
set_option maxRecDepth 20000 in
theorem sh_57 : am_SV 57 = (2, 11) := by decide +kernel
set_option maxRecDepth 20000 in
theorem sh_58 : am_SV 58 = (20, 20) := by decide +kernel
set_option maxRecDepth 20000 in
theorem sh_59 : am_SV 59 = (20, 20) := by decide +kernel
set_option maxRecDepth 20000 in
theorem sh_60 : am_SV 60 = (20, 20) := by decide +kernel
set_option maxRecDepth 20000 in
theorem sh_61 : am_SV 61 = (20, 5) := by decide +kernel
set_option maxRecDepth 20000 in
theorem sh_62 : am_SV 62 = (25, 5) := by decide +kernel
set_option maxRecDepth 20000 in
theorem sh_63 : am_SV 63 = (20, 10) := by decide +kernel
set_option maxRecDepth 20000 in
theorem sh_64 : am_SV 64 = (20, 10) := by decide +kernel
set_option maxRecDepth 20000 in
theorem sh_65 : am_SV 65 = (20, 10) := by decide +kernel
set_option maxRecDepth 20000 in
theorem sh_66 : am_SV 66 = (20, 10) := by decide +kernel
set_option maxRecDepth 20000 in
theorem sh_67 : am_SV 67 = (20, 10) := by decide +kernel
set_option maxRecDepth 20000 in
theorem sh_68 : am_SV 68 = (20, 5) := by decide +kernel
set_option maxRecDepth 20000 in
theorem sh_69 : am_SV 69 = (12, 67) := by decide +kernel
set_option maxRecDepth 20000 in
theorem sh_70 : am_SV 70 = (21, 2000) := by decide +kernel
set_option maxRecDepth 20000 in
theorem sh_71 : am_SV 71 = (21, 2000) := by decide +kernel
set_option maxRecDepth 20000 in
theorem sh_72 : am_SV 72 = (20, 403) := by decide +kernel
set_option maxRecDepth 20000 in
theorem sh_73 : am_SV 73 = (20, 403) := by decide +kernel
set_option maxRecDepth 20000 in
theorem sh_74 : am_SV 74 = (20, 403) := by decide +kernel
set_option maxRecDepth 20000 in
theorem sh_75 : am_SV 75 = (23, 403) := by decide +kernel
set_option maxRecDepth 20000 in
theorem sh_76 : am_SV 76 = (23, 20) := by decide +kernel
set_option maxRecDepth 20000 in
theorem sh_77 : am_SV 77 = (23, 12) := by decide +kernel
set_option maxRecDepth 20000 in
theorem sh_78 : am_SV 78 = (20, 12) := by decide +kernel
set_option maxRecDepth 20000 in
theorem sh_79 : am_SV 79 = (20, 2) := by decide +kernel
set_option maxRecDepth 20000 in
theorem sh_80 : am_SV 80 = (20, 10) := by decide +kernel
set_option maxRecDepth 20000 in
theorem sh_81 : am_SV 81 = (20, 10) := by decide +kernel
set_option maxRecDepth 20000 in
theorem sh_82 : am_SV 82 = (20, 2) := by decide +kernel
set_option maxRecDepth 20000 in
theorem sh_83 : am_SV 83 = (20, 14) := by decide +kernel
set_option maxRecDepth 20000 in
theorem sh_84 : am_SV 84 = (20, 14) := by decide +kernel
set_option maxRecDepth 20000 in
theorem sh_85 : am_SV 85 = (20, 14) := by decide +kernel
set_option maxRecDepth 20000 in
theorem sh_86 : am_SV 86 = (20, 14) := by decide +kernel
set_option maxRecDepth 20000 in
theorem sh_87 : am_SV 87 = (20, 2) := by decide +kernel
set_option maxRecDepth 20000 in
theorem sh_88 : am_SV 88 = (20, 14) := by decide +kernel
set_option maxRecDepth 20000 in
theorem sh_89 : am_SV 89 = (20, 2) := by decide +kernel
set_option maxRecDepth 20000 in
theorem sh_90 : am_SV 90 = (20, 2) := by decide +kernel
set_option maxRecDepth 20000 in
theorem sh_91 : am_SV 91 = (20, 6) := by decide +kernel
set_option maxRecDepth 20000 in
theorem sh_92 : am_SV 92 = (20, 6) := by decide +kernel
set_option maxRecDepth 20000 in
theorem sh_93 : am_SV 93 = (22, 260) := by decide +kernel
set_option maxRecDepth 20000 in
theorem sh_94 : am_SV 94 = (20, 260) := by decide +kernel
set_option maxRecDepth 20000 in
theorem sh_95 : am_SV 95 = (20, 260) := by decide +kernel
set_option maxRecDepth 20000 in
theorem sh_96 : am_SV 96 = (20, 260) := by decide +kernel
set_option maxRecDepth 20000 in
theorem sh_97 : am_SV 97 = (20, 260) := by decide +kernel
set_option maxRecDepth 20000 in
theorem sh_98 : am_SV 98 = (20, 840) := by decide +kernel
set_option maxRecDepth 20000 in
theorem sh_99 : am_SV 99 = (20, 840) := by decide +kernel
set_option maxRecDepth 20000 in
theorem sh_100 : am_SV 100 = (20, 64) := by decide +kernel
set_option maxRecDepth 20000 in
theorem sh_101 : am_SV 101 = (20, 9) := by decide +kernel
set_option maxRecDepth 20000 in
theorem sh_102 : am_SV 102 = (20, 400) := by decide +kernel
set_option maxRecDepth 20000 in
theorem sh_103 : am_SV 103 = (20, 68) := by decide +kernel
set_option maxRecDepth 20000 in
theorem sh_104 : am_SV 104 = (20, 68) := by decide +kernel
set_option maxRecDepth 20000 in
theorem sh_105 : am_SV 105 = (20, 2720) := by decide +kernel
set_option maxRecDepth 20000 in
theorem sh_106 : am_SV 106 = (20, 108) := by decide +kernel
set_option maxRecDepth 20000 in
theorem sh_107 : am_SV 107 = (20, 6) := by decide +kernel
set_option maxRecDepth 20000 in
theorem sh_108 : am_SV 108 = (22, 6) := by decide +kernel
set_option maxRecDepth 20000 in
theorem sh_109 : am_SV 109 = (20, 8) := by decide +kernel
set_option maxRecDepth 20000 in
theorem sh_110 : am_SV 110 = (20, 20) := by decide +kernel
set_option maxRecDepth 20000 in
theorem sh_111 : am_SV 111 = (20, 20) := by decide +kernel
set_option maxRecDepth 20000 in
theorem sh_112 : am_SV 112 = (20, 20) := by decide +kernel
set_option maxRecDepth 20000 in
theorem sh_113 : am_SV 113 = (20, 50) := by decide +kernel
set_option maxRecDepth 20000 in
theorem sh_114 : am_SV 114 = (22, 3) := by decide +kernel
set_option maxRecDepth 20000 in
theorem sh_115 : am_SV 115 = (20, 204) := by decide +kernel
