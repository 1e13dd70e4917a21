/-! ===== THE MACHINE FOLLOWS THE LITTLE MACHINE, part 5: the code, checked by program ===== -/
set_option maxRecDepth 1000000 in
theorem j_chk_0 : j_chk 0 0 = true := by decide +kernel
set_option maxRecDepth 1000000 in
theorem j_chk_1 : j_chk 1 0 = true := by decide +kernel
set_option maxRecDepth 1000000 in
theorem j_chk_2 : j_chk 2 0 = true := by decide +kernel
set_option maxRecDepth 1000000 in
theorem j_chk_3 : j_chk 3 0 = true := by decide +kernel
set_option maxRecDepth 1000000 in
theorem j_chk_4 : j_chk 4 0 = true := by decide +kernel
set_option maxRecDepth 1000000 in
theorem j_chk_5 : j_chk 5 0 = true := by decide +kernel
set_option maxRecDepth 1000000 in
theorem j_chk_6 : j_chk 6 0 = true := by decide +kernel
set_option maxRecDepth 1000000 in
theorem j_chk_7 : j_chk 7 0 = true := by decide +kernel
set_option maxRecDepth 1000000 in
theorem j_chk_8 : j_chk 8 0 = true := by decide +kernel
set_option maxRecDepth 1000000 in
theorem j_chk_9 : j_chk 9 0 = true := by decide +kernel
set_option maxRecDepth 1000000 in
theorem j_chk_10 : j_chk 10 0 = true := by decide +kernel
set_option maxRecDepth 1000000 in
theorem j_chk_11 : j_chk 11 0 = true := by decide +kernel
set_option maxRecDepth 1000000 in
theorem j_chk_12 : j_chk 12 0 = true := by decide +kernel
set_option maxRecDepth 1000000 in
theorem j_chk_13 : j_chk 13 0 = true := by decide +kernel
set_option maxRecDepth 1000000 in
theorem j_chk_14 : j_chk 14 0 = true := by decide +kernel
set_option maxRecDepth 1000000 in
theorem j_chk_15 : j_chk 15 0 = true := by decide +kernel
set_option maxRecDepth 1000000 in
theorem j_chk_16 : j_chk 16 0 = true := by decide +kernel
set_option maxRecDepth 1000000 in
theorem j_chk_17 : j_chk 17 0 = true := by decide +kernel
set_option maxRecDepth 1000000 in
theorem j_chk_18 : j_chk 18 0 = true := by decide +kernel
set_option maxRecDepth 1000000 in
theorem j_chk_19 : j_chk 19 0 = true := by decide +kernel
set_option maxRecDepth 1000000 in
theorem j_chk_20 : j_chk 20 0 = true := by decide +kernel
set_option maxRecDepth 1000000 in
theorem j_chk_21 : j_chk 21 0 = true := by decide +kernel
set_option maxRecDepth 1000000 in
theorem j_chk_22 : j_chk 22 0 = true := by decide +kernel
set_option maxRecDepth 1000000 in
theorem j_chk_23 : j_chk 23 0 = true := by decide +kernel
set_option maxRecDepth 1000000 in
theorem j_chk_24 : j_chk 24 0 = true := by decide +kernel
set_option maxRecDepth 1000000 in
theorem j_chk_25 : j_chk 25 0 = true := by decide +kernel
set_option maxRecDepth 1000000 in
theorem j_chk_26 : j_chk 26 0 = true := by decide +kernel
set_option maxRecDepth 1000000 in
theorem j_chk_27 : j_chk 27 0 = true := by decide +kernel
set_option maxRecDepth 1000000 in
theorem j_chk_28 : j_chk 28 0 = true := by decide +kernel
set_option maxRecDepth 1000000 in
theorem j_chk_29 : j_chk 29 0 = true := by decide +kernel
set_option maxRecDepth 1000000 in
theorem j_chk_30 : j_chk 30 0 = true := by decide +kernel
set_option maxRecDepth 1000000 in
theorem j_chk_31 : j_chk 31 0 = true := by decide +kernel
set_option maxRecDepth 1000000 in
theorem j_chk_32 : j_chk 32 1 = true := by decide +kernel
set_option maxRecDepth 1000000 in
theorem j_chk_33 : j_chk 33 1 = true := by decide +kernel
set_option maxRecDepth 1000000 in
theorem j_chk_34 : j_chk 34 1 = true := by decide +kernel
set_option maxRecDepth 1000000 in
theorem j_chk_35 : j_chk 35 1 = true := by decide +kernel
set_option maxRecDepth 1000000 in
theorem j_chk_36 : j_chk 36 1 = true := by decide +kernel
set_option maxRecDepth 1000000 in
theorem j_chk_37 : j_chk 37 1 = true := by decide +kernel
set_option maxRecDepth 1000000 in
theorem j_chk_38 : j_chk 38 1 = true := by decide +kernel
set_option maxRecDepth 1000000 in
theorem j_chk_39 : j_chk 39 0 = true := by decide +kernel
set_option maxRecDepth 1000000 in
theorem j_chk_40 : j_chk 40 1 = true := by decide +kernel
set_option maxRecDepth 1000000 in
theorem j_chk_41 : j_chk 41 1 = true := by decide +kernel
set_option maxRecDepth 1000000 in
theorem j_chk_42 : j_chk 42 2 = true := by decide +kernel
set_option maxRecDepth 1000000 in
theorem j_chk_43 : j_chk 43 2 = true := by decide +kernel
set_option maxRecDepth 1000000 in
theorem j_chk_44 : j_chk 44 2 = true := by decide +kernel
set_option maxRecDepth 1000000 in
theorem j_chk_45 : j_chk 45 2 = true := by decide +kernel
set_option maxRecDepth 1000000 in
theorem j_chk_46 : j_chk 46 2 = true := by decide +kernel
set_option maxRecDepth 1000000 in
theorem j_chk_47 : j_chk 47 2 = true := by decide +kernel
set_option maxRecDepth 1000000 in
theorem j_chk_48 : j_chk 48 2 = true := by decide +kernel
set_option maxRecDepth 1000000 in
theorem j_chk_49 : j_chk 49 2 = true := by decide +kernel
set_option maxRecDepth 1000000 in
theorem j_chk_50 : j_chk 50 2 = true := by decide +kernel
set_option maxRecDepth 1000000 in
theorem j_chk_51 : j_chk 51 3 = true := by decide +kernel
set_option maxRecDepth 1000000 in
theorem j_chk_52 : j_chk 52 3 = true := by decide +kernel
set_option maxRecDepth 1000000 in
theorem j_chk_53 : j_chk 53 3 = true := by decide +kernel
set_option maxRecDepth 1000000 in
theorem j_chk_54 : j_chk 54 3 = true := by decide +kernel
set_option maxRecDepth 1000000 in
theorem j_chk_55 : j_chk 55 0 = true := by decide +kernel
set_option maxRecDepth 1000000 in
theorem j_chk_56 : j_chk 56 3 = true := by decide +kernel
set_option maxRecDepth 1000000 in
theorem j_chk_57 : j_chk 57 3 = true := by decide +kernel
set_option maxRecDepth 1000000 in
theorem j_chk_58 : j_chk 58 3 = true := by decide +kernel
set_option maxRecDepth 1000000 in
theorem j_chk_59 : j_chk 59 4 = true := by decide +kernel
set_option maxRecDepth 1000000 in
theorem j_chk_60 : j_chk 60 4 = true := by decide +kernel
set_option maxRecDepth 1000000 in
theorem j_chk_61 : j_chk 61 4 = true := by decide +kernel
set_option maxRecDepth 1000000 in
theorem j_chk_62 : j_chk 62 4 = true := by decide +kernel
set_option maxRecDepth 1000000 in
theorem j_chk_63 : j_chk 63 4 = true := by decide +kernel
set_option maxRecDepth 1000000 in
theorem j_chk_64 : j_chk 64 5 = true := by decide +kernel
set_option maxRecDepth 1000000 in
theorem j_chk_65 : j_chk 65 0 = true := by decide +kernel
set_option maxRecDepth 1000000 in
theorem j_chk_66 : j_chk 66 0 = true := by decide +kernel
set_option maxRecDepth 1000000 in
theorem j_chk_67 : j_chk 67 0 = true := by decide +kernel
set_option maxRecDepth 1000000 in
theorem j_chk_68 : j_chk 68 6 = true := by decide +kernel
set_option maxRecDepth 1000000 in
theorem j_chk_69 : j_chk 69 0 = true := by decide +kernel
set_option maxRecDepth 1000000 in
theorem j_chk_70 : j_chk 70 0 = true := by decide +kernel
set_option maxRecDepth 1000000 in
theorem j_chk_71 : j_chk 71 6 = true := by decide +kernel
set_option maxRecDepth 1000000 in
theorem j_chk_72 : j_chk 72 6 = true := by decide +kernel
set_option maxRecDepth 1000000 in
theorem j_chk_73 : j_chk 73 0 = true := by decide +kernel
set_option maxRecDepth 1000000 in
theorem j_chk_74 : j_chk 74 0 = true := by decide +kernel
set_option maxRecDepth 1000000 in
theorem j_chk_75 : j_chk 75 6 = true := by decide +kernel
set_option maxRecDepth 1000000 in
theorem j_chk_76 : j_chk 76 6 = true := by decide +kernel
set_option maxRecDepth 1000000 in
theorem j_chk_77 : j_chk 77 6 = true := by decide +kernel
set_option maxRecDepth 1000000 in
theorem j_chk_78 : j_chk 78 6 = true := by decide +kernel
set_option maxRecDepth 1000000 in
theorem j_chk_79 : j_chk 79 6 = true := by decide +kernel
set_option maxRecDepth 1000000 in
theorem j_chk_80 : j_chk 80 0 = true := by decide +kernel
set_option maxRecDepth 1000000 in
theorem j_chk_81 : j_chk 81 6 = true := by decide +kernel
set_option maxRecDepth 1000000 in
theorem j_chk_82 : j_chk 82 0 = true := by decide +kernel
set_option maxRecDepth 1000000 in
theorem j_chk_83 : j_chk 83 6 = true := by decide +kernel
set_option maxRecDepth 1000000 in
theorem j_chk_84 : j_chk 84 6 = true := by decide +kernel
set_option maxRecDepth 1000000 in
theorem j_chk_85 : j_chk 85 6 = true := by decide +kernel
set_option maxRecDepth 1000000 in
theorem j_chk_86 : j_chk 86 6 = true := by decide +kernel
set_option maxRecDepth 1000000 in
theorem j_chk_87 : j_chk 87 6 = true := by decide +kernel
set_option maxRecDepth 1000000 in
theorem j_chk_88 : j_chk 88 6 = true := by decide +kernel
set_option maxRecDepth 1000000 in
theorem j_chk_89 : j_chk 89 6 = true := by decide +kernel
set_option maxRecDepth 1000000 in
theorem j_chk_90 : j_chk 90 6 = true := by decide +kernel
set_option maxRecDepth 1000000 in
theorem j_chk_91 : j_chk 91 6 = true := by decide +kernel
set_option maxRecDepth 1000000 in
theorem j_chk_92 : j_chk 92 6 = true := by decide +kernel
set_option maxRecDepth 1000000 in
theorem j_chk_93 : j_chk 93 0 = true := by decide +kernel
set_option maxRecDepth 1000000 in
theorem j_chk_94 : j_chk 94 6 = true := by decide +kernel
set_option maxRecDepth 1000000 in
theorem j_chk_95 : j_chk 95 0 = true := by decide +kernel
set_option maxRecDepth 1000000 in
theorem j_chk_96 : j_chk 96 0 = true := by decide +kernel
set_option maxRecDepth 1000000 in
theorem j_chk_97 : j_chk 97 0 = true := by decide +kernel
set_option maxRecDepth 1000000 in
theorem j_chk_98 : j_chk 98 0 = true := by decide +kernel
set_option maxRecDepth 1000000 in
theorem j_chk_99 : j_chk 99 0 = true := by decide +kernel
set_option maxRecDepth 1000000 in
theorem j_chk_100 : j_chk 100 6 = true := by decide +kernel
set_option maxRecDepth 1000000 in
theorem j_chk_101 : j_chk 101 0 = true := by decide +kernel
set_option maxRecDepth 1000000 in
theorem j_chk_102 : j_chk 102 6 = true := by decide +kernel
set_option maxRecDepth 1000000 in
theorem j_chk_103 : j_chk 103 6 = true := by decide +kernel
set_option maxRecDepth 1000000 in
theorem j_chk_104 : j_chk 104 0 = true := by decide +kernel
set_option maxRecDepth 1000000 in
theorem j_chk_105 : j_chk 105 6 = true := by decide +kernel
set_option maxRecDepth 1000000 in
theorem j_chk_106 : j_chk 106 0 = true := by decide +kernel
set_option maxRecDepth 1000000 in
theorem j_chk_107 : j_chk 107 0 = true := by decide +kernel
set_option maxRecDepth 1000000 in
theorem j_chk_108 : j_chk 108 6 = true := by decide +kernel
set_option maxRecDepth 1000000 in
theorem j_chk_109 : j_chk 109 0 = true := by decide +kernel
set_option maxRecDepth 1000000 in
theorem j_chk_110 : j_chk 110 0 = true := by decide +kernel
set_option maxRecDepth 1000000 in
theorem j_chk_111 : j_chk 111 6 = true := by decide +kernel
set_option maxRecDepth 1000000 in
theorem j_chk_112 : j_chk 112 6 = true := by decide +kernel
set_option maxRecDepth 1000000 in
theorem j_chk_113 : j_chk 113 6 = true := by decide +kernel
set_option maxRecDepth 1000000 in
theorem j_chk_114 : j_chk 114 6 = true := by decide +kernel
set_option maxRecDepth 1000000 in
theorem j_chk_115 : j_chk 115 6 = true := by decide +kernel
set_option maxRecDepth 1000000 in
theorem j_chk_116 : j_chk 116 6 = true := by decide +kernel
set_option maxRecDepth 1000000 in
theorem j_chk_117 : j_chk 117 0 = true := by decide +kernel
set_option maxRecDepth 1000000 in
theorem j_chk_118 : j_chk 118 6 = true := by decide +kernel
set_option maxRecDepth 1000000 in
theorem j_chk_119 : j_chk 119 6 = true := by decide +kernel
set_option maxRecDepth 1000000 in
theorem j_chk_120 : j_chk 120 6 = true := by decide +kernel
set_option maxRecDepth 1000000 in
theorem j_chk_121 : j_chk 121 0 = true := by decide +kernel
set_option maxRecDepth 1000000 in
theorem j_chk_122 : j_chk 122 0 = true := by decide +kernel
set_option maxRecDepth 1000000 in
theorem j_chk_123 : j_chk 123 6 = true := by decide +kernel
set_option maxRecDepth 1000000 in
theorem j_chk_124 : j_chk 124 0 = true := by decide +kernel
set_option maxRecDepth 1000000 in
theorem j_chk_125 : j_chk 125 6 = true := by decide +kernel
set_option maxRecDepth 1000000 in
theorem j_chk_126 : j_chk 126 9 = true := by decide +kernel
set_option maxRecDepth 1000000 in
theorem j_chk_127 : j_chk 127 11 = true := by decide +kernel
set_option maxRecDepth 1000000 in
theorem j_chk_128 : j_chk 128 8 = true := by decide +kernel
set_option maxRecDepth 1000000 in
theorem j_chk_129 : j_chk 129 8 = true := by decide +kernel
set_option maxRecDepth 1000000 in
theorem j_chk_130 : j_chk 130 8 = true := by decide +kernel
set_option maxRecDepth 1000000 in
theorem j_chk_131 : j_chk 131 8 = true := by decide +kernel
set_option maxRecDepth 1000000 in
theorem j_chk_132 : j_chk 132 8 = true := by decide +kernel
set_option maxRecDepth 1000000 in
theorem j_chk_133 : j_chk 133 8 = true := by decide +kernel
set_option maxRecDepth 1000000 in
theorem j_chk_134 : j_chk 134 8 = true := by decide +kernel
set_option maxRecDepth 1000000 in
theorem j_chk_135 : j_chk 135 8 = true := by decide +kernel
set_option maxRecDepth 1000000 in
theorem j_chk_136 : j_chk 136 8 = true := by decide +kernel
