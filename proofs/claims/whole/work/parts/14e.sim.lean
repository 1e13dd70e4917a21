/-! ===== THE MACHINE FOLLOWS THE LITTLE MACHINE, part 5: the code, checked by program ===== -/
set_option maxRecDepth 1000000 in
theorem j_chk_0 : j_chk 0 0 = true := by decide +kernel
set_option maxRecDepth 1000000 in
theorem j_chk_1 : j_chk 1 0 = true := by decide +kernel
set_option maxRecDepth 1000000 in
theorem j_chk_2 : j_chk 2 0 = true := by decide +kernel
set_option maxRecDepth 1000000 in
theorem j_chk_3 : j_chk 3 0 = true := by decide +kernel
set_option maxRecDepth 1000000 in
theorem j_chk_4 : j_chk 4 0 = true := by decide +kernel
set_option maxRecDepth 1000000 in
theorem j_chk_5 : j_chk 5 0 = true := by decide +kernel
set_option maxRecDepth 1000000 in
theorem j_chk_6 : j_chk 6 0 = true := by decide +kernel
set_option maxRecDepth 1000000 in
theorem j_chk_7 : j_chk 7 0 = true := by decide +kernel
set_option maxRecDepth 1000000 in
theorem j_chk_8 : j_chk 8 0 = true := by decide +kernel
set_option maxRecDepth 1000000 in
theorem j_chk_9 : j_chk 9 0 = true := by decide +kernel
set_option maxRecDepth 1000000 in
theorem j_chk_10 : j_chk 10 0 = true := by decide +kernel
set_option maxRecDepth 1000000 in
theorem j_chk_11 : j_chk 11 0 = true := by decide +kernel
set_option maxRecDepth 1000000 in
theorem j_chk_12 : j_chk 12 0 = true := by decide +kernel
set_option maxRecDepth 1000000 in
theorem j_chk_13 : j_chk 13 0 = true := by decide +kernel
set_option maxRecDepth 1000000 in
theorem j_chk_14 : j_chk 14 0 = true := by decide +kernel
set_option maxRecDepth 1000000 in
theorem j_chk_15 : j_chk 15 0 = true := by decide +kernel
set_option maxRecDepth 1000000 in
theorem j_chk_16 : j_chk 16 0 = true := by decide +kernel
set_option maxRecDepth 1000000 in
theorem j_chk_17 : j_chk 17 0 = true := by decide +kernel
set_option maxRecDepth 1000000 in
theorem j_chk_18 : j_chk 18 0 = true := by decide +kernel
set_option maxRecDepth 1000000 in
theorem j_chk_19 : j_chk 19 0 = true := by decide +kernel
set_option maxRecDepth 1000000 in
theorem j_chk_20 : j_chk 20 0 = true := by decide +kernel
set_option maxRecDepth 1000000 in
theorem j_chk_21 : j_chk 21 0 = true := by decide +kernel
set_option maxRecDepth 1000000 in
theorem j_chk_22 : j_chk 22 0 = true := by decide +kernel
set_option maxRecDepth 1000000 in
theorem j_chk_23 : j_chk 23 0 = true := by decide +kernel
set_option maxRecDepth 1000000 in
theorem j_chk_24 : j_chk 24 0 = true := by decide +kernel
set_option maxRecDepth 1000000 in
theorem j_chk_25 : j_chk 25 0 = true := by decide +kernel
set_option maxRecDepth 1000000 in
theorem j_chk_26 : j_chk 26 0 = true := by decide +kernel
set_option maxRecDepth 1000000 in
theorem j_chk_27 : j_chk 27 0 = true := by decide +kernel
set_option maxRecDepth 1000000 in
theorem j_chk_28 : j_chk 28 0 = true := by decide +kernel
set_option maxRecDepth 1000000 in
theorem j_chk_29 : j_chk 29 0 = true := by decide +kernel
set_option maxRecDepth 1000000 in
theorem j_chk_30 : j_chk 30 0 = true := by decide +kernel
set_option maxRecDepth 1000000 in
theorem j_chk_31 : j_chk 31 0 = true := by decide +kernel
set_option maxRecDepth 1000000 in
theorem j_chk_32 : j_chk 32 1 = true := by decide +kernel
set_option maxRecDepth 1000000 in
theorem j_chk_33 : j_chk 33 1 = true := by decide +kernel
set_option maxRecDepth 1000000 in
theorem j_chk_34 : j_chk 34 1 = true := by decide +kernel
set_option maxRecDepth 1000000 in
theorem j_chk_35 : j_chk 35 1 = true := by decide +kernel
set_option maxRecDepth 1000000 in
theorem j_chk_36 : j_chk 36 1 = true := by decide +kernel
set_option maxRecDepth 1000000 in
theorem j_chk_37 : j_chk 37 1 = true := by decide +kernel
set_option maxRecDepth 1000000 in
theorem j_chk_38 : j_chk 38 1 = true := by decide +kernel
set_option maxRecDepth 1000000 in
theorem j_chk_39 : j_chk 39 1 = true := by decide +kernel
set_option maxRecDepth 1000000 in
theorem j_chk_40 : j_chk 40 1 = true := by decide +kernel
set_option maxRecDepth 1000000 in
theorem j_chk_41 : j_chk 41 1 = true := by decide +kernel
set_option maxRecDepth 1000000 in
theorem j_chk_42 : j_chk 42 2 = true := by decide +kernel
set_option maxRecDepth 1000000 in
theorem j_chk_43 : j_chk 43 2 = true := by decide +kernel
set_option maxRecDepth 1000000 in
theorem j_chk_44 : j_chk 44 2 = true := by decide +kernel
set_option maxRecDepth 1000000 in
theorem j_chk_45 : j_chk 45 2 = true := by decide +kernel
set_option maxRecDepth 1000000 in
theorem j_chk_46 : j_chk 46 2 = true := by decide +kernel
set_option maxRecDepth 1000000 in
theorem j_chk_47 : j_chk 47 2 = true := by decide +kernel
set_option maxRecDepth 1000000 in
theorem j_chk_48 : j_chk 48 2 = true := by decide +kernel
set_option maxRecDepth 1000000 in
theorem j_chk_49 : j_chk 49 2 = true := by decide +kernel
set_option maxRecDepth 1000000 in
theorem j_chk_50 : j_chk 50 2 = true := by decide +kernel
set_option maxRecDepth 1000000 in
theorem j_chk_51 : j_chk 51 3 = true := by decide +kernel
set_option maxRecDepth 1000000 in
theorem j_chk_52 : j_chk 52 3 = true := by decide +kernel
set_option maxRecDepth 1000000 in
theorem j_chk_53 : j_chk 53 3 = true := by decide +kernel
set_option maxRecDepth 1000000 in
theorem j_chk_54 : j_chk 54 3 = true := by decide +kernel
set_option maxRecDepth 1000000 in
theorem j_chk_55 : j_chk 55 3 = true := by decide +kernel
set_option maxRecDepth 1000000 in
theorem j_chk_56 : j_chk 56 3 = true := by decide +kernel
set_option maxRecDepth 1000000 in
theorem j_chk_57 : j_chk 57 3 = true := by decide +kernel
set_option maxRecDepth 1000000 in
theorem j_chk_58 : j_chk 58 3 = true := by decide +kernel
set_option maxRecDepth 1000000 in
theorem j_chk_59 : j_chk 59 4 = true := by decide +kernel
set_option maxRecDepth 1000000 in
theorem j_chk_60 : j_chk 60 4 = true := by decide +kernel
set_option maxRecDepth 1000000 in
theorem j_chk_61 : j_chk 61 4 = true := by decide +kernel
set_option maxRecDepth 1000000 in
theorem j_chk_62 : j_chk 62 4 = true := by decide +kernel
set_option maxRecDepth 1000000 in
theorem j_chk_63 : j_chk 63 4 = true := by decide +kernel
set_option maxRecDepth 1000000 in
theorem j_chk_64 : j_chk 64 5 = true := by decide +kernel
set_option maxRecDepth 1000000 in
theorem j_chk_65 : j_chk 65 5 = true := by decide +kernel
set_option maxRecDepth 1000000 in
theorem j_chk_66 : j_chk 66 5 = true := by decide +kernel
set_option maxRecDepth 1000000 in
theorem j_chk_67 : j_chk 67 5 = true := by decide +kernel
set_option maxRecDepth 1000000 in
theorem j_chk_68 : j_chk 68 6 = true := by decide +kernel
set_option maxRecDepth 1000000 in
theorem j_chk_69 : j_chk 69 6 = true := by decide +kernel
set_option maxRecDepth 1000000 in
theorem j_chk_70 : j_chk 70 6 = true := by decide +kernel
set_option maxRecDepth 1000000 in
theorem j_chk_71 : j_chk 71 6 = true := by decide +kernel
set_option maxRecDepth 1000000 in
theorem j_chk_72 : j_chk 72 6 = true := by decide +kernel
set_option maxRecDepth 1000000 in
theorem j_chk_73 : j_chk 73 6 = true := by decide +kernel
set_option maxRecDepth 1000000 in
theorem j_chk_74 : j_chk 74 6 = true := by decide +kernel
set_option maxRecDepth 1000000 in
theorem j_chk_75 : j_chk 75 6 = true := by decide +kernel
set_option maxRecDepth 1000000 in
theorem j_chk_76 : j_chk 76 6 = true := by decide +kernel
set_option maxRecDepth 1000000 in
theorem j_chk_77 : j_chk 77 6 = true := by decide +kernel
set_option maxRecDepth 1000000 in
theorem j_chk_78 : j_chk 78 6 = true := by decide +kernel
set_option maxRecDepth 1000000 in
theorem j_chk_79 : j_chk 79 6 = true := by decide +kernel
set_option maxRecDepth 1000000 in
theorem j_chk_80 : j_chk 80 6 = true := by decide +kernel
set_option maxRecDepth 1000000 in
theorem j_chk_81 : j_chk 81 6 = true := by decide +kernel
set_option maxRecDepth 1000000 in
theorem j_chk_82 : j_chk 82 6 = true := by decide +kernel
set_option maxRecDepth 1000000 in
theorem j_chk_83 : j_chk 83 6 = true := by decide +kernel
set_option maxRecDepth 1000000 in
theorem j_chk_84 : j_chk 84 6 = true := by decide +kernel
set_option maxRecDepth 1000000 in
theorem j_chk_85 : j_chk 85 6 = true := by decide +kernel
set_option maxRecDepth 1000000 in
theorem j_chk_86 : j_chk 86 6 = true := by decide +kernel
set_option maxRecDepth 1000000 in
theorem j_chk_87 : j_chk 87 6 = true := by decide +kernel
set_option maxRecDepth 1000000 in
theorem j_chk_88 : j_chk 88 6 = true := by decide +kernel
set_option maxRecDepth 1000000 in
theorem j_chk_89 : j_chk 89 6 = true := by decide +kernel
set_option maxRecDepth 1000000 in
theorem j_chk_90 : j_chk 90 6 = true := by decide +kernel
set_option maxRecDepth 1000000 in
theorem j_chk_91 : j_chk 91 6 = true := by decide +kernel
set_option maxRecDepth 1000000 in
theorem j_chk_92 : j_chk 92 6 = true := by decide +kernel
set_option maxRecDepth 1000000 in
theorem j_chk_93 : j_chk 93 6 = true := by decide +kernel
set_option maxRecDepth 1000000 in
theorem j_chk_94 : j_chk 94 6 = true := by decide +kernel
set_option maxRecDepth 1000000 in
theorem j_chk_95 : j_chk 95 6 = true := by decide +kernel
set_option maxRecDepth 1000000 in
theorem j_chk_96 : j_chk 96 6 = true := by decide +kernel
set_option maxRecDepth 1000000 in
theorem j_chk_97 : j_chk 97 6 = true := by decide +kernel
set_option maxRecDepth 1000000 in
theorem j_chk_98 : j_chk 98 6 = true := by decide +kernel
set_option maxRecDepth 1000000 in
theorem j_chk_99 : j_chk 99 6 = true := by decide +kernel
set_option maxRecDepth 1000000 in
theorem j_chk_100 : j_chk 100 6 = true := by decide +kernel
set_option maxRecDepth 1000000 in
theorem j_chk_101 : j_chk 101 6 = true := by decide +kernel
set_option maxRecDepth 1000000 in
theorem j_chk_102 : j_chk 102 6 = true := by decide +kernel
set_option maxRecDepth 1000000 in
theorem j_chk_103 : j_chk 103 6 = true := by decide +kernel
set_option maxRecDepth 1000000 in
theorem j_chk_104 : j_chk 104 6 = true := by decide +kernel
set_option maxRecDepth 1000000 in
theorem j_chk_105 : j_chk 105 6 = true := by decide +kernel
set_option maxRecDepth 1000000 in
theorem j_chk_106 : j_chk 106 6 = true := by decide +kernel
set_option maxRecDepth 1000000 in
theorem j_chk_107 : j_chk 107 6 = true := by decide +kernel
set_option maxRecDepth 1000000 in
theorem j_chk_108 : j_chk 108 6 = true := by decide +kernel
set_option maxRecDepth 1000000 in
theorem j_chk_109 : j_chk 109 6 = true := by decide +kernel
set_option maxRecDepth 1000000 in
theorem j_chk_110 : j_chk 110 6 = true := by decide +kernel
set_option maxRecDepth 1000000 in
theorem j_chk_111 : j_chk 111 6 = true := by decide +kernel
set_option maxRecDepth 1000000 in
theorem j_chk_112 : j_chk 112 6 = true := by decide +kernel
set_option maxRecDepth 1000000 in
theorem j_chk_113 : j_chk 113 6 = true := by decide +kernel
set_option maxRecDepth 1000000 in
theorem j_chk_114 : j_chk 114 6 = true := by decide +kernel
set_option maxRecDepth 1000000 in
theorem j_chk_115 : j_chk 115 6 = true := by decide +kernel
set_option maxRecDepth 1000000 in
theorem j_chk_116 : j_chk 116 6 = true := by decide +kernel
set_option maxRecDepth 1000000 in
theorem j_chk_117 : j_chk 117 6 = true := by decide +kernel
set_option maxRecDepth 1000000 in
theorem j_chk_118 : j_chk 118 6 = true := by decide +kernel
set_option maxRecDepth 1000000 in
theorem j_chk_119 : j_chk 119 6 = true := by decide +kernel
set_option maxRecDepth 1000000 in
theorem j_chk_120 : j_chk 120 6 = true := by decide +kernel
set_option maxRecDepth 1000000 in
theorem j_chk_121 : j_chk 121 6 = true := by decide +kernel
set_option maxRecDepth 1000000 in
theorem j_chk_122 : j_chk 122 6 = true := by decide +kernel
set_option maxRecDepth 1000000 in
theorem j_chk_123 : j_chk 123 6 = true := by decide +kernel
set_option maxRecDepth 1000000 in
theorem j_chk_124 : j_chk 124 6 = true := by decide +kernel
set_option maxRecDepth 1000000 in
theorem j_chk_125 : j_chk 125 6 = true := by decide +kernel
set_option maxRecDepth 1000000 in
theorem j_chk_126 : j_chk 126 7 = true := by decide +kernel
set_option maxRecDepth 1000000 in
theorem j_chk_127 : j_chk 127 7 = true := by decide +kernel
set_option maxRecDepth 1000000 in
theorem j_chk_128 : j_chk 128 7 = true := by decide +kernel
set_option maxRecDepth 1000000 in
theorem j_chk_129 : j_chk 129 7 = true := by decide +kernel
set_option maxRecDepth 1000000 in
theorem j_chk_130 : j_chk 130 7 = true := by decide +kernel
set_option maxRecDepth 1000000 in
theorem j_chk_131 : j_chk 131 7 = true := by decide +kernel
set_option maxRecDepth 1000000 in
theorem j_chk_132 : j_chk 132 7 = true := by decide +kernel
set_option maxRecDepth 1000000 in
theorem j_chk_133 : j_chk 133 7 = true := by decide +kernel
set_option maxRecDepth 1000000 in
theorem j_chk_134 : j_chk 134 7 = true := by decide +kernel
set_option maxRecDepth 1000000 in
theorem j_chk_135 : j_chk 135 7 = true := by decide +kernel
set_option maxRecDepth 1000000 in
theorem j_chk_136 : j_chk 136 7 = true := by decide +kernel
set_option maxRecDepth 1000000 in
theorem j_chk_137 : j_chk 137 7 = true := by decide +kernel
set_option maxRecDepth 1000000 in
theorem j_chk_138 : j_chk 138 7 = true := by decide +kernel
set_option maxRecDepth 1000000 in
theorem j_chk_139 : j_chk 139 7 = true := by decide +kernel
set_option maxRecDepth 1000000 in
theorem j_chk_140 : j_chk 140 7 = true := by decide +kernel
set_option maxRecDepth 1000000 in
theorem j_chk_141 : j_chk 141 7 = true := by decide +kernel
set_option maxRecDepth 1000000 in
theorem j_chk_142 : j_chk 142 7 = true := by decide +kernel
set_option maxRecDepth 1000000 in
theorem j_chk_143 : j_chk 143 7 = true := by decide +kernel
set_option maxRecDepth 1000000 in
theorem j_chk_144 : j_chk 144 7 = true := by decide +kernel
set_option maxRecDepth 1000000 in
theorem j_chk_145 : j_chk 145 7 = true := by decide +kernel
set_option maxRecDepth 1000000 in
theorem j_chk_146 : j_chk 146 7 = true := by decide +kernel
set_option maxRecDepth 1000000 in
theorem j_chk_147 : j_chk 147 7 = true := by decide +kernel
set_option maxRecDepth 1000000 in
theorem j_chk_148 : j_chk 148 7 = true := by decide +kernel
set_option maxRecDepth 1000000 in
theorem j_chk_149 : j_chk 149 7 = true := by decide +kernel
set_option maxRecDepth 1000000 in
theorem j_chk_150 : j_chk 150 7 = true := by decide +kernel
set_option maxRecDepth 1000000 in
theorem j_chk_151 : j_chk 151 7 = true := by decide +kernel
set_option maxRecDepth 1000000 in
theorem j_chk_152 : j_chk 152 7 = true := by decide +kernel
set_option maxRecDepth 1000000 in
theorem j_chk_153 : j_chk 153 7 = true := by decide +kernel
set_option maxRecDepth 1000000 in
theorem j_chk_154 : j_chk 154 7 = true := by decide +kernel
set_option maxRecDepth 1000000 in
theorem j_chk_155 : j_chk 155 7 = true := by decide +kernel
set_option maxRecDepth 1000000 in
theorem j_chk_156 : j_chk 156 7 = true := by decide +kernel
set_option maxRecDepth 1000000 in
theorem j_chk_157 : j_chk 157 7 = true := by decide +kernel
set_option maxRecDepth 1000000 in
theorem j_chk_158 : j_chk 158 7 = true := by decide +kernel
set_option maxRecDepth 1000000 in
theorem j_chk_159 : j_chk 159 7 = true := by decide +kernel
set_option maxRecDepth 1000000 in
theorem j_chk_160 : j_chk 160 7 = true := by decide +kernel
set_option maxRecDepth 1000000 in
theorem j_chk_161 : j_chk 161 7 = true := by decide +kernel
set_option maxRecDepth 1000000 in
theorem j_chk_162 : j_chk 162 7 = true := by decide +kernel
set_option maxRecDepth 1000000 in
theorem j_chk_163 : j_chk 163 7 = true := by decide +kernel
set_option maxRecDepth 1000000 in
theorem j_chk_164 : j_chk 164 7 = true := by decide +kernel
set_option maxRecDepth 1000000 in
theorem j_chk_165 : j_chk 165 7 = true := by decide +kernel
set_option maxRecDepth 1000000 in
theorem j_chk_166 : j_chk 166 7 = true := by decide +kernel
set_option maxRecDepth 1000000 in
theorem j_chk_167 : j_chk 167 7 = true := by decide +kernel
set_option maxRecDepth 1000000 in
theorem j_chk_168 : j_chk 168 7 = true := by decide +kernel
set_option maxRecDepth 1000000 in
theorem j_chk_169 : j_chk 169 7 = true := by decide +kernel
set_option maxRecDepth 1000000 in
theorem j_chk_170 : j_chk 170 7 = true := by decide +kernel
set_option maxRecDepth 1000000 in
theorem j_chk_171 : j_chk 171 7 = true := by decide +kernel
set_option maxRecDepth 1000000 in
theorem j_chk_172 : j_chk 172 7 = true := by decide +kernel
set_option maxRecDepth 1000000 in
theorem j_chk_173 : j_chk 173 7 = true := by decide +kernel
set_option maxRecDepth 1000000 in
theorem j_chk_174 : j_chk 174 7 = true := by decide +kernel
set_option maxRecDepth 1000000 in
theorem j_chk_175 : j_chk 175 7 = true := by decide +kernel
set_option maxRecDepth 1000000 in
theorem j_chk_176 : j_chk 176 7 = true := by decide +kernel
set_option maxRecDepth 1000000 in
theorem j_chk_177 : j_chk 177 7 = true := by decide +kernel
set_option maxRecDepth 1000000 in
theorem j_chk_178 : j_chk 178 7 = true := by decide +kernel
set_option maxRecDepth 1000000 in
theorem j_chk_179 : j_chk 179 7 = true := by decide +kernel
set_option maxRecDepth 1000000 in
theorem j_chk_180 : j_chk 180 7 = true := by decide +kernel
set_option maxRecDepth 1000000 in
theorem j_chk_181 : j_chk 181 7 = true := by decide +kernel
set_option maxRecDepth 1000000 in
theorem j_chk_182 : j_chk 182 7 = true := by decide +kernel
set_option maxRecDepth 1000000 in
theorem j_chk_183 : j_chk 183 7 = true := by decide +kernel
set_option maxRecDepth 1000000 in
theorem j_chk_184 : j_chk 184 7 = true := by decide +kernel
set_option maxRecDepth 1000000 in
theorem j_chk_185 : j_chk 185 7 = true := by decide +kernel
set_option maxRecDepth 1000000 in
theorem j_chk_186 : j_chk 186 7 = true := by decide +kernel
set_option maxRecDepth 1000000 in
theorem j_chk_187 : j_chk 187 7 = true := by decide +kernel
set_option maxRecDepth 1000000 in
theorem j_chk_188 : j_chk 188 7 = true := by decide +kernel
set_option maxRecDepth 1000000 in
theorem j_chk_189 : j_chk 189 7 = true := by decide +kernel
set_option maxRecDepth 1000000 in
theorem j_chk_190 : j_chk 190 7 = true := by decide +kernel
set_option maxRecDepth 1000000 in
theorem j_chk_191 : j_chk 191 7 = true := by decide +kernel
set_option maxRecDepth 1000000 in
theorem j_chk_192 : j_chk 192 7 = true := by decide +kernel
set_option maxRecDepth 1000000 in
theorem j_chk_193 : j_chk 193 7 = true := by decide +kernel
set_option maxRecDepth 1000000 in
theorem j_chk_194 : j_chk 194 7 = true := by decide +kernel
set_option maxRecDepth 1000000 in
theorem j_chk_195 : j_chk 195 7 = true := by decide +kernel
set_option maxRecDepth 1000000 in
theorem j_chk_196 : j_chk 196 7 = true := by decide +kernel
set_option maxRecDepth 1000000 in
theorem j_chk_197 : j_chk 197 7 = true := by decide +kernel
set_option maxRecDepth 1000000 in
theorem j_chk_198 : j_chk 198 7 = true := by decide +kernel
set_option maxRecDepth 1000000 in
theorem j_chk_199 : j_chk 199 7 = true := by decide +kernel
set_option maxRecDepth 1000000 in
theorem j_chk_200 : j_chk 200 7 = true := by decide +kernel
set_option maxRecDepth 1000000 in
theorem j_chk_201 : j_chk 201 7 = true := by decide +kernel
set_option maxRecDepth 1000000 in
theorem j_chk_202 : j_chk 202 7 = true := by decide +kernel
set_option maxRecDepth 1000000 in
theorem j_chk_203 : j_chk 203 7 = true := by decide +kernel
set_option maxRecDepth 1000000 in
theorem j_chk_204 : j_chk 204 7 = true := by decide +kernel
set_option maxRecDepth 1000000 in
theorem j_chk_205 : j_chk 205 7 = true := by decide +kernel
set_option maxRecDepth 1000000 in
theorem j_chk_206 : j_chk 206 7 = true := by decide +kernel
set_option maxRecDepth 1000000 in
theorem j_chk_207 : j_chk 207 7 = true := by decide +kernel
set_option maxRecDepth 1000000 in
theorem j_chk_208 : j_chk 208 7 = true := by decide +kernel
set_option maxRecDepth 1000000 in
theorem j_chk_209 : j_chk 209 7 = true := by decide +kernel
set_option maxRecDepth 1000000 in
theorem j_chk_210 : j_chk 210 7 = true := by decide +kernel
set_option maxRecDepth 1000000 in
theorem j_chk_211 : j_chk 211 7 = true := by decide +kernel
set_option maxRecDepth 1000000 in
theorem j_chk_212 : j_chk 212 7 = true := by decide +kernel
set_option maxRecDepth 1000000 in
theorem j_chk_213 : j_chk 213 7 = true := by decide +kernel
set_option maxRecDepth 1000000 in
theorem j_chk_214 : j_chk 214 7 = true := by decide +kernel
set_option maxRecDepth 1000000 in
theorem j_chk_215 : j_chk 215 7 = true := by decide +kernel
set_option maxRecDepth 1000000 in
theorem j_chk_216 : j_chk 216 7 = true := by decide +kernel
set_option maxRecDepth 1000000 in
theorem j_chk_217 : j_chk 217 7 = true := by decide +kernel
set_option maxRecDepth 1000000 in
theorem j_chk_218 : j_chk 218 7 = true := by decide +kernel
set_option maxRecDepth 1000000 in
theorem j_chk_219 : j_chk 219 7 = true := by decide +kernel
set_option maxRecDepth 1000000 in
theorem j_chk_220 : j_chk 220 7 = true := by decide +kernel
set_option maxRecDepth 1000000 in
theorem j_chk_221 : j_chk 221 7 = true := by decide +kernel
set_option maxRecDepth 1000000 in
theorem j_chk_222 : j_chk 222 7 = true := by decide +kernel
set_option maxRecDepth 1000000 in
theorem j_chk_223 : j_chk 223 7 = true := by decide +kernel
set_option maxRecDepth 1000000 in
theorem j_chk_224 : j_chk 224 7 = true := by decide +kernel
set_option maxRecDepth 1000000 in
theorem j_chk_225 : j_chk 225 7 = true := by decide +kernel
set_option maxRecDepth 1000000 in
theorem j_chk_226 : j_chk 226 7 = true := by decide +kernel
set_option maxRecDepth 1000000 in
theorem j_chk_227 : j_chk 227 7 = true := by decide +kernel
set_option maxRecDepth 1000000 in
theorem j_chk_228 : j_chk 228 7 = true := by decide +kernel
set_option maxRecDepth 1000000 in
theorem j_chk_229 : j_chk 229 7 = true := by decide +kernel
set_option maxRecDepth 1000000 in
theorem j_chk_230 : j_chk 230 7 = true := by decide +kernel
set_option maxRecDepth 1000000 in
theorem j_chk_231 : j_chk 231 7 = true := by decide +kernel
set_option maxRecDepth 1000000 in
theorem j_chk_232 : j_chk 232 7 = true := by decide +kernel
set_option maxRecDepth 1000000 in
theorem j_chk_233 : j_chk 233 7 = true := by decide +kernel
set_option maxRecDepth 1000000 in
theorem j_chk_234 : j_chk 234 9 = true := by decide +kernel
set_option maxRecDepth 1000000 in
theorem j_chk_235 : j_chk 235 11 = true := by decide +kernel
