/-! ===== part 5d: all checks at hand (by program wip/gen46/sim5d.py) ===== -/
set_option maxRecDepth 1000000 in
theorem j_chs_0 : ∀ k, k < 40 → j_chk (0 + k) (j_own.getD (0 + k) 0) = true := fun k h => match k, h with
  | 0, _ => j_chk_0
  | 1, _ => j_chk_1
  | 2, _ => j_chk_2
  | 3, _ => j_chk_3
  | 4, _ => j_chk_4
  | 5, _ => j_chk_5
  | 6, _ => j_chk_6
  | 7, _ => j_chk_7
  | 8, _ => j_chk_8
  | 9, _ => j_chk_9
  | 10, _ => j_chk_10
  | 11, _ => j_chk_11
  | 12, _ => j_chk_12
  | 13, _ => j_chk_13
  | 14, _ => j_chk_14
  | 15, _ => j_chk_15
  | 16, _ => j_chk_16
  | 17, _ => j_chk_17
  | 18, _ => j_chk_18
  | 19, _ => j_chk_19
  | 20, _ => j_chk_20
  | 21, _ => j_chk_21
  | 22, _ => j_chk_22
  | 23, _ => j_chk_23
  | 24, _ => j_chk_24
  | 25, _ => j_chk_25
  | 26, _ => j_chk_26
  | 27, _ => j_chk_27
  | 28, _ => j_chk_28
  | 29, _ => j_chk_29
  | 30, _ => j_chk_30
  | 31, _ => j_chk_31
  | 32, _ => j_chk_32
  | 33, _ => j_chk_33
  | 34, _ => j_chk_34
  | 35, _ => j_chk_35
  | 36, _ => j_chk_36
  | 37, _ => j_chk_37
  | 38, _ => j_chk_38
  | 39, _ => j_chk_39
  | k + 40, h => absurd h (by omega)
set_option maxRecDepth 1000000 in
theorem j_chs_1 : ∀ k, k < 40 → j_chk (40 + k) (j_own.getD (40 + k) 0) = true := fun k h => match k, h with
  | 0, _ => j_chk_40
  | 1, _ => j_chk_41
  | 2, _ => j_chk_42
  | 3, _ => j_chk_43
  | 4, _ => j_chk_44
  | 5, _ => j_chk_45
  | 6, _ => j_chk_46
  | 7, _ => j_chk_47
  | 8, _ => j_chk_48
  | 9, _ => j_chk_49
  | 10, _ => j_chk_50
  | 11, _ => j_chk_51
  | 12, _ => j_chk_52
  | 13, _ => j_chk_53
  | 14, _ => j_chk_54
  | 15, _ => j_chk_55
  | 16, _ => j_chk_56
  | 17, _ => j_chk_57
  | 18, _ => j_chk_58
  | 19, _ => j_chk_59
  | 20, _ => j_chk_60
  | 21, _ => j_chk_61
  | 22, _ => j_chk_62
  | 23, _ => j_chk_63
  | 24, _ => j_chk_64
  | 25, _ => j_chk_65
  | 26, _ => j_chk_66
  | 27, _ => j_chk_67
  | 28, _ => j_chk_68
  | 29, _ => j_chk_69
  | 30, _ => j_chk_70
  | 31, _ => j_chk_71
  | 32, _ => j_chk_72
  | 33, _ => j_chk_73
  | 34, _ => j_chk_74
  | 35, _ => j_chk_75
  | 36, _ => j_chk_76
  | 37, _ => j_chk_77
  | 38, _ => j_chk_78
  | 39, _ => j_chk_79
  | k + 40, h => absurd h (by omega)
set_option maxRecDepth 1000000 in
theorem j_chs_2 : ∀ k, k < 40 → j_chk (80 + k) (j_own.getD (80 + k) 0) = true := fun k h => match k, h with
  | 0, _ => j_chk_80
  | 1, _ => j_chk_81
  | 2, _ => j_chk_82
  | 3, _ => j_chk_83
  | 4, _ => j_chk_84
  | 5, _ => j_chk_85
  | 6, _ => j_chk_86
  | 7, _ => j_chk_87
  | 8, _ => j_chk_88
  | 9, _ => j_chk_89
  | 10, _ => j_chk_90
  | 11, _ => j_chk_91
  | 12, _ => j_chk_92
  | 13, _ => j_chk_93
  | 14, _ => j_chk_94
  | 15, _ => j_chk_95
  | 16, _ => j_chk_96
  | 17, _ => j_chk_97
  | 18, _ => j_chk_98
  | 19, _ => j_chk_99
  | 20, _ => j_chk_100
  | 21, _ => j_chk_101
  | 22, _ => j_chk_102
  | 23, _ => j_chk_103
  | 24, _ => j_chk_104
  | 25, _ => j_chk_105
  | 26, _ => j_chk_106
  | 27, _ => j_chk_107
  | 28, _ => j_chk_108
  | 29, _ => j_chk_109
  | 30, _ => j_chk_110
  | 31, _ => j_chk_111
  | 32, _ => j_chk_112
  | 33, _ => j_chk_113
  | 34, _ => j_chk_114
  | 35, _ => j_chk_115
  | 36, _ => j_chk_116
  | 37, _ => j_chk_117
  | 38, _ => j_chk_118
  | 39, _ => j_chk_119
  | k + 40, h => absurd h (by omega)
set_option maxRecDepth 1000000 in
theorem j_chs_3 : ∀ k, k < 17 → j_chk (120 + k) (j_own.getD (120 + k) 0) = true := fun k h => match k, h with
  | 0, _ => j_chk_120
  | 1, _ => j_chk_121
  | 2, _ => j_chk_122
  | 3, _ => j_chk_123
  | 4, _ => j_chk_124
  | 5, _ => j_chk_125
  | 6, _ => j_chk_126
  | 7, _ => j_chk_127
  | 8, _ => j_chk_128
  | 9, _ => j_chk_129
  | 10, _ => j_chk_130
  | 11, _ => j_chk_131
  | 12, _ => j_chk_132
  | 13, _ => j_chk_133
  | 14, _ => j_chk_134
  | 15, _ => j_chk_135
  | 16, _ => j_chk_136
  | k + 17, h => absurd h (by omega)
theorem j_chks : ∀ k, k < 137 → j_chk k (j_own.getD k 0) = true := by
  intro k hk
  by_cases h0 : k < 40
  · have := j_chs_0 (k - 0) (by omega)
    rwa [show 0 + (k - 0) = k by omega] at this
  by_cases h40 : k < 80
  · have := j_chs_1 (k - 40) (by omega)
    rwa [show 40 + (k - 40) = k by omega] at this
  by_cases h80 : k < 120
  · have := j_chs_2 (k - 80) (by omega)
    rwa [show 80 + (k - 80) = k by omega] at this
  by_cases h120 : k < 160
  · have := j_chs_3 (k - 120) (by omega)
    rwa [show 120 + (k - 120) = k by omega] at this
  omega
