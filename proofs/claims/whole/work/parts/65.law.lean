set_option maxRecDepth 100000 in
theorem mx_ckl_0 : mx_ckR 0 0 120 = true := by decide +kernel
set_option maxRecDepth 100000 in
theorem mx_ckl_120 : mx_ckR 0 120 120 = true := by decide +kernel
set_option maxRecDepth 100000 in
theorem mx_ckl_240 : mx_ckR 0 240 120 = true := by decide +kernel
set_option maxRecDepth 100000 in
theorem mx_ckl_360 : mx_ckR 0 360 120 = true := by decide +kernel
set_option maxRecDepth 100000 in
theorem mx_ckl_480 : mx_ckR 0 480 120 = true := by decide +kernel
set_option maxRecDepth 100000 in
theorem mx_ckl_600 : mx_ckR 0 600 120 = true := by decide +kernel
set_option maxRecDepth 100000 in
theorem mx_ckl_720 : mx_ckR 0 720 120 = true := by decide +kernel
set_option maxRecDepth 100000 in
theorem mx_ckl_840 : mx_ckR 0 840 120 = true := by decide +kernel
set_option maxRecDepth 100000 in
theorem mx_ckl_960 : mx_ckR 0 960 120 = true := by decide +kernel
set_option maxRecDepth 100000 in
theorem mx_ckl_1080 : mx_ckR 0 1080 119 = true := by decide +kernel
theorem mx_ck_0 : mx_ckM 0 = true := mx_ckj fun pc hp => by
  have hp : pc < 1199 := hp
  by_cases h0 : pc < 120
  · exact mx_cku mx_ckl_0 (by omega) (by omega)
  by_cases h120 : pc < 240
  · exact mx_cku mx_ckl_120 (by omega) (by omega)
  by_cases h240 : pc < 360
  · exact mx_cku mx_ckl_240 (by omega) (by omega)
  by_cases h360 : pc < 480
  · exact mx_cku mx_ckl_360 (by omega) (by omega)
  by_cases h480 : pc < 600
  · exact mx_cku mx_ckl_480 (by omega) (by omega)
  by_cases h600 : pc < 720
  · exact mx_cku mx_ckl_600 (by omega) (by omega)
  by_cases h720 : pc < 840
  · exact mx_cku mx_ckl_720 (by omega) (by omega)
  by_cases h840 : pc < 960
  · exact mx_cku mx_ckl_840 (by omega) (by omega)
  by_cases h960 : pc < 1080
  · exact mx_cku mx_ckl_960 (by omega) (by omega)
  by_cases h1080 : pc < 1199
  · exact mx_cku mx_ckl_1080 (by omega) (by omega)
  omega
theorem mx_ck : ∀ M, M < 194 → mx_ckM M = true
  | 0, _ => mx_ck_0
  | 1, _ => mx_ck_1
  | 2, _ => mx_ck_2
  | 3, _ => mx_ck_3
  | 4, _ => mx_ck_4
  | 5, _ => mx_ck_5
  | 6, _ => mx_ck_6
  | 7, _ => mx_ck_7
  | 8, _ => mx_ck_8
  | 9, _ => mx_ck_9
  | 10, _ => mx_ck_10
  | 11, _ => mx_ck_11
  | 12, _ => mx_ck_12
  | 13, _ => mx_ck_13
  | 14, _ => mx_ck_14
  | 15, _ => mx_ck_15
  | 16, _ => mx_ck_16
  | 17, _ => mx_ck_17
  | 18, _ => mx_ck_18
  | 19, _ => mx_ck_19
  | 20, _ => mx_ck_20
  | 21, _ => mx_ck_21
  | 22, _ => mx_ck_22
  | 23, _ => mx_ck_23
  | 24, _ => mx_ck_24
  | 25, _ => mx_ck_25
  | 26, _ => mx_ck_26
  | 27, _ => mx_ck_27
  | 28, _ => mx_ck_28
  | 29, _ => mx_ck_29
  | 30, _ => mx_ck_30
  | 31, _ => mx_ck_31
  | 32, _ => mx_ck_32
  | 33, _ => mx_ck_33
  | 34, _ => mx_ck_34
  | 35, _ => mx_ck_35
  | 36, _ => mx_ck_36
  | 37, _ => mx_ck_37
  | 38, _ => mx_ck_38
  | 39, _ => mx_ck_39
  | 40, _ => mx_ck_40
  | 41, _ => mx_ck_41
  | 42, _ => mx_ck_42
  | 43, _ => mx_ck_43
  | 44, _ => mx_ck_44
  | 45, _ => mx_ck_45
  | 46, _ => mx_ck_46
  | 47, _ => mx_ck_47
  | 48, _ => mx_ck_48
  | 49, _ => mx_ck_49
  | 50, _ => mx_ck_50
  | 51, _ => mx_ck_51
  | 52, _ => mx_ck_52
  | 53, _ => mx_ck_53
  | 54, _ => mx_ck_54
  | 55, _ => mx_ck_55
  | 56, _ => mx_ck_56
  | 57, _ => mx_ck_57
  | 58, _ => mx_ck_58
  | 59, _ => mx_ck_59
  | 60, _ => mx_ck_60
  | 61, _ => mx_ck_61
  | 62, _ => mx_ck_62
  | 63, _ => mx_ck_63
  | 64, _ => mx_ck_64
  | 65, _ => mx_ck_65
  | 66, _ => mx_ck_66
  | 67, _ => mx_ck_67
  | 68, _ => mx_ck_68
  | 69, _ => mx_ck_69
  | 70, _ => mx_ck_70
  | 71, _ => mx_ck_71
  | 72, _ => mx_ck_72
  | 73, _ => mx_ck_73
  | 74, _ => mx_ck_74
  | 75, _ => mx_ck_75
  | 76, _ => mx_ck_76
  | 77, _ => mx_ck_77
  | 78, _ => mx_ck_78
  | 79, _ => mx_ck_79
  | 80, _ => mx_ck_80
  | 81, _ => mx_ck_81
  | 82, _ => mx_ck_82
  | 83, _ => mx_ck_83
  | 84, _ => mx_ck_84
  | 85, _ => mx_ck_85
  | 86, _ => mx_ck_86
  | 87, _ => mx_ck_87
  | 88, _ => mx_ck_88
  | 89, _ => mx_ck_89
  | 90, _ => mx_ck_90
  | 91, _ => mx_ck_91
  | 92, _ => mx_ck_92
  | 93, _ => mx_ck_93
  | 94, _ => mx_ck_94
  | 95, _ => mx_ck_95
  | 96, _ => mx_ck_96
  | 97, _ => mx_ck_97
  | 98, _ => mx_ck_98
  | 99, _ => mx_ck_99
  | 100, _ => mx_ck_100
  | 101, _ => mx_ck_101
  | 102, _ => mx_ck_102
  | 103, _ => mx_ck_103
  | 104, _ => mx_ck_104
  | 105, _ => mx_ck_105
  | 106, _ => mx_ck_106
  | 107, _ => mx_ck_107
  | 108, _ => mx_ck_108
  | 109, _ => mx_ck_109
  | 110, _ => mx_ck_110
  | 111, _ => mx_ck_111
  | 112, _ => mx_ck_112
  | 113, _ => mx_ck_113
  | 114, _ => mx_ck_114
  | 115, _ => mx_ck_115
  | 116, _ => mx_ck_116
  | 117, _ => mx_ck_117
  | 118, _ => mx_ck_118
  | 119, _ => mx_ck_119
  | 120, _ => mx_ck_120
  | 121, _ => mx_ck_121
  | 122, _ => mx_ck_122
  | 123, _ => mx_ck_123
  | 124, _ => mx_ck_124
  | 125, _ => mx_ck_125
  | 126, _ => mx_ck_126
  | 127, _ => mx_ck_127
  | 128, _ => mx_ck_128
  | 129, _ => mx_ck_129
  | 130, _ => mx_ck_130
  | 131, _ => mx_ck_131
  | 132, _ => mx_ck_132
  | 133, _ => mx_ck_133
  | 134, _ => mx_ck_134
  | 135, _ => mx_ck_135
  | 136, _ => mx_ck_136
  | 137, _ => mx_ck_137
  | 138, _ => mx_ck_138
  | 139, _ => mx_ck_139
  | 140, _ => mx_ck_140
  | 141, _ => mx_ck_141
  | 142, _ => mx_ck_142
  | 143, _ => mx_ck_143
  | 144, _ => mx_ck_144
  | 145, _ => mx_ck_145
  | 146, _ => mx_ck_146
  | 147, _ => mx_ck_147
  | 148, _ => mx_ck_148
  | 149, _ => mx_ck_149
  | 150, _ => mx_ck_150
  | 151, _ => mx_ck_151
  | 152, _ => mx_ck_152
  | 153, _ => mx_ck_153
  | 154, _ => mx_ck_154
  | 155, _ => mx_ck_155
  | 156, _ => mx_ck_156
  | 157, _ => mx_ck_157
  | 158, _ => mx_ck_158
  | 159, _ => mx_ck_159
  | 160, _ => mx_ck_160
  | 161, _ => mx_ck_161
  | 162, _ => mx_ck_162
  | 163, _ => mx_ck_163
  | 164, _ => mx_ck_164
  | 165, _ => mx_ck_165
  | 166, _ => mx_ck_166
  | 167, _ => mx_ck_167
  | 168, _ => mx_ck_168
  | 169, _ => mx_ck_169
  | 170, _ => mx_ck_170
  | 171, _ => mx_ck_171
  | 172, _ => mx_ck_172
  | 173, _ => mx_ck_173
  | 174, _ => mx_ck_174
  | 175, _ => mx_ck_175
  | 176, _ => mx_ck_176
  | 177, _ => mx_ck_177
  | 178, _ => mx_ck_178
  | 179, _ => mx_ck_179
  | 180, _ => mx_ck_180
  | 181, _ => mx_ck_181
  | 182, _ => mx_ck_182
  | 183, _ => mx_ck_183
  | 184, _ => mx_ck_184
  | 185, _ => mx_ck_185
  | 186, _ => mx_ck_186
  | 187, _ => mx_ck_187
  | 188, _ => mx_ck_188
  | 189, _ => mx_ck_189
  | 190, _ => mx_ck_190
  | 191, _ => mx_ck_191
  | 192, _ => mx_ck_192
  | 193, _ => mx_ck_193
  | n + 194, h => by omega
