set_option maxRecDepth 100000 in
theorem mx_ck_66 : mx_ckM 66 = true := by decide +kernel
set_option maxRecDepth 100000 in
theorem mx_ck_67 : mx_ckM 67 = true := by decide +kernel
set_option maxRecDepth 100000 in
theorem mx_ck_68 : mx_ckM 68 = true := by decide +kernel
set_option maxRecDepth 100000 in
theorem mx_ck_69 : mx_ckM 69 = true := by decide +kernel
set_option maxRecDepth 100000 in
theorem mx_ck_70 : mx_ckM 70 = true := by decide +kernel
set_option maxRecDepth 100000 in
theorem mx_ck_71 : mx_ckM 71 = true := by decide +kernel
set_option maxRecDepth 100000 in
theorem mx_ck_72 : mx_ckM 72 = true := by decide +kernel
set_option maxRecDepth 100000 in
theorem mx_ck_73 : mx_ckM 73 = true := by decide +kernel
set_option maxRecDepth 100000 in
theorem mx_ck_74 : mx_ckM 74 = true := by decide +kernel
set_option maxRecDepth 100000 in
theorem mx_ck_75 : mx_ckM 75 = true := by decide +kernel
set_option maxRecDepth 100000 in
theorem mx_ck_76 : mx_ckM 76 = true := by decide +kernel
set_option maxRecDepth 100000 in
theorem mx_ck_77 : mx_ckM 77 = true := by decide +kernel
set_option maxRecDepth 100000 in
theorem mx_ck_78 : mx_ckM 78 = true := by decide +kernel
set_option maxRecDepth 100000 in
theorem mx_ck_79 : mx_ckM 79 = true := by decide +kernel
set_option maxRecDepth 100000 in
theorem mx_ck_80 : mx_ckM 80 = true := by decide +kernel
set_option maxRecDepth 100000 in
theorem mx_ck_81 : mx_ckM 81 = true := by decide +kernel
set_option maxRecDepth 100000 in
theorem mx_ck_82 : mx_ckM 82 = true := by decide +kernel
set_option maxRecDepth 100000 in
theorem mx_ck_83 : mx_ckM 83 = true := by decide +kernel
set_option maxRecDepth 100000 in
theorem mx_ck_84 : mx_ckM 84 = true := by decide +kernel
set_option maxRecDepth 100000 in
theorem mx_ck_85 : mx_ckM 85 = true := by decide +kernel
set_option maxRecDepth 100000 in
theorem mx_ck_86 : mx_ckM 86 = true := by decide +kernel
set_option maxRecDepth 100000 in
theorem mx_ck_87 : mx_ckM 87 = true := by decide +kernel
set_option maxRecDepth 100000 in
theorem mx_ck_88 : mx_ckM 88 = true := by decide +kernel
set_option maxRecDepth 100000 in
theorem mx_ck_89 : mx_ckM 89 = true := by decide +kernel
set_option maxRecDepth 100000 in
theorem mx_ck_90 : mx_ckM 90 = true := by decide +kernel
set_option maxRecDepth 100000 in
theorem mx_ck_91 : mx_ckM 91 = true := by decide +kernel
set_option maxRecDepth 100000 in
theorem mx_ck_92 : mx_ckM 92 = true := by decide +kernel
set_option maxRecDepth 100000 in
theorem mx_ck_93 : mx_ckM 93 = true := by decide +kernel
set_option maxRecDepth 100000 in
theorem mx_ck_94 : mx_ckM 94 = true := by decide +kernel
set_option maxRecDepth 100000 in
theorem mx_ck_95 : mx_ckM 95 = true := by decide +kernel
set_option maxRecDepth 100000 in
theorem mx_ck_96 : mx_ckM 96 = true := by decide +kernel
set_option maxRecDepth 100000 in
theorem mx_ck_97 : mx_ckM 97 = true := by decide +kernel
set_option maxRecDepth 100000 in
theorem mx_ck_98 : mx_ckM 98 = true := by decide +kernel
set_option maxRecDepth 100000 in
theorem mx_ck_99 : mx_ckM 99 = true := by decide +kernel
set_option maxRecDepth 100000 in
theorem mx_ck_100 : mx_ckM 100 = true := by decide +kernel
set_option maxRecDepth 100000 in
theorem mx_ck_101 : mx_ckM 101 = true := by decide +kernel
set_option maxRecDepth 100000 in
theorem mx_ck_102 : mx_ckM 102 = true := by decide +kernel
set_option maxRecDepth 100000 in
theorem mx_ck_103 : mx_ckM 103 = true := by decide +kernel
set_option maxRecDepth 100000 in
theorem mx_ck_104 : mx_ckM 104 = true := by decide +kernel
set_option maxRecDepth 100000 in
theorem mx_ck_105 : mx_ckM 105 = true := by decide +kernel
set_option maxRecDepth 100000 in
theorem mx_ck_106 : mx_ckM 106 = true := by decide +kernel
set_option maxRecDepth 100000 in
theorem mx_ck_107 : mx_ckM 107 = true := by decide +kernel
set_option maxRecDepth 100000 in
theorem mx_ck_108 : mx_ckM 108 = true := by decide +kernel
set_option maxRecDepth 100000 in
theorem mx_ck_109 : mx_ckM 109 = true := by decide +kernel
set_option maxRecDepth 100000 in
theorem mx_ck_110 : mx_ckM 110 = true := by decide +kernel
set_option maxRecDepth 100000 in
theorem mx_ck_111 : mx_ckM 111 = true := by decide +kernel
set_option maxRecDepth 100000 in
theorem mx_ck_112 : mx_ckM 112 = true := by decide +kernel
set_option maxRecDepth 100000 in
theorem mx_ck_113 : mx_ckM 113 = true := by decide +kernel
set_option maxRecDepth 100000 in
theorem mx_ck_114 : mx_ckM 114 = true := by decide +kernel
set_option maxRecDepth 100000 in
theorem mx_ck_115 : mx_ckM 115 = true := by decide +kernel
set_option maxRecDepth 100000 in
theorem mx_ck_116 : mx_ckM 116 = true := by decide +kernel
set_option maxRecDepth 100000 in
theorem mx_ck_117 : mx_ckM 117 = true := by decide +kernel
set_option maxRecDepth 100000 in
theorem mx_ck_118 : mx_ckM 118 = true := by decide +kernel
set_option maxRecDepth 100000 in
theorem mx_ck_119 : mx_ckM 119 = true := by decide +kernel
set_option maxRecDepth 100000 in
theorem mx_ck_120 : mx_ckM 120 = true := by decide +kernel
set_option maxRecDepth 100000 in
theorem mx_ck_121 : mx_ckM 121 = true := by decide +kernel
set_option maxRecDepth 100000 in
theorem mx_ck_122 : mx_ckM 122 = true := by decide +kernel
set_option maxRecDepth 100000 in
theorem mx_ck_123 : mx_ckM 123 = true := by decide +kernel
set_option maxRecDepth 100000 in
theorem mx_ck_124 : mx_ckM 124 = true := by decide +kernel
set_option maxRecDepth 100000 in
theorem mx_ck_125 : mx_ckM 125 = true := by decide +kernel
set_option maxRecDepth 100000 in
theorem mx_ck_126 : mx_ckM 126 = true := by decide +kernel
set_option maxRecDepth 100000 in
theorem mx_ck_127 : mx_ckM 127 = true := by decide +kernel
set_option maxRecDepth 100000 in
theorem mx_ck_128 : mx_ckM 128 = true := by decide +kernel
set_option maxRecDepth 100000 in
theorem mx_ck_129 : mx_ckM 129 = true := by decide +kernel
