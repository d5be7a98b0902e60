set_option maxRecDepth 100000 in
theorem mx_ck_130 : mx_ckM 130 = true := by decide +kernel
set_option maxRecDepth 100000 in
theorem mx_ck_131 : mx_ckM 131 = true := by decide +kernel
set_option maxRecDepth 100000 in
theorem mx_ck_132 : mx_ckM 132 = true := by decide +kernel
set_option maxRecDepth 100000 in
theorem mx_ck_133 : mx_ckM 133 = true := by decide +kernel
set_option maxRecDepth 100000 in
theorem mx_ck_134 : mx_ckM 134 = true := by decide +kernel
set_option maxRecDepth 100000 in
theorem mx_ck_135 : mx_ckM 135 = true := by decide +kernel
set_option maxRecDepth 100000 in
theorem mx_ck_136 : mx_ckM 136 = true := by decide +kernel
set_option maxRecDepth 100000 in
theorem mx_ck_137 : mx_ckM 137 = true := by decide +kernel
set_option maxRecDepth 100000 in
theorem mx_ck_138 : mx_ckM 138 = true := by decide +kernel
set_option maxRecDepth 100000 in
theorem mx_ck_139 : mx_ckM 139 = true := by decide +kernel
set_option maxRecDepth 100000 in
theorem mx_ck_140 : mx_ckM 140 = true := by decide +kernel
set_option maxRecDepth 100000 in
theorem mx_ck_141 : mx_ckM 141 = true := by decide +kernel
set_option maxRecDepth 100000 in
theorem mx_ck_142 : mx_ckM 142 = true := by decide +kernel
set_option maxRecDepth 100000 in
theorem mx_ck_143 : mx_ckM 143 = true := by decide +kernel
set_option maxRecDepth 100000 in
theorem mx_ck_144 : mx_ckM 144 = true := by decide +kernel
set_option maxRecDepth 100000 in
theorem mx_ck_145 : mx_ckM 145 = true := by decide +kernel
set_option maxRecDepth 100000 in
theorem mx_ck_146 : mx_ckM 146 = true := by decide +kernel
set_option maxRecDepth 100000 in
theorem mx_ck_147 : mx_ckM 147 = true := by decide +kernel
set_option maxRecDepth 100000 in
theorem mx_ck_148 : mx_ckM 148 = true := by decide +kernel
set_option maxRecDepth 100000 in
theorem mx_ck_149 : mx_ckM 149 = true := by decide +kernel
set_option maxRecDepth 100000 in
theorem mx_ck_150 : mx_ckM 150 = true := by decide +kernel
set_option maxRecDepth 100000 in
theorem mx_ck_151 : mx_ckM 151 = true := by decide +kernel
set_option maxRecDepth 100000 in
theorem mx_ck_152 : mx_ckM 152 = true := by decide +kernel
set_option maxRecDepth 100000 in
theorem mx_ck_153 : mx_ckM 153 = true := by decide +kernel
set_option maxRecDepth 100000 in
theorem mx_ck_154 : mx_ckM 154 = true := by decide +kernel
set_option maxRecDepth 100000 in
theorem mx_ck_155 : mx_ckM 155 = true := by decide +kernel
set_option maxRecDepth 100000 in
theorem mx_ck_156 : mx_ckM 156 = true := by decide +kernel
set_option maxRecDepth 100000 in
theorem mx_ck_157 : mx_ckM 157 = true := by decide +kernel
set_option maxRecDepth 100000 in
theorem mx_ck_158 : mx_ckM 158 = true := by decide +kernel
set_option maxRecDepth 100000 in
theorem mx_ck_159 : mx_ckM 159 = true := by decide +kernel
set_option maxRecDepth 100000 in
theorem mx_ck_160 : mx_ckM 160 = true := by decide +kernel
set_option maxRecDepth 100000 in
theorem mx_ck_161 : mx_ckM 161 = true := by decide +kernel
set_option maxRecDepth 100000 in
theorem mx_ck_162 : mx_ckM 162 = true := by decide +kernel
set_option maxRecDepth 100000 in
theorem mx_ck_163 : mx_ckM 163 = true := by decide +kernel
set_option maxRecDepth 100000 in
theorem mx_ck_164 : mx_ckM 164 = true := by decide +kernel
set_option maxRecDepth 100000 in
theorem mx_ck_165 : mx_ckM 165 = true := by decide +kernel
set_option maxRecDepth 100000 in
theorem mx_ck_166 : mx_ckM 166 = true := by decide +kernel
set_option maxRecDepth 100000 in
theorem mx_ck_167 : mx_ckM 167 = true := by decide +kernel
set_option maxRecDepth 100000 in
theorem mx_ck_168 : mx_ckM 168 = true := by decide +kernel
set_option maxRecDepth 100000 in
theorem mx_ck_169 : mx_ckM 169 = true := by decide +kernel
set_option maxRecDepth 100000 in
theorem mx_ck_170 : mx_ckM 170 = true := by decide +kernel
set_option maxRecDepth 100000 in
theorem mx_ck_171 : mx_ckM 171 = true := by decide +kernel
set_option maxRecDepth 100000 in
theorem mx_ck_172 : mx_ckM 172 = true := by decide +kernel
set_option maxRecDepth 100000 in
theorem mx_ck_173 : mx_ckM 173 = true := by decide +kernel
set_option maxRecDepth 100000 in
theorem mx_ck_174 : mx_ckM 174 = true := by decide +kernel
set_option maxRecDepth 100000 in
theorem mx_ck_175 : mx_ckM 175 = true := by decide +kernel
set_option maxRecDepth 100000 in
theorem mx_ck_176 : mx_ckM 176 = true := by decide +kernel
set_option maxRecDepth 100000 in
theorem mx_ck_177 : mx_ckM 177 = true := by decide +kernel
set_option maxRecDepth 100000 in
theorem mx_ck_178 : mx_ckM 178 = true := by decide +kernel
set_option maxRecDepth 100000 in
theorem mx_ck_179 : mx_ckM 179 = true := by decide +kernel
set_option maxRecDepth 100000 in
theorem mx_ck_180 : mx_ckM 180 = true := by decide +kernel
set_option maxRecDepth 100000 in
theorem mx_ck_181 : mx_ckM 181 = true := by decide +kernel
set_option maxRecDepth 100000 in
theorem mx_ck_182 : mx_ckM 182 = true := by decide +kernel
set_option maxRecDepth 100000 in
theorem mx_ck_183 : mx_ckM 183 = true := by decide +kernel
set_option maxRecDepth 100000 in
theorem mx_ck_184 : mx_ckM 184 = true := by decide +kernel
set_option maxRecDepth 100000 in
theorem mx_ck_185 : mx_ckM 185 = true := by decide +kernel
set_option maxRecDepth 100000 in
theorem mx_ck_186 : mx_ckM 186 = true := by decide +kernel
set_option maxRecDepth 100000 in
theorem mx_ck_187 : mx_ckM 187 = true := by decide +kernel
set_option maxRecDepth 100000 in
theorem mx_ck_188 : mx_ckM 188 = true := by decide +kernel
set_option maxRecDepth 100000 in
theorem mx_ck_189 : mx_ckM 189 = true := by decide +kernel
set_option maxRecDepth 100000 in
theorem mx_ck_190 : mx_ckM 190 = true := by decide +kernel
set_option maxRecDepth 100000 in
theorem mx_ck_191 : mx_ckM 191 = true := by decide +kernel
set_option maxRecDepth 100000 in
theorem mx_ck_192 : mx_ckM 192 = true := by decide +kernel
set_option maxRecDepth 100000 in
theorem mx_ck_193 : mx_ckM 193 = true := by decide +kernel
