set_option maxRecDepth 100000 in
theorem ckm_152 : ckM 152 = true := by decide +kernel
set_option maxRecDepth 100000 in
theorem ckm_153 : ckM 153 = true := by decide +kernel
set_option maxRecDepth 100000 in
theorem ckm_154 : ckM 154 = true := by decide +kernel
set_option maxRecDepth 100000 in
theorem ckm_155 : ckM 155 = true := by decide +kernel
set_option maxRecDepth 100000 in
theorem ckm_156 : ckM 156 = true := by decide +kernel
set_option maxRecDepth 100000 in
theorem ckm_157 : ckM 157 = true := by decide +kernel
set_option maxRecDepth 100000 in
theorem ckm_158 : ckM 158 = true := by decide +kernel
set_option maxRecDepth 100000 in
theorem ckm_159 : ckM 159 = true := by decide +kernel
set_option maxRecDepth 100000 in
theorem ckm_160 : ckM 160 = true := by decide +kernel
set_option maxRecDepth 100000 in
theorem ckm_161 : ckM 161 = true := by decide +kernel
set_option maxRecDepth 100000 in
theorem ckm_162 : ckM 162 = true := by decide +kernel
set_option maxRecDepth 100000 in
theorem ckm_163 : ckM 163 = true := by decide +kernel
set_option maxRecDepth 100000 in
theorem ckm_164 : ckM 164 = true := by decide +kernel
set_option maxRecDepth 100000 in
theorem ckm_165 : ckM 165 = true := by decide +kernel
set_option maxRecDepth 100000 in
theorem ckm_166 : ckM 166 = true := by decide +kernel
set_option maxRecDepth 100000 in
theorem ckm_167 : ckM 167 = true := by decide +kernel
set_option maxRecDepth 100000 in
theorem ckm_168 : ckM 168 = true := by decide +kernel
set_option maxRecDepth 100000 in
theorem ckm_169 : ckM 169 = true := by decide +kernel
set_option maxRecDepth 100000 in
theorem ckm_170 : ckM 170 = true := by decide +kernel
set_option maxRecDepth 100000 in
theorem ckm_171 : ckM 171 = true := by decide +kernel
set_option maxRecDepth 100000 in
theorem ckm_172 : ckM 172 = true := by decide +kernel
set_option maxRecDepth 100000 in
theorem ckm_173 : ckM 173 = true := by decide +kernel
set_option maxRecDepth 100000 in
theorem ckm_174 : ckM 174 = true := by decide +kernel
set_option maxRecDepth 100000 in
theorem ckm_175 : ckM 175 = true := by decide +kernel
set_option maxRecDepth 100000 in
theorem ckm_176 : ckM 176 = true := by decide +kernel
set_option maxRecDepth 100000 in
theorem ckm_177 : ckM 177 = true := by decide +kernel
set_option maxRecDepth 100000 in
theorem ckm_178 : ckM 178 = true := by decide +kernel
set_option maxRecDepth 100000 in
theorem ckm_179 : ckM 179 = true := by decide +kernel
set_option maxRecDepth 100000 in
theorem ckm_180 : ckM 180 = true := by decide +kernel
set_option maxRecDepth 100000 in
theorem ckm_181 : ckM 181 = true := by decide +kernel
set_option maxRecDepth 100000 in
theorem ckm_182 : ckM 182 = true := by decide +kernel
set_option maxRecDepth 100000 in
theorem ckm_183 : ckM 183 = true := by decide +kernel
set_option maxRecDepth 100000 in
theorem ckm_184 : ckM 184 = true := by decide +kernel
set_option maxRecDepth 100000 in
theorem ckm_185 : ckM 185 = true := by decide +kernel
set_option maxRecDepth 100000 in
theorem ckm_186 : ckM 186 = true := by decide +kernel
set_option maxRecDepth 100000 in
theorem ckm_187 : ckM 187 = true := by decide +kernel
set_option maxRecDepth 100000 in
theorem ckm_188 : ckM 188 = true := by decide +kernel
set_option maxRecDepth 100000 in
theorem ckm_189 : ckM 189 = true := by decide +kernel
