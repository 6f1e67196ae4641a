set_option maxRecDepth 100000 in
theorem ckm_190 : ckM 190 = true := by decide +kernel
set_option maxRecDepth 100000 in
theorem ckm_191 : ckM 191 = true := by decide +kernel
set_option maxRecDepth 100000 in
theorem ckm_192 : ckM 192 = true := by decide +kernel
set_option maxRecDepth 100000 in
theorem ckm_193 : ckM 193 = true := by decide +kernel
set_option maxRecDepth 100000 in
theorem ckm_194 : ckM 194 = true := by decide +kernel
set_option maxRecDepth 100000 in
theorem ckm_195 : ckM 195 = true := by decide +kernel
set_option maxRecDepth 100000 in
theorem ckm_196 : ckM 196 = true := by decide +kernel
set_option maxRecDepth 100000 in
theorem ckm_197 : ckM 197 = true := by decide +kernel
set_option maxRecDepth 100000 in
theorem ckm_198 : ckM 198 = true := by decide +kernel
set_option maxRecDepth 100000 in
theorem ckm_199 : ckM 199 = true := by decide +kernel
set_option maxRecDepth 100000 in
theorem ckm_200 : ckM 200 = true := by decide +kernel
set_option maxRecDepth 100000 in
theorem ckm_201 : ckM 201 = true := by decide +kernel
set_option maxRecDepth 100000 in
theorem ckm_202 : ckM 202 = true := by decide +kernel
set_option maxRecDepth 100000 in
theorem ckm_203 : ckM 203 = true := by decide +kernel
set_option maxRecDepth 100000 in
theorem ckm_204 : ckM 204 = true := by decide +kernel
set_option maxRecDepth 100000 in
theorem ckm_205 : ckM 205 = true := by decide +kernel
set_option maxRecDepth 100000 in
theorem ckm_206 : ckM 206 = true := by decide +kernel
set_option maxRecDepth 100000 in
theorem ckm_207 : ckM 207 = true := by decide +kernel
set_option maxRecDepth 100000 in
theorem ckm_208 : ckM 208 = true := by decide +kernel
set_option maxRecDepth 100000 in
theorem ckm_209 : ckM 209 = true := by decide +kernel
set_option maxRecDepth 100000 in
theorem ckm_210 : ckM 210 = true := by decide +kernel
set_option maxRecDepth 100000 in
theorem ckm_211 : ckM 211 = true := by decide +kernel
set_option maxRecDepth 100000 in
theorem ckm_212 : ckM 212 = true := by decide +kernel
set_option maxRecDepth 100000 in
theorem ckm_213 : ckM 213 = true := by decide +kernel
set_option maxRecDepth 100000 in
theorem ckm_214 : ckM 214 = true := by decide +kernel
set_option maxRecDepth 100000 in
theorem ckm_215 : ckM 215 = true := by decide +kernel
set_option maxRecDepth 100000 in
theorem ckm_216 : ckM 216 = true := by decide +kernel
set_option maxRecDepth 100000 in
theorem ckm_217 : ckM 217 = true := by decide +kernel
set_option maxRecDepth 100000 in
theorem ckm_218 : ckM 218 = true := by decide +kernel
set_option maxRecDepth 100000 in
theorem ckm_219 : ckM 219 = true := by decide +kernel
set_option maxRecDepth 100000 in
theorem ckm_220 : ckM 220 = true := by decide +kernel
set_option maxRecDepth 100000 in
theorem ckm_221 : ckM 221 = true := by decide +kernel
set_option maxRecDepth 100000 in
theorem ckm_222 : ckM 222 = true := by decide +kernel
