set_option maxRecDepth 100000 in
theorem ckm_114 : ckM 114 = true := by decide +kernel
set_option maxRecDepth 100000 in
theorem ckm_115 : ckM 115 = true := by decide +kernel
set_option maxRecDepth 100000 in
theorem ckm_116 : ckM 116 = true := by decide +kernel
set_option maxRecDepth 100000 in
theorem ckm_117 : ckM 117 = true := by decide +kernel
set_option maxRecDepth 100000 in
theorem ckm_118 : ckM 118 = true := by decide +kernel
set_option maxRecDepth 100000 in
theorem ckm_119 : ckM 119 = true := by decide +kernel
set_option maxRecDepth 100000 in
theorem ckm_120 : ckM 120 = true := by decide +kernel
set_option maxRecDepth 100000 in
theorem ckm_121 : ckM 121 = true := by decide +kernel
set_option maxRecDepth 100000 in
theorem ckm_122 : ckM 122 = true := by decide +kernel
set_option maxRecDepth 100000 in
theorem ckm_123 : ckM 123 = true := by decide +kernel
set_option maxRecDepth 100000 in
theorem ckm_124 : ckM 124 = true := by decide +kernel
set_option maxRecDepth 100000 in
theorem ckm_125 : ckM 125 = true := by decide +kernel
set_option maxRecDepth 100000 in
theorem ckm_126 : ckM 126 = true := by decide +kernel
set_option maxRecDepth 100000 in
theorem ckm_127 : ckM 127 = true := by decide +kernel
set_option maxRecDepth 100000 in
theorem ckm_128 : ckM 128 = true := by decide +kernel
set_option maxRecDepth 100000 in
theorem ckm_129 : ckM 129 = true := by decide +kernel
set_option maxRecDepth 100000 in
theorem ckm_130 : ckM 130 = true := by decide +kernel
set_option maxRecDepth 100000 in
theorem ckm_131 : ckM 131 = true := by decide +kernel
set_option maxRecDepth 100000 in
theorem ckm_132 : ckM 132 = true := by decide +kernel
set_option maxRecDepth 100000 in
theorem ckm_133 : ckM 133 = true := by decide +kernel
set_option maxRecDepth 100000 in
theorem ckm_134 : ckM 134 = true := by decide +kernel
set_option maxRecDepth 100000 in
theorem ckm_135 : ckM 135 = true := by decide +kernel
set_option maxRecDepth 100000 in
theorem ckm_136 : ckM 136 = true := by decide +kernel
set_option maxRecDepth 100000 in
theorem ckm_137 : ckM 137 = true := by decide +kernel
set_option maxRecDepth 100000 in
theorem ckm_138 : ckM 138 = true := by decide +kernel
set_option maxRecDepth 100000 in
theorem ckm_139 : ckM 139 = true := by decide +kernel
set_option maxRecDepth 100000 in
theorem ckm_140 : ckM 140 = true := by decide +kernel
set_option maxRecDepth 100000 in
theorem ckm_141 : ckM 141 = true := by decide +kernel
set_option maxRecDepth 100000 in
theorem ckm_142 : ckM 142 = true := by decide +kernel
set_option maxRecDepth 100000 in
theorem ckm_143 : ckM 143 = true := by decide +kernel
set_option maxRecDepth 100000 in
theorem ckm_144 : ckM 144 = true := by decide +kernel
set_option maxRecDepth 100000 in
theorem ckm_145 : ckM 145 = true := by decide +kernel
set_option maxRecDepth 100000 in
theorem ckm_146 : ckM 146 = true := by decide +kernel
set_option maxRecDepth 100000 in
theorem ckm_147 : ckM 147 = true := by decide +kernel
set_option maxRecDepth 100000 in
theorem ckm_148 : ckM 148 = true := by decide +kernel
set_option maxRecDepth 100000 in
theorem ckm_149 : ckM 149 = true := by decide +kernel
set_option maxRecDepth 100000 in
theorem ckm_150 : ckM 150 = true := by decide +kernel
set_option maxRecDepth 100000 in
theorem ckm_151 : ckM 151 = true := by decide +kernel
