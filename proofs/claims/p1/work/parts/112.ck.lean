set_option maxRecDepth 100000 in
theorem ckm_76 : ckM 76 = true := by decide +kernel
set_option maxRecDepth 100000 in
theorem ckm_77 : ckM 77 = true := by decide +kernel
set_option maxRecDepth 100000 in
theorem ckm_78 : ckM 78 = true := by decide +kernel
set_option maxRecDepth 100000 in
theorem ckm_79 : ckM 79 = true := by decide +kernel
set_option maxRecDepth 100000 in
theorem ckm_80 : ckM 80 = true := by decide +kernel
set_option maxRecDepth 100000 in
theorem ckm_81 : ckM 81 = true := by decide +kernel
set_option maxRecDepth 100000 in
theorem ckm_82 : ckM 82 = true := by decide +kernel
set_option maxRecDepth 100000 in
theorem ckm_83 : ckM 83 = true := by decide +kernel
set_option maxRecDepth 100000 in
theorem ckm_84 : ckM 84 = true := by decide +kernel
set_option maxRecDepth 100000 in
theorem ckm_85 : ckM 85 = true := by decide +kernel
set_option maxRecDepth 100000 in
theorem ckm_86 : ckM 86 = true := by decide +kernel
set_option maxRecDepth 100000 in
theorem ckm_87 : ckM 87 = true := by decide +kernel
set_option maxRecDepth 100000 in
theorem ckm_88 : ckM 88 = true := by decide +kernel
set_option maxRecDepth 100000 in
theorem ckm_89 : ckM 89 = true := by decide +kernel
set_option maxRecDepth 100000 in
theorem ckm_90 : ckM 90 = true := by decide +kernel
set_option maxRecDepth 100000 in
theorem ckm_91 : ckM 91 = true := by decide +kernel
set_option maxRecDepth 100000 in
theorem ckm_92 : ckM 92 = true := by decide +kernel
set_option maxRecDepth 100000 in
theorem ckm_93 : ckM 93 = true := by decide +kernel
set_option maxRecDepth 100000 in
theorem ckm_94 : ckM 94 = true := by decide +kernel
set_option maxRecDepth 100000 in
theorem ckm_95 : ckM 95 = true := by decide +kernel
set_option maxRecDepth 100000 in
theorem ckm_96 : ckM 96 = true := by decide +kernel
set_option maxRecDepth 100000 in
theorem ckm_97 : ckM 97 = true := by decide +kernel
set_option maxRecDepth 100000 in
theorem ckm_98 : ckM 98 = true := by decide +kernel
set_option maxRecDepth 100000 in
theorem ckm_99 : ckM 99 = true := by decide +kernel
set_option maxRecDepth 100000 in
theorem ckm_100 : ckM 100 = true := by decide +kernel
set_option maxRecDepth 100000 in
theorem ckm_101 : ckM 101 = true := by decide +kernel
set_option maxRecDepth 100000 in
theorem ckm_102 : ckM 102 = true := by decide +kernel
set_option maxRecDepth 100000 in
theorem ckm_103 : ckM 103 = true := by decide +kernel
set_option maxRecDepth 100000 in
theorem ckm_104 : ckM 104 = true := by decide +kernel
set_option maxRecDepth 100000 in
theorem ckm_105 : ckM 105 = true := by decide +kernel
set_option maxRecDepth 100000 in
theorem ckm_106 : ckM 106 = true := by decide +kernel
set_option maxRecDepth 100000 in
theorem ckm_107 : ckM 107 = true := by decide +kernel
set_option maxRecDepth 100000 in
theorem ckm_108 : ckM 108 = true := by decide +kernel
set_option maxRecDepth 100000 in
theorem ckm_109 : ckM 109 = true := by decide +kernel
set_option maxRecDepth 100000 in
theorem ckm_110 : ckM 110 = true := by decide +kernel
set_option maxRecDepth 100000 in
theorem ckm_111 : ckM 111 = true := by decide +kernel
set_option maxRecDepth 100000 in
theorem ckm_112 : ckM 112 = true := by decide +kernel
set_option maxRecDepth 100000 in
theorem ckm_113 : ckM 113 = true := by decide +kernel
