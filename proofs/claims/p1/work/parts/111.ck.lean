set_option maxRecDepth 100000 in
theorem ckm_38 : ckM 38 = true := by decide +kernel
set_option maxRecDepth 100000 in
theorem ckm_39 : ckM 39 = true := by decide +kernel
set_option maxRecDepth 100000 in
theorem ckm_40 : ckM 40 = true := by decide +kernel
set_option maxRecDepth 100000 in
theorem ckm_41 : ckM 41 = true := by decide +kernel
set_option maxRecDepth 100000 in
theorem ckm_42 : ckM 42 = true := by decide +kernel
set_option maxRecDepth 100000 in
theorem ckm_43 : ckM 43 = true := by decide +kernel
set_option maxRecDepth 100000 in
theorem ckm_44 : ckM 44 = true := by decide +kernel
set_option maxRecDepth 100000 in
theorem ckm_45 : ckM 45 = true := by decide +kernel
set_option maxRecDepth 100000 in
theorem ckm_46 : ckM 46 = true := by decide +kernel
set_option maxRecDepth 100000 in
theorem ckm_47 : ckM 47 = true := by decide +kernel
set_option maxRecDepth 100000 in
theorem ckm_48 : ckM 48 = true := by decide +kernel
set_option maxRecDepth 100000 in
theorem ckm_49 : ckM 49 = true := by decide +kernel
set_option maxRecDepth 100000 in
theorem ckm_50 : ckM 50 = true := by decide +kernel
set_option maxRecDepth 100000 in
theorem ckm_51 : ckM 51 = true := by decide +kernel
set_option maxRecDepth 100000 in
theorem ckm_52 : ckM 52 = true := by decide +kernel
set_option maxRecDepth 100000 in
theorem ckm_53 : ckM 53 = true := by decide +kernel
set_option maxRecDepth 100000 in
theorem ckm_54 : ckM 54 = true := by decide +kernel
set_option maxRecDepth 100000 in
theorem ckm_55 : ckM 55 = true := by decide +kernel
set_option maxRecDepth 100000 in
theorem ckm_56 : ckM 56 = true := by decide +kernel
set_option maxRecDepth 100000 in
theorem ckm_57 : ckM 57 = true := by decide +kernel
set_option maxRecDepth 100000 in
theorem ckm_58 : ckM 58 = true := by decide +kernel
set_option maxRecDepth 100000 in
theorem ckm_59 : ckM 59 = true := by decide +kernel
set_option maxRecDepth 100000 in
theorem ckm_60 : ckM 60 = true := by decide +kernel
set_option maxRecDepth 100000 in
theorem ckm_61 : ckM 61 = true := by decide +kernel
set_option maxRecDepth 100000 in
theorem ckm_62 : ckM 62 = true := by decide +kernel
set_option maxRecDepth 100000 in
theorem ckm_63 : ckM 63 = true := by decide +kernel
set_option maxRecDepth 100000 in
theorem ckm_64 : ckM 64 = true := by decide +kernel
set_option maxRecDepth 100000 in
theorem ckm_65 : ckM 65 = true := by decide +kernel
set_option maxRecDepth 100000 in
theorem ckm_66 : ckM 66 = true := by decide +kernel
set_option maxRecDepth 100000 in
theorem ckm_67 : ckM 67 = true := by decide +kernel
set_option maxRecDepth 100000 in
theorem ckm_68 : ckM 68 = true := by decide +kernel
set_option maxRecDepth 100000 in
theorem ckm_69 : ckM 69 = true := by decide +kernel
set_option maxRecDepth 100000 in
theorem ckm_70 : ckM 70 = true := by decide +kernel
set_option maxRecDepth 100000 in
theorem ckm_71 : ckM 71 = true := by decide +kernel
set_option maxRecDepth 100000 in
theorem ckm_72 : ckM 72 = true := by decide +kernel
set_option maxRecDepth 100000 in
theorem ckm_73 : ckM 73 = true := by decide +kernel
set_option maxRecDepth 100000 in
theorem ckm_74 : ckM 74 = true := by decide +kernel
set_option maxRecDepth 100000 in
theorem ckm_75 : ckM 75 = true := by decide +kernel
