set_option maxRecDepth 100000 in
theorem ckm_0 : ckM 0 = true := by decide +kernel
set_option maxRecDepth 100000 in
theorem ckm_1 : ckM 1 = true := by decide +kernel
set_option maxRecDepth 100000 in
theorem ckm_2 : ckM 2 = true := by decide +kernel
set_option maxRecDepth 100000 in
theorem ckm_3 : ckM 3 = true := by decide +kernel
set_option maxRecDepth 100000 in
theorem ckm_4 : ckM 4 = true := by decide +kernel
set_option maxRecDepth 100000 in
theorem ckm_5 : ckM 5 = true := by decide +kernel
set_option maxRecDepth 100000 in
theorem ckm_6 : ckM 6 = true := by decide +kernel
set_option maxRecDepth 100000 in
theorem ckm_7 : ckM 7 = true := by decide +kernel
set_option maxRecDepth 100000 in
theorem ckm_8 : ckM 8 = true := by decide +kernel
set_option maxRecDepth 100000 in
theorem ckm_9 : ckM 9 = true := by decide +kernel
set_option maxRecDepth 100000 in
theorem ckm_10 : ckM 10 = true := by decide +kernel
set_option maxRecDepth 100000 in
theorem ckm_11 : ckM 11 = true := by decide +kernel
set_option maxRecDepth 100000 in
theorem ckm_12 : ckM 12 = true := by decide +kernel
set_option maxRecDepth 100000 in
theorem ckm_13 : ckM 13 = true := by decide +kernel
set_option maxRecDepth 100000 in
theorem ckm_14 : ckM 14 = true := by decide +kernel
set_option maxRecDepth 100000 in
theorem ckm_15 : ckM 15 = true := by decide +kernel
set_option maxRecDepth 100000 in
theorem ckm_16 : ckM 16 = true := by decide +kernel
set_option maxRecDepth 100000 in
theorem ckm_17 : ckM 17 = true := by decide +kernel
set_option maxRecDepth 100000 in
theorem ckm_18 : ckM 18 = true := by decide +kernel
set_option maxRecDepth 100000 in
theorem ckm_19 : ckM 19 = true := by decide +kernel
set_option maxRecDepth 100000 in
theorem ckm_20 : ckM 20 = true := by decide +kernel
set_option maxRecDepth 100000 in
theorem ckm_21 : ckM 21 = true := by decide +kernel
set_option maxRecDepth 100000 in
theorem ckm_22 : ckM 22 = true := by decide +kernel
set_option maxRecDepth 100000 in
theorem ckm_23 : ckM 23 = true := by decide +kernel
set_option maxRecDepth 100000 in
theorem ckm_24 : ckM 24 = true := by decide +kernel
set_option maxRecDepth 100000 in
theorem ckm_25 : ckM 25 = true := by decide +kernel
set_option maxRecDepth 100000 in
theorem ckm_26 : ckM 26 = true := by decide +kernel
set_option maxRecDepth 100000 in
theorem ckm_27 : ckM 27 = true := by decide +kernel
set_option maxRecDepth 100000 in
theorem ckm_28 : ckM 28 = true := by decide +kernel
set_option maxRecDepth 100000 in
theorem ckm_29 : ckM 29 = true := by decide +kernel
set_option maxRecDepth 100000 in
theorem ckm_30 : ckM 30 = true := by decide +kernel
set_option maxRecDepth 100000 in
theorem ckm_31 : ckM 31 = true := by decide +kernel
set_option maxRecDepth 100000 in
theorem ckm_32 : ckM 32 = true := by decide +kernel
set_option maxRecDepth 100000 in
theorem ckm_33 : ckM 33 = true := by decide +kernel
set_option maxRecDepth 100000 in
theorem ckm_34 : ckM 34 = true := by decide +kernel
set_option maxRecDepth 100000 in
theorem ckm_35 : ckM 35 = true := by decide +kernel
set_option maxRecDepth 100000 in
theorem ckm_36 : ckM 36 = true := by decide +kernel
set_option maxRecDepth 100000 in
theorem ckm_37 : ckM 37 = true := by decide +kernel
