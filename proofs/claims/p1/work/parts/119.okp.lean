set_option maxRecDepth 20000 in
theorem obj_ok : Cond.instanceMethod objectInit ∈ TB ∧ Cond.code objectInit ⟨#[0xb1]⟩ 1 none ∈ TB := ⟨isW_ok (i := obW.1) (by decide +kernel), List.mem_filter.mpr ⟨List.mem_of_getElem? (i := obW.2) rfl, by decide +kernel⟩⟩
set_option maxRecDepth 20000 in
theorem mt_ok : mathOK := ⟨isW_ok (i := mtW.1) (by decide +kernel), ⟨isW_ok (i := mtW.2.1.1) (by decide +kernel), List.mem_filter.mpr ⟨List.mem_of_getElem? (i := mtW.2.1.2) rfl, by decide +kernel⟩⟩, ⟨isW_ok (i := mtW.2.2.1.1) (by decide +kernel), List.mem_filter.mpr ⟨List.mem_of_getElem? (i := mtW.2.2.1.2) rfl, by decide +kernel⟩⟩, ⟨isW_ok (i := mtW.2.2.2.1) (by decide +kernel), List.mem_filter.mpr ⟨List.mem_of_getElem? (i := mtW.2.2.2.2) rfl, by decide +kernel⟩⟩⟩
theorem ckc_0 : ckC 0 = true := by decide +kernel
theorem ckc_1 : ckC 1 = true := by decide +kernel
theorem ckc_2 : ckC 2 = true := by decide +kernel
theorem ckc_3 : ckC 3 = true := by decide +kernel
theorem ckc_4 : ckC 4 = true := by decide +kernel
theorem ckc_5 : ckC 5 = true := by decide +kernel
theorem ckc_6 : ckC 6 = true := by decide +kernel
theorem ckc_7 : ckC 7 = true := by decide +kernel
theorem ckc_8 : ckC 8 = true := by decide +kernel
theorem ckc_9 : ckC 9 = true := by decide +kernel
theorem ckc_10 : ckC 10 = true := by decide +kernel
theorem ckc_11 : ckC 11 = true := by decide +kernel
theorem ckc_12 : ckC 12 = true := by decide +kernel
theorem ac_ok : isW acW.1 (.arrayClass .int) = true ∧ isW acW.2.1 (.arrayClass .char) = true ∧ isW acW.2.2.1 (.arrayClass .boolean) = true ∧ isW acW.2.2.2 (.arrayClass .long) = true := by decide +kernel
theorem ckc_all : ∀ ci, ci < 13 → ckC ci = true := fun ci h => match ci, h with
  | 0, _ => ckc_0
  | 1, _ => ckc_1
  | 2, _ => ckc_2
  | 3, _ => ckc_3
  | 4, _ => ckc_4
  | 5, _ => ckc_5
  | 6, _ => ckc_6
  | 7, _ => ckc_7
  | 8, _ => ckc_8
  | 9, _ => ckc_9
  | 10, _ => ckc_10
  | 11, _ => ckc_11
  | 12, _ => ckc_12
  | k + 13, h => absurd h (by omega)
theorem ckm_p0 : ∀ k, k < 38 → ckM (0 + k) = true := fun k h => match k, h with
  | 0, _ => ckm_0
  | 1, _ => ckm_1
  | 2, _ => ckm_2
  | 3, _ => ckm_3
  | 4, _ => ckm_4
  | 5, _ => ckm_5
  | 6, _ => ckm_6
  | 7, _ => ckm_7
  | 8, _ => ckm_8
  | 9, _ => ckm_9
  | 10, _ => ckm_10
  | 11, _ => ckm_11
  | 12, _ => ckm_12
  | 13, _ => ckm_13
  | 14, _ => ckm_14
  | 15, _ => ckm_15
  | 16, _ => ckm_16
  | 17, _ => ckm_17
  | 18, _ => ckm_18
  | 19, _ => ckm_19
  | 20, _ => ckm_20
  | 21, _ => ckm_21
  | 22, _ => ckm_22
  | 23, _ => ckm_23
  | 24, _ => ckm_24
  | 25, _ => ckm_25
  | 26, _ => ckm_26
  | 27, _ => ckm_27
  | 28, _ => ckm_28
  | 29, _ => ckm_29
  | 30, _ => ckm_30
  | 31, _ => ckm_31
  | 32, _ => ckm_32
  | 33, _ => ckm_33
  | 34, _ => ckm_34
  | 35, _ => ckm_35
  | 36, _ => ckm_36
  | 37, _ => ckm_37
  | k + 38, h => absurd h (by omega)
theorem ckm_p1 : ∀ k, k < 38 → ckM (38 + k) = true := fun k h => match k, h with
  | 0, _ => ckm_38
  | 1, _ => ckm_39
  | 2, _ => ckm_40
  | 3, _ => ckm_41
  | 4, _ => ckm_42
  | 5, _ => ckm_43
  | 6, _ => ckm_44
  | 7, _ => ckm_45
  | 8, _ => ckm_46
  | 9, _ => ckm_47
  | 10, _ => ckm_48
  | 11, _ => ckm_49
  | 12, _ => ckm_50
  | 13, _ => ckm_51
  | 14, _ => ckm_52
  | 15, _ => ckm_53
  | 16, _ => ckm_54
  | 17, _ => ckm_55
  | 18, _ => ckm_56
  | 19, _ => ckm_57
  | 20, _ => ckm_58
  | 21, _ => ckm_59
  | 22, _ => ckm_60
  | 23, _ => ckm_61
  | 24, _ => ckm_62
  | 25, _ => ckm_63
  | 26, _ => ckm_64
  | 27, _ => ckm_65
  | 28, _ => ckm_66
  | 29, _ => ckm_67
  | 30, _ => ckm_68
  | 31, _ => ckm_69
  | 32, _ => ckm_70
  | 33, _ => ckm_71
  | 34, _ => ckm_72
  | 35, _ => ckm_73
  | 36, _ => ckm_74
  | 37, _ => ckm_75
  | k + 38, h => absurd h (by omega)
theorem ckm_p2 : ∀ k, k < 38 → ckM (76 + k) = true := fun k h => match k, h with
  | 0, _ => ckm_76
  | 1, _ => ckm_77
  | 2, _ => ckm_78
  | 3, _ => ckm_79
  | 4, _ => ckm_80
  | 5, _ => ckm_81
  | 6, _ => ckm_82
  | 7, _ => ckm_83
  | 8, _ => ckm_84
  | 9, _ => ckm_85
  | 10, _ => ckm_86
  | 11, _ => ckm_87
  | 12, _ => ckm_88
  | 13, _ => ckm_89
  | 14, _ => ckm_90
  | 15, _ => ckm_91
  | 16, _ => ckm_92
  | 17, _ => ckm_93
  | 18, _ => ckm_94
  | 19, _ => ckm_95
  | 20, _ => ckm_96
  | 21, _ => ckm_97
  | 22, _ => ckm_98
  | 23, _ => ckm_99
  | 24, _ => ckm_100
  | 25, _ => ckm_101
  | 26, _ => ckm_102
  | 27, _ => ckm_103
  | 28, _ => ckm_104
  | 29, _ => ckm_105
  | 30, _ => ckm_106
  | 31, _ => ckm_107
  | 32, _ => ckm_108
  | 33, _ => ckm_109
  | 34, _ => ckm_110
  | 35, _ => ckm_111
  | 36, _ => ckm_112
  | 37, _ => ckm_113
  | k + 38, h => absurd h (by omega)
theorem ckm_p3 : ∀ k, k < 38 → ckM (114 + k) = true := fun k h => match k, h with
  | 0, _ => ckm_114
  | 1, _ => ckm_115
  | 2, _ => ckm_116
  | 3, _ => ckm_117
  | 4, _ => ckm_118
  | 5, _ => ckm_119
  | 6, _ => ckm_120
  | 7, _ => ckm_121
  | 8, _ => ckm_122
  | 9, _ => ckm_123
  | 10, _ => ckm_124
  | 11, _ => ckm_125
  | 12, _ => ckm_126
  | 13, _ => ckm_127
  | 14, _ => ckm_128
  | 15, _ => ckm_129
  | 16, _ => ckm_130
  | 17, _ => ckm_131
  | 18, _ => ckm_132
  | 19, _ => ckm_133
  | 20, _ => ckm_134
  | 21, _ => ckm_135
  | 22, _ => ckm_136
  | 23, _ => ckm_137
  | 24, _ => ckm_138
  | 25, _ => ckm_139
  | 26, _ => ckm_140
  | 27, _ => ckm_141
  | 28, _ => ckm_142
  | 29, _ => ckm_143
  | 30, _ => ckm_144
  | 31, _ => ckm_145
  | 32, _ => ckm_146
  | 33, _ => ckm_147
  | 34, _ => ckm_148
  | 35, _ => ckm_149
  | 36, _ => ckm_150
  | 37, _ => ckm_151
  | k + 38, h => absurd h (by omega)
theorem ckm_p4 : ∀ k, k < 38 → ckM (152 + k) = true := fun k h => match k, h with
  | 0, _ => ckm_152
  | 1, _ => ckm_153
  | 2, _ => ckm_154
  | 3, _ => ckm_155
  | 4, _ => ckm_156
  | 5, _ => ckm_157
  | 6, _ => ckm_158
  | 7, _ => ckm_159
  | 8, _ => ckm_160
  | 9, _ => ckm_161
  | 10, _ => ckm_162
  | 11, _ => ckm_163
  | 12, _ => ckm_164
  | 13, _ => ckm_165
  | 14, _ => ckm_166
  | 15, _ => ckm_167
  | 16, _ => ckm_168
  | 17, _ => ckm_169
  | 18, _ => ckm_170
  | 19, _ => ckm_171
  | 20, _ => ckm_172
  | 21, _ => ckm_173
  | 22, _ => ckm_174
  | 23, _ => ckm_175
  | 24, _ => ckm_176
  | 25, _ => ckm_177
  | 26, _ => ckm_178
  | 27, _ => ckm_179
  | 28, _ => ckm_180
  | 29, _ => ckm_181
  | 30, _ => ckm_182
  | 31, _ => ckm_183
  | 32, _ => ckm_184
  | 33, _ => ckm_185
  | 34, _ => ckm_186
  | 35, _ => ckm_187
  | 36, _ => ckm_188
  | 37, _ => ckm_189
  | k + 38, h => absurd h (by omega)
theorem ckm_p5 : ∀ k, k < 33 → ckM (190 + k) = true := fun k h => match k, h with
  | 0, _ => ckm_190
  | 1, _ => ckm_191
  | 2, _ => ckm_192
  | 3, _ => ckm_193
  | 4, _ => ckm_194
  | 5, _ => ckm_195
  | 6, _ => ckm_196
  | 7, _ => ckm_197
  | 8, _ => ckm_198
  | 9, _ => ckm_199
  | 10, _ => ckm_200
  | 11, _ => ckm_201
  | 12, _ => ckm_202
  | 13, _ => ckm_203
  | 14, _ => ckm_204
  | 15, _ => ckm_205
  | 16, _ => ckm_206
  | 17, _ => ckm_207
  | 18, _ => ckm_208
  | 19, _ => ckm_209
  | 20, _ => ckm_210
  | 21, _ => ckm_211
  | 22, _ => ckm_212
  | 23, _ => ckm_213
  | 24, _ => ckm_214
  | 25, _ => ckm_215
  | 26, _ => ckm_216
  | 27, _ => ckm_217
  | 28, _ => ckm_218
  | 29, _ => ckm_219
  | 30, _ => ckm_220
  | 31, _ => ckm_221
  | 32, _ => ckm_222
  | k + 33, h => absurd h (by omega)
theorem ckm_all : ∀ mi, mi < nM → ckM mi = true := fun mi h => by
  have h : mi < 223 := h
  by_cases h0 : mi < 38
  · have := ckm_p0 (mi - 0) (by omega); rwa [show 0 + (mi - 0) = mi by omega] at this
  by_cases h1 : mi < 76
  · have := ckm_p1 (mi - 38) (by omega); rwa [show 38 + (mi - 38) = mi by omega] at this
  by_cases h2 : mi < 114
  · have := ckm_p2 (mi - 76) (by omega); rwa [show 76 + (mi - 76) = mi by omega] at this
  by_cases h3 : mi < 152
  · have := ckm_p3 (mi - 114) (by omega); rwa [show 114 + (mi - 114) = mi by omega] at this
  by_cases h4 : mi < 190
  · have := ckm_p4 (mi - 152) (by omega); rwa [show 152 + (mi - 152) = mi by omega] at this
  have := ckm_p5 (mi - 190) (by omega)
  rwa [show 190 + (mi - 190) = mi by omega] at this
theorem okP_all : okP xX xB TB xcl xNN (fun i => i < nM) := ⟨⟨fun ci C T N hc => ckC_ok (ckc_all ci (by have := (List.getElem?_eq_some_iff.mp hc).1; simpa [xcl] using this)) hc, isW_ok ac_ok.1, isW_ok ac_ok.2.1, isW_ok ac_ok.2.2.1, isW_ok ac_ok.2.2.2⟩, TB_good, fun mi h => ckM_ok (ckm_all mi h) obj_ok mt_ok⟩
