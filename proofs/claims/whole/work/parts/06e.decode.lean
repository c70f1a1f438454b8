def pm_dkm (m : Nat) : Prop := (pm_cd m).all (pm_dk (pm_by m) (pm_mxl m)) = true
theorem dkm_0 : ∀ i, i < 20 → pm_dkm (i + 0)
  | 0, _ => dk_0
  | 1, _ => dk_1
  | 2, _ => dk_2
  | 3, _ => dk_3
  | 4, _ => dk_4
  | 5, _ => dk_5
  | 6, _ => dk_6
  | 7, _ => dk_7
  | 8, _ => dk_8
  | 9, _ => dk_9
  | 10, _ => dk_10
  | 11, _ => dk_11
  | 12, _ => dk_12
  | 13, _ => dk_13
  | 14, _ => dk_14
  | 15, _ => dk_15
  | 16, _ => dk_16
  | 17, _ => dk_17
  | 18, _ => dk_18
  | 19, _ => dk_19
  | n + 20, h => absurd h (by omega)
theorem dkm_20 : ∀ i, i < 20 → pm_dkm (i + 20)
  | 0, _ => dk_20
  | 1, _ => dk_21
  | 2, _ => dk_22
  | 3, _ => dk_23
  | 4, _ => dk_24
  | 5, _ => dk_25
  | 6, _ => dk_26
  | 7, _ => dk_27
  | 8, _ => dk_28
  | 9, _ => dk_29
  | 10, _ => dk_30
  | 11, _ => dk_31
  | 12, _ => dk_32
  | 13, _ => dk_33
  | 14, _ => dk_34
  | 15, _ => dk_35
  | 16, _ => dk_36
  | 17, _ => dk_37
  | 18, _ => dk_38
  | 19, _ => dk_39
  | n + 20, h => absurd h (by omega)
theorem dkm_40 : ∀ i, i < 20 → pm_dkm (i + 40)
  | 0, _ => dk_40
  | 1, _ => dk_41
  | 2, _ => dk_42
  | 3, _ => dk_43
  | 4, _ => dk_44
  | 5, _ => dk_45
  | 6, _ => dk_46
  | 7, _ => dk_47
  | 8, _ => dk_48
  | 9, _ => dk_49
  | 10, _ => dk_50
  | 11, _ => dk_51
  | 12, _ => dk_52
  | 13, _ => dk_53
  | 14, _ => dk_54
  | 15, _ => dk_55
  | 16, _ => dk_56
  | 17, _ => dk_57
  | 18, _ => dk_58
  | 19, _ => dk_59
  | n + 20, h => absurd h (by omega)
theorem dkm_60 : ∀ i, i < 20 → pm_dkm (i + 60)
  | 0, _ => dk_60
  | 1, _ => dk_61
  | 2, _ => dk_62
  | 3, _ => dk_63
  | 4, _ => dk_64
  | 5, _ => dk_65
  | 6, _ => dk_66
  | 7, _ => dk_67
  | 8, _ => dk_68
  | 9, _ => dk_69
  | 10, _ => dk_70
  | 11, _ => dk_71
  | 12, _ => dk_72
  | 13, _ => dk_73
  | 14, _ => dk_74
  | 15, _ => dk_75
  | 16, _ => dk_76
  | 17, _ => dk_77
  | 18, _ => dk_78
  | 19, _ => dk_79
  | n + 20, h => absurd h (by omega)
theorem dkm_80 : ∀ i, i < 20 → pm_dkm (i + 80)
  | 0, _ => dk_80
  | 1, _ => dk_81
  | 2, _ => dk_82
  | 3, _ => dk_83
  | 4, _ => dk_84
  | 5, _ => dk_85
  | 6, _ => dk_86
  | 7, _ => dk_87
  | 8, _ => dk_88
  | 9, _ => dk_89
  | 10, _ => dk_90
  | 11, _ => dk_91
  | 12, _ => dk_92
  | 13, _ => dk_93
  | 14, _ => dk_94
  | 15, _ => dk_95
  | 16, _ => dk_96
  | 17, _ => dk_97
  | 18, _ => dk_98
  | 19, _ => dk_99
  | n + 20, h => absurd h (by omega)
theorem dkm_100 : ∀ i, i < 20 → pm_dkm (i + 100)
  | 0, _ => dk_100
  | 1, _ => dk_101
  | 2, _ => dk_102
  | 3, _ => dk_103
  | 4, _ => dk_104
  | 5, _ => dk_105
  | 6, _ => dk_106
  | 7, _ => dk_107
  | 8, _ => dk_108
  | 9, _ => dk_109
  | 10, _ => dk_110
  | 11, _ => dk_111
  | 12, _ => dk_112
  | 13, _ => dk_113
  | 14, _ => dk_114
  | 15, _ => dk_115
  | 16, _ => dk_116
  | 17, _ => dk_117
  | 18, _ => dk_118
  | 19, _ => dk_119
  | n + 20, h => absurd h (by omega)
theorem dkm_120 : ∀ i, i < 20 → pm_dkm (i + 120)
  | 0, _ => dk_120
  | 1, _ => dk_121
  | 2, _ => dk_122
  | 3, _ => dk_123
  | 4, _ => dk_124
  | 5, _ => dk_125
  | 6, _ => dk_126
  | 7, _ => dk_127
  | 8, _ => dk_128
  | 9, _ => dk_129
  | 10, _ => dk_130
  | 11, _ => dk_131
  | 12, _ => dk_132
  | 13, _ => dk_133
  | 14, _ => dk_134
  | 15, _ => dk_135
  | 16, _ => dk_136
  | 17, _ => dk_137
  | 18, _ => dk_138
  | 19, _ => dk_139
  | n + 20, h => absurd h (by omega)
theorem dkm_140 : ∀ i, i < 20 → pm_dkm (i + 140)
  | 0, _ => dk_140
  | 1, _ => dk_141
  | 2, _ => dk_142
  | 3, _ => dk_143
  | 4, _ => dk_144
  | 5, _ => dk_145
  | 6, _ => dk_146
  | 7, _ => dk_147
  | 8, _ => dk_148
  | 9, _ => dk_149
  | 10, _ => dk_150
  | 11, _ => dk_151
  | 12, _ => dk_152
  | 13, _ => dk_153
  | 14, _ => dk_154
  | 15, _ => dk_155
  | 16, _ => dk_156
  | 17, _ => dk_157
  | 18, _ => dk_158
  | 19, _ => dk_159
  | n + 20, h => absurd h (by omega)
theorem dkm_160 : ∀ i, i < 20 → pm_dkm (i + 160)
  | 0, _ => dk_160
  | 1, _ => dk_161
  | 2, _ => dk_162
  | 3, _ => dk_163
  | 4, _ => dk_164
  | 5, _ => dk_165
  | 6, _ => dk_166
  | 7, _ => dk_167
  | 8, _ => dk_168
  | 9, _ => dk_169
  | 10, _ => dk_170
  | 11, _ => dk_171
  | 12, _ => dk_172
  | 13, _ => dk_173
  | 14, _ => dk_174
  | 15, _ => dk_175
  | 16, _ => dk_176
  | 17, _ => dk_177
  | 18, _ => dk_178
  | 19, _ => dk_179
  | n + 20, h => absurd h (by omega)
theorem dkm_180 : ∀ i, i < 20 → pm_dkm (i + 180)
  | 0, _ => dk_180
  | 1, _ => dk_181
  | 2, _ => dk_182
  | 3, _ => dk_183
  | 4, _ => dk_184
  | 5, _ => dk_185
  | 6, _ => dk_186
  | 7, _ => dk_187
  | 8, _ => dk_188
  | 9, _ => dk_189
  | 10, _ => dk_190
  | 11, _ => dk_191
  | 12, _ => dk_192
  | 13, _ => dk_193
  | 14, _ => dk_194
  | 15, _ => dk_195
  | 16, _ => dk_196
  | 17, _ => dk_197
  | 18, _ => dk_198
  | 19, _ => dk_199
  | n + 20, h => absurd h (by omega)
theorem dkm_200 : ∀ i, i < 20 → pm_dkm (i + 200)
  | 0, _ => dk_200
  | 1, _ => dk_201
  | 2, _ => dk_202
  | 3, _ => dk_203
  | 4, _ => dk_204
  | 5, _ => dk_205
  | 6, _ => dk_206
  | 7, _ => dk_207
  | 8, _ => dk_208
  | 9, _ => dk_209
  | 10, _ => dk_210
  | 11, _ => dk_211
  | 12, _ => dk_212
  | 13, _ => dk_213
  | 14, _ => dk_214
  | 15, _ => dk_215
  | 16, _ => dk_216
  | 17, _ => dk_217
  | 18, _ => dk_218
  | 19, _ => dk_219
  | n + 20, h => absurd h (by omega)
theorem dkm_220 : ∀ i, i < 20 → pm_dkm (i + 220)
  | 0, _ => dk_220
  | 1, _ => dk_221
  | 2, _ => dk_222
  | 3, _ => dk_223
  | 4, _ => dk_224
  | 5, _ => dk_225
  | 6, _ => dk_226
  | 7, _ => dk_227
  | 8, _ => dk_228
  | 9, _ => dk_229
  | 10, _ => dk_230
  | 11, _ => dk_231
  | 12, _ => dk_232
  | 13, _ => dk_233
  | 14, _ => dk_234
  | 15, _ => dk_235
  | 16, _ => dk_236
  | 17, _ => dk_237
  | 18, _ => dk_238
  | 19, _ => dk_239
  | n + 20, h => absurd h (by omega)
theorem dkm_240 : ∀ i, i < 20 → pm_dkm (i + 240)
  | 0, _ => dk_240
  | 1, _ => dk_241
  | 2, _ => dk_242
  | 3, _ => dk_243
  | 4, _ => dk_244
  | 5, _ => dk_245
  | 6, _ => dk_246
  | 7, _ => dk_247
  | 8, _ => dk_248
  | 9, _ => dk_249
  | 10, _ => dk_250
  | 11, _ => dk_251
  | 12, _ => dk_252
  | 13, _ => dk_253
  | 14, _ => dk_254
  | 15, _ => dk_255
  | 16, _ => dk_256
  | 17, _ => dk_257
  | 18, _ => dk_258
  | 19, _ => dk_259
  | n + 20, h => absurd h (by omega)
theorem dkm_260 : ∀ i, i < 17 → pm_dkm (i + 260)
  | 0, _ => dk_260
  | 1, _ => dk_261
  | 2, _ => dk_262
  | 3, _ => dk_263
  | 4, _ => dk_264
  | 5, _ => dk_265
  | 6, _ => dk_266
  | 7, _ => dk_267
  | 8, _ => dk_268
  | 9, _ => dk_269
  | 10, _ => dk_270
  | 11, _ => dk_271
  | 12, _ => dk_272
  | 13, _ => dk_273
  | 14, _ => dk_274
  | 15, _ => dk_275
  | 16, _ => dk_276
  | n + 17, h => absurd h (by omega)
theorem dkm_all (m : Nat) : pm_dkm m := by
  by_cases hm : m < 277
  · by_cases h0 : 0 ≤ m ∧ m < 20
    · have := dkm_0 (m - 0) (by omega)
      rw [Nat.sub_add_cancel h0.1] at this
      exact this
    by_cases h20 : 20 ≤ m ∧ m < 40
    · have := dkm_20 (m - 20) (by omega)
      rw [Nat.sub_add_cancel h20.1] at this
      exact this
    by_cases h40 : 40 ≤ m ∧ m < 60
    · have := dkm_40 (m - 40) (by omega)
      rw [Nat.sub_add_cancel h40.1] at this
      exact this
    by_cases h60 : 60 ≤ m ∧ m < 80
    · have := dkm_60 (m - 60) (by omega)
      rw [Nat.sub_add_cancel h60.1] at this
      exact this
    by_cases h80 : 80 ≤ m ∧ m < 100
    · have := dkm_80 (m - 80) (by omega)
      rw [Nat.sub_add_cancel h80.1] at this
      exact this
    by_cases h100 : 100 ≤ m ∧ m < 120
    · have := dkm_100 (m - 100) (by omega)
      rw [Nat.sub_add_cancel h100.1] at this
      exact this
    by_cases h120 : 120 ≤ m ∧ m < 140
    · have := dkm_120 (m - 120) (by omega)
      rw [Nat.sub_add_cancel h120.1] at this
      exact this
    by_cases h140 : 140 ≤ m ∧ m < 160
    · have := dkm_140 (m - 140) (by omega)
      rw [Nat.sub_add_cancel h140.1] at this
      exact this
    by_cases h160 : 160 ≤ m ∧ m < 180
    · have := dkm_160 (m - 160) (by omega)
      rw [Nat.sub_add_cancel h160.1] at this
      exact this
    by_cases h180 : 180 ≤ m ∧ m < 200
    · have := dkm_180 (m - 180) (by omega)
      rw [Nat.sub_add_cancel h180.1] at this
      exact this
    by_cases h200 : 200 ≤ m ∧ m < 220
    · have := dkm_200 (m - 200) (by omega)
      rw [Nat.sub_add_cancel h200.1] at this
      exact this
    by_cases h220 : 220 ≤ m ∧ m < 240
    · have := dkm_220 (m - 220) (by omega)
      rw [Nat.sub_add_cancel h220.1] at this
      exact this
    by_cases h240 : 240 ≤ m ∧ m < 260
    · have := dkm_240 (m - 240) (by omega)
      rw [Nat.sub_add_cancel h240.1] at this
      exact this
    by_cases h260 : 260 ≤ m ∧ m < 280
    · have := dkm_260 (m - 260) (by omega)
      rw [Nat.sub_add_cancel h260.1] at this
      exact this
    omega
  · have e1 : pm_cd m = [] := by
      have h0 : Nat.blt m 277 = false := by
        cases h : Nat.blt m 277 with
        | false => rfl
        | true => exact absurd (Nat.le_of_ble_eq_true h) (by omega)
      unfold pm_cd pm_M
      rw [h0]
      rfl
    unfold pm_dkm
    rw [e1]
    rfl
theorem tf_dk {m pc : Nat} {ins : Instr} {n : Nat} {kp : Option (List Bool)} (h : pm_fetch m pc = some (ins, n, kp)) : pm_dk (pm_by m) (pm_mxl m) (pc, ins, n, kp) = true := List.all_eq_true.mp (dkm_all m) _ (pm_lookup_mem (by rw [← pm_lk_eq]; exact h))
theorem tf_dec {m pc : Nat} {ins : Instr} {n : Nat} {kp : Option (List Bool)} (h : pm_fetch m pc = some (ins, n, kp)) : decode (pm_by m) pc = .ok (ins, n) ∧ (pm_il ins = 0 ∨ n = pm_il ins) ∧ ∀ bs, kp = some bs → bs.length = pm_mxl m := by
  have hk := tf_dk h
  unfold pm_dk at hk
  simp only [Bool.and_eq_true, Bool.or_eq_true, decide_eq_true_eq, beq_iff_eq] at hk
  obtain ⟨⟨⟨h1, h2⟩, h3⟩, h4⟩ := hk
  refine ⟨h1, h2, fun bs e => ?_⟩
  subst e
  simpa using h4
theorem tf_tok {m pc : Nat} {ins : Instr} {n : Nat} {kp : Option (List Bool)} (h : pm_fetch m pc = some (ins, n, kp)) : pm_tok pc ins = true := by
  have hk := tf_dk h
  unfold pm_dk at hk
  simp only [Bool.and_eq_true] at hk
  exact hk.1.2
