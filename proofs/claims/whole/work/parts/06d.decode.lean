/-! every instruction of the tables, decoded -/
def pm_dk (b : ByteArray) (x : Nat) (q : Nat × Instr × Nat × Option (List Bool)) : Bool := decide (decode b q.1 = .ok (q.2.1, q.2.2.1)) && (pm_il q.2.1 == 0 || q.2.2.1 == pm_il q.2.1) && pm_tok q.1 q.2.1 && (match q.2.2.2 with
  | none => true
  | some bs => bs.length == x)
theorem all_chunk {α : Type} {l : List α} {p : α → Bool} (a : Nat) (h1 : ((l.drop a).take 100).all p = true) (h2 : (l.drop (a + 100)).all p = true) : (l.drop a).all p = true := by
  rw [← List.take_append_drop 100 (l.drop a), List.all_append, h1, List.drop_drop, h2]
  rfl
theorem dk_0 : cd_0.all (pm_dk prog_2_method_2_code 1) = true := by decide +kernel
theorem dk_1 : cd_1.all (pm_dk prog_2_method_3_code 2) = true := by decide +kernel
theorem dk_2 : cd_2.all (pm_dk prog_2_method_4_code 3) = true := by decide +kernel
theorem dk_3 : cd_3.all (pm_dk prog_2_method_5_code 4) = true := by decide +kernel
theorem dk_4 : cd_4.all (pm_dk prog_2_method_6_code 6) = true := by decide +kernel
theorem dk_5 : cd_5.all (pm_dk prog_2_method_7_code 2) = true := by decide +kernel
theorem dk_6 : cd_6.all (pm_dk prog_2_method_8_code 3) = true := by decide +kernel
theorem dk_7 : cd_7.all (pm_dk prog_2_method_9_code 1) = true := by decide +kernel
theorem dk_8 : cd_8.all (pm_dk prog_2_method_10_code 2) = true := by decide +kernel
theorem dk_9 : cd_9.all (pm_dk prog_2_method_11_code 2) = true := by decide +kernel
theorem dk_10 : cd_10.all (pm_dk prog_2_method_12_code 6) = true := by decide +kernel
theorem dk_11 : cd_11.all (pm_dk prog_2_method_13_code 6) = true := by decide +kernel
theorem dk_12 : cd_12.all (pm_dk prog_2_method_14_code 2) = true := by decide +kernel
theorem dk_13 : cd_13.all (pm_dk prog_2_method_15_code 3) = true := by decide +kernel
theorem dk_14 : cd_14.all (pm_dk prog_2_method_16_code 3) = true := by decide +kernel
theorem dk_15 : cd_15.all (pm_dk prog_2_method_17_code 6) = true := by decide +kernel
theorem dk_16 : cd_16.all (pm_dk prog_2_method_18_code 5) = true := by decide +kernel
theorem dk_17 : cd_17.all (pm_dk prog_2_method_19_code 4) = true := by decide +kernel
theorem dk_18 : cd_18.all (pm_dk prog_2_method_20_code 2) = true := by decide +kernel
theorem dk_19 : cd_19.all (pm_dk prog_2_method_21_code 5) = true := by decide +kernel
theorem dk_20 : cd_20.all (pm_dk prog_2_method_22_code 4) = true := by decide +kernel
theorem dk_21 : cd_21.all (pm_dk prog_2_method_23_code 4) = true := by decide +kernel
theorem dk_22 : cd_22.all (pm_dk prog_2_method_24_code 5) = true := by decide +kernel
theorem dk_23 : cd_23.all (pm_dk prog_2_method_25_code 5) = true := by decide +kernel
theorem dk_24 : cd_24.all (pm_dk prog_2_method_26_code 4) = true := by decide +kernel
theorem dk_25 : cd_25.all (pm_dk prog_2_method_27_code 2) = true := by decide +kernel
theorem dk_26 : cd_26.all (pm_dk prog_2_method_28_code 2) = true := by decide +kernel
theorem dk_27 : cd_27.all (pm_dk prog_2_method_29_code 4) = true := by decide +kernel
theorem dk_28 : cd_28.all (pm_dk prog_2_method_30_code 4) = true := by decide +kernel
theorem dk_29 : cd_29.all (pm_dk prog_3_method_2_code 2) = true := by decide +kernel
theorem dk_30 : cd_30.all (pm_dk prog_3_method_3_code 8) = true := by decide +kernel
theorem dk_31 : cd_31.all (pm_dk prog_3_method_4_code 9) = true := by decide +kernel
theorem dk_32 : cd_32.all (pm_dk prog_3_method_5_code 2) = true := by decide +kernel
theorem dk_33 : cd_33.all (pm_dk prog_3_method_6_code 5) = true := by decide +kernel
theorem dk_34 : cd_34.all (pm_dk prog_3_method_7_code 2) = true := by decide +kernel
theorem dk_35 : cd_35.all (pm_dk prog_3_method_8_code 5) = true := by decide +kernel
theorem dk_36 : cd_36.all (pm_dk prog_3_method_9_code 2) = true := by decide +kernel
theorem dk_37 : cd_37.all (pm_dk prog_3_method_10_code 8) = true := by decide +kernel
theorem dk_38 : cd_38.all (pm_dk prog_3_method_11_code 3) = true := by decide +kernel
theorem dk_39 : cd_39.all (pm_dk prog_3_method_12_code 5) = true := by decide +kernel
theorem dk_40 : cd_40.all (pm_dk prog_3_method_13_code 2) = true := by decide +kernel
theorem dk_41 : cd_41.all (pm_dk prog_3_method_14_code 3) = true := by decide +kernel
theorem dk_42 : cd_42.all (pm_dk prog_3_method_15_code 3) = true := by decide +kernel
theorem dk_43 : cd_43.all (pm_dk prog_4_method_2_code 1) = true := by decide +kernel
theorem dk_44 : cd_44.all (pm_dk prog_4_method_3_code 2) = true := by decide +kernel
theorem dk_45 : cd_45.all (pm_dk prog_4_method_4_code 2) = true := by decide +kernel
theorem dk_46 : cd_46.all (pm_dk prog_4_method_5_code 3) = true := by decide +kernel
theorem dk_47 : cd_47.all (pm_dk prog_4_method_6_code 2) = true := by decide +kernel
theorem dk_48 : cd_48.all (pm_dk prog_4_method_7_code 2) = true := by decide +kernel
theorem dk_49 : cd_49.all (pm_dk prog_4_method_8_code 3) = true := by decide +kernel
theorem dk_50 : cd_50.all (pm_dk prog_4_method_9_code 1) = true := by decide +kernel
theorem dk_51 : cd_51.all (pm_dk prog_4_method_10_code 4) = true := by decide +kernel
theorem dk_52 : cd_52.all (pm_dk prog_4_method_11_code 3) = true := by decide +kernel
theorem dk_53 : cd_53.all (pm_dk prog_4_method_12_code 3) = true := by decide +kernel
theorem dk_54 : cd_54.all (pm_dk prog_4_method_13_code 4) = true := by decide +kernel
theorem dk_55 : cd_55.all (pm_dk prog_4_method_14_code 5) = true := by decide +kernel
theorem dk_56 : cd_56.all (pm_dk prog_4_method_15_code 6) = true := by decide +kernel
theorem dk_57 : cd_57.all (pm_dk prog_4_method_16_code 9) = true := by decide +kernel
theorem dk_58 : cd_58.all (pm_dk prog_4_method_17_code 5) = true := by decide +kernel
theorem dk_59 : cd_59.all (pm_dk prog_4_method_18_code 6) = true := by decide +kernel
theorem dk_60 : cd_60.all (pm_dk prog_4_method_19_code 5) = true := by decide +kernel
theorem dk_61 : cd_61.all (pm_dk prog_5_method_2_code 5) = true := by decide +kernel
theorem dk_62 : cd_62.all (pm_dk prog_5_method_3_code 2) = true := by decide +kernel
theorem dk_63 : cd_63.all (pm_dk prog_5_method_4_code 3) = true := by decide +kernel
theorem dk_64 : cd_64.all (pm_dk prog_6_method_2_code 5) = true := by decide +kernel
theorem dk_65 : cd_65.all (pm_dk prog_6_method_3_code 1) = true := by decide +kernel
theorem dk_66 : cd_66.all (pm_dk prog_6_method_4_code 3) = true := by decide +kernel
theorem dk_67 : cd_67.all (pm_dk prog_6_method_5_code 3) = true := by decide +kernel
theorem dk_68 : cd_68.all (pm_dk prog_6_method_6_code 1) = true := by decide +kernel
theorem dk_69 : cd_69.all (pm_dk prog_6_method_7_code 1) = true := by decide +kernel
theorem dk_70 : cd_70.all (pm_dk prog_6_method_8_code 6) = true := by decide +kernel
theorem dk_71 : cd_71.all (pm_dk prog_6_method_9_code 4) = true := by decide +kernel
theorem dk_72 : cd_72.all (pm_dk prog_6_method_10_code 4) = true := by decide +kernel
theorem dk_73 : cd_73.all (pm_dk prog_6_method_11_code 1) = true := by decide +kernel
theorem dk_74 : cd_74.all (pm_dk prog_6_method_12_code 4) = true := by decide +kernel
theorem dk_75 : cd_75.all (pm_dk prog_6_method_13_code 1) = true := by decide +kernel
theorem dk_76 : cd_76.all (pm_dk prog_6_method_14_code 1) = true := by decide +kernel
theorem dk_77 : cd_77.all (pm_dk prog_6_method_15_code 1) = true := by decide +kernel
theorem dk_78 : cd_78.all (pm_dk prog_6_method_16_code 4) = true := by decide +kernel
theorem dk_79 : cd_79.all (pm_dk prog_6_method_17_code 2) = true := by decide +kernel
theorem dk_80 : cd_80.all (pm_dk prog_6_method_18_code 2) = true := by decide +kernel
theorem dk_81 : cd_81.all (pm_dk prog_6_method_19_code 3) = true := by decide +kernel
theorem dk_82 : cd_82.all (pm_dk prog_6_method_20_code 2) = true := by decide +kernel
theorem dk_83 : cd_83.all (pm_dk prog_6_method_21_code 2) = true := by decide +kernel
theorem dk_84 : cd_84.all (pm_dk prog_7_method_2_code 4) = true := by decide +kernel
theorem dk_85 : cd_85.all (pm_dk prog_7_method_3_code 4) = true := by decide +kernel
theorem dk_86 : cd_86.all (pm_dk prog_7_method_4_code 4) = true := by decide +kernel
theorem dk_87 : cd_87.all (pm_dk prog_7_method_5_code 7) = true := by decide +kernel
theorem dk_88 : cd_88.all (pm_dk prog_7_method_6_code 4) = true := by decide +kernel
theorem dk_89 : cd_89.all (pm_dk prog_7_method_7_code 5) = true := by decide +kernel
theorem dk_90 : cd_90.all (pm_dk prog_7_method_8_code 4) = true := by decide +kernel
theorem dk_91 : cd_91.all (pm_dk prog_7_method_9_code 5) = true := by decide +kernel
theorem dk_92 : cd_92.all (pm_dk prog_8_method_2_code 6) = true := by decide +kernel
theorem dk_93 : cd_93.all (pm_dk prog_8_method_3_code 7) = true := by decide +kernel
theorem dk_94 : cd_94.all (pm_dk prog_8_method_4_code 4) = true := by decide +kernel
theorem dk_95 : cd_95.all (pm_dk prog_8_method_5_code 6) = true := by decide +kernel
theorem dk_96 : cd_96.all (pm_dk prog_8_method_6_code 7) = true := by decide +kernel
theorem dk_97 : cd_97.all (pm_dk prog_8_method_7_code 4) = true := by decide +kernel
theorem dk_98 : cd_98.all (pm_dk prog_8_method_8_code 8) = true := by decide +kernel
theorem dk_99 : cd_99.all (pm_dk prog_8_method_9_code 8) = true := by decide +kernel
theorem dk_100 : cd_100.all (pm_dk prog_8_method_10_code 4) = true := by decide +kernel
theorem dk_101 : cd_101.all (pm_dk prog_8_method_11_code 5) = true := by decide +kernel
theorem dk_102 : cd_102.all (pm_dk prog_8_method_12_code 6) = true := by decide +kernel
theorem dk_103 : cd_103.all (pm_dk prog_8_method_13_code 4) = true := by decide +kernel
theorem dk_104 : cd_104.all (pm_dk prog_9_method_2_code 2) = true := by decide +kernel
theorem dk_105 : cd_105.all (pm_dk prog_9_method_3_code 3) = true := by decide +kernel
theorem dk_106 : cd_106.all (pm_dk prog_9_method_4_code 4) = true := by decide +kernel
theorem dk_107 : cd_107.all (pm_dk prog_9_method_5_code 3) = true := by decide +kernel
theorem dk_108 : cd_108.all (pm_dk prog_1_method_2_code 6) = true := by decide +kernel
theorem dk_109 : cd_109.all (pm_dk prog_1_method_3_code 2) = true := by decide +kernel
theorem dk_110 : cd_110.all (pm_dk prog_1_method_4_code 7) = true := by decide +kernel
theorem dk_111 : cd_111.all (pm_dk prog_1_method_5_code 2) = true := by decide +kernel
theorem dk_112 : cd_112.all (pm_dk prog_1_method_6_code 4) = true := by decide +kernel
theorem dk_113 : cd_113.all (pm_dk prog_1_method_7_code 7) = true := by decide +kernel
theorem dk_114 : cd_114.all (pm_dk prog_1_method_8_code 5) = true := by decide +kernel
theorem dk_115 : cd_115.all (pm_dk prog_1_method_9_code 7) = true := by decide +kernel
theorem dk_116 : cd_116.all (pm_dk prog_1_method_10_code 5) = true := by decide +kernel
theorem dk_117 : cd_117.all (pm_dk prog_1_method_11_code 7) = true := by decide +kernel
theorem dk_118 : cd_118.all (pm_dk prog_1_method_12_code 5) = true := by decide +kernel
theorem dk_119 : cd_119.all (pm_dk prog_1_method_13_code 6) = true := by decide +kernel
theorem dk_120 : cd_120.all (pm_dk prog_1_method_14_code 7) = true := by decide +kernel
theorem dk_121 : cd_121.all (pm_dk prog_1_method_15_code 5) = true := by decide +kernel
theorem dk_122 : cd_122.all (pm_dk prog_1_method_16_code 10) = true := by decide +kernel
theorem dk_123 : cd_123.all (pm_dk prog_1_method_17_code 4) = true := by decide +kernel
theorem dk_124 : cd_124.all (pm_dk prog_1_method_18_code 6) = true := by decide +kernel
theorem dk_125 : cd_125.all (pm_dk prog_1_method_19_code 5) = true := by decide +kernel
theorem dk_126 : cd_126.all (pm_dk prog_1_method_20_code 6) = true := by decide +kernel
theorem dk_127 : cd_127.all (pm_dk prog_1_method_21_code 5) = true := by decide +kernel
theorem dk_128 : cd_128.all (pm_dk prog_1_method_22_code 4) = true := by decide +kernel
theorem dk_129 : cd_129.all (pm_dk prog_1_method_23_code 6) = true := by decide +kernel
theorem dk_130 : cd_130.all (pm_dk prog_1_method_24_code 5) = true := by decide +kernel
theorem dk_131 : cd_131.all (pm_dk prog_1_method_25_code 6) = true := by decide +kernel
theorem dk_132 : cd_132.all (pm_dk prog_1_method_26_code 6) = true := by decide +kernel
theorem dk_133 : cd_133.all (pm_dk prog_1_method_27_code 5) = true := by decide +kernel
theorem dk_134 : cd_134.all (pm_dk prog_1_method_28_code 6) = true := by decide +kernel
theorem dk_135 : cd_135.all (pm_dk prog_1_method_29_code 2) = true := by decide +kernel
theorem dk_136 : cd_136.all (pm_dk prog_1_method_30_code 2) = true := by decide +kernel
theorem dk_137 : cd_137.all (pm_dk prog_1_method_31_code 2) = true := by decide +kernel
theorem dk_138 : cd_138.all (pm_dk prog_1_method_32_code 2) = true := by decide +kernel
theorem dk_139 : cd_139.all (pm_dk prog_1_method_33_code 2) = true := by decide +kernel
theorem dk_140 : cd_140.all (pm_dk prog_1_method_34_code 2) = true := by decide +kernel
theorem dk_141 : cd_141.all (pm_dk prog_1_method_35_code 1) = true := by decide +kernel
theorem dk_142 : cd_142.all (pm_dk prog_1_method_36_code 1) = true := by decide +kernel
theorem dk_143 : cd_143.all (pm_dk prog_1_method_37_code 1) = true := by decide +kernel
theorem dk_144 : cd_144.all (pm_dk prog_1_method_38_code 3) = true := by decide +kernel
theorem dk_145 : cd_145.all (pm_dk prog_1_method_39_code 9) = true := by decide +kernel
theorem dk_146 : cd_146.all (pm_dk prog_1_method_40_code 5) = true := by decide +kernel
theorem dk_147 : cd_147.all (pm_dk prog_1_method_41_code 5) = true := by decide +kernel
theorem dk_148 : cd_148.all (pm_dk prog_1_method_42_code 7) = true := by decide +kernel
theorem dk_149 : cd_149.all (pm_dk prog_1_method_43_code 2) = true := by decide +kernel
theorem dk_150 : cd_150.all (pm_dk prog_1_method_44_code 4) = true := by decide +kernel
theorem dk_151 : cd_151.all (pm_dk prog_1_method_45_code 7) = true := by decide +kernel
theorem dk_152 : cd_152.all (pm_dk prog_1_method_46_code 7) = true := by decide +kernel
theorem dk_153 : cd_153.all (pm_dk prog_11_method_2_code 3) = true := by decide +kernel
theorem dk_154 : cd_154.all (pm_dk prog_11_method_3_code 8) = true := by decide +kernel
theorem dk_155 : cd_155.all (pm_dk prog_11_method_4_code 2) = true := by decide +kernel
theorem dk_156 : cd_156.all (pm_dk prog_11_method_5_code 2) = true := by decide +kernel
theorem dk_157 : cd_157.all (pm_dk prog_11_method_6_code 1) = true := by decide +kernel
theorem dk_158 : cd_158.all (pm_dk prog_11_method_7_code 1) = true := by decide +kernel
theorem dk_159 : cd_159.all (pm_dk prog_11_method_8_code 4) = true := by decide +kernel
theorem dk_160 : cd_160.all (pm_dk prog_11_method_9_code 8) = true := by decide +kernel
theorem dk_161_0 : ((cd_161.drop 0).take 100).all (pm_dk prog_11_method_10_code 2) = true := by decide +kernel
theorem dk_161_100 : ((cd_161.drop 100).take 100).all (pm_dk prog_11_method_10_code 2) = true := by decide +kernel
theorem dk_161_200 : (cd_161.drop 200).all (pm_dk prog_11_method_10_code 2) = true := by decide +kernel
theorem dk_161 : cd_161.all (pm_dk prog_11_method_10_code 2) = true := (all_chunk 0 dk_161_0 (all_chunk 100 dk_161_100 dk_161_200))
theorem dk_162_0 : ((cd_162.drop 0).take 100).all (pm_dk prog_11_method_11_code 4) = true := by decide +kernel
theorem dk_162_100 : (cd_162.drop 100).all (pm_dk prog_11_method_11_code 4) = true := by decide +kernel
theorem dk_162 : cd_162.all (pm_dk prog_11_method_11_code 4) = true := (all_chunk 0 dk_162_0 dk_162_100)
theorem dk_163 : cd_163.all (pm_dk prog_11_method_12_code 1) = true := by decide +kernel
theorem dk_164 : cd_164.all (pm_dk prog_11_method_13_code 3) = true := by decide +kernel
theorem dk_165 : cd_165.all (pm_dk prog_11_method_14_code 4) = true := by decide +kernel
theorem dk_166 : cd_166.all (pm_dk prog_11_method_15_code 4) = true := by decide +kernel
theorem dk_167 : cd_167.all (pm_dk prog_11_method_16_code 1) = true := by decide +kernel
theorem dk_168 : cd_168.all (pm_dk prog_11_method_17_code 3) = true := by decide +kernel
theorem dk_169 : cd_169.all (pm_dk prog_11_method_18_code 5) = true := by decide +kernel
theorem dk_170 : cd_170.all (pm_dk prog_11_method_19_code 7) = true := by decide +kernel
theorem dk_171 : cd_171.all (pm_dk prog_11_method_20_code 2) = true := by decide +kernel
theorem dk_172_0 : ((cd_172.drop 0).take 100).all (pm_dk prog_11_method_21_code 8) = true := by decide +kernel
theorem dk_172_100 : (cd_172.drop 100).all (pm_dk prog_11_method_21_code 8) = true := by decide +kernel
theorem dk_172 : cd_172.all (pm_dk prog_11_method_21_code 8) = true := (all_chunk 0 dk_172_0 dk_172_100)
theorem dk_173 : cd_173.all (pm_dk prog_11_method_22_code 3) = true := by decide +kernel
theorem dk_174 : cd_174.all (pm_dk prog_11_method_23_code 7) = true := by decide +kernel
theorem dk_175 : cd_175.all (pm_dk prog_11_method_24_code 3) = true := by decide +kernel
theorem dk_176 : cd_176.all (pm_dk prog_11_method_25_code 4) = true := by decide +kernel
theorem dk_177 : cd_177.all (pm_dk prog_11_method_26_code 3) = true := by decide +kernel
theorem dk_178 : cd_178.all (pm_dk prog_11_method_27_code 2) = true := by decide +kernel
theorem dk_179 : cd_179.all (pm_dk prog_11_method_28_code 1) = true := by decide +kernel
theorem dk_180 : cd_180.all (pm_dk prog_11_method_29_code 3) = true := by decide +kernel
theorem dk_181_0 : ((cd_181.drop 0).take 100).all (pm_dk prog_11_method_30_code 5) = true := by decide +kernel
theorem dk_181_100 : ((cd_181.drop 100).take 100).all (pm_dk prog_11_method_30_code 5) = true := by decide +kernel
theorem dk_181_200 : (cd_181.drop 200).all (pm_dk prog_11_method_30_code 5) = true := by decide +kernel
theorem dk_181 : cd_181.all (pm_dk prog_11_method_30_code 5) = true := (all_chunk 0 dk_181_0 (all_chunk 100 dk_181_100 dk_181_200))
theorem dk_182 : cd_182.all (pm_dk prog_11_method_31_code 3) = true := by decide +kernel
theorem dk_183_0 : ((cd_183.drop 0).take 100).all (pm_dk prog_11_method_32_code 4) = true := by decide +kernel
theorem dk_183_100 : (cd_183.drop 100).all (pm_dk prog_11_method_32_code 4) = true := by decide +kernel
theorem dk_183 : cd_183.all (pm_dk prog_11_method_32_code 4) = true := (all_chunk 0 dk_183_0 dk_183_100)
theorem dk_184 : cd_184.all (pm_dk prog_11_method_33_code 2) = true := by decide +kernel
theorem dk_185 : cd_185.all (pm_dk prog_11_method_34_code 2) = true := by decide +kernel
theorem dk_186 : cd_186.all (pm_dk prog_11_method_35_code 2) = true := by decide +kernel
theorem dk_187 : cd_187.all (pm_dk prog_11_method_36_code 2) = true := by decide +kernel
theorem dk_188 : cd_188.all (pm_dk prog_11_method_37_code 3) = true := by decide +kernel
theorem dk_189 : cd_189.all (pm_dk prog_11_method_38_code 4) = true := by decide +kernel
theorem dk_190 : cd_190.all (pm_dk prog_11_method_39_code 5) = true := by decide +kernel
theorem dk_191 : cd_191.all (pm_dk prog_11_method_40_code 2) = true := by decide +kernel
theorem dk_192 : cd_192.all (pm_dk prog_11_method_41_code 4) = true := by decide +kernel
theorem dk_193 : cd_193.all (pm_dk prog_11_method_42_code 5) = true := by decide +kernel
theorem dk_194 : cd_194.all (pm_dk prog_11_method_43_code 5) = true := by decide +kernel
theorem dk_195 : cd_195.all (pm_dk prog_11_method_44_code 5) = true := by decide +kernel
theorem dk_196 : cd_196.all (pm_dk prog_11_method_45_code 4) = true := by decide +kernel
theorem dk_197 : cd_197.all (pm_dk prog_11_method_46_code 5) = true := by decide +kernel
theorem dk_198 : cd_198.all (pm_dk prog_11_method_47_code 2) = true := by decide +kernel
theorem dk_199 : cd_199.all (pm_dk prog_11_method_48_code 4) = true := by decide +kernel
theorem dk_200 : cd_200.all (pm_dk prog_11_method_49_code 2) = true := by decide +kernel
theorem dk_201 : cd_201.all (pm_dk prog_11_method_50_code 2) = true := by decide +kernel
theorem dk_202 : cd_202.all (pm_dk prog_11_method_51_code 5) = true := by decide +kernel
theorem dk_203 : cd_203.all (pm_dk prog_11_method_52_code 2) = true := by decide +kernel
theorem dk_204 : cd_204.all (pm_dk prog_11_method_53_code 3) = true := by decide +kernel
theorem dk_205 : cd_205.all (pm_dk prog_11_method_54_code 1) = true := by decide +kernel
theorem dk_206 : cd_206.all (pm_dk prog_11_method_55_code 8) = true := by decide +kernel
theorem dk_207 : cd_207.all (pm_dk prog_11_method_56_code 4) = true := by decide +kernel
theorem dk_208 : cd_208.all (pm_dk prog_11_method_57_code 3) = true := by decide +kernel
theorem dk_209 : cd_209.all (pm_dk prog_11_method_58_code 3) = true := by decide +kernel
theorem dk_210 : cd_210.all (pm_dk prog_11_method_59_code 4) = true := by decide +kernel
theorem dk_211 : cd_211.all (pm_dk prog_11_method_60_code 2) = true := by decide +kernel
theorem dk_212 : cd_212.all (pm_dk prog_11_method_61_code 5) = true := by decide +kernel
theorem dk_213 : cd_213.all (pm_dk prog_11_method_62_code 6) = true := by decide +kernel
theorem dk_214 : cd_214.all (pm_dk prog_11_method_63_code 2) = true := by decide +kernel
theorem dk_215 : cd_215.all (pm_dk prog_11_method_64_code 3) = true := by decide +kernel
theorem dk_216 : cd_216.all (pm_dk prog_11_method_65_code 4) = true := by decide +kernel
theorem dk_217 : cd_217.all (pm_dk prog_11_method_66_code 5) = true := by decide +kernel
theorem dk_218 : cd_218.all (pm_dk prog_11_method_67_code 6) = true := by decide +kernel
theorem dk_219_0 : ((cd_219.drop 0).take 100).all (pm_dk prog_11_method_68_code 8) = true := by decide +kernel
theorem dk_219_100 : (cd_219.drop 100).all (pm_dk prog_11_method_68_code 8) = true := by decide +kernel
theorem dk_219 : cd_219.all (pm_dk prog_11_method_68_code 8) = true := (all_chunk 0 dk_219_0 dk_219_100)
theorem dk_220 : cd_220.all (pm_dk prog_11_method_69_code 4) = true := by decide +kernel
theorem dk_221 : cd_221.all (pm_dk prog_11_method_70_code 7) = true := by decide +kernel
theorem dk_222 : cd_222.all (pm_dk prog_11_method_71_code 5) = true := by decide +kernel
theorem dk_223 : cd_223.all (pm_dk prog_11_method_72_code 3) = true := by decide +kernel
theorem dk_224 : cd_224.all (pm_dk prog_11_method_73_code 6) = true := by decide +kernel
theorem dk_225 : cd_225.all (pm_dk prog_11_method_74_code 7) = true := by decide +kernel
theorem dk_226 : cd_226.all (pm_dk prog_11_method_75_code 5) = true := by decide +kernel
theorem dk_227 : cd_227.all (pm_dk prog_11_method_76_code 6) = true := by decide +kernel
theorem dk_228 : cd_228.all (pm_dk prog_11_method_77_code 5) = true := by decide +kernel
theorem dk_229 : cd_229.all (pm_dk prog_11_method_78_code 6) = true := by decide +kernel
theorem dk_230 : cd_230.all (pm_dk prog_11_method_79_code 4) = true := by decide +kernel
theorem dk_231 : cd_231.all (pm_dk prog_11_method_80_code 4) = true := by decide +kernel
theorem dk_232 : cd_232.all (pm_dk prog_11_method_81_code 8) = true := by decide +kernel
theorem dk_233 : cd_233.all (pm_dk prog_11_method_82_code 7) = true := by decide +kernel
theorem dk_234 : cd_234.all (pm_dk prog_11_method_83_code 6) = true := by decide +kernel
theorem dk_235 : cd_235.all (pm_dk prog_11_method_84_code 10) = true := by decide +kernel
theorem dk_236 : cd_236.all (pm_dk prog_11_method_85_code 6) = true := by decide +kernel
theorem dk_237 : cd_237.all (pm_dk prog_11_method_86_code 9) = true := by decide +kernel
theorem dk_238 : cd_238.all (pm_dk prog_11_method_87_code 2) = true := by decide +kernel
theorem dk_239 : cd_239.all (pm_dk prog_11_method_88_code 4) = true := by decide +kernel
theorem dk_240 : cd_240.all (pm_dk prog_11_method_89_code 3) = true := by decide +kernel
theorem dk_241 : cd_241.all (pm_dk prog_11_method_90_code 4) = true := by decide +kernel
theorem dk_242 : cd_242.all (pm_dk prog_11_method_91_code 4) = true := by decide +kernel
theorem dk_243 : cd_243.all (pm_dk prog_11_method_92_code 6) = true := by decide +kernel
theorem dk_244 : cd_244.all (pm_dk prog_11_method_93_code 5) = true := by decide +kernel
theorem dk_245 : cd_245.all (pm_dk prog_11_method_94_code 5) = true := by decide +kernel
theorem dk_246 : cd_246.all (pm_dk prog_11_method_95_code 11) = true := by decide +kernel
theorem dk_247 : cd_247.all (pm_dk prog_11_method_96_code 5) = true := by decide +kernel
theorem dk_248 : cd_248.all (pm_dk prog_11_method_97_code 9) = true := by decide +kernel
theorem dk_249 : cd_249.all (pm_dk prog_11_method_98_code 6) = true := by decide +kernel
theorem dk_250 : cd_250.all (pm_dk prog_11_method_99_code 7) = true := by decide +kernel
theorem dk_251_0 : ((cd_251.drop 0).take 100).all (pm_dk prog_11_method_100_code 7) = true := by decide +kernel
theorem dk_251_100 : (cd_251.drop 100).all (pm_dk prog_11_method_100_code 7) = true := by decide +kernel
theorem dk_251 : cd_251.all (pm_dk prog_11_method_100_code 7) = true := (all_chunk 0 dk_251_0 dk_251_100)
theorem dk_252 : cd_252.all (pm_dk prog_11_method_101_code 6) = true := by decide +kernel
theorem dk_253 : cd_253.all (pm_dk prog_11_method_102_code 6) = true := by decide +kernel
theorem dk_254 : cd_254.all (pm_dk prog_11_method_103_code 7) = true := by decide +kernel
theorem dk_255 : cd_255.all (pm_dk prog_11_method_104_code 10) = true := by decide +kernel
theorem dk_256 : cd_256.all (pm_dk prog_11_method_105_code 8) = true := by decide +kernel
theorem dk_257 : cd_257.all (pm_dk prog_11_method_106_code 2) = true := by decide +kernel
theorem dk_258 : cd_258.all (pm_dk prog_11_method_107_code 4) = true := by decide +kernel
theorem dk_259 : cd_259.all (pm_dk prog_11_method_108_code 5) = true := by decide +kernel
theorem dk_260 : cd_260.all (pm_dk prog_11_method_109_code 6) = true := by decide +kernel
theorem dk_261 : cd_261.all (pm_dk prog_11_method_110_code 2) = true := by decide +kernel
theorem dk_262 : cd_262.all (pm_dk prog_11_method_111_code 4) = true := by decide +kernel
theorem dk_263 : cd_263.all (pm_dk prog_11_method_112_code 6) = true := by decide +kernel
theorem dk_264 : cd_264.all (pm_dk prog_11_method_113_code 2) = true := by decide +kernel
theorem dk_265 : cd_265.all (pm_dk prog_11_method_114_code 3) = true := by decide +kernel
theorem dk_266 : cd_266.all (pm_dk prog_11_method_115_code 3) = true := by decide +kernel
theorem dk_267 : cd_267.all (pm_dk prog_12_method_49_code 1) = true := by decide +kernel
theorem dk_268 : cd_268.all (pm_dk prog_13_method_50_code 2) = true := by decide +kernel
theorem dk_269 : cd_269.all (pm_dk prog_15_method_54_code 1) = true := by decide +kernel
theorem dk_270 : cd_270.all (pm_dk prog_15_method_56_code 2) = true := by decide +kernel
theorem dk_271 : cd_271.all (pm_dk prog_15_method_152_code 1) = true := by decide +kernel
theorem dk_272 : cd_272.all (pm_dk prog_15_method_154_code 1) = true := by decide +kernel
theorem dk_273 : cd_273.all (pm_dk prog_15_method_155_code 2) = true := by decide +kernel
theorem dk_274 : cd_274.all (pm_dk prog_16_method_2_code 2) = true := by decide +kernel
theorem dk_275 : cd_275.all (pm_dk prog_19_method_11_code 3) = true := by decide +kernel
theorem dk_276_0 : ((cd_276.drop 0).take 100).all (pm_dk code 4) = true := by decide +kernel
theorem dk_276_100 : ((cd_276.drop 100).take 100).all (pm_dk code 4) = true := by decide +kernel
theorem dk_276_200 : ((cd_276.drop 200).take 100).all (pm_dk code 4) = true := by decide +kernel
theorem dk_276_300 : ((cd_276.drop 300).take 100).all (pm_dk code 4) = true := by decide +kernel
theorem dk_276_400 : ((cd_276.drop 400).take 100).all (pm_dk code 4) = true := by decide +kernel
theorem dk_276_500 : ((cd_276.drop 500).take 100).all (pm_dk code 4) = true := by decide +kernel
theorem dk_276_600 : ((cd_276.drop 600).take 100).all (pm_dk code 4) = true := by decide +kernel
theorem dk_276_700 : ((cd_276.drop 700).take 100).all (pm_dk code 4) = true := by decide +kernel
theorem dk_276_800 : ((cd_276.drop 800).take 100).all (pm_dk code 4) = true := by decide +kernel
theorem dk_276_900 : ((cd_276.drop 900).take 100).all (pm_dk code 4) = true := by decide +kernel
theorem dk_276_1000 : ((cd_276.drop 1000).take 100).all (pm_dk code 4) = true := by decide +kernel
theorem dk_276_1100 : (cd_276.drop 1100).all (pm_dk code 4) = true := by decide +kernel
theorem dk_276 : cd_276.all (pm_dk code 4) = true := (all_chunk 0 dk_276_0 (all_chunk 100 dk_276_100 (all_chunk 200 dk_276_200 (all_chunk 300 dk_276_300 (all_chunk 400 dk_276_400 (all_chunk 500 dk_276_500 (all_chunk 600 dk_276_600 (all_chunk 700 dk_276_700 (all_chunk 800 dk_276_800 (all_chunk 900 dk_276_900 (all_chunk 1000 dk_276_1000 dk_276_1100)))))))))))
