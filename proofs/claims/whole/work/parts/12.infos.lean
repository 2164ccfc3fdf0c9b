theorem a_cd0 {y : MethodName} {I : a_I} (h : i_hh I = []) (k : Cond.code y (i_cc I) (i_nL I) (i_ret I) ∈ a_GT) : a_cd y I ∈ a_GT := by
  unfold a_cd; rw [if_pos h]; exact k
theorem a_cdW {y : MethodName} {I : a_I} (h : i_hh I ≠ []) (k : Cond.codeWith y (i_cc I) (i_nL I) (i_ret I) (i_hh I) ∈ a_GT) : a_cd y I ∈ a_GT := by
  unfold a_cd; rw [if_neg h]; exact k
theorem uws_0 : ∀ w ∈ u_ws RX0 TX0 3, w ∈ a_GT := by
  intro w hw
  obtain ⟨k, hk, rfl⟩ := List.mem_map.mp hw
  have hk2 := List.mem_range.mp hk
  rcases (show k = 0 ∨ k = 1 ∨ k = 2 by omega) with rfl | rfl | rfl
  · exact k_295
  · exact k_297
  · exact k_299
theorem uws_1 : ∀ w ∈ u_ws RX1 TX1 8, w ∈ a_GT := by
  intro w hw
  obtain ⟨k, hk, rfl⟩ := List.mem_map.mp hw
  have hk2 := List.mem_range.mp hk
  rcases (show k = 0 ∨ k = 1 ∨ k = 2 ∨ k = 3 ∨ k = 4 ∨ k = 5 ∨ k = 6 ∨ k = 7 by omega) with rfl | rfl | rfl | rfl | rfl | rfl | rfl | rfl
  · exact k_164
  · exact k_166
  · exact k_168
  · exact k_170
  · exact k_172
  · exact k_174
  · exact k_176
  · exact k_178
theorem uws_2 : ∀ w ∈ u_ws RX2 TX2 6, w ∈ a_GT := by
  intro w hw
  obtain ⟨k, hk, rfl⟩ := List.mem_map.mp hw
  have hk2 := List.mem_range.mp hk
  rcases (show k = 0 ∨ k = 1 ∨ k = 2 ∨ k = 3 ∨ k = 4 ∨ k = 5 by omega) with rfl | rfl | rfl | rfl | rfl | rfl
  · exact k_97
  · exact k_99
  · exact k_101
  · exact k_103
  · exact k_105
  · exact k_107
theorem uws_3 : ∀ w ∈ u_ws RX3 TX3 3, w ∈ a_GT := by
  intro w hw
  obtain ⟨k, hk, rfl⟩ := List.mem_map.mp hw
  have hk2 := List.mem_range.mp hk
  rcases (show k = 0 ∨ k = 1 ∨ k = 2 by omega) with rfl | rfl | rfl
  · exact k_123
  · exact k_125
  · exact k_127
theorem uws_4 : ∀ w ∈ u_ws RX4 TX4 2, w ∈ a_GT := by
  intro w hw
  obtain ⟨k, hk, rfl⟩ := List.mem_map.mp hw
  have hk2 := List.mem_range.mp hk
  rcases (show k = 0 ∨ k = 1 by omega) with rfl | rfl
  · exact k_344
  · exact k_346
theorem uws_5 : ∀ w ∈ u_ws RX5 TX5 9, w ∈ a_GT := by
  intro w hw
  obtain ⟨k, hk, rfl⟩ := List.mem_map.mp hw
  have hk2 := List.mem_range.mp hk
  rcases (show k = 0 ∨ k = 1 ∨ k = 2 ∨ k = 3 ∨ k = 4 ∨ k = 5 ∨ k = 6 ∨ k = 7 ∨ k = 8 by omega) with rfl | rfl | rfl | rfl | rfl | rfl | rfl | rfl | rfl
  · exact k_263
  · exact k_265
  · exact k_267
  · exact k_269
  · exact k_271
  · exact k_273
  · exact k_275
  · exact k_277
  · exact k_279
theorem uws_6 : ∀ w ∈ u_ws RX6 TX6 6, w ∈ a_GT := by
  intro w hw
  obtain ⟨k, hk, rfl⟩ := List.mem_map.mp hw
  have hk2 := List.mem_range.mp hk
  rcases (show k = 0 ∨ k = 1 ∨ k = 2 ∨ k = 3 ∨ k = 4 ∨ k = 5 by omega) with rfl | rfl | rfl | rfl | rfl | rfl
  · exact k_198
  · exact k_200
  · exact k_202
  · exact k_204
  · exact k_206
  · exact k_208
theorem uws_7 : ∀ w ∈ u_ws RX7 TX7 7, w ∈ a_GT := by
  intro w hw
  obtain ⟨k, hk, rfl⟩ := List.mem_map.mp hw
  have hk2 := List.mem_range.mp hk
  rcases (show k = 0 ∨ k = 1 ∨ k = 2 ∨ k = 3 ∨ k = 4 ∨ k = 5 ∨ k = 6 by omega) with rfl | rfl | rfl | rfl | rfl | rfl | rfl
  · exact k_318
  · exact k_320
  · exact k_322
  · exact k_324
  · exact k_326
  · exact k_328
  · exact k_330
theorem uws_8 : ∀ w ∈ u_ws RX8 TX8 5, w ∈ a_GT := by
  intro w hw
  obtain ⟨k, hk, rfl⟩ := List.mem_map.mp hw
  have hk2 := List.mem_range.mp hk
  rcases (show k = 0 ∨ k = 1 ∨ k = 2 ∨ k = 3 ∨ k = 4 by omega) with rfl | rfl | rfl | rfl | rfl
  · exact k_65
  · exact k_67
  · exact k_69
  · exact k_71
  · exact k_73
theorem uws_9 : ∀ w ∈ u_ws RX9 TX9 5, w ∈ a_GT := by
  intro w hw
  obtain ⟨k, hk, rfl⟩ := List.mem_map.mp hw
  have hk2 := List.mem_range.mp hk
  rcases (show k = 0 ∨ k = 1 ∨ k = 2 ∨ k = 3 ∨ k = 4 by omega) with rfl | rfl | rfl | rfl | rfl
  · exact k_354
  · exact k_356
  · exact k_358
  · exact k_360
  · exact k_362
theorem uws_10 : ∀ w ∈ u_ws RX10 TX10 20, w ∈ a_GT := by
  intro w hw
  obtain ⟨k, hk, rfl⟩ := List.mem_map.mp hw
  have hk2 := List.mem_range.mp hk
  rcases (show k = 0 ∨ k = 1 ∨ k = 2 ∨ k = 3 ∨ k = 4 ∨ k = 5 ∨ k = 6 ∨ k = 7 ∨ k = 8 ∨ k = 9 ∨ k = 10 ∨ k = 11 ∨ k = 12 ∨ k = 13 ∨ k = 14 ∨ k = 15 ∨ k = 16 ∨ k = 17 ∨ k = 18 ∨ k = 19 by omega) with rfl | rfl | rfl | rfl | rfl | rfl | rfl | rfl | rfl | rfl | rfl | rfl | rfl | rfl | rfl | rfl | rfl | rfl | rfl | rfl
  · exact k_1211
  · exact k_1213
  · exact k_1215
  · exact k_1217
  · exact k_1219
  · exact k_1221
  · exact k_1223
  · exact k_1225
  · exact k_1227
  · exact k_1229
  · exact k_1231
  · exact k_1233
  · exact k_1235
  · exact k_1237
  · exact k_1239
  · exact k_1241
  · exact k_1243
  · exact k_1245
  · exact k_1247
  · exact k_1249
theorem fl_X9_10 : a_FL RX9 10 9 0 := ⟨(RX9, TX9, 5), rfl, by decide, k_349, uws_9, rfl⟩
theorem fl_X9_16 : a_FL RX9 16 9 1 := ⟨(RX9, TX9, 5), rfl, by decide, k_350, uws_9, rfl⟩
theorem fl_X9_22 : a_FL RX9 22 9 2 := ⟨(RX9, TX9, 5), rfl, by decide, k_351, uws_9, rfl⟩
theorem fl_X9_29 : a_FL RX9 29 9 3 := ⟨(RX9, TX9, 5), rfl, by decide, k_352, uws_9, rfl⟩
theorem fl_X9_36 : a_FL RX9 36 9 4 := ⟨(RX9, TX9, 5), rfl, by decide, k_353, uws_9, rfl⟩
theorem fl_X9_40 : a_FL RX9 40 7 0 := ⟨(RX7, TX7, 7), rfl, by decide, k_308, uws_7, rfl⟩
theorem fl_X9_64 : a_FL RX9 64 7 1 := ⟨(RX7, TX7, 7), rfl, by decide, k_311, uws_7, rfl⟩
theorem fl_X9_77 : a_FL RX9 77 5 0 := ⟨(RX5, TX5, 9), rfl, by decide, k_236, uws_5, rfl⟩
theorem fl_X9_81 : a_FL RX9 81 8 0 := ⟨(RX8, TX8, 5), rfl, by decide, k_52, uws_8, rfl⟩
theorem fl_X9_86 : a_FL RX9 86 7 2 := ⟨(RX7, TX7, 7), rfl, by decide, k_313, uws_7, rfl⟩
theorem fl_X9_89 : a_FL RX9 89 5 2 := ⟨(RX5, TX5, 9), rfl, by decide, k_244, uws_5, rfl⟩
theorem fl_X9_93 : a_FL RX9 93 3 0 := ⟨(RX3, TX3, 3), rfl, by decide, k_117, uws_3, rfl⟩
theorem fl_X9_96 : a_FL RX9 96 5 3 := ⟨(RX5, TX5, 9), rfl, by decide, k_249, uws_5, rfl⟩
theorem fl_X9_100 : a_FL RX9 100 1 0 := ⟨(RX1, TX1, 8), rfl, by decide, k_139, uws_1, rfl⟩
theorem fl_X9_103 : a_FL RX9 103 5 1 := ⟨(RX5, TX5, 9), rfl, by decide, k_240, uws_5, rfl⟩
theorem fl_X9_107 : a_FL RX9 107 2 0 := ⟨(RX2, TX2, 6), rfl, by decide, k_85, uws_2, rfl⟩
theorem fl_X9_110 : a_FL RX9 110 5 6 := ⟨(RX5, TX5, 9), rfl, by decide, k_258, uws_5, rfl⟩
theorem fl_X9_113 : a_FL RX9 113 5 5 := ⟨(RX5, TX5, 9), rfl, by decide, k_254, uws_5, rfl⟩
theorem fl_X9_125 : a_FL RX9 125 5 7 := ⟨(RX5, TX5, 9), rfl, by decide, k_260, uws_5, rfl⟩
theorem fl_X9_128 : a_FL RX9 128 5 8 := ⟨(RX5, TX5, 9), rfl, by decide, k_262, uws_5, rfl⟩
theorem fl_X9_136 : a_FL RX9 136 5 4 := ⟨(RX5, TX5, 9), rfl, by decide, k_252, uws_5, rfl⟩
theorem fl_X9_145 : a_FL RX9 145 8 1 := ⟨(RX8, TX8, 5), rfl, by decide, k_56, uws_8, rfl⟩
theorem fl_X9_148 : a_FL RX9 148 8 2 := ⟨(RX8, TX8, 5), rfl, by decide, k_58, uws_8, rfl⟩
theorem fl_X9_154 : a_FL RX9 154 8 4 := ⟨(RX8, TX8, 5), rfl, by decide, k_64, uws_8, rfl⟩
theorem fl_X9_157 : a_FL RX9 157 6 2 := ⟨(RX6, TX6, 6), rfl, by decide, k_192, uws_6, rfl⟩
theorem fl_X9_160 : a_FL RX9 160 8 3 := ⟨(RX8, TX8, 5), rfl, by decide, k_61, uws_8, rfl⟩
theorem fl_X9_167 : a_FL RX9 167 6 0 := ⟨(RX6, TX6, 6), rfl, by decide, k_188, uws_6, rfl⟩
theorem fl_X9_170 : a_FL RX9 170 6 1 := ⟨(RX6, TX6, 6), rfl, by decide, k_190, uws_6, rfl⟩
theorem fl_X9_219 : a_FL RX9 219 2 1 := ⟨(RX2, TX2, 6), rfl, by decide, k_88, uws_2, rfl⟩
theorem fl_X9_222 : a_FL RX9 222 2 2 := ⟨(RX2, TX2, 6), rfl, by decide, k_91, uws_2, rfl⟩
theorem fl_X9_225 : a_FL RX9 225 2 3 := ⟨(RX2, TX2, 6), rfl, by decide, k_94, uws_2, rfl⟩
theorem fl_X9_251 : a_FL RX9 251 3 1 := ⟨(RX3, TX3, 3), rfl, by decide, k_121, uws_3, rfl⟩
theorem fl_X9_257 : a_FL RX9 257 6 3 := ⟨(RX6, TX6, 6), rfl, by decide, k_195, uws_6, rfl⟩
theorem fl_X9_268 : a_FL RX9 268 1 1 := ⟨(RX1, TX1, 8), rfl, by decide, k_144, uws_1, rfl⟩
theorem fl_X9_271 : a_FL RX9 271 1 2 := ⟨(RX1, TX1, 8), rfl, by decide, k_146, uws_1, rfl⟩
theorem fl_X9_274 : a_FL RX9 274 1 3 := ⟨(RX1, TX1, 8), rfl, by decide, k_150, uws_1, rfl⟩
theorem fl_X9_277 : a_FL RX9 277 1 4 := ⟨(RX1, TX1, 8), rfl, by decide, k_154, uws_1, rfl⟩
theorem fl_X9_280 : a_FL RX9 280 1 5 := ⟨(RX1, TX1, 8), rfl, by decide, k_158, uws_1, rfl⟩
theorem fl_X9_283 : a_FL RX9 283 1 6 := ⟨(RX1, TX1, 8), rfl, by decide, k_160, uws_1, rfl⟩
theorem fl_X9_286 : a_FL RX9 286 1 7 := ⟨(RX1, TX1, 8), rfl, by decide, k_162, uws_1, rfl⟩
theorem fl_X9_347 : a_FL RX9 347 4 0 := ⟨(RX4, TX4, 2), rfl, by decide, k_341, uws_4, rfl⟩
theorem fl_X9_351 : a_FL RX9 351 4 1 := ⟨(RX4, TX4, 2), rfl, by decide, k_343, uws_4, rfl⟩
theorem fl_X9_355 : a_FL RX9 355 0 0 := ⟨(RX0, TX0, 3), rfl, by decide, k_292, uws_0, rfl⟩
theorem fl_X0_11 : a_FL RX0 11 0 2 := ⟨(RX0, TX0, 3), rfl, by decide, k_294, uws_0, rfl⟩
theorem fl_X0_18 : a_FL RX0 18 0 1 := ⟨(RX0, TX0, 3), rfl, by decide, k_293, uws_0, rfl⟩
theorem fl_X0_26 : a_FL RX0 26 0 0 := ⟨(RX0, TX0, 3), rfl, by decide, k_291, uws_0, rfl⟩
theorem fl_X1_9 : a_FL RX1 9 1 1 := ⟨(RX1, TX1, 8), rfl, by decide, k_141, uws_1, rfl⟩
theorem fl_X1_15 : a_FL RX1 15 1 2 := ⟨(RX1, TX1, 8), rfl, by decide, k_145, uws_1, rfl⟩
theorem fl_X1_18 : a_FL RX1 18 1 3 := ⟨(RX1, TX1, 8), rfl, by decide, k_148, uws_1, rfl⟩
theorem fl_X1_21 : a_FL RX1 21 1 4 := ⟨(RX1, TX1, 8), rfl, by decide, k_151, uws_1, rfl⟩
theorem fl_X1_24 : a_FL RX1 24 1 5 := ⟨(RX1, TX1, 8), rfl, by decide, k_155, uws_1, rfl⟩
theorem fl_X1_27 : a_FL RX1 27 1 6 := ⟨(RX1, TX1, 8), rfl, by decide, k_159, uws_1, rfl⟩
theorem fl_X1_30 : a_FL RX1 30 1 7 := ⟨(RX1, TX1, 8), rfl, by decide, k_161, uws_1, rfl⟩
theorem fl_X1_33 : a_FL RX1 33 1 0 := ⟨(RX1, TX1, 8), rfl, by decide, k_136, uws_1, rfl⟩
theorem fl_X2_9 : a_FL RX2 9 2 1 := ⟨(RX2, TX2, 6), rfl, by decide, k_86, uws_2, rfl⟩
theorem fl_X2_15 : a_FL RX2 15 2 2 := ⟨(RX2, TX2, 6), rfl, by decide, k_89, uws_2, rfl⟩
theorem fl_X2_18 : a_FL RX2 18 2 3 := ⟨(RX2, TX2, 6), rfl, by decide, k_92, uws_2, rfl⟩
theorem fl_X2_21 : a_FL RX2 21 2 4 := ⟨(RX2, TX2, 6), rfl, by decide, k_95, uws_2, rfl⟩
theorem fl_X2_24 : a_FL RX2 24 2 5 := ⟨(RX2, TX2, 6), rfl, by decide, k_96, uws_2, rfl⟩
theorem fl_X2_27 : a_FL RX2 27 2 0 := ⟨(RX2, TX2, 6), rfl, by decide, k_83, uws_2, rfl⟩
theorem fl_X3_9 : a_FL RX3 9 3 1 := ⟨(RX3, TX3, 3), rfl, by decide, k_119, uws_3, rfl⟩
theorem fl_X3_15 : a_FL RX3 15 3 2 := ⟨(RX3, TX3, 3), rfl, by decide, k_122, uws_3, rfl⟩
theorem fl_X3_18 : a_FL RX3 18 3 0 := ⟨(RX3, TX3, 3), rfl, by decide, k_116, uws_3, rfl⟩
theorem fl_X4_9 : a_FL RX4 9 4 1 := ⟨(RX4, TX4, 2), rfl, by decide, k_342, uws_4, rfl⟩
theorem fl_X4_13 : a_FL RX4 13 4 0 := ⟨(RX4, TX4, 2), rfl, by decide, k_340, uws_4, rfl⟩
theorem fl_X4_17 : a_FL RX4 17 5 2 := ⟨(RX5, TX5, 9), rfl, by decide, k_243, uws_5, rfl⟩
theorem fl_X4_33 : a_FL RX4 33 5 3 := ⟨(RX5, TX5, 9), rfl, by decide, k_248, uws_5, rfl⟩
theorem fl_X4_37 : a_FL RX4 37 1 0 := ⟨(RX1, TX1, 8), rfl, by decide, k_138, uws_1, rfl⟩
theorem fl_X5_12 : a_FL RX5 12 5 0 := ⟨(RX5, TX5, 9), rfl, by decide, k_234, uws_5, rfl⟩
theorem fl_X5_21 : a_FL RX5 21 5 1 := ⟨(RX5, TX5, 9), rfl, by decide, k_238, uws_5, rfl⟩
theorem fl_X5_28 : a_FL RX5 28 5 2 := ⟨(RX5, TX5, 9), rfl, by decide, k_241, uws_5, rfl⟩
theorem fl_X5_35 : a_FL RX5 35 5 3 := ⟨(RX5, TX5, 9), rfl, by decide, k_246, uws_5, rfl⟩
theorem fl_X5_42 : a_FL RX5 42 5 4 := ⟨(RX5, TX5, 9), rfl, by decide, k_251, uws_5, rfl⟩
theorem fl_X5_46 : a_FL RX5 46 5 5 := ⟨(RX5, TX5, 9), rfl, by decide, k_253, uws_5, rfl⟩
theorem fl_X5_66 : a_FL RX5 66 5 6 := ⟨(RX5, TX5, 9), rfl, by decide, k_256, uws_5, rfl⟩
theorem fl_X5_70 : a_FL RX5 70 5 7 := ⟨(RX5, TX5, 9), rfl, by decide, k_259, uws_5, rfl⟩
theorem fl_X5_73 : a_FL RX5 73 5 8 := ⟨(RX5, TX5, 9), rfl, by decide, k_261, uws_5, rfl⟩
theorem fl_X5_107 : a_FL RX5 107 3 0 := ⟨(RX3, TX3, 3), rfl, by decide, k_118, uws_3, rfl⟩
theorem fl_X5_114 : a_FL RX5 114 6 3 := ⟨(RX6, TX6, 6), rfl, by decide, k_194, uws_6, rfl⟩
theorem fl_X5_117 : a_FL RX5 117 3 1 := ⟨(RX3, TX3, 3), rfl, by decide, k_120, uws_3, rfl⟩
theorem fl_X5_120 : a_FL RX5 120 1 0 := ⟨(RX1, TX1, 8), rfl, by decide, k_140, uws_1, rfl⟩
theorem fl_X5_121 : a_FL RX5 121 1 4 := ⟨(RX1, TX1, 8), rfl, by decide, k_153, uws_1, rfl⟩
theorem fl_X5_124 : a_FL RX5 124 1 1 := ⟨(RX1, TX1, 8), rfl, by decide, k_143, uws_1, rfl⟩
theorem fl_X5_148 : a_FL RX5 148 1 3 := ⟨(RX1, TX1, 8), rfl, by decide, k_149, uws_1, rfl⟩
theorem fl_X5_155 : a_FL RX5 155 1 5 := ⟨(RX1, TX1, 8), rfl, by decide, k_157, uws_1, rfl⟩
theorem fl_X5_192 : a_FL RX5 192 1 2 := ⟨(RX1, TX1, 8), rfl, by decide, k_147, uws_1, rfl⟩
theorem fl_X5_199 : a_FL RX5 199 1 7 := ⟨(RX1, TX1, 8), rfl, by decide, k_163, uws_1, rfl⟩
theorem fl_X5_202 : a_FL RX5 202 8 0 := ⟨(RX8, TX8, 5), rfl, by decide, k_54, uws_8, rfl⟩
theorem fl_X6_9 : a_FL RX6 9 6 0 := ⟨(RX6, TX6, 6), rfl, by decide, k_187, uws_6, rfl⟩
theorem fl_X6_15 : a_FL RX6 15 6 1 := ⟨(RX6, TX6, 6), rfl, by decide, k_189, uws_6, rfl⟩
theorem fl_X6_18 : a_FL RX6 18 6 2 := ⟨(RX6, TX6, 6), rfl, by decide, k_191, uws_6, rfl⟩
theorem fl_X6_21 : a_FL RX6 21 6 3 := ⟨(RX6, TX6, 6), rfl, by decide, k_193, uws_6, rfl⟩
theorem fl_X6_24 : a_FL RX6 24 6 4 := ⟨(RX6, TX6, 6), rfl, by decide, k_196, uws_6, rfl⟩
theorem fl_X6_28 : a_FL RX6 28 6 5 := ⟨(RX6, TX6, 6), rfl, by decide, k_197, uws_6, rfl⟩
theorem fl_X6_38 : a_FL RX6 38 5 0 := ⟨(RX5, TX5, 9), rfl, by decide, k_235, uws_5, rfl⟩
theorem fl_X6_44 : a_FL RX6 44 8 0 := ⟨(RX8, TX8, 5), rfl, by decide, k_51, uws_8, rfl⟩
theorem fl_X6_54 : a_FL RX6 54 5 3 := ⟨(RX5, TX5, 9), rfl, by decide, k_247, uws_5, rfl⟩
theorem fl_X6_58 : a_FL RX6 58 1 0 := ⟨(RX1, TX1, 8), rfl, by decide, k_137, uws_1, rfl⟩
theorem fl_X6_61 : a_FL RX6 61 1 1 := ⟨(RX1, TX1, 8), rfl, by decide, k_142, uws_1, rfl⟩
theorem fl_X6_64 : a_FL RX6 64 1 5 := ⟨(RX1, TX1, 8), rfl, by decide, k_156, uws_1, rfl⟩
theorem fl_X6_71 : a_FL RX6 71 1 4 := ⟨(RX1, TX1, 8), rfl, by decide, k_152, uws_1, rfl⟩
theorem fl_X6_74 : a_FL RX6 74 5 2 := ⟨(RX5, TX5, 9), rfl, by decide, k_242, uws_5, rfl⟩
theorem fl_X6_81 : a_FL RX6 81 5 1 := ⟨(RX5, TX5, 9), rfl, by decide, k_239, uws_5, rfl⟩
theorem fl_X6_85 : a_FL RX6 85 8 4 := ⟨(RX8, TX8, 5), rfl, by decide, k_63, uws_8, rfl⟩
theorem fl_X6_94 : a_FL RX6 94 2 0 := ⟨(RX2, TX2, 6), rfl, by decide, k_84, uws_2, rfl⟩
theorem fl_X6_97 : a_FL RX6 97 2 1 := ⟨(RX2, TX2, 6), rfl, by decide, k_87, uws_2, rfl⟩
theorem fl_X6_100 : a_FL RX6 100 2 2 := ⟨(RX2, TX2, 6), rfl, by decide, k_90, uws_2, rfl⟩
theorem fl_X6_103 : a_FL RX6 103 5 6 := ⟨(RX5, TX5, 9), rfl, by decide, k_257, uws_5, rfl⟩
theorem fl_X6_110 : a_FL RX6 110 2 3 := ⟨(RX2, TX2, 6), rfl, by decide, k_93, uws_2, rfl⟩
theorem fl_X6_117 : a_FL RX6 117 8 3 := ⟨(RX8, TX8, 5), rfl, by decide, k_60, uws_8, rfl⟩
theorem fl_X7_9 : a_FL RX7 9 7 2 := ⟨(RX7, TX7, 7), rfl, by decide, k_312, uws_7, rfl⟩
theorem fl_X7_15 : a_FL RX7 15 7 3 := ⟨(RX7, TX7, 7), rfl, by decide, k_314, uws_7, rfl⟩
theorem fl_X7_19 : a_FL RX7 19 7 0 := ⟨(RX7, TX7, 7), rfl, by decide, k_309, uws_7, rfl⟩
theorem fl_X7_28 : a_FL RX7 28 7 4 := ⟨(RX7, TX7, 7), rfl, by decide, k_315, uws_7, rfl⟩
theorem fl_X7_31 : a_FL RX7 31 7 5 := ⟨(RX7, TX7, 7), rfl, by decide, k_316, uws_7, rfl⟩
theorem fl_X7_34 : a_FL RX7 34 7 1 := ⟨(RX7, TX7, 7), rfl, by decide, k_310, uws_7, rfl⟩
theorem fl_X7_92 : a_FL RX7 92 5 0 := ⟨(RX5, TX5, 9), rfl, by decide, k_237, uws_5, rfl⟩
theorem fl_X7_101 : a_FL RX7 101 8 0 := ⟨(RX8, TX8, 5), rfl, by decide, k_53, uws_8, rfl⟩
theorem fl_X7_107 : a_FL RX7 107 5 3 := ⟨(RX5, TX5, 9), rfl, by decide, k_250, uws_5, rfl⟩
theorem fl_X7_117 : a_FL RX7 117 7 6 := ⟨(RX7, TX7, 7), rfl, by decide, k_317, uws_7, rfl⟩
theorem fl_X7_123 : a_FL RX7 123 5 2 := ⟨(RX5, TX5, 9), rfl, by decide, k_245, uws_5, rfl⟩
theorem fl_X7_145 : a_FL RX7 145 5 5 := ⟨(RX5, TX5, 9), rfl, by decide, k_255, uws_5, rfl⟩
theorem fl_X8_9 : a_FL RX8 9 8 1 := ⟨(RX8, TX8, 5), rfl, by decide, k_55, uws_8, rfl⟩
theorem fl_X8_15 : a_FL RX8 15 8 2 := ⟨(RX8, TX8, 5), rfl, by decide, k_57, uws_8, rfl⟩
theorem fl_X8_18 : a_FL RX8 18 8 3 := ⟨(RX8, TX8, 5), rfl, by decide, k_59, uws_8, rfl⟩
theorem fl_X8_21 : a_FL RX8 21 8 4 := ⟨(RX8, TX8, 5), rfl, by decide, k_62, uws_8, rfl⟩
theorem fl_X8_27 : a_FL RX8 27 8 0 := ⟨(RX8, TX8, 5), rfl, by decide, k_50, uws_8, rfl⟩
theorem fl_X10_7 : a_FL RX10 7 10 0 := ⟨(RX10, TX10, 20), rfl, by decide, k_1191, uws_10, rfl⟩
theorem fl_X10_13 : a_FL RX10 13 10 1 := ⟨(RX10, TX10, 20), rfl, by decide, k_1192, uws_10, rfl⟩
theorem fl_X10_16 : a_FL RX10 16 10 2 := ⟨(RX10, TX10, 20), rfl, by decide, k_1193, uws_10, rfl⟩
theorem fl_X10_19 : a_FL RX10 19 10 3 := ⟨(RX10, TX10, 20), rfl, by decide, k_1194, uws_10, rfl⟩
theorem fl_X10_22 : a_FL RX10 22 10 6 := ⟨(RX10, TX10, 20), rfl, by decide, k_1197, uws_10, rfl⟩
theorem fl_X10_25 : a_FL RX10 25 10 15 := ⟨(RX10, TX10, 20), rfl, by decide, k_1206, uws_10, rfl⟩
theorem fl_X10_29 : a_FL RX10 29 10 16 := ⟨(RX10, TX10, 20), rfl, by decide, k_1207, uws_10, rfl⟩
theorem fl_X10_32 : a_FL RX10 32 10 18 := ⟨(RX10, TX10, 20), rfl, by decide, k_1209, uws_10, rfl⟩
theorem fl_X10_42 : a_FL RX10 42 10 5 := ⟨(RX10, TX10, 20), rfl, by decide, k_1196, uws_10, rfl⟩
theorem fl_X10_45 : a_FL RX10 45 10 4 := ⟨(RX10, TX10, 20), rfl, by decide, k_1195, uws_10, rfl⟩
theorem fl_X10_48 : a_FL RX10 48 10 7 := ⟨(RX10, TX10, 20), rfl, by decide, k_1198, uws_10, rfl⟩
theorem fl_X10_51 : a_FL RX10 51 10 8 := ⟨(RX10, TX10, 20), rfl, by decide, k_1199, uws_10, rfl⟩
theorem fl_X10_58 : a_FL RX10 58 10 10 := ⟨(RX10, TX10, 20), rfl, by decide, k_1201, uws_10, rfl⟩
theorem fl_X10_61 : a_FL RX10 61 10 9 := ⟨(RX10, TX10, 20), rfl, by decide, k_1200, uws_10, rfl⟩
theorem fl_X10_68 : a_FL RX10 68 10 11 := ⟨(RX10, TX10, 20), rfl, by decide, k_1202, uws_10, rfl⟩
theorem fl_X10_78 : a_FL RX10 78 10 12 := ⟨(RX10, TX10, 20), rfl, by decide, k_1203, uws_10, rfl⟩
theorem fl_X10_81 : a_FL RX10 81 10 13 := ⟨(RX10, TX10, 20), rfl, by decide, k_1204, uws_10, rfl⟩
theorem fl_X10_94 : a_FL RX10 94 10 14 := ⟨(RX10, TX10, 20), rfl, by decide, k_1205, uws_10, rfl⟩
theorem fl_X10_278 : a_FL RX10 278 10 17 := ⟨(RX10, TX10, 20), rfl, by decide, k_1208, uws_10, rfl⟩
theorem fl_X10_286 : a_FL RX10 286 10 19 := ⟨(RX10, TX10, 20), rfl, by decide, k_1210, uws_10, rfl⟩
abbrev I_X0_init : a_I := (RX0, cX0_init, 2, [], true, none, 4, 249, 3336, none)
abbrev I_X0_keep : a_I := (RX0, cX0_keep, 2, [], false, none, 3, 0, 0, none)
abbrev I_X0_restore : a_I := (RX0, cX0_restore, 2, [], false, none, 3, 0, 0, none)
abbrev I_X1_init : a_I := (RX1, cX1_init, 1, [], true, none, 1, 7, 210, none)
abbrev I_X1_clear : a_I := (RX1, cX1_clear, 1, [], false, none, 1, 0, 0, none)
abbrev I_X1_copyFrom : a_I := (RX1, cX1_copyFrom, 2, [], false, none, 1, 0, 0, none)
abbrev I_X1_has : a_I := (RX1, cX1_has, 2, [], false, some .boolean, 1, 0, 0, none)
abbrev I_X1_isFull : a_I := (RX1, cX1_isFull, 1, [], false, some .boolean, 1, 0, 0, none)
abbrev I_X1_isOpen : a_I := (RX1, cX1_isOpen, 2, [], false, some .boolean, 2, 0, 0, none)
abbrev I_X1_runsOn : a_I := (RX1, cX1_runsOn, 3, [], false, some .boolean, 2, 0, 0, none)
abbrev I_X1_anyOf : a_I := (RX1, cX1_anyOf, 3, [], false, some .boolean, 1, 0, 0, none)
abbrev I_X1_inState : a_I := (RX1, cX1_inState, 4, [], false, some .int, 1, 0, 0, none)
abbrev I_X1_add : a_I := (RX1, cX1_add, 3, [], false, none, 2, 0, 0, none)
abbrev I_X1_start : a_I := (RX1, cX1_start, 3, [], false, none, 2, 0, 0, none)
abbrev I_X1_stop : a_I := (RX1, cX1_stop, 3, [], false, none, 2, 0, 0, none)
abbrev I_X1_end : a_I := (RX1, cX1_end, 4, [], false, none, 2, 0, 0, none)
abbrev I_X2_init : a_I := (RX2, cX2_init, 1, [], true, none, 1, 5, 40, none)
abbrev I_X2_clear : a_I := (RX2, cX2_clear, 1, [], false, none, 1, 0, 0, none)
abbrev I_X2_copyFrom : a_I := (RX2, cX2_copyFrom, 2, [], false, none, 1, 0, 0, none)
abbrev I_X2_has : a_I := (RX2, cX2_has, 2, [], false, some .boolean, 1, 0, 0, none)
abbrev I_X2_isFull : a_I := (RX2, cX2_isFull, 1, [], false, some .boolean, 1, 0, 0, none)
abbrev I_X2_anyOf : a_I := (RX2, cX2_anyOf, 3, [], false, some .boolean, 1, 0, 0, none)
abbrev I_X2_add : a_I := (RX2, cX2_add, 6, [], false, none, 2, 0, 0, none)
abbrev I_X2_dueAt : a_I := (RX2, cX2_dueAt, 2, [], false, some .int, 2, 0, 0, none)
abbrev I_X2_goneAt : a_I := (RX2, cX2_goneAt, 2, [], false, some .int, 2, 0, 0, none)
abbrev I_X2_isLent : a_I := (RX2, cX2_isLent, 3, [], false, some .boolean, 3, 0, 0, none)
abbrev I_X2_dropOver : a_I := (RX2, cX2_dropOver, 4, [], false, none, 3, 0, 0, none)
abbrev I_X2_balanceOf : a_I := (RX2, cX2_balanceOf, 8, [], false, some .int, 3, 0, 0, none)
abbrev I_X3_init : a_I := (RX3, cX3_init, 1, [], true, none, 1, 2, 12, none)
abbrev I_X3_clear : a_I := (RX3, cX3_clear, 1, [], false, none, 1, 0, 0, none)
abbrev I_X3_copyFrom : a_I := (RX3, cX3_copyFrom, 2, [], false, none, 1, 0, 0, none)
abbrev I_X3_has : a_I := (RX3, cX3_has, 2, [], false, some .boolean, 1, 0, 0, none)
abbrev I_X3_isFull : a_I := (RX3, cX3_isFull, 1, [], false, some .boolean, 1, 0, 0, none)
abbrev I_X3_isUp : a_I := (RX3, cX3_isUp, 2, [], false, some .boolean, 2, 0, 0, none)
abbrev I_X3_add : a_I := (RX3, cX3_add, 2, [], false, none, 2, 0, 0, none)
abbrev I_X3_turn : a_I := (RX3, cX3_turn, 3, [], false, none, 2, 0, 0, none)
abbrev I_X4_init : a_I := (RX4, cX4_init, 1, [], true, none, 1, 1, 128, none)
abbrev I_X4_clear : a_I := (RX4, cX4_clear, 1, [], false, none, 1, 0, 0, none)
abbrev I_X4_put : a_I := (RX4, cX4_put, 2, [], false, none, 1, 0, 0, none)
abbrev I_X4_putMachine : a_I := (RX4, cX4_putMachine, 5, [], false, none, 3, 0, 0, none)
abbrev I_X4_putNumber : a_I := (RX4, cX4_putNumber, 2, [], false, none, 2, 0, 0, none)
abbrev I_X5_init : a_I := (RX5, cX5_init, 1, [], true, none, 3, 30, 407, none)
abbrev I_X5_clear : a_I := (RX5, cX5_clear, 1, [], false, none, 2, 0, 0, none)
abbrev I_X5_copyFrom : a_I := (RX5, cX5_copyFrom, 2, [], false, none, 2, 0, 0, none)
abbrev I_X5_settle : a_I := (RX5, cX5_settle, 1, [], false, none, 6, 0, 0, none)
abbrev I_X5_fillSlots : a_I := (RX5, cX5_fillSlots, 4, [], false, none, 5, 0, 0, none)
abbrev I_X5_freeMachine : a_I := (RX5, cX5_freeMachine, 2, [], false, some .int, 3, 0, 0, none)
abbrev I_X5_freeSlots : a_I := (RX5, cX5_freeSlots, 3, [], false, some .int, 6, 0, 0, none)
abbrev I_X5_bestWaiting : a_I := (RX5, cX5_bestWaiting, 7, [], false, some .int, 2, 0, 0, none)
abbrev I_X5_leastRunning : a_I := (RX5, cX5_leastRunning, 8, [], false, some .int, 3, 0, 0, none)
abbrev I_X5_startJob : a_I := (RX5, cX5_startJob, 3, [], false, none, 4, 0, 0, none)
abbrev I_X5_interruptJob : a_I := (RX5, cX5_interruptJob, 3, [], false, none, 4, 0, 0, none)
abbrev I_X5_keptWork : a_I := (RX5, cX5_keptWork, 3, [], false, some .int, 1, 0, 0, none)
abbrev I_X5_preemptJobs : a_I := (RX5, cX5_preemptJobs, 4, [], false, none, 5, 0, 0, none)
abbrev I_X5_outweighs : a_I := (RX5, cX5_outweighs, 7, [], false, some .boolean, 2, 0, 0, none)
abbrev I_X5_switchMachine : a_I := (RX5, cX5_switchMachine, 4, [], false, none, 6, 0, 0, none)
abbrev I_X5_passTick : a_I := (RX5, cX5_passTick, 2, [], false, none, 6, 0, 0, none)
abbrev I_X5_workOn : a_I := (RX5, cX5_workOn, 2, [], false, none, 3, 0, 0, none)
abbrev I_X5_leafRanked : a_I := (RX5, cX5_leafRanked, 3, [], false, some .int, 6, 0, 0, none)
abbrev I_X5_leavesBefore : a_I := (RX5, cX5_leavesBefore, 8, [], false, some .int, 3, 0, 0, none)
abbrev I_X6_init : a_I := (RX6, cX6_init, 1, [], true, none, 1, 6, 66, none)
abbrev I_X6_survey : a_I := (RX6, cX6_survey, 3, [], false, none, 5, 0, 0, none)
abbrev I_X6_countJobs : a_I := (RX6, cX6_countJobs, 6, [], false, none, 2, 0, 0, none)
abbrev I_X6_dealTickets : a_I := (RX6, cX6_dealTickets, 8, [], false, none, 4, 0, 0, none)
abbrev I_X6_weigh : a_I := (RX6, cX6_weigh, 3, [], false, none, 2, 0, 0, none)
abbrev I_X6_shift : a_I := (RX6, cX6_shift, 5, [], false, none, 3, 0, 0, none)
abbrev I_X6_nextWorthOf : a_I := (RX6, cX6_nextWorthOf, 2, [], false, some .long, 1, 0, 0, none)
abbrev I_X6_nowWorthOf : a_I := (RX6, cX6_nowWorthOf, 2, [], false, some .long, 1, 0, 0, none)
abbrev I_X7_init : a_I := (RX7, cX7_init, 1, [], true, none, 1, 1, 600, none)
abbrev I_X7_put : a_I := (RX7, cX7_put, 3, [], false, none, 1, 0, 0, none)
abbrev I_X7_read : a_I := (RX7, cX7_read, 4, [], false, none, 9, 0, 0, none)
abbrev I_X7_isOver : a_I := (RX7, cX7_isOver, 1, [], false, some .boolean, 3, 0, 0, none)
abbrev I_X7_readStatement : a_I := (RX7, cX7_readStatement, 3, [], false, none, 8, 0, 0, none)
abbrev I_X7_readUser : a_I := (RX7, cX7_readUser, 5, [], false, none, 4, 0, 0, none)
abbrev I_X7_readMachine : a_I := (RX7, cX7_readMachine, 4, [], false, none, 4, 0, 0, none)
abbrev I_X7_readJob : a_I := (RX7, cX7_readJob, 5, [], false, none, 4, 0, 0, none)
abbrev I_X7_readSetting : a_I := (RX7, cX7_readSetting, 4, [], false, none, 4, 0, 0, none)
abbrev I_X7_readNumber : a_I := (RX7, cX7_readNumber, 4, [], false, some .int, 3, 0, 0, none)
abbrev I_X7_readSemicolon : a_I := (RX7, cX7_readSemicolon, 1, [], false, none, 3, 0, 0, none)
abbrev I_X7_skipSpaces : a_I := (RX7, cX7_skipSpaces, 1, [], false, none, 2, 0, 0, none)
abbrev I_X7_skipWord : a_I := (RX7, cX7_skipWord, 1, [], false, none, 2, 0, 0, none)
abbrev I_X7_isWord : a_I := (RX7, cX7_isWord, 4, [], false, some .boolean, 7, 0, 0, none)
abbrev I_X7_isDigit : a_I := (RX7, cX7_isDigit, 1, [], false, some .boolean, 1, 0, 0, none)
abbrev I_X7_byteAt : a_I := (RX7, cX7_byteAt, 2, [], false, some .int, 1, 0, 0, none)
abbrev I_X7_fail : a_I := (RX7, cX7_fail, 3, [], false, none, 1, 0, 0, none)
abbrev I_X8_init : a_I := (RX8, cX8_init, 1, [], true, none, 2, 4, 48, none)
abbrev I_X8_clear : a_I := (RX8, cX8_clear, 1, [], false, none, 1, 0, 0, none)
abbrev I_X8_copyFrom : a_I := (RX8, cX8_copyFrom, 2, [], false, none, 1, 0, 0, none)
abbrev I_X8_has : a_I := (RX8, cX8_has, 2, [], false, some .boolean, 1, 0, 0, none)
abbrev I_X8_isFull : a_I := (RX8, cX8_isFull, 1, [], false, some .boolean, 1, 0, 0, none)
abbrev I_X8_isLeaf : a_I := (RX8, cX8_isLeaf, 2, [], false, some .boolean, 2, 0, 0, none)
abbrev I_X8_childrenOf : a_I := (RX8, cX8_childrenOf, 4, [], false, some .int, 1, 0, 0, none)
abbrev I_X8_add : a_I := (RX8, cX8_add, 3, [], false, none, 3, 0, 0, none)
abbrev I_X8_changeShares : a_I := (RX8, cX8_changeShares, 3, [], false, none, 3, 0, 0, none)
abbrev I_X8_dealBase : a_I := (RX8, cX8_dealBase, 4, [], false, none, 2, 0, 0, none)
abbrev I_X8_sharesUnder : a_I := (RX8, cX8_sharesUnder, 4, [], false, some .int, 1, 0, 0, none)
abbrev I_X8_sumBelow : a_I := (RX8, cX8_sumBelow, 5, [], false, some .int, 3, 0, 0, none)
abbrev I_X8_isUnder : a_I := (RX8, cX8_isUnder, 5, [], false, some .boolean, 2, 0, 0, none)
abbrev I_X8_addUse : a_I := (RX8, cX8_addUse, 2, [], false, none, 2, 0, 0, none)
abbrev I_X8_halveUses : a_I := (RX8, cX8_halveUses, 2, [], false, none, 1, 0, 0, none)
abbrev I_X8_need : a_I := (RX8, cX8_need, 5, [], false, some .int, 2, 0, 0, none)
abbrev I_X9_init : a_I := (RX9, cX9_init, 1, [], true, none, 5, 316, 4908, none)
abbrev I_X9_append : a_I := (RX9, cX9_append, 6, [], false, some .int, 6, 1, 6, none)
abbrev I_X9_load : a_I := (RX9, cX9_load, 2, [], false, some .int, 10, 1, 6, none)
abbrev I_X9_errorPosition : a_I := (RX9, cX9_errorPosition, 1, [], false, some .int, 1, 0, 0, none)
abbrev I_X9_count : a_I := (RX9, cX9_count, 2, [], false, some .int, 7, 1, 6, none)
abbrev I_X9_user : a_I := (RX9, cX9_user, 4, [], false, some .int, 7, 2, 12, none)
abbrev I_X9_addUser : a_I := (RX9, cX9_addUser, 3, [], false, some .int, 7, 3, 18, none)
abbrev I_X9_setShares : a_I := (RX9, cX9_setShares, 4, [], false, some .int, 7, 3, 18, none)
abbrev I_X9_lend : a_I := (RX9, cX9_lend, 5, [], false, some .int, 7, 7, 42, none)
abbrev I_X9_loan : a_I := (RX9, cX9_loan, 4, [], false, some .int, 6, 1, 6, none)
abbrev I_X9_balance : a_I := (RX9, cX9_balance, 2, [], false, some .int, 7, 1, 6, none)
abbrev I_X9_ranked : a_I := (RX9, cX9_ranked, 3, [], false, some .int, 7, 1, 6, none)
abbrev I_X9_worth : a_I := (RX9, cX9_worth, 3, [], false, some .long, 7, 3, 18, none)
abbrev I_X9_machine : a_I := (RX9, cX9_machine, 3, [], false, some .int, 7, 2, 12, none)
abbrev I_X9_job : a_I := (RX9, cX9_job, 4, [], false, some .int, 7, 2, 12, none)
abbrev I_X9_first : a_I := (RX9, cX9_first, 2, [], false, some .int, 6, 1, 6, none)
abbrev I_X9_submit : a_I := (RX9, cX9_submit, 3, [], false, some .int, 7, 4, 24, none)
abbrev I_X9_cancel : a_I := (RX9, cX9_cancel, 2, [], false, some .int, 7, 2, 12, none)
abbrev I_X9_setUp : a_I := (RX9, cX9_setUp, 4, [], false, some .int, 7, 1, 6, none)
abbrev I_X9_set : a_I := (RX9, cX9_set, 4, [], false, some .int, 7, 2, 12, none)
abbrev I_X9_tick : a_I := (RX9, cX9_tick, 4, [], false, some .int, 7, 2, 12, none)
abbrev I_X9_finishedIn : a_I := (RX9, cX9_finishedIn, 3, [], false, some .int, 7, 2, 12, none)
abbrev I_X9_ahead : a_I := (RX9, cX9_ahead, 4, [], false, some .int, 7, 2, 12, none)
abbrev I_X9_drift : a_I := (RX9, cX9_drift, 5, [], false, some .int, 4, 0, 0, none)
abbrev I_X9_part : a_I := (RX9, cX9_part, 4, [], false, some .float, 7, 2, 12, none)
abbrev I_X9_neediest : a_I := (RX9, cX9_neediest, 6, [], false, some .int, 4, 0, 0, none)
abbrev I_X9_writeMachines : a_I := (RX9, cX9_writeMachines, 2, [], false, some .int, 4, 0, 0, none)
abbrev I_X9_writtenByte : a_I := (RX9, cX9_writtenByte, 2, [], false, some .int, 6, 1, 6, none)
abbrev I_X9_undo : a_I := (RX9, cX9_undo, 1, [], false, some .int, 6, 1, 6, none)
abbrev I_X9_needUser : a_I := (RX9, cX9_needUser, 2, [], false, none, 6, 1, 6, none)
abbrev I_X9_needLeaf : a_I := (RX9, cX9_needLeaf, 2, [], false, none, 6, 1, 6, none)
abbrev I_X9_needMachine : a_I := (RX9, cX9_needMachine, 2, [], false, none, 6, 1, 6, none)
abbrev I_X9_needJob : a_I := (RX9, cX9_needJob, 2, [], false, none, 6, 1, 6, none)
abbrev I_X9_needOpen : a_I := (RX9, cX9_needOpen, 2, [], false, none, 6, 1, 6, none)
abbrev I_X9_needRange : a_I := (RX9, cX9_needRange, 3, [], false, none, 6, 1, 6, none)
abbrev I_X9_worthOf : a_I := (RX9, cX9_worthOf, 5, [], false, some .long, 1, 0, 0, none)
abbrev I_X10_init : a_I := (RX10, cX10_init, 1, [], true, none, 2, 7, 4120, none)
abbrev I_X10_begins : a_I := (RX10, cX10_begins, 2, [], false, none, 1, 0, 0, none)
abbrev I_X10_becomes : a_I := (RX10, cX10_becomes, 4, [], false, none, 1, 0, 0, none)
abbrev I_X10_thrown : a_I := (RX10, cX10_thrown, 1, [], false, some .int, 1, 0, 0, none)
abbrev I_X10_isIn : a_I := (RX10, cX10_isIn, 3, [], false, some .boolean, 1, 0, 0, none)
abbrev I_X10_keeps : a_I := (RX10, cX10_keeps, 2, [], false, none, 1, 0, 0, none)
abbrev I_X10_undo : a_I := (RX10, cX10_undo, 1, [], false, some .int, 2, 0, 0, none)
abbrev I_X10_append : a_I := (RX10, cX10_append, 8, [], false, some .int, 1, 0, 0, none)
abbrev I_X10_see : a_I := (RX10, cX10_see, 2, [], false, some .int, 1, 0, 0, none)
abbrev I_X10_isLetter : a_I := (RX10, cX10_isLetter, 1, [], false, some .boolean, 2, 0, 0, none)
abbrev I_X10_isDigit : a_I := (RX10, cX10_isDigit, 1, [], false, some .boolean, 2, 0, 0, none)
abbrev I_X10_next : a_I := (RX10, cX10_next, 1, [], false, none, 3, 0, 0, none)
abbrev I_X10_isWord : a_I := (RX10, cX10_isWord, 3, [], false, some .boolean, 7, 0, 0, none)
abbrev I_X10_fails : a_I := (RX10, cX10_fails, 2, [], false, none, 1, 0, 0, none)
abbrev I_X10_must : a_I := (RX10, cX10_must, 2, [], false, none, 4, 0, 0, none)
abbrev I_X10_takes : a_I := (RX10, cX10_takes, 4, [], false, some .int, 4, 0, 0, none)
abbrev I_X10_readsUser : a_I := (RX10, cX10_readsUser, 3, [], false, none, 5, 0, 0, none)
abbrev I_X10_readsMachine : a_I := (RX10, cX10_readsMachine, 2, [], false, none, 5, 0, 0, none)
abbrev I_X10_readsJob : a_I := (RX10, cX10_readsJob, 3, [], false, none, 5, 0, 0, none)
abbrev I_X10_readsSetting : a_I := (RX10, cX10_readsSetting, 3, [], false, none, 5, 0, 0, none)
abbrev I_X10_readsStatement : a_I := (RX10, cX10_readsStatement, 1, [], false, none, 8, 0, 0, none)
abbrev I_X10_load : a_I := (RX10, cX10_load, 2, [], false, some .int, 18, 0, 0, none)
abbrev I_X10_sets : a_I := (RX10, cX10_sets, 3, [], false, none, 1, 0, 0, none)
abbrev I_X10_errorPosition : a_I := (RX10, cX10_errorPosition, 1, [], false, some .int, 1, 0, 0, none)
abbrev I_X10_isUser : a_I := (RX10, cX10_isUser, 2, [], false, some .boolean, 2, 0, 0, none)
abbrev I_X10_childrenOf : a_I := (RX10, cX10_childrenOf, 4, [], false, some .int, 1, 0, 0, none)
abbrev I_X10_isLeaf : a_I := (RX10, cX10_isLeaf, 2, [], false, some .boolean, 2, 0, 0, none)
abbrev I_X10_hasJobs : a_I := (RX10, cX10_hasJobs, 4, [], false, some .boolean, 2, 0, 0, none)
abbrev I_X10_hasLoan : a_I := (RX10, cX10_hasLoan, 4, [], false, some .boolean, 2, 0, 0, none)
abbrev I_X10_addsUser : a_I := (RX10, cX10_addsUser, 4, [], false, none, 1, 0, 0, none)
abbrev I_X10_baseOf (d : Nat) : a_I := (RX10, cX10_baseOf, 4, [], false, some .int, d, 0, 0, none)
abbrev I_X10_isLent : a_I := (RX10, cX10_isLent, 2, [], false, some .boolean, 2, 0, 0, none)
abbrev I_X10_ticketsOf : a_I := (RX10, cX10_ticketsOf, 5, [], false, some .int, 15, 0, 0, none)
abbrev I_X10_isBelow : a_I := (RX10, cX10_isBelow, 4, [], false, some .boolean, 1, 0, 0, none)
abbrev I_X10_useOf : a_I := (RX10, cX10_useOf, 4, [], false, some .int, 3, 0, 0, none)
abbrev I_X10_jobsOf : a_I := (RX10, cX10_jobsOf, 5, [], false, some .int, 2, 0, 0, none)
abbrev I_X10_user : a_I := (RX10, cX10_user, 3, [], false, some .int, 16, 0, 0, none)
abbrev I_X10_addUser : a_I := (RX10, cX10_addUser, 3, [], false, some .int, 3, 0, 0, none)
abbrev I_X10_setShares : a_I := (RX10, cX10_setShares, 4, [], false, some .int, 3, 0, 0, none)
abbrev I_X10_lent : a_I := (RX10, cX10_lent, 3, [], false, some .int, 1, 0, 0, none)
abbrev I_X10_cannotLend : a_I := (RX10, cX10_cannotLend, 4, [], false, some .boolean, 16, 0, 0, none)
abbrev I_X10_lend : a_I := (RX10, cX10_lend, 7, [], false, some .int, 17, 0, 0, none)
abbrev I_X10_goneAt : a_I := (RX10, cX10_goneAt, 2, [], false, some .int, 2, 0, 0, none)
abbrev I_X10_loan : a_I := (RX10, cX10_loan, 3, [], false, some .int, 3, 0, 0, none)
abbrev I_X10_endsLoans : a_I := (RX10, cX10_endsLoans, 3, [], false, none, 3, 0, 0, none)
abbrev I_X10_balance : a_I := (RX10, cX10_balance, 8, [], false, some .int, 3, 0, 0, none)
abbrev I_X10_worksTickets : a_I := (RX10, cX10_worksTickets, 2, [], false, none, 16, 0, 0, none)
abbrev I_X10_worthOf : a_I := (RX10, cX10_worthOf, 3, [], false, some .long, 1, 0, 0, none)
abbrev I_X10_loadOf : a_I := (RX10, cX10_loadOf, 4, [], false, some .int, 2, 0, 0, none)
abbrev I_X10_jobWorth : a_I := (RX10, cX10_jobWorth, 3, [], false, some .long, 3, 0, 0, none)
abbrev I_X10_bestWaiting : a_I := (RX10, cX10_bestWaiting, 7, [], false, some .int, 4, 0, 0, none)
abbrev I_X10_leastRunning : a_I := (RX10, cX10_leastRunning, 8, [], false, some .int, 4, 0, 0, none)
abbrev I_X10_ranked : a_I := (RX10, cX10_ranked, 7, [], false, some .int, 17, 0, 0, none)
abbrev I_X10_worth : a_I := (RX10, cX10_worth, 3, [], false, some .long, 17, 0, 0, none)
abbrev I_X10_isMachine : a_I := (RX10, cX10_isMachine, 2, [], false, some .boolean, 2, 0, 0, none)
abbrev I_X10_isJob : a_I := (RX10, cX10_isJob, 2, [], false, some .boolean, 2, 0, 0, none)
abbrev I_X10_of : a_I := (RX10, cX10_of, 3, [], false, some .int, 1, 0, 0, none)
abbrev I_X10_lays : a_I := (RX10, cX10_lays, 4, [], false, none, 1, 0, 0, none)
abbrev I_X10_runningOn : a_I := (RX10, cX10_runningOn, 4, [], false, some .int, 2, 0, 0, none)
abbrev I_X10_freeMachine : a_I := (RX10, cX10_freeMachine, 2, [], false, some .int, 3, 0, 0, none)
abbrev I_X10_freeSlots : a_I := (RX10, cX10_freeSlots, 3, [], false, some .int, 3, 0, 0, none)
abbrev I_X10_inState : a_I := (RX10, cX10_inState, 4, [], false, some .int, 2, 0, 0, none)
abbrev I_X10_runs : a_I := (RX10, cX10_runs, 3, [], false, none, 2, 0, 0, none)
abbrev I_X10_interrupts : a_I := (RX10, cX10_interrupts, 3, [], false, none, 2, 0, 0, none)
abbrev I_X10_fills : a_I := (RX10, cX10_fills, 3, [], false, none, 17, 0, 0, none)
abbrev I_X10_preempts : a_I := (RX10, cX10_preempts, 4, [], false, none, 5, 0, 0, none)
abbrev I_X10_machine : a_I := (RX10, cX10_machine, 3, [], false, some .int, 17, 0, 0, none)
abbrev I_X10_job : a_I := (RX10, cX10_job, 3, [], false, some .int, 3, 0, 0, none)
abbrev I_X10_first : a_I := (RX10, cX10_first, 2, [], false, some .int, 17, 0, 0, none)
abbrev I_X10_addsJob : a_I := (RX10, cX10_addsJob, 4, [], false, none, 2, 0, 0, none)
abbrev I_X10_submit : a_I := (RX10, cX10_submit, 3, [], false, some .int, 18, 0, 0, none)
abbrev I_X10_ends : a_I := (RX10, cX10_ends, 3, [], false, none, 2, 0, 0, none)
abbrev I_X10_cancel : a_I := (RX10, cX10_cancel, 2, [], false, some .int, 18, 0, 0, none)
abbrev I_X10_setUp : a_I := (RX10, cX10_setUp, 5, [], false, some .int, 18, 0, 0, none)
abbrev I_X10_least : a_I := (RX10, cX10_least, 1, [], false, some .int, 1, 0, 0, none)
abbrev I_X10_most : a_I := (RX10, cX10_most, 1, [], false, some .int, 1, 0, 0, none)
abbrev I_X10_set : a_I := (RX10, cX10_set, 4, [], false, some .int, 2, 0, 0, none)
abbrev I_X10_count : a_I := (RX10, cX10_count, 2, [], false, some .int, 4, 0, 0, none)
abbrev I_X10_ticksOnce : a_I := (RX10, cX10_ticksOnce, 3, [], false, some .int, 18, 0, 0, none)
abbrev I_X10_tick : a_I := (RX10, cX10_tick, 4, [], false, some .int, 19, 0, 0, none)
abbrev I_X10_finishedIn : a_I := (RX10, cX10_finishedIn, 4, [], false, some .int, 19, 0, 0, none)
abbrev I_X10_ahead : a_I := (RX10, cX10_ahead, 4, [], false, some .int, 19, 0, 0, none)
abbrev I_X10_lackOf : a_I := (RX10, cX10_lackOf, 3, [], false, some .int, 15, 0, 0, none)
abbrev I_X10_drift : a_I := (RX10, cX10_drift, 3, [], false, some .int, 16, 0, 0, none)
abbrev I_X10_part : a_I := (RX10, cX10_part, 2, [], false, some .float, 4, 0, 0, none)
abbrev I_X10_neediest : a_I := (RX10, cX10_neediest, 3, [], false, some .int, 16, 0, 0, none)
abbrev I_X10_says : a_I := (RX10, cX10_says, 2, [], false, none, 1, 0, 0, none)
abbrev I_X10_saysJobs : a_I := (RX10, cX10_saysJobs, 4, [], false, none, 2, 0, 0, none)
abbrev I_X10_writeMachines : a_I := (RX10, cX10_writeMachines, 2, [], false, some .int, 3, 0, 0, none)
abbrev I_X10_writtenByte : a_I := (RX10, cX10_writtenByte, 2, [], false, some .int, 2, 0, 0, none)
abbrev I_L_append : a_I := (RL, cL_append, 8, [(0, 16, 19, 13)], false, some .int, 7, 1, 6, none)
abbrev I_L_load : a_I := (RL, cL_load, 4, [(0, 9, 12, 19)], false, some .int, 11, 1, 6, none)
abbrev I_L_count : a_I := (RL, cL_count, 4, [(0, 9, 12, 19)], false, some .int, 8, 1, 6, none)
abbrev I_L_user : a_I := (RL, cL_user, 5, [(0, 10, 13, 28), (0, 10, 17, 19)], false, some .int, 8, 2, 12, none)
abbrev I_L_addUser : a_I := (RL, cL_addUser, 5, [(0, 10, 13, 28), (0, 10, 17, 19), (0, 10, 21, 13)], false, some .int, 8, 3, 18, none)
abbrev I_L_setShares : a_I := (RL, cL_setShares, 5, [(0, 10, 13, 28), (0, 10, 17, 19)], false, some .int, 8, 3, 18, none)
abbrev I_L_lend : a_I := (RL, cL_lend, 7, [(0, 14, 17, 28), (0, 14, 21, 19), (0, 14, 25, 13)], false, some .int, 8, 7, 42, none)
abbrev I_L_loan : a_I := (RL, cL_loan, 5, [(0, 10, 13, 28), (0, 10, 17, 19)], false, some .int, 7, 1, 6, none)
abbrev I_L_balance : a_I := (RL, cL_balance, 4, [(0, 9, 12, 28)], false, some .int, 8, 1, 6, none)
abbrev I_L_ranked : a_I := (RL, cL_ranked, 4, [(0, 9, 12, 28)], false, some .int, 8, 1, 6, none)
abbrev I_L_worth : a_I := (RL, cL_worth, 5, [(0, 9, 12, 28), (0, 9, 16, 19), (0, 9, 20, 13)], false, some .int, 8, 3, 18, none)
abbrev I_L_machine : a_I := (RL, cL_machine, 5, [(0, 10, 13, 28), (0, 10, 17, 19)], false, some .int, 8, 2, 12, none)
abbrev I_L_job : a_I := (RL, cL_job, 5, [(0, 10, 13, 28), (0, 10, 17, 19)], false, some .int, 8, 2, 12, none)
abbrev I_L_first : a_I := (RL, cL_first, 3, [(0, 8, 11, 63)], false, some .int, 7, 1, 6, none)
abbrev I_L_submit : a_I := (RL, cL_submit, 5, [(0, 10, 13, 28), (0, 10, 17, 19), (0, 10, 21, 13)], false, some .int, 8, 4, 24, none)
abbrev I_L_cancel : a_I := (RL, cL_cancel, 4, [(0, 9, 12, 28), (0, 9, 15, 13)], false, some .int, 8, 2, 12, none)
abbrev I_L_setUp : a_I := (RL, cL_setUp, 5, [(0, 10, 13, 28)], false, some .int, 8, 1, 6, none)
abbrev I_L_set : a_I := (RL, cL_set, 5, [(0, 10, 13, 19)], false, some .int, 8, 2, 12, none)
abbrev I_L_tick : a_I := (RL, cL_tick, 4, [(0, 9, 12, 19), (0, 9, 15, 13)], false, some .int, 8, 2, 12, none)
abbrev I_L_finishedIn : a_I := (RL, cL_finishedIn, 4, [(0, 9, 12, 28), (0, 9, 15, 13)], false, some .int, 8, 2, 12, none)
abbrev I_L_ahead : a_I := (RL, cL_ahead, 5, [(0, 10, 13, 19)], false, some .int, 8, 2, 12, none)
abbrev I_L_part : a_I := (RL, cL_part, 4, [(0, 9, 12, 28), (0, 9, 15, 63)], false, some .int, 8, 2, 12, none)
abbrev I_L_writtenByte : a_I := (RL, cL_writtenByte, 4, [(0, 9, 12, 28)], false, some .int, 7, 1, 6, none)
abbrev I_L_undo : a_I := (RL, cL_undo, 3, [(0, 8, 11, 13)], false, some .int, 7, 1, 6, none)
abbrev I_L_law (LL : Nat) (xs : Nat → Int32) : a_I := (RL, cL_law, 9, [], false, some .boolean, 20, 601024, 7293034, some (LL, xs))
theorem ci_X0_17 : a_CI RX0 17 yX5_init I_X5_init 0 := ⟨rfl, rfl, rfl, ⟨by decide, by decide, by decide +kernel⟩, Or.inl k_290, k_36, k_2, a_cd0 rfl k_37⟩
theorem cv_X0_22 : a_CV RX0 22 yX5_copyFrom I_X5_copyFrom 1 := ⟨rfl, ⟨by decide, by decide, by decide +kernel⟩, k_712, k_713, k_714, k_2, a_cd0 rfl k_715⟩
theorem ac_X1_37 : a_AC RX1 37 := ⟨k_735, k_233, k_232, k_8⟩
theorem cv_X1_43 : a_CV RX1 43 yX1_has I_X1_has 1 := ⟨rfl, ⟨by decide, by decide, by decide +kernel⟩, k_435, k_436, k_437, k_6, a_cd0 rfl k_438⟩
theorem cv_X1_47 : a_CV RX1 47 yX1_isFull I_X1_isFull 0 := ⟨rfl, ⟨by decide, by decide, by decide +kernel⟩, k_692, k_684, k_685, k_6, a_cd0 rfl k_686⟩
theorem ac_X2_31 : a_AC RX2 31 := ⟨k_725, k_233, k_232, k_8⟩
theorem cv_X2_37 : a_CV RX2 37 yX2_isFull I_X2_isFull 0 := ⟨rfl, ⟨by decide, by decide, by decide +kernel⟩, k_912, k_904, k_905, k_4, a_cd0 rfl k_906⟩
theorem cv_X2_41 : a_CV RX2 41 yX2_has I_X2_has 1 := ⟨rfl, ⟨by decide, by decide, by decide +kernel⟩, k_765, k_766, k_767, k_4, a_cd0 rfl k_768⟩
theorem cv_X2_45 : a_CV RX2 45 yX2_dueAt I_X2_dueAt 1 := ⟨rfl, ⟨by decide, by decide, by decide +kernel⟩, k_761, k_763, a_inP (q := (yX2_dueAt, 6)) 20 (by decide +kernel), k_4, a_cd0 rfl k_764⟩
theorem cv_X2_49 : a_CV RX2 49 yX2_goneAt I_X2_goneAt 1 := ⟨rfl, ⟨by decide, by decide, by decide +kernel⟩, k_940, k_924, k_925, k_4, a_cd0 rfl k_926⟩
theorem ac_X3_22 : a_AC RX3 22 := ⟨k_730, k_233, k_232, k_8⟩
theorem cv_X3_28 : a_CV RX3 28 yX3_has I_X3_has 1 := ⟨rfl, ⟨by decide, by decide, by decide +kernel⟩, k_426, k_427, k_428, k_5, a_cd0 rfl k_429⟩
theorem cv_X3_32 : a_CV RX3 32 yX3_isFull I_X3_isFull 0 := ⟨rfl, ⟨by decide, by decide, by decide +kernel⟩, k_677, k_670, k_671, k_5, a_cd0 rfl k_672⟩
theorem cv_X4_23 : a_CV RX4 23 yX3_isUp I_X3_isUp 1 := ⟨rfl, ⟨by decide, by decide, by decide +kernel⟩, k_422, k_423, k_424, k_5, a_cd0 rfl k_425⟩
theorem cv_X4_29 : a_CV RX4 29 yX4_put I_X4_put 1 := ⟨rfl, ⟨by decide, by decide, by decide +kernel⟩, k_430, k_415, k_416, k_11, a_cd0 rfl k_417⟩
theorem cv_X4_42 : a_CV RX4 42 yX1_runsOn I_X1_runsOn 2 := ⟨rfl, ⟨by decide, by decide, by decide +kernel⟩, k_431, k_432, k_433, k_6, a_cd0 rfl k_434⟩
theorem cv_X4_46 : a_CV RX4 46 yX4_putNumber I_X4_putNumber 1 := ⟨rfl, ⟨by decide, by decide, by decide +kernel⟩, k_439, k_441, a_inP (q := (yX4_putNumber, 2)) 1 (by decide +kernel), k_11, a_cd0 rfl k_442⟩
theorem ci_X5_11 : a_CI RX5 11 yX8_init I_X8_init 0 := ⟨rfl, rfl, rfl, ⟨by decide, by decide, by decide +kernel⟩, Or.inl k_41, k_42, k_3, a_cd0 rfl k_43⟩
theorem ci_X5_20 : a_CI RX5 20 yX2_init I_X2_init 0 := ⟨rfl, rfl, rfl, ⟨by decide, by decide, by decide +kernel⟩, Or.inr ⟨_, g_79⟩, k_80, k_4, a_cd0 rfl k_81⟩
theorem ci_X5_27 : a_CI RX5 27 yX3_init I_X3_init 0 := ⟨rfl, rfl, rfl, ⟨by decide, by decide, by decide +kernel⟩, Or.inr ⟨_, g_112⟩, k_113, k_5, a_cd0 rfl k_114⟩
theorem ci_X5_34 : a_CI RX5 34 yX1_init I_X1_init 0 := ⟨rfl, rfl, rfl, ⟨by decide, by decide, by decide +kernel⟩, Or.inr ⟨_, g_132⟩, k_133, k_6, a_cd0 rfl k_134⟩
theorem ci_X5_41 : a_CI RX5 41 yX6_init I_X6_init 0 := ⟨rfl, rfl, rfl, ⟨by decide, by decide, by decide +kernel⟩, Or.inr ⟨_, g_183⟩, k_184, k_7, a_cd0 rfl k_185⟩
theorem cv_X5_50 : a_CV RX5 50 yX5_clear I_X5_clear 0 := ⟨rfl, ⟨by decide, by decide, by decide +kernel⟩, k_212, k_213, k_214, k_2, a_cd0 rfl k_215⟩
theorem cv_X5_53 : a_CV RX5 53 yX8_clear I_X8_clear 0 := ⟨rfl, ⟨by decide, by decide, by decide +kernel⟩, k_216, k_46, k_47, k_3, a_cd0 rfl k_48⟩
theorem cv_X5_54 : a_CV RX5 54 yX2_clear I_X2_clear 0 := ⟨rfl, ⟨by decide, by decide, by decide +kernel⟩, k_217, k_218, k_219, k_4, a_cd0 rfl k_220⟩
theorem cv_X5_55 : a_CV RX5 55 yX3_clear I_X3_clear 0 := ⟨rfl, ⟨by decide, by decide, by decide +kernel⟩, k_221, k_222, k_223, k_5, a_cd0 rfl k_224⟩
theorem cv_X5_56 : a_CV RX5 56 yX1_clear I_X1_clear 0 := ⟨rfl, ⟨by decide, by decide, by decide +kernel⟩, k_225, k_226, k_227, k_6, a_cd0 rfl k_228⟩
theorem ac_X5_60 : a_AC RX5 60 := ⟨k_231, k_233, k_232, k_8⟩
theorem cv_X5_76 : a_CV RX5 76 yX8_copyFrom I_X8_copyFrom 1 := ⟨rfl, ⟨by decide, by decide, by decide +kernel⟩, k_716, k_717, k_718, k_3, a_cd0 rfl k_719⟩
theorem cv_X5_80 : a_CV RX5 80 yX2_copyFrom I_X2_copyFrom 1 := ⟨rfl, ⟨by decide, by decide, by decide +kernel⟩, k_721, k_722, k_723, k_4, a_cd0 rfl k_724⟩
theorem cv_X5_83 : a_CV RX5 83 yX3_copyFrom I_X3_copyFrom 1 := ⟨rfl, ⟨by decide, by decide, by decide +kernel⟩, k_726, k_727, k_728, k_5, a_cd0 rfl k_729⟩
theorem cv_X5_86 : a_CV RX5 86 yX1_copyFrom I_X1_copyFrom 1 := ⟨rfl, ⟨by decide, by decide, by decide +kernel⟩, k_731, k_732, k_733, k_6, a_cd0 rfl k_734⟩
theorem cv_X5_89 : a_CV RX5 89 yX6_survey I_X6_survey 1 := ⟨rfl, ⟨by decide, by decide, by decide +kernel⟩, k_742, k_743, k_744, k_7, a_cd0 rfl k_745⟩
theorem cv_X5_93 : a_CV RX5 93 yX5_fillSlots I_X5_fillSlots 0 := ⟨rfl, ⟨by decide, by decide, by decide +kernel⟩, k_780, k_782, a_inP (q := (yX5_fillSlots, 9)) 22 (by decide +kernel), k_2, a_cd0 rfl k_783⟩
theorem cv_X5_96 : a_CV RX5 96 yX5_freeMachine I_X5_freeMachine 0 := ⟨rfl, ⟨by decide, by decide, by decide +kernel⟩, k_784, k_786, a_inP (q := (yX5_freeMachine, 9)) 23 (by decide +kernel), k_2, a_cd0 rfl k_787⟩
theorem cv_X5_100 : a_CV RX5 100 yX5_bestWaiting I_X5_bestWaiting 0 := ⟨rfl, ⟨by decide, by decide, by decide +kernel⟩, k_789, k_790, k_791, k_2, a_cd0 rfl k_792⟩
theorem cv_X5_103 : a_CV RX5 103 yX5_startJob I_X5_startJob 2 := ⟨rfl, ⟨by decide, by decide, by decide +kernel⟩, k_797, k_799, a_inP (q := (yX5_startJob, 9)) 24 (by decide +kernel), k_2, a_cd0 rfl k_800⟩
theorem cv_X5_110 : a_CV RX5 110 yX3_isUp I_X3_isUp 1 := ⟨rfl, ⟨by decide, by decide, by decide +kernel⟩, k_788, k_423, k_424, k_5, a_cd0 rfl k_425⟩
theorem cv_X5_127 : a_CV RX5 127 yX6_nextWorthOf I_X6_nextWorthOf 1 := ⟨rfl, ⟨by decide, by decide, by decide +kernel⟩, k_793, k_794, k_795, k_7, a_cd0 rfl k_796⟩
theorem cv_X5_131 : a_CV RX5 131 yX1_runsOn I_X1_runsOn 2 := ⟨rfl, ⟨by decide, by decide, by decide +kernel⟩, k_984, k_432, k_433, k_6, a_cd0 rfl k_434⟩
theorem cv_X5_135 : a_CV RX5 135 yX6_nowWorthOf I_X6_nowWorthOf 1 := ⟨rfl, ⟨by decide, by decide, by decide +kernel⟩, k_985, k_986, k_987, k_7, a_cd0 rfl k_988⟩
theorem cv_X5_138 : a_CV RX5 138 yX1_has I_X1_has 1 := ⟨rfl, ⟨by decide, by decide, by decide +kernel⟩, k_801, k_436, k_437, k_6, a_cd0 rfl k_438⟩
theorem cv_X5_141 : a_CV RX5 141 yX1_start I_X1_start 2 := ⟨rfl, ⟨by decide, by decide, by decide +kernel⟩, k_802, k_803, k_804, k_6, a_cd0 rfl k_805⟩
theorem cv_X5_144 : a_CV RX5 144 yX6_shift I_X6_shift 4 := ⟨rfl, ⟨by decide, by decide, by decide +kernel⟩, k_806, k_807, k_808, k_7, a_cd0 rfl k_809⟩
theorem cv_X5_151 : a_CV RX5 151 yX5_keptWork I_X5_keptWork 1 := ⟨rfl, ⟨by decide, by decide, by decide +kernel⟩, k_1078, k_1080, a_inP (q := (yX5_keptWork, 9)) 32 (by decide +kernel), k_2, a_cd0 rfl k_1081⟩
theorem cv_X5_158 : a_CV RX5 158 yX1_stop I_X1_stop 2 := ⟨rfl, ⟨by decide, by decide, by decide +kernel⟩, k_1082, k_1083, k_1084, k_6, a_cd0 rfl k_1085⟩
theorem cv_X5_161 : a_CV RX5 161 yX5_leastRunning I_X5_leastRunning 1 := ⟨rfl, ⟨by decide, by decide, by decide +kernel⟩, k_1129, k_981, k_982, k_2, a_cd0 rfl k_983⟩
theorem cv_X5_164 : a_CV RX5 164 yX5_outweighs I_X5_outweighs 2 := ⟨rfl, ⟨by decide, by decide, by decide +kernel⟩, k_1130, k_1132, a_inP (q := (yX5_outweighs, 9)) 35 (by decide +kernel), k_2, a_cd0 rfl k_1133⟩
theorem cv_X5_167 : a_CV RX5 167 yX5_interruptJob I_X5_interruptJob 1 := ⟨rfl, ⟨by decide, by decide, by decide +kernel⟩, k_1074, k_1076, a_inP (q := (yX5_interruptJob, 9)) 31 (by decide +kernel), k_2, a_cd0 rfl k_1077⟩
theorem cv_X5_173 : a_CV RX5 173 yX3_turn I_X3_turn 2 := ⟨rfl, ⟨by decide, by decide, by decide +kernel⟩, k_1070, k_1071, k_1072, k_5, a_cd0 rfl k_1073⟩
theorem cv_X5_177 : a_CV RX5 177 yX5_workOn I_X5_workOn 0 := ⟨rfl, ⟨by decide, by decide, by decide +kernel⟩, k_1108, k_1110, a_inP (q := (yX5_workOn, 9)) 33 (by decide +kernel), k_2, a_cd0 rfl k_1111⟩
theorem cv_X5_180 : a_CV RX5 180 yX8_halveUses I_X8_halveUses 0 := ⟨rfl, ⟨by decide, by decide, by decide +kernel⟩, k_1117, k_1118, k_1119, k_3, a_cd0 rfl k_1120⟩
theorem cv_X5_183 : a_CV RX5 183 yX2_dropOver I_X2_dropOver 1 := ⟨rfl, ⟨by decide, by decide, by decide +kernel⟩, k_1121, k_1122, k_1123, k_4, a_cd0 rfl k_1124⟩
theorem cv_X5_186 : a_CV RX5 186 yX5_preemptJobs I_X5_preemptJobs 0 := ⟨rfl, ⟨by decide, by decide, by decide +kernel⟩, k_1125, k_1127, a_inP (q := (yX5_preemptJobs, 9)) 34 (by decide +kernel), k_2, a_cd0 rfl k_1128⟩
theorem cv_X5_189 : a_CV RX5 189 yX8_addUse I_X8_addUse 1 := ⟨rfl, ⟨by decide, by decide, by decide +kernel⟩, k_1112, k_1113, k_1114, k_3, a_cd0 rfl k_1115⟩
theorem cv_X5_195 : a_CV RX5 195 yX1_end I_X1_end 3 := ⟨rfl, ⟨by decide, by decide, by decide +kernel⟩, k_1116, k_1056, k_1057, k_6, a_cd0 rfl k_1058⟩
theorem cv_X5_203 : a_CV RX5 203 yX8_isLeaf I_X8_isLeaf 1 := ⟨rfl, ⟨by decide, by decide, by decide +kernel⟩, k_952, k_378, k_379, k_3, a_cd0 rfl k_380⟩
theorem cv_X5_206 : a_CV RX5 206 yX5_leavesBefore I_X5_leavesBefore 1 := ⟨rfl, ⟨by decide, by decide, by decide +kernel⟩, k_953, k_955, a_inP (q := (yX5_leavesBefore, 9)) 27 (by decide +kernel), k_2, a_cd0 rfl k_956⟩
theorem cv_X6_31 : a_CV RX6 31 yX6_countJobs I_X6_countJobs 1 := ⟨rfl, ⟨by decide, by decide, by decide +kernel⟩, k_746, k_748, a_inP (q := (yX6_countJobs, 6)) 18 (by decide +kernel), k_7, a_cd0 rfl k_749⟩
theorem cv_X6_35 : a_CV RX6 35 yX6_dealTickets I_X6_dealTickets 1 := ⟨rfl, ⟨by decide, by decide, by decide +kernel⟩, k_752, k_754, a_inP (q := (yX6_dealTickets, 6)) 19 (by decide +kernel), k_7, a_cd0 rfl k_755⟩
theorem cv_X6_50 : a_CV RX6 50 yX6_weigh I_X6_weigh 2 := ⟨rfl, ⟨by decide, by decide, by decide +kernel⟩, k_772, k_774, a_inP (q := (yX6_weigh, 6)) 21 (by decide +kernel), k_7, a_cd0 rfl k_775⟩
theorem cv_X6_67 : a_CV RX6 67 yX8_has I_X8_has 1 := ⟨rfl, ⟨by decide, by decide, by decide +kernel⟩, k_750, k_390, k_391, k_3, a_cd0 rfl k_392⟩
theorem cv_X6_78 : a_CV RX6 78 yX3_has I_X3_has 1 := ⟨rfl, ⟨by decide, by decide, by decide +kernel⟩, k_751, k_427, k_428, k_5, a_cd0 rfl k_429⟩
theorem ac_X6_88 : a_AC RX6 88 := ⟨k_756, k_233, k_232, k_8⟩
theorem cv_X6_106 : a_CV RX6 106 yX2_isLent I_X2_isLent 2 := ⟨rfl, ⟨by decide, by decide, by decide +kernel⟩, k_757, k_758, k_759, k_4, a_cd0 rfl k_760⟩
theorem cs_X6_120 : a_CS RX6 120 yX9_worthOf I_X9_worthOf 3 := ⟨⟨by decide, by decide, by decide +kernel⟩, Or.inr ⟨rfl, _, g_776⟩, k_777, k_1, a_cd0 rfl k_778⟩
theorem cv_X7_37 : a_CV RX7 37 yX5_clear I_X5_clear 0 := ⟨rfl, ⟨by decide, by decide, by decide +kernel⟩, k_554, k_213, k_214, k_2, a_cd0 rfl k_215⟩
theorem cv_X7_42 : a_CV RX7 42 yX7_isOver I_X7_isOver 0 := ⟨rfl, ⟨by decide, by decide, by decide +kernel⟩, k_555, k_557, a_inP (q := (yX7_isOver, 7)) 3 (by decide +kernel), k_10, a_cd0 rfl k_558⟩
theorem cv_X7_46 : a_CV RX7 46 yX7_readStatement I_X7_readStatement 1 := ⟨rfl, ⟨by decide, by decide, by decide +kernel⟩, k_567, k_569, a_inP (q := (yX7_readStatement, 7)) 6 (by decide +kernel), k_10, a_cd0 rfl k_570⟩
theorem cv_X7_50 : a_CV RX7 50 yX7_skipSpaces I_X7_skipSpaces 0 := ⟨rfl, ⟨by decide, by decide, by decide +kernel⟩, k_559, k_561, a_inP (q := (yX7_skipSpaces, 7)) 4 (by decide +kernel), k_10, a_cd0 rfl k_562⟩
theorem cv_X7_53 : a_CV RX7 53 yX7_skipWord I_X7_skipWord 0 := ⟨rfl, ⟨by decide, by decide, by decide +kernel⟩, k_571, k_573, a_inP (q := (yX7_skipWord, 7)) 7 (by decide +kernel), k_10, a_cd0 rfl k_574⟩
theorem cv_X7_58 : a_CV RX7 58 yX7_isWord I_X7_isWord 2 := ⟨rfl, ⟨by decide, by decide, by decide +kernel⟩, k_576, k_578, a_inP (q := (yX7_isWord, 7)) 8 (by decide +kernel), k_10, a_cd0 rfl k_579⟩
theorem cv_X7_62 : a_CV RX7 62 yX7_readUser I_X7_readUser 2 := ⟨rfl, ⟨by decide, by decide, by decide +kernel⟩, k_628, k_630, a_inP (q := (yX7_readUser, 7)) 9 (by decide +kernel), k_10, a_cd0 rfl k_631⟩
theorem cv_X7_68 : a_CV RX7 68 yX7_readMachine I_X7_readMachine 2 := ⟨rfl, ⟨by decide, by decide, by decide +kernel⟩, k_665, k_667, a_inP (q := (yX7_readMachine, 7)) 14 (by decide +kernel), k_10, a_cd0 rfl k_668⟩
theorem cv_X7_73 : a_CV RX7 73 yX7_readJob I_X7_readJob 2 := ⟨rfl, ⟨by decide, by decide, by decide +kernel⟩, k_679, k_681, a_inP (q := (yX7_readJob, 7)) 15 (by decide +kernel), k_10, a_cd0 rfl k_682⟩
theorem cv_X7_78 : a_CV RX7 78 yX7_readSetting I_X7_readSetting 2 := ⟨rfl, ⟨by decide, by decide, by decide +kernel⟩, k_694, k_696, a_inP (q := (yX7_readSetting, 7)) 16 (by decide +kernel), k_10, a_cd0 rfl k_697⟩
theorem cv_X7_85 : a_CV RX7 85 yX7_fail I_X7_fail 2 := ⟨rfl, ⟨by decide, by decide, by decide +kernel⟩, k_636, k_638, a_inP (q := (yX7_fail, 7)) 10 (by decide +kernel), k_10, a_cd0 rfl k_639⟩
theorem cv_X7_89 : a_CV RX7 89 yX7_readSemicolon I_X7_readSemicolon 0 := ⟨rfl, ⟨by decide, by decide, by decide +kernel⟩, k_704, k_706, a_inP (q := (yX7_readSemicolon, 7)) 17 (by decide +kernel), k_10, a_cd0 rfl k_707⟩
theorem cv_X7_96 : a_CV RX7 96 yX8_isFull I_X8_isFull 0 := ⟨rfl, ⟨by decide, by decide, by decide +kernel⟩, k_632, k_633, k_634, k_3, a_cd0 rfl k_635⟩
theorem cv_X7_104 : a_CV RX7 104 yX7_readNumber I_X7_readNumber 2 := ⟨rfl, ⟨by decide, by decide, by decide +kernel⟩, k_640, k_642, a_inP (q := (yX7_readNumber, 7)) 11 (by decide +kernel), k_10, a_cd0 rfl k_643⟩
theorem cv_X7_111 : a_CV RX7 111 yX1_anyOf I_X1_anyOf 1 := ⟨rfl, ⟨by decide, by decide, by decide +kernel⟩, k_647, k_648, k_649, k_6, a_cd0 rfl k_650⟩
theorem cv_X7_120 : a_CV RX7 120 yX8_add I_X8_add 2 := ⟨rfl, ⟨by decide, by decide, by decide +kernel⟩, k_651, k_652, k_653, k_3, a_cd0 rfl k_654⟩
theorem cv_X7_127 : a_CV RX7 127 yX3_isFull I_X3_isFull 0 := ⟨rfl, ⟨by decide, by decide, by decide +kernel⟩, k_669, k_670, k_671, k_5, a_cd0 rfl k_672⟩
theorem cv_X7_130 : a_CV RX7 130 yX3_add I_X3_add 1 := ⟨rfl, ⟨by decide, by decide, by decide +kernel⟩, k_673, k_674, k_675, k_5, a_cd0 rfl k_676⟩
theorem cv_X7_133 : a_CV RX7 133 yX1_isFull I_X1_isFull 0 := ⟨rfl, ⟨by decide, by decide, by decide +kernel⟩, k_683, k_684, k_685, k_6, a_cd0 rfl k_686⟩
theorem cv_X7_134 : a_CV RX7 134 yX8_isLeaf I_X8_isLeaf 1 := ⟨rfl, ⟨by decide, by decide, by decide +kernel⟩, k_687, k_378, k_379, k_3, a_cd0 rfl k_380⟩
theorem cv_X7_137 : a_CV RX7 137 yX1_add I_X1_add 2 := ⟨rfl, ⟨by decide, by decide, by decide +kernel⟩, k_688, k_689, k_690, k_6, a_cd0 rfl k_691⟩
theorem cv_X7_148 : a_CV RX7 148 yX7_byteAt I_X7_byteAt 1 := ⟨rfl, ⟨by decide, by decide, by decide +kernel⟩, k_563, k_565, a_inP (q := (yX7_byteAt, 7)) 5 (by decide +kernel), k_10, a_cd0 rfl k_566⟩
theorem cs_X7_152 : a_CS RX7 152 yX7_isDigit I_X7_isDigit 1 := ⟨⟨by decide, by decide, by decide +kernel⟩, Or.inl k_644, k_645, k_10, a_cd0 rfl k_646⟩
theorem cv_X8_24 : a_CV RX8 24 yX8_clear I_X8_clear 0 := ⟨rfl, ⟨by decide, by decide, by decide +kernel⟩, k_45, k_46, k_47, k_3, a_cd0 rfl k_48⟩
theorem ac_X8_32 : a_AC RX8 32 := ⟨k_720, k_233, k_232, k_8⟩
theorem cv_X8_38 : a_CV RX8 38 yX8_childrenOf I_X8_childrenOf 1 := ⟨rfl, ⟨by decide, by decide, by decide +kernel⟩, k_381, k_382, k_383, k_3, a_cd0 rfl k_384⟩
theorem cv_X8_42 : a_CV RX8 42 yX8_isFull I_X8_isFull 0 := ⟨rfl, ⟨by decide, by decide, by decide +kernel⟩, k_655, k_633, k_634, k_3, a_cd0 rfl k_635⟩
theorem cv_X8_46 : a_CV RX8 46 yX8_has I_X8_has 1 := ⟨rfl, ⟨by decide, by decide, by decide +kernel⟩, k_389, k_390, k_391, k_3, a_cd0 rfl k_392⟩
theorem cv_X8_50 : a_CV RX8 50 yX8_dealBase I_X8_dealBase 0 := ⟨rfl, ⟨by decide, by decide, by decide +kernel⟩, k_656, k_658, a_inP (q := (yX8_dealBase, 5)) 12 (by decide +kernel), k_3, a_cd0 rfl k_659⟩
theorem cv_X8_53 : a_CV RX8 53 yX8_sharesUnder I_X8_sharesUnder 1 := ⟨rfl, ⟨by decide, by decide, by decide +kernel⟩, k_660, k_662, a_inP (q := (yX8_sharesUnder, 5)) 13 (by decide +kernel), k_3, a_cd0 rfl k_663⟩
theorem cv_X8_56 : a_CV RX8 56 yX8_isLeaf I_X8_isLeaf 1 := ⟨rfl, ⟨by decide, by decide, by decide +kernel⟩, k_377, k_378, k_379, k_3, a_cd0 rfl k_380⟩
theorem cv_X8_59 : a_CV RX8 59 yX8_isUnder I_X8_isUnder 2 := ⟨rfl, ⟨by decide, by decide, by decide +kernel⟩, k_385, k_387, a_inP (q := (yX8_isUnder, 5)) 0 (by decide +kernel), k_3, a_cd0 rfl k_388⟩
theorem ci_X9_9 : a_CI RX9 9 yX5_init I_X5_init 0 := ⟨rfl, rfl, rfl, ⟨by decide, by decide, by decide +kernel⟩, Or.inl k_35, k_36, k_2, a_cd0 rfl k_37⟩
theorem ci_X9_21 : a_CI RX9 21 yX0_init I_X0_init 0 := ⟨rfl, rfl, rfl, ⟨by decide, by decide, by decide +kernel⟩, Or.inl k_284, k_285, k_9, a_cd0 rfl k_286⟩
theorem ci_X9_28 : a_CI RX9 28 yX7_init I_X7_init 0 := ⟨rfl, rfl, rfl, ⟨by decide, by decide, by decide +kernel⟩, Or.inr ⟨_, g_304⟩, k_305, k_10, a_cd0 rfl k_306⟩
theorem ci_X9_35 : a_CI RX9 35 yX4_init I_X4_init 0 := ⟨rfl, rfl, rfl, ⟨by decide, by decide, by decide +kernel⟩, Or.inr ⟨_, g_336⟩, k_337, k_11, a_cd0 rfl k_338⟩
theorem cv_X9_51 : a_CV RX9 51 yX7_put I_X7_put 1 := ⟨rfl, ⟨by decide, by decide, by decide +kernel⟩, k_519, k_520, k_521, k_10, a_cd0 rfl k_522⟩
theorem cv_X9_60 : a_CV RX9 60 yX7_read I_X7_read 2 := ⟨rfl, ⟨by decide, by decide, by decide +kernel⟩, k_547, k_548, k_549, k_10, a_cd0 rfl k_550⟩
theorem cv_X9_67 : a_CV RX9 67 yX0_keep I_X0_keep 1 := ⟨rfl, ⟨by decide, by decide, by decide +kernel⟩, k_708, k_709, k_710, k_9, a_cd0 rfl k_711⟩
theorem cv_X9_71 : a_CV RX9 71 yX5_copyFrom I_X5_copyFrom 1 := ⟨rfl, ⟨by decide, by decide, by decide +kernel⟩, k_737, k_713, k_714, k_2, a_cd0 rfl k_715⟩
theorem cv_X9_74 : a_CV RX9 74 yX5_settle I_X5_settle 0 := ⟨rfl, ⟨by decide, by decide, by decide +kernel⟩, k_738, k_739, k_740, k_2, a_cd0 rfl k_741⟩
theorem cv_X9_117 : a_CV RX9 117 yX1_inState I_X1_inState 1 := ⟨rfl, ⟨by decide, by decide, by decide +kernel⟩, k_817, k_818, k_819, k_6, a_cd0 rfl k_820⟩
theorem cv_X9_121 : a_CV RX9 121 yX5_freeSlots I_X5_freeSlots 0 := ⟨rfl, ⟨by decide, by decide, by decide +kernel⟩, k_821, k_822, k_823, k_2, a_cd0 rfl k_824⟩
theorem cv_X9_133 : a_CV RX9 133 yX9_needUser I_X9_needUser 1 := ⟨rfl, ⟨by decide, by decide, by decide +kernel⟩, k_834, k_836, a_inP (q := (yX9_needUser, 5)) 25 (by decide +kernel), k_1, a_cd0 rfl k_837⟩
theorem cv_X9_140 : a_CV RX9 140 yX6_survey I_X6_survey 1 := ⟨rfl, ⟨by decide, by decide, by decide +kernel⟩, k_855, k_743, k_744, k_7, a_cd0 rfl k_745⟩
theorem cv_X9_151 : a_CV RX9 151 yX8_childrenOf I_X8_childrenOf 1 := ⟨rfl, ⟨by decide, by decide, by decide +kernel⟩, k_856, k_382, k_383, k_3, a_cd0 rfl k_384⟩
theorem cv_X9_163 : a_CV RX9 163 yX8_sumBelow I_X8_sumBelow 2 := ⟨rfl, ⟨by decide, by decide, by decide +kernel⟩, k_373, k_374, k_375, k_3, a_cd0 rfl k_376⟩
theorem cs_X9_175 : a_CS RX9 175 yX9_needRange I_X9_needRange 3 := ⟨⟨by decide, by decide, by decide +kernel⟩, Or.inl k_865, k_866, k_1, a_cd0 rfl k_867⟩
theorem cv_X9_179 : a_CV RX9 179 yX8_isFull I_X8_isFull 0 := ⟨rfl, ⟨by decide, by decide, by decide +kernel⟩, k_869, k_633, k_634, k_3, a_cd0 rfl k_635⟩
theorem cv_X9_183 : a_CV RX9 183 yX1_anyOf I_X1_anyOf 1 := ⟨rfl, ⟨by decide, by decide, by decide +kernel⟩, k_870, k_648, k_649, k_6, a_cd0 rfl k_650⟩
theorem cv_X9_187 : a_CV RX9 187 yX2_anyOf I_X2_anyOf 1 := ⟨rfl, ⟨by decide, by decide, by decide +kernel⟩, k_871, k_872, k_873, k_4, a_cd0 rfl k_874⟩
theorem cv_X9_190 : a_CV RX9 190 yX8_add I_X8_add 2 := ⟨rfl, ⟨by decide, by decide, by decide +kernel⟩, k_876, k_652, k_653, k_3, a_cd0 rfl k_654⟩
theorem cv_X9_196 : a_CV RX9 196 yX8_changeShares I_X8_changeShares 2 := ⟨rfl, ⟨by decide, by decide, by decide +kernel⟩, k_885, k_886, k_887, k_3, a_cd0 rfl k_888⟩
theorem cv_X9_202 : a_CV RX9 202 yX9_needLeaf I_X9_needLeaf 1 := ⟨rfl, ⟨by decide, by decide, by decide +kernel⟩, k_898, k_900, a_inP (q := (yX9_needLeaf, 5)) 26 (by decide +kernel), k_1, a_cd0 rfl k_901⟩
theorem cv_X9_205 : a_CV RX9 205 yX2_isFull I_X2_isFull 0 := ⟨rfl, ⟨by decide, by decide, by decide +kernel⟩, k_903, k_904, k_905, k_4, a_cd0 rfl k_906⟩
theorem cv_X9_208 : a_CV RX9 208 yX2_add I_X2_add 5 := ⟨rfl, ⟨by decide, by decide, by decide +kernel⟩, k_908, k_909, k_910, k_4, a_cd0 rfl k_911⟩
theorem cv_X9_211 : a_CV RX9 211 yX2_has I_X2_has 1 := ⟨rfl, ⟨by decide, by decide, by decide +kernel⟩, k_920, k_766, k_767, k_4, a_cd0 rfl k_768⟩
theorem cv_X9_226 : a_CV RX9 226 yX2_isLent I_X2_isLent 2 := ⟨rfl, ⟨by decide, by decide, by decide +kernel⟩, k_922, k_758, k_759, k_4, a_cd0 rfl k_760⟩
theorem cv_X9_230 : a_CV RX9 230 yX2_goneAt I_X2_goneAt 1 := ⟨rfl, ⟨by decide, by decide, by decide +kernel⟩, k_923, k_924, k_925, k_4, a_cd0 rfl k_926⟩
theorem cv_X9_235 : a_CV RX9 235 yX2_balanceOf I_X2_balanceOf 2 := ⟨rfl, ⟨by decide, by decide, by decide +kernel⟩, k_935, k_936, k_937, k_4, a_cd0 rfl k_938⟩
theorem cv_X9_239 : a_CV RX9 239 yX5_leafRanked I_X5_leafRanked 1 := ⟨rfl, ⟨by decide, by decide, by decide +kernel⟩, k_948, k_949, k_950, k_2, a_cd0 rfl k_951⟩
theorem cs_X9_244 : a_CS RX9 244 yX9_worthOf I_X9_worthOf 3 := ⟨⟨by decide, by decide, by decide +kernel⟩, Or.inl k_965, k_777, k_1, a_cd0 rfl k_778⟩
theorem cv_X9_248 : a_CV RX9 248 yX9_needMachine I_X9_needMachine 1 := ⟨rfl, ⟨by decide, by decide, by decide +kernel⟩, k_973, k_975, a_inP (q := (yX9_needMachine, 5)) 28 (by decide +kernel), k_1, a_cd0 rfl k_976⟩
theorem cv_X9_254 : a_CV RX9 254 yX3_isUp I_X3_isUp 1 := ⟨rfl, ⟨by decide, by decide, by decide +kernel⟩, k_979, k_423, k_424, k_5, a_cd0 rfl k_425⟩
theorem cv_X9_260 : a_CV RX9 260 yX5_leastRunning I_X5_leastRunning 1 := ⟨rfl, ⟨by decide, by decide, by decide +kernel⟩, k_980, k_981, k_982, k_2, a_cd0 rfl k_983⟩
theorem cv_X9_265 : a_CV RX9 265 yX9_needJob I_X9_needJob 1 := ⟨rfl, ⟨by decide, by decide, by decide +kernel⟩, k_997, k_999, a_inP (q := (yX9_needJob, 5)) 29 (by decide +kernel), k_1, a_cd0 rfl k_1000⟩
theorem cv_X9_291 : a_CV RX9 291 yX5_bestWaiting I_X5_bestWaiting 0 := ⟨rfl, ⟨by decide, by decide, by decide +kernel⟩, k_1012, k_790, k_791, k_2, a_cd0 rfl k_792⟩
theorem cv_X9_299 : a_CV RX9 299 yX1_isFull I_X1_isFull 0 := ⟨rfl, ⟨by decide, by decide, by decide +kernel⟩, k_1036, k_684, k_685, k_6, a_cd0 rfl k_686⟩
theorem cv_X9_302 : a_CV RX9 302 yX1_add I_X1_add 2 := ⟨rfl, ⟨by decide, by decide, by decide +kernel⟩, k_1038, k_689, k_690, k_6, a_cd0 rfl k_691⟩
theorem cv_X9_303 : a_CV RX9 303 yX9_needOpen I_X9_needOpen 1 := ⟨rfl, ⟨by decide, by decide, by decide +kernel⟩, k_1046, k_1048, a_inP (q := (yX9_needOpen, 5)) 30 (by decide +kernel), k_1, a_cd0 rfl k_1049⟩
theorem cv_X9_306 : a_CV RX9 306 yX1_end I_X1_end 3 := ⟨rfl, ⟨by decide, by decide, by decide +kernel⟩, k_1055, k_1056, k_1057, k_6, a_cd0 rfl k_1058⟩
theorem cv_X9_309 : a_CV RX9 309 yX5_switchMachine I_X5_switchMachine 2 := ⟨rfl, ⟨by decide, by decide, by decide +kernel⟩, k_1066, k_1067, k_1068, k_2, a_cd0 rfl k_1069⟩
theorem cv_X9_323 : a_CV RX9 323 yX5_passTick I_X5_passTick 0 := ⟨rfl, ⟨by decide, by decide, by decide +kernel⟩, k_1104, k_1105, k_1106, k_2, a_cd0 rfl k_1107⟩
theorem cv_X9_326 : a_CV RX9 326 yX8_isLeaf I_X8_isLeaf 1 := ⟨rfl, ⟨by decide, by decide, by decide +kernel⟩, k_393, k_378, k_379, k_3, a_cd0 rfl k_380⟩
theorem cv_X9_329 : a_CV RX9 329 yX8_need I_X8_need 2 := ⟨rfl, ⟨by decide, by decide, by decide +kernel⟩, k_394, k_395, k_396, k_3, a_cd0 rfl k_397⟩
theorem cv_X9_339 : a_CV RX9 339 yX4_clear I_X4_clear 0 := ⟨rfl, ⟨by decide, by decide, by decide +kernel⟩, k_410, k_411, k_412, k_11, a_cd0 rfl k_413⟩
theorem cv_X9_342 : a_CV RX9 342 yX4_put I_X4_put 1 := ⟨rfl, ⟨by decide, by decide, by decide +kernel⟩, k_414, k_415, k_416, k_11, a_cd0 rfl k_417⟩
theorem cv_X9_343 : a_CV RX9 343 yX4_putMachine I_X4_putMachine 2 := ⟨rfl, ⟨by decide, by decide, by decide +kernel⟩, k_418, k_419, k_420, k_11, a_cd0 rfl k_421⟩
theorem cv_X9_358 : a_CV RX9 358 yX0_restore I_X0_restore 1 := ⟨rfl, ⟨by decide, by decide, by decide +kernel⟩, k_1173, k_1174, k_1175, k_9, a_cd0 rfl k_1176⟩
theorem cv_X9_361 : a_CV RX9 361 yX8_has I_X8_has 1 := ⟨rfl, ⟨by decide, by decide, by decide +kernel⟩, k_838, k_390, k_391, k_3, a_cd0 rfl k_392⟩
theorem cv_X9_366 : a_CV RX9 366 yX3_has I_X3_has 1 := ⟨rfl, ⟨by decide, by decide, by decide +kernel⟩, k_977, k_427, k_428, k_5, a_cd0 rfl k_429⟩
theorem cv_X9_369 : a_CV RX9 369 yX1_has I_X1_has 1 := ⟨rfl, ⟨by decide, by decide, by decide +kernel⟩, k_1001, k_436, k_437, k_6, a_cd0 rfl k_438⟩
theorem cv_X9_372 : a_CV RX9 372 yX1_isOpen I_X1_isOpen 1 := ⟨rfl, ⟨by decide, by decide, by decide +kernel⟩, k_1050, k_1051, k_1052, k_6, a_cd0 rfl k_1053⟩
theorem cv_X10_35 : a_CV RX10 35 yX10_begins I_X10_begins 0 := ⟨rfl, ⟨by decide, by decide, by decide +kernel⟩, k_1183, k_1185, a_inP (q := (yX10_begins, 20)) 36 (by decide +kernel), k_12, a_cd0 rfl k_1186⟩
theorem cv_X10_38 : a_CV RX10 38 yX10_becomes I_X10_becomes 2 := ⟨rfl, ⟨by decide, by decide, by decide +kernel⟩, k_1187, k_1189, a_inP (q := (yX10_becomes, 20)) 37 (by decide +kernel), k_12, a_cd0 rfl k_1190⟩
theorem cs_X10_54 : a_CS RX10 54 yX10_isIn I_X10_isIn 3 := ⟨⟨by decide, by decide, by decide +kernel⟩, Or.inl k_1268, k_1269, k_12, a_cd0 rfl k_1270⟩
theorem cv_X10_64 : a_CV RX10 64 yX10_see I_X10_see 1 := ⟨rfl, ⟨by decide, by decide, by decide +kernel⟩, k_1278, k_1280, a_inP (q := (yX10_see, 20)) 39 (by decide +kernel), k_12, a_cd0 rfl k_1281⟩
theorem cs_X10_71 : a_CS RX10 71 yX10_isLetter I_X10_isLetter 1 := ⟨⟨by decide, by decide, by decide +kernel⟩, Or.inl k_1282, k_1283, k_12, a_cd0 rfl k_1284⟩
theorem cs_X10_75 : a_CS RX10 75 yX10_isDigit I_X10_isDigit 1 := ⟨⟨by decide, by decide, by decide +kernel⟩, Or.inl k_1285, k_1286, k_12, a_cd0 rfl k_1287⟩
theorem cv_X10_97 : a_CV RX10 97 yX10_fails I_X10_fails 1 := ⟨rfl, ⟨by decide, by decide, by decide +kernel⟩, k_1303, k_1305, a_inP (q := (yX10_fails, 20)) 43 (by decide +kernel), k_12, a_cd0 rfl k_1306⟩
theorem cv_X10_101 : a_CV RX10 101 yX10_next I_X10_next 0 := ⟨rfl, ⟨by decide, by decide, by decide +kernel⟩, k_1274, k_1276, a_inP (q := (yX10_next, 20)) 38 (by decide +kernel), k_12, a_cd0 rfl k_1277⟩
theorem cv_X10_104 : a_CV RX10 104 yX10_must I_X10_must 1 := ⟨rfl, ⟨by decide, by decide, by decide +kernel⟩, k_1307, k_1309, a_inP (q := (yX10_must, 20)) 44 (by decide +kernel), k_12, a_cd0 rfl k_1310⟩
theorem cv_X10_108 : a_CV RX10 108 yX10_hasJobs I_X10_hasJobs 1 := ⟨rfl, ⟨by decide, by decide, by decide +kernel⟩, k_1311, k_1313, a_inP (q := (yX10_hasJobs, 20)) 45 (by decide +kernel), k_12, a_cd0 rfl k_1314⟩
theorem cv_X10_111 : a_CV RX10 111 yX10_takes I_X10_takes 2 := ⟨rfl, ⟨by decide, by decide, by decide +kernel⟩, k_1319, k_1321, a_inP (q := (yX10_takes, 20)) 47 (by decide +kernel), k_12, a_cd0 rfl k_1322⟩
theorem cv_X10_115 : a_CV RX10 115 yX10_addsUser I_X10_addsUser 2 := ⟨rfl, ⟨by decide, by decide, by decide +kernel⟩, k_1323, k_1325, a_inP (q := (yX10_addsUser, 20)) 48 (by decide +kernel), k_12, a_cd0 rfl k_1326⟩
theorem cv_X10_119 : a_CV RX10 119 yX10_isLeaf I_X10_isLeaf 1 := ⟨rfl, ⟨by decide, by decide, by decide +kernel⟩, k_1337, k_1339, a_inP (q := (yX10_isLeaf, 20)) 51 (by decide +kernel), k_12, a_cd0 rfl k_1340⟩
theorem cv_X10_122 : a_CV RX10 122 yX10_addsJob I_X10_addsJob 2 := ⟨rfl, ⟨by decide, by decide, by decide +kernel⟩, k_1345, k_1347, a_inP (q := (yX10_addsJob, 20)) 53 (by decide +kernel), k_12, a_cd0 rfl k_1348⟩
theorem cs_X10_125 : a_CS RX10 125 yX10_least I_X10_least 1 := ⟨⟨by decide, by decide, by decide +kernel⟩, Or.inl k_1358, k_1359, k_12, a_cd0 rfl k_1360⟩
theorem cs_X10_128 : a_CS RX10 128 yX10_most I_X10_most 1 := ⟨⟨by decide, by decide, by decide +kernel⟩, Or.inl k_1361, k_1362, k_12, a_cd0 rfl k_1363⟩
theorem cv_X10_133 : a_CV RX10 133 yX10_isWord I_X10_isWord 1 := ⟨rfl, ⟨by decide, by decide, by decide +kernel⟩, k_1293, k_1295, a_inP (q := (yX10_isWord, 20)) 41 (by decide +kernel), k_12, a_cd0 rfl k_1296⟩
theorem cv_X10_137 : a_CV RX10 137 yX10_readsUser I_X10_readsUser 0 := ⟨rfl, ⟨by decide, by decide, by decide +kernel⟩, k_1299, k_1301, a_inP (q := (yX10_readsUser, 20)) 42 (by decide +kernel), k_12, a_cd0 rfl k_1302⟩
theorem cv_X10_142 : a_CV RX10 142 yX10_readsMachine I_X10_readsMachine 0 := ⟨rfl, ⟨by decide, by decide, by decide +kernel⟩, k_1328, k_1330, a_inP (q := (yX10_readsMachine, 20)) 49 (by decide +kernel), k_12, a_cd0 rfl k_1331⟩
theorem cv_X10_147 : a_CV RX10 147 yX10_readsJob I_X10_readsJob 0 := ⟨rfl, ⟨by decide, by decide, by decide +kernel⟩, k_1333, k_1335, a_inP (q := (yX10_readsJob, 20)) 50 (by decide +kernel), k_12, a_cd0 rfl k_1336⟩
theorem cv_X10_152 : a_CV RX10 152 yX10_readsSetting I_X10_readsSetting 1 := ⟨rfl, ⟨by decide, by decide, by decide +kernel⟩, k_1354, k_1356, a_inP (q := (yX10_readsSetting, 20)) 55 (by decide +kernel), k_12, a_cd0 rfl k_1357⟩
theorem cs_X10_159 : a_CS RX10 159 yX10_sets I_X10_sets 2 := ⟨⟨by decide, by decide, by decide +kernel⟩, Or.inl k_1271, k_1272, k_12, a_cd0 rfl k_1273⟩
theorem cv_X10_163 : a_CV RX10 163 yX10_readsStatement I_X10_readsStatement 0 := ⟨rfl, ⟨by decide, by decide, by decide +kernel⟩, k_1288, k_1290, a_inP (q := (yX10_readsStatement, 20)) 40 (by decide +kernel), k_12, a_cd0 rfl k_1291⟩
theorem cv_X10_166 : a_CV RX10 166 yX10_fills I_X10_fills 0 := ⟨rfl, ⟨by decide, by decide, by decide +kernel⟩, k_1366, k_1368, a_inP (q := (yX10_fills, 20)) 56 (by decide +kernel), k_12, a_cd0 rfl k_1369⟩
theorem cv_X10_169 : a_CV RX10 169 yX10_keeps I_X10_keeps 0 := ⟨rfl, ⟨by decide, by decide, by decide +kernel⟩, k_1420, k_1422, a_inP (q := (yX10_keeps, 20)) 69 (by decide +kernel), k_12, a_cd0 rfl k_1423⟩
theorem cv_X10_172 : a_CV RX10 172 yX10_childrenOf I_X10_childrenOf 1 := ⟨rfl, ⟨by decide, by decide, by decide +kernel⟩, k_1341, k_1343, a_inP (q := (yX10_childrenOf, 20)) 52 (by decide +kernel), k_12, a_cd0 rfl k_1344⟩
theorem cv_X10_175 : a_CV RX10 175 yX10_of I_X10_of 2 := ⟨rfl, ⟨by decide, by decide, by decide +kernel⟩, k_1315, k_1317, a_inP (q := (yX10_of, 20)) 46 (by decide +kernel), k_12, a_cd0 rfl k_1318⟩
theorem cv_X10_178 : a_CV RX10 178 yX10_lent I_X10_lent 2 := ⟨rfl, ⟨by decide, by decide, by decide +kernel⟩, k_1387, k_1389, a_inP (q := (yX10_lent, 20)) 61 (by decide +kernel), k_12, a_cd0 rfl k_1390⟩
theorem cv_X10_182 (d : Nat) : a_CV RX10 182 yX10_baseOf (I_X10_baseOf d) 1 := ⟨rfl, ⟨by decide, by decide, by decide +kernel⟩, k_1378, k_1380, a_inP (q := (yX10_baseOf, 20)) 59 (by decide +kernel), k_12, a_cd0 rfl k_1381⟩
theorem cv_X10_185 : a_CV RX10 185 yX10_isLent I_X10_isLent 1 := ⟨rfl, ⟨by decide, by decide, by decide +kernel⟩, k_1383, k_1385, a_inP (q := (yX10_isLent, 20)) 60 (by decide +kernel), k_12, a_cd0 rfl k_1386⟩
theorem cv_X10_188 : a_CV RX10 188 yX10_isBelow I_X10_isBelow 2 := ⟨rfl, ⟨by decide, by decide, by decide +kernel⟩, k_1440, k_1442, a_inP (q := (yX10_isBelow, 20)) 72 (by decide +kernel), k_12, a_cd0 rfl k_1443⟩
theorem cv_X10_192 : a_CV RX10 192 yX10_isUser I_X10_isUser 1 := ⟨rfl, ⟨by decide, by decide, by decide +kernel⟩, k_1432, k_1434, a_inP (q := (yX10_isUser, 20)) 70 (by decide +kernel), k_12, a_cd0 rfl k_1435⟩
theorem cv_X10_195 : a_CV RX10 195 yX10_ticketsOf I_X10_ticketsOf 1 := ⟨rfl, ⟨by decide, by decide, by decide +kernel⟩, k_1374, k_1376, a_inP (q := (yX10_ticketsOf, 20)) 58 (by decide +kernel), k_12, a_cd0 rfl k_1377⟩
theorem cv_X10_198 : a_CV RX10 198 yX10_useOf I_X10_useOf 1 := ⟨rfl, ⟨by decide, by decide, by decide +kernel⟩, k_1436, k_1438, a_inP (q := (yX10_useOf, 20)) 71 (by decide +kernel), k_12, a_cd0 rfl k_1439⟩
theorem cv_X10_201 : a_CV RX10 201 yX10_jobsOf I_X10_jobsOf 2 := ⟨rfl, ⟨by decide, by decide, by decide +kernel⟩, k_1444, k_1446, a_inP (q := (yX10_jobsOf, 20)) 73 (by decide +kernel), k_12, a_cd0 rfl k_1447⟩
theorem cv_X10_204 : a_CV RX10 204 yX10_hasLoan I_X10_hasLoan 1 := ⟨rfl, ⟨by decide, by decide, by decide +kernel⟩, k_1452, k_1454, a_inP (q := (yX10_hasLoan, 20)) 74 (by decide +kernel), k_12, a_cd0 rfl k_1455⟩
theorem cv_X10_208 : a_CV RX10 208 yX10_cannotLend I_X10_cannotLend 3 := ⟨rfl, ⟨by decide, by decide, by decide +kernel⟩, k_1465, k_1467, a_inP (q := (yX10_cannotLend, 20)) 75 (by decide +kernel), k_12, a_cd0 rfl k_1468⟩
theorem cv_X10_211 : a_CV RX10 211 yX10_goneAt I_X10_goneAt 1 := ⟨rfl, ⟨by decide, by decide, by decide +kernel⟩, k_1473, k_1475, a_inP (q := (yX10_goneAt, 20)) 76 (by decide +kernel), k_12, a_cd0 rfl k_1476⟩
theorem cv_X10_216 : a_CV RX10 216 yX10_loadOf I_X10_loadOf 1 := ⟨rfl, ⟨by decide, by decide, by decide +kernel⟩, k_1399, k_1401, a_inP (q := (yX10_loadOf, 20)) 64 (by decide +kernel), k_12, a_cd0 rfl k_1402⟩
theorem cv_X10_219 : a_CV RX10 219 yX10_worthOf I_X10_worthOf 2 := ⟨rfl, ⟨by decide, by decide, by decide +kernel⟩, k_1403, k_1405, a_inP (q := (yX10_worthOf, 20)) 65 (by decide +kernel), k_12, a_cd0 rfl k_1406⟩
theorem cv_X10_223 : a_CV RX10 223 yX10_jobWorth I_X10_jobWorth 1 := ⟨rfl, ⟨by decide, by decide, by decide +kernel⟩, k_1395, k_1397, a_inP (q := (yX10_jobWorth, 20)) 63 (by decide +kernel), k_12, a_cd0 rfl k_1398⟩
theorem cv_X10_227 : a_CV RX10 227 yX10_worksTickets I_X10_worksTickets 0 := ⟨rfl, ⟨by decide, by decide, by decide +kernel⟩, k_1370, k_1372, a_inP (q := (yX10_worksTickets, 20)) 57 (by decide +kernel), k_12, a_cd0 rfl k_1373⟩
theorem cv_X10_230 : a_CV RX10 230 yX10_runningOn I_X10_runningOn 1 := ⟨rfl, ⟨by decide, by decide, by decide +kernel⟩, k_1412, k_1414, a_inP (q := (yX10_runningOn, 20)) 67 (by decide +kernel), k_12, a_cd0 rfl k_1415⟩
theorem cv_X10_233 : a_CV RX10 233 yX10_lays I_X10_lays 3 := ⟨rfl, ⟨by decide, by decide, by decide +kernel⟩, k_1349, k_1351, a_inP (q := (yX10_lays, 20)) 54 (by decide +kernel), k_12, a_cd0 rfl k_1352⟩
theorem cv_X10_237 : a_CV RX10 237 yX10_bestWaiting I_X10_bestWaiting 0 := ⟨rfl, ⟨by decide, by decide, by decide +kernel⟩, k_1391, k_1393, a_inP (q := (yX10_bestWaiting, 20)) 62 (by decide +kernel), k_12, a_cd0 rfl k_1394⟩
theorem cv_X10_240 : a_CV RX10 240 yX10_freeMachine I_X10_freeMachine 0 := ⟨rfl, ⟨by decide, by decide, by decide +kernel⟩, k_1408, k_1410, a_inP (q := (yX10_freeMachine, 20)) 66 (by decide +kernel), k_12, a_cd0 rfl k_1411⟩
theorem cv_X10_243 : a_CV RX10 243 yX10_runs I_X10_runs 2 := ⟨rfl, ⟨by decide, by decide, by decide +kernel⟩, k_1416, k_1418, a_inP (q := (yX10_runs, 20)) 68 (by decide +kernel), k_12, a_cd0 rfl k_1419⟩
theorem cv_X10_246 : a_CV RX10 246 yX10_leastRunning I_X10_leastRunning 1 := ⟨rfl, ⟨by decide, by decide, by decide +kernel⟩, k_1497, k_1499, a_inP (q := (yX10_leastRunning, 20)) 78 (by decide +kernel), k_12, a_cd0 rfl k_1500⟩
theorem cv_X10_251 : a_CV RX10 251 yX10_interrupts I_X10_interrupts 1 := ⟨rfl, ⟨by decide, by decide, by decide +kernel⟩, k_1529, k_1531, a_inP (q := (yX10_interrupts, 20)) 81 (by decide +kernel), k_12, a_cd0 rfl k_1532⟩
theorem cv_X10_254 : a_CV RX10 254 yX10_isMachine I_X10_isMachine 1 := ⟨rfl, ⟨by decide, by decide, by decide +kernel⟩, k_1493, k_1495, a_inP (q := (yX10_isMachine, 20)) 77 (by decide +kernel), k_12, a_cd0 rfl k_1496⟩
theorem cv_X10_257 : a_CV RX10 257 yX10_isJob I_X10_isJob 1 := ⟨rfl, ⟨by decide, by decide, by decide +kernel⟩, k_1505, k_1507, a_inP (q := (yX10_isJob, 20)) 79 (by decide +kernel), k_12, a_cd0 rfl k_1508⟩
theorem cv_X10_260 : a_CV RX10 260 yX10_ends I_X10_ends 2 := ⟨rfl, ⟨by decide, by decide, by decide +kernel⟩, k_1521, k_1523, a_inP (q := (yX10_ends, 20)) 80 (by decide +kernel), k_12, a_cd0 rfl k_1524⟩
theorem cv_X10_263 : a_CV RX10 263 yX10_inState I_X10_inState 1 := ⟨rfl, ⟨by decide, by decide, by decide +kernel⟩, k_1541, k_1543, a_inP (q := (yX10_inState, 20)) 82 (by decide +kernel), k_12, a_cd0 rfl k_1544⟩
theorem cv_X10_266 : a_CV RX10 266 yX10_freeSlots I_X10_freeSlots 0 := ⟨rfl, ⟨by decide, by decide, by decide +kernel⟩, k_1545, k_1547, a_inP (q := (yX10_freeSlots, 20)) 83 (by decide +kernel), k_12, a_cd0 rfl k_1548⟩
theorem cv_X10_269 : a_CV RX10 269 yX10_endsLoans I_X10_endsLoans 0 := ⟨rfl, ⟨by decide, by decide, by decide +kernel⟩, k_1557, k_1559, a_inP (q := (yX10_endsLoans, 20)) 85 (by decide +kernel), k_12, a_cd0 rfl k_1560⟩
theorem cv_X10_272 : a_CV RX10 272 yX10_preempts I_X10_preempts 0 := ⟨rfl, ⟨by decide, by decide, by decide +kernel⟩, k_1561, k_1563, a_inP (q := (yX10_preempts, 20)) 86 (by decide +kernel), k_12, a_cd0 rfl k_1564⟩
theorem cv_X10_275 : a_CV RX10 275 yX10_ticksOnce I_X10_ticksOnce 0 := ⟨rfl, ⟨by decide, by decide, by decide +kernel⟩, k_1553, k_1555, a_inP (q := (yX10_ticksOnce, 20)) 84 (by decide +kernel), k_12, a_cd0 rfl k_1556⟩
theorem cv_X10_283 : a_CV RX10 283 yX10_lackOf I_X10_lackOf 1 := ⟨rfl, ⟨by decide, by decide, by decide +kernel⟩, k_1578, k_1580, a_inP (q := (yX10_lackOf, 20)) 87 (by decide +kernel), k_12, a_cd0 rfl k_1581⟩
theorem cv_X10_289 : a_CV RX10 289 yX10_says I_X10_says 1 := ⟨rfl, ⟨by decide, by decide, by decide +kernel⟩, k_1595, k_1597, a_inP (q := (yX10_says, 20)) 88 (by decide +kernel), k_12, a_cd0 rfl k_1598⟩
theorem cv_X10_292 : a_CV RX10 292 yX10_saysJobs I_X10_saysJobs 1 := ⟨rfl, ⟨by decide, by decide, by decide +kernel⟩, k_1599, k_1601, a_inP (q := (yX10_saysJobs, 20)) 89 (by decide +kernel), k_12, a_cd0 rfl k_1602⟩
theorem cv_L_7 : a_CV RL 7 yX9_append I_X9_append 5 := ⟨rfl, ⟨by decide, by decide, by decide +kernel⟩, k_447, k_448, k_449, k_1, a_cd0 rfl k_450⟩
theorem cv_L_15 : a_CV RL 15 yX9_load I_X9_load 1 := ⟨rfl, ⟨by decide, by decide, by decide +kernel⟩, k_527, k_528, k_529, k_1, a_cd0 rfl k_530⟩
theorem cv_L_21 : a_CV RL 21 yX9_count I_X9_count 1 := ⟨rfl, ⟨by decide, by decide, by decide +kernel⟩, k_813, k_814, k_815, k_1, a_cd0 rfl k_816⟩
theorem cv_L_24 : a_CV RL 24 yX9_user I_X9_user 2 := ⟨rfl, ⟨by decide, by decide, by decide +kernel⟩, k_830, k_831, k_832, k_1, a_cd0 rfl k_833⟩
theorem cv_L_30 : a_CV RL 30 yX9_addUser I_X9_addUser 2 := ⟨rfl, ⟨by decide, by decide, by decide +kernel⟩, k_861, k_862, k_863, k_1, a_cd0 rfl k_864⟩
theorem cv_L_33 : a_CV RL 33 yX9_setShares I_X9_setShares 2 := ⟨rfl, ⟨by decide, by decide, by decide +kernel⟩, k_880, k_881, k_882, k_1, a_cd0 rfl k_883⟩
theorem cv_L_36 : a_CV RL 36 yX9_lend I_X9_lend 4 := ⟨rfl, ⟨by decide, by decide, by decide +kernel⟩, k_892, k_893, k_894, k_1, a_cd0 rfl k_895⟩
theorem cv_L_40 : a_CV RL 40 yX9_loan I_X9_loan 2 := ⟨rfl, ⟨by decide, by decide, by decide +kernel⟩, k_916, k_917, k_918, k_1, a_cd0 rfl k_919⟩
theorem cv_L_43 : a_CV RL 43 yX9_balance I_X9_balance 1 := ⟨rfl, ⟨by decide, by decide, by decide +kernel⟩, k_931, k_932, k_933, k_1, a_cd0 rfl k_934⟩
theorem cv_L_46 : a_CV RL 46 yX9_ranked I_X9_ranked 1 := ⟨rfl, ⟨by decide, by decide, by decide +kernel⟩, k_944, k_945, k_946, k_1, a_cd0 rfl k_947⟩
theorem cv_L_49 : a_CV RL 49 yX9_worth I_X9_worth 2 := ⟨rfl, ⟨by decide, by decide, by decide +kernel⟩, k_961, k_962, k_963, k_1, a_cd0 rfl k_964⟩
theorem cv_L_53 : a_CV RL 53 yX9_machine I_X9_machine 2 := ⟨rfl, ⟨by decide, by decide, by decide +kernel⟩, k_969, k_970, k_971, k_1, a_cd0 rfl k_972⟩
theorem cv_L_56 : a_CV RL 56 yX9_job I_X9_job 2 := ⟨rfl, ⟨by decide, by decide, by decide +kernel⟩, k_993, k_994, k_995, k_1, a_cd0 rfl k_996⟩
theorem cv_L_59 : a_CV RL 59 yX9_first I_X9_first 0 := ⟨rfl, ⟨by decide, by decide, by decide +kernel⟩, k_1008, k_1009, k_1010, k_1, a_cd0 rfl k_1011⟩
theorem cv_L_65 : a_CV RL 65 yX9_submit I_X9_submit 2 := ⟨rfl, ⟨by decide, by decide, by decide +kernel⟩, k_1032, k_1033, k_1034, k_1, a_cd0 rfl k_1035⟩
theorem cv_L_68 : a_CV RL 68 yX9_cancel I_X9_cancel 1 := ⟨rfl, ⟨by decide, by decide, by decide +kernel⟩, k_1042, k_1043, k_1044, k_1, a_cd0 rfl k_1045⟩
theorem cv_L_71 : a_CV RL 71 yX9_setUp I_X9_setUp 2 := ⟨rfl, ⟨by decide, by decide, by decide +kernel⟩, k_1062, k_1063, k_1064, k_1, a_cd0 rfl k_1065⟩
theorem cv_L_75 : a_CV RL 75 yX9_set I_X9_set 2 := ⟨rfl, ⟨by decide, by decide, by decide +kernel⟩, k_1089, k_1090, k_1091, k_1, a_cd0 rfl k_1092⟩
theorem cv_L_78 : a_CV RL 78 yX9_tick I_X9_tick 1 := ⟨rfl, ⟨by decide, by decide, by decide +kernel⟩, k_1099, k_1100, k_1101, k_1, a_cd0 rfl k_1102⟩
theorem cv_L_81 : a_CV RL 81 yX9_finishedIn I_X9_finishedIn 1 := ⟨rfl, ⟨by decide, by decide, by decide +kernel⟩, k_1138, k_1139, k_1140, k_1, a_cd0 rfl k_1141⟩
theorem cv_L_84 : a_CV RL 84 yX9_ahead I_X9_ahead 2 := ⟨rfl, ⟨by decide, by decide, by decide +kernel⟩, k_1145, k_1146, k_1147, k_1, a_cd0 rfl k_1148⟩
theorem cv_L_87 : a_CV RL 87 yX9_part I_X9_part 1 := ⟨rfl, ⟨by decide, by decide, by decide +kernel⟩, k_1152, k_1153, k_1154, k_1, a_cd0 rfl k_1155⟩
theorem cv_L_91 : a_CV RL 91 yX9_writtenByte I_X9_writtenByte 1 := ⟨rfl, ⟨by decide, by decide, by decide +kernel⟩, k_1160, k_1161, k_1162, k_1, a_cd0 rfl k_1163⟩
theorem cv_L_94 : a_CV RL 94 yX9_undo I_X9_undo 0 := ⟨rfl, ⟨by decide, by decide, by decide +kernel⟩, k_1168, k_1169, k_1170, k_1, a_cd0 rfl k_1171⟩
theorem ci_L_97 : a_CI RL 97 yX9_init I_X9_init 0 := ⟨rfl, rfl, rfl, ⟨by decide, by decide, by decide +kernel⟩, Or.inl k_27, k_28, k_1, a_cd0 rfl k_29⟩
theorem ci_L_100 : a_CI RL 100 yX10_init I_X10_init 0 := ⟨rfl, rfl, rfl, ⟨by decide, by decide, by decide +kernel⟩, Or.inl k_1179, k_1180, k_12, a_cd0 rfl k_1181⟩
theorem cs_L_101 : a_CS RL 101 yL_append I_L_append 7 := ⟨⟨by decide, by decide, by decide +kernel⟩, Or.inl k_443, k_444, k_0, a_cdW (by decide) k_445⟩
theorem cv_L_106 : a_CV RL 106 yX10_append I_X10_append 5 := ⟨rfl, ⟨by decide, by decide, by decide +kernel⟩, k_1260, k_1261, k_1262, k_12, a_cd0 rfl k_1263⟩
theorem cv_L_107 : a_CV RL 107 yX10_thrown I_X10_thrown 0 := ⟨rfl, ⟨by decide, by decide, by decide +kernel⟩, k_1252, k_1253, k_1254, k_12, a_cd0 rfl k_1255⟩
theorem cs_L_110 : a_CS RL 110 yL_load I_L_load 3 := ⟨⟨by decide, by decide, by decide +kernel⟩, Or.inl k_523, k_524, k_0, a_cdW (by decide) k_525⟩
theorem cv_L_113 : a_CV RL 113 yX10_load I_X10_load 1 := ⟨rfl, ⟨by decide, by decide, by decide +kernel⟩, k_1264, k_1265, k_1266, k_12, a_cd0 rfl k_1267⟩
theorem cv_L_114 : a_CV RL 114 yX9_errorPosition I_X9_errorPosition 0 := ⟨rfl, ⟨by decide, by decide, by decide +kernel⟩, k_365, k_366, k_367, k_1, a_cd0 rfl k_368⟩
theorem cv_L_117 : a_CV RL 117 yX10_errorPosition I_X10_errorPosition 0 := ⟨rfl, ⟨by decide, by decide, by decide +kernel⟩, k_1424, k_1425, k_1426, k_12, a_cd0 rfl k_1427⟩
theorem cs_L_118 : a_CS RL 118 yL_count I_L_count 3 := ⟨⟨by decide, by decide, by decide +kernel⟩, Or.inl k_810, k_811, k_0, a_cdW (by decide) k_812⟩
theorem cv_L_120 : a_CV RL 120 yX10_count I_X10_count 1 := ⟨rfl, ⟨by decide, by decide, by decide +kernel⟩, k_1537, k_1538, k_1539, k_12, a_cd0 rfl k_1540⟩
theorem cs_L_121 : a_CS RL 121 yL_user I_L_user 4 := ⟨⟨by decide, by decide, by decide +kernel⟩, Or.inl k_826, k_827, k_0, a_cdW (by decide) k_828⟩
theorem cv_L_124 : a_CV RL 124 yX10_user I_X10_user 2 := ⟨rfl, ⟨by decide, by decide, by decide +kernel⟩, k_1428, k_1429, k_1430, k_12, a_cd0 rfl k_1431⟩
theorem cs_L_125 : a_CS RL 125 yL_addUser I_L_addUser 4 := ⟨⟨by decide, by decide, by decide +kernel⟩, Or.inl k_858, k_859, k_0, a_cdW (by decide) k_860⟩
theorem cv_L_127 : a_CV RL 127 yX10_addUser I_X10_addUser 2 := ⟨rfl, ⟨by decide, by decide, by decide +kernel⟩, k_1448, k_1449, k_1450, k_12, a_cd0 rfl k_1451⟩
theorem cs_L_128 : a_CS RL 128 yL_setShares I_L_setShares 4 := ⟨⟨by decide, by decide, by decide +kernel⟩, Or.inl k_877, k_878, k_0, a_cdW (by decide) k_879⟩
theorem cv_L_130 : a_CV RL 130 yX10_setShares I_X10_setShares 2 := ⟨rfl, ⟨by decide, by decide, by decide +kernel⟩, k_1456, k_1457, k_1458, k_12, a_cd0 rfl k_1459⟩
theorem cs_L_131 : a_CS RL 131 yL_lend I_L_lend 6 := ⟨⟨by decide, by decide, by decide +kernel⟩, Or.inl k_889, k_890, k_0, a_cdW (by decide) k_891⟩
theorem cv_L_134 : a_CV RL 134 yX10_lend I_X10_lend 4 := ⟨rfl, ⟨by decide, by decide, by decide +kernel⟩, k_1460, k_1461, k_1462, k_12, a_cd0 rfl k_1463⟩
theorem cs_L_135 : a_CS RL 135 yL_loan I_L_loan 4 := ⟨⟨by decide, by decide, by decide +kernel⟩, Or.inl k_913, k_914, k_0, a_cdW (by decide) k_915⟩
theorem cv_L_137 : a_CV RL 137 yX10_loan I_X10_loan 2 := ⟨rfl, ⟨by decide, by decide, by decide +kernel⟩, k_1469, k_1470, k_1471, k_12, a_cd0 rfl k_1472⟩
theorem cs_L_138 : a_CS RL 138 yL_balance I_L_balance 3 := ⟨⟨by decide, by decide, by decide +kernel⟩, Or.inl k_928, k_929, k_0, a_cdW (by decide) k_930⟩
theorem cv_L_140 : a_CV RL 140 yX10_balance I_X10_balance 1 := ⟨rfl, ⟨by decide, by decide, by decide +kernel⟩, k_1477, k_1478, k_1479, k_12, a_cd0 rfl k_1480⟩
theorem cs_L_141 : a_CS RL 141 yL_ranked I_L_ranked 3 := ⟨⟨by decide, by decide, by decide +kernel⟩, Or.inl k_941, k_942, k_0, a_cdW (by decide) k_943⟩
theorem cv_L_143 : a_CV RL 143 yX10_ranked I_X10_ranked 1 := ⟨rfl, ⟨by decide, by decide, by decide +kernel⟩, k_1481, k_1482, k_1483, k_12, a_cd0 rfl k_1484⟩
theorem cs_L_144 : a_CS RL 144 yL_worth I_L_worth 4 := ⟨⟨by decide, by decide, by decide +kernel⟩, Or.inl k_958, k_959, k_0, a_cdW (by decide) k_960⟩
theorem cv_L_146 : a_CV RL 146 yX10_worth I_X10_worth 2 := ⟨rfl, ⟨by decide, by decide, by decide +kernel⟩, k_1485, k_1486, k_1487, k_12, a_cd0 rfl k_1488⟩
theorem cs_L_147 : a_CS RL 147 yL_machine I_L_machine 4 := ⟨⟨by decide, by decide, by decide +kernel⟩, Or.inl k_966, k_967, k_0, a_cdW (by decide) k_968⟩
theorem cv_L_149 : a_CV RL 149 yX10_machine I_X10_machine 2 := ⟨rfl, ⟨by decide, by decide, by decide +kernel⟩, k_1489, k_1490, k_1491, k_12, a_cd0 rfl k_1492⟩
theorem cs_L_150 : a_CS RL 150 yL_job I_L_job 4 := ⟨⟨by decide, by decide, by decide +kernel⟩, Or.inl k_990, k_991, k_0, a_cdW (by decide) k_992⟩
theorem cv_L_152 : a_CV RL 152 yX10_job I_X10_job 2 := ⟨rfl, ⟨by decide, by decide, by decide +kernel⟩, k_1501, k_1502, k_1503, k_12, a_cd0 rfl k_1504⟩
theorem cs_L_153 : a_CS RL 153 yL_first I_L_first 2 := ⟨⟨by decide, by decide, by decide +kernel⟩, Or.inl k_1004, k_1005, k_0, a_cdW (by decide) k_1006⟩
theorem cv_L_156 : a_CV RL 156 yX10_first I_X10_first 0 := ⟨rfl, ⟨by decide, by decide, by decide +kernel⟩, k_1509, k_1510, k_1511, k_12, a_cd0 rfl k_1512⟩
theorem cs_L_157 : a_CS RL 157 yL_submit I_L_submit 4 := ⟨⟨by decide, by decide, by decide +kernel⟩, Or.inl k_1029, k_1030, k_0, a_cdW (by decide) k_1031⟩
theorem cv_L_159 : a_CV RL 159 yX10_submit I_X10_submit 2 := ⟨rfl, ⟨by decide, by decide, by decide +kernel⟩, k_1513, k_1514, k_1515, k_12, a_cd0 rfl k_1516⟩
theorem cs_L_160 : a_CS RL 160 yL_cancel I_L_cancel 3 := ⟨⟨by decide, by decide, by decide +kernel⟩, Or.inl k_1039, k_1040, k_0, a_cdW (by decide) k_1041⟩
theorem cv_L_162 : a_CV RL 162 yX10_cancel I_X10_cancel 1 := ⟨rfl, ⟨by decide, by decide, by decide +kernel⟩, k_1517, k_1518, k_1519, k_12, a_cd0 rfl k_1520⟩
theorem cs_L_163 : a_CS RL 163 yL_setUp I_L_setUp 4 := ⟨⟨by decide, by decide, by decide +kernel⟩, Or.inl k_1059, k_1060, k_0, a_cdW (by decide) k_1061⟩
theorem cv_L_166 : a_CV RL 166 yX10_setUp I_X10_setUp 2 := ⟨rfl, ⟨by decide, by decide, by decide +kernel⟩, k_1525, k_1526, k_1527, k_12, a_cd0 rfl k_1528⟩
theorem cs_L_167 : a_CS RL 167 yL_set I_L_set 4 := ⟨⟨by decide, by decide, by decide +kernel⟩, Or.inl k_1086, k_1087, k_0, a_cdW (by decide) k_1088⟩
theorem cv_L_169 : a_CV RL 169 yX10_set I_X10_set 2 := ⟨rfl, ⟨by decide, by decide, by decide +kernel⟩, k_1533, k_1534, k_1535, k_12, a_cd0 rfl k_1536⟩
theorem cs_L_170 : a_CS RL 170 yL_tick I_L_tick 3 := ⟨⟨by decide, by decide, by decide +kernel⟩, Or.inl k_1096, k_1097, k_0, a_cdW (by decide) k_1098⟩
theorem cv_L_172 : a_CV RL 172 yX10_tick I_X10_tick 1 := ⟨rfl, ⟨by decide, by decide, by decide +kernel⟩, k_1549, k_1550, k_1551, k_12, a_cd0 rfl k_1552⟩
theorem cs_L_173 : a_CS RL 173 yL_finishedIn I_L_finishedIn 3 := ⟨⟨by decide, by decide, by decide +kernel⟩, Or.inl k_1135, k_1136, k_0, a_cdW (by decide) k_1137⟩
theorem cv_L_175 : a_CV RL 175 yX10_finishedIn I_X10_finishedIn 1 := ⟨rfl, ⟨by decide, by decide, by decide +kernel⟩, k_1566, k_1567, k_1568, k_12, a_cd0 rfl k_1569⟩
theorem cs_L_176 : a_CS RL 176 yL_ahead I_L_ahead 4 := ⟨⟨by decide, by decide, by decide +kernel⟩, Or.inl k_1142, k_1143, k_0, a_cdW (by decide) k_1144⟩
theorem cv_L_178 : a_CV RL 178 yX10_ahead I_X10_ahead 2 := ⟨rfl, ⟨by decide, by decide, by decide +kernel⟩, k_1570, k_1571, k_1572, k_12, a_cd0 rfl k_1573⟩
theorem cv_L_179 : a_CV RL 179 yX9_drift I_X9_drift 0 := ⟨rfl, ⟨by decide, by decide, by decide +kernel⟩, k_369, k_370, k_371, k_1, a_cd0 rfl k_372⟩
theorem cv_L_182 : a_CV RL 182 yX10_drift I_X10_drift 0 := ⟨rfl, ⟨by decide, by decide, by decide +kernel⟩, k_1574, k_1575, k_1576, k_12, a_cd0 rfl k_1577⟩
theorem cs_L_183 : a_CS RL 183 yL_part I_L_part 3 := ⟨⟨by decide, by decide, by decide +kernel⟩, Or.inl k_1149, k_1150, k_0, a_cdW (by decide) k_1151⟩
theorem cv_L_186 : a_CV RL 186 yX10_part I_X10_part 1 := ⟨rfl, ⟨by decide, by decide, by decide +kernel⟩, k_1583, k_1584, k_1585, k_12, a_cd0 rfl k_1586⟩
theorem cv_L_187 : a_CV RL 187 yX9_neediest I_X9_neediest 0 := ⟨rfl, ⟨by decide, by decide, by decide +kernel⟩, k_402, k_403, k_404, k_1, a_cd0 rfl k_405⟩
theorem cv_L_190 : a_CV RL 190 yX10_neediest I_X10_neediest 0 := ⟨rfl, ⟨by decide, by decide, by decide +kernel⟩, k_1587, k_1588, k_1589, k_12, a_cd0 rfl k_1590⟩
theorem cv_L_191 : a_CV RL 191 yX9_writeMachines I_X9_writeMachines 0 := ⟨rfl, ⟨by decide, by decide, by decide +kernel⟩, k_406, k_407, k_408, k_1, a_cd0 rfl k_409⟩
theorem cv_L_194 : a_CV RL 194 yX10_writeMachines I_X10_writeMachines 0 := ⟨rfl, ⟨by decide, by decide, by decide +kernel⟩, k_1591, k_1592, k_1593, k_12, a_cd0 rfl k_1594⟩
theorem cs_L_195 : a_CS RL 195 yL_writtenByte I_L_writtenByte 3 := ⟨⟨by decide, by decide, by decide +kernel⟩, Or.inl k_1157, k_1158, k_0, a_cdW (by decide) k_1159⟩
theorem cv_L_197 : a_CV RL 197 yX10_writtenByte I_X10_writtenByte 1 := ⟨rfl, ⟨by decide, by decide, by decide +kernel⟩, k_1603, k_1604, k_1605, k_12, a_cd0 rfl k_1606⟩
theorem cs_L_198 : a_CS RL 198 yL_undo I_L_undo 2 := ⟨⟨by decide, by decide, by decide +kernel⟩, Or.inl k_1165, k_1166, k_0, a_cdW (by decide) k_1167⟩
theorem cv_L_200 : a_CV RL 200 yX10_undo I_X10_undo 0 := ⟨rfl, ⟨by decide, by decide, by decide +kernel⟩, k_1256, k_1257, k_1258, k_12, a_cd0 rfl k_1259⟩
