def xPM (o : Nat) (r : Nat × Nat × Nat × Nat × Nat) : Prop := match r with
  | (i, 0, k, n, ci) => 0 < k ∧ k < xnM ∧ ci < 7 ∧ Cond.methodLink (xON o) i (xY k) ∈ xgw ∧ Cond.instanceMethod (xY k) ∈ xgw ∧ Cond.selects (xCN ci) (xY k) (xY k) ∈ xgw ∧ Cond.initialized (xY k).cls ∈ xgw ∧ (parseMethodDescriptor (xY k).desc).map (fun d => d.parameters.length) = some n
  | (i, 1, k, n, _) => 0 < k ∧ k < xnM ∧ Cond.methodLink (xON o) i (xY k) ∈ xgw ∧ Cond.static (xY k) ∈ xgw ∧ Cond.initialized (xY k).cls ∈ xgw ∧ (parseMethodDescriptor (xY k).desc).map (fun d => d.parameters.length) = some n
  | (i, 2, k, n, _) => 0 < k ∧ k < xnM ∧ (xY k).name = "<init>" ∧ xRt k = none ∧ Cond.methodLink (xON o) i (xY k) ∈ xgw ∧ Cond.instanceMethod (xY k) ∈ xgw ∧ Cond.initialized (xY k).cls ∈ xgw ∧ (parseMethodDescriptor (xY k).desc).map (fun d => d.parameters.length) = some n
  | (i, 3, _, _, _) => Cond.methodLink (xON o) i Lib.objectInit ∈ xgw
  | (i, 4, _, _, _) => Cond.methodLink (xON o) i arraycopyName ∈ xgw
  | (i, 6, k, n, _) => 0 < k ∧ k < xnM ∧ (xY k).name = "<init>" ∧ xRt k = none ∧ (∃ host, (xON o, i, xY k, host) ∈ xNs) ∧ Cond.instanceMethod (xY k) ∈ xgw ∧ Cond.initialized (xY k).cls ∈ xgw ∧ (parseMethodDescriptor (xY k).desc).map (fun d => d.parameters.length) = some n
  | _ => False
theorem q_m_0_1 : xPM 0 (1, 3, 0, 0, 0) := w_ml_0_1
theorem q_m_0_9 : xPM 0 (9, 6, 2, 0, 5) := ⟨by decide, by decide, rfl, rfl, ⟨"PageRaster", by decide +kernel⟩, w_im_2, w_in_5, by decide +kernel⟩
theorem q_m_0_18 : xPM 0 (18, 2, 3, 0, 1) := ⟨by decide, by decide, rfl, rfl, w_ml_0_18, w_im_3, w_in_1, by decide +kernel⟩
theorem q_m_0_23 : xPM 0 (23, 0, 8, 1, 5) := ⟨by decide, by decide, by decide, w_ml_0_23, w_im_8, w_se_8, w_in_5, by decide +kernel⟩
theorem q_m_0_31 : xPM 0 (31, 0, 13, 2, 1) := ⟨by decide, by decide, by decide, w_ml_0_31, w_im_13, w_se_13, w_in_1, by decide +kernel⟩
theorem q_m_0_35 : xPM 0 (35, 0, 19, 1, 1) := ⟨by decide, by decide, by decide, w_ml_0_35, w_im_19, w_se_19, w_in_1, by decide +kernel⟩
theorem q_m_0_49 : xPM 0 (49, 0, 64, 2, 2) := ⟨by decide, by decide, by decide, w_ml_0_49, w_im_64, w_se_64, w_in_2, by decide +kernel⟩
theorem q_m_0_55 : xPM 0 (55, 0, 66, 1, 2) := ⟨by decide, by decide, by decide, w_ml_0_55, w_im_66, w_se_66, w_in_2, by decide +kernel⟩
theorem q_m_0_67 : xPM 0 (67, 0, 17, 0, 1) := ⟨by decide, by decide, by decide, w_ml_0_67, w_im_17, w_se_17, w_in_1, by decide +kernel⟩
theorem q_m_0_71 : xPM 0 (71, 0, 71, 0, 4) := ⟨by decide, by decide, by decide, w_ml_0_71, w_im_71, w_se_71, w_in_4, by decide +kernel⟩
theorem q_M_0 : xAll (xPM 0) (xLM.getD 0 []) := ⟨q_m_0_1, q_m_0_9, q_m_0_18, q_m_0_23, q_m_0_31, q_m_0_35, q_m_0_49, q_m_0_55, q_m_0_67, q_m_0_71, trivial⟩
theorem q_m_1_3 : xPM 1 (3, 3, 0, 0, 0) := w_ml_1_3
theorem q_m_1_11 : xPM 1 (11, 6, 4, 0, 2) := ⟨by decide, by decide, rfl, rfl, ⟨"PageRaster", by decide +kernel⟩, w_im_4, w_in_2, by decide +kernel⟩
theorem q_m_1_20 : xPM 1 (20, 6, 5, 0, 3) := ⟨by decide, by decide, rfl, rfl, ⟨"PageRaster", by decide +kernel⟩, w_im_5, w_in_3, by decide +kernel⟩
theorem q_m_1_44 : xPM 1 (44, 6, 6, 0, 4) := ⟨by decide, by decide, rfl, rfl, ⟨"PageRaster", by decide +kernel⟩, w_im_6, w_in_4, by decide +kernel⟩
theorem q_m_1_52 : xPM 1 (52, 0, 14, 2, 2) := ⟨by decide, by decide, by decide, w_ml_1_52, w_im_14, w_se_14, w_in_2, by decide +kernel⟩
theorem q_m_1_56 : xPM 1 (56, 0, 16, 0, 3) := ⟨by decide, by decide, by decide, w_ml_1_56, w_im_16, w_se_16, w_in_3, by decide +kernel⟩
theorem q_m_1_77 : xPM 1 (77, 0, 17, 0, 1) := ⟨by decide, by decide, by decide, w_ml_1_77, w_im_17, w_se_17, w_in_1, by decide +kernel⟩
theorem q_m_1_81 : xPM 1 (81, 0, 18, 2, 4) := ⟨by decide, by decide, by decide, w_ml_1_81, w_im_18, w_se_18, w_in_4, by decide +kernel⟩
theorem q_m_1_90 : xPM 1 (90, 0, 20, 1, 5) := ⟨by decide, by decide, by decide, w_ml_1_90, w_im_20, w_se_20, w_in_5, by decide +kernel⟩
theorem q_m_1_94 : xPM 1 (94, 1, 23, 1, 0) := ⟨by decide, by decide, w_ml_1_94, w_st_23, w_in_5, by decide +kernel⟩
theorem q_m_1_98 : xPM 1 (98, 0, 24, 2, 1) := ⟨by decide, by decide, by decide, w_ml_1_98, w_im_24, w_se_24, w_in_1, by decide +kernel⟩
theorem q_m_1_101 : xPM 1 (101, 1, 25, 1, 0) := ⟨by decide, by decide, w_ml_1_101, w_st_25, w_in_5, by decide +kernel⟩
theorem q_m_1_104 : xPM 1 (104, 0, 28, 3, 1) := ⟨by decide, by decide, by decide, w_ml_1_104, w_im_28, w_se_28, w_in_1, by decide +kernel⟩
theorem q_m_1_131 : xPM 1 (131, 0, 29, 2, 5) := ⟨by decide, by decide, by decide, w_ml_1_131, w_im_29, w_se_29, w_in_5, by decide +kernel⟩
theorem q_m_1_135 : xPM 1 (135, 0, 30, 2, 5) := ⟨by decide, by decide, by decide, w_ml_1_135, w_im_30, w_se_30, w_in_5, by decide +kernel⟩
theorem q_m_1_108 : xPM 1 (108, 1, 21, 1, 0) := ⟨by decide, by decide, w_ml_1_108, w_st_21, w_in_5, by decide +kernel⟩
theorem q_m_1_111 : xPM 1 (111, 0, 31, 2, 5) := ⟨by decide, by decide, by decide, w_ml_1_111, w_im_31, w_se_31, w_in_5, by decide +kernel⟩
theorem q_m_1_115 : xPM 1 (115, 0, 32, 2, 1) := ⟨by decide, by decide, by decide, w_ml_1_115, w_im_32, w_se_32, w_in_1, by decide +kernel⟩
theorem q_m_1_138 : xPM 1 (138, 0, 33, 1, 1) := ⟨by decide, by decide, by decide, w_ml_1_138, w_im_33, w_se_33, w_in_1, by decide +kernel⟩
theorem q_m_1_151 : xPM 1 (151, 1, 34, 1, 0) := ⟨by decide, by decide, w_ml_1_151, w_st_34, w_in_1, by decide +kernel⟩
theorem q_m_1_154 : xPM 1 (154, 0, 35, 1, 1) := ⟨by decide, by decide, by decide, w_ml_1_154, w_im_35, w_se_35, w_in_1, by decide +kernel⟩
theorem q_m_1_157 : xPM 1 (157, 1, 36, 1, 0) := ⟨by decide, by decide, w_ml_1_157, w_st_36, w_in_1, by decide +kernel⟩
theorem q_m_1_160 : xPM 1 (160, 0, 37, 1, 1) := ⟨by decide, by decide, by decide, w_ml_1_160, w_im_37, w_se_37, w_in_1, by decide +kernel⟩
theorem q_m_1_169 : xPM 1 (169, 0, 38, 0, 1) := ⟨by decide, by decide, by decide, w_ml_1_169, w_im_38, w_se_38, w_in_1, by decide +kernel⟩
theorem q_m_1_177 : xPM 1 (177, 0, 39, 2, 4) := ⟨by decide, by decide, by decide, w_ml_1_177, w_im_39, w_se_39, w_in_4, by decide +kernel⟩
theorem q_m_1_181 : xPM 1 (181, 0, 40, 2, 4) := ⟨by decide, by decide, by decide, w_ml_1_181, w_im_40, w_se_40, w_in_4, by decide +kernel⟩
theorem q_m_1_184 : xPM 1 (184, 1, 41, 2, 0) := ⟨by decide, by decide, w_ml_1_184, w_st_41, w_in_1, by decide +kernel⟩
theorem q_m_1_173 : xPM 1 (173, 0, 42, 3, 1) := ⟨by decide, by decide, by decide, w_ml_1_173, w_im_42, w_se_42, w_in_1, by decide +kernel⟩
theorem q_m_1_166 : xPM 1 (166, 1, 43, 1, 0) := ⟨by decide, by decide, w_ml_1_166, w_st_43, w_in_1, by decide +kernel⟩
theorem q_m_1_141 : xPM 1 (141, 0, 44, 1, 1) := ⟨by decide, by decide, by decide, w_ml_1_141, w_im_44, w_se_44, w_in_1, by decide +kernel⟩
theorem q_m_1_192 : xPM 1 (192, 0, 45, 1, 4) := ⟨by decide, by decide, by decide, w_ml_1_192, w_im_45, w_se_45, w_in_4, by decide +kernel⟩
theorem q_m_1_118 : xPM 1 (118, 1, 46, 2, 0) := ⟨by decide, by decide, w_ml_1_118, w_st_46, w_in_9, by decide +kernel⟩
theorem q_m_1_196 : xPM 1 (196, 4, 0, 0, 0) := w_ml_1_196
theorem q_m_1_145 : xPM 1 (145, 0, 47, 1, 1) := ⟨by decide, by decide, by decide, w_ml_1_145, w_im_47, w_se_47, w_in_1, by decide +kernel⟩
theorem q_m_1_205 : xPM 1 (205, 0, 48, 2, 3) := ⟨by decide, by decide, by decide, w_ml_1_205, w_im_48, w_se_48, w_in_3, by decide +kernel⟩
theorem q_m_1_208 : xPM 1 (208, 0, 51, 2, 3) := ⟨by decide, by decide, by decide, w_ml_1_208, w_im_51, w_se_51, w_in_3, by decide +kernel⟩
theorem q_m_1_223 : xPM 1 (223, 0, 52, 2, 1) := ⟨by decide, by decide, by decide, w_ml_1_223, w_im_52, w_se_52, w_in_1, by decide +kernel⟩
theorem q_m_1_229 : xPM 1 (229, 1, 53, 3, 0) := ⟨by decide, by decide, w_ml_1_229, w_st_53, w_in_1, by decide +kernel⟩
theorem q_m_1_233 : xPM 1 (233, 1, 54, 2, 0) := ⟨by decide, by decide, w_ml_1_233, w_st_54, w_in_9, by decide +kernel⟩
theorem q_m_1_148 : xPM 1 (148, 0, 55, 1, 1) := ⟨by decide, by decide, by decide, w_ml_1_148, w_im_55, w_se_55, w_in_1, by decide +kernel⟩
theorem q_m_1_226 : xPM 1 (226, 0, 56, 1, 1) := ⟨by decide, by decide, by decide, w_ml_1_226, w_im_56, w_se_56, w_in_1, by decide +kernel⟩
theorem q_m_1_236 : xPM 1 (236, 0, 49, 0, 3) := ⟨by decide, by decide, by decide, w_ml_1_236, w_im_49, w_se_49, w_in_3, by decide +kernel⟩
theorem q_m_1_245 : xPM 1 (245, 0, 57, 3, 3) := ⟨by decide, by decide, by decide, w_ml_1_245, w_im_57, w_se_57, w_in_3, by decide +kernel⟩
theorem q_m_1_252 : xPM 1 (252, 0, 59, 3, 2) := ⟨by decide, by decide, by decide, w_ml_1_252, w_im_59, w_se_59, w_in_2, by decide +kernel⟩
theorem q_m_1_123 : xPM 1 (123, 0, 60, 0, 1) := ⟨by decide, by decide, by decide, w_ml_1_123, w_im_60, w_se_60, w_in_1, by decide +kernel⟩
theorem q_M_1 : xAll (xPM 1) (xLM.getD 1 []) := ⟨q_m_1_3, q_m_1_11, q_m_1_20, q_m_1_44, q_m_1_52, q_m_1_56, q_m_1_77, q_m_1_81, q_m_1_90, q_m_1_94, q_m_1_98, q_m_1_101, q_m_1_104, q_m_1_131, q_m_1_135, q_m_1_108, q_m_1_111, q_m_1_115, q_m_1_138, q_m_1_151, q_m_1_154, q_m_1_157, q_m_1_160, q_m_1_169, q_m_1_177, q_m_1_181, q_m_1_184, q_m_1_173, q_m_1_166, q_m_1_141, q_m_1_192, q_m_1_118, q_m_1_196, q_m_1_145, q_m_1_205, q_m_1_208, q_m_1_223, q_m_1_229, q_m_1_233, q_m_1_148, q_m_1_226, q_m_1_236, q_m_1_245, q_m_1_252, q_m_1_123, trivial⟩
theorem q_m_2_3 : xPM 2 (3, 3, 0, 0, 0) := w_ml_2_3
theorem q_m_2_22 : xPM 2 (22, 1, 15, 2, 0) := ⟨by decide, by decide, w_ml_2_22, w_st_15, w_in_8, by decide +kernel⟩
theorem q_M_2 : xAll (xPM 2) (xLM.getD 2 []) := ⟨q_m_2_3, q_m_2_22, trivial⟩
theorem q_m_3_3 : xPM 3 (3, 3, 0, 0, 0) := w_ml_3_3
theorem q_m_3_50 : xPM 3 (50, 0, 49, 0, 3) := ⟨by decide, by decide, by decide, w_ml_3_50, w_im_49, w_se_49, w_in_3, by decide +kernel⟩
theorem q_m_3_53 : xPM 3 (53, 0, 50, 2, 3) := ⟨by decide, by decide, by decide, w_ml_3_53, w_im_50, w_se_50, w_in_3, by decide +kernel⟩
theorem q_m_3_57 : xPM 3 (57, 1, 15, 2, 0) := ⟨by decide, by decide, w_ml_3_57, w_st_15, w_in_8, by decide +kernel⟩
theorem q_m_3_63 : xPM 3 (63, 0, 58, 4, 3) := ⟨by decide, by decide, by decide, w_ml_3_63, w_im_58, w_se_58, w_in_3, by decide +kernel⟩
theorem q_M_3 : xAll (xPM 3) (xLM.getD 3 []) := ⟨q_m_3_3, q_m_3_50, q_m_3_53, q_m_3_57, q_m_3_63, trivial⟩
theorem q_m_4_3 : xPM 4 (3, 3, 0, 0, 0) := w_ml_4_3
theorem q_m_4_18 : xPM 4 (18, 1, 15, 2, 0) := ⟨by decide, by decide, w_ml_4_18, w_st_15, w_in_8, by decide +kernel⟩
theorem q_m_4_28 : xPM 4 (28, 4, 0, 0, 0) := w_ml_4_28
theorem q_m_4_34 : xPM 4 (34, 1, 72, 1, 0) := ⟨by decide, by decide, w_ml_4_34, w_st_72, w_in_10, by decide +kernel⟩
theorem q_M_4 : xAll (xPM 4) (xLM.getD 4 []) := ⟨q_m_4_3, q_m_4_18, q_m_4_28, q_m_4_34, trivial⟩
theorem q_m_5_3 : xPM 5 (3, 3, 0, 0, 0) := w_ml_5_3
theorem q_m_5_15 : xPM 5 (15, 1, 9, 2, 0) := ⟨by decide, by decide, w_ml_5_15, w_st_9, w_in_5, by decide +kernel⟩
theorem q_m_5_23 : xPM 5 (23, 1, 21, 1, 0) := ⟨by decide, by decide, w_ml_5_23, w_st_21, w_in_5, by decide +kernel⟩
theorem q_m_5_27 : xPM 5 (27, 1, 22, 1, 0) := ⟨by decide, by decide, w_ml_5_27, w_st_22, w_in_5, by decide +kernel⟩
theorem q_m_5_30 : xPM 5 (30, 1, 23, 1, 0) := ⟨by decide, by decide, w_ml_5_30, w_st_23, w_in_5, by decide +kernel⟩
theorem q_m_5_33 : xPM 5 (33, 1, 26, 1, 0) := ⟨by decide, by decide, w_ml_5_33, w_st_26, w_in_5, by decide +kernel⟩
theorem q_m_5_36 : xPM 5 (36, 1, 27, 1, 0) := ⟨by decide, by decide, w_ml_5_36, w_st_27, w_in_5, by decide +kernel⟩
theorem q_M_5 : xAll (xPM 5) (xLM.getD 5 []) := ⟨q_m_5_3, q_m_5_15, q_m_5_23, q_m_5_27, q_m_5_30, q_m_5_33, q_m_5_36, trivial⟩
theorem q_m_6_1 : xPM 6 (1, 3, 0, 0, 0) := w_ml_6_1
theorem q_m_6_102 : xPM 6 (102, 0, 78, 1, 6) := ⟨by decide, by decide, by decide, w_ml_6_102, w_im_78, w_se_78, w_in_6, by decide +kernel⟩
theorem q_m_6_55 : xPM 6 (55, 1, 79, 1, 0) := ⟨by decide, by decide, w_ml_6_55, w_st_79, w_in_6, by decide +kernel⟩
theorem q_m_6_110 : xPM 6 (110, 0, 80, 1, 6) := ⟨by decide, by decide, by decide, w_ml_6_110, w_im_80, w_se_80, w_in_6, by decide +kernel⟩
theorem q_m_6_59 : xPM 6 (59, 1, 81, 1, 0) := ⟨by decide, by decide, w_ml_6_59, w_st_81, w_in_6, by decide +kernel⟩
theorem q_m_6_106 : xPM 6 (106, 0, 82, 2, 6) := ⟨by decide, by decide, by decide, w_ml_6_106, w_im_82, w_se_82, w_in_6, by decide +kernel⟩
theorem q_m_6_113 : xPM 6 (113, 0, 83, 1, 6) := ⟨by decide, by decide, by decide, w_ml_6_113, w_im_83, w_se_83, w_in_6, by decide +kernel⟩
theorem q_m_6_62 : xPM 6 (62, 1, 84, 1, 0) := ⟨by decide, by decide, w_ml_6_62, w_st_84, w_in_6, by decide +kernel⟩
theorem q_m_6_116 : xPM 6 (116, 0, 85, 2, 6) := ⟨by decide, by decide, by decide, w_ml_6_116, w_im_85, w_se_85, w_in_6, by decide +kernel⟩
theorem q_m_6_120 : xPM 6 (120, 0, 86, 2, 6) := ⟨by decide, by decide, by decide, w_ml_6_120, w_im_86, w_se_86, w_in_6, by decide +kernel⟩
theorem q_m_6_123 : xPM 6 (123, 0, 87, 1, 6) := ⟨by decide, by decide, by decide, w_ml_6_123, w_im_87, w_se_87, w_in_6, by decide +kernel⟩
theorem q_m_6_141 : xPM 6 (141, 1, 88, 1, 0) := ⟨by decide, by decide, w_ml_6_141, w_st_88, w_in_6, by decide +kernel⟩
theorem q_m_6_144 : xPM 6 (144, 0, 89, 1, 6) := ⟨by decide, by decide, by decide, w_ml_6_144, w_im_89, w_se_89, w_in_6, by decide +kernel⟩
theorem q_m_6_150 : xPM 6 (150, 0, 90, 2, 6) := ⟨by decide, by decide, by decide, w_ml_6_150, w_im_90, w_se_90, w_in_6, by decide +kernel⟩
theorem q_m_6_154 : xPM 6 (154, 0, 91, 1, 6) := ⟨by decide, by decide, by decide, w_ml_6_154, w_im_91, w_se_91, w_in_6, by decide +kernel⟩
theorem q_m_6_126 : xPM 6 (126, 0, 92, 1, 6) := ⟨by decide, by decide, by decide, w_ml_6_126, w_im_92, w_se_92, w_in_6, by decide +kernel⟩
theorem q_m_6_200 : xPM 6 (200, 0, 93, 0, 6) := ⟨by decide, by decide, by decide, w_ml_6_200, w_im_93, w_se_93, w_in_6, by decide +kernel⟩
theorem q_m_6_203 : xPM 6 (203, 0, 94, 0, 6) := ⟨by decide, by decide, by decide, w_ml_6_203, w_im_94, w_se_94, w_in_6, by decide +kernel⟩
theorem q_m_6_206 : xPM 6 (206, 0, 95, 2, 6) := ⟨by decide, by decide, by decide, w_ml_6_206, w_im_95, w_se_95, w_in_6, by decide +kernel⟩
theorem q_m_6_181 : xPM 6 (181, 0, 96, 0, 6) := ⟨by decide, by decide, by decide, w_ml_6_181, w_im_96, w_se_96, w_in_6, by decide +kernel⟩
theorem q_m_6_177 : xPM 6 (177, 0, 97, 3, 6) := ⟨by decide, by decide, by decide, w_ml_6_177, w_im_97, w_se_97, w_in_6, by decide +kernel⟩
theorem q_m_6_209 : xPM 6 (209, 0, 98, 2, 6) := ⟨by decide, by decide, by decide, w_ml_6_209, w_im_98, w_se_98, w_in_6, by decide +kernel⟩
theorem q_m_6_212 : xPM 6 (212, 0, 99, 0, 6) := ⟨by decide, by decide, by decide, w_ml_6_212, w_im_99, w_se_99, w_in_6, by decide +kernel⟩
theorem q_m_6_190 : xPM 6 (190, 1, 100, 5, 0) := ⟨by decide, by decide, w_ml_6_190, w_st_100, w_in_6, by decide +kernel⟩
theorem q_m_6_215 : xPM 6 (215, 0, 101, 1, 6) := ⟨by decide, by decide, by decide, w_ml_6_215, w_im_101, w_se_101, w_in_6, by decide +kernel⟩
theorem q_m_6_196 : xPM 6 (196, 0, 102, 3, 6) := ⟨by decide, by decide, by decide, w_ml_6_196, w_im_102, w_se_102, w_in_6, by decide +kernel⟩
theorem q_M_6 : xAll (xPM 6) (xLM.getD 6 []) := ⟨q_m_6_1, q_m_6_102, q_m_6_55, q_m_6_110, q_m_6_59, q_m_6_106, q_m_6_113, q_m_6_62, q_m_6_116, q_m_6_120, q_m_6_123, q_m_6_141, q_m_6_144, q_m_6_150, q_m_6_154, q_m_6_126, q_m_6_200, q_m_6_203, q_m_6_206, q_m_6_181, q_m_6_177, q_m_6_209, q_m_6_212, q_m_6_190, q_m_6_215, q_m_6_196, trivial⟩
theorem q_m_7_9 : xPM 7 (9, 2, 1, 0, 0) := ⟨by decide, by decide, rfl, rfl, w_ml_7_9, w_im_1, w_in_0, by decide +kernel⟩
theorem q_m_7_13 : xPM 7 (13, 0, 7, 1, 0) := ⟨by decide, by decide, by decide, w_ml_7_13, w_im_7, w_se_7, w_in_0, by decide +kernel⟩
theorem q_m_7_18 : xPM 7 (18, 0, 10, 0, 0) := ⟨by decide, by decide, by decide, w_ml_7_18, w_im_10, w_se_10, w_in_0, by decide +kernel⟩
theorem q_m_7_23 : xPM 7 (23, 0, 11, 0, 0) := ⟨by decide, by decide, by decide, w_ml_7_23, w_im_11, w_se_11, w_in_0, by decide +kernel⟩
theorem q_m_7_27 : xPM 7 (27, 0, 12, 2, 0) := ⟨by decide, by decide, by decide, w_ml_7_27, w_im_12, w_se_12, w_in_0, by decide +kernel⟩
theorem q_m_7_32 : xPM 7 (32, 0, 61, 0, 0) := ⟨by decide, by decide, by decide, w_ml_7_32, w_im_61, w_se_61, w_in_0, by decide +kernel⟩
theorem q_m_7_36 : xPM 7 (36, 0, 62, 0, 0) := ⟨by decide, by decide, by decide, w_ml_7_36, w_im_62, w_se_62, w_in_0, by decide +kernel⟩
theorem q_m_7_40 : xPM 7 (40, 0, 63, 2, 0) := ⟨by decide, by decide, by decide, w_ml_7_40, w_im_63, w_se_63, w_in_0, by decide +kernel⟩
theorem q_m_7_44 : xPM 7 (44, 0, 65, 1, 0) := ⟨by decide, by decide, by decide, w_ml_7_44, w_im_65, w_se_65, w_in_0, by decide +kernel⟩
theorem q_m_7_48 : xPM 7 (48, 0, 67, 0, 0) := ⟨by decide, by decide, by decide, w_ml_7_48, w_im_67, w_se_67, w_in_0, by decide +kernel⟩
theorem q_m_7_52 : xPM 7 (52, 0, 68, 0, 0) := ⟨by decide, by decide, by decide, w_ml_7_52, w_im_68, w_se_68, w_in_0, by decide +kernel⟩
theorem q_m_7_56 : xPM 7 (56, 0, 69, 0, 0) := ⟨by decide, by decide, by decide, w_ml_7_56, w_im_69, w_se_69, w_in_0, by decide +kernel⟩
theorem q_m_7_60 : xPM 7 (60, 0, 70, 0, 0) := ⟨by decide, by decide, by decide, w_ml_7_60, w_im_70, w_se_70, w_in_0, by decide +kernel⟩
theorem q_m_7_12 : xPM 7 (12, 2, 73, 0, 6) := ⟨by decide, by decide, rfl, rfl, w_ml_7_12, w_im_73, w_in_6, by decide +kernel⟩
theorem q_m_7_17 : xPM 7 (17, 0, 74, 1, 6) := ⟨by decide, by decide, by decide, w_ml_7_17, w_im_74, w_se_74, w_in_6, by decide +kernel⟩
theorem q_m_7_22 : xPM 7 (22, 0, 75, 0, 6) := ⟨by decide, by decide, by decide, w_ml_7_22, w_im_75, w_se_75, w_in_6, by decide +kernel⟩
theorem q_m_7_26 : xPM 7 (26, 0, 76, 0, 6) := ⟨by decide, by decide, by decide, w_ml_7_26, w_im_76, w_se_76, w_in_6, by decide +kernel⟩
theorem q_m_7_31 : xPM 7 (31, 0, 77, 2, 6) := ⟨by decide, by decide, by decide, w_ml_7_31, w_im_77, w_se_77, w_in_6, by decide +kernel⟩
theorem q_m_7_35 : xPM 7 (35, 0, 103, 0, 6) := ⟨by decide, by decide, by decide, w_ml_7_35, w_im_103, w_se_103, w_in_6, by decide +kernel⟩
theorem q_m_7_39 : xPM 7 (39, 0, 104, 0, 6) := ⟨by decide, by decide, by decide, w_ml_7_39, w_im_104, w_se_104, w_in_6, by decide +kernel⟩
theorem q_m_7_43 : xPM 7 (43, 0, 105, 2, 6) := ⟨by decide, by decide, by decide, w_ml_7_43, w_im_105, w_se_105, w_in_6, by decide +kernel⟩
theorem q_m_7_47 : xPM 7 (47, 0, 106, 1, 6) := ⟨by decide, by decide, by decide, w_ml_7_47, w_im_106, w_se_106, w_in_6, by decide +kernel⟩
theorem q_m_7_51 : xPM 7 (51, 0, 107, 0, 6) := ⟨by decide, by decide, by decide, w_ml_7_51, w_im_107, w_se_107, w_in_6, by decide +kernel⟩
theorem q_m_7_55 : xPM 7 (55, 0, 108, 0, 6) := ⟨by decide, by decide, by decide, w_ml_7_55, w_im_108, w_se_108, w_in_6, by decide +kernel⟩
theorem q_m_7_59 : xPM 7 (59, 0, 109, 0, 6) := ⟨by decide, by decide, by decide, w_ml_7_59, w_im_109, w_se_109, w_in_6, by decide +kernel⟩
theorem q_m_7_63 : xPM 7 (63, 0, 110, 0, 6) := ⟨by decide, by decide, by decide, w_ml_7_63, w_im_110, w_se_110, w_in_6, by decide +kernel⟩
theorem q_M_7 : xAll (xPM 7) (xLM.getD 7 []) := ⟨q_m_7_9, q_m_7_13, q_m_7_18, q_m_7_23, q_m_7_27, q_m_7_32, q_m_7_36, q_m_7_40, q_m_7_44, q_m_7_48, q_m_7_52, q_m_7_56, q_m_7_60, q_m_7_12, q_m_7_17, q_m_7_22, q_m_7_26, q_m_7_31, q_m_7_35, q_m_7_39, q_m_7_43, q_m_7_47, q_m_7_51, q_m_7_55, q_m_7_59, q_m_7_63, trivial⟩
theorem q_M_8 : xAll (xPM 8) (xLM.getD 8 []) := trivial
theorem q_M_9 : xAll (xPM 9) (xLM.getD 9 []) := trivial
theorem q_M_10 : xAll (xPM 10) (xLM.getD 10 []) := trivial
theorem q_M : ∀ o, xAll (xPM o) (xLM.getD o [])
  | 0 => q_M_0
  | 1 => q_M_1
  | 2 => q_M_2
  | 3 => q_M_3
  | 4 => q_M_4
  | 5 => q_M_5
  | 6 => q_M_6
  | 7 => q_M_7
  | 8 => q_M_8
  | 9 => q_M_9
  | 10 => q_M_10
  | o + 11 => by
    rw [show xLM.getD (o + 11) [] = [] from rfl]
    trivial
def xPF (o : Nat) (r : Nat × Nat × Nat) : Prop := r.2.1 < 7 ∧ r.2.2 < xNF r.2.1 ∧ Cond.fieldLink (xON o) r.1 (xCN r.2.1) (xFd r.2.1 r.2.2).1 (xFd r.2.1 r.2.2).2.1 ∈ xgw
theorem q_F_0 : xAll (xPF 0) (xLF.getD 0 []) := ⟨⟨by decide, by decide, w_fl_0_27⟩, ⟨by decide, by decide, w_fl_0_45⟩, ⟨by decide, by decide, w_fl_0_39⟩, ⟨by decide, by decide, w_fl_0_42⟩, ⟨by decide, by decide, w_fl_0_58⟩, ⟨by decide, by decide, w_fl_0_61⟩, ⟨by decide, by decide, w_fl_0_64⟩, ⟨by decide, by decide, w_fl_0_10⟩, ⟨by decide, by decide, w_fl_0_19⟩, trivial⟩
theorem q_F_1 : xAll (xPF 1) (xLF.getD 1 []) := ⟨⟨by decide, by decide, w_fl_1_87⟩, ⟨by decide, by decide, w_fl_1_82⟩, ⟨by decide, by decide, w_fl_1_242⟩, ⟨by decide, by decide, w_fl_1_239⟩, ⟨by decide, by decide, w_fl_1_163⟩, ⟨by decide, by decide, w_fl_1_127⟩, ⟨by decide, by decide, w_fl_1_211⟩, ⟨by decide, by decide, w_fl_1_214⟩, ⟨by decide, by decide, w_fl_1_217⟩, ⟨by decide, by decide, w_fl_1_220⟩, ⟨by decide, by decide, w_fl_1_188⟩, ⟨by decide, by decide, w_fl_1_249⟩, ⟨by decide, by decide, w_fl_1_202⟩, ⟨by decide, by decide, w_fl_1_12⟩, ⟨by decide, by decide, w_fl_1_21⟩, ⟨by decide, by decide, w_fl_1_27⟩, ⟨by decide, by decide, w_fl_1_31⟩, ⟨by decide, by decide, w_fl_1_35⟩, ⟨by decide, by decide, w_fl_1_38⟩, ⟨by decide, by decide, w_fl_1_41⟩, ⟨by decide, by decide, w_fl_1_59⟩, ⟨by decide, by decide, w_fl_1_49⟩, ⟨by decide, by decide, w_fl_1_62⟩, ⟨by decide, by decide, w_fl_1_65⟩, ⟨by decide, by decide, w_fl_1_45⟩, ⟨by decide, by decide, w_fl_1_68⟩, ⟨by decide, by decide, w_fl_1_71⟩, ⟨by decide, by decide, w_fl_1_74⟩, trivial⟩
theorem q_F_2 : xAll (xPF 2) (xLF.getD 2 []) := ⟨⟨by decide, by decide, w_fl_2_9⟩, ⟨by decide, by decide, w_fl_2_15⟩, ⟨by decide, by decide, w_fl_2_19⟩, trivial⟩
theorem q_F_3 : xAll (xPF 3) (xLF.getD 3 []) := ⟨⟨by decide, by decide, w_fl_3_9⟩, ⟨by decide, by decide, w_fl_3_15⟩, ⟨by decide, by decide, w_fl_3_18⟩, ⟨by decide, by decide, w_fl_3_21⟩, ⟨by decide, by decide, w_fl_3_24⟩, ⟨by decide, by decide, w_fl_3_27⟩, ⟨by decide, by decide, w_fl_3_31⟩, ⟨by decide, by decide, w_fl_3_34⟩, ⟨by decide, by decide, w_fl_3_38⟩, ⟨by decide, by decide, w_fl_3_44⟩, ⟨by decide, by decide, w_fl_3_41⟩, ⟨by decide, by decide, w_fl_3_47⟩, trivial⟩
theorem q_F_4 : xAll (xPF 4) (xLF.getD 4 []) := ⟨⟨by decide, by decide, w_fl_4_9⟩, ⟨by decide, by decide, w_fl_4_15⟩, ⟨by decide, by decide, w_fl_4_24⟩, trivial⟩
theorem q_F_5 : xAll (xPF 5) (xLF.getD 5 []) := ⟨⟨by decide, by decide, w_fl_5_9⟩, ⟨by decide, by decide, w_fl_5_19⟩, trivial⟩
theorem q_F_6 : xAll (xPF 6) (xLF.getD 6 []) := ⟨⟨by decide, by decide, w_fl_6_7⟩, ⟨by decide, by decide, w_fl_6_52⟩, ⟨by decide, by decide, w_fl_6_65⟩, ⟨by decide, by decide, w_fl_6_68⟩, ⟨by decide, by decide, w_fl_6_13⟩, ⟨by decide, by decide, w_fl_6_16⟩, ⟨by decide, by decide, w_fl_6_20⟩, ⟨by decide, by decide, w_fl_6_71⟩, ⟨by decide, by decide, w_fl_6_24⟩, ⟨by decide, by decide, w_fl_6_27⟩, ⟨by decide, by decide, w_fl_6_30⟩, ⟨by decide, by decide, w_fl_6_74⟩, ⟨by decide, by decide, w_fl_6_33⟩, ⟨by decide, by decide, w_fl_6_36⟩, ⟨by decide, by decide, w_fl_6_39⟩, ⟨by decide, by decide, w_fl_6_42⟩, ⟨by decide, by decide, w_fl_6_162⟩, ⟨by decide, by decide, w_fl_6_147⟩, ⟨by decide, by decide, w_fl_6_77⟩, ⟨by decide, by decide, w_fl_6_81⟩, ⟨by decide, by decide, w_fl_6_171⟩, ⟨by decide, by decide, w_fl_6_174⟩, ⟨by decide, by decide, w_fl_6_165⟩, ⟨by decide, by decide, w_fl_6_168⟩, ⟨by decide, by decide, w_fl_6_45⟩, ⟨by decide, by decide, w_fl_6_84⟩, ⟨by decide, by decide, w_fl_6_99⟩, ⟨by decide, by decide, w_fl_6_48⟩, ⟨by decide, by decide, w_fl_6_87⟩, ⟨by decide, by decide, w_fl_6_90⟩, ⟨by decide, by decide, w_fl_6_93⟩, ⟨by decide, by decide, w_fl_6_96⟩, ⟨by decide, by decide, w_fl_6_130⟩, ⟨by decide, by decide, w_fl_6_134⟩, trivial⟩
theorem q_F_7 : xAll (xPF 7) (xLF.getD 7 []) := trivial
theorem q_F_8 : xAll (xPF 8) (xLF.getD 8 []) := trivial
theorem q_F_9 : xAll (xPF 9) (xLF.getD 9 []) := trivial
theorem q_F_10 : xAll (xPF 10) (xLF.getD 10 []) := trivial
theorem q_F : ∀ o, xAll (xPF o) (xLF.getD o [])
  | 0 => q_F_0
  | 1 => q_F_1
  | 2 => q_F_2
  | 3 => q_F_3
  | 4 => q_F_4
  | 5 => q_F_5
  | 6 => q_F_6
  | 7 => q_F_7
  | 8 => q_F_8
  | 9 => q_F_9
  | 10 => q_F_10
  | o + 11 => by
    rw [show xLF.getD (o + 11) [] = [] from rfl]
    trivial
def xPC (o : Nat) (r : Nat × Nat × Nat) : Prop := r.2.1 < 7 ∧ r.2.2 = xNF r.2.1 ∧ Cond.classLink (xON o) r.1 (xCN r.2.1) ∈ xgw ∧ Cond.instantiable (xCN r.2.1) (xNF r.2.1) ∈ xgw ∧ Cond.initialized (xCN r.2.1) ∈ xgw
theorem q_C_0 : xAll (xPC 0) (xTC.getD 0 []) := ⟨⟨by decide, by decide, w_cl_0_7, w_ib_5, w_in_5⟩, ⟨by decide, by decide, w_cl_0_16, w_ib_1, w_in_1⟩, trivial⟩
theorem q_C_1 : xAll (xPC 1) (xTC.getD 1 []) := ⟨⟨by decide, by decide, w_cl_1_9, w_ib_2, w_in_2⟩, ⟨by decide, by decide, w_cl_1_18, w_ib_3, w_in_3⟩, ⟨by decide, by decide, w_cl_1_25, w_ib_4, w_in_4⟩, trivial⟩
theorem q_C_2 : xAll (xPC 2) (xTC.getD 2 []) := trivial
theorem q_C_3 : xAll (xPC 3) (xTC.getD 3 []) := trivial
theorem q_C_4 : xAll (xPC 4) (xTC.getD 4 []) := trivial
theorem q_C_5 : xAll (xPC 5) (xTC.getD 5 []) := trivial
theorem q_C_6 : xAll (xPC 6) (xTC.getD 6 []) := trivial
theorem q_C_7 : xAll (xPC 7) (xTC.getD 7 []) := ⟨⟨by decide, by decide, w_cl_7_7, w_ib_0, w_in_0⟩, ⟨by decide, by decide, w_cl_7_10, w_ib_6, w_in_6⟩, trivial⟩
theorem q_C_8 : xAll (xPC 8) (xTC.getD 8 []) := trivial
theorem q_C_9 : xAll (xPC 9) (xTC.getD 9 []) := trivial
theorem q_C_10 : xAll (xPC 10) (xTC.getD 10 []) := trivial
theorem q_C : ∀ o, xAll (xPC o) (xTC.getD o [])
  | 0 => q_C_0
  | 1 => q_C_1
  | 2 => q_C_2
  | 3 => q_C_3
  | 4 => q_C_4
  | 5 => q_C_5
  | 6 => q_C_6
  | 7 => q_C_7
  | 8 => q_C_8
  | 9 => q_C_9
  | 10 => q_C_10
  | o + 11 => by
    rw [show xTC.getD (o + 11) [] = [] from rfl]
    trivial
def xPK (o : Nat) (r : Nat × Int32) : Prop := Cond.constant (xON o) r.1 r.2 ∈ xgw
def xPJ (o : Nat) (r : Nat × Int64) : Prop := Cond.constantLong (xON o) r.1 r.2 ∈ xgw
theorem q_K_0 : xAll (xPK 0) (xLK.getD 0 []) := trivial
theorem q_K_1 : xAll (xPK 1) (xLK.getD 1 []) := ⟨w_k_1_191, trivial⟩
theorem q_K_2 : xAll (xPK 2) (xLK.getD 2 []) := trivial
theorem q_K_3 : xAll (xPK 3) (xLK.getD 3 []) := trivial
theorem q_K_4 : xAll (xPK 4) (xLK.getD 4 []) := trivial
theorem q_K_5 : xAll (xPK 5) (xLK.getD 5 []) := trivial
theorem q_K_6 : xAll (xPK 6) (xLK.getD 6 []) := trivial
theorem q_K_7 : xAll (xPK 7) (xLK.getD 7 []) := trivial
theorem q_K_8 : xAll (xPK 8) (xLK.getD 8 []) := trivial
theorem q_K_9 : xAll (xPK 9) (xLK.getD 9 []) := trivial
theorem q_K_10 : xAll (xPK 10) (xLK.getD 10 []) := ⟨w_k_10_265, w_k_10_266, w_k_10_267, trivial⟩
theorem q_K : ∀ o, xAll (xPK o) (xLK.getD o [])
  | 0 => q_K_0
  | 1 => q_K_1
  | 2 => q_K_2
  | 3 => q_K_3
  | 4 => q_K_4
  | 5 => q_K_5
  | 6 => q_K_6
  | 7 => q_K_7
  | 8 => q_K_8
  | 9 => q_K_9
  | 10 => q_K_10
  | o + 11 => by
    rw [show xLK.getD (o + 11) [] = [] from rfl]
    trivial
theorem q_J_0 : xAll (xPJ 0) (xLJ.getD 0 []) := trivial
theorem q_J_1 : xAll (xPJ 1) (xLJ.getD 1 []) := trivial
theorem q_J_2 : xAll (xPJ 2) (xLJ.getD 2 []) := trivial
theorem q_J_3 : xAll (xPJ 3) (xLJ.getD 3 []) := trivial
theorem q_J_4 : xAll (xPJ 4) (xLJ.getD 4 []) := trivial
theorem q_J_5 : xAll (xPJ 5) (xLJ.getD 5 []) := trivial
theorem q_J_6 : xAll (xPJ 6) (xLJ.getD 6 []) := ⟨w_j_6_137, w_j_6_139, w_j_6_158, w_j_6_160, w_j_6_184, w_j_6_186, w_j_6_188, w_j_6_194, trivial⟩
theorem q_J_7 : xAll (xPJ 7) (xLJ.getD 7 []) := trivial
theorem q_J_8 : xAll (xPJ 8) (xLJ.getD 8 []) := trivial
theorem q_J_9 : xAll (xPJ 9) (xLJ.getD 9 []) := trivial
theorem q_J_10 : xAll (xPJ 10) (xLJ.getD 10 []) := trivial
theorem q_J : ∀ o, xAll (xPJ o) (xLJ.getD o [])
  | 0 => q_J_0
  | 1 => q_J_1
  | 2 => q_J_2
  | 3 => q_J_3
  | 4 => q_J_4
  | 5 => q_J_5
  | 6 => q_J_6
  | 7 => q_J_7
  | 8 => q_J_8
  | 9 => q_J_9
  | 10 => q_J_10
  | o + 11 => by
    rw [show xLJ.getD (o + 11) [] = [] from rfl]
    trivial
theorem f_M0 {o i k n ci : Nat} (h : xlM o i = some (0, k, n, ci)) : 0 < k ∧ k < xnM ∧ ci < 7 ∧ Cond.methodLink (xON o) i (xY k) ∈ xgw ∧ Cond.instanceMethod (xY k) ∈ xgw ∧ Cond.selects (xCN ci) (xY k) (xY k) ∈ xgw ∧ Cond.initialized (xY k).cls ∈ xgw ∧ (parseMethodDescriptor (xY k).desc).map (fun d => d.parameters.length) = some n := xAll_mem (P := xPM o) (q_M o) (xfind_mem h)
theorem f_M1 {o i k n ci : Nat} (h : xlM o i = some (1, k, n, ci)) : 0 < k ∧ k < xnM ∧ Cond.methodLink (xON o) i (xY k) ∈ xgw ∧ Cond.static (xY k) ∈ xgw ∧ Cond.initialized (xY k).cls ∈ xgw ∧ (parseMethodDescriptor (xY k).desc).map (fun d => d.parameters.length) = some n := xAll_mem (P := xPM o) (q_M o) (xfind_mem h)
theorem f_M2 {o i k n ci : Nat} (h : xlM o i = some (2, k, n, ci)) : 0 < k ∧ k < xnM ∧ (xY k).name = "<init>" ∧ xRt k = none ∧ Cond.methodLink (xON o) i (xY k) ∈ xgw ∧ Cond.instanceMethod (xY k) ∈ xgw ∧ Cond.initialized (xY k).cls ∈ xgw ∧ (parseMethodDescriptor (xY k).desc).map (fun d => d.parameters.length) = some n := xAll_mem (P := xPM o) (q_M o) (xfind_mem h)
theorem f_M6 {o i k n ci : Nat} (h : xlM o i = some (6, k, n, ci)) : 0 < k ∧ k < xnM ∧ (xY k).name = "<init>" ∧ xRt k = none ∧ (∃ host, (xON o, i, xY k, host) ∈ xNs) ∧ Cond.instanceMethod (xY k) ∈ xgw ∧ Cond.initialized (xY k).cls ∈ xgw ∧ (parseMethodDescriptor (xY k).desc).map (fun d => d.parameters.length) = some n := xAll_mem (P := xPM o) (q_M o) (xfind_mem h)
theorem f_M3 {o i k n ci : Nat} (h : xlM o i = some (3, k, n, ci)) : Cond.methodLink (xON o) i Lib.objectInit ∈ xgw ∧ Cond.instanceMethod Lib.objectInit ∈ xgw ∧ Cond.code Lib.objectInit ⟨#[0xb1]⟩ 1 none ∈ xgw := ⟨xAll_mem (P := xPM o) (q_M o) (xfind_mem h), w_oi, w_oc⟩
theorem f_M4 {o i k n ci : Nat} (h : xlM o i = some (4, k, n, ci)) : Cond.methodLink (xON o) i arraycopyName ∈ xgw ∧ Cond.native arraycopyName ∈ xgw ∧ Cond.static arraycopyName ∈ xgw ∧ Cond.initialized "java/lang/System" ∈ xgw := ⟨xAll_mem (P := xPM o) (q_M o) (xfind_mem h), w_an, w_as, w_ai⟩
theorem f_M5 {o i k n ci : Nat} (h : xlM o i = some (5, k, n, ci)) : Cond.methodLink (xON o) i Lib.Math.max.name ∈ xgw ∧ Cond.static Lib.Math.max.name ∈ xgw ∧ Cond.initialized "java/lang/Math" ∈ xgw ∧ Cond.code Lib.Math.max.name Lib.Math.max.code 2 (some .int) ∈ xgw := False.elim (xAll_mem (P := xPM o) (q_M o) (xfind_mem h))
theorem f_F {o i ci k : Nat} (h : xlF o i = some (ci, k)) : ci < 7 ∧ k < xNF ci ∧ Cond.fieldLink (xON o) i (xCN ci) (xFd ci k).1 (xFd ci k).2.1 ∈ xgw := xAll_mem (P := xPF o) (q_F o) (xfind_mem h)
theorem f_C {o i ci n : Nat} (h : xlC o i = some (ci, n)) : ci < 7 ∧ n = xNF ci ∧ Cond.classLink (xON o) i (xCN ci) ∈ xgw ∧ Cond.instantiable (xCN ci) (xNF ci) ∈ xgw ∧ Cond.initialized (xCN ci) ∈ xgw := xAll_mem (P := xPC o) (q_C o) (xfind_mem h)
theorem f_K {o i : Nat} {v : Int32} (h : xlK o i = some v) : Cond.constant (xON o) i v ∈ xgw := xAll_mem (P := xPK o) (q_K o) (xfind_mem h)
theorem f_J {o i : Nat} {v : Int64} (h : xlJ o i = some v) : Cond.constantLong (xON o) i v ∈ xgw := xAll_mem (P := xPJ o) (q_J o) (xfind_mem h)
theorem f_A {o i : Nat} (h : xlA o i = true) : Cond.classLink (xON o) i xSTn ∈ xgw := by
  unfold xlA at h
  cases hq : xlC o i with
  | none => rw [hq] at h; cases h
  | some q =>
    obtain ⟨ci, n⟩ := q
    rw [hq] at h
    have e : ci = xST := by simpa using h
    subst e
    exact (f_C hq).2.2.1
theorem f_cl {ci : Nat} (h : ci < 7) : xCl[ci]? = some (xCN ci, xT ci, xNF ci) := by
  unfold xCl
  rw [List.getElem?_map, List.getElem?_range h]
  rfl
theorem q_l_0 : ∀ k, k < xNF 0 → u_lay (xCN 0) (xT 0) k ∈ xgw
  | 0, _ => w_ly_0_0
  | 1, _ => w_ly_0_1
  | k + 2, h => absurd h (by rw [show xNF 0 = 2 from rfl]; omega)
theorem q_l_1 : ∀ k, k < xNF 1 → u_lay (xCN 1) (xT 1) k ∈ xgw
  | 0, _ => w_ly_1_0
  | 1, _ => w_ly_1_1
  | 2, _ => w_ly_1_2
  | 3, _ => w_ly_1_3
  | 4, _ => w_ly_1_4
  | 5, _ => w_ly_1_5
  | 6, _ => w_ly_1_6
  | 7, _ => w_ly_1_7
  | 8, _ => w_ly_1_8
  | 9, _ => w_ly_1_9
  | 10, _ => w_ly_1_10
  | 11, _ => w_ly_1_11
  | 12, _ => w_ly_1_12
  | 13, _ => w_ly_1_13
  | 14, _ => w_ly_1_14
  | k + 15, h => absurd h (by rw [show xNF 1 = 15 from rfl]; omega)
theorem q_l_2 : ∀ k, k < xNF 2 → u_lay (xCN 2) (xT 2) k ∈ xgw
  | 0, _ => w_ly_2_0
  | 1, _ => w_ly_2_1
  | 2, _ => w_ly_2_2
  | k + 3, h => absurd h (by rw [show xNF 2 = 3 from rfl]; omega)
theorem q_l_3 : ∀ k, k < xNF 3 → u_lay (xCN 3) (xT 3) k ∈ xgw
  | 0, _ => w_ly_3_0
  | 1, _ => w_ly_3_1
  | 2, _ => w_ly_3_2
  | 3, _ => w_ly_3_3
  | 4, _ => w_ly_3_4
  | 5, _ => w_ly_3_5
  | 6, _ => w_ly_3_6
  | 7, _ => w_ly_3_7
  | 8, _ => w_ly_3_8
  | 9, _ => w_ly_3_9
  | 10, _ => w_ly_3_10
  | 11, _ => w_ly_3_11
  | k + 12, h => absurd h (by rw [show xNF 3 = 12 from rfl]; omega)
theorem q_l_4 : ∀ k, k < xNF 4 → u_lay (xCN 4) (xT 4) k ∈ xgw
  | 0, _ => w_ly_4_0
  | 1, _ => w_ly_4_1
  | 2, _ => w_ly_4_2
  | k + 3, h => absurd h (by rw [show xNF 4 = 3 from rfl]; omega)
theorem q_l_5 : ∀ k, k < xNF 5 → u_lay (xCN 5) (xT 5) k ∈ xgw
  | 0, _ => w_ly_5_0
  | 1, _ => w_ly_5_1
  | k + 2, h => absurd h (by rw [show xNF 5 = 2 from rfl]; omega)
theorem q_l_6 : ∀ k, k < xNF 6 → u_lay (xCN 6) (xT 6) k ∈ xgw
  | 0, _ => w_ly_6_0
  | 1, _ => w_ly_6_1
  | 2, _ => w_ly_6_2
  | 3, _ => w_ly_6_3
  | 4, _ => w_ly_6_4
  | 5, _ => w_ly_6_5
  | 6, _ => w_ly_6_6
  | 7, _ => w_ly_6_7
  | 8, _ => w_ly_6_8
  | 9, _ => w_ly_6_9
  | 10, _ => w_ly_6_10
  | 11, _ => w_ly_6_11
  | 12, _ => w_ly_6_12
  | 13, _ => w_ly_6_13
  | 14, _ => w_ly_6_14
  | 15, _ => w_ly_6_15
  | 16, _ => w_ly_6_16
  | 17, _ => w_ly_6_17
  | 18, _ => w_ly_6_18
  | 19, _ => w_ly_6_19
  | 20, _ => w_ly_6_20
  | 21, _ => w_ly_6_21
  | 22, _ => w_ly_6_22
  | 23, _ => w_ly_6_23
  | 24, _ => w_ly_6_24
  | 25, _ => w_ly_6_25
  | 26, _ => w_ly_6_26
  | 27, _ => w_ly_6_27
  | 28, _ => w_ly_6_28
  | 29, _ => w_ly_6_29
  | 30, _ => w_ly_6_30
  | 31, _ => w_ly_6_31
  | 32, _ => w_ly_6_32
  | 33, _ => w_ly_6_33
  | k + 34, h => absurd h (by rw [show xNF 6 = 34 from rfl]; omega)
theorem f_lay {ci : Nat} (h : ci < 7) : ∀ w ∈ u_ws (xCN ci) (xT ci) (xNF ci), w ∈ xgw := by
  intro w hw
  obtain ⟨k, hk, rfl⟩ := List.mem_map.mp hw
  have hk := List.mem_range.mp hk
  match ci, h, hk with
  | 0, _, hk => exact q_l_0 k hk
  | 1, _, hk => exact q_l_1 k hk
  | 2, _, hk => exact q_l_2 k hk
  | 3, _, hk => exact q_l_3 k hk
  | 4, _, hk => exact q_l_4 k hk
  | 5, _, hk => exact q_l_5 k hk
  | 6, _, hk => exact q_l_6 k hk
theorem f_ty {ci k : Nat} (h : ci < 7) (hk : k < xNF ci) : parseFieldDescriptor (xT ci k).2.2.1 = some (xty ci k) := by
  have H : ∀ ci, ci < 7 → ∀ k, k < xNF ci → (parseFieldDescriptor (xT ci k).2.2.1).isSome = true := by decide +kernel
  have h1 := H ci h k hk
  unfold xty
  cases hp : parseFieldDescriptor (xT ci k).2.2.1 with
  | none => rw [hp] at h1; cases h1
  | some t => rfl
theorem f_tk {ci k : Nat} (h : ci < 7) (hk : k < xNF ci) : (xFK ci k = 0 ∧ xty ci k = .int) ∨ (xFK ci k = 1 ∧ xty ci k = .boolean) ∨ (xFK ci k = 2 ∧ xty ci k = .long) ∨ (xFK ci k = 3 ∧ xref (xty ci k) = true) := by
  have H : ∀ ci, ci < 7 → ∀ k, k < xNF ci → ((xFK ci k = 0 ∧ xty ci k = .int) ∨ (xFK ci k = 1 ∧ xty ci k = .boolean) ∨ (xFK ci k = 2 ∧ xty ci k = .long) ∨ (xFK ci k = 3 ∧ xref (xty ci k) = true)) := by decide +kernel
  exact H ci h k hk
theorem f_nm {ci : Nat} (h : ci < 7) : ∀ a, a < xNF ci → ∀ b, b < xNF ci → a ≠ b → (xT ci a).2.1 ≠ (xT ci b).2.1 := by
  have H : ∀ ci, ci < 7 → ∀ a, a < xNF ci → ∀ b, b < xNF ci → a ≠ b → (xT ci a).2.1 ≠ (xT ci b).2.1 := by decide +kernel
  exact H ci h
theorem f_code {k : Nat} (h0 : 0 < k) (hk : k < xnM) : Cond.code (xY k) (xB k) (xnL k) (xRt k) ∈ xgw := by
  match k, h0, hk with
  | 1, _, _ => exact w_co_1
  | 2, _, _ => exact w_co_2
  | 3, _, _ => exact w_co_3
  | 4, _, _ => exact w_co_4
  | 5, _, _ => exact w_co_5
  | 6, _, _ => exact w_co_6
  | 7, _, _ => exact w_co_7
  | 8, _, _ => exact w_co_8
  | 9, _, _ => exact w_co_9
  | 10, _, _ => exact w_co_10
  | 11, _, _ => exact w_co_11
  | 12, _, _ => exact w_co_12
  | 13, _, _ => exact w_co_13
  | 14, _, _ => exact w_co_14
  | 15, _, _ => exact w_co_15
  | 16, _, _ => exact w_co_16
  | 17, _, _ => exact w_co_17
  | 18, _, _ => exact w_co_18
  | 19, _, _ => exact w_co_19
  | 20, _, _ => exact w_co_20
  | 21, _, _ => exact w_co_21
  | 22, _, _ => exact w_co_22
  | 23, _, _ => exact w_co_23
  | 24, _, _ => exact w_co_24
  | 25, _, _ => exact w_co_25
  | 26, _, _ => exact w_co_26
  | 27, _, _ => exact w_co_27
  | 28, _, _ => exact w_co_28
  | 29, _, _ => exact w_co_29
  | 30, _, _ => exact w_co_30
  | 31, _, _ => exact w_co_31
  | 32, _, _ => exact w_co_32
  | 33, _, _ => exact w_co_33
  | 34, _, _ => exact w_co_34
  | 35, _, _ => exact w_co_35
  | 36, _, _ => exact w_co_36
  | 37, _, _ => exact w_co_37
  | 38, _, _ => exact w_co_38
  | 39, _, _ => exact w_co_39
  | 40, _, _ => exact w_co_40
  | 41, _, _ => exact w_co_41
  | 42, _, _ => exact w_co_42
  | 43, _, _ => exact w_co_43
  | 44, _, _ => exact w_co_44
  | 45, _, _ => exact w_co_45
  | 46, _, _ => exact w_co_46
  | 47, _, _ => exact w_co_47
  | 48, _, _ => exact w_co_48
  | 49, _, _ => exact w_co_49
  | 50, _, _ => exact w_co_50
  | 51, _, _ => exact w_co_51
  | 52, _, _ => exact w_co_52
  | 53, _, _ => exact w_co_53
  | 54, _, _ => exact w_co_54
  | 55, _, _ => exact w_co_55
  | 56, _, _ => exact w_co_56
  | 57, _, _ => exact w_co_57
  | 58, _, _ => exact w_co_58
  | 59, _, _ => exact w_co_59
  | 60, _, _ => exact w_co_60
  | 61, _, _ => exact w_co_61
  | 62, _, _ => exact w_co_62
  | 63, _, _ => exact w_co_63
  | 64, _, _ => exact w_co_64
  | 65, _, _ => exact w_co_65
  | 66, _, _ => exact w_co_66
  | 67, _, _ => exact w_co_67
  | 68, _, _ => exact w_co_68
  | 69, _, _ => exact w_co_69
  | 70, _, _ => exact w_co_70
  | 71, _, _ => exact w_co_71
  | 72, _, _ => exact w_co_72
  | 73, _, _ => exact w_co_73
  | 74, _, _ => exact w_co_74
  | 75, _, _ => exact w_co_75
  | 76, _, _ => exact w_co_76
  | 77, _, _ => exact w_co_77
  | 78, _, _ => exact w_co_78
  | 79, _, _ => exact w_co_79
  | 80, _, _ => exact w_co_80
  | 81, _, _ => exact w_co_81
  | 82, _, _ => exact w_co_82
  | 83, _, _ => exact w_co_83
  | 84, _, _ => exact w_co_84
  | 85, _, _ => exact w_co_85
  | 86, _, _ => exact w_co_86
  | 87, _, _ => exact w_co_87
  | 88, _, _ => exact w_co_88
  | 89, _, _ => exact w_co_89
  | 90, _, _ => exact w_co_90
  | 91, _, _ => exact w_co_91
  | 92, _, _ => exact w_co_92
  | 93, _, _ => exact w_co_93
  | 94, _, _ => exact w_co_94
  | 95, _, _ => exact w_co_95
  | 96, _, _ => exact w_co_96
  | 97, _, _ => exact w_co_97
  | 98, _, _ => exact w_co_98
  | 99, _, _ => exact w_co_99
  | 100, _, _ => exact w_co_100
  | 101, _, _ => exact w_co_101
  | 102, _, _ => exact w_co_102
  | 103, _, _ => exact w_co_103
  | 104, _, _ => exact w_co_104
  | 105, _, _ => exact w_co_105
  | 106, _, _ => exact w_co_106
  | 107, _, _ => exact w_co_107
  | 108, _, _ => exact w_co_108
  | 109, _, _ => exact w_co_109
  | 110, _, _ => exact w_co_110
  | k + 111, _, hk => exact absurd hk (by rw [show xnM = 111 from rfl]; omega)
theorem f_cls {k : Nat} (hk : k < xnM) : (xY k).cls ≠ "java/lang/invoke/MethodHandle" ∧ (xY k).cls ≠ "java/lang/invoke/VarHandle" ∧ plainFor (xY k) = true ∧ xON (xO k) = (xY k).cls ∧ (∀ ci, xIni k = some ci → (xY k).name = "<init>" ∧ xCN ci = xON (xO k)) ∧ xnL k ≤ 21 := by
  have H : ∀ k, k < xnM → ((xY k).cls ≠ "java/lang/invoke/MethodHandle" ∧ (xY k).cls ≠ "java/lang/invoke/VarHandle" ∧ plainFor (xY k) = true ∧ xON (xO k) = (xY k).cls ∧ xnL k ≤ 21) := by decide +kernel
  obtain ⟨h1, h2, h3, h4, h6⟩ := H k hk
  refine ⟨h1, h2, h3, h4, fun ci hi => ?_, h6⟩
  unfold xIni at hi
  split at hi
  · next hn => cases hi; exact ⟨hn, rfl⟩
  · cases hi
theorem w_ns_0 : Cond.methodLinkNest "PageRaster" 9 ⟨"PageRaster$Text", "<init>", "()V"⟩ "PageRaster" ∈ lw_tbl := List.mem_of_getElem? (i := 58) (by decide +kernel)
theorem w_ns_1 : Cond.methodLinkNest "PageRaster$Drawing" 11 ⟨"PageRaster$Page", "<init>", "()V"⟩ "PageRaster" ∈ lw_tbl := List.mem_of_getElem? (i := 81) (by decide +kernel)
theorem w_ns_2 : Cond.methodLinkNest "PageRaster$Drawing" 20 ⟨"PageRaster$Path", "<init>", "()V"⟩ "PageRaster" ∈ lw_tbl := List.mem_of_getElem? (i := 99) (by decide +kernel)
theorem w_ns_3 : Cond.methodLinkNest "PageRaster$Drawing" 44 ⟨"PageRaster$State", "<init>", "()V"⟩ "PageRaster" ∈ lw_tbl := List.mem_of_getElem? (i := 149) (by decide +kernel)
theorem w_ns : ∀ q ∈ xNs, Cond.methodLinkNest q.1 q.2.1 q.2.2.1 q.2.2.2 ∈ lw_tbl := List.forall_mem_cons.mpr ⟨w_ns_0, List.forall_mem_cons.mpr ⟨w_ns_1, List.forall_mem_cons.mpr ⟨w_ns_2, List.forall_mem_cons.mpr ⟨w_ns_3, fun _ h => absurd h List.not_mem_nil⟩⟩⟩⟩
theorem w_ao : Cond.arrayOver (.object xSTn) ∈ lw_tbl := List.mem_of_getElem? (i := 147) (by decide +kernel)
