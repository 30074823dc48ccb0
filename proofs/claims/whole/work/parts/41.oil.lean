/-! oil, lift, machine -/
def mac (s : SS) (b t : Nat) : SS := us (us (us (us (us (us (us s 2 (s 1 0) b) 3 (s 1 0) t) 4 (s 1 0) t) 5 (s 1 0) 0) 6 (s 1 0) 0) 7 (s 1 0) 0) 1 0 (s 1 0 + 1)
section OIL
variable {N : Mem} {σ τ : ST} {s s' w w' w1 w2 : SS} {f g A A' : Nat → Int32}
theorem oil_ok (hC : RC 1 σ s) (hW : WFs s) (hR : RR (σ.1 643) s) (x y : Int32) : OK1 σ s (g_X10_oil N 0 x y) (g_X11_oil N 642 x y) := by
  have hc : s 1 0 ≤ 5 := hW.1.1
  rcases has9 (N := N) (c_1_0 hC) hc x with ⟨h, hne⟩ | ⟨m, hm, rfl, hT⟩
  · refine same0 (r := false) hC hW hR ?_ ?_
    · unfold g_X10_oil g_X10_oil_0
      by_cases hy : nI 0 ≤ y ∧ y ≤ nI 9
      · simp (disch := omega) only [k_0, k_1, k_2, k_3, k_4, k_5, k_6, k_7, k_8, k_9, k_10, k_11, k_12, k_13, k_14, k_15, k_16, k_17, k_18, k_19, k_20, k_21, k_22, k_23, k_24, k_25, k_26, k_27, k_28, k_29, k_30, k_31, k_32, k_33, k_34, k_35, k_36, k_37, k_38, k_39, k_40, k_41, k_42, k_43, k_44, k_45, k_46, k_47, k_48, k_49, k_50, k_51, k_52, k_53, k_54, k_55, k_56, k_57, k_58, k_59, k_60, k_61, k_62, k_63, k_64, k_65, k_66, k_67, k_68, k_69, k_70, k_71, k_72, k_73, k_74, k_75, k_76, k_77, k_78, k_79, k_80, k_81, k_82, k_83, k_84, k_85, k_86, k_87, k_88, k_89, k_90, k_91, k_92, k_93, k_94, k_95, k_96, k_97, k_98, k_99, k_100, k_101, k_102, k_103, k_104, k_105, k_106, k_107, k_108, k_109, k_110, k_111, k_112, k_113, k_114, k_115, k_116, k_117, k_118, k_119, k_120, k_121, k_122, k_123, k_124, k_125, k_126, k_127, k_128, k_129, k_130, k_133, k_144, k_145, k_153, k_193, k_203, k_211, k_227, k_255, k_256, k_280, k_300, k_313, k_371, k_433, k_705, k_997, k_999, k_1000, k_4176, k_4547, k_9999, k_10000, k_30557, k_99999, k_1000000, k_1000000000, nI_add, pk_mul, w_sub, w_rem, w_div, w_dv, w_rm, nI_leI, nI_ltI, nI_eq, w_em, w_me, w_lm, w_ml, w_lem, w_mle, Option.bind_some, Option.some.injEq, xI_n, yI_n, xL_n, yL_n, xP_n, xG_n, I_same, I_row, I_col, L_1, Q_1, R_same, R_row, if_pos, if_neg, ite_self, not_true, not_false, decide_true, decide_false, Nat.add_assoc, true_and, and_true, Nat.zero_add, Nat.add_zero, Nat.mul_zero, Nat.mul_one, Nat.one_mul, eq_self, decide_eq_true, decide_eq_false, Bool.true_eq_false, Bool.false_eq_true, ↓reduceIte, Nat.reduceAdd, Nat.reduceMul, Nat.reduceSub, Nat.reduceDiv, Nat.reduceMod, bb_t, bb_f, h, wi10, hy]
      · simp (disch := omega) only [k_0, k_1, k_2, k_3, k_4, k_5, k_6, k_7, k_8, k_9, k_10, k_11, k_12, k_13, k_14, k_15, k_16, k_17, k_18, k_19, k_20, k_21, k_22, k_23, k_24, k_25, k_26, k_27, k_28, k_29, k_30, k_31, k_32, k_33, k_34, k_35, k_36, k_37, k_38, k_39, k_40, k_41, k_42, k_43, k_44, k_45, k_46, k_47, k_48, k_49, k_50, k_51, k_52, k_53, k_54, k_55, k_56, k_57, k_58, k_59, k_60, k_61, k_62, k_63, k_64, k_65, k_66, k_67, k_68, k_69, k_70, k_71, k_72, k_73, k_74, k_75, k_76, k_77, k_78, k_79, k_80, k_81, k_82, k_83, k_84, k_85, k_86, k_87, k_88, k_89, k_90, k_91, k_92, k_93, k_94, k_95, k_96, k_97, k_98, k_99, k_100, k_101, k_102, k_103, k_104, k_105, k_106, k_107, k_108, k_109, k_110, k_111, k_112, k_113, k_114, k_115, k_116, k_117, k_118, k_119, k_120, k_121, k_122, k_123, k_124, k_125, k_126, k_127, k_128, k_129, k_130, k_133, k_144, k_145, k_153, k_193, k_203, k_211, k_227, k_255, k_256, k_280, k_300, k_313, k_371, k_433, k_705, k_997, k_999, k_1000, k_4176, k_4547, k_9999, k_10000, k_30557, k_99999, k_1000000, k_1000000000, nI_add, pk_mul, w_sub, w_rem, w_div, w_dv, w_rm, nI_leI, nI_ltI, nI_eq, w_em, w_me, w_lm, w_ml, w_lem, w_mle, Option.bind_some, Option.some.injEq, xI_n, yI_n, xL_n, yL_n, xP_n, xG_n, I_same, I_row, I_col, L_1, Q_1, R_same, R_row, if_pos, if_neg, ite_self, not_true, not_false, decide_true, decide_false, Nat.add_assoc, true_and, and_true, Nat.zero_add, Nat.add_zero, Nat.mul_zero, Nat.mul_one, Nat.one_mul, eq_self, decide_eq_true, decide_eq_false, Bool.true_eq_false, Bool.false_eq_true, ↓reduceIte, Nat.reduceAdd, Nat.reduceMul, Nat.reduceSub, Nat.reduceDiv, Nat.reduceMod, bb_t, bb_f, h, wi10, in_f hy]
    · unfold g_X11_oil g_X11_oil_0
      simp (disch := omega) only [k_0, k_1, k_2, k_3, k_4, k_5, k_6, k_7, k_8, k_9, k_10, k_11, k_12, k_13, k_14, k_15, k_16, k_17, k_18, k_19, k_20, k_21, k_22, k_23, k_24, k_25, k_26, k_27, k_28, k_29, k_30, k_31, k_32, k_33, k_34, k_35, k_36, k_37, k_38, k_39, k_40, k_41, k_42, k_43, k_44, k_45, k_46, k_47, k_48, k_49, k_50, k_51, k_52, k_53, k_54, k_55, k_56, k_57, k_58, k_59, k_60, k_61, k_62, k_63, k_64, k_65, k_66, k_67, k_68, k_69, k_70, k_71, k_72, k_73, k_74, k_75, k_76, k_77, k_78, k_79, k_80, k_81, k_82, k_83, k_84, k_85, k_86, k_87, k_88, k_89, k_90, k_91, k_92, k_93, k_94, k_95, k_96, k_97, k_98, k_99, k_100, k_101, k_102, k_103, k_104, k_105, k_106, k_107, k_108, k_109, k_110, k_111, k_112, k_113, k_114, k_115, k_116, k_117, k_118, k_119, k_120, k_121, k_122, k_123, k_124, k_125, k_126, k_127, k_128, k_129, k_130, k_133, k_144, k_145, k_153, k_193, k_203, k_211, k_227, k_255, k_256, k_280, k_300, k_313, k_371, k_433, k_705, k_997, k_999, k_1000, k_4176, k_4547, k_9999, k_10000, k_30557, k_99999, k_1000000, k_1000000000, nI_add, pk_mul, w_sub, w_rem, w_div, w_dv, w_rm, nI_leI, nI_ltI, nI_eq, w_em, w_me, w_lm, w_ml, w_lem, w_mle, Option.bind_some, Option.some.injEq, xI_n, yI_n, xL_n, yL_n, xP_n, xG_n, I_same, I_row, I_col, L_1, Q_1, R_same, R_row, if_pos, if_neg, ite_self, not_true, not_false, decide_true, decide_false, Nat.add_assoc, true_and, and_true, Nat.zero_add, Nat.add_zero, Nat.mul_zero, Nat.mul_one, Nat.one_mul, eq_self, decide_eq_true, decide_eq_false, Bool.true_eq_false, Bool.false_eq_true, ↓reduceIte, Nat.reduceAdd, Nat.reduceMul, Nat.reduceSub, Nat.reduceDiv, Nat.reduceMod, bb_t, bb_f, isMF (N := N) (r_0 hR) hc hne]
  rcases argn y (n := 9) (by omega) with h | ⟨v, hv, rfl⟩
  · refine same0 (r := false) hC hW hR ?_ ?_
    · unfold g_X10_oil g_X10_oil_0
      simp (disch := omega) only [k_0, k_1, k_2, k_3, k_4, k_5, k_6, k_7, k_8, k_9, k_10, k_11, k_12, k_13, k_14, k_15, k_16, k_17, k_18, k_19, k_20, k_21, k_22, k_23, k_24, k_25, k_26, k_27, k_28, k_29, k_30, k_31, k_32, k_33, k_34, k_35, k_36, k_37, k_38, k_39, k_40, k_41, k_42, k_43, k_44, k_45, k_46, k_47, k_48, k_49, k_50, k_51, k_52, k_53, k_54, k_55, k_56, k_57, k_58, k_59, k_60, k_61, k_62, k_63, k_64, k_65, k_66, k_67, k_68, k_69, k_70, k_71, k_72, k_73, k_74, k_75, k_76, k_77, k_78, k_79, k_80, k_81, k_82, k_83, k_84, k_85, k_86, k_87, k_88, k_89, k_90, k_91, k_92, k_93, k_94, k_95, k_96, k_97, k_98, k_99, k_100, k_101, k_102, k_103, k_104, k_105, k_106, k_107, k_108, k_109, k_110, k_111, k_112, k_113, k_114, k_115, k_116, k_117, k_118, k_119, k_120, k_121, k_122, k_123, k_124, k_125, k_126, k_127, k_128, k_129, k_130, k_133, k_144, k_145, k_153, k_193, k_203, k_211, k_227, k_255, k_256, k_280, k_300, k_313, k_371, k_433, k_705, k_997, k_999, k_1000, k_4176, k_4547, k_9999, k_10000, k_30557, k_99999, k_1000000, k_1000000000, nI_add, pk_mul, w_sub, w_rem, w_div, w_dv, w_rm, nI_leI, nI_ltI, nI_eq, w_em, w_me, w_lm, w_ml, w_lem, w_mle, Option.bind_some, Option.some.injEq, xI_n, yI_n, xL_n, yL_n, xP_n, xG_n, I_same, I_row, I_col, L_1, Q_1, R_same, R_row, if_pos, if_neg, ite_self, not_true, not_false, decide_true, decide_false, Nat.add_assoc, true_and, and_true, Nat.zero_add, Nat.add_zero, Nat.mul_zero, Nat.mul_one, Nat.one_mul, eq_self, decide_eq_true, decide_eq_false, Bool.true_eq_false, Bool.false_eq_true, ↓reduceIte, Nat.reduceAdd, Nat.reduceMul, Nat.reduceSub, Nat.reduceDiv, Nat.reduceMod, bb_t, bb_f, wi10, in_f h]
    · unfold g_X11_oil g_X11_oil_0
      simp (disch := omega) only [k_0, k_1, k_2, k_3, k_4, k_5, k_6, k_7, k_8, k_9, k_10, k_11, k_12, k_13, k_14, k_15, k_16, k_17, k_18, k_19, k_20, k_21, k_22, k_23, k_24, k_25, k_26, k_27, k_28, k_29, k_30, k_31, k_32, k_33, k_34, k_35, k_36, k_37, k_38, k_39, k_40, k_41, k_42, k_43, k_44, k_45, k_46, k_47, k_48, k_49, k_50, k_51, k_52, k_53, k_54, k_55, k_56, k_57, k_58, k_59, k_60, k_61, k_62, k_63, k_64, k_65, k_66, k_67, k_68, k_69, k_70, k_71, k_72, k_73, k_74, k_75, k_76, k_77, k_78, k_79, k_80, k_81, k_82, k_83, k_84, k_85, k_86, k_87, k_88, k_89, k_90, k_91, k_92, k_93, k_94, k_95, k_96, k_97, k_98, k_99, k_100, k_101, k_102, k_103, k_104, k_105, k_106, k_107, k_108, k_109, k_110, k_111, k_112, k_113, k_114, k_115, k_116, k_117, k_118, k_119, k_120, k_121, k_122, k_123, k_124, k_125, k_126, k_127, k_128, k_129, k_130, k_133, k_144, k_145, k_153, k_193, k_203, k_211, k_227, k_255, k_256, k_280, k_300, k_313, k_371, k_433, k_705, k_997, k_999, k_1000, k_4176, k_4547, k_9999, k_10000, k_30557, k_99999, k_1000000, k_1000000000, nI_add, pk_mul, w_sub, w_rem, w_div, w_dv, w_rm, nI_leI, nI_ltI, nI_eq, w_em, w_me, w_lm, w_ml, w_lem, w_mle, Option.bind_some, Option.some.injEq, xI_n, yI_n, xL_n, yL_n, xP_n, xG_n, I_same, I_row, I_col, L_1, Q_1, R_same, R_row, if_pos, if_neg, ite_self, not_true, not_false, decide_true, decide_false, Nat.add_assoc, true_and, and_true, Nat.zero_add, Nat.add_zero, Nat.mul_zero, Nat.mul_one, Nat.one_mul, eq_self, decide_eq_true, decide_eq_false, Bool.true_eq_false, Bool.false_eq_true, ↓reduceIte, Nat.reduceAdd, Nat.reduceMul, Nat.reduceSub, Nat.reduceDiv, Nat.reduceMod, bb_t, bb_f, isMT (N := N) (r_0 hR) hc hm, dig11, in_f h]
  obtain ⟨τ, e1, C1, F1⟩ := rem_c (N := N) hC hW
  have W1 := wf_rem hW
  have r0 : rem s 1 0 = s 1 0 := rem_o (by omega) (by omega)
  have m1 : m < rem s 1 0 := by rw [r0]; exact hm
  have F2 : FC σ (setI τ 6 m (nI v)) := F1.set (by omega)
  have C2 : RC 1 (setI τ 6 m (nI v)) (us (rem s) 5 m v) := C1.set (k := 5) (by omega) (by omega)
  obtain ⟨g, e3, R1⟩ := keepR (N := N) hW (hR.fc F2)
  refine ⟨true, us (rem s) 5 m v, setI τ 6 m (nI v), setR (setI τ 6 m (nI v)) 643 (ua g (11 + (18 * m + 1)) (nI v)), ?_, ?_, C2, F2, wf_5 W1 hv, ?_, FR.rfl.row (by omega), ?_⟩
  · unfold g_X10_oil g_X10_oil_0
    simp (disch := omega) only [k_0, k_1, k_2, k_3, k_4, k_5, k_6, k_7, k_8, k_9, k_10, k_11, k_12, k_13, k_14, k_15, k_16, k_17, k_18, k_19, k_20, k_21, k_22, k_23, k_24, k_25, k_26, k_27, k_28, k_29, k_30, k_31, k_32, k_33, k_34, k_35, k_36, k_37, k_38, k_39, k_40, k_41, k_42, k_43, k_44, k_45, k_46, k_47, k_48, k_49, k_50, k_51, k_52, k_53, k_54, k_55, k_56, k_57, k_58, k_59, k_60, k_61, k_62, k_63, k_64, k_65, k_66, k_67, k_68, k_69, k_70, k_71, k_72, k_73, k_74, k_75, k_76, k_77, k_78, k_79, k_80, k_81, k_82, k_83, k_84, k_85, k_86, k_87, k_88, k_89, k_90, k_91, k_92, k_93, k_94, k_95, k_96, k_97, k_98, k_99, k_100, k_101, k_102, k_103, k_104, k_105, k_106, k_107, k_108, k_109, k_110, k_111, k_112, k_113, k_114, k_115, k_116, k_117, k_118, k_119, k_120, k_121, k_122, k_123, k_124, k_125, k_126, k_127, k_128, k_129, k_130, k_133, k_144, k_145, k_153, k_193, k_203, k_211, k_227, k_255, k_256, k_280, k_300, k_313, k_371, k_433, k_705, k_997, k_999, k_1000, k_4176, k_4547, k_9999, k_10000, k_30557, k_99999, k_1000000, k_1000000000, nI_add, pk_mul, w_sub, w_rem, w_div, w_dv, w_rm, nI_leI, nI_ltI, nI_eq, w_em, w_me, w_lm, w_ml, w_lem, w_mle, Option.bind_some, Option.some.injEq, xI_n, yI_n, xL_n, yL_n, xP_n, xG_n, I_same, I_row, I_col, L_1, Q_1, R_same, R_row, if_pos, if_neg, ite_self, not_true, not_false, decide_true, decide_false, Nat.add_assoc, true_and, and_true, Nat.zero_add, Nat.add_zero, Nat.mul_zero, Nat.mul_one, Nat.one_mul, eq_self, decide_eq_true, decide_eq_false, Bool.true_eq_false, Bool.false_eq_true, ↓reduceIte, Nat.reduceAdd, Nat.reduceMul, Nat.reduceSub, Nat.reduceDiv, Nat.reduceMod, bb_t, bb_f, wi10, hT, e1]
  · unfold g_X11_oil g_X11_oil_0 g_X11_lay g_X11_lay_0
    simp (disch := omega) only [k_0, k_1, k_2, k_3, k_4, k_5, k_6, k_7, k_8, k_9, k_10, k_11, k_12, k_13, k_14, k_15, k_16, k_17, k_18, k_19, k_20, k_21, k_22, k_23, k_24, k_25, k_26, k_27, k_28, k_29, k_30, k_31, k_32, k_33, k_34, k_35, k_36, k_37, k_38, k_39, k_40, k_41, k_42, k_43, k_44, k_45, k_46, k_47, k_48, k_49, k_50, k_51, k_52, k_53, k_54, k_55, k_56, k_57, k_58, k_59, k_60, k_61, k_62, k_63, k_64, k_65, k_66, k_67, k_68, k_69, k_70, k_71, k_72, k_73, k_74, k_75, k_76, k_77, k_78, k_79, k_80, k_81, k_82, k_83, k_84, k_85, k_86, k_87, k_88, k_89, k_90, k_91, k_92, k_93, k_94, k_95, k_96, k_97, k_98, k_99, k_100, k_101, k_102, k_103, k_104, k_105, k_106, k_107, k_108, k_109, k_110, k_111, k_112, k_113, k_114, k_115, k_116, k_117, k_118, k_119, k_120, k_121, k_122, k_123, k_124, k_125, k_126, k_127, k_128, k_129, k_130, k_133, k_144, k_145, k_153, k_193, k_203, k_211, k_227, k_255, k_256, k_280, k_300, k_313, k_371, k_433, k_705, k_997, k_999, k_1000, k_4176, k_4547, k_9999, k_10000, k_30557, k_99999, k_1000000, k_1000000000, nI_add, pk_mul, w_sub, w_rem, w_div, w_dv, w_rm, nI_leI, nI_ltI, nI_eq, w_em, w_me, w_lm, w_ml, w_lem, w_mle, Option.bind_some, Option.some.injEq, xI_n, yI_n, xL_n, yL_n, xP_n, xG_n, I_same, I_row, I_col, L_1, Q_1, R_same, R_row, if_pos, if_neg, ite_self, not_true, not_false, decide_true, decide_false, Nat.add_assoc, true_and, and_true, Nat.zero_add, Nat.add_zero, Nat.mul_zero, Nat.mul_one, Nat.one_mul, eq_self, decide_eq_true, decide_eq_false, Bool.true_eq_false, Bool.false_eq_true, ↓reduceIte, Nat.reduceAdd, Nat.reduceMul, Nat.reduceSub, Nat.reduceDiv, Nat.reduceMod, bb_t, bb_f, dig11, isMT (N := N) (r_0 (hR.fc F2)) hc hm, e3, R_ua]
  · rw [R_1]
    exact rr_f1 W1 R1 m1
  · rw [us_row (by omega), rem_o (by omega) (by omega)]
theorem lift_ok (hC : RC 1 σ s) (hW : WFs s) (hR : RR (σ.1 643) s) (x : Int32) : OK1 σ s (g_X10_lift N 0 x) (g_X11_lift N 642 x) := by
  have hc : s 1 0 ≤ 5 := hW.1.1
  rcases has9 (N := N) (c_1_0 hC) hc x with ⟨h, hne⟩ | ⟨m, hm, rfl, hT⟩
  · refine same0 (r := false) hC hW hR ?_ ?_
    · unfold g_X10_lift g_X10_lift_0 g_X9_hasRoll g_X9_hasRoll_0
      simp (disch := omega) only [k_0, k_1, k_2, k_3, k_4, k_5, k_6, k_7, k_8, k_9, k_10, k_11, k_12, k_13, k_14, k_15, k_16, k_17, k_18, k_19, k_20, k_21, k_22, k_23, k_24, k_25, k_26, k_27, k_28, k_29, k_30, k_31, k_32, k_33, k_34, k_35, k_36, k_37, k_38, k_39, k_40, k_41, k_42, k_43, k_44, k_45, k_46, k_47, k_48, k_49, k_50, k_51, k_52, k_53, k_54, k_55, k_56, k_57, k_58, k_59, k_60, k_61, k_62, k_63, k_64, k_65, k_66, k_67, k_68, k_69, k_70, k_71, k_72, k_73, k_74, k_75, k_76, k_77, k_78, k_79, k_80, k_81, k_82, k_83, k_84, k_85, k_86, k_87, k_88, k_89, k_90, k_91, k_92, k_93, k_94, k_95, k_96, k_97, k_98, k_99, k_100, k_101, k_102, k_103, k_104, k_105, k_106, k_107, k_108, k_109, k_110, k_111, k_112, k_113, k_114, k_115, k_116, k_117, k_118, k_119, k_120, k_121, k_122, k_123, k_124, k_125, k_126, k_127, k_128, k_129, k_130, k_133, k_144, k_145, k_153, k_193, k_203, k_211, k_227, k_255, k_256, k_280, k_300, k_313, k_371, k_433, k_705, k_997, k_999, k_1000, k_4176, k_4547, k_9999, k_10000, k_30557, k_99999, k_1000000, k_1000000000, nI_add, pk_mul, w_sub, w_rem, w_div, w_dv, w_rm, nI_leI, nI_ltI, nI_eq, w_em, w_me, w_lm, w_ml, w_lem, w_mle, Option.bind_some, Option.some.injEq, xI_n, yI_n, xL_n, yL_n, xP_n, xG_n, I_same, I_row, I_col, L_1, Q_1, R_same, R_row, if_pos, if_neg, ite_self, not_true, not_false, decide_true, decide_false, Nat.add_assoc, true_and, and_true, Nat.zero_add, Nat.add_zero, Nat.mul_zero, Nat.mul_one, Nat.one_mul, eq_self, decide_eq_true, decide_eq_false, Bool.true_eq_false, Bool.false_eq_true, ↓reduceIte, Nat.reduceAdd, Nat.reduceMul, Nat.reduceSub, Nat.reduceDiv, Nat.reduceMod, bb_t, bb_f, h]
    · unfold g_X11_lift g_X11_lift_0 g_X11_canLift g_X11_canLift_0
      simp (disch := omega) only [k_0, k_1, k_2, k_3, k_4, k_5, k_6, k_7, k_8, k_9, k_10, k_11, k_12, k_13, k_14, k_15, k_16, k_17, k_18, k_19, k_20, k_21, k_22, k_23, k_24, k_25, k_26, k_27, k_28, k_29, k_30, k_31, k_32, k_33, k_34, k_35, k_36, k_37, k_38, k_39, k_40, k_41, k_42, k_43, k_44, k_45, k_46, k_47, k_48, k_49, k_50, k_51, k_52, k_53, k_54, k_55, k_56, k_57, k_58, k_59, k_60, k_61, k_62, k_63, k_64, k_65, k_66, k_67, k_68, k_69, k_70, k_71, k_72, k_73, k_74, k_75, k_76, k_77, k_78, k_79, k_80, k_81, k_82, k_83, k_84, k_85, k_86, k_87, k_88, k_89, k_90, k_91, k_92, k_93, k_94, k_95, k_96, k_97, k_98, k_99, k_100, k_101, k_102, k_103, k_104, k_105, k_106, k_107, k_108, k_109, k_110, k_111, k_112, k_113, k_114, k_115, k_116, k_117, k_118, k_119, k_120, k_121, k_122, k_123, k_124, k_125, k_126, k_127, k_128, k_129, k_130, k_133, k_144, k_145, k_153, k_193, k_203, k_211, k_227, k_255, k_256, k_280, k_300, k_313, k_371, k_433, k_705, k_997, k_999, k_1000, k_4176, k_4547, k_9999, k_10000, k_30557, k_99999, k_1000000, k_1000000000, nI_add, pk_mul, w_sub, w_rem, w_div, w_dv, w_rm, nI_leI, nI_ltI, nI_eq, w_em, w_me, w_lm, w_ml, w_lem, w_mle, Option.bind_some, Option.some.injEq, xI_n, yI_n, xL_n, yL_n, xP_n, xG_n, I_same, I_row, I_col, L_1, Q_1, R_same, R_row, if_pos, if_neg, ite_self, not_true, not_false, decide_true, decide_false, Nat.add_assoc, true_and, and_true, Nat.zero_add, Nat.add_zero, Nat.mul_zero, Nat.mul_one, Nat.one_mul, eq_self, decide_eq_true, decide_eq_false, Bool.true_eq_false, Bool.false_eq_true, ↓reduceIte, Nat.reduceAdd, Nat.reduceMul, Nat.reduceSub, Nat.reduceDiv, Nat.reduceMod, bb_t, bb_f, isMF (N := N) (r_0 hR) hc hne]
  have t6 : s 7 m ≤ 12 := (hW.1.fld m).2.2.2.2.2
  obtain ⟨q0, q1, q2, q3, q4, q5, q6⟩ := q_m hR hm
  by_cases hl : s 7 m = 0
  · refine same0 (r := false) hC hW hR ?_ ?_
    · unfold g_X10_lift g_X10_lift_0 g_X9_hasRoll g_X9_hasRoll_0
      simp (disch := omega) only [k_0, k_1, k_2, k_3, k_4, k_5, k_6, k_7, k_8, k_9, k_10, k_11, k_12, k_13, k_14, k_15, k_16, k_17, k_18, k_19, k_20, k_21, k_22, k_23, k_24, k_25, k_26, k_27, k_28, k_29, k_30, k_31, k_32, k_33, k_34, k_35, k_36, k_37, k_38, k_39, k_40, k_41, k_42, k_43, k_44, k_45, k_46, k_47, k_48, k_49, k_50, k_51, k_52, k_53, k_54, k_55, k_56, k_57, k_58, k_59, k_60, k_61, k_62, k_63, k_64, k_65, k_66, k_67, k_68, k_69, k_70, k_71, k_72, k_73, k_74, k_75, k_76, k_77, k_78, k_79, k_80, k_81, k_82, k_83, k_84, k_85, k_86, k_87, k_88, k_89, k_90, k_91, k_92, k_93, k_94, k_95, k_96, k_97, k_98, k_99, k_100, k_101, k_102, k_103, k_104, k_105, k_106, k_107, k_108, k_109, k_110, k_111, k_112, k_113, k_114, k_115, k_116, k_117, k_118, k_119, k_120, k_121, k_122, k_123, k_124, k_125, k_126, k_127, k_128, k_129, k_130, k_133, k_144, k_145, k_153, k_193, k_203, k_211, k_227, k_255, k_256, k_280, k_300, k_313, k_371, k_433, k_705, k_997, k_999, k_1000, k_4176, k_4547, k_9999, k_10000, k_30557, k_99999, k_1000000, k_1000000000, nI_add, pk_mul, w_sub, w_rem, w_div, w_dv, w_rm, nI_leI, nI_ltI, nI_eq, w_em, w_me, w_lm, w_ml, w_lem, w_mle, Option.bind_some, Option.some.injEq, xI_n, yI_n, xL_n, yL_n, xP_n, xG_n, I_same, I_row, I_col, L_1, Q_1, R_same, R_row, if_pos, if_neg, ite_self, not_true, not_false, decide_true, decide_false, Nat.add_assoc, true_and, and_true, Nat.zero_add, Nat.add_zero, Nat.mul_zero, Nat.mul_one, Nat.one_mul, eq_self, decide_eq_true, decide_eq_false, Bool.true_eq_false, Bool.false_eq_true, ↓reduceIte, Nat.reduceAdd, Nat.reduceMul, Nat.reduceSub, Nat.reduceDiv, Nat.reduceMod, bb_t, bb_f, hT, c_7 hC, hl]
    · unfold g_X11_lift g_X11_lift_0 g_X11_canLift g_X11_canLift_0 g_X11_get g_X11_get_0
      simp (disch := omega) only [k_0, k_1, k_2, k_3, k_4, k_5, k_6, k_7, k_8, k_9, k_10, k_11, k_12, k_13, k_14, k_15, k_16, k_17, k_18, k_19, k_20, k_21, k_22, k_23, k_24, k_25, k_26, k_27, k_28, k_29, k_30, k_31, k_32, k_33, k_34, k_35, k_36, k_37, k_38, k_39, k_40, k_41, k_42, k_43, k_44, k_45, k_46, k_47, k_48, k_49, k_50, k_51, k_52, k_53, k_54, k_55, k_56, k_57, k_58, k_59, k_60, k_61, k_62, k_63, k_64, k_65, k_66, k_67, k_68, k_69, k_70, k_71, k_72, k_73, k_74, k_75, k_76, k_77, k_78, k_79, k_80, k_81, k_82, k_83, k_84, k_85, k_86, k_87, k_88, k_89, k_90, k_91, k_92, k_93, k_94, k_95, k_96, k_97, k_98, k_99, k_100, k_101, k_102, k_103, k_104, k_105, k_106, k_107, k_108, k_109, k_110, k_111, k_112, k_113, k_114, k_115, k_116, k_117, k_118, k_119, k_120, k_121, k_122, k_123, k_124, k_125, k_126, k_127, k_128, k_129, k_130, k_133, k_144, k_145, k_153, k_193, k_203, k_211, k_227, k_255, k_256, k_280, k_300, k_313, k_371, k_433, k_705, k_997, k_999, k_1000, k_4176, k_4547, k_9999, k_10000, k_30557, k_99999, k_1000000, k_1000000000, nI_add, pk_mul, w_sub, w_rem, w_div, w_dv, w_rm, nI_leI, nI_ltI, nI_eq, w_em, w_me, w_lm, w_ml, w_lem, w_mle, Option.bind_some, Option.some.injEq, xI_n, yI_n, xL_n, yL_n, xP_n, xG_n, I_same, I_row, I_col, L_1, Q_1, R_same, R_row, if_pos, if_neg, ite_self, not_true, not_false, decide_true, decide_false, Nat.add_assoc, true_and, and_true, Nat.zero_add, Nat.add_zero, Nat.mul_zero, Nat.mul_one, Nat.one_mul, eq_self, decide_eq_true, decide_eq_false, Bool.true_eq_false, Bool.false_eq_true, ↓reduceIte, Nat.reduceAdd, Nat.reduceMul, Nat.reduceSub, Nat.reduceDiv, Nat.reduceMod, bb_t, bb_f, isMT (N := N) (r_0 hR) hc hm, q3, hl]
  obtain ⟨τ, e1, C1, F1⟩ := rem_c (N := N) hC hW
  have W1 := wf_rem hW
  have r0 : rem s 1 0 = s 1 0 := rem_o (by omega) (by omega)
  have m1 : m < rem s 1 0 := by rw [r0]; exact hm
  have F2 : FC σ (setI τ 8 m (nI 0)) := F1.set (by omega)
  have C2 : RC 1 (setI τ 8 m (nI 0)) (us (rem s) 7 m 0) := C1.set (k := 7) (by omega) (by omega)
  obtain ⟨g, e3, R1⟩ := keepR (N := N) hW (hR.fc F2)
  obtain ⟨q0, q1, q2, q3, q4, q5, q6⟩ := q_m (hR.fc F2) hm
  refine ⟨true, us (rem s) 7 m 0, setI τ 8 m (nI 0), setR (setI τ 8 m (nI 0)) 643 (clr g m), ?_, ?_, C2, F2, wf_7 W1 (by omega), ?_, FR.rfl.row (by omega), ?_⟩
  · unfold g_X10_lift g_X10_lift_0 g_X9_hasRoll g_X9_hasRoll_0
    simp (disch := omega) only [k_0, k_1, k_2, k_3, k_4, k_5, k_6, k_7, k_8, k_9, k_10, k_11, k_12, k_13, k_14, k_15, k_16, k_17, k_18, k_19, k_20, k_21, k_22, k_23, k_24, k_25, k_26, k_27, k_28, k_29, k_30, k_31, k_32, k_33, k_34, k_35, k_36, k_37, k_38, k_39, k_40, k_41, k_42, k_43, k_44, k_45, k_46, k_47, k_48, k_49, k_50, k_51, k_52, k_53, k_54, k_55, k_56, k_57, k_58, k_59, k_60, k_61, k_62, k_63, k_64, k_65, k_66, k_67, k_68, k_69, k_70, k_71, k_72, k_73, k_74, k_75, k_76, k_77, k_78, k_79, k_80, k_81, k_82, k_83, k_84, k_85, k_86, k_87, k_88, k_89, k_90, k_91, k_92, k_93, k_94, k_95, k_96, k_97, k_98, k_99, k_100, k_101, k_102, k_103, k_104, k_105, k_106, k_107, k_108, k_109, k_110, k_111, k_112, k_113, k_114, k_115, k_116, k_117, k_118, k_119, k_120, k_121, k_122, k_123, k_124, k_125, k_126, k_127, k_128, k_129, k_130, k_133, k_144, k_145, k_153, k_193, k_203, k_211, k_227, k_255, k_256, k_280, k_300, k_313, k_371, k_433, k_705, k_997, k_999, k_1000, k_4176, k_4547, k_9999, k_10000, k_30557, k_99999, k_1000000, k_1000000000, nI_add, pk_mul, w_sub, w_rem, w_div, w_dv, w_rm, nI_leI, nI_ltI, nI_eq, w_em, w_me, w_lm, w_ml, w_lem, w_mle, Option.bind_some, Option.some.injEq, xI_n, yI_n, xL_n, yL_n, xP_n, xG_n, I_same, I_row, I_col, L_1, Q_1, R_same, R_row, if_pos, if_neg, ite_self, not_true, not_false, decide_true, decide_false, Nat.add_assoc, true_and, and_true, Nat.zero_add, Nat.add_zero, Nat.mul_zero, Nat.mul_one, Nat.one_mul, eq_self, decide_eq_true, decide_eq_false, Bool.true_eq_false, Bool.false_eq_true, ↓reduceIte, Nat.reduceAdd, Nat.reduceMul, Nat.reduceSub, Nat.reduceDiv, Nat.reduceMod, bb_t, bb_f, hT, e1, c_7 hC]
  · have hT2 := isMT (N := N) (r_0 (hR.fc F2)) hc hm
    have hcl := clear_ok (N := N) (σ := setI τ 8 m (nI 0)) (f := g) (m := m) (by omega)
    have e5 : g_X11_canLift N 642 (nI m) (setI τ 8 m (nI 0)) = some true := by
      unfold g_X11_canLift g_X11_canLift_0 g_X11_get g_X11_get_0
      rw [hT2, Option.bind_some, if_neg (by decide), k_11, k_18, k_3, pk_mul, nI_add, nI_add, xI_n (by omega) (by omega), Nat.add_assoc, q3, Option.bind_some, Option.bind_some, if_neg]
      rw [k_0, nI_leI (by omega) (by omega)]
      omega
    unfold g_X11_lift g_X11_lift_0
    rw [e5, Option.bind_some, if_pos rfl, e3, Option.bind_some, hcl, Option.bind_some]
  · rw [R_1]
    exact rr_clr W1 R1 m1
  · rw [us_row (by omega), rem_o (by omega) (by omega)]
theorem wf_mac (hW : WFs s) {b t : Nat} (hb : b ≤ 9) (ht : t ≤ 99) (hc : s 1 0 < 5) : WFs (mac s b t) := by
  obtain ⟨a0, a1, a2, a3, a4, a5, a6, a7, a8, a9, a10, a11⟩ := hW.1
  have hs : ∀ k i, k = 0 ∨ 8 ≤ k → mac s b t k i = s k i := by
    intro k i hk
    unfold mac
    simp (disch := omega) only [us_same, us_row, us_col]
  have h1 : ∀ i, mac s b t 1 i = if i = 0 then s 1 0 + 1 else s 1 i := by
    intro i
    unfold mac
    by_cases e : i = 0 <;> simp (disch := omega) only [us_same, us_row, us_col, if_pos, if_neg]
  refine WFs_w hW (fun k i hk => hs k i (by omega)) ?_ (by rw [h1, if_pos rfl]; omega)
  refine ⟨?_, ?_, ?_, ?_, fun m => ?_, fun m => ?_, fun m => ?_, fun m => ?_, fun m => ?_, fun m => ?_, fun m => ?_, fun m => ?_⟩
  · show mac s b t 1 0 ≤ 5
    rw [h1, if_pos rfl]; omega
  · show mac s b t 1 1 ≤ 9999
    rw [h1, if_neg (by omega)]; exact a1
  · show mac s b t 1 2 < 30557
    rw [h1, if_neg (by omega)]; exact a2
  · show mac s b t 1 3 ≤ 30
    rw [h1, if_neg (by omega)]; exact a3
  · show mac s b t 2 m ≤ 9
    unfold mac
    by_cases e : m = s 1 0
    · simp (disch := omega) only [us_same, us_row, us_col]; exact hb
    · simp (disch := omega) only [us_same, us_row, us_col]; exact a4 m
  · show mac s b t 3 m ≤ 99
    unfold mac
    by_cases e : m = s 1 0
    · simp (disch := omega) only [us_same, us_row, us_col]; exact ht
    · simp (disch := omega) only [us_same, us_row, us_col]; exact a5 m
  · show mac s b t 4 m ≤ 99
    unfold mac
    by_cases e : m = s 1 0
    · simp (disch := omega) only [us_same, us_row, us_col]; exact ht
    · simp (disch := omega) only [us_same, us_row, us_col]; exact a6 m
  · show mac s b t 5 m ≤ 9
    unfold mac
    by_cases e : m = s 1 0
    · simp (disch := omega) only [us_same, us_row, us_col]; omega
    · simp (disch := omega) only [us_same, us_row, us_col]; exact a7 m
  · show mac s b t 6 m ≤ 9999
    unfold mac
    by_cases e : m = s 1 0
    · simp (disch := omega) only [us_same, us_row, us_col]; omega
    · simp (disch := omega) only [us_same, us_row, us_col]; exact a8 m
  · show mac s b t 7 m ≤ 12
    unfold mac
    by_cases e : m = s 1 0
    · simp (disch := omega) only [us_same, us_row, us_col]; omega
    · simp (disch := omega) only [us_same, us_row, us_col]; exact a9 m
  · show mac s b t 8 m ≤ 9
    rw [hs _ _ (by omega)]; exact a10 m
  · show mac s b t 9 (4 * m) ≤ 9999 ∧ mac s b t 9 (4 * m + 1) ≤ 4 ∧ mac s b t 9 (4 * m + 2) ≤ 9999 ∧ mac s b t 9 (4 * m + 3) ≤ 9999
    rw [hs _ _ (by omega), hs _ _ (by omega), hs _ _ (by omega), hs _ _ (by omega)]; exact a11 m
def macf (f : Nat → Int32) (c : Nat) (b t : Int32) : Nat → Int32 := ua (bgn (ua (ua f (11 + (18 * c + 16)) b) (11 + (18 * c + 17)) t) c) 0 (nI (c + 1))
theorem rr_mac (hW : WFs s) (hR : RR f s) {b t : Nat} (hc : s 1 0 < 5) : RR (macf f (s 1 0) (nI b) (nI t)) (mac s b t) := by
  have hs : ∀ k i, k = 0 ∨ 8 ≤ k → mac s b t k i = s k i := by
    intro k i hk
    unfold mac
    simp (disch := omega) only [us_same, us_row, us_col]
  have h1 : ∀ i, mac s b t 1 i = if i = 0 then s 1 0 + 1 else s 1 i := by
    intro i
    unfold mac
    by_cases e : i = 0 <;> simp (disch := omega) only [us_same, us_row, us_col, if_pos, if_neg]
  have hn : ∀ i, i ≠ 0 → i < 11 + 18 * s 1 0 ∨ 29 + 18 * s 1 0 ≤ i → macf f (s 1 0) (nI b) (nI t) i = f i := by
    intro i hi h2
    unfold macf bgn
    rw [ua_ne hi, if_neg (by omega), ua_ne (by omega), ua_ne (by omega)]
  obtain ⟨sc, ma, r12, r14, r16, r18, r23, r24, r25, rd, st, bk⟩ := id hR
  obtain ⟨a0, a1, a2, a3, a4, a5, a6, a7, a8, a9, a10⟩ := sc
  refine RR_w hW hR (fun i _ _ => hn _ (by omega) (by omega)) (fun i _ _ => hn _ (by omega) (by omega)) (fun c j hc => hs _ _ (by omega)) ?_ ?_ ?_ ?_ ?_ ?_
  · rw [h1, if_pos rfl]; exact ua_same rfl
  · rw [hn _ (by omega) (by omega), h1, if_neg (by omega)]; exact a8
  · rw [hn _ (by omega) (by omega), h1, if_neg (by omega)]; exact a9
  · rw [hn _ (by omega) (by omega), h1, if_neg (by omega)]; exact a10
  · intro q hq
    have hq : q < mac s b t 1 0 := hq
    rw [h1, if_pos rfl] at hq
    by_cases e : q = s 1 0
    · subst e
      refine ⟨⟨?_, ?_, ?_, ?_, fun i hi => ?_⟩, ?_, ?_⟩
      · show macf f (s 1 0) (nI b) (nI t) (11 + 18 * s 1 0 + 0) = nI (mac s b t 4 (s 1 0))
        unfold macf bgn mac
        rw [ua_ne (by omega), if_pos (by omega), if_pos (by omega), ua_same (by omega)]
        simp (disch := omega) only [us_same, us_row, us_col]
      · show macf f (s 1 0) (nI b) (nI t) (11 + 18 * s 1 0 + 1) = nI (mac s b t 5 (s 1 0))
        unfold macf bgn mac
        rw [ua_ne (by omega), if_pos (by omega), if_neg (by omega)]
        simp (disch := omega) only [us_same, us_row, us_col]
      · show macf f (s 1 0) (nI b) (nI t) (11 + 18 * s 1 0 + 2) = nI (mac s b t 6 (s 1 0))
        unfold macf bgn mac
        rw [ua_ne (by omega), if_pos (by omega), if_neg (by omega)]
        simp (disch := omega) only [us_same, us_row, us_col]
      · show macf f (s 1 0) (nI b) (nI t) (11 + 18 * s 1 0 + 3) = nI (mac s b t 7 (s 1 0))
        unfold macf bgn mac
        rw [ua_ne (by omega), if_pos (by omega), if_neg (by omega)]
        simp (disch := omega) only [us_same, us_row, us_col]
      · have hi : i < mac s b t 7 (s 1 0) := hi
        unfold mac at hi
        simp (disch := omega) only [us_same, us_row, us_col] at hi
        omega
      · show macf f (s 1 0) (nI b) (nI t) (27 + 18 * s 1 0) = nI (mac s b t 2 (s 1 0))
        unfold macf bgn mac
        rw [ua_ne (by omega), if_neg (by omega), ua_ne (by omega), ua_same (by omega)]
        simp (disch := omega) only [us_same, us_row, us_col]
      · show macf f (s 1 0) (nI b) (nI t) (28 + 18 * s 1 0) = nI (mac s b t 3 (s 1 0))
        unfold macf bgn mac
        rw [ua_ne (by omega), if_neg (by omega), ua_same (by omega)]
        simp (disch := omega) only [us_same, us_row, us_col]
    · obtain ⟨⟨h0, h1, h2, h3, h4⟩, h5, h6⟩ := ma q (by show q < s 1 0; omega)
      have hl := hW.1.l q
      refine ⟨⟨?_, ?_, ?_, ?_, fun i hi => ?_⟩, ?_, ?_⟩
      · show macf f (s 1 0) (nI b) (nI t) (11 + 18 * q + 0) = nI (mac s b t 4 q)
        rw [hn _ (by omega) (by omega)]
        unfold mac
        simp (disch := omega) only [us_same, us_row, us_col]
        exact h0
      · show macf f (s 1 0) (nI b) (nI t) (11 + 18 * q + 1) = nI (mac s b t 5 q)
        rw [hn _ (by omega) (by omega)]
        unfold mac
        simp (disch := omega) only [us_same, us_row, us_col]
        exact h1
      · show macf f (s 1 0) (nI b) (nI t) (11 + 18 * q + 2) = nI (mac s b t 6 q)
        rw [hn _ (by omega) (by omega)]
        unfold mac
        simp (disch := omega) only [us_same, us_row, us_col]
        exact h2
      · show macf f (s 1 0) (nI b) (nI t) (11 + 18 * q + 3) = nI (mac s b t 7 q)
        rw [hn _ (by omega) (by omega)]
        unfold mac
        simp (disch := omega) only [us_same, us_row, us_col]
        exact h3
      · have hi : i < mac s b t 7 q := hi
        have e7 : mac s b t 7 q = cur s 6 q := by
          unfold mac
          simp (disch := omega) only [us_same, us_row, us_col]
          rfl
        rw [e7] at hi
        show macf f (s 1 0) (nI b) (nI t) (11 + 18 * q + (4 + i)) = nI (mac s b t 8 (12 * q + i))
        rw [hn _ (by omega) (by omega), hs _ _ (by omega)]
        exact h4 i hi
      · show macf f (s 1 0) (nI b) (nI t) (27 + 18 * q) = nI (mac s b t 2 q)
        rw [hn _ (by omega) (by omega)]
        unfold mac
        simp (disch := omega) only [us_same, us_row, us_col]
        exact h5
      · show macf f (s 1 0) (nI b) (nI t) (28 + 18 * q) = nI (mac s b t 3 q)
        rw [hn _ (by omega) (by omega)]
        unfold mac
        simp (disch := omega) only [us_same, us_row, us_col]
        exact h6
  · refine Rbk_b (fun i _ => hn _ (by omega) (by omega)) (fun j => ?_) ?_ hW.1.2.2.2.1 bk
    · exact hs _ _ (by omega)
    · show mac s b t 1 3 = s 1 3
      rw [h1, if_neg (by omega)]
theorem machine_ok (hC : RC 1 σ s) (hW : WFs s) (hR : RR (σ.1 643) s) (x y : Int32) : OK1 σ s (g_X10_machine N 0 x y) (g_X11_machine N 642 x y) := by
  have hc : s 1 0 ≤ 5 := hW.1.1
  rcases argn x (n := 9) (by omega) with h | ⟨b, hb, rfl⟩
  · refine same0 (r := -1) hC hW hR ?_ ?_
    · unfold g_X10_machine g_X10_machine_0
      simp (disch := omega) only [k_0, k_1, k_2, k_3, k_4, k_5, k_6, k_7, k_8, k_9, k_10, k_11, k_12, k_13, k_14, k_15, k_16, k_17, k_18, k_19, k_20, k_21, k_22, k_23, k_24, k_25, k_26, k_27, k_28, k_29, k_30, k_31, k_32, k_33, k_34, k_35, k_36, k_37, k_38, k_39, k_40, k_41, k_42, k_43, k_44, k_45, k_46, k_47, k_48, k_49, k_50, k_51, k_52, k_53, k_54, k_55, k_56, k_57, k_58, k_59, k_60, k_61, k_62, k_63, k_64, k_65, k_66, k_67, k_68, k_69, k_70, k_71, k_72, k_73, k_74, k_75, k_76, k_77, k_78, k_79, k_80, k_81, k_82, k_83, k_84, k_85, k_86, k_87, k_88, k_89, k_90, k_91, k_92, k_93, k_94, k_95, k_96, k_97, k_98, k_99, k_100, k_101, k_102, k_103, k_104, k_105, k_106, k_107, k_108, k_109, k_110, k_111, k_112, k_113, k_114, k_115, k_116, k_117, k_118, k_119, k_120, k_121, k_122, k_123, k_124, k_125, k_126, k_127, k_128, k_129, k_130, k_133, k_144, k_145, k_153, k_193, k_203, k_211, k_227, k_255, k_256, k_280, k_300, k_313, k_371, k_433, k_705, k_997, k_999, k_1000, k_4176, k_4547, k_9999, k_10000, k_30557, k_99999, k_1000000, k_1000000000, nI_add, pk_mul, w_sub, w_rem, w_div, w_dv, w_rm, nI_leI, nI_ltI, nI_eq, w_em, w_me, w_lm, w_ml, w_lem, w_mle, Option.bind_some, Option.some.injEq, xI_n, yI_n, xL_n, yL_n, xP_n, xG_n, I_same, I_row, I_col, L_1, Q_1, R_same, R_row, if_pos, if_neg, ite_self, not_true, not_false, decide_true, decide_false, Nat.add_assoc, true_and, and_true, Nat.zero_add, Nat.add_zero, Nat.mul_zero, Nat.mul_one, Nat.one_mul, eq_self, decide_eq_true, decide_eq_false, Bool.true_eq_false, Bool.false_eq_true, ↓reduceIte, Nat.reduceAdd, Nat.reduceMul, Nat.reduceSub, Nat.reduceDiv, Nat.reduceMod, bb_t, bb_f, wi10, in_f h]
    · unfold g_X11_machine g_X11_machine_0
      simp (disch := omega) only [k_0, k_1, k_2, k_3, k_4, k_5, k_6, k_7, k_8, k_9, k_10, k_11, k_12, k_13, k_14, k_15, k_16, k_17, k_18, k_19, k_20, k_21, k_22, k_23, k_24, k_25, k_26, k_27, k_28, k_29, k_30, k_31, k_32, k_33, k_34, k_35, k_36, k_37, k_38, k_39, k_40, k_41, k_42, k_43, k_44, k_45, k_46, k_47, k_48, k_49, k_50, k_51, k_52, k_53, k_54, k_55, k_56, k_57, k_58, k_59, k_60, k_61, k_62, k_63, k_64, k_65, k_66, k_67, k_68, k_69, k_70, k_71, k_72, k_73, k_74, k_75, k_76, k_77, k_78, k_79, k_80, k_81, k_82, k_83, k_84, k_85, k_86, k_87, k_88, k_89, k_90, k_91, k_92, k_93, k_94, k_95, k_96, k_97, k_98, k_99, k_100, k_101, k_102, k_103, k_104, k_105, k_106, k_107, k_108, k_109, k_110, k_111, k_112, k_113, k_114, k_115, k_116, k_117, k_118, k_119, k_120, k_121, k_122, k_123, k_124, k_125, k_126, k_127, k_128, k_129, k_130, k_133, k_144, k_145, k_153, k_193, k_203, k_211, k_227, k_255, k_256, k_280, k_300, k_313, k_371, k_433, k_705, k_997, k_999, k_1000, k_4176, k_4547, k_9999, k_10000, k_30557, k_99999, k_1000000, k_1000000000, nI_add, pk_mul, w_sub, w_rem, w_div, w_dv, w_rm, nI_leI, nI_ltI, nI_eq, w_em, w_me, w_lm, w_ml, w_lem, w_mle, Option.bind_some, Option.some.injEq, xI_n, yI_n, xL_n, yL_n, xP_n, xG_n, I_same, I_row, I_col, L_1, Q_1, R_same, R_row, if_pos, if_neg, ite_self, not_true, not_false, decide_true, decide_false, Nat.add_assoc, true_and, and_true, Nat.zero_add, Nat.add_zero, Nat.mul_zero, Nat.mul_one, Nat.one_mul, eq_self, decide_eq_true, decide_eq_false, Bool.true_eq_false, Bool.false_eq_true, ↓reduceIte, Nat.reduceAdd, Nat.reduceMul, Nat.reduceSub, Nat.reduceDiv, Nat.reduceMod, bb_t, bb_f, dig11, in_f h]
  rcases argn y (n := 99) (by omega) with h | ⟨t, ht, rfl⟩
  · refine same0 (r := -1) hC hW hR ?_ ?_
    · unfold g_X10_machine g_X10_machine_0
      simp (disch := omega) only [k_0, k_1, k_2, k_3, k_4, k_5, k_6, k_7, k_8, k_9, k_10, k_11, k_12, k_13, k_14, k_15, k_16, k_17, k_18, k_19, k_20, k_21, k_22, k_23, k_24, k_25, k_26, k_27, k_28, k_29, k_30, k_31, k_32, k_33, k_34, k_35, k_36, k_37, k_38, k_39, k_40, k_41, k_42, k_43, k_44, k_45, k_46, k_47, k_48, k_49, k_50, k_51, k_52, k_53, k_54, k_55, k_56, k_57, k_58, k_59, k_60, k_61, k_62, k_63, k_64, k_65, k_66, k_67, k_68, k_69, k_70, k_71, k_72, k_73, k_74, k_75, k_76, k_77, k_78, k_79, k_80, k_81, k_82, k_83, k_84, k_85, k_86, k_87, k_88, k_89, k_90, k_91, k_92, k_93, k_94, k_95, k_96, k_97, k_98, k_99, k_100, k_101, k_102, k_103, k_104, k_105, k_106, k_107, k_108, k_109, k_110, k_111, k_112, k_113, k_114, k_115, k_116, k_117, k_118, k_119, k_120, k_121, k_122, k_123, k_124, k_125, k_126, k_127, k_128, k_129, k_130, k_133, k_144, k_145, k_153, k_193, k_203, k_211, k_227, k_255, k_256, k_280, k_300, k_313, k_371, k_433, k_705, k_997, k_999, k_1000, k_4176, k_4547, k_9999, k_10000, k_30557, k_99999, k_1000000, k_1000000000, nI_add, pk_mul, w_sub, w_rem, w_div, w_dv, w_rm, nI_leI, nI_ltI, nI_eq, w_em, w_me, w_lm, w_ml, w_lem, w_mle, Option.bind_some, Option.some.injEq, xI_n, yI_n, xL_n, yL_n, xP_n, xG_n, I_same, I_row, I_col, L_1, Q_1, R_same, R_row, if_pos, if_neg, ite_self, not_true, not_false, decide_true, decide_false, Nat.add_assoc, true_and, and_true, Nat.zero_add, Nat.add_zero, Nat.mul_zero, Nat.mul_one, Nat.one_mul, eq_self, decide_eq_true, decide_eq_false, Bool.true_eq_false, Bool.false_eq_true, ↓reduceIte, Nat.reduceAdd, Nat.reduceMul, Nat.reduceSub, Nat.reduceDiv, Nat.reduceMod, bb_t, bb_f, wi10, in_f h]
    · unfold g_X11_machine g_X11_machine_0
      simp (disch := omega) only [k_0, k_1, k_2, k_3, k_4, k_5, k_6, k_7, k_8, k_9, k_10, k_11, k_12, k_13, k_14, k_15, k_16, k_17, k_18, k_19, k_20, k_21, k_22, k_23, k_24, k_25, k_26, k_27, k_28, k_29, k_30, k_31, k_32, k_33, k_34, k_35, k_36, k_37, k_38, k_39, k_40, k_41, k_42, k_43, k_44, k_45, k_46, k_47, k_48, k_49, k_50, k_51, k_52, k_53, k_54, k_55, k_56, k_57, k_58, k_59, k_60, k_61, k_62, k_63, k_64, k_65, k_66, k_67, k_68, k_69, k_70, k_71, k_72, k_73, k_74, k_75, k_76, k_77, k_78, k_79, k_80, k_81, k_82, k_83, k_84, k_85, k_86, k_87, k_88, k_89, k_90, k_91, k_92, k_93, k_94, k_95, k_96, k_97, k_98, k_99, k_100, k_101, k_102, k_103, k_104, k_105, k_106, k_107, k_108, k_109, k_110, k_111, k_112, k_113, k_114, k_115, k_116, k_117, k_118, k_119, k_120, k_121, k_122, k_123, k_124, k_125, k_126, k_127, k_128, k_129, k_130, k_133, k_144, k_145, k_153, k_193, k_203, k_211, k_227, k_255, k_256, k_280, k_300, k_313, k_371, k_433, k_705, k_997, k_999, k_1000, k_4176, k_4547, k_9999, k_10000, k_30557, k_99999, k_1000000, k_1000000000, nI_add, pk_mul, w_sub, w_rem, w_div, w_dv, w_rm, nI_leI, nI_ltI, nI_eq, w_em, w_me, w_lm, w_ml, w_lem, w_mle, Option.bind_some, Option.some.injEq, xI_n, yI_n, xL_n, yL_n, xP_n, xG_n, I_same, I_row, I_col, L_1, Q_1, R_same, R_row, if_pos, if_neg, ite_self, not_true, not_false, decide_true, decide_false, Nat.add_assoc, true_and, and_true, Nat.zero_add, Nat.add_zero, Nat.mul_zero, Nat.mul_one, Nat.one_mul, eq_self, decide_eq_true, decide_eq_false, Bool.true_eq_false, Bool.false_eq_true, ↓reduceIte, Nat.reduceAdd, Nat.reduceMul, Nat.reduceSub, Nat.reduceDiv, Nat.reduceMod, bb_t, bb_f, dig11, wi11, in_f h]
  by_cases h5 : s 1 0 = 5
  · refine same0 (r := -1) hC hW hR ?_ ?_
    · unfold g_X10_machine g_X10_machine_0 g_X9_install g_X9_install_0
      simp (disch := omega) only [k_0, k_1, k_2, k_3, k_4, k_5, k_6, k_7, k_8, k_9, k_10, k_11, k_12, k_13, k_14, k_15, k_16, k_17, k_18, k_19, k_20, k_21, k_22, k_23, k_24, k_25, k_26, k_27, k_28, k_29, k_30, k_31, k_32, k_33, k_34, k_35, k_36, k_37, k_38, k_39, k_40, k_41, k_42, k_43, k_44, k_45, k_46, k_47, k_48, k_49, k_50, k_51, k_52, k_53, k_54, k_55, k_56, k_57, k_58, k_59, k_60, k_61, k_62, k_63, k_64, k_65, k_66, k_67, k_68, k_69, k_70, k_71, k_72, k_73, k_74, k_75, k_76, k_77, k_78, k_79, k_80, k_81, k_82, k_83, k_84, k_85, k_86, k_87, k_88, k_89, k_90, k_91, k_92, k_93, k_94, k_95, k_96, k_97, k_98, k_99, k_100, k_101, k_102, k_103, k_104, k_105, k_106, k_107, k_108, k_109, k_110, k_111, k_112, k_113, k_114, k_115, k_116, k_117, k_118, k_119, k_120, k_121, k_122, k_123, k_124, k_125, k_126, k_127, k_128, k_129, k_130, k_133, k_144, k_145, k_153, k_193, k_203, k_211, k_227, k_255, k_256, k_280, k_300, k_313, k_371, k_433, k_705, k_997, k_999, k_1000, k_4176, k_4547, k_9999, k_10000, k_30557, k_99999, k_1000000, k_1000000000, nI_add, pk_mul, w_sub, w_rem, w_div, w_dv, w_rm, nI_leI, nI_ltI, nI_eq, w_em, w_me, w_lm, w_ml, w_lem, w_mle, Option.bind_some, Option.some.injEq, xI_n, yI_n, xL_n, yL_n, xP_n, xG_n, I_same, I_row, I_col, L_1, Q_1, R_same, R_row, if_pos, if_neg, ite_self, not_true, not_false, decide_true, decide_false, Nat.add_assoc, true_and, and_true, Nat.zero_add, Nat.add_zero, Nat.mul_zero, Nat.mul_one, Nat.one_mul, eq_self, decide_eq_true, decide_eq_false, Bool.true_eq_false, Bool.false_eq_true, ↓reduceIte, Nat.reduceAdd, Nat.reduceMul, Nat.reduceSub, Nat.reduceDiv, Nat.reduceMod, bb_t, bb_f, wi10, c_1_0 hC, h5]
    · unfold g_X11_machine g_X11_machine_0
      simp (disch := omega) only [k_0, k_1, k_2, k_3, k_4, k_5, k_6, k_7, k_8, k_9, k_10, k_11, k_12, k_13, k_14, k_15, k_16, k_17, k_18, k_19, k_20, k_21, k_22, k_23, k_24, k_25, k_26, k_27, k_28, k_29, k_30, k_31, k_32, k_33, k_34, k_35, k_36, k_37, k_38, k_39, k_40, k_41, k_42, k_43, k_44, k_45, k_46, k_47, k_48, k_49, k_50, k_51, k_52, k_53, k_54, k_55, k_56, k_57, k_58, k_59, k_60, k_61, k_62, k_63, k_64, k_65, k_66, k_67, k_68, k_69, k_70, k_71, k_72, k_73, k_74, k_75, k_76, k_77, k_78, k_79, k_80, k_81, k_82, k_83, k_84, k_85, k_86, k_87, k_88, k_89, k_90, k_91, k_92, k_93, k_94, k_95, k_96, k_97, k_98, k_99, k_100, k_101, k_102, k_103, k_104, k_105, k_106, k_107, k_108, k_109, k_110, k_111, k_112, k_113, k_114, k_115, k_116, k_117, k_118, k_119, k_120, k_121, k_122, k_123, k_124, k_125, k_126, k_127, k_128, k_129, k_130, k_133, k_144, k_145, k_153, k_193, k_203, k_211, k_227, k_255, k_256, k_280, k_300, k_313, k_371, k_433, k_705, k_997, k_999, k_1000, k_4176, k_4547, k_9999, k_10000, k_30557, k_99999, k_1000000, k_1000000000, nI_add, pk_mul, w_sub, w_rem, w_div, w_dv, w_rm, nI_leI, nI_ltI, nI_eq, w_em, w_me, w_lm, w_ml, w_lem, w_mle, Option.bind_some, Option.some.injEq, xI_n, yI_n, xL_n, yL_n, xP_n, xG_n, I_same, I_row, I_col, L_1, Q_1, R_same, R_row, if_pos, if_neg, ite_self, not_true, not_false, decide_true, decide_false, Nat.add_assoc, true_and, and_true, Nat.zero_add, Nat.add_zero, Nat.mul_zero, Nat.mul_one, Nat.one_mul, eq_self, decide_eq_true, decide_eq_false, Bool.true_eq_false, Bool.false_eq_true, ↓reduceIte, Nat.reduceAdd, Nat.reduceMul, Nat.reduceSub, Nat.reduceDiv, Nat.reduceMod, bb_t, bb_f, dig11, wi11, r_0 hR, h5]
  have F2 : FC σ (setI (setI (setI (setI (setI (setI (setI σ 3 (s 1 0) (nI b)) 4 (s 1 0) (nI t)) 5 (s 1 0) (nI t)) 6 (s 1 0) (nI 0)) 7 (s 1 0) (nI 0)) 8 (s 1 0) (nI 0)) 2 0 (nI (s 1 0 + 1))) := (((((((FC.rfl.set (by omega)).set (by omega)).set (by omega)).set (by omega)).set (by omega)).set (by omega)).set (by omega))
  have C2 : RC 1 (setI (setI (setI (setI (setI (setI (setI σ 3 (s 1 0) (nI b)) 4 (s 1 0) (nI t)) 5 (s 1 0) (nI t)) 6 (s 1 0) (nI 0)) 7 (s 1 0) (nI 0)) 8 (s 1 0) (nI 0)) 2 0 (nI (s 1 0 + 1))) (mac s b t) := ((((((hC.set (k := 2) (by omega) (by omega)).set (k := 3) (by omega) (by omega)).set (k := 4) (by omega) (by omega)).set (k := 5) (by omega) (by omega)).set (k := 6) (by omega) (by omega)).set (k := 7) (by omega) (by omega)).set (k := 1) (by omega) (by omega)
  generalize hτ : setI (setI (setI (setI (setI (setI (setI σ 3 (s 1 0) (nI b)) 4 (s 1 0) (nI t)) 5 (s 1 0) (nI t)) 6 (s 1 0) (nI 0)) 7 (s 1 0) (nI 0)) 8 (s 1 0) (nI 0)) 2 0 (nI (s 1 0 + 1)) = τ at F2 C2
  refine ⟨nI (s 1 0), mac s b t, τ, setR τ 643 (macf (τ.1 643) (s 1 0) (nI b) (nI t)), ?_, ?_, C2, F2, wf_mac hW hb ht (by omega), ?_, FR.rfl.row (by omega), ?_⟩
  · unfold g_X10_machine g_X10_machine_0 g_X9_install g_X9_install_0 g_X9_setAsTold g_X9_setAsTold_0
    simp (disch := omega) only [k_0, k_1, k_2, k_3, k_4, k_5, k_6, k_7, k_8, k_9, k_10, k_11, k_12, k_13, k_14, k_15, k_16, k_17, k_18, k_19, k_20, k_21, k_22, k_23, k_24, k_25, k_26, k_27, k_28, k_29, k_30, k_31, k_32, k_33, k_34, k_35, k_36, k_37, k_38, k_39, k_40, k_41, k_42, k_43, k_44, k_45, k_46, k_47, k_48, k_49, k_50, k_51, k_52, k_53, k_54, k_55, k_56, k_57, k_58, k_59, k_60, k_61, k_62, k_63, k_64, k_65, k_66, k_67, k_68, k_69, k_70, k_71, k_72, k_73, k_74, k_75, k_76, k_77, k_78, k_79, k_80, k_81, k_82, k_83, k_84, k_85, k_86, k_87, k_88, k_89, k_90, k_91, k_92, k_93, k_94, k_95, k_96, k_97, k_98, k_99, k_100, k_101, k_102, k_103, k_104, k_105, k_106, k_107, k_108, k_109, k_110, k_111, k_112, k_113, k_114, k_115, k_116, k_117, k_118, k_119, k_120, k_121, k_122, k_123, k_124, k_125, k_126, k_127, k_128, k_129, k_130, k_133, k_144, k_145, k_153, k_193, k_203, k_211, k_227, k_255, k_256, k_280, k_300, k_313, k_371, k_433, k_705, k_997, k_999, k_1000, k_4176, k_4547, k_9999, k_10000, k_30557, k_99999, k_1000000, k_1000000000, nI_add, pk_mul, w_sub, w_rem, w_div, w_dv, w_rm, nI_leI, nI_ltI, nI_eq, w_em, w_me, w_lm, w_ml, w_lem, w_mle, Option.bind_some, Option.some.injEq, xI_n, yI_n, xL_n, yL_n, xP_n, xG_n, I_same, I_row, I_col, L_1, Q_1, R_same, R_row, if_pos, if_neg, ite_self, not_true, not_false, decide_true, decide_false, Nat.add_assoc, true_and, and_true, Nat.zero_add, Nat.add_zero, Nat.mul_zero, Nat.mul_one, Nat.one_mul, eq_self, decide_eq_true, decide_eq_false, Bool.true_eq_false, Bool.false_eq_true, ↓reduceIte, Nat.reduceAdd, Nat.reduceMul, Nat.reduceSub, Nat.reduceDiv, Nat.reduceMod, bb_t, bb_f, wi10, c_1_0 hC, hτ, Nat.add_sub_cancel]
  · have hR2 := hR.fc F2
    have hbg := begin_ok (N := N) (σ := τ) (m := s 1 0) (by omega) (ua (ua (τ.1 643) (11 + (18 * s 1 0 + 16)) (nI b)) (11 + (18 * s 1 0 + 17)) (nI t))
    unfold g_X11_machine g_X11_machine_0 g_X11_lay g_X11_lay_0
    have e0 : bgn (ua (ua (τ.1 643) (11 + (18 * s 1 0 + 16)) (nI b)) (11 + (18 * s 1 0 + 17)) (nI t)) (s 1 0) 0 = nI (s 1 0) := by
      unfold bgn
      rw [if_neg (by omega), ua_ne (by omega), ua_ne (by omega), r_0 hR2]
    have e1 : setI (setI τ 643 (11 + (18 * s 1 0 + 16)) (nI b)) 643 (11 + (18 * s 1 0 + 17)) (nI t) = setR τ 643 (ua (ua (τ.1 643) (11 + (18 * s 1 0 + 16)) (nI b)) (11 + (18 * s 1 0 + 17)) (nI t)) := by
      rw [I_R (σ := τ), R_ua]
    simp (disch := omega) only [k_0, k_1, k_2, k_3, k_4, k_5, k_6, k_7, k_8, k_9, k_10, k_11, k_12, k_13, k_14, k_15, k_16, k_17, k_18, k_19, k_20, k_21, k_22, k_23, k_24, k_25, k_26, k_27, k_28, k_29, k_30, k_31, k_32, k_33, k_34, k_35, k_36, k_37, k_38, k_39, k_40, k_41, k_42, k_43, k_44, k_45, k_46, k_47, k_48, k_49, k_50, k_51, k_52, k_53, k_54, k_55, k_56, k_57, k_58, k_59, k_60, k_61, k_62, k_63, k_64, k_65, k_66, k_67, k_68, k_69, k_70, k_71, k_72, k_73, k_74, k_75, k_76, k_77, k_78, k_79, k_80, k_81, k_82, k_83, k_84, k_85, k_86, k_87, k_88, k_89, k_90, k_91, k_92, k_93, k_94, k_95, k_96, k_97, k_98, k_99, k_100, k_101, k_102, k_103, k_104, k_105, k_106, k_107, k_108, k_109, k_110, k_111, k_112, k_113, k_114, k_115, k_116, k_117, k_118, k_119, k_120, k_121, k_122, k_123, k_124, k_125, k_126, k_127, k_128, k_129, k_130, k_133, k_144, k_145, k_153, k_193, k_203, k_211, k_227, k_255, k_256, k_280, k_300, k_313, k_371, k_433, k_705, k_997, k_999, k_1000, k_4176, k_4547, k_9999, k_10000, k_30557, k_99999, k_1000000, k_1000000000, nI_add, pk_mul, w_sub, w_rem, w_div, w_dv, w_rm, nI_leI, nI_ltI, nI_eq, w_em, w_me, w_lm, w_ml, w_lem, w_mle, Option.bind_some, Option.some.injEq, xI_n, yI_n, xL_n, yL_n, xP_n, xG_n, I_same, I_row, I_col, L_1, Q_1, R_same, R_row, if_pos, if_neg, ite_self, not_true, not_false, decide_true, decide_false, Nat.add_assoc, true_and, and_true, Nat.zero_add, Nat.add_zero, Nat.mul_zero, Nat.mul_one, Nat.one_mul, eq_self, decide_eq_true, decide_eq_false, Bool.true_eq_false, Bool.false_eq_true, ↓reduceIte, Nat.reduceAdd, Nat.reduceMul, Nat.reduceSub, Nat.reduceDiv, Nat.reduceMod, bb_t, bb_f, dig11, wi11, r_0 hR2, e1, hbg, e0, R_ua]
    rfl
  · rw [R_1]
    exact rr_mac hW (hR.fc F2) (by omega)
  · unfold mac
    simp (disch := omega) only [us_same, us_row, us_col]
end OIL
