/-! nights: words, rolls, what is believed -/
def nb (f : Nat → Nat) (k a acc : Nat) : Nat := match k with
  | 0 => acc
  | k + 1 => nb f k (a + 1) (acc * 10 + f a)
def rnm (w : SS) (m : Nat) : Nat := nb (fun i => w 7 (12 * m + i)) (w 6 m - (w 6 m - 4)) (w 6 m - 4) 0
section RL2
variable {N : Mem} {σ τ τ0 τ' υ υ' υ0 : ST} {w w' w1 : SS} {b : Nat} {wr : Bool} {A : Nat → Int32} {ru : Nat → Nat}
theorem RW.upd (h : RW A w) {j : Nat} {v : Int32} (hj : 11 ≤ j ∧ j < 101) (hm : Rma (ua A j v) w') (h0 : ∀ i, w' 0 i = w 0 i) : RW (ua A j v) w' := by
  obtain ⟨a0, a8, a9, ma⟩ := h
  refine ⟨?_, ?_, ?_, hm⟩
  · rw [ua_ne (by omega), h0]; exact a0
  · rw [ua_ne (by omega), h0]; exact a8
  · rw [ua_ne (by omega), h0]; exact a9
theorem pd_r (h : RV wr υ0 υ w) (hW : WFw w) {m d : Nat} (hm : m < w 0 0) (hL : w 6 m < 12) : RV wr υ0 (setI (setI υ 643 (11 + (18 * m + (4 + w 6 m))) (nI d)) 643 (11 + (18 * m + 3)) (nI (w 6 m + 1))) (pdg w m d) := by
  have hc : w 0 0 ≤ 5 := hW.1
  have hb30 : w 0 3 ≤ 30 := hW.2.2.2.1
  obtain ⟨h1, h2, h3, h4, h5, h6, h7⟩ := h
  unfold pdg
  rw [if_pos hL]
  have hma := rma_3 h1.2.2.2 hc hW.l hm hL (d := d)
  unfold RV
  rw [I_ua, I_ua]
  refine ⟨⟨?_, ?_, ?_, hma⟩, fun i hi => ?_, fun q => ?_, fun q => ⟨?_, fun i q1 q2 => ?_⟩, fun a i q1 q2 q3 q4 => ?_, h6, h7⟩
  · rw [ua_ne (by omega), ua_ne (by omega), us_row (by omega), us_row (by omega)]; exact h1.1
  · rw [ua_ne (by omega), ua_ne (by omega), us_row (by omega), us_row (by omega)]; exact h1.2.1
  · rw [ua_ne (by omega), ua_ne (by omega), us_row (by omega), us_row (by omega)]; exact h1.2.2.1
  · rw [ua_ne (by omega), ua_ne (by omega)]; exact h2 i hi
  · obtain ⟨g1, g2⟩ := h3 q
    refine ⟨?_, Rbk_b (fun i hi => ?_) (fun i => ?_) ?_ hb30 g2⟩
    · rw [ua_ne (by omega), ua_ne (by omega), us_row (by omega), us_row (by omega)]; exact g1
    · rw [ua_ne (by omega), ua_ne (by omega)]
    · rw [us_row (by omega), us_row (by omega)]
    · rw [us_row (by omega), us_row (by omega)]
  · rw [ua_ne (by omega), ua_ne (by omega)]; exact (h4 q).1
  · rw [ua_ne (by omega), ua_ne (by omega)]; exact (h4 q).2 i q1 q2
  · rw [I_row q1, I_row q1]; exact h5 a i q1 q2 q3 q4
/-- a word comes behind a roll -/
theorem pw_c (h : CW b τ0 τ w) (hW : WFw w) {m v : Nat} (hm : m < 5) (hv : v ≤ 110) : ∃ τ', g_X9_printWord N b (nI m) (nI v) τ = some τ' ∧ CW b τ0 τ' (pwd w m v) := by
  unfold g_X9_printWord g_X9_printWord_0 pwd
  by_cases c0 : v = 0
  · rw [if_pos c0]
    refine ⟨τ, ?_, h⟩
    subst c0
    simp (disch := omega) only [k_0, k_1, k_2, k_3, k_4, k_5, k_6, k_7, k_8, k_9, k_10, k_11, k_12, k_13, k_14, k_15, k_16, k_17, k_18, k_19, k_20, k_21, k_22, k_23, k_24, k_25, k_26, k_27, k_28, k_29, k_30, k_31, k_32, k_33, k_34, k_35, k_36, k_37, k_38, k_39, k_40, k_41, k_42, k_43, k_44, k_45, k_46, k_47, k_48, k_49, k_50, k_51, k_52, k_53, k_54, k_55, k_56, k_57, k_58, k_59, k_60, k_61, k_62, k_63, k_64, k_65, k_66, k_67, k_68, k_69, k_70, k_71, k_72, k_73, k_74, k_75, k_76, k_77, k_78, k_79, k_80, k_81, k_82, k_83, k_84, k_85, k_86, k_87, k_88, k_89, k_90, k_91, k_92, k_93, k_94, k_95, k_96, k_97, k_98, k_99, k_100, k_101, k_102, k_103, k_104, k_105, k_106, k_107, k_108, k_109, k_110, k_111, k_112, k_113, k_114, k_115, k_116, k_117, k_118, k_119, k_120, k_121, k_122, k_123, k_124, k_125, k_126, k_127, k_128, k_129, k_130, k_133, k_144, k_145, k_153, k_193, k_203, k_211, k_227, k_255, k_256, k_280, k_300, k_313, k_371, k_433, k_705, k_997, k_999, k_1000, k_4176, k_4547, k_9999, k_10000, k_30557, k_99999, k_1000000, k_1000000000, nI_add, pk_mul, w_sub, w_rem, w_div, w_dv, w_rm, nI_leI, nI_ltI, nI_eq, w_em, w_me, w_lm, w_ml, w_lem, w_mle, bnd, Option.some.injEq, xI_n, yI_n, xL_n, yL_n, xP_n, xG_n, I_same, I_row, I_col, L_1, Q_1, R_same, R_row, if_pos, if_neg, ite_self, not_true, not_false, decide_true, decide_false, Nat.add_assoc, true_and, and_true, Nat.zero_add, Nat.add_zero, Nat.mul_zero, Nat.mul_one, Nat.one_mul, eq_self, decide_eq_true, decide_eq_false, Bool.true_eq_false, Bool.false_eq_true, ↓reduceIte, Nat.reduceAdd, Nat.reduceMul, Nat.reduceSub, Nat.reduceDiv, Nat.reduceMod, bb_t, bb_f]
  · rw [if_neg c0]
    by_cases c1 : v < 11
    · rw [if_pos c1]
      obtain ⟨τ1, a1, a2⟩ := pd_c (N := N) h hW (m := m) (d := v - 1) hm
      refine ⟨τ1, ?_, a2⟩
      simp (disch := omega) only [k_0, k_1, k_2, k_3, k_4, k_5, k_6, k_7, k_8, k_9, k_10, k_11, k_12, k_13, k_14, k_15, k_16, k_17, k_18, k_19, k_20, k_21, k_22, k_23, k_24, k_25, k_26, k_27, k_28, k_29, k_30, k_31, k_32, k_33, k_34, k_35, k_36, k_37, k_38, k_39, k_40, k_41, k_42, k_43, k_44, k_45, k_46, k_47, k_48, k_49, k_50, k_51, k_52, k_53, k_54, k_55, k_56, k_57, k_58, k_59, k_60, k_61, k_62, k_63, k_64, k_65, k_66, k_67, k_68, k_69, k_70, k_71, k_72, k_73, k_74, k_75, k_76, k_77, k_78, k_79, k_80, k_81, k_82, k_83, k_84, k_85, k_86, k_87, k_88, k_89, k_90, k_91, k_92, k_93, k_94, k_95, k_96, k_97, k_98, k_99, k_100, k_101, k_102, k_103, k_104, k_105, k_106, k_107, k_108, k_109, k_110, k_111, k_112, k_113, k_114, k_115, k_116, k_117, k_118, k_119, k_120, k_121, k_122, k_123, k_124, k_125, k_126, k_127, k_128, k_129, k_130, k_133, k_144, k_145, k_153, k_193, k_203, k_211, k_227, k_255, k_256, k_280, k_300, k_313, k_371, k_433, k_705, k_997, k_999, k_1000, k_4176, k_4547, k_9999, k_10000, k_30557, k_99999, k_1000000, k_1000000000, nI_add, pk_mul, w_sub, w_rem, w_div, w_dv, w_rm, nI_leI, nI_ltI, nI_eq, w_em, w_me, w_lm, w_ml, w_lem, w_mle, bnd, Option.some.injEq, xI_n, yI_n, xL_n, yL_n, xP_n, xG_n, I_same, I_row, I_col, L_1, Q_1, R_same, R_row, if_pos, if_neg, ite_self, not_true, not_false, decide_true, decide_false, Nat.add_assoc, true_and, and_true, Nat.zero_add, Nat.add_zero, Nat.mul_zero, Nat.mul_one, Nat.one_mul, eq_self, decide_eq_true, decide_eq_false, Bool.true_eq_false, Bool.false_eq_true, ↓reduceIte, Nat.reduceAdd, Nat.reduceMul, Nat.reduceSub, Nat.reduceDiv, Nat.reduceMod, bb_t, bb_f, a1]
    · rw [if_neg c1]
      obtain ⟨τ1, a1, a2⟩ := pd_c (N := N) h hW (m := m) (d := (v - 11) / 10) hm
      obtain ⟨τ2, b1, b2⟩ := pd_c (N := N) a2 (pdg_w hW (by omega)) (m := m) (d := (v - 11) % 10) hm
      refine ⟨τ2, ?_, b2⟩
      simp (disch := omega) only [k_0, k_1, k_2, k_3, k_4, k_5, k_6, k_7, k_8, k_9, k_10, k_11, k_12, k_13, k_14, k_15, k_16, k_17, k_18, k_19, k_20, k_21, k_22, k_23, k_24, k_25, k_26, k_27, k_28, k_29, k_30, k_31, k_32, k_33, k_34, k_35, k_36, k_37, k_38, k_39, k_40, k_41, k_42, k_43, k_44, k_45, k_46, k_47, k_48, k_49, k_50, k_51, k_52, k_53, k_54, k_55, k_56, k_57, k_58, k_59, k_60, k_61, k_62, k_63, k_64, k_65, k_66, k_67, k_68, k_69, k_70, k_71, k_72, k_73, k_74, k_75, k_76, k_77, k_78, k_79, k_80, k_81, k_82, k_83, k_84, k_85, k_86, k_87, k_88, k_89, k_90, k_91, k_92, k_93, k_94, k_95, k_96, k_97, k_98, k_99, k_100, k_101, k_102, k_103, k_104, k_105, k_106, k_107, k_108, k_109, k_110, k_111, k_112, k_113, k_114, k_115, k_116, k_117, k_118, k_119, k_120, k_121, k_122, k_123, k_124, k_125, k_126, k_127, k_128, k_129, k_130, k_133, k_144, k_145, k_153, k_193, k_203, k_211, k_227, k_255, k_256, k_280, k_300, k_313, k_371, k_433, k_705, k_997, k_999, k_1000, k_4176, k_4547, k_9999, k_10000, k_30557, k_99999, k_1000000, k_1000000000, nI_add, pk_mul, w_sub, w_rem, w_div, w_dv, w_rm, nI_leI, nI_ltI, nI_eq, w_em, w_me, w_lm, w_ml, w_lem, w_mle, bnd, Option.some.injEq, xI_n, yI_n, xL_n, yL_n, xP_n, xG_n, I_same, I_row, I_col, L_1, Q_1, R_same, R_row, if_pos, if_neg, ite_self, not_true, not_false, decide_true, decide_false, Nat.add_assoc, true_and, and_true, Nat.zero_add, Nat.add_zero, Nat.mul_zero, Nat.mul_one, Nat.one_mul, eq_self, decide_eq_true, decide_eq_false, Bool.true_eq_false, Bool.false_eq_true, ↓reduceIte, Nat.reduceAdd, Nat.reduceMul, Nat.reduceSub, Nat.reduceDiv, Nat.reduceMod, bb_t, bb_f, a1, b1]
theorem get_r (hA : RW (υ.1 643) w) (hc : w 0 0 ≤ 5) {m : Nat} (hm : m < w 0 0) : g_X11_get N 642 (nI m) (nI 0) υ = some (nI (w 3 m)) ∧ g_X11_get N 642 (nI m) (nI 1) υ = some (nI (w 4 m)) ∧ g_X11_get N 642 (nI m) (nI 2) υ = some (nI (w 5 m)) ∧ g_X11_get N 642 (nI m) (nI 3) υ = some (nI (w 6 m)) ∧ ∀ i, i < w 6 m → i < 12 → g_X11_get N 642 (nI m) (nI (4 + i)) υ = some (nI (w 7 (12 * m + i))) := by
  obtain ⟨a0, a8, a9, ma⟩ := hA
  obtain ⟨⟨m0, m1, m2, m3, m4⟩, m16, m17⟩ := ma m hm
  dsimp only at m0 m1 m2 m3 m4
  have f0 : υ.1 643 (11 + 18 * m) = nI (w 3 m) := m0
  have f1 : υ.1 643 (11 + (18 * m + 1)) = nI (w 4 m) := by rw [← Nat.add_assoc]; exact m1
  have f2 : υ.1 643 (11 + (18 * m + 2)) = nI (w 5 m) := by rw [← Nat.add_assoc]; exact m2
  have f3 : υ.1 643 (11 + (18 * m + 3)) = nI (w 6 m) := by rw [← Nat.add_assoc]; exact m3
  unfold g_X11_get g_X11_get_0
  refine ⟨?_, ?_, ?_, ?_, fun i hi h12 => ?_⟩
  · simp (disch := omega) only [k_0, k_1, k_2, k_3, k_4, k_5, k_6, k_7, k_8, k_9, k_10, k_11, k_12, k_13, k_14, k_15, k_16, k_17, k_18, k_19, k_20, k_21, k_22, k_23, k_24, k_25, k_26, k_27, k_28, k_29, k_30, k_31, k_32, k_33, k_34, k_35, k_36, k_37, k_38, k_39, k_40, k_41, k_42, k_43, k_44, k_45, k_46, k_47, k_48, k_49, k_50, k_51, k_52, k_53, k_54, k_55, k_56, k_57, k_58, k_59, k_60, k_61, k_62, k_63, k_64, k_65, k_66, k_67, k_68, k_69, k_70, k_71, k_72, k_73, k_74, k_75, k_76, k_77, k_78, k_79, k_80, k_81, k_82, k_83, k_84, k_85, k_86, k_87, k_88, k_89, k_90, k_91, k_92, k_93, k_94, k_95, k_96, k_97, k_98, k_99, k_100, k_101, k_102, k_103, k_104, k_105, k_106, k_107, k_108, k_109, k_110, k_111, k_112, k_113, k_114, k_115, k_116, k_117, k_118, k_119, k_120, k_121, k_122, k_123, k_124, k_125, k_126, k_127, k_128, k_129, k_130, k_133, k_144, k_145, k_153, k_193, k_203, k_211, k_227, k_255, k_256, k_280, k_300, k_313, k_371, k_433, k_705, k_997, k_999, k_1000, k_4176, k_4547, k_9999, k_10000, k_30557, k_99999, k_1000000, k_1000000000, nI_add, pk_mul, w_sub, w_rem, w_div, w_dv, w_rm, nI_leI, nI_ltI, nI_eq, w_em, w_me, w_lm, w_ml, w_lem, w_mle, bnd, Option.some.injEq, xI_n, yI_n, xL_n, yL_n, xP_n, xG_n, I_same, I_row, I_col, L_1, Q_1, R_same, R_row, if_pos, if_neg, ite_self, not_true, not_false, decide_true, decide_false, Nat.add_assoc, true_and, and_true, Nat.zero_add, Nat.add_zero, Nat.mul_zero, Nat.mul_one, Nat.one_mul, eq_self, decide_eq_true, decide_eq_false, Bool.true_eq_false, Bool.false_eq_true, ↓reduceIte, Nat.reduceAdd, Nat.reduceMul, Nat.reduceSub, Nat.reduceDiv, Nat.reduceMod, bb_t, bb_f, f0]
  · simp (disch := omega) only [k_0, k_1, k_2, k_3, k_4, k_5, k_6, k_7, k_8, k_9, k_10, k_11, k_12, k_13, k_14, k_15, k_16, k_17, k_18, k_19, k_20, k_21, k_22, k_23, k_24, k_25, k_26, k_27, k_28, k_29, k_30, k_31, k_32, k_33, k_34, k_35, k_36, k_37, k_38, k_39, k_40, k_41, k_42, k_43, k_44, k_45, k_46, k_47, k_48, k_49, k_50, k_51, k_52, k_53, k_54, k_55, k_56, k_57, k_58, k_59, k_60, k_61, k_62, k_63, k_64, k_65, k_66, k_67, k_68, k_69, k_70, k_71, k_72, k_73, k_74, k_75, k_76, k_77, k_78, k_79, k_80, k_81, k_82, k_83, k_84, k_85, k_86, k_87, k_88, k_89, k_90, k_91, k_92, k_93, k_94, k_95, k_96, k_97, k_98, k_99, k_100, k_101, k_102, k_103, k_104, k_105, k_106, k_107, k_108, k_109, k_110, k_111, k_112, k_113, k_114, k_115, k_116, k_117, k_118, k_119, k_120, k_121, k_122, k_123, k_124, k_125, k_126, k_127, k_128, k_129, k_130, k_133, k_144, k_145, k_153, k_193, k_203, k_211, k_227, k_255, k_256, k_280, k_300, k_313, k_371, k_433, k_705, k_997, k_999, k_1000, k_4176, k_4547, k_9999, k_10000, k_30557, k_99999, k_1000000, k_1000000000, nI_add, pk_mul, w_sub, w_rem, w_div, w_dv, w_rm, nI_leI, nI_ltI, nI_eq, w_em, w_me, w_lm, w_ml, w_lem, w_mle, bnd, Option.some.injEq, xI_n, yI_n, xL_n, yL_n, xP_n, xG_n, I_same, I_row, I_col, L_1, Q_1, R_same, R_row, if_pos, if_neg, ite_self, not_true, not_false, decide_true, decide_false, Nat.add_assoc, true_and, and_true, Nat.zero_add, Nat.add_zero, Nat.mul_zero, Nat.mul_one, Nat.one_mul, eq_self, decide_eq_true, decide_eq_false, Bool.true_eq_false, Bool.false_eq_true, ↓reduceIte, Nat.reduceAdd, Nat.reduceMul, Nat.reduceSub, Nat.reduceDiv, Nat.reduceMod, bb_t, bb_f, f1]
  · simp (disch := omega) only [k_0, k_1, k_2, k_3, k_4, k_5, k_6, k_7, k_8, k_9, k_10, k_11, k_12, k_13, k_14, k_15, k_16, k_17, k_18, k_19, k_20, k_21, k_22, k_23, k_24, k_25, k_26, k_27, k_28, k_29, k_30, k_31, k_32, k_33, k_34, k_35, k_36, k_37, k_38, k_39, k_40, k_41, k_42, k_43, k_44, k_45, k_46, k_47, k_48, k_49, k_50, k_51, k_52, k_53, k_54, k_55, k_56, k_57, k_58, k_59, k_60, k_61, k_62, k_63, k_64, k_65, k_66, k_67, k_68, k_69, k_70, k_71, k_72, k_73, k_74, k_75, k_76, k_77, k_78, k_79, k_80, k_81, k_82, k_83, k_84, k_85, k_86, k_87, k_88, k_89, k_90, k_91, k_92, k_93, k_94, k_95, k_96, k_97, k_98, k_99, k_100, k_101, k_102, k_103, k_104, k_105, k_106, k_107, k_108, k_109, k_110, k_111, k_112, k_113, k_114, k_115, k_116, k_117, k_118, k_119, k_120, k_121, k_122, k_123, k_124, k_125, k_126, k_127, k_128, k_129, k_130, k_133, k_144, k_145, k_153, k_193, k_203, k_211, k_227, k_255, k_256, k_280, k_300, k_313, k_371, k_433, k_705, k_997, k_999, k_1000, k_4176, k_4547, k_9999, k_10000, k_30557, k_99999, k_1000000, k_1000000000, nI_add, pk_mul, w_sub, w_rem, w_div, w_dv, w_rm, nI_leI, nI_ltI, nI_eq, w_em, w_me, w_lm, w_ml, w_lem, w_mle, bnd, Option.some.injEq, xI_n, yI_n, xL_n, yL_n, xP_n, xG_n, I_same, I_row, I_col, L_1, Q_1, R_same, R_row, if_pos, if_neg, ite_self, not_true, not_false, decide_true, decide_false, Nat.add_assoc, true_and, and_true, Nat.zero_add, Nat.add_zero, Nat.mul_zero, Nat.mul_one, Nat.one_mul, eq_self, decide_eq_true, decide_eq_false, Bool.true_eq_false, Bool.false_eq_true, ↓reduceIte, Nat.reduceAdd, Nat.reduceMul, Nat.reduceSub, Nat.reduceDiv, Nat.reduceMod, bb_t, bb_f, f2]
  · simp (disch := omega) only [k_0, k_1, k_2, k_3, k_4, k_5, k_6, k_7, k_8, k_9, k_10, k_11, k_12, k_13, k_14, k_15, k_16, k_17, k_18, k_19, k_20, k_21, k_22, k_23, k_24, k_25, k_26, k_27, k_28, k_29, k_30, k_31, k_32, k_33, k_34, k_35, k_36, k_37, k_38, k_39, k_40, k_41, k_42, k_43, k_44, k_45, k_46, k_47, k_48, k_49, k_50, k_51, k_52, k_53, k_54, k_55, k_56, k_57, k_58, k_59, k_60, k_61, k_62, k_63, k_64, k_65, k_66, k_67, k_68, k_69, k_70, k_71, k_72, k_73, k_74, k_75, k_76, k_77, k_78, k_79, k_80, k_81, k_82, k_83, k_84, k_85, k_86, k_87, k_88, k_89, k_90, k_91, k_92, k_93, k_94, k_95, k_96, k_97, k_98, k_99, k_100, k_101, k_102, k_103, k_104, k_105, k_106, k_107, k_108, k_109, k_110, k_111, k_112, k_113, k_114, k_115, k_116, k_117, k_118, k_119, k_120, k_121, k_122, k_123, k_124, k_125, k_126, k_127, k_128, k_129, k_130, k_133, k_144, k_145, k_153, k_193, k_203, k_211, k_227, k_255, k_256, k_280, k_300, k_313, k_371, k_433, k_705, k_997, k_999, k_1000, k_4176, k_4547, k_9999, k_10000, k_30557, k_99999, k_1000000, k_1000000000, nI_add, pk_mul, w_sub, w_rem, w_div, w_dv, w_rm, nI_leI, nI_ltI, nI_eq, w_em, w_me, w_lm, w_ml, w_lem, w_mle, bnd, Option.some.injEq, xI_n, yI_n, xL_n, yL_n, xP_n, xG_n, I_same, I_row, I_col, L_1, Q_1, R_same, R_row, if_pos, if_neg, ite_self, not_true, not_false, decide_true, decide_false, Nat.add_assoc, true_and, and_true, Nat.zero_add, Nat.add_zero, Nat.mul_zero, Nat.mul_one, Nat.one_mul, eq_self, decide_eq_true, decide_eq_false, Bool.true_eq_false, Bool.false_eq_true, ↓reduceIte, Nat.reduceAdd, Nat.reduceMul, Nat.reduceSub, Nat.reduceDiv, Nat.reduceMod, bb_t, bb_f, f3]
  · have f4 : υ.1 643 (11 + (18 * m + (4 + i))) = nI (w 7 (12 * m + i)) := by rw [← Nat.add_assoc]; exact m4 i hi
    simp (disch := omega) only [k_0, k_1, k_2, k_3, k_4, k_5, k_6, k_7, k_8, k_9, k_10, k_11, k_12, k_13, k_14, k_15, k_16, k_17, k_18, k_19, k_20, k_21, k_22, k_23, k_24, k_25, k_26, k_27, k_28, k_29, k_30, k_31, k_32, k_33, k_34, k_35, k_36, k_37, k_38, k_39, k_40, k_41, k_42, k_43, k_44, k_45, k_46, k_47, k_48, k_49, k_50, k_51, k_52, k_53, k_54, k_55, k_56, k_57, k_58, k_59, k_60, k_61, k_62, k_63, k_64, k_65, k_66, k_67, k_68, k_69, k_70, k_71, k_72, k_73, k_74, k_75, k_76, k_77, k_78, k_79, k_80, k_81, k_82, k_83, k_84, k_85, k_86, k_87, k_88, k_89, k_90, k_91, k_92, k_93, k_94, k_95, k_96, k_97, k_98, k_99, k_100, k_101, k_102, k_103, k_104, k_105, k_106, k_107, k_108, k_109, k_110, k_111, k_112, k_113, k_114, k_115, k_116, k_117, k_118, k_119, k_120, k_121, k_122, k_123, k_124, k_125, k_126, k_127, k_128, k_129, k_130, k_133, k_144, k_145, k_153, k_193, k_203, k_211, k_227, k_255, k_256, k_280, k_300, k_313, k_371, k_433, k_705, k_997, k_999, k_1000, k_4176, k_4547, k_9999, k_10000, k_30557, k_99999, k_1000000, k_1000000000, nI_add, pk_mul, w_sub, w_rem, w_div, w_dv, w_rm, nI_leI, nI_ltI, nI_eq, w_em, w_me, w_lm, w_ml, w_lem, w_mle, bnd, Option.some.injEq, xI_n, yI_n, xL_n, yL_n, xP_n, xG_n, I_same, I_row, I_col, L_1, Q_1, R_same, R_row, if_pos, if_neg, ite_self, not_true, not_false, decide_true, decide_false, Nat.add_assoc, true_and, and_true, Nat.zero_add, Nat.add_zero, Nat.mul_zero, Nat.mul_one, Nat.one_mul, eq_self, decide_eq_true, decide_eq_false, Bool.true_eq_false, Bool.false_eq_true, ↓reduceIte, Nat.reduceAdd, Nat.reduceMul, Nat.reduceSub, Nat.reduceDiv, Nat.reduceMod, bb_t, bb_f, f4]
theorem lay_r {m k : Nat} {v : Int32} (hm : m < 5) (hk : k < 18) : g_X11_lay N 642 (nI m) (nI k) v υ = some (setI υ 643 (11 + (18 * m + k)) v) := by
  unfold g_X11_lay g_X11_lay_0
  simp (disch := omega) only [k_0, k_1, k_2, k_3, k_4, k_5, k_6, k_7, k_8, k_9, k_10, k_11, k_12, k_13, k_14, k_15, k_16, k_17, k_18, k_19, k_20, k_21, k_22, k_23, k_24, k_25, k_26, k_27, k_28, k_29, k_30, k_31, k_32, k_33, k_34, k_35, k_36, k_37, k_38, k_39, k_40, k_41, k_42, k_43, k_44, k_45, k_46, k_47, k_48, k_49, k_50, k_51, k_52, k_53, k_54, k_55, k_56, k_57, k_58, k_59, k_60, k_61, k_62, k_63, k_64, k_65, k_66, k_67, k_68, k_69, k_70, k_71, k_72, k_73, k_74, k_75, k_76, k_77, k_78, k_79, k_80, k_81, k_82, k_83, k_84, k_85, k_86, k_87, k_88, k_89, k_90, k_91, k_92, k_93, k_94, k_95, k_96, k_97, k_98, k_99, k_100, k_101, k_102, k_103, k_104, k_105, k_106, k_107, k_108, k_109, k_110, k_111, k_112, k_113, k_114, k_115, k_116, k_117, k_118, k_119, k_120, k_121, k_122, k_123, k_124, k_125, k_126, k_127, k_128, k_129, k_130, k_133, k_144, k_145, k_153, k_193, k_203, k_211, k_227, k_255, k_256, k_280, k_300, k_313, k_371, k_433, k_705, k_997, k_999, k_1000, k_4176, k_4547, k_9999, k_10000, k_30557, k_99999, k_1000000, k_1000000000, nI_add, pk_mul, w_sub, w_rem, w_div, w_dv, w_rm, nI_leI, nI_ltI, nI_eq, w_em, w_me, w_lm, w_ml, w_lem, w_mle, bnd, Option.some.injEq, xI_n, yI_n, xL_n, yL_n, xP_n, xG_n, I_same, I_row, I_col, L_1, Q_1, R_same, R_row, if_pos, if_neg, ite_self, not_true, not_false, decide_true, decide_false, Nat.add_assoc, true_and, and_true, Nat.zero_add, Nat.add_zero, Nat.mul_zero, Nat.mul_one, Nat.one_mul, eq_self, decide_eq_true, decide_eq_false, Bool.true_eq_false, Bool.false_eq_true, ↓reduceIte, Nat.reduceAdd, Nat.reduceMul, Nat.reduceSub, Nat.reduceDiv, Nat.reduceMod, bb_t, bb_f]
theorem roll1 (h : RV wr υ0 υ w) (hW : WFw w) {m v i n : Nat} (hm : m < w 0 0) (hv : v ≤ 110) (h0 : v ≠ 0) (hi : i < wln v) (hi2 : i < 2) (hL : w 6 m < 12) : g_X11_roll_2 N (n + 1) 642 (nI m) (nI v) (nI i) υ = g_X11_roll_2 N n 642 (nI m) (nI v) (nI (i + 1)) (setI (setI υ 643 (11 + (18 * m + (4 + w 6 m))) (nI (wdg v i))) 643 (11 + (18 * m + 3)) (nI (w 6 m + 1))) := by
  have hc : w 0 0 ≤ 5 := hW.1
  obtain ⟨-, -, -, g3, -⟩ := get_r (N := N) h.1 hc hm
  have e1 := wl11 hv
  have e2 := wd11 hv h0 hi2
  have hwl : wln v ≤ 2 := by
    unfold wln
    repeat' split
    all_goals omega
  have l1 := lay_r (N := N) (υ := υ) (m := m) (k := 4 + w 6 m) (v := nI (wdg v i)) (by omega) (by omega)
  have g3' : g_X11_get N 642 (nI m) (nI 3) (setI υ 643 (11 + (18 * m + (4 + w 6 m))) (nI (wdg v i))) = some (nI (w 6 m)) := by
    obtain ⟨⟨m0, m1, m2, m3, m4⟩, m16, m17⟩ := h.1.2.2.2 m hm
    dsimp only at m3
    have f3 : υ.1 643 (11 + (18 * m + 3)) = nI (w 6 m) := by rw [← Nat.add_assoc]; exact m3
    unfold g_X11_get g_X11_get_0
    simp (disch := omega) only [k_0, k_1, k_2, k_3, k_4, k_5, k_6, k_7, k_8, k_9, k_10, k_11, k_12, k_13, k_14, k_15, k_16, k_17, k_18, k_19, k_20, k_21, k_22, k_23, k_24, k_25, k_26, k_27, k_28, k_29, k_30, k_31, k_32, k_33, k_34, k_35, k_36, k_37, k_38, k_39, k_40, k_41, k_42, k_43, k_44, k_45, k_46, k_47, k_48, k_49, k_50, k_51, k_52, k_53, k_54, k_55, k_56, k_57, k_58, k_59, k_60, k_61, k_62, k_63, k_64, k_65, k_66, k_67, k_68, k_69, k_70, k_71, k_72, k_73, k_74, k_75, k_76, k_77, k_78, k_79, k_80, k_81, k_82, k_83, k_84, k_85, k_86, k_87, k_88, k_89, k_90, k_91, k_92, k_93, k_94, k_95, k_96, k_97, k_98, k_99, k_100, k_101, k_102, k_103, k_104, k_105, k_106, k_107, k_108, k_109, k_110, k_111, k_112, k_113, k_114, k_115, k_116, k_117, k_118, k_119, k_120, k_121, k_122, k_123, k_124, k_125, k_126, k_127, k_128, k_129, k_130, k_133, k_144, k_145, k_153, k_193, k_203, k_211, k_227, k_255, k_256, k_280, k_300, k_313, k_371, k_433, k_705, k_997, k_999, k_1000, k_4176, k_4547, k_9999, k_10000, k_30557, k_99999, k_1000000, k_1000000000, nI_add, pk_mul, w_sub, w_rem, w_div, w_dv, w_rm, nI_leI, nI_ltI, nI_eq, w_em, w_me, w_lm, w_ml, w_lem, w_mle, bnd, Option.some.injEq, xI_n, yI_n, xL_n, yL_n, xP_n, xG_n, I_same, I_row, I_col, L_1, Q_1, R_same, R_row, if_pos, if_neg, ite_self, not_true, not_false, decide_true, decide_false, Nat.add_assoc, true_and, and_true, Nat.zero_add, Nat.add_zero, Nat.mul_zero, Nat.mul_one, Nat.one_mul, eq_self, decide_eq_true, decide_eq_false, Bool.true_eq_false, Bool.false_eq_true, ↓reduceIte, Nat.reduceAdd, Nat.reduceMul, Nat.reduceSub, Nat.reduceDiv, Nat.reduceMod, bb_t, bb_f, f3]
  have l2 := lay_r (N := N) (υ := setI υ 643 (11 + (18 * m + (4 + w 6 m))) (nI (wdg v i))) (m := m) (k := 3) (v := nI (w 6 m + 1)) (by omega) (by omega)
  rw [g_X11_roll_2, e1, bnd, if_neg (nI_ge hi (by omega)), k_3, g3, bnd, k_12, if_neg (fun q => by have := (nI_eq (by omega) (by omega)).mp q; omega), bnd, e2, bnd, k_4, nI_add, l1, bnd, g3', bnd, k_1, nI_add, l2, bnd, nI_add]
theorem roll_full (h : RV wr υ0 υ w) (hW : WFw w) {m v i n : Nat} (hm : m < w 0 0) (hv : v ≤ 110) (hL : ¬ w 6 m < 12 ∨ wln v ≤ i) (hi2 : i ≤ 2) : g_X11_roll_2 N (n + 1) 642 (nI m) (nI v) (nI i) υ = some υ := by
  have hc : w 0 0 ≤ 5 := hW.1
  have hl := hW.l m
  obtain ⟨-, -, -, g3, -⟩ := get_r (N := N) h.1 hc hm
  have e1 := wl11 hv
  have hwl : wln v ≤ 2 := by
    unfold wln
    repeat' split
    all_goals omega
  rw [g_X11_roll_2, e1, bnd]
  by_cases c : wln v ≤ i
  · rw [if_pos (nI_le c (by omega))]
  · rw [if_neg (nI_ge (by omega) (by omega)), k_3, g3, bnd, k_12, if_pos (by rw [show w 6 m = 12 by omega])]
theorem pw_r (h : RV wr υ0 υ w) (hW : WFw w) {m v : Nat} (hm : m < w 0 0) (hv : v ≤ 110) : ∃ υ', g_X11_roll N 642 (nI m) (nI v) υ = some υ' ∧ RV wr υ0 υ' (pwd w m v) ∧ υ'.1 642 = υ.1 642 := by
  have hc : w 0 0 ≤ 5 := hW.1
  obtain ⟨z, hz⟩ : ∃ z, fu = z + 1 + 1 + 1 := ⟨999997, by unfold fu; omega⟩
  unfold g_X11_roll g_X11_roll_0 pwd
  rw [hz, k_0]
  by_cases c0 : v = 0
  · rw [if_pos c0]
    exact ⟨υ, roll_full h hW hm hv (Or.inr (by unfold wln; rw [if_pos c0]; omega)) (by omega), h, rfl⟩
  · rw [if_neg c0]
    by_cases c1 : v < 11
    · rw [if_pos c1]
      have e1 : wln v = 1 := by unfold wln; rw [if_neg c0, if_pos c1]
      have e2 : wdg v 0 = v - 1 := by unfold wdg; rw [if_pos c1]
      by_cases hL : w 6 m < 12
      · have hp := pd_r h hW hm hL (d := v - 1)
        have hpw := pdg_w hW (m := m) (d := v - 1) (by omega)
        rw [roll1 h hW hm hv c0 (by omega) (by omega) hL, e2]
        refine ⟨_, roll_full hp hpw ?_ hv (Or.inr (by omega)) (by omega), hp, funext fun i => by rw [I_row (by omega), I_row (by omega)]⟩
        unfold pdg
        rw [if_pos hL, us_row (by omega), us_row (by omega)]
        exact hm
      · refine ⟨υ, roll_full h hW hm hv (Or.inl hL) (by omega), ?_, rfl⟩
        unfold pdg
        rw [if_neg hL]
        exact h
    · rw [if_neg c1]
      have e1 : wln v = 2 := by unfold wln; rw [if_neg c0, if_neg c1]
      have e2 : wdg v 0 = (v - 11) / 10 := by unfold wdg; rw [if_neg c1, if_pos rfl]
      have e3 : wdg v 1 = (v - 11) % 10 := by unfold wdg; rw [if_neg c1, if_neg (by omega)]
      by_cases hL : w 6 m < 12
      · have hp := pd_r h hW hm hL (d := (v - 11) / 10)
        have hpw := pdg_w hW (m := m) (d := (v - 11) / 10) (by omega)
        have hm1 : m < pdg w m ((v - 11) / 10) 0 0 := by
          unfold pdg
          rw [if_pos hL, us_row (by omega), us_row (by omega)]
          exact hm
        rw [roll1 h hW hm hv c0 (by omega) (by omega) hL, e2]
        generalize pdg w m ((v - 11) / 10) = w1 at *
        by_cases hL1 : w1 6 m < 12
        · have hp2 := pd_r hp hpw hm1 hL1 (d := (v - 11) % 10)
          have hpw2 := pdg_w hpw (m := m) (d := (v - 11) % 10) (by omega)
          rw [roll1 hp hpw hm1 hv c0 (by omega) (by omega) hL1, e3]
          refine ⟨_, roll_full hp2 hpw2 ?_ hv (Or.inr (by omega)) (by omega), hp2, funext fun i => by rw [I_row (by omega), I_row (by omega), I_row (by omega), I_row (by omega)]⟩
          unfold pdg
          rw [if_pos hL1, us_row (by omega), us_row (by omega)]
          exact hm1
        · refine ⟨_, roll_full hp hpw hm1 hv (Or.inl hL1) (by omega), ?_, funext fun i => by rw [I_row (by omega), I_row (by omega)]⟩
          unfold pdg
          rw [if_neg hL1]
          exact hp
      · refine ⟨υ, roll_full h hW hm hv (Or.inl hL) (by omega), ?_, rfl⟩
        have e4 : pdg w m ((v - 11) / 10) = w := by unfold pdg; rw [if_neg hL]
        rw [e4]
        unfold pdg
        rw [if_neg hL]
        exact h
theorem pwd_w (h : WFw w) {m v : Nat} (hv : v ≤ 110) : WFw (pwd w m v) := by
  unfold pwd
  split
  · exact h
  · split
    · exact pdg_w h (by omega)
    · exact pdg_w (pdg_w h (by omega)) (by omega)
theorem pwd_q {m v : Nat} (h : Qr w w1 m) : Qr w (pwd w1 m v) m := by
  unfold pwd
  split
  · exact h
  · split
    · exact pdg_q h
    · exact pdg_q (pdg_q h)
/-- the number of a roll -/
theorem nb_b {f : Nat → Nat} (hf : ∀ i, f i ≤ 9) : ∀ k a acc, k ≤ 4 → acc < 10 ^ (4 - k) → nb f k a acc < 10000 := by
  intro k
  induction k with
  | zero =>
    intro a acc _ h
    exact h
  | succ k ih =>
    intro a acc hk h
    rw [nb]
    refine ih _ _ (by omega) ?_
    have := hf a
    rw [show 4 - k = 4 - (k + 1) + 1 by omega, Nat.pow_succ]
    omega
theorem rnm_b (hW : WFw w) (m : Nat) : rnm w m ≤ 9999 := by
  have h7 : ∀ i, w 7 i ≤ 9 := by obtain ⟨_, _, _, _, _, _, _, _, _, _, h10, _⟩ := hW; exact h10
  have := nb_b (f := fun i => w 7 (12 * m + i)) (fun i => h7 _) (w 6 m - (w 6 m - 4)) (w 6 m - 4) 0 (by omega) (Nat.pow_pos (by omega))
  unfold rnm
  omega
theorem num_c (hw : WR τ b w) (hW : WFw w) {m : Nat} (hm : m < w 0 0) : g_X9_rollNumber N b (nI m) τ = some (nI (rnm w m)) := by
  have hc : w 0 0 ≤ 5 := hW.1
  have hl := hW.l m
  have e0 : τ.1 b 0 = nI (w 0 0) := hw 0 0 (by omega)
  have e6 : τ.1 (b + 6) m = nI (w 6 m) := hw 6 m (by omega)
  have hh := hasT (N := N) e0 hc hm
  have hl2 : ∀ k a acc n, a + k = w 6 m → k < n → g_X9_rollNumber_15 N n b (nI m) (nI acc) (nI a) τ = some (nI (nb (fun i => w 7 (12 * m + i)) k a acc)) := by
    intro k
    induction k with
    | zero =>
      intro a acc n ha hn
      obtain ⟨n, rfl⟩ : ∃ x, n = x + 1 := ⟨n - 1, by omega⟩
      rw [g_X9_rollNumber_15, nb]
      simp (disch := omega) only [k_0, k_1, k_2, k_3, k_4, k_5, k_6, k_7, k_8, k_9, k_10, k_11, k_12, k_13, k_14, k_15, k_16, k_17, k_18, k_19, k_20, k_21, k_22, k_23, k_24, k_25, k_26, k_27, k_28, k_29, k_30, k_31, k_32, k_33, k_34, k_35, k_36, k_37, k_38, k_39, k_40, k_41, k_42, k_43, k_44, k_45, k_46, k_47, k_48, k_49, k_50, k_51, k_52, k_53, k_54, k_55, k_56, k_57, k_58, k_59, k_60, k_61, k_62, k_63, k_64, k_65, k_66, k_67, k_68, k_69, k_70, k_71, k_72, k_73, k_74, k_75, k_76, k_77, k_78, k_79, k_80, k_81, k_82, k_83, k_84, k_85, k_86, k_87, k_88, k_89, k_90, k_91, k_92, k_93, k_94, k_95, k_96, k_97, k_98, k_99, k_100, k_101, k_102, k_103, k_104, k_105, k_106, k_107, k_108, k_109, k_110, k_111, k_112, k_113, k_114, k_115, k_116, k_117, k_118, k_119, k_120, k_121, k_122, k_123, k_124, k_125, k_126, k_127, k_128, k_129, k_130, k_133, k_144, k_145, k_153, k_193, k_203, k_211, k_227, k_255, k_256, k_280, k_300, k_313, k_371, k_433, k_705, k_997, k_999, k_1000, k_4176, k_4547, k_9999, k_10000, k_30557, k_99999, k_1000000, k_1000000000, nI_add, pk_mul, w_sub, w_rem, w_div, w_dv, w_rm, nI_leI, nI_ltI, nI_eq, w_em, w_me, w_lm, w_ml, w_lem, w_mle, bnd, Option.some.injEq, xI_n, yI_n, xL_n, yL_n, xP_n, xG_n, I_same, I_row, I_col, L_1, Q_1, R_same, R_row, if_pos, if_neg, ite_self, not_true, not_false, decide_true, decide_false, Nat.add_assoc, true_and, and_true, Nat.zero_add, Nat.add_zero, Nat.mul_zero, Nat.mul_one, Nat.one_mul, eq_self, decide_eq_true, decide_eq_false, Bool.true_eq_false, Bool.false_eq_true, ↓reduceIte, Nat.reduceAdd, Nat.reduceMul, Nat.reduceSub, Nat.reduceDiv, Nat.reduceMod, bb_t, bb_f, e6]
    | succ k ih =>
      intro a acc n ha hn
      obtain ⟨n, rfl⟩ : ∃ x, n = x + 1 := ⟨n - 1, by omega⟩
      have e7 : τ.1 (b + 7) (m * 12 + a) = nI (w 7 (12 * m + a)) := by
        rw [show m * 12 + a = 12 * m + a by omega]
        exact hw 7 _ (by omega)
      have rd : g_X9_rollDigit N b (nI m) (nI a) τ = some (nI (w 7 (12 * m + a))) := by
        unfold g_X9_rollDigit g_X9_rollDigit_0
        have ed : decide (nI 0 ≤ nI a ∧ nI a ≤ nI (w 6 m) - nI 1) = true := by
          refine decide_eq_true ⟨nI_le (by omega) (by omega), ?_⟩
          rw [pk_sub (by omega)]
          exact nI_le (by omega) (by omega)
        rw [hh, bnd, if_neg (by decide), xI_n (by omega) (by omega), e6, bnd, k_0, k_1, wi10, ed, bnd, if_neg (by decide), k_12, if_pos (nI_lt (by omega) (by omega)), pk_mul, nI_add, xI_n (by omega) (by omega), e7, bnd]
      rw [g_X9_rollNumber_15, nb, ← ih (a + 1) _ n (by omega) (by omega)]
      simp (disch := omega) only [k_0, k_1, k_2, k_3, k_4, k_5, k_6, k_7, k_8, k_9, k_10, k_11, k_12, k_13, k_14, k_15, k_16, k_17, k_18, k_19, k_20, k_21, k_22, k_23, k_24, k_25, k_26, k_27, k_28, k_29, k_30, k_31, k_32, k_33, k_34, k_35, k_36, k_37, k_38, k_39, k_40, k_41, k_42, k_43, k_44, k_45, k_46, k_47, k_48, k_49, k_50, k_51, k_52, k_53, k_54, k_55, k_56, k_57, k_58, k_59, k_60, k_61, k_62, k_63, k_64, k_65, k_66, k_67, k_68, k_69, k_70, k_71, k_72, k_73, k_74, k_75, k_76, k_77, k_78, k_79, k_80, k_81, k_82, k_83, k_84, k_85, k_86, k_87, k_88, k_89, k_90, k_91, k_92, k_93, k_94, k_95, k_96, k_97, k_98, k_99, k_100, k_101, k_102, k_103, k_104, k_105, k_106, k_107, k_108, k_109, k_110, k_111, k_112, k_113, k_114, k_115, k_116, k_117, k_118, k_119, k_120, k_121, k_122, k_123, k_124, k_125, k_126, k_127, k_128, k_129, k_130, k_133, k_144, k_145, k_153, k_193, k_203, k_211, k_227, k_255, k_256, k_280, k_300, k_313, k_371, k_433, k_705, k_997, k_999, k_1000, k_4176, k_4547, k_9999, k_10000, k_30557, k_99999, k_1000000, k_1000000000, nI_add, pk_mul, w_sub, w_rem, w_div, w_dv, w_rm, nI_leI, nI_ltI, nI_eq, w_em, w_me, w_lm, w_ml, w_lem, w_mle, bnd, Option.some.injEq, xI_n, yI_n, xL_n, yL_n, xP_n, xG_n, I_same, I_row, I_col, L_1, Q_1, R_same, R_row, if_pos, if_neg, ite_self, not_true, not_false, decide_true, decide_false, Nat.add_assoc, true_and, and_true, Nat.zero_add, Nat.add_zero, Nat.mul_zero, Nat.mul_one, Nat.one_mul, eq_self, decide_eq_true, decide_eq_false, Bool.true_eq_false, Bool.false_eq_true, ↓reduceIte, Nat.reduceAdd, Nat.reduceMul, Nat.reduceSub, Nat.reduceDiv, Nat.reduceMod, bb_t, bb_f, e6, rd]
  unfold g_X9_rollNumber g_X9_rollNumber_0 rnm
  have ej : jmax (nI 0) (nI (w 6 m) - nI 4) = nI (w 6 m - 4) := by
    by_cases c : 4 ≤ w 6 m
    · rw [pk_sub c, jmax_n (by omega) (by omega), show max 0 (w 6 m - 4) = w 6 m - 4 by omega]
    · unfold jmax
      have hneg : ¬ nI 0 < nI (w 6 m) - nI 4 := by
        intro q
        have := Int32.lt_iff_toInt_lt.mp q
        rw [pk_sub_toInt (by omega) (by omega), nI_toInt (by omega)] at this
        omega
      rw [if_neg hneg, show w 6 m - 4 = 0 by omega]
  rw [xI_n (by omega) (by omega), e6, bnd, k_0, k_4, ej]
  exact hl2 _ _ _ fu (by omega) (by unfold fu; omega)
theorem num_r (hA : RW (υ.1 643) w) (hW : WFw w) {m : Nat} (hm : m < w 0 0) : g_X11_numberOfRoll N 642 (nI m) υ = some (nI (rnm w m)) := by
  have hc : w 0 0 ≤ 5 := hW.1
  have hl := hW.l m
  obtain ⟨-, -, -, g3, g4⟩ := get_r (N := N) hA hc hm
  have hl2 : ∀ k a acc n, a + k = w 6 m → k < n → g_X11_numberOfRoll_25 N n 642 (nI m) (nI acc) (nI a) υ = some (nI (nb (fun i => w 7 (12 * m + i)) k a acc)) := by
    intro k
    induction k with
    | zero =>
      intro a acc n ha hn
      obtain ⟨n, rfl⟩ : ∃ x, n = x + 1 := ⟨n - 1, by omega⟩
      rw [g_X11_numberOfRoll_25, nb]
      simp (disch := omega) only [k_0, k_1, k_2, k_3, k_4, k_5, k_6, k_7, k_8, k_9, k_10, k_11, k_12, k_13, k_14, k_15, k_16, k_17, k_18, k_19, k_20, k_21, k_22, k_23, k_24, k_25, k_26, k_27, k_28, k_29, k_30, k_31, k_32, k_33, k_34, k_35, k_36, k_37, k_38, k_39, k_40, k_41, k_42, k_43, k_44, k_45, k_46, k_47, k_48, k_49, k_50, k_51, k_52, k_53, k_54, k_55, k_56, k_57, k_58, k_59, k_60, k_61, k_62, k_63, k_64, k_65, k_66, k_67, k_68, k_69, k_70, k_71, k_72, k_73, k_74, k_75, k_76, k_77, k_78, k_79, k_80, k_81, k_82, k_83, k_84, k_85, k_86, k_87, k_88, k_89, k_90, k_91, k_92, k_93, k_94, k_95, k_96, k_97, k_98, k_99, k_100, k_101, k_102, k_103, k_104, k_105, k_106, k_107, k_108, k_109, k_110, k_111, k_112, k_113, k_114, k_115, k_116, k_117, k_118, k_119, k_120, k_121, k_122, k_123, k_124, k_125, k_126, k_127, k_128, k_129, k_130, k_133, k_144, k_145, k_153, k_193, k_203, k_211, k_227, k_255, k_256, k_280, k_300, k_313, k_371, k_433, k_705, k_997, k_999, k_1000, k_4176, k_4547, k_9999, k_10000, k_30557, k_99999, k_1000000, k_1000000000, nI_add, pk_mul, w_sub, w_rem, w_div, w_dv, w_rm, nI_leI, nI_ltI, nI_eq, w_em, w_me, w_lm, w_ml, w_lem, w_mle, bnd, Option.some.injEq, xI_n, yI_n, xL_n, yL_n, xP_n, xG_n, I_same, I_row, I_col, L_1, Q_1, R_same, R_row, if_pos, if_neg, ite_self, not_true, not_false, decide_true, decide_false, Nat.add_assoc, true_and, and_true, Nat.zero_add, Nat.add_zero, Nat.mul_zero, Nat.mul_one, Nat.one_mul, eq_self, decide_eq_true, decide_eq_false, Bool.true_eq_false, Bool.false_eq_true, ↓reduceIte, Nat.reduceAdd, Nat.reduceMul, Nat.reduceSub, Nat.reduceDiv, Nat.reduceMod, bb_t, bb_f, g3]
    | succ k ih =>
      intro a acc n ha hn
      obtain ⟨n, rfl⟩ : ∃ x, n = x + 1 := ⟨n - 1, by omega⟩
      have e4 := g4 a (by omega) (by omega)
      rw [g_X11_numberOfRoll_25, nb, ← ih (a + 1) _ n (by omega) (by omega), k_3, g3, bnd, if_neg (nI_ge (by omega) (by omega)), k_4, nI_add, e4, bnd, k_10, pk_mul, nI_add, k_1, nI_add, Nat.mul_comm 10 acc]
  have jf : jz false = nI 0 := rfl
  unfold g_X11_numberOfRoll g_X11_numberOfRoll_0 g_X11_numberOfRoll_24 rnm
  rw [k_3, g3, bnd, k_4, k_0, jf]
  by_cases c : w 6 m ≤ 4
  · rw [if_pos (nI_le c (by omega)), show w 6 m - 4 = 0 by omega]
    exact hl2 _ _ _ fu (by omega) (by unfold fu; omega)
  · rw [if_neg (nI_ge (by omega) (by omega)), bnd, pk_sub (by omega)]
    exact hl2 _ _ _ fu (by omega) (by unfold fu; omega)
end RL2
