/-! undo -/
def und (g : Nat → Int32) (x pc m c : Nat) : Nat → Int32 := fun i => if 11 + 18 * m ≤ i ∧ i < 11 + 18 * c ∧ (i - 11) % 18 < 16 then (if (i - 11) / 18 < pc then g (x + 4 + 16 * ((i - 11) / 18) + (i - 11) % 18) else if (i - 11) % 18 = 0 then g (28 + 18 * ((i - 11) / 18)) else nI 0) else g i
def und1 (g : Nat → Int32) (x pc : Nat) (i : Nat) : Int32 := if (i - 11) / 18 < pc then g (x + 4 + 16 * ((i - 11) / 18) + (i - 11) % 18) else if (i - 11) % 18 = 0 then g (28 + 18 * ((i - 11) / 18)) else nI 0
theorem und_in {g : Nat → Int32} {x pc m c i : Nat} (h : 11 + 18 * m ≤ i ∧ i < 11 + 18 * c ∧ (i - 11) % 18 < 16) : und g x pc m c i = und1 g x pc i := if_pos h
theorem und_out {g : Nat → Int32} {x pc m c i : Nat} (h : ¬ (11 + 18 * m ≤ i ∧ i < 11 + 18 * c ∧ (i - 11) % 18 < 16)) : und g x pc m c i = g i := if_neg h
theorem und_c {g g' : Nat → Int32} {x pc i : Nat} (h1 : g' (x + 4 + 16 * ((i - 11) / 18) + (i - 11) % 18) = g (x + 4 + 16 * ((i - 11) / 18) + (i - 11) % 18)) (h2 : g' (28 + 18 * ((i - 11) / 18)) = g (28 + 18 * ((i - 11) / 18))) : und1 g' x pc i = und1 g x pc i := by
  unfold und1
  rw [h1, h2]
def uF (g : Nat → Int32) (x pc c : Nat) : Nat → Int32 := fun i => if 8 ≤ i ∧ i < 11 then g (x + 1 + (i - 8)) else if 4547 ≤ i ∧ i < 4607 then g (x + 84 + (i - 4547)) else und g x pc 0 c i
def gbk (s : SS) (p : Nat) : SS := fun k i => if 1 ≤ k ∧ k ≤ 9 ∧ i < wl (k - 1) ∧ ¬ (k = 1 ∧ i = 0) ∧ k ≠ 2 ∧ k ≠ 3 then s (26 + 9 * p + (k - 1)) i else s k i
section UND
variable {N : Mem} {σ τ τ0 υ υ0 : ST} {s s' : SS} {f g : Nat → Int32}
theorem u38 {x : Nat} (h1 : 227 ≤ x) (h2 : x + 144 ≤ 4547) : ∀ r j q g, j + r = 3 → r < q → ∃ g', g_X11_undo_38 N q 642 (nI x) (nI j) (setR σ 643 g) = g_X11_undo_70 N fu 642 (nI x) (nI 0) (setR σ 643 g') ∧ ∀ i, g' i = if 8 + j ≤ i ∧ i < 11 then g (x + 1 + (i - 8)) else g i := by
  intro r
  induction r with
  | zero =>
    intro j q g hj hq
    obtain ⟨q, rfl⟩ : ∃ m, q = m + 1 := ⟨q - 1, by omega⟩
    refine ⟨g, ?_, fun i => by rw [if_neg (by omega)]⟩
    rw [g_X11_undo_38]
    simp (disch := omega) only [k_0, k_1, k_2, k_3, k_4, k_5, k_6, k_7, k_8, k_9, k_10, k_11, k_12, k_13, k_14, k_15, k_16, k_17, k_18, k_19, k_20, k_21, k_22, k_23, k_24, k_25, k_26, k_27, k_28, k_29, k_30, k_31, k_32, k_33, k_34, k_35, k_36, k_37, k_38, k_39, k_40, k_41, k_42, k_43, k_44, k_45, k_46, k_47, k_48, k_49, k_50, k_51, k_52, k_53, k_54, k_55, k_56, k_57, k_58, k_59, k_60, k_61, k_62, k_63, k_64, k_65, k_66, k_67, k_68, k_69, k_70, k_71, k_72, k_73, k_74, k_75, k_76, k_77, k_78, k_79, k_80, k_81, k_82, k_83, k_84, k_85, k_86, k_87, k_88, k_89, k_90, k_91, k_92, k_93, k_94, k_95, k_96, k_97, k_98, k_99, k_100, k_101, k_102, k_103, k_104, k_105, k_106, k_107, k_108, k_109, k_110, k_111, k_112, k_113, k_114, k_115, k_116, k_117, k_118, k_119, k_120, k_121, k_122, k_123, k_124, k_125, k_126, k_127, k_128, k_129, k_130, k_133, k_144, k_145, k_153, k_193, k_203, k_211, k_227, k_255, k_256, k_280, k_300, k_313, k_371, k_433, k_705, k_997, k_999, k_1000, k_4176, k_4547, k_9999, k_10000, k_30557, k_99999, k_1000000, k_1000000000, nI_add, pk_mul, w_sub, w_rem, w_div, w_dv, w_rm, nI_leI, nI_ltI, nI_eq, w_em, w_me, w_lm, w_ml, w_lem, w_mle, bnd, Option.some.injEq, xI_n, yI_n, xL_n, yL_n, xP_n, xG_n, I_same, I_row, I_col, L_1, Q_1, R_same, R_row, if_pos, if_neg, ite_self, not_true, not_false, decide_true, decide_false, Nat.add_assoc, true_and, and_true, Nat.zero_add, Nat.add_zero, Nat.mul_zero, Nat.mul_one, Nat.one_mul, eq_self, decide_eq_true, decide_eq_false, Bool.true_eq_false, Bool.false_eq_true, ↓reduceIte, Nat.reduceAdd, Nat.reduceMul, Nat.reduceSub, Nat.reduceDiv, Nat.reduceMod, bb_t, bb_f]
  | succ r ih =>
    intro j q g hj hq
    obtain ⟨q, rfl⟩ : ∃ m, q = m + 1 := ⟨q - 1, by omega⟩
    obtain ⟨g', a1, a2⟩ := ih (j + 1) q (ua g (8 + j) (g (x + (1 + j)))) (by omega) (by omega)
    refine ⟨g', ?_, fun i => ?_⟩
    · rw [g_X11_undo_38, ← a1]
      simp (disch := omega) only [k_0, k_1, k_2, k_3, k_4, k_5, k_6, k_7, k_8, k_9, k_10, k_11, k_12, k_13, k_14, k_15, k_16, k_17, k_18, k_19, k_20, k_21, k_22, k_23, k_24, k_25, k_26, k_27, k_28, k_29, k_30, k_31, k_32, k_33, k_34, k_35, k_36, k_37, k_38, k_39, k_40, k_41, k_42, k_43, k_44, k_45, k_46, k_47, k_48, k_49, k_50, k_51, k_52, k_53, k_54, k_55, k_56, k_57, k_58, k_59, k_60, k_61, k_62, k_63, k_64, k_65, k_66, k_67, k_68, k_69, k_70, k_71, k_72, k_73, k_74, k_75, k_76, k_77, k_78, k_79, k_80, k_81, k_82, k_83, k_84, k_85, k_86, k_87, k_88, k_89, k_90, k_91, k_92, k_93, k_94, k_95, k_96, k_97, k_98, k_99, k_100, k_101, k_102, k_103, k_104, k_105, k_106, k_107, k_108, k_109, k_110, k_111, k_112, k_113, k_114, k_115, k_116, k_117, k_118, k_119, k_120, k_121, k_122, k_123, k_124, k_125, k_126, k_127, k_128, k_129, k_130, k_133, k_144, k_145, k_153, k_193, k_203, k_211, k_227, k_255, k_256, k_280, k_300, k_313, k_371, k_433, k_705, k_997, k_999, k_1000, k_4176, k_4547, k_9999, k_10000, k_30557, k_99999, k_1000000, k_1000000000, nI_add, pk_mul, w_sub, w_rem, w_div, w_dv, w_rm, nI_leI, nI_ltI, nI_eq, w_em, w_me, w_lm, w_ml, w_lem, w_mle, bnd, Option.some.injEq, xI_n, yI_n, xL_n, yL_n, xP_n, xG_n, I_same, I_row, I_col, L_1, Q_1, R_same, R_row, if_pos, if_neg, ite_self, not_true, not_false, decide_true, decide_false, Nat.add_assoc, true_and, and_true, Nat.zero_add, Nat.add_zero, Nat.mul_zero, Nat.mul_one, Nat.one_mul, eq_self, decide_eq_true, decide_eq_false, Bool.true_eq_false, Bool.false_eq_true, ↓reduceIte, Nat.reduceAdd, Nat.reduceMul, Nat.reduceSub, Nat.reduceDiv, Nat.reduceMod, bb_t, bb_f, R_ua]
    · rw [a2 i]
      by_cases c : i = 8 + j
      · rw [if_neg (by omega), if_pos (by omega), ua_same c, show x + 1 + (i - 8) = x + (1 + j) by omega]
      · by_cases c2 : 8 + (j + 1) ≤ i ∧ i < 11
        · rw [if_pos c2, if_pos (by omega), ua_ne (by omega)]
        · rw [if_neg c2, if_neg (by omega), ua_ne c]
theorem u97 {x m pc : Nat} (h1 : 227 ≤ x) (h2 : x + 144 ≤ 4547) (hm : m < 5) (hp : m < pc) (hp5 : pc ≤ 5) (K : Nat → Int32 → Int32 → ST → Option (Int32 × ST)) : ∀ r t q g, t + r = 16 → r < q → g x = nI pc → ∃ g', g_X11_undo_97 N q K 642 (nI x) (nI m) (nI t) (setR σ 643 g) = K 642 (nI x) (nI (m + 1)) (setR σ 643 g') ∧ ∀ i, g' i = if 11 + 18 * m + t ≤ i ∧ i < 27 + 18 * m then g (x + 4 + 16 * m + (i - 11 - 18 * m)) else g i := by
  intro r
  induction r with
  | zero =>
    intro t q g ht hq hx
    obtain ⟨q, rfl⟩ : ∃ m, q = m + 1 := ⟨q - 1, by omega⟩
    refine ⟨g, ?_, fun i => by rw [if_neg (by omega)]⟩
    rw [g_X11_undo_97]
    simp (disch := omega) only [k_0, k_1, k_2, k_3, k_4, k_5, k_6, k_7, k_8, k_9, k_10, k_11, k_12, k_13, k_14, k_15, k_16, k_17, k_18, k_19, k_20, k_21, k_22, k_23, k_24, k_25, k_26, k_27, k_28, k_29, k_30, k_31, k_32, k_33, k_34, k_35, k_36, k_37, k_38, k_39, k_40, k_41, k_42, k_43, k_44, k_45, k_46, k_47, k_48, k_49, k_50, k_51, k_52, k_53, k_54, k_55, k_56, k_57, k_58, k_59, k_60, k_61, k_62, k_63, k_64, k_65, k_66, k_67, k_68, k_69, k_70, k_71, k_72, k_73, k_74, k_75, k_76, k_77, k_78, k_79, k_80, k_81, k_82, k_83, k_84, k_85, k_86, k_87, k_88, k_89, k_90, k_91, k_92, k_93, k_94, k_95, k_96, k_97, k_98, k_99, k_100, k_101, k_102, k_103, k_104, k_105, k_106, k_107, k_108, k_109, k_110, k_111, k_112, k_113, k_114, k_115, k_116, k_117, k_118, k_119, k_120, k_121, k_122, k_123, k_124, k_125, k_126, k_127, k_128, k_129, k_130, k_133, k_144, k_145, k_153, k_193, k_203, k_211, k_227, k_255, k_256, k_280, k_300, k_313, k_371, k_433, k_705, k_997, k_999, k_1000, k_4176, k_4547, k_9999, k_10000, k_30557, k_99999, k_1000000, k_1000000000, nI_add, pk_mul, w_sub, w_rem, w_div, w_dv, w_rm, nI_leI, nI_ltI, nI_eq, w_em, w_me, w_lm, w_ml, w_lem, w_mle, bnd, Option.some.injEq, xI_n, yI_n, xL_n, yL_n, xP_n, xG_n, I_same, I_row, I_col, L_1, Q_1, R_same, R_row, if_pos, if_neg, ite_self, not_true, not_false, decide_true, decide_false, Nat.add_assoc, true_and, and_true, Nat.zero_add, Nat.add_zero, Nat.mul_zero, Nat.mul_one, Nat.one_mul, eq_self, decide_eq_true, decide_eq_false, Bool.true_eq_false, Bool.false_eq_true, ↓reduceIte, Nat.reduceAdd, Nat.reduceMul, Nat.reduceSub, Nat.reduceDiv, Nat.reduceMod, bb_t, bb_f]
  | succ r ih =>
    intro t q g ht hq hx
    obtain ⟨q, rfl⟩ : ∃ m, q = m + 1 := ⟨q - 1, by omega⟩
    obtain ⟨g', a1, a2⟩ := ih (t + 1) q (ua g (11 + (18 * m + t)) (g (x + (4 + (16 * m + t))))) (by omega) (by omega) (by rw [ua_ne (by omega)]; exact hx)
    refine ⟨g', ?_, fun i => ?_⟩
    · rw [g_X11_undo_97, ← a1]
      unfold g_X11_lay g_X11_lay_0
      simp (disch := omega) only [k_0, k_1, k_2, k_3, k_4, k_5, k_6, k_7, k_8, k_9, k_10, k_11, k_12, k_13, k_14, k_15, k_16, k_17, k_18, k_19, k_20, k_21, k_22, k_23, k_24, k_25, k_26, k_27, k_28, k_29, k_30, k_31, k_32, k_33, k_34, k_35, k_36, k_37, k_38, k_39, k_40, k_41, k_42, k_43, k_44, k_45, k_46, k_47, k_48, k_49, k_50, k_51, k_52, k_53, k_54, k_55, k_56, k_57, k_58, k_59, k_60, k_61, k_62, k_63, k_64, k_65, k_66, k_67, k_68, k_69, k_70, k_71, k_72, k_73, k_74, k_75, k_76, k_77, k_78, k_79, k_80, k_81, k_82, k_83, k_84, k_85, k_86, k_87, k_88, k_89, k_90, k_91, k_92, k_93, k_94, k_95, k_96, k_97, k_98, k_99, k_100, k_101, k_102, k_103, k_104, k_105, k_106, k_107, k_108, k_109, k_110, k_111, k_112, k_113, k_114, k_115, k_116, k_117, k_118, k_119, k_120, k_121, k_122, k_123, k_124, k_125, k_126, k_127, k_128, k_129, k_130, k_133, k_144, k_145, k_153, k_193, k_203, k_211, k_227, k_255, k_256, k_280, k_300, k_313, k_371, k_433, k_705, k_997, k_999, k_1000, k_4176, k_4547, k_9999, k_10000, k_30557, k_99999, k_1000000, k_1000000000, nI_add, pk_mul, w_sub, w_rem, w_div, w_dv, w_rm, nI_leI, nI_ltI, nI_eq, w_em, w_me, w_lm, w_ml, w_lem, w_mle, bnd, Option.some.injEq, xI_n, yI_n, xL_n, yL_n, xP_n, xG_n, I_same, I_row, I_col, L_1, Q_1, R_same, R_row, if_pos, if_neg, ite_self, not_true, not_false, decide_true, decide_false, Nat.add_assoc, true_and, and_true, Nat.zero_add, Nat.add_zero, Nat.mul_zero, Nat.mul_one, Nat.one_mul, eq_self, decide_eq_true, decide_eq_false, Bool.true_eq_false, Bool.false_eq_true, ↓reduceIte, Nat.reduceAdd, Nat.reduceMul, Nat.reduceSub, Nat.reduceDiv, Nat.reduceMod, bb_t, bb_f, R_ua, hx]
    · rw [a2 i]
      by_cases c : i = 11 + (18 * m + t)
      · rw [if_neg (by omega), if_pos (by omega), ua_same c, show x + 4 + 16 * m + (i - 11 - 18 * m) = x + (4 + (16 * m + t)) by omega]
      · by_cases c2 : 11 + 18 * m + (t + 1) ≤ i ∧ i < 27 + 18 * m
        · rw [if_pos c2, if_pos (by omega), ua_ne (by omega)]
        · rw [if_neg c2, if_neg (by omega), ua_ne c]
theorem u148 {x : Nat} (h1 : 227 ≤ x) (h2 : x + 144 ≤ 4547) : ∀ r j q g, j + r = 60 → r < q → ∃ g', g_X11_undo_148 N q 642 (nI x) (nI j) (setR σ 643 g) = some (g 3, setR σ 643 g') ∧ ∀ i, g' i = if 4547 + j ≤ i ∧ i < 4607 then g (x + 84 + (i - 4547)) else g i := by
  intro r
  induction r with
  | zero =>
    intro j q g hj hq
    obtain ⟨q, rfl⟩ : ∃ m, q = m + 1 := ⟨q - 1, by omega⟩
    refine ⟨g, ?_, fun i => by rw [if_neg (by omega)]⟩
    rw [g_X11_undo_148]
    simp (disch := omega) only [k_0, k_1, k_2, k_3, k_4, k_5, k_6, k_7, k_8, k_9, k_10, k_11, k_12, k_13, k_14, k_15, k_16, k_17, k_18, k_19, k_20, k_21, k_22, k_23, k_24, k_25, k_26, k_27, k_28, k_29, k_30, k_31, k_32, k_33, k_34, k_35, k_36, k_37, k_38, k_39, k_40, k_41, k_42, k_43, k_44, k_45, k_46, k_47, k_48, k_49, k_50, k_51, k_52, k_53, k_54, k_55, k_56, k_57, k_58, k_59, k_60, k_61, k_62, k_63, k_64, k_65, k_66, k_67, k_68, k_69, k_70, k_71, k_72, k_73, k_74, k_75, k_76, k_77, k_78, k_79, k_80, k_81, k_82, k_83, k_84, k_85, k_86, k_87, k_88, k_89, k_90, k_91, k_92, k_93, k_94, k_95, k_96, k_97, k_98, k_99, k_100, k_101, k_102, k_103, k_104, k_105, k_106, k_107, k_108, k_109, k_110, k_111, k_112, k_113, k_114, k_115, k_116, k_117, k_118, k_119, k_120, k_121, k_122, k_123, k_124, k_125, k_126, k_127, k_128, k_129, k_130, k_133, k_144, k_145, k_153, k_193, k_203, k_211, k_227, k_255, k_256, k_280, k_300, k_313, k_371, k_433, k_705, k_997, k_999, k_1000, k_4176, k_4547, k_9999, k_10000, k_30557, k_99999, k_1000000, k_1000000000, nI_add, pk_mul, w_sub, w_rem, w_div, w_dv, w_rm, nI_leI, nI_ltI, nI_eq, w_em, w_me, w_lm, w_ml, w_lem, w_mle, bnd, Option.some.injEq, xI_n, yI_n, xL_n, yL_n, xP_n, xG_n, I_same, I_row, I_col, L_1, Q_1, R_same, R_row, if_pos, if_neg, ite_self, not_true, not_false, decide_true, decide_false, Nat.add_assoc, true_and, and_true, Nat.zero_add, Nat.add_zero, Nat.mul_zero, Nat.mul_one, Nat.one_mul, eq_self, decide_eq_true, decide_eq_false, Bool.true_eq_false, Bool.false_eq_true, ↓reduceIte, Nat.reduceAdd, Nat.reduceMul, Nat.reduceSub, Nat.reduceDiv, Nat.reduceMod, bb_t, bb_f]
  | succ r ih =>
    intro j q g hj hq
    obtain ⟨q, rfl⟩ : ∃ m, q = m + 1 := ⟨q - 1, by omega⟩
    obtain ⟨g', a1, a2⟩ := ih (j + 1) q (ua g (4547 + j) (g (x + (84 + j)))) (by omega) (by omega)
    refine ⟨g', ?_, fun i => ?_⟩
    · rw [ua_ne (by omega)] at a1
      rw [g_X11_undo_148, ← a1]
      simp (disch := omega) only [k_0, k_1, k_2, k_3, k_4, k_5, k_6, k_7, k_8, k_9, k_10, k_11, k_12, k_13, k_14, k_15, k_16, k_17, k_18, k_19, k_20, k_21, k_22, k_23, k_24, k_25, k_26, k_27, k_28, k_29, k_30, k_31, k_32, k_33, k_34, k_35, k_36, k_37, k_38, k_39, k_40, k_41, k_42, k_43, k_44, k_45, k_46, k_47, k_48, k_49, k_50, k_51, k_52, k_53, k_54, k_55, k_56, k_57, k_58, k_59, k_60, k_61, k_62, k_63, k_64, k_65, k_66, k_67, k_68, k_69, k_70, k_71, k_72, k_73, k_74, k_75, k_76, k_77, k_78, k_79, k_80, k_81, k_82, k_83, k_84, k_85, k_86, k_87, k_88, k_89, k_90, k_91, k_92, k_93, k_94, k_95, k_96, k_97, k_98, k_99, k_100, k_101, k_102, k_103, k_104, k_105, k_106, k_107, k_108, k_109, k_110, k_111, k_112, k_113, k_114, k_115, k_116, k_117, k_118, k_119, k_120, k_121, k_122, k_123, k_124, k_125, k_126, k_127, k_128, k_129, k_130, k_133, k_144, k_145, k_153, k_193, k_203, k_211, k_227, k_255, k_256, k_280, k_300, k_313, k_371, k_433, k_705, k_997, k_999, k_1000, k_4176, k_4547, k_9999, k_10000, k_30557, k_99999, k_1000000, k_1000000000, nI_add, pk_mul, w_sub, w_rem, w_div, w_dv, w_rm, nI_leI, nI_ltI, nI_eq, w_em, w_me, w_lm, w_ml, w_lem, w_mle, bnd, Option.some.injEq, xI_n, yI_n, xL_n, yL_n, xP_n, xG_n, I_same, I_row, I_col, L_1, Q_1, R_same, R_row, if_pos, if_neg, ite_self, not_true, not_false, decide_true, decide_false, Nat.add_assoc, true_and, and_true, Nat.zero_add, Nat.add_zero, Nat.mul_zero, Nat.mul_one, Nat.one_mul, eq_self, decide_eq_true, decide_eq_false, Bool.true_eq_false, Bool.false_eq_true, ↓reduceIte, Nat.reduceAdd, Nat.reduceMul, Nat.reduceSub, Nat.reduceDiv, Nat.reduceMod, bb_t, bb_f, R_ua]
    · rw [a2 i]
      by_cases c : i = 4547 + j
      · rw [if_neg (by omega), if_pos (by omega), ua_same c, show x + 84 + (i - 4547) = x + (84 + j) by omega]
      · by_cases c2 : 4547 + (j + 1) ≤ i ∧ i < 4607
        · rw [if_pos c2, if_pos (by omega), ua_ne (by omega)]
        · rw [if_neg c2, if_neg (by omega), ua_ne c]
theorem u70 {x pc c : Nat} (h1 : 227 ≤ x) (h2 : x + 144 ≤ 4547) (hc : c ≤ 5) (hp5 : pc ≤ 5) : ∀ r m q g, m + r = c → r < q → g 0 = nI c → g x = nI pc → ∃ g', g_X11_undo_70 N q 642 (nI x) (nI m) (setR σ 643 g) = g_X11_undo_148 N fu 642 (nI x) (nI 0) (setR σ 643 g') ∧ ∀ i, g' i = und g x pc m c i := by
  intro r
  induction r with
  | zero =>
    intro m q g hm hq h0 hx
    obtain ⟨q, rfl⟩ : ∃ m, q = m + 1 := ⟨q - 1, by omega⟩
    refine ⟨g, ?_, fun i => by unfold und; rw [if_neg (by omega)]⟩
    rw [g_X11_undo_70]
    simp (disch := omega) only [k_0, k_1, k_2, k_3, k_4, k_5, k_6, k_7, k_8, k_9, k_10, k_11, k_12, k_13, k_14, k_15, k_16, k_17, k_18, k_19, k_20, k_21, k_22, k_23, k_24, k_25, k_26, k_27, k_28, k_29, k_30, k_31, k_32, k_33, k_34, k_35, k_36, k_37, k_38, k_39, k_40, k_41, k_42, k_43, k_44, k_45, k_46, k_47, k_48, k_49, k_50, k_51, k_52, k_53, k_54, k_55, k_56, k_57, k_58, k_59, k_60, k_61, k_62, k_63, k_64, k_65, k_66, k_67, k_68, k_69, k_70, k_71, k_72, k_73, k_74, k_75, k_76, k_77, k_78, k_79, k_80, k_81, k_82, k_83, k_84, k_85, k_86, k_87, k_88, k_89, k_90, k_91, k_92, k_93, k_94, k_95, k_96, k_97, k_98, k_99, k_100, k_101, k_102, k_103, k_104, k_105, k_106, k_107, k_108, k_109, k_110, k_111, k_112, k_113, k_114, k_115, k_116, k_117, k_118, k_119, k_120, k_121, k_122, k_123, k_124, k_125, k_126, k_127, k_128, k_129, k_130, k_133, k_144, k_145, k_153, k_193, k_203, k_211, k_227, k_255, k_256, k_280, k_300, k_313, k_371, k_433, k_705, k_997, k_999, k_1000, k_4176, k_4547, k_9999, k_10000, k_30557, k_99999, k_1000000, k_1000000000, nI_add, pk_mul, w_sub, w_rem, w_div, w_dv, w_rm, nI_leI, nI_ltI, nI_eq, w_em, w_me, w_lm, w_ml, w_lem, w_mle, bnd, Option.some.injEq, xI_n, yI_n, xL_n, yL_n, xP_n, xG_n, I_same, I_row, I_col, L_1, Q_1, R_same, R_row, if_pos, if_neg, ite_self, not_true, not_false, decide_true, decide_false, Nat.add_assoc, true_and, and_true, Nat.zero_add, Nat.add_zero, Nat.mul_zero, Nat.mul_one, Nat.one_mul, eq_self, decide_eq_true, decide_eq_false, Bool.true_eq_false, Bool.false_eq_true, ↓reduceIte, Nat.reduceAdd, Nat.reduceMul, Nat.reduceSub, Nat.reduceDiv, Nat.reduceMod, bb_t, bb_f, h0]
  | succ r ih =>
    intro m q g hm hq h0 hx
    obtain ⟨q, rfl⟩ : ∃ m, q = m + 1 := ⟨q - 1, by omega⟩
    by_cases hpm : m < pc
    · obtain ⟨g1, a1, a2⟩ := u97 (N := N) (σ := σ) h1 h2 (m := m) (by omega) hpm hp5 (g_X11_undo_70 N q) 16 0 fu g (by omega) (by unfold fu; omega) hx
      obtain ⟨g', b1, b2⟩ := ih (m + 1) q g1 (by omega) (by omega) (by rw [a2, if_neg (by omega)]; exact h0) (by rw [a2, if_neg (by omega)]; exact hx)
      refine ⟨g', ?_, fun i => ?_⟩
      · rw [g_X11_undo_70, ← b1]
        unfold g_X11_undo_95
        simp (disch := omega) only [k_0, k_1, k_2, k_3, k_4, k_5, k_6, k_7, k_8, k_9, k_10, k_11, k_12, k_13, k_14, k_15, k_16, k_17, k_18, k_19, k_20, k_21, k_22, k_23, k_24, k_25, k_26, k_27, k_28, k_29, k_30, k_31, k_32, k_33, k_34, k_35, k_36, k_37, k_38, k_39, k_40, k_41, k_42, k_43, k_44, k_45, k_46, k_47, k_48, k_49, k_50, k_51, k_52, k_53, k_54, k_55, k_56, k_57, k_58, k_59, k_60, k_61, k_62, k_63, k_64, k_65, k_66, k_67, k_68, k_69, k_70, k_71, k_72, k_73, k_74, k_75, k_76, k_77, k_78, k_79, k_80, k_81, k_82, k_83, k_84, k_85, k_86, k_87, k_88, k_89, k_90, k_91, k_92, k_93, k_94, k_95, k_96, k_97, k_98, k_99, k_100, k_101, k_102, k_103, k_104, k_105, k_106, k_107, k_108, k_109, k_110, k_111, k_112, k_113, k_114, k_115, k_116, k_117, k_118, k_119, k_120, k_121, k_122, k_123, k_124, k_125, k_126, k_127, k_128, k_129, k_130, k_133, k_144, k_145, k_153, k_193, k_203, k_211, k_227, k_255, k_256, k_280, k_300, k_313, k_371, k_433, k_705, k_997, k_999, k_1000, k_4176, k_4547, k_9999, k_10000, k_30557, k_99999, k_1000000, k_1000000000, nI_add, pk_mul, w_sub, w_rem, w_div, w_dv, w_rm, nI_leI, nI_ltI, nI_eq, w_em, w_me, w_lm, w_ml, w_lem, w_mle, bnd, Option.some.injEq, xI_n, yI_n, xL_n, yL_n, xP_n, xG_n, I_same, I_row, I_col, L_1, Q_1, R_same, R_row, if_pos, if_neg, ite_self, not_true, not_false, decide_true, decide_false, Nat.add_assoc, true_and, and_true, Nat.zero_add, Nat.add_zero, Nat.mul_zero, Nat.mul_one, Nat.one_mul, eq_self, decide_eq_true, decide_eq_false, Bool.true_eq_false, Bool.false_eq_true, ↓reduceIte, Nat.reduceAdd, Nat.reduceMul, Nat.reduceSub, Nat.reduceDiv, Nat.reduceMod, bb_t, bb_f, h0, hx]
        exact a1
      · rw [b2 i]
        by_cases c1 : 11 + 18 * (m + 1) ≤ i ∧ i < 11 + 18 * c ∧ (i - 11) % 18 < 16
        · rw [und_in c1, und_in (by omega)]
          exact und_c (by rw [a2, if_neg (by omega)]) (by rw [a2, if_neg (by omega)])
        · rw [und_out c1, a2]
          by_cases c2 : 11 + 18 * m + 0 ≤ i ∧ i < 27 + 18 * m
          · rw [if_pos c2, und_in (by omega)]
            unfold und1
            rw [if_pos (show (i - 11) / 18 < pc by omega), show x + 4 + 16 * ((i - 11) / 18) + (i - 11) % 18 = x + 4 + 16 * m + (i - 11 - 18 * m) by omega]
          · rw [if_neg c2, und_out (by omega)]
    · obtain ⟨z, hz⟩ : ∃ z, fu = z + 1 := ⟨999999, by unfold fu; omega⟩
      have hb := begin_ok (N := N) (σ := σ) (m := m) (by omega) g
      have e0 : bgn g m 0 = nI c := by unfold bgn; rw [if_neg (by omega)]; exact h0
      have ex : bgn g m x = nI pc := by unfold bgn; rw [if_neg (by omega)]; exact hx
      obtain ⟨g', b1, b2⟩ := ih (m + 1) q (bgn g m) (by omega) (by omega) e0 ex
      refine ⟨g', ?_, fun i => ?_⟩
      · rw [g_X11_undo_70, ← b1]
        unfold g_X11_undo_95
        simp (disch := omega) only [k_0, k_1, k_2, k_3, k_4, k_5, k_6, k_7, k_8, k_9, k_10, k_11, k_12, k_13, k_14, k_15, k_16, k_17, k_18, k_19, k_20, k_21, k_22, k_23, k_24, k_25, k_26, k_27, k_28, k_29, k_30, k_31, k_32, k_33, k_34, k_35, k_36, k_37, k_38, k_39, k_40, k_41, k_42, k_43, k_44, k_45, k_46, k_47, k_48, k_49, k_50, k_51, k_52, k_53, k_54, k_55, k_56, k_57, k_58, k_59, k_60, k_61, k_62, k_63, k_64, k_65, k_66, k_67, k_68, k_69, k_70, k_71, k_72, k_73, k_74, k_75, k_76, k_77, k_78, k_79, k_80, k_81, k_82, k_83, k_84, k_85, k_86, k_87, k_88, k_89, k_90, k_91, k_92, k_93, k_94, k_95, k_96, k_97, k_98, k_99, k_100, k_101, k_102, k_103, k_104, k_105, k_106, k_107, k_108, k_109, k_110, k_111, k_112, k_113, k_114, k_115, k_116, k_117, k_118, k_119, k_120, k_121, k_122, k_123, k_124, k_125, k_126, k_127, k_128, k_129, k_130, k_133, k_144, k_145, k_153, k_193, k_203, k_211, k_227, k_255, k_256, k_280, k_300, k_313, k_371, k_433, k_705, k_997, k_999, k_1000, k_4176, k_4547, k_9999, k_10000, k_30557, k_99999, k_1000000, k_1000000000, nI_add, pk_mul, w_sub, w_rem, w_div, w_dv, w_rm, nI_leI, nI_ltI, nI_eq, w_em, w_me, w_lm, w_ml, w_lem, w_mle, bnd, Option.some.injEq, xI_n, yI_n, xL_n, yL_n, xP_n, xG_n, I_same, I_row, I_col, L_1, Q_1, R_same, R_row, if_pos, if_neg, ite_self, not_true, not_false, decide_true, decide_false, Nat.add_assoc, true_and, and_true, Nat.zero_add, Nat.add_zero, Nat.mul_zero, Nat.mul_one, Nat.one_mul, eq_self, decide_eq_true, decide_eq_false, Bool.true_eq_false, Bool.false_eq_true, ↓reduceIte, Nat.reduceAdd, Nat.reduceMul, Nat.reduceSub, Nat.reduceDiv, Nat.reduceMod, bb_t, bb_f, h0, hx, hb]
        rw [hz, g_X11_undo_97]
        simp (disch := omega) only [k_0, k_1, k_2, k_3, k_4, k_5, k_6, k_7, k_8, k_9, k_10, k_11, k_12, k_13, k_14, k_15, k_16, k_17, k_18, k_19, k_20, k_21, k_22, k_23, k_24, k_25, k_26, k_27, k_28, k_29, k_30, k_31, k_32, k_33, k_34, k_35, k_36, k_37, k_38, k_39, k_40, k_41, k_42, k_43, k_44, k_45, k_46, k_47, k_48, k_49, k_50, k_51, k_52, k_53, k_54, k_55, k_56, k_57, k_58, k_59, k_60, k_61, k_62, k_63, k_64, k_65, k_66, k_67, k_68, k_69, k_70, k_71, k_72, k_73, k_74, k_75, k_76, k_77, k_78, k_79, k_80, k_81, k_82, k_83, k_84, k_85, k_86, k_87, k_88, k_89, k_90, k_91, k_92, k_93, k_94, k_95, k_96, k_97, k_98, k_99, k_100, k_101, k_102, k_103, k_104, k_105, k_106, k_107, k_108, k_109, k_110, k_111, k_112, k_113, k_114, k_115, k_116, k_117, k_118, k_119, k_120, k_121, k_122, k_123, k_124, k_125, k_126, k_127, k_128, k_129, k_130, k_133, k_144, k_145, k_153, k_193, k_203, k_211, k_227, k_255, k_256, k_280, k_300, k_313, k_371, k_433, k_705, k_997, k_999, k_1000, k_4176, k_4547, k_9999, k_10000, k_30557, k_99999, k_1000000, k_1000000000, nI_add, pk_mul, w_sub, w_rem, w_div, w_dv, w_rm, nI_leI, nI_ltI, nI_eq, w_em, w_me, w_lm, w_ml, w_lem, w_mle, bnd, Option.some.injEq, xI_n, yI_n, xL_n, yL_n, xP_n, xG_n, I_same, I_row, I_col, L_1, Q_1, R_same, R_row, if_pos, if_neg, ite_self, not_true, not_false, decide_true, decide_false, Nat.add_assoc, true_and, and_true, Nat.zero_add, Nat.add_zero, Nat.mul_zero, Nat.mul_one, Nat.one_mul, eq_self, decide_eq_true, decide_eq_false, Bool.true_eq_false, Bool.false_eq_true, ↓reduceIte, Nat.reduceAdd, Nat.reduceMul, Nat.reduceSub, Nat.reduceDiv, Nat.reduceMod, bb_t, bb_f, ex]
      · rw [b2 i]
        have bo : ∀ j, ¬ (11 + 18 * m ≤ j ∧ j < 11 + 18 * m + 16) → bgn g m j = g j := fun j hj => if_neg hj
        by_cases c1 : 11 + 18 * (m + 1) ≤ i ∧ i < 11 + 18 * c ∧ (i - 11) % 18 < 16
        · rw [und_in c1, und_in (by omega)]
          exact und_c (bo _ (by omega)) (bo _ (by omega))
        · rw [und_out c1]
          by_cases c2 : 11 + 18 * m ≤ i ∧ i < 11 + 18 * m + 16
          · rw [und_in (by omega)]
            unfold und1 bgn
            rw [if_pos c2, if_neg (show ¬ (i - 11) / 18 < pc by omega)]
            by_cases c3 : i = 11 + 18 * m
            · rw [if_pos c3, if_pos (show (i - 11) % 18 = 0 by omega), show 28 + 18 * ((i - 11) / 18) = 28 + 18 * m by omega]
            · rw [if_neg c3, if_neg (show ¬ (i - 11) % 18 = 0 by omega)]
          · rw [bo _ c2, und_out (by omega)]
theorem undR {k c pc : Nat} (hk : k < 30) (hc : c ≤ 5) (hp5 : pc ≤ 5) (h3 : f 3 = nI (k + 1)) (h0 : f 0 = nI c) (hx : f (227 + 144 * k) = nI pc) : g_X11_undo N 642 (setR σ 643 f) = some (nI k, setR σ 643 (uF (ua f 3 (nI k)) (227 + 144 * k) pc c)) := by
  obtain ⟨g1, a1, a2⟩ := u38 (N := N) (σ := σ) (x := 227 + 144 * k) (by omega) (by omega) 3 0 fu (ua f 3 (nI k)) (by omega) (by unfold fu; omega)
  have e0 : g1 0 = nI c := by rw [a2, if_neg (by omega), ua_ne (by omega)]; exact h0
  have ex : g1 (227 + 144 * k) = nI pc := by rw [a2, if_neg (by omega), ua_ne (by omega)]; exact hx
  obtain ⟨g2, b1, b2⟩ := u70 (N := N) (σ := σ) (x := 227 + 144 * k) (by omega) (by omega) hc hp5 c 0 fu g1 (by omega) (by unfold fu; omega) e0 ex
  obtain ⟨g3, c1, c2⟩ := u148 (N := N) (σ := σ) (x := 227 + 144 * k) (by omega) (by omega) 60 0 fu g2 (by omega) (by unfold fu; omega)
  have e3 : g2 3 = nI k := by
    rw [b2]
    unfold und
    rw [if_neg (by omega), a2, if_neg (by omega), ua_same rfl]
  have eF : g3 = uF (ua f 3 (nI k)) (227 + 144 * k) pc c := by
    funext i
    rw [c2]
    unfold uF
    by_cases c4 : 4547 + 0 ≤ i ∧ i < 4607
    · rw [if_pos c4, if_neg (by omega), if_pos (by omega), b2]
      unfold und
      rw [if_neg (by omega), a2, if_neg (by omega)]
    · rw [if_neg c4, b2]
      by_cases c5 : 8 ≤ i ∧ i < 11
      · rw [if_pos c5]
        unfold und
        rw [if_neg (by omega), a2, if_pos (by omega)]
      · rw [if_neg c5, if_neg (by omega)]
        by_cases c6 : 11 + 18 * 0 ≤ i ∧ i < 11 + 18 * c ∧ (i - 11) % 18 < 16
        · rw [und_in c6, und_in c6]
          exact und_c (by rw [a2, if_neg (by omega)]) (by rw [a2, if_neg (by omega)])
        · rw [und_out c6, und_out c6, a2, if_neg (by omega)]
  rw [← eF]
  rw [e3] at c1
  unfold g_X11_undo g_X11_undo_0
  simp (disch := omega) only [k_0, k_1, k_2, k_3, k_4, k_5, k_6, k_7, k_8, k_9, k_10, k_11, k_12, k_13, k_14, k_15, k_16, k_17, k_18, k_19, k_20, k_21, k_22, k_23, k_24, k_25, k_26, k_27, k_28, k_29, k_30, k_31, k_32, k_33, k_34, k_35, k_36, k_37, k_38, k_39, k_40, k_41, k_42, k_43, k_44, k_45, k_46, k_47, k_48, k_49, k_50, k_51, k_52, k_53, k_54, k_55, k_56, k_57, k_58, k_59, k_60, k_61, k_62, k_63, k_64, k_65, k_66, k_67, k_68, k_69, k_70, k_71, k_72, k_73, k_74, k_75, k_76, k_77, k_78, k_79, k_80, k_81, k_82, k_83, k_84, k_85, k_86, k_87, k_88, k_89, k_90, k_91, k_92, k_93, k_94, k_95, k_96, k_97, k_98, k_99, k_100, k_101, k_102, k_103, k_104, k_105, k_106, k_107, k_108, k_109, k_110, k_111, k_112, k_113, k_114, k_115, k_116, k_117, k_118, k_119, k_120, k_121, k_122, k_123, k_124, k_125, k_126, k_127, k_128, k_129, k_130, k_133, k_144, k_145, k_153, k_193, k_203, k_211, k_227, k_255, k_256, k_280, k_300, k_313, k_371, k_433, k_705, k_997, k_999, k_1000, k_4176, k_4547, k_9999, k_10000, k_30557, k_99999, k_1000000, k_1000000000, nI_add, pk_mul, w_sub, w_rem, w_div, w_dv, w_rm, nI_leI, nI_ltI, nI_eq, w_em, w_me, w_lm, w_ml, w_lem, w_mle, bnd, Option.some.injEq, xI_n, yI_n, xL_n, yL_n, xP_n, xG_n, I_same, I_row, I_col, L_1, Q_1, R_same, R_row, if_pos, if_neg, ite_self, not_true, not_false, decide_true, decide_false, Nat.add_assoc, true_and, and_true, Nat.zero_add, Nat.add_zero, Nat.mul_zero, Nat.mul_one, Nat.one_mul, eq_self, decide_eq_true, decide_eq_false, Bool.true_eq_false, Bool.false_eq_true, ↓reduceIte, Nat.reduceAdd, Nat.reduceMul, Nat.reduceSub, Nat.reduceDiv, Nat.reduceMod, bb_t, bb_f, R_ua, h3, w_s1, Nat.add_sub_cancel, ua_same]
  rw [a1, b1, c1]
theorem wf_03 (h : WFs s) {v : Nat} (hv : v ≤ s 0 3) : WFs (us s 0 3 v) := by
  obtain ⟨W, P, h2, h3, h5, h6, r12, z13, r14, z15, r16, z17, r18, z19, z21, r20, r22, r23, r24, r25, pc⟩ := h
  refine ⟨WFw_c (fun c j hc => us_row (by omega)) W, fun p hp => WFw_c (fun c j hc => us_row (by omega)) (P p hp), ?_, ?_, ?_, ?_, ?_, ?_, ?_, ?_, ?_, ?_, ?_, ?_, ?_, ?_, ?_, ?_, ?_, ?_, ?_⟩
  · rw [us_col (by omega)]; exact h2
  · rw [us_same rfl rfl]; omega
  · rw [us_col (by omega)]; exact h5
  · rw [us_col (by omega), us_col (by omega)]; exact h6
  · intro j; rw [us_row (by omega)]; exact r12 j
  · rw [us_row (by omega)]; exact z13
  · intro j; rw [us_row (by omega)]; exact r14 j
  · rw [us_row (by omega)]; exact z15
  · intro j; rw [us_row (by omega)]; exact r16 j
  · rw [us_row (by omega)]; exact z17
  · intro j; rw [us_row (by omega)]; exact r18 j
  · rw [us_row (by omega)]; exact z19
  · rw [us_row (by omega), us_row (by omega)]; exact z21
  · intro j hj
    rw [us_row (by omega)] at hj
    rw [us_row (by omega), us_row (by omega)]; exact r20 j hj
  · intro j; rw [us_row (by omega)]; exact r22 j
  · intro j; rw [us_row (by omega)]; exact r23 j
  · intro j; rw [us_row (by omega)]; exact r24 j
  · intro j; rw [us_row (by omega)]; exact r25 j
  · intro j hj
    rw [us_same rfl rfl] at hj
    rw [past_c (s := s) (fun c i hc => us_row (by omega)) (us_col (by omega)), us_row (by omega)]
    exact pc j (by omega)
theorem rr_03 (hW : WFs s) (h : RR f s) {v : Nat} (hv : v ≤ s 0 3) : RR (ua f 3 (nI v)) (us s 0 3 v) := by
  obtain ⟨sc, ma, r12, r14, r16, r18, r23, r24, r25, rd, st, bk⟩ := h
  obtain ⟨a0, a1, a2, a3, a4, a5, a6, a7, a8, a9, a10⟩ := sc
  have hs : ∀ k i, 1 ≤ k → us s 0 3 v k i = s k i := fun k i hk => us_row (by omega)
  refine ⟨⟨?_, ?_, ?_, ?_, ?_, ?_, ?_, ?_, ?_, ?_, ?_⟩, ?_, ?_, ?_, ?_, ?_, ?_, ?_, ?_, ?_, ?_, ?_⟩
  · rw [ua_ne (by omega), hs _ _ (by omega)]; exact a0
  · rw [ua_ne (by omega), us_col (by omega)]; exact a1
  · rw [ua_ne (by omega), us_col (by omega)]; exact a2
  · rw [ua_same rfl, us_same rfl rfl]
  · rw [ua_ne (by omega), hs _ _ (by omega)]; exact a4
  · rw [ua_ne (by omega), hs _ _ (by omega)]; exact a5
  · rw [ua_ne (by omega), hs _ _ (by omega)]; exact a6
  · rw [ua_ne (by omega), hs _ _ (by omega)]; exact a7
  · rw [ua_ne (by omega), hs _ _ (by omega)]; exact a8
  · rw [ua_ne (by omega), hs _ _ (by omega)]; exact a9
  · rw [ua_ne (by omega), hs _ _ (by omega)]; exact a10
  · exact Rma_c (fun i _ _ => ua_ne (by omega)) (fun k i _ => us_row (by omega)) hW.1 ma
  · exact Rro_c (fun j _ _ => ua_ne (by omega)) (fun j _ => hs _ _ (by omega)) r12
  · exact Rro_c (fun j _ _ => ua_ne (by omega)) (fun j _ => hs _ _ (by omega)) r14
  · exact Rro_c (fun j _ _ => ua_ne (by omega)) (fun j _ => hs _ _ (by omega)) r16
  · exact Rro_c (fun j _ _ => ua_ne (by omega)) (fun j _ => hs _ _ (by omega)) r18
  · exact Rro_c (fun j _ _ => ua_ne (by omega)) (fun j _ => hs _ _ (by omega)) r23
  · exact Rro_c (fun j _ _ => ua_ne (by omega)) (fun j _ => hs _ _ (by omega)) r24
  · exact Rro_c (fun j _ _ => ua_ne (by omega)) (fun j _ => hs _ _ (by omega)) r25
  · exact Rrd_c (fun j _ _ => ua_ne (by omega)) (fun j => hs _ _ (by omega)) (fun j => hs _ _ (by omega)) rd
  · intro j hj
    rw [us_same rfl rfl] at hj
    have hj30 : j < 30 := by have := hW.2.2.2.1; omega
    rw [past_c (s := s) (fun c i hc => us_row (by omega)) (us_col (by omega))]
    exact Rs1_c (fun i hi => ua_ne (by omega)) (fun _ _ _ => rfl) (hW.past j) (st j (by omega))
  · exact Rbk_c (fun i hi => ua_ne (by omega)) (fun k i _ => us_row (by omega)) hW.1.2.2.2.1 bk
/-- machines told since are as told -/
def Sat (s s' : SS) (pc c : Nat) : Prop := (∀ k i, ¬ (4 ≤ k ∧ k ≤ 7 ∧ pc ≤ i ∧ i < c) → s' k i = s k i) ∧ ∀ i, pc ≤ i → i < c → s' 4 i = s 3 i ∧ s' 5 i = 0 ∧ s' 6 i = 0 ∧ s' 7 i = 0
theorem sat_l {c pc : Nat} (hc : c ≤ 5) : ∀ r m q τ s1, m + r = c → r < q → pc ≤ m → RC 1 τ s1 → s1 1 0 = c → Sat s s1 pc m → FC σ τ → ∃ τ' s', g_X9_goBackTo_10 N q 2 (nI m) τ = some τ' ∧ RC 1 τ' s' ∧ Sat s s' pc c ∧ FC σ τ' := by
  intro r
  induction r with
  | zero =>
    intro m q τ s1 hm hq hp hC h1 hS hF
    obtain ⟨q, rfl⟩ : ∃ m, q = m + 1 := ⟨q - 1, by omega⟩
    obtain rfl : m = c := by omega
    refine ⟨τ, s1, ?_, hC, hS, hF⟩
    rw [g_X9_goBackTo_10]
    simp (disch := omega) only [k_0, k_1, k_2, k_3, k_4, k_5, k_6, k_7, k_8, k_9, k_10, k_11, k_12, k_13, k_14, k_15, k_16, k_17, k_18, k_19, k_20, k_21, k_22, k_23, k_24, k_25, k_26, k_27, k_28, k_29, k_30, k_31, k_32, k_33, k_34, k_35, k_36, k_37, k_38, k_39, k_40, k_41, k_42, k_43, k_44, k_45, k_46, k_47, k_48, k_49, k_50, k_51, k_52, k_53, k_54, k_55, k_56, k_57, k_58, k_59, k_60, k_61, k_62, k_63, k_64, k_65, k_66, k_67, k_68, k_69, k_70, k_71, k_72, k_73, k_74, k_75, k_76, k_77, k_78, k_79, k_80, k_81, k_82, k_83, k_84, k_85, k_86, k_87, k_88, k_89, k_90, k_91, k_92, k_93, k_94, k_95, k_96, k_97, k_98, k_99, k_100, k_101, k_102, k_103, k_104, k_105, k_106, k_107, k_108, k_109, k_110, k_111, k_112, k_113, k_114, k_115, k_116, k_117, k_118, k_119, k_120, k_121, k_122, k_123, k_124, k_125, k_126, k_127, k_128, k_129, k_130, k_133, k_144, k_145, k_153, k_193, k_203, k_211, k_227, k_255, k_256, k_280, k_300, k_313, k_371, k_433, k_705, k_997, k_999, k_1000, k_4176, k_4547, k_9999, k_10000, k_30557, k_99999, k_1000000, k_1000000000, nI_add, pk_mul, w_sub, w_rem, w_div, w_dv, w_rm, nI_leI, nI_ltI, nI_eq, w_em, w_me, w_lm, w_ml, w_lem, w_mle, bnd, Option.some.injEq, xI_n, yI_n, xL_n, yL_n, xP_n, xG_n, I_same, I_row, I_col, L_1, Q_1, R_same, R_row, if_pos, if_neg, ite_self, not_true, not_false, decide_true, decide_false, Nat.add_assoc, true_and, and_true, Nat.zero_add, Nat.add_zero, Nat.mul_zero, Nat.mul_one, Nat.one_mul, eq_self, decide_eq_true, decide_eq_false, Bool.true_eq_false, Bool.false_eq_true, ↓reduceIte, Nat.reduceAdd, Nat.reduceMul, Nat.reduceSub, Nat.reduceDiv, Nat.reduceMod, bb_t, bb_f, c_1_0 hC, h1]
  | succ r ih =>
    intro m q τ s1 hm hq hp hC h1 hS hF
    obtain ⟨q, rfl⟩ : ∃ m, q = m + 1 := ⟨q - 1, by omega⟩
    have hC2 := (((hC.set (k := 4) (i := m) (v := s1 3 m) (by omega) (by omega)).set (k := 5) (i := m) (v := 0) (by omega) (by omega)).set (k := 6) (i := m) (v := 0) (by omega) (by omega)).set (k := 7) (i := m) (v := 0) (by omega) (by omega)
    obtain ⟨τ', s', a1, a2, a3, a4⟩ := ih (m + 1) q _ _ (by omega) (by omega) (by omega) hC2 (by rw [us_row (by omega), us_row (by omega), us_row (by omega), us_row (by omega)]; exact h1) (by
      refine ⟨fun k i hk => ?_, fun i h2 h3 => ?_⟩
      · by_cases e : 4 ≤ k ∧ k ≤ 7 ∧ i = m
        · omega
        · have e1 : ∀ (t : SS) (k0 v : Nat), 4 ≤ k0 → k0 ≤ 7 → us t k0 m v k i = t k i := by
            intro t k0 v q1 q2
            by_cases e2 : k = k0
            · exact us_col (by omega)
            · exact us_row e2
          rw [e1 _ _ _ (by omega) (by omega), e1 _ _ _ (by omega) (by omega), e1 _ _ _ (by omega) (by omega), e1 _ _ _ (by omega) (by omega)]
          exact hS.1 k i (by omega)
      · by_cases e : i = m
        · subst e
          rw [us_row (by omega), us_row (by omega), us_row (by omega), us_same rfl rfl, us_row (by omega), us_row (by omega), us_same rfl rfl, us_row (by omega), us_same rfl rfl, us_same rfl rfl]
          exact ⟨hS.1 3 i (by omega), rfl, rfl, rfl⟩
        · obtain ⟨g1, g2, g3, g4⟩ := hS.2 i h2 (by omega)
          rw [us_col e, us_col e, us_col e, us_col e, us_col e, us_col e, us_col e, us_col e, us_col e, us_col e, us_col e, us_col e, us_col e, us_col e, us_col e, us_col e]
          exact ⟨g1, g2, g3, g4⟩) ((((hF.set (by omega)).set (by omega)).set (by omega)).set (by omega))
    refine ⟨τ', s', ?_, a2, a3, a4⟩
    rw [g_X9_goBackTo_10, ← a1]
    unfold g_X9_setAsTold g_X9_setAsTold_0
    simp (disch := omega) only [k_0, k_1, k_2, k_3, k_4, k_5, k_6, k_7, k_8, k_9, k_10, k_11, k_12, k_13, k_14, k_15, k_16, k_17, k_18, k_19, k_20, k_21, k_22, k_23, k_24, k_25, k_26, k_27, k_28, k_29, k_30, k_31, k_32, k_33, k_34, k_35, k_36, k_37, k_38, k_39, k_40, k_41, k_42, k_43, k_44, k_45, k_46, k_47, k_48, k_49, k_50, k_51, k_52, k_53, k_54, k_55, k_56, k_57, k_58, k_59, k_60, k_61, k_62, k_63, k_64, k_65, k_66, k_67, k_68, k_69, k_70, k_71, k_72, k_73, k_74, k_75, k_76, k_77, k_78, k_79, k_80, k_81, k_82, k_83, k_84, k_85, k_86, k_87, k_88, k_89, k_90, k_91, k_92, k_93, k_94, k_95, k_96, k_97, k_98, k_99, k_100, k_101, k_102, k_103, k_104, k_105, k_106, k_107, k_108, k_109, k_110, k_111, k_112, k_113, k_114, k_115, k_116, k_117, k_118, k_119, k_120, k_121, k_122, k_123, k_124, k_125, k_126, k_127, k_128, k_129, k_130, k_133, k_144, k_145, k_153, k_193, k_203, k_211, k_227, k_255, k_256, k_280, k_300, k_313, k_371, k_433, k_705, k_997, k_999, k_1000, k_4176, k_4547, k_9999, k_10000, k_30557, k_99999, k_1000000, k_1000000000, nI_add, pk_mul, w_sub, w_rem, w_div, w_dv, w_rm, nI_leI, nI_ltI, nI_eq, w_em, w_me, w_lm, w_ml, w_lem, w_mle, bnd, Option.some.injEq, xI_n, yI_n, xL_n, yL_n, xP_n, xG_n, I_same, I_row, I_col, L_1, Q_1, R_same, R_row, if_pos, if_neg, ite_self, not_true, not_false, decide_true, decide_false, Nat.add_assoc, true_and, and_true, Nat.zero_add, Nat.add_zero, Nat.mul_zero, Nat.mul_one, Nat.one_mul, eq_self, decide_eq_true, decide_eq_false, Bool.true_eq_false, Bool.false_eq_true, ↓reduceIte, Nat.reduceAdd, Nat.reduceMul, Nat.reduceSub, Nat.reduceDiv, Nat.reduceMod, bb_t, bb_f, c_1_0 hC, h1, c_3 hC]
theorem gbk_o {p k i : Nat} (h : ¬ (1 ≤ k ∧ k ≤ 9 ∧ i < wl (k - 1) ∧ ¬ (k = 1 ∧ i = 0) ∧ k ≠ 2 ∧ k ≠ 3)) : gbk s p k i = s k i := if_neg h
theorem RC_gbk (h : RC 1 σ s) {p : Nat} (hp : p < 30) : RC 1 (cpC σ 2 (27 + 9 * p)) (gbk s p) := by
  refine ⟨fun k i hk hi => ?_, ?_⟩
  · unfold cpC gbk
    simp only []
    by_cases c : 1 ≤ k ∧ k ≤ 9 ∧ i < wl (k - 1) ∧ ¬ (k = 1 ∧ i = 0) ∧ k ≠ 2 ∧ k ≠ 3
    · have e : 1 + k - 2 = k - 1 := by omega
      rw [if_pos c, if_pos ⟨by omega, by omega, by rw [e]; exact c.2.2.1, by omega, by omega, by omega⟩, e, show 27 + 9 * p + (k - 1) = 1 + (26 + 9 * p + (k - 1)) by omega]
      exact h.1 _ _ (by omega) (by omega)
    · have e : 1 + k - 2 = k - 1 := by omega
      rw [if_neg c, if_neg (fun q => c ⟨by omega, by omega, by rw [← e]; exact q.2.2.1, by omega, by omega, by omega⟩)]
      exact h.1 _ _ hk hi
  · rw [gbk_o (by omega)]
    refine Eq.trans ?_ h.2
    unfold cpC
    dsimp only
    exact if_neg (fun q => absurd q.1 (by omega))
theorem undo_ok (hC : RC 1 σ s) (hW : WFs s) (hR : RR (σ.1 643) s) : OK1 σ s (g_X10_undo N 0) (g_X11_undo N 642) := by
  have b2 : s 0 2 < 30 := hW.2.2.1
  have b3 : s 0 3 ≤ 30 := hW.2.2.2.1
  obtain ⟨w0, w1, w2, w3⟩ := b_w hW
  by_cases hz : s 0 3 = 0
  · refine same0 (r := -1) hC hW hR ?_ ?_
    · unfold g_X10_undo g_X10_undo_0 g_X4_takeBack g_X4_takeBack_0
      simp (disch := omega) only [k_0, k_1, k_2, k_3, k_4, k_5, k_6, k_7, k_8, k_9, k_10, k_11, k_12, k_13, k_14, k_15, k_16, k_17, k_18, k_19, k_20, k_21, k_22, k_23, k_24, k_25, k_26, k_27, k_28, k_29, k_30, k_31, k_32, k_33, k_34, k_35, k_36, k_37, k_38, k_39, k_40, k_41, k_42, k_43, k_44, k_45, k_46, k_47, k_48, k_49, k_50, k_51, k_52, k_53, k_54, k_55, k_56, k_57, k_58, k_59, k_60, k_61, k_62, k_63, k_64, k_65, k_66, k_67, k_68, k_69, k_70, k_71, k_72, k_73, k_74, k_75, k_76, k_77, k_78, k_79, k_80, k_81, k_82, k_83, k_84, k_85, k_86, k_87, k_88, k_89, k_90, k_91, k_92, k_93, k_94, k_95, k_96, k_97, k_98, k_99, k_100, k_101, k_102, k_103, k_104, k_105, k_106, k_107, k_108, k_109, k_110, k_111, k_112, k_113, k_114, k_115, k_116, k_117, k_118, k_119, k_120, k_121, k_122, k_123, k_124, k_125, k_126, k_127, k_128, k_129, k_130, k_133, k_144, k_145, k_153, k_193, k_203, k_211, k_227, k_255, k_256, k_280, k_300, k_313, k_371, k_433, k_705, k_997, k_999, k_1000, k_4176, k_4547, k_9999, k_10000, k_30557, k_99999, k_1000000, k_1000000000, nI_add, pk_mul, w_sub, w_rem, w_div, w_dv, w_rm, nI_leI, nI_ltI, nI_eq, w_em, w_me, w_lm, w_ml, w_lem, w_mle, bnd, Option.some.injEq, xI_n, yI_n, xL_n, yL_n, xP_n, xG_n, I_same, I_row, I_col, L_1, Q_1, R_same, R_row, if_pos, if_neg, ite_self, not_true, not_false, decide_true, decide_false, Nat.add_assoc, true_and, and_true, Nat.zero_add, Nat.add_zero, Nat.mul_zero, Nat.mul_one, Nat.one_mul, eq_self, decide_eq_true, decide_eq_false, Bool.true_eq_false, Bool.false_eq_true, ↓reduceIte, Nat.reduceAdd, Nat.reduceMul, Nat.reduceSub, Nat.reduceDiv, Nat.reduceMod, bb_t, bb_f, c_0_3 hC, hz]
    · unfold g_X11_undo g_X11_undo_0
      simp (disch := omega) only [k_0, k_1, k_2, k_3, k_4, k_5, k_6, k_7, k_8, k_9, k_10, k_11, k_12, k_13, k_14, k_15, k_16, k_17, k_18, k_19, k_20, k_21, k_22, k_23, k_24, k_25, k_26, k_27, k_28, k_29, k_30, k_31, k_32, k_33, k_34, k_35, k_36, k_37, k_38, k_39, k_40, k_41, k_42, k_43, k_44, k_45, k_46, k_47, k_48, k_49, k_50, k_51, k_52, k_53, k_54, k_55, k_56, k_57, k_58, k_59, k_60, k_61, k_62, k_63, k_64, k_65, k_66, k_67, k_68, k_69, k_70, k_71, k_72, k_73, k_74, k_75, k_76, k_77, k_78, k_79, k_80, k_81, k_82, k_83, k_84, k_85, k_86, k_87, k_88, k_89, k_90, k_91, k_92, k_93, k_94, k_95, k_96, k_97, k_98, k_99, k_100, k_101, k_102, k_103, k_104, k_105, k_106, k_107, k_108, k_109, k_110, k_111, k_112, k_113, k_114, k_115, k_116, k_117, k_118, k_119, k_120, k_121, k_122, k_123, k_124, k_125, k_126, k_127, k_128, k_129, k_130, k_133, k_144, k_145, k_153, k_193, k_203, k_211, k_227, k_255, k_256, k_280, k_300, k_313, k_371, k_433, k_705, k_997, k_999, k_1000, k_4176, k_4547, k_9999, k_10000, k_30557, k_99999, k_1000000, k_1000000000, nI_add, pk_mul, w_sub, w_rem, w_div, w_dv, w_rm, nI_leI, nI_ltI, nI_eq, w_em, w_me, w_lm, w_ml, w_lem, w_mle, bnd, Option.some.injEq, xI_n, yI_n, xL_n, yL_n, xP_n, xG_n, I_same, I_row, I_col, L_1, Q_1, R_same, R_row, if_pos, if_neg, ite_self, not_true, not_false, decide_true, decide_false, Nat.add_assoc, true_and, and_true, Nat.zero_add, Nat.add_zero, Nat.mul_zero, Nat.mul_one, Nat.one_mul, eq_self, decide_eq_true, decide_eq_false, Bool.true_eq_false, Bool.false_eq_true, ↓reduceIte, Nat.reduceAdd, Nat.reduceMul, Nat.reduceSub, Nat.reduceDiv, Nat.reduceMod, bb_t, bb_f, r_3 hR, hz]
  obtain ⟨k, hk⟩ : ∃ k, s 0 3 = k + 1 := ⟨s 0 3 - 1, by omega⟩
  have hpp : (s 0 2 + k) % 30 < 30 := Nat.mod_lt _ (by omega)
  have hpc : past s k 0 0 ≤ s 1 0 := by
    obtain ⟨_, _, _, _, _, _, _, _, _, _, _, _, _, _, _, _, _, _, _, _, h⟩ := hW
    exact h k (by omega)
  have epc : past s k 0 0 = s (26 + 9 * ((s 0 2 + k) % 30)) 0 := rfl
  have hW1 := wf_03 hW (v := k) (by omega)
  have hC1 : RC 1 (setI σ 1 3 (nI k)) (us s 0 3 k) := hC.set (k := 0) (by omega) (by omega)
  have hC2 := RC_gbk hC1 hpp
  have hF2 : FC σ (cpC (setI σ 1 3 (nI k)) 2 (27 + 9 * ((s 0 2 + k) % 30))) := FC.trans (FC.rfl.set (by omega)) ⟨fun a i ha => if_neg (by omega), rfl⟩
  have hcc : gbk (us s 0 3 k) ((s 0 2 + k) % 30) 1 0 = s 1 0 := by rw [gbk_o (by omega), us_row (by omega)]
  obtain ⟨τ, s3, t1, t2, t3, t4⟩ := sat_l (N := N) (σ := σ) (s := gbk (us s 0 3 k) ((s 0 2 + k) % 30)) (c := s 1 0) (pc := past s k 0 0) w0 (s 1 0 - past s k 0 0) (past s k 0 0) fu _ _ (by omega) (by unfold fu; omega) (Nat.le_refl _) hC2 hcc ⟨fun _ _ _ => rfl, fun i h1 h2 => by omega⟩ hF2
  have cp := copyC (N := N) (σ := setI σ 1 3 (nI k)) (a := 2) (b := 27 + 9 * ((s 0 2 + k) % 30)) (by omega)
  -- what s3 is
  have o3 : ∀ c i, c = 0 ∨ 10 ≤ c → s3 c i = us s 0 3 k c i := by
    intro c i hc
    rw [t3.1 c i (by omega), gbk_o (by omega)]
  have o0 : ∀ i, i = 1 ∨ i = 2 ∨ i = 3 → s3 1 i = past s k 0 i := by
    intro i hi
    rw [t3.1 1 i (by omega)]
    unfold gbk
    have e4 : wl (1 - 1) = 4 := rfl
    rw [if_pos ⟨by omega, by omega, by rw [e4]; omega, by omega, by omega, by omega⟩, us_row (by omega)]
    rfl
  have o10 : s3 1 0 = s 1 0 := by rw [t3.1 1 0 (by omega), hcc]
  have o23 : ∀ c i, c = 2 ∨ c = 3 → s3 c i = s c i := by
    intro c i hc
    rw [t3.1 c i (by omega), gbk_o (by omega), us_row (by omega)]
  have o8 : ∀ c i, 4 ≤ c → c ≤ 9 → i < wl (c - 1) → ¬ (c ≤ 7 ∧ past s k 0 0 ≤ i ∧ i < s 1 0) → s3 c i = past s k (c - 1) i := by
    intro c i h1 h2 h3 h4
    rw [t3.1 c i (by omega)]
    unfold gbk
    rw [if_pos ⟨by omega, by omega, h3, by omega, by omega, by omega⟩, us_row (by omega)]
    rfl
  have mixw : ∀ c i, 4 ≤ c → c ≤ 9 → s3 c i = past s k (c - 1) i ∨ s3 c i = s c i ∨ (c ≤ 7 ∧ (s3 c i = 0 ∨ (c = 4 ∧ s3 c i = s 3 i))) := by
    intro c i h1 h2
    by_cases h4 : c ≤ 7 ∧ past s k 0 0 ≤ i ∧ i < s 1 0
    · obtain ⟨g1, g2, g3, g4⟩ := t3.2 i h4.2.1 h4.2.2
      rw [gbk_o (by omega), us_row (by omega)] at g1
      obtain rfl | rfl | rfl | rfl : c = 4 ∨ c = 5 ∨ c = 6 ∨ c = 7 := by omega
      · exact Or.inr (Or.inr ⟨by omega, Or.inr ⟨rfl, g1⟩⟩)
      · exact Or.inr (Or.inr ⟨by omega, Or.inl g2⟩)
      · exact Or.inr (Or.inr ⟨by omega, Or.inl g3⟩)
      · exact Or.inr (Or.inr ⟨by omega, Or.inl g4⟩)
    · by_cases h5 : i < wl (c - 1)
      · exact Or.inl (o8 c i h1 h2 h5 h4)
      · refine Or.inr (Or.inl ?_)
        rw [t3.1 c i (by omega), gbk_o (fun q => h5 q.2.2.1), us_row (by omega)]
  have hWp := hW.past k
  have hWc : WFw (cur s3) := by
    obtain ⟨p0, p1, p2, p3, p4, p5, p6, p7, p8, p9, p10, p11⟩ := hWp
    obtain ⟨c0, c1, c2, c3, c4, c5, c6, c7, c8, c9, c10, c11⟩ := hW.1
    refine ⟨?_, ?_, ?_, ?_, fun m => ?_, fun m => ?_, fun m => ?_, fun m => ?_, fun m => ?_, fun m => ?_, fun m => ?_, fun m => ?_⟩
    · show s3 1 0 ≤ 5
      rw [o10]; exact w0
    · show s3 1 1 ≤ 9999
      rw [o0 1 (by omega)]; exact p1
    · show s3 1 2 < 30557
      rw [o0 2 (by omega)]; exact p2
    · show s3 1 3 ≤ 30
      rw [o0 3 (by omega)]; exact p3
    · show s3 2 m ≤ 9
      rw [o23 _ _ (by omega)]; exact c4 m
    · show s3 3 m ≤ 99
      rw [o23 _ _ (by omega)]; exact c5 m
    · show s3 4 m ≤ 99
      rcases mixw 4 m (by omega) (by omega) with h | h | ⟨-, h | ⟨-, h⟩⟩
      · rw [h]; exact p6 m
      · rw [h]; exact c6 m
      · omega
      · rw [h]; exact c5 m
    · show s3 5 m ≤ 9
      rcases mixw 5 m (by omega) (by omega) with h | h | ⟨-, h | ⟨h, -⟩⟩
      · rw [h]; exact p7 m
      · rw [h]; exact c7 m
      · omega
      · omega
    · show s3 6 m ≤ 9999
      rcases mixw 6 m (by omega) (by omega) with h | h | ⟨-, h | ⟨h, -⟩⟩
      · rw [h]; exact p8 m
      · rw [h]; exact c8 m
      · omega
      · omega
    · show s3 7 m ≤ 12
      rcases mixw 7 m (by omega) (by omega) with h | h | ⟨-, h | ⟨h, -⟩⟩
      · rw [h]; exact p9 m
      · rw [h]; exact c9 m
      · omega
      · omega
    · show s3 8 m ≤ 9
      rcases mixw 8 m (by omega) (by omega) with h | h | ⟨h, -⟩
      · rw [h]; exact p10 m
      · rw [h]; exact c10 m
      · omega
    · show s3 9 (4 * m) ≤ 9999 ∧ s3 9 (4 * m + 1) ≤ 4 ∧ s3 9 (4 * m + 2) ≤ 9999 ∧ s3 9 (4 * m + 3) ≤ 9999
      have p := p11 m
      have c := c11 m
      refine ⟨?_, ?_, ?_, ?_⟩
      · rcases mixw 9 (4 * m) (by omega) (by omega) with h | h | ⟨h, -⟩
        · rw [h]; exact p.1
        · rw [h]; exact c.1
        · omega
      · rcases mixw 9 (4 * m + 1) (by omega) (by omega) with h | h | ⟨h, -⟩
        · rw [h]; exact p.2.1
        · rw [h]; exact c.2.1
        · omega
      · rcases mixw 9 (4 * m + 2) (by omega) (by omega) with h | h | ⟨h, -⟩
        · rw [h]; exact p.2.2.1
        · rw [h]; exact c.2.2.1
        · omega
      · rcases mixw 9 (4 * m + 3) (by omega) (by omega) with h | h | ⟨h, -⟩
        · rw [h]; exact p.2.2.2
        · rw [h]; exact c.2.2.2
        · omega
  have hW3 : WFs s3 := WFs_w hW1 o3 hWc (by rw [o10, us_row (by omega)]; exact Nat.le_refl _)
  have hR1 := rr_03 hW hR (v := k) (by omega)
  obtain ⟨e0, e1, e2, e3, e4, e5⟩ := hR.2.2.2.2.2.2.2.2.2.2.1 k (by omega)
  dsimp only at e0 e1 e2 e3
  have hR3 : RR (uF (ua (σ.1 643) 3 (nI k)) (227 + 144 * k) (past s k 0 0) (s 1 0)) s3 := by
    refine RR_w hW1 hR1 ?_ ?_ o3 ?_ ?_ ?_ ?_ ?_ ?_
    · intro i h1 h2
      unfold uF und
      rw [if_neg (by omega), if_neg (by omega), if_neg (by omega)]
    · intro i h1 h2
      unfold uF und
      rw [if_neg (by omega), if_neg (by omega), if_neg (by omega)]
    · unfold uF und
      rw [if_neg (by omega), if_neg (by omega), if_neg (by omega), ua_ne (by omega), o10]
      exact r_0 hR
    · unfold uF
      rw [if_pos (by omega), ua_ne (by omega), o0 1 (by omega)]
      exact e1
    · unfold uF
      rw [if_pos (by omega), ua_ne (by omega), o0 2 (by omega)]
      exact e2
    · unfold uF
      rw [if_pos (by omega), ua_ne (by omega), o0 3 (by omega)]
      exact e3
    · intro m hm
      have hm : m < s 1 0 := by
        have : cur s3 0 0 = s 1 0 := o10
        omega
      obtain ⟨-, g16, g17⟩ := hR.2.1 m hm
      have gz : ∀ z, z < 16 → uF (ua (σ.1 643) 3 (nI k)) (227 + 144 * k) (past s k 0 0) (s 1 0) (11 + 18 * m + z) = if m < past s k 0 0 then σ.1 643 (227 + 144 * k + (4 + 16 * m + z)) else if z = 0 then σ.1 643 (28 + 18 * m) else nI 0 := by
        intro z hz
        unfold uF
        have d1 : (11 + 18 * m + z - 11) / 18 = m := by omega
        have d2 : (11 + 18 * m + z - 11) % 18 = z := by omega
        rw [if_neg (by omega), if_neg (by omega), und_in (by omega)]
        unfold und1
        rw [d1, d2]
        by_cases c1 : m < past s k 0 0
        · rw [if_pos c1, if_pos c1, ua_ne (by omega), show 227 + 144 * k + 4 + 16 * m + z = 227 + 144 * k + (4 + 16 * m + z) by omega]
        · rw [if_neg c1, if_neg c1]
          by_cases c2 : z = 0
          · rw [if_pos c2, if_pos c2, ua_ne (by omega)]
          · rw [if_neg c2, if_neg c2]
      have hm5 : m < 5 := by omega
      refine ⟨?_, ?_, ?_⟩
      · by_cases c1 : m < past s k 0 0
        · obtain ⟨m0, m1, m2, m3, m4⟩ := e4 m c1
          dsimp only at m0 m1 m2 m3 m4
          have n5 : ∀ c, 4 ≤ c → c ≤ 7 → s3 c m = past s k (c - 1) m := fun c q1 q2 => o8 c m q1 (by omega) (by
            have : wl (c - 1) = 5 := by unfold wl; rw [if_neg (by omega), if_pos (by omega)]
            omega) (by omega)
          refine ⟨?_, ?_, ?_, ?_, fun i hi => ?_⟩
          · show uF _ _ _ _ (11 + 18 * m + 0) = nI (s3 4 m)
            rw [gz 0 (by omega), if_pos c1, n5 4 (by omega) (by omega)]
            exact m0
          · show uF _ _ _ _ (11 + 18 * m + 1) = nI (s3 5 m)
            rw [gz 1 (by omega), if_pos c1, n5 5 (by omega) (by omega)]
            exact m1
          · show uF _ _ _ _ (11 + 18 * m + 2) = nI (s3 6 m)
            rw [gz 2 (by omega), if_pos c1, n5 6 (by omega) (by omega)]
            exact m2
          · show uF _ _ _ _ (11 + 18 * m + 3) = nI (s3 7 m)
            rw [gz 3 (by omega), if_pos c1, n5 7 (by omega) (by omega)]
            exact m3
          · have hi : i < s3 7 m := hi
            rw [n5 7 (by omega) (by omega)] at hi
            have hl := hWp.l m
            have hi2 : i < past s k 6 m := hi
            show uF _ _ _ _ (11 + 18 * m + (4 + i)) = nI (s3 8 (12 * m + i))
            rw [gz (4 + i) (by omega), if_pos c1, o8 8 (12 * m + i) (by omega) (by omega) (by show 12 * m + i < 60; omega) (by omega)]
            exact m4 i hi2
        · obtain ⟨g1, g2, g3, g4⟩ := t3.2 m (by omega) hm
          rw [gbk_o (by omega), us_row (by omega)] at g1
          refine ⟨?_, ?_, ?_, ?_, fun i hi => ?_⟩
          · show uF _ _ _ _ (11 + 18 * m + 0) = nI (s3 4 m)
            rw [gz 0 (by omega), if_neg c1, if_pos rfl, g1]
            exact g17
          · show uF _ _ _ _ (11 + 18 * m + 1) = nI (s3 5 m)
            rw [gz 1 (by omega), if_neg c1, if_neg (by omega), g2]
          · show uF _ _ _ _ (11 + 18 * m + 2) = nI (s3 6 m)
            rw [gz 2 (by omega), if_neg c1, if_neg (by omega), g3]
          · show uF _ _ _ _ (11 + 18 * m + 3) = nI (s3 7 m)
            rw [gz 3 (by omega), if_neg c1, if_neg (by omega), g4]
          · have hi : i < s3 7 m := hi
            omega
      · show uF _ _ _ _ (27 + 18 * m) = nI (s3 2 m)
        unfold uF und
        rw [if_neg (by omega), if_neg (by omega), if_neg (by omega), ua_ne (by omega), o23 _ _ (by omega)]
        exact g16
      · show uF _ _ _ _ (28 + 18 * m) = nI (s3 3 m)
        unfold uF und
        rw [if_neg (by omega), if_neg (by omega), if_neg (by omega), ua_ne (by omega), o23 _ _ (by omega)]
        exact g17
    · intro i hi
      have hb30 := hWp.2.2.2.1
      have e3' : cur s3 0 3 = past s k 0 3 := o0 3 (by omega)
      rw [e3'] at hi
      obtain ⟨g1, g2⟩ := e5 i hi
      dsimp only at g1 g2
      have n9 : ∀ j, j < 120 → cur s3 8 j = past s k 8 j := fun j hj => o8 9 j (by omega) (by omega) hj (by omega)
      rw [n9 _ (by omega), n9 _ (by omega), n9 _ (by omega), n9 _ (by omega)]
      refine ⟨?_, ?_⟩
      · show uF _ _ _ _ (4547 + 2 * i) = _
        unfold uF
        rw [if_neg (by omega), if_pos (by omega), ua_ne (by omega), show 227 + 144 * k + 84 + (4547 + 2 * i - 4547) = 227 + 144 * k + (84 + 2 * i) by omega]
        exact g1
      · show uF _ _ _ _ (4547 + (2 * i + 1)) = _
        unfold uF
        rw [if_neg (by omega), if_pos (by omega), ua_ne (by omega), show 227 + 144 * k + 84 + (4547 + (2 * i + 1) - 4547) = 227 + 144 * k + (84 + (2 * i + 1)) by omega]
        exact g2
  refine ⟨nI k, s3, τ, setR τ 643 (uF (ua (τ.1 643) 3 (nI k)) (227 + 144 * k) (past s k 0 0) (s 1 0)), ?_, ?_, t2, t4, hW3, ?_, FR.rfl.row (by omega), ?_⟩
  · have c03 : τ.1 1 3 = nI k := by rw [c_0_3 t2, o3 _ _ (by omega), us_same rfl rfl]
    unfold g_X10_undo g_X10_undo_0 g_X4_takeBack g_X4_takeBack_0 g_X9_goBackTo g_X9_goBackTo_0
    have ea : 11 + (16 + 9 * ((s 0 2 + k) % 30)) = 27 + 9 * ((s 0 2 + k) % 30) := by omega
    have ec : (cpC (setI σ 1 3 (nI k)) 2 (27 + 9 * ((s 0 2 + k) % 30))).1 (27 + 9 * ((s 0 2 + k) % 30)) 0 = nI (past s k 0 0) := by
      have := hC2.1 (26 + 9 * ((s 0 2 + k) % 30)) 0 (by omega) (by omega)
      rw [gbk_o (by omega), us_row (by omega)] at this
      exact Eq.trans (congrArg (fun q => (cpC (setI σ 1 3 (nI k)) 2 (27 + 9 * ((s 0 2 + k) % 30))).1 q 0) (show 27 + 9 * ((s 0 2 + k) % 30) = 1 + (26 + 9 * ((s 0 2 + k) % 30)) by omega)) this
    generalize hP : (s 0 2 + k) % 30 = P at *
    simp (disch := omega) only [k_0, k_1, k_2, k_3, k_4, k_5, k_6, k_7, k_8, k_9, k_10, k_11, k_12, k_13, k_14, k_15, k_16, k_17, k_18, k_19, k_20, k_21, k_22, k_23, k_24, k_25, k_26, k_27, k_28, k_29, k_30, k_31, k_32, k_33, k_34, k_35, k_36, k_37, k_38, k_39, k_40, k_41, k_42, k_43, k_44, k_45, k_46, k_47, k_48, k_49, k_50, k_51, k_52, k_53, k_54, k_55, k_56, k_57, k_58, k_59, k_60, k_61, k_62, k_63, k_64, k_65, k_66, k_67, k_68, k_69, k_70, k_71, k_72, k_73, k_74, k_75, k_76, k_77, k_78, k_79, k_80, k_81, k_82, k_83, k_84, k_85, k_86, k_87, k_88, k_89, k_90, k_91, k_92, k_93, k_94, k_95, k_96, k_97, k_98, k_99, k_100, k_101, k_102, k_103, k_104, k_105, k_106, k_107, k_108, k_109, k_110, k_111, k_112, k_113, k_114, k_115, k_116, k_117, k_118, k_119, k_120, k_121, k_122, k_123, k_124, k_125, k_126, k_127, k_128, k_129, k_130, k_133, k_144, k_145, k_153, k_193, k_203, k_211, k_227, k_255, k_256, k_280, k_300, k_313, k_371, k_433, k_705, k_997, k_999, k_1000, k_4176, k_4547, k_9999, k_10000, k_30557, k_99999, k_1000000, k_1000000000, nI_add, pk_mul, w_sub, w_rem, w_div, w_dv, w_rm, nI_leI, nI_ltI, nI_eq, w_em, w_me, w_lm, w_ml, w_lem, w_mle, bnd, Option.some.injEq, xI_n, yI_n, xL_n, yL_n, xP_n, xG_n, I_same, I_row, I_col, L_1, Q_1, R_same, R_row, if_pos, if_neg, ite_self, not_true, not_false, decide_true, decide_false, Nat.add_assoc, true_and, and_true, Nat.zero_add, Nat.add_zero, Nat.mul_zero, Nat.mul_one, Nat.one_mul, eq_self, decide_eq_true, decide_eq_false, Bool.true_eq_false, Bool.false_eq_true, ↓reduceIte, Nat.reduceAdd, Nat.reduceMul, Nat.reduceSub, Nat.reduceDiv, Nat.reduceMod, bb_t, bb_f, c_0_3 hC, c_0_2 hC, hk, w_s1, Nat.add_sub_cancel, hP, ea, cp, ec, t1, c03]
  · have hRt : RR (τ.1 643) s := hR.fc t4
    have := undR (N := N) (σ := τ) (f := τ.1 643) (k := k) (c := s 1 0) (pc := past s k 0 0) (by omega) w0 (by omega) (by rw [r_3 hRt, hk]) (r_0 hRt) (by rw [t4.ref]; exact e0)
    rw [R_id] at this
    exact this
  · rw [R_1, t4.ref]
    exact hR3
  · rw [o3 _ _ (by omega), us_col (by omega)]
end UND
