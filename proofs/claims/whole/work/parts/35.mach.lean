/-! blocks, by, looser, machine -/
section MAC
variable {N : Mem} {σ τ : ST} {s s' w w' : SS} {A A' : Nat → Int32}
def pref (f : Nat → Nat) (who one other : Nat) : Bool := decide (f (who * 5 + one) < f (who * 5 + other) ∨ (f (who * 5 + one) = f (who * 5 + other) ∧ one < other))
theorem c_pref {a who one other : Nat} {f : Nat → Nat} (hf : ∀ i, σ.1 a i = nI (f i)) (h9 : ∀ i, f i ≤ 9) (h1 : who < 5) (h2 : one < 5) (h3 : other < 5) : g_X1_prefers N 25 a (nI who) (nI one) (nI other) σ = some (pref f who one other) := by
  unfold g_X1_prefers g_X1_prefers_0 pref
  have e1 := h9 (who * 5 + one)
  have e2 := h9 (who * 5 + other)
  by_cases c1 : f (who * 5 + one) < f (who * 5 + other)
  · simp (disch := omega) only [k_0, k_1, k_2, k_3, k_4, k_5, k_6, k_7, k_8, k_9, k_10, k_11, k_12, k_13, k_16, k_18, k_20, k_21, k_22, k_24, k_25, k_26, k_27, k_28, k_30, k_31, k_32, k_35, k_38, k_39, k_40, k_41, k_42, k_43, k_45, k_48, k_57, k_60, k_61, k_64, k_65, k_72, k_84, k_90, k_97, k_99, k_100, k_101, k_110, k_121, k_122, k_133, k_144, k_145, k_153, k_193, k_203, k_211, k_227, k_255, k_256, k_280, k_300, k_313, k_371, k_433, k_705, k_997, k_999, k_1000, k_4176, k_4547, k_9999, k_10000, k_30557, k_99999, k_1000000, k_1000000000, nI_add, pk_mul, w_sub, w_rem, w_div, w_dv, w_rm, nI_leI, nI_ltI, nI_eq, w_em, w_me, w_lm, w_ml, w_lem, w_mle, Option.bind_some, Option.some.injEq, xI_n, yI_n, xL_n, yL_n, xP_n, xG_n, I_same, I_row, I_col, L_1, Q_1, R_same, R_row, if_pos, if_neg, ite_self, not_true, not_false, decide_true, decide_false, Nat.add_assoc, true_and, and_true, Nat.zero_add, Nat.add_zero, Nat.mul_zero, Nat.mul_one, Nat.one_mul, eq_self, decide_eq_true, decide_eq_false, Bool.true_eq_false, Bool.false_eq_true, ↓reduceIte, Nat.reduceAdd, Nat.reduceMul, Nat.reduceSub, Nat.reduceDiv, Nat.reduceMod, bb_t, bb_f, hf]
  · by_cases c2 : f (who * 5 + one) = f (who * 5 + other)
    · by_cases c3 : one < other
      · simp (disch := omega) only [k_0, k_1, k_2, k_3, k_4, k_5, k_6, k_7, k_8, k_9, k_10, k_11, k_12, k_13, k_16, k_18, k_20, k_21, k_22, k_24, k_25, k_26, k_27, k_28, k_30, k_31, k_32, k_35, k_38, k_39, k_40, k_41, k_42, k_43, k_45, k_48, k_57, k_60, k_61, k_64, k_65, k_72, k_84, k_90, k_97, k_99, k_100, k_101, k_110, k_121, k_122, k_133, k_144, k_145, k_153, k_193, k_203, k_211, k_227, k_255, k_256, k_280, k_300, k_313, k_371, k_433, k_705, k_997, k_999, k_1000, k_4176, k_4547, k_9999, k_10000, k_30557, k_99999, k_1000000, k_1000000000, nI_add, pk_mul, w_sub, w_rem, w_div, w_dv, w_rm, nI_leI, nI_ltI, nI_eq, w_em, w_me, w_lm, w_ml, w_lem, w_mle, Option.bind_some, Option.some.injEq, xI_n, yI_n, xL_n, yL_n, xP_n, xG_n, I_same, I_row, I_col, L_1, Q_1, R_same, R_row, if_pos, if_neg, ite_self, not_true, not_false, decide_true, decide_false, Nat.add_assoc, true_and, and_true, Nat.zero_add, Nat.add_zero, Nat.mul_zero, Nat.mul_one, Nat.one_mul, eq_self, decide_eq_true, decide_eq_false, Bool.true_eq_false, Bool.false_eq_true, ↓reduceIte, Nat.reduceAdd, Nat.reduceMul, Nat.reduceSub, Nat.reduceDiv, Nat.reduceMod, bb_t, bb_f, hf]
      · simp (disch := omega) only [k_0, k_1, k_2, k_3, k_4, k_5, k_6, k_7, k_8, k_9, k_10, k_11, k_12, k_13, k_16, k_18, k_20, k_21, k_22, k_24, k_25, k_26, k_27, k_28, k_30, k_31, k_32, k_35, k_38, k_39, k_40, k_41, k_42, k_43, k_45, k_48, k_57, k_60, k_61, k_64, k_65, k_72, k_84, k_90, k_97, k_99, k_100, k_101, k_110, k_121, k_122, k_133, k_144, k_145, k_153, k_193, k_203, k_211, k_227, k_255, k_256, k_280, k_300, k_313, k_371, k_433, k_705, k_997, k_999, k_1000, k_4176, k_4547, k_9999, k_10000, k_30557, k_99999, k_1000000, k_1000000000, nI_add, pk_mul, w_sub, w_rem, w_div, w_dv, w_rm, nI_leI, nI_ltI, nI_eq, w_em, w_me, w_lm, w_ml, w_lem, w_mle, Option.bind_some, Option.some.injEq, xI_n, yI_n, xL_n, yL_n, xP_n, xG_n, I_same, I_row, I_col, L_1, Q_1, R_same, R_row, if_pos, if_neg, ite_self, not_true, not_false, decide_true, decide_false, Nat.add_assoc, true_and, and_true, Nat.zero_add, Nat.add_zero, Nat.mul_zero, Nat.mul_one, Nat.one_mul, eq_self, decide_eq_true, decide_eq_false, Bool.true_eq_false, Bool.false_eq_true, ↓reduceIte, Nat.reduceAdd, Nat.reduceMul, Nat.reduceSub, Nat.reduceDiv, Nat.reduceMod, bb_t, bb_f, hf]
    · simp (disch := omega) only [k_0, k_1, k_2, k_3, k_4, k_5, k_6, k_7, k_8, k_9, k_10, k_11, k_12, k_13, k_16, k_18, k_20, k_21, k_22, k_24, k_25, k_26, k_27, k_28, k_30, k_31, k_32, k_35, k_38, k_39, k_40, k_41, k_42, k_43, k_45, k_48, k_57, k_60, k_61, k_64, k_65, k_72, k_84, k_90, k_97, k_99, k_100, k_101, k_110, k_121, k_122, k_133, k_144, k_145, k_153, k_193, k_203, k_211, k_227, k_255, k_256, k_280, k_300, k_313, k_371, k_433, k_705, k_997, k_999, k_1000, k_4176, k_4547, k_9999, k_10000, k_30557, k_99999, k_1000000, k_1000000000, nI_add, pk_mul, w_sub, w_rem, w_div, w_dv, w_rm, nI_leI, nI_ltI, nI_eq, w_em, w_me, w_lm, w_ml, w_lem, w_mle, Option.bind_some, Option.some.injEq, xI_n, yI_n, xL_n, yL_n, xP_n, xG_n, I_same, I_row, I_col, L_1, Q_1, R_same, R_row, if_pos, if_neg, ite_self, not_true, not_false, decide_true, decide_false, Nat.add_assoc, true_and, and_true, Nat.zero_add, Nat.add_zero, Nat.mul_zero, Nat.mul_one, Nat.one_mul, eq_self, decide_eq_true, decide_eq_false, Bool.true_eq_false, Bool.false_eq_true, ↓reduceIte, Nat.reduceAdd, Nat.reduceMul, Nat.reduceSub, Nat.reduceDiv, Nat.reduceMod, bb_t, bb_f, hf]
theorem r_better {x who one other : Nat} {f : Nat → Nat} (hf : ∀ i, i < 25 → σ.1 643 (153 + (x + i)) = nI (f i)) (hx : x ≤ 25) (h9 : ∀ i, f i ≤ 9) (h1 : who < 5) (h2 : one < 5) (h3 : other < 5) : g_X11_isBetter N 642 (nI x) (nI who) (nI one) (nI other) σ = some (pref f who one other) := by
  unfold g_X11_isBetter g_X11_isBetter_0 pref
  have e1 := h9 (who * 5 + one)
  have e2 := h9 (who * 5 + other)
  have e3 : 5 * who = who * 5 := by omega
  have t1 := hf (who * 5 + one) (by omega)
  have t2 := hf (who * 5 + other) (by omega)
  by_cases c1 : f (who * 5 + one) < f (who * 5 + other)
  · have c4 : nI (f (who * 5 + one)) - nI (f (who * 5 + other)) < nI 0 := pk_sneg (by omega) c1
    simp (disch := omega) only [k_0, k_1, k_2, k_3, k_4, k_5, k_6, k_7, k_8, k_9, k_10, k_11, k_12, k_13, k_16, k_18, k_20, k_21, k_22, k_24, k_25, k_26, k_27, k_28, k_30, k_31, k_32, k_35, k_38, k_39, k_40, k_41, k_42, k_43, k_45, k_48, k_57, k_60, k_61, k_64, k_65, k_72, k_84, k_90, k_97, k_99, k_100, k_101, k_110, k_121, k_122, k_133, k_144, k_145, k_153, k_193, k_203, k_211, k_227, k_255, k_256, k_280, k_300, k_313, k_371, k_433, k_705, k_997, k_999, k_1000, k_4176, k_4547, k_9999, k_10000, k_30557, k_99999, k_1000000, k_1000000000, nI_add, pk_mul, w_sub, w_rem, w_div, w_dv, w_rm, nI_leI, nI_ltI, nI_eq, w_em, w_me, w_lm, w_ml, w_lem, w_mle, Option.bind_some, Option.some.injEq, xI_n, yI_n, xL_n, yL_n, xP_n, xG_n, I_same, I_row, I_col, L_1, Q_1, R_same, R_row, if_pos, if_neg, ite_self, not_true, not_false, decide_true, decide_false, Nat.add_assoc, true_and, and_true, Nat.zero_add, Nat.add_zero, Nat.mul_zero, Nat.mul_one, Nat.one_mul, eq_self, decide_eq_true, decide_eq_false, Bool.true_eq_false, Bool.false_eq_true, ↓reduceIte, Nat.reduceAdd, Nat.reduceMul, Nat.reduceSub, Nat.reduceDiv, Nat.reduceMod, bb_t, bb_f, e3, t1, t2, c4]
  · by_cases c2 : f (who * 5 + one) = f (who * 5 + other)
    · by_cases c3 : one < other
      · simp (disch := omega) only [k_0, k_1, k_2, k_3, k_4, k_5, k_6, k_7, k_8, k_9, k_10, k_11, k_12, k_13, k_16, k_18, k_20, k_21, k_22, k_24, k_25, k_26, k_27, k_28, k_30, k_31, k_32, k_35, k_38, k_39, k_40, k_41, k_42, k_43, k_45, k_48, k_57, k_60, k_61, k_64, k_65, k_72, k_84, k_90, k_97, k_99, k_100, k_101, k_110, k_121, k_122, k_133, k_144, k_145, k_153, k_193, k_203, k_211, k_227, k_255, k_256, k_280, k_300, k_313, k_371, k_433, k_705, k_997, k_999, k_1000, k_4176, k_4547, k_9999, k_10000, k_30557, k_99999, k_1000000, k_1000000000, nI_add, pk_mul, w_sub, w_rem, w_div, w_dv, w_rm, nI_leI, nI_ltI, nI_eq, w_em, w_me, w_lm, w_ml, w_lem, w_mle, Option.bind_some, Option.some.injEq, xI_n, yI_n, xL_n, yL_n, xP_n, xG_n, I_same, I_row, I_col, L_1, Q_1, R_same, R_row, if_pos, if_neg, ite_self, not_true, not_false, decide_true, decide_false, Nat.add_assoc, true_and, and_true, Nat.zero_add, Nat.add_zero, Nat.mul_zero, Nat.mul_one, Nat.one_mul, eq_self, decide_eq_true, decide_eq_false, Bool.true_eq_false, Bool.false_eq_true, ↓reduceIte, Nat.reduceAdd, Nat.reduceMul, Nat.reduceSub, Nat.reduceDiv, Nat.reduceMod, bb_t, bb_f, e3, t1, t2, c2, Nat.sub_self]
      · simp (disch := omega) only [k_0, k_1, k_2, k_3, k_4, k_5, k_6, k_7, k_8, k_9, k_10, k_11, k_12, k_13, k_16, k_18, k_20, k_21, k_22, k_24, k_25, k_26, k_27, k_28, k_30, k_31, k_32, k_35, k_38, k_39, k_40, k_41, k_42, k_43, k_45, k_48, k_57, k_60, k_61, k_64, k_65, k_72, k_84, k_90, k_97, k_99, k_100, k_101, k_110, k_121, k_122, k_133, k_144, k_145, k_153, k_193, k_203, k_211, k_227, k_255, k_256, k_280, k_300, k_313, k_371, k_433, k_705, k_997, k_999, k_1000, k_4176, k_4547, k_9999, k_10000, k_30557, k_99999, k_1000000, k_1000000000, nI_add, pk_mul, w_sub, w_rem, w_div, w_dv, w_rm, nI_leI, nI_ltI, nI_eq, w_em, w_me, w_lm, w_ml, w_lem, w_mle, Option.bind_some, Option.some.injEq, xI_n, yI_n, xL_n, yL_n, xP_n, xG_n, I_same, I_row, I_col, L_1, Q_1, R_same, R_row, if_pos, if_neg, ite_self, not_true, not_false, decide_true, decide_false, Nat.add_assoc, true_and, and_true, Nat.zero_add, Nat.add_zero, Nat.mul_zero, Nat.mul_one, Nat.one_mul, eq_self, decide_eq_true, decide_eq_false, Bool.true_eq_false, Bool.false_eq_true, ↓reduceIte, Nat.reduceAdd, Nat.reduceMul, Nat.reduceSub, Nat.reduceDiv, Nat.reduceMod, bb_t, bb_f, e3, t1, t2, c2, Nat.sub_self]
    · simp (disch := omega) only [k_0, k_1, k_2, k_3, k_4, k_5, k_6, k_7, k_8, k_9, k_10, k_11, k_12, k_13, k_16, k_18, k_20, k_21, k_22, k_24, k_25, k_26, k_27, k_28, k_30, k_31, k_32, k_35, k_38, k_39, k_40, k_41, k_42, k_43, k_45, k_48, k_57, k_60, k_61, k_64, k_65, k_72, k_84, k_90, k_97, k_99, k_100, k_101, k_110, k_121, k_122, k_133, k_144, k_145, k_153, k_193, k_203, k_211, k_227, k_255, k_256, k_280, k_300, k_313, k_371, k_433, k_705, k_997, k_999, k_1000, k_4176, k_4547, k_9999, k_10000, k_30557, k_99999, k_1000000, k_1000000000, nI_add, pk_mul, w_sub, w_rem, w_div, w_dv, w_rm, nI_leI, nI_ltI, nI_eq, w_em, w_me, w_lm, w_ml, w_lem, w_mle, Option.bind_some, Option.some.injEq, xI_n, yI_n, xL_n, yL_n, xP_n, xG_n, I_same, I_row, I_col, L_1, Q_1, R_same, R_row, if_pos, if_neg, ite_self, not_true, not_false, decide_true, decide_false, Nat.add_assoc, true_and, and_true, Nat.zero_add, Nat.add_zero, Nat.mul_zero, Nat.mul_one, Nat.one_mul, eq_self, decide_eq_true, decide_eq_false, Bool.true_eq_false, Bool.false_eq_true, ↓reduceIte, Nat.reduceAdd, Nat.reduceMul, Nat.reduceSub, Nat.reduceDiv, Nat.reduceMod, bb_t, bb_f, e3, t1, t2]
theorem q_like0 (hR : RR (σ.1 643) s) (i : Nat) (hi : i < 25) : σ.1 643 (153 + (0 + i)) = nI (s 23 i) := by
  rw [Nat.zero_add]
  exact q_23 hR hi
theorem q_like1 (hR : RR (σ.1 643) s) (i : Nat) (hi : i < 25) : σ.1 643 (153 + (25 + i)) = nI (s 24 i) := by
  rw [← Nat.add_assoc]
  exact q_24 hR hi
theorem b_23 (h : WFs s) : (∀ i, s 23 i ≤ 9) ∧ (∀ i, s 24 i ≤ 9) ∧ (∀ i, s 25 i ≤ 99) := by
  obtain ⟨W, P, h2, h3, h5, h6, r12, z13, r14, z15, r16, z17, r18, z19, z21, r20, r22, r23, r24, r25, pc⟩ := h
  exact ⟨r23, r24, r25⟩
theorem blocks_ok (hC : RC 1 σ s) (hW : WFs s) (hR : RR (σ.1 643) s) (x y : Int32) : OK0 σ (g_X10_blocks N 0 x y) (g_X11_blocks N 642 x y) := by
  rcases argn x (n := 4) (by omega) with h | ⟨k, hk, rfl⟩
  · refine ⟨-1, ?_, ?_⟩
    · unfold g_X10_blocks g_X10_blocks_0
      simp (disch := omega) only [k_0, k_1, k_2, k_3, k_4, k_5, k_6, k_7, k_8, k_9, k_10, k_11, k_12, k_13, k_16, k_18, k_20, k_21, k_22, k_24, k_25, k_26, k_27, k_28, k_30, k_31, k_32, k_35, k_38, k_39, k_40, k_41, k_42, k_43, k_45, k_48, k_57, k_60, k_61, k_64, k_65, k_72, k_84, k_90, k_97, k_99, k_100, k_101, k_110, k_121, k_122, k_133, k_144, k_145, k_153, k_193, k_203, k_211, k_227, k_255, k_256, k_280, k_300, k_313, k_371, k_433, k_705, k_997, k_999, k_1000, k_4176, k_4547, k_9999, k_10000, k_30557, k_99999, k_1000000, k_1000000000, nI_add, pk_mul, w_sub, w_rem, w_div, w_dv, w_rm, nI_leI, nI_ltI, nI_eq, w_em, w_me, w_lm, w_ml, w_lem, w_mle, Option.bind_some, Option.some.injEq, xI_n, yI_n, xL_n, yL_n, xP_n, xG_n, I_same, I_row, I_col, L_1, Q_1, R_same, R_row, if_pos, if_neg, ite_self, not_true, not_false, decide_true, decide_false, Nat.add_assoc, true_and, and_true, Nat.zero_add, Nat.add_zero, Nat.mul_zero, Nat.mul_one, Nat.one_mul, eq_self, decide_eq_true, decide_eq_false, Bool.true_eq_false, Bool.false_eq_true, ↓reduceIte, Nat.reduceAdd, Nat.reduceMul, Nat.reduceSub, Nat.reduceDiv, Nat.reduceMod, bb_t, bb_f, wi10, in_f h]
    · unfold g_X11_blocks g_X11_blocks_0
      simp (disch := omega) only [k_0, k_1, k_2, k_3, k_4, k_5, k_6, k_7, k_8, k_9, k_10, k_11, k_12, k_13, k_16, k_18, k_20, k_21, k_22, k_24, k_25, k_26, k_27, k_28, k_30, k_31, k_32, k_35, k_38, k_39, k_40, k_41, k_42, k_43, k_45, k_48, k_57, k_60, k_61, k_64, k_65, k_72, k_84, k_90, k_97, k_99, k_100, k_101, k_110, k_121, k_122, k_133, k_144, k_145, k_153, k_193, k_203, k_211, k_227, k_255, k_256, k_280, k_300, k_313, k_371, k_433, k_705, k_997, k_999, k_1000, k_4176, k_4547, k_9999, k_10000, k_30557, k_99999, k_1000000, k_1000000000, nI_add, pk_mul, w_sub, w_rem, w_div, w_dv, w_rm, nI_leI, nI_ltI, nI_eq, w_em, w_me, w_lm, w_ml, w_lem, w_mle, Option.bind_some, Option.some.injEq, xI_n, yI_n, xL_n, yL_n, xP_n, xG_n, I_same, I_row, I_col, L_1, Q_1, R_same, R_row, if_pos, if_neg, ite_self, not_true, not_false, decide_true, decide_false, Nat.add_assoc, true_and, and_true, Nat.zero_add, Nat.add_zero, Nat.mul_zero, Nat.mul_one, Nat.one_mul, eq_self, decide_eq_true, decide_eq_false, Bool.true_eq_false, Bool.false_eq_true, ↓reduceIte, Nat.reduceAdd, Nat.reduceMul, Nat.reduceSub, Nat.reduceDiv, Nat.reduceMod, bb_t, bb_f, wi11, in_f h]
  rcases argn y (n := 4) (by omega) with h | ⟨j, hj, rfl⟩
  · refine ⟨-1, ?_, ?_⟩
    · unfold g_X10_blocks g_X10_blocks_0
      simp (disch := omega) only [k_0, k_1, k_2, k_3, k_4, k_5, k_6, k_7, k_8, k_9, k_10, k_11, k_12, k_13, k_16, k_18, k_20, k_21, k_22, k_24, k_25, k_26, k_27, k_28, k_30, k_31, k_32, k_35, k_38, k_39, k_40, k_41, k_42, k_43, k_45, k_48, k_57, k_60, k_61, k_64, k_65, k_72, k_84, k_90, k_97, k_99, k_100, k_101, k_110, k_121, k_122, k_133, k_144, k_145, k_153, k_193, k_203, k_211, k_227, k_255, k_256, k_280, k_300, k_313, k_371, k_433, k_705, k_997, k_999, k_1000, k_4176, k_4547, k_9999, k_10000, k_30557, k_99999, k_1000000, k_1000000000, nI_add, pk_mul, w_sub, w_rem, w_div, w_dv, w_rm, nI_leI, nI_ltI, nI_eq, w_em, w_me, w_lm, w_ml, w_lem, w_mle, Option.bind_some, Option.some.injEq, xI_n, yI_n, xL_n, yL_n, xP_n, xG_n, I_same, I_row, I_col, L_1, Q_1, R_same, R_row, if_pos, if_neg, ite_self, not_true, not_false, decide_true, decide_false, Nat.add_assoc, true_and, and_true, Nat.zero_add, Nat.add_zero, Nat.mul_zero, Nat.mul_one, Nat.one_mul, eq_self, decide_eq_true, decide_eq_false, Bool.true_eq_false, Bool.false_eq_true, ↓reduceIte, Nat.reduceAdd, Nat.reduceMul, Nat.reduceSub, Nat.reduceDiv, Nat.reduceMod, bb_t, bb_f, wi10, in_f h]
    · unfold g_X11_blocks g_X11_blocks_0
      simp (disch := omega) only [k_0, k_1, k_2, k_3, k_4, k_5, k_6, k_7, k_8, k_9, k_10, k_11, k_12, k_13, k_16, k_18, k_20, k_21, k_22, k_24, k_25, k_26, k_27, k_28, k_30, k_31, k_32, k_35, k_38, k_39, k_40, k_41, k_42, k_43, k_45, k_48, k_57, k_60, k_61, k_64, k_65, k_72, k_84, k_90, k_97, k_99, k_100, k_101, k_110, k_121, k_122, k_133, k_144, k_145, k_153, k_193, k_203, k_211, k_227, k_255, k_256, k_280, k_300, k_313, k_371, k_433, k_705, k_997, k_999, k_1000, k_4176, k_4547, k_9999, k_10000, k_30557, k_99999, k_1000000, k_1000000000, nI_add, pk_mul, w_sub, w_rem, w_div, w_dv, w_rm, nI_leI, nI_ltI, nI_eq, w_em, w_me, w_lm, w_ml, w_lem, w_mle, Option.bind_some, Option.some.injEq, xI_n, yI_n, xL_n, yL_n, xP_n, xG_n, I_same, I_row, I_col, L_1, Q_1, R_same, R_row, if_pos, if_neg, ite_self, not_true, not_false, decide_true, decide_false, Nat.add_assoc, true_and, and_true, Nat.zero_add, Nat.add_zero, Nat.mul_zero, Nat.mul_one, Nat.one_mul, eq_self, decide_eq_true, decide_eq_false, Bool.true_eq_false, Bool.false_eq_true, ↓reduceIte, Nat.reduceAdd, Nat.reduceMul, Nat.reduceSub, Nat.reduceDiv, Nat.reduceMod, bb_t, bb_f, wi11, in_f h]
  obtain ⟨t1, t2, -⟩ := b_23 hW
  have p1 := c_pref (N := N) (c_23 hC) t1 (who := k) (one := j) (other := k) (by omega) (by omega) (by omega)
  have p2 := c_pref (N := N) (c_24 hC) t2 (who := j) (one := k) (other := j) (by omega) (by omega) (by omega)
  have p3 := r_better (N := N) (x := 0) (q_like0 hR) (by omega) t1 (who := k) (one := j) (other := k) (by omega) (by omega) (by omega)
  have p4 := r_better (N := N) (x := 25) (q_like1 hR) (by omega) t2 (who := j) (one := k) (other := j) (by omega) (by omega) (by omega)
  refine ⟨if pref (s 23) k j k = true ∧ pref (s 24) j k j = true then nI 1 else nI 0, ?_, ?_⟩
  · unfold g_X10_blocks g_X10_blocks_0 g_X10_blocks_56 g_X10_blocks_57
    cases h1 : pref (s 23) k j k <;> cases h2 : pref (s 24) j k j <;> simp (disch := omega) only [k_0, k_1, k_2, k_3, k_4, k_5, k_6, k_7, k_8, k_9, k_10, k_11, k_12, k_13, k_16, k_18, k_20, k_21, k_22, k_24, k_25, k_26, k_27, k_28, k_30, k_31, k_32, k_35, k_38, k_39, k_40, k_41, k_42, k_43, k_45, k_48, k_57, k_60, k_61, k_64, k_65, k_72, k_84, k_90, k_97, k_99, k_100, k_101, k_110, k_121, k_122, k_133, k_144, k_145, k_153, k_193, k_203, k_211, k_227, k_255, k_256, k_280, k_300, k_313, k_371, k_433, k_705, k_997, k_999, k_1000, k_4176, k_4547, k_9999, k_10000, k_30557, k_99999, k_1000000, k_1000000000, nI_add, pk_mul, w_sub, w_rem, w_div, w_dv, w_rm, nI_leI, nI_ltI, nI_eq, w_em, w_me, w_lm, w_ml, w_lem, w_mle, Option.bind_some, Option.some.injEq, xI_n, yI_n, xL_n, yL_n, xP_n, xG_n, I_same, I_row, I_col, L_1, Q_1, R_same, R_row, if_pos, if_neg, ite_self, not_true, not_false, decide_true, decide_false, Nat.add_assoc, true_and, and_true, Nat.zero_add, Nat.add_zero, Nat.mul_zero, Nat.mul_one, Nat.one_mul, eq_self, decide_eq_true, decide_eq_false, Bool.true_eq_false, Bool.false_eq_true, ↓reduceIte, Nat.reduceAdd, Nat.reduceMul, Nat.reduceSub, Nat.reduceDiv, Nat.reduceMod, bb_t, bb_f, wi10, p1, p2, h1, h2, false_and, and_false]
  · unfold g_X11_blocks g_X11_blocks_0
    cases h1 : pref (s 23) k j k <;> cases h2 : pref (s 24) j k j <;> simp (disch := omega) only [k_0, k_1, k_2, k_3, k_4, k_5, k_6, k_7, k_8, k_9, k_10, k_11, k_12, k_13, k_16, k_18, k_20, k_21, k_22, k_24, k_25, k_26, k_27, k_28, k_30, k_31, k_32, k_35, k_38, k_39, k_40, k_41, k_42, k_43, k_45, k_48, k_57, k_60, k_61, k_64, k_65, k_72, k_84, k_90, k_97, k_99, k_100, k_101, k_110, k_121, k_122, k_133, k_144, k_145, k_153, k_193, k_203, k_211, k_227, k_255, k_256, k_280, k_300, k_313, k_371, k_433, k_705, k_997, k_999, k_1000, k_4176, k_4547, k_9999, k_10000, k_30557, k_99999, k_1000000, k_1000000000, nI_add, pk_mul, w_sub, w_rem, w_div, w_dv, w_rm, nI_leI, nI_ltI, nI_eq, w_em, w_me, w_lm, w_ml, w_lem, w_mle, Option.bind_some, Option.some.injEq, xI_n, yI_n, xL_n, yL_n, xP_n, xG_n, I_same, I_row, I_col, L_1, Q_1, R_same, R_row, if_pos, if_neg, ite_self, not_true, not_false, decide_true, decide_false, Nat.add_assoc, true_and, and_true, Nat.zero_add, Nat.add_zero, Nat.mul_zero, Nat.mul_one, Nat.one_mul, eq_self, decide_eq_true, decide_eq_false, Bool.true_eq_false, Bool.false_eq_true, ↓reduceIte, Nat.reduceAdd, Nat.reduceMul, Nat.reduceSub, Nat.reduceDiv, Nat.reduceMod, bb_t, bb_f, wi11, p3, p4, h1, h2, false_and, and_false]
theorem argm {x : Int32} {t : Nat} (ht : t < 1000) (h : -nI 1 ≤ x ∧ x ≤ nI t - nI 1) : ∃ k, k ≤ t ∧ x = nI k - nI 1 := by
  have h1 := Int32.le_iff_toInt_le.mp h.1
  have h2 := Int32.le_iff_toInt_le.mp h.2
  rw [w_neg (by omega)] at h1
  rw [pk_sub_toInt (by omega) (by omega)] at h2
  refine ⟨(x.toInt + 1).toNat, by omega, ?_⟩
  apply Int32.toInt_inj.mp
  rw [pk_sub_toInt (by omega) (by omega)]
  omega
theorem wf_06 (h : WFs s) {v : Nat} (hv : v ≤ s 0 5) : WFs (us s 0 6 v) := by
  obtain ⟨W, P, h2, h3, h5, h6, r12, z13, r14, z15, r16, z17, r18, z19, z21, r20, r22, r23, r24, r25, pc⟩ := h
  refine ⟨WFw_c (fun c j hc => us_row (by omega)) W, fun p hp => WFw_c (fun c j hc => us_row (by omega)) (P p hp), ?_, ?_, ?_, ?_, ?_, ?_, ?_, ?_, ?_, ?_, ?_, ?_, ?_, ?_, ?_, ?_, ?_, ?_, ?_⟩
  · rw [us_col (by omega)]; exact h2
  · rw [us_col (by omega)]; exact h3
  · rw [us_col (by omega)]; exact h5
  · rw [us_same rfl rfl, us_col (by omega)]; exact hv
  · intro j; rw [us_row (by omega)]; exact r12 j
  · rw [us_row (by omega)]; exact z13
  · intro j; rw [us_row (by omega)]; exact r14 j
  · rw [us_row (by omega)]; exact z15
  · intro j; rw [us_row (by omega)]; exact r16 j
  · rw [us_row (by omega)]; exact z17
  · intro j; rw [us_row (by omega)]; exact r18 j
  · rw [us_row (by omega)]; exact z19
  · rw [us_row (by omega), us_row (by omega)]; exact z21
  · intro j hj; rw [us_row (by omega)] at hj; rw [us_row (by omega), us_row (by omega)]; exact r20 j hj
  · intro j; rw [us_row (by omega)]; exact r22 j
  · intro j; rw [us_row (by omega)]; exact r23 j
  · intro j; rw [us_row (by omega)]; exact r24 j
  · intro j; rw [us_row (by omega)]; exact r25 j
  · intro j hj
    rw [us_col (by omega)] at hj
    rw [past_c (s := s) (fun c i hc => us_row (by omega)) (us_col (by omega)), us_row (by omega)]
    exact pc j hj
theorem by_ok (hC : RC 1 σ s) (hW : WFs s) (hR : RR (σ.1 643) s) (x : Int32) : OK1 σ s (g_X10_by N 0 x) (g_X11_by N 642 x) := by
  have h5 : s 0 5 ≤ 4 := hW.2.2.2.2.1
  by_cases h : -nI 1 ≤ x ∧ x ≤ nI (s 0 5) - nI 1
  · obtain ⟨k, hk, e⟩ := argm (by omega) h
    have hd := decide_eq_true h
    have hF : FC σ (setI σ 1 6 x) := FC.rfl.set (by omega)
    refine ⟨true, us s 0 6 k, setI σ 1 6 x, setI (setI σ 1 6 x) 643 2 x, ?_, ?_, ?_, hF, wf_06 hW hk, ?_, FR.rfl.set (by omega), us_col (by omega)⟩
    · unfold g_X10_by g_X10_by_0
      simp only [k_1, Nat.zero_add, c_0_5 hC, wi10, hd, Option.bind_some, if_pos]
    · unfold g_X11_by g_X11_by_0
      have e0 : (setI σ 1 6 x).1 643 1 = nI (s 0 5) := by rw [I_row (by omega)]; exact r_1 hR
      have e1 : xI 4607 (setI σ 1 6 x) 643 (nI 1) = some (nI (s 0 5)) := by rw [xI_n (by omega) (by omega), e0]
      have e2 : yI 4607 (setI σ 1 6 x) 643 (nI 2) x = some (setI (setI σ 1 6 x) 643 2 x) := yI_n (by omega) (by omega)
      simp only [k_1, k_2, Nat.reduceAdd, wi11, e1, e2, hd, Option.bind_some, if_pos]
    · refine ⟨fun c j hc hj => ?_, ?_⟩
      · show (if 1 + c = 1 ∧ j = 6 then x else σ.1 (1 + c) j) = nI (if c = 0 ∧ j = 6 then k else s c j)
        rw [if_neg (by omega), if_neg hj]
        exact hC.1 c j hc hj
      · rw [I_same rfl rfl, us_same rfl rfl]
        exact e
    · have hR2 := hR.fc hF
      obtain ⟨sc, ma, r12, r14, r16, r18, r23, r24, r25, rd, st, bk⟩ := hR2
      obtain ⟨a0, a1, a2, a3, a4, a5, a6, a7, a8, a9, a10⟩ := sc
      refine ⟨⟨?_, ?_, ?_, ?_, ?_, ?_, ?_, ?_, ?_, ?_, ?_⟩, Rma_c (fun j _ _ => A_ne (by omega)) (fun c j _ => us_row (by omega)) hW.1 ma, Rro_c (fun j _ _ => A_ne (by omega)) (fun j _ => us_row (by omega)) r12, Rro_c (fun j _ _ => A_ne (by omega)) (fun j _ => us_row (by omega)) r14, Rro_c (fun j _ _ => A_ne (by omega)) (fun j _ => us_row (by omega)) r16, Rro_c (fun j _ _ => A_ne (by omega)) (fun j _ => us_row (by omega)) r18, Rro_c (fun j _ _ => A_ne (by omega)) (fun j _ => us_row (by omega)) r23, Rro_c (fun j _ _ => A_ne (by omega)) (fun j _ => us_row (by omega)) r24, Rro_c (fun j _ _ => A_ne (by omega)) (fun j _ => us_row (by omega)) r25, Rrd_c (fun j _ _ => A_ne (by omega)) (fun j => us_row (by omega)) (fun j => us_row (by omega)) rd, Rst_c (fun j _ _ => A_ne (by omega)) (fun c j _ => us_row (by omega)) (us_col (by omega)) (us_col (by omega)) hW st, Rbk_c (fun j _ => A_ne (by omega)) (fun c j _ => us_row (by omega)) hW.1.2.2.2.1 bk⟩
      · rw [A_ne (by omega), us_row (by omega)]; exact a0
      · rw [A_ne (by omega), us_col (by omega)]; exact a1
      · rw [A_set, if_pos rfl, us_same rfl rfl]; exact e
      · rw [A_ne (by omega), us_col (by omega)]; exact a3
      · rw [A_ne (by omega), us_row (by omega)]; exact a4
      · rw [A_ne (by omega), us_row (by omega)]; exact a5
      · rw [A_ne (by omega), us_row (by omega)]; exact a6
      · rw [A_ne (by omega), us_row (by omega)]; exact a7
      · rw [A_ne (by omega), us_row (by omega)]; exact a8
      · rw [A_ne (by omega), us_row (by omega)]; exact a9
      · rw [A_ne (by omega), us_row (by omega)]; exact a10
  · have hd := decide_eq_false h
    refine same0 (r := false) hC hW hR ?_ ?_
    · unfold g_X10_by g_X10_by_0
      simp only [k_1, Nat.zero_add, c_0_5 hC, wi10, hd, Option.bind_some, Bool.false_eq_true, ↓reduceIte]
    · unfold g_X11_by g_X11_by_0
      have e1 : xI 4607 σ 643 (nI 1) = some (nI (s 0 5)) := by rw [xI_n (by omega) (by omega), r_1 hR]
      simp only [k_1, Nat.reduceAdd, wi11, e1, hd, Option.bind_some, Bool.false_eq_true, ↓reduceIte]
end MAC
