/-! stock: the class's plan -/
def SJ (σ τ0 : ST) (n : Nat) (τ : ST) : Prop := SC σ τ ∧ ∀ r j, r = 630 ∨ r = 631 ∨ r = 632 → j ≠ n → τ.1 r j = τ0.1 r j
def SK (τ : ST) (n c A u : Nat) : Prop := τ.1 630 n = nI c ∧ τ.1 631 n = nI A ∧ τ.1 632 n = nI u
section STK
variable {N : Mem} {σ τ τ0 υ υ0 : ST} {s : SS} {on ke : Nat} {L V U : Nat → Nat}
theorem SJ.take {n c A u : Nat} (h : SJ σ τ0 n τ) : SJ σ τ0 n (setI (setI (setI τ 630 n (nI c)) 631 n (nI A)) 632 n (nI u)) ∧ SK (setI (setI (setI τ 630 n (nI c)) 631 n (nI A)) 632 n (nI u)) n c A u := by
  refine ⟨⟨((h.1.set (by omega)).set (by omega)).set (by omega), fun r j hr hj => ?_⟩, ?_, ?_, ?_⟩
  · rw [I_col hj, I_col hj, I_col hj]
    exact h.2 r j hr hj
  · rw [I_row (by omega), I_row (by omega), I_same rfl rfl]
  · rw [I_row (by omega), I_same rfl rfl]
  · rw [I_same rfl rfl]
theorem st_a (hC : RC 1 τ s) (hW : WFs s) {n k q : Nat} (hn : n ≤ k) (hk : k < 8) (hon : on ≤ 999) (hke : ke ≤ 99) (K : Nat → Nat → Nat → Int32 → Int32 → Int32 → ST → Option ST) : g_X5_plan_27 N (q + 1) K 629 8 26 (nI on) (nI ke) (nI n) (nI (am (s 25) n k)) (nI (kp (s 25) n k * ke)) (nI k) τ = g_X5_plan_70 N K (g_X5_plan_27 N q K) 629 8 26 (nI on) (nI ke) (nI n) (nI (am (s 25) n (k + 1))) (nI (kp (s 25) n (k + 1) * ke)) (nI k) (nI (if 0 < am (s 25) n (k + 1) then on else 0)) τ := by
  obtain ⟨-, -, b25⟩ := b_23 hW
  have e1 : am (s 25) n k + s 25 k = am (s 25) n (k + 1) := (am_s hn).symm
  have e2 : kp (s 25) n k * ke + s 25 k * (k - n) * ke = kp (s 25) n (k + 1) * ke := by rw [kp_s hn, Nat.add_mul]
  have b1 := am_b b25 n (k + 1)
  rw [g_X5_plan_27]
  by_cases c : 0 < am (s 25) n (k + 1)
  · rw [if_pos c]
    simp (disch := omega) only [k_0, k_1, k_2, k_3, k_4, k_5, k_6, k_7, k_8, k_9, k_10, k_11, k_12, k_13, k_14, k_15, k_16, k_17, k_18, k_19, k_20, k_21, k_22, k_23, k_24, k_25, k_26, k_27, k_28, k_29, k_30, k_31, k_32, k_33, k_34, k_35, k_36, k_37, k_38, k_39, k_40, k_41, k_42, k_43, k_44, k_45, k_46, k_47, k_48, k_49, k_50, k_51, k_52, k_53, k_54, k_55, k_56, k_57, k_58, k_59, k_60, k_61, k_62, k_63, k_64, k_65, k_66, k_67, k_68, k_69, k_70, k_71, k_72, k_73, k_74, k_75, k_76, k_77, k_78, k_79, k_80, k_81, k_82, k_83, k_84, k_85, k_86, k_87, k_88, k_89, k_90, k_91, k_92, k_93, k_94, k_95, k_96, k_97, k_98, k_99, k_100, k_101, k_102, k_103, k_104, k_105, k_106, k_107, k_108, k_109, k_110, k_111, k_112, k_113, k_114, k_115, k_116, k_117, k_118, k_119, k_120, k_121, k_122, k_123, k_124, k_125, k_126, k_127, k_128, k_129, k_130, k_133, k_144, k_145, k_153, k_193, k_203, k_211, k_227, k_255, k_256, k_280, k_300, k_313, k_371, k_433, k_705, k_997, k_999, k_1000, k_4176, k_4547, k_9999, k_10000, k_30557, k_99999, k_1000000, k_1000000000, nI_add, pk_mul, w_sub, w_rem, w_div, w_dv, w_rm, nI_leI, nI_ltI, nI_eq, w_em, w_me, w_lm, w_ml, w_lem, w_mle, bnd, Option.some.injEq, xI_n, yI_n, xL_n, yL_n, xP_n, xG_n, I_same, I_row, I_col, L_1, Q_1, R_same, R_row, if_pos, if_neg, ite_self, not_true, not_false, decide_true, decide_false, Nat.add_assoc, true_and, and_true, Nat.zero_add, Nat.add_zero, Nat.mul_zero, Nat.mul_one, Nat.one_mul, eq_self, decide_eq_true, decide_eq_false, Bool.true_eq_false, Bool.false_eq_true, ↓reduceIte, Nat.reduceAdd, Nat.reduceMul, Nat.reduceSub, Nat.reduceDiv, Nat.reduceMod, bb_t, bb_f, c_25 hC, e1, e2]
  · rw [if_neg c]
    simp (disch := omega) only [k_0, k_1, k_2, k_3, k_4, k_5, k_6, k_7, k_8, k_9, k_10, k_11, k_12, k_13, k_14, k_15, k_16, k_17, k_18, k_19, k_20, k_21, k_22, k_23, k_24, k_25, k_26, k_27, k_28, k_29, k_30, k_31, k_32, k_33, k_34, k_35, k_36, k_37, k_38, k_39, k_40, k_41, k_42, k_43, k_44, k_45, k_46, k_47, k_48, k_49, k_50, k_51, k_52, k_53, k_54, k_55, k_56, k_57, k_58, k_59, k_60, k_61, k_62, k_63, k_64, k_65, k_66, k_67, k_68, k_69, k_70, k_71, k_72, k_73, k_74, k_75, k_76, k_77, k_78, k_79, k_80, k_81, k_82, k_83, k_84, k_85, k_86, k_87, k_88, k_89, k_90, k_91, k_92, k_93, k_94, k_95, k_96, k_97, k_98, k_99, k_100, k_101, k_102, k_103, k_104, k_105, k_106, k_107, k_108, k_109, k_110, k_111, k_112, k_113, k_114, k_115, k_116, k_117, k_118, k_119, k_120, k_121, k_122, k_123, k_124, k_125, k_126, k_127, k_128, k_129, k_130, k_133, k_144, k_145, k_153, k_193, k_203, k_211, k_227, k_255, k_256, k_280, k_300, k_313, k_371, k_433, k_705, k_997, k_999, k_1000, k_4176, k_4547, k_9999, k_10000, k_30557, k_99999, k_1000000, k_1000000000, nI_add, pk_mul, w_sub, w_rem, w_div, w_dv, w_rm, nI_leI, nI_ltI, nI_eq, w_em, w_me, w_lm, w_ml, w_lem, w_mle, bnd, Option.some.injEq, xI_n, yI_n, xL_n, yL_n, xP_n, xG_n, I_same, I_row, I_col, L_1, Q_1, R_same, R_row, if_pos, if_neg, ite_self, not_true, not_false, decide_true, decide_false, Nat.add_assoc, true_and, and_true, Nat.zero_add, Nat.add_zero, Nat.mul_zero, Nat.mul_one, Nat.one_mul, eq_self, decide_eq_true, decide_eq_false, Bool.true_eq_false, Bool.false_eq_true, ↓reduceIte, Nat.reduceAdd, Nat.reduceMul, Nat.reduceSub, Nat.reduceDiv, Nat.reduceMod, bb_t, bb_f, c_25 hC, e1, e2]
theorem st_i (hC : RC 1 σ s) (hW : WFs s) {n : Nat} (hn : n < 8) (hon : on ≤ 999) (hke : ke ≤ 99) (K : Nat → Nat → Nat → Int32 → Int32 → Int32 → ST → Option ST) (hL : ∀ j, n < j → j ≤ 8 → τ0.1 630 j = nI (L j) ∧ L j ≤ 4800000) (h8 : V 8 = 0) (hD : ∀ j, n < j → j < 8 → DPn (s 25) on ke L V U j) : ∀ d k q τ u, k + d = 8 → d < q → n < u → u ≤ k → SJ σ τ0 n τ → SK τ n (cst (s 25) on ke n u + L u) (am (s 25) n u) u → (∀ j, n < j → j ≤ k → Sg (s 25) on ke n u + ky L V u ≤ Sg (s 25) on ke n j + ky L V j) → ∃ u' τ', g_X5_plan_27 N q K 629 8 26 (nI on) (nI ke) (nI n) (nI (am (s 25) n k)) (nI (kp (s 25) n k * ke)) (nI k) τ = K 629 8 26 (nI on) (nI ke) (nI n - nI 1) τ' ∧ n < u' ∧ u' ≤ 8 ∧ SJ σ τ0 n τ' ∧ SK τ' n (cst (s 25) on ke n u' + L u') (am (s 25) n u') u' ∧ (∀ j, n < j → j ≤ 8 → Sg (s 25) on ke n u' + ky L V u' ≤ Sg (s 25) on ke n j + ky L V j) := by
  obtain ⟨-, -, b25⟩ := b_23 hW
  intro d
  induction d with
  | zero =>
    intro k q τ u hk hq hnu huk hJ hS hO
    obtain ⟨q, rfl⟩ : ∃ m, q = m + 1 := ⟨q - 1, by omega⟩
    obtain rfl : k = 8 := by omega
    refine ⟨u, τ, ?_, hnu, huk, hJ, hS, hO⟩
    rw [g_X5_plan_27]
    simp (disch := omega) only [k_0, k_1, k_2, k_3, k_4, k_5, k_6, k_7, k_8, k_9, k_10, k_11, k_12, k_13, k_14, k_15, k_16, k_17, k_18, k_19, k_20, k_21, k_22, k_23, k_24, k_25, k_26, k_27, k_28, k_29, k_30, k_31, k_32, k_33, k_34, k_35, k_36, k_37, k_38, k_39, k_40, k_41, k_42, k_43, k_44, k_45, k_46, k_47, k_48, k_49, k_50, k_51, k_52, k_53, k_54, k_55, k_56, k_57, k_58, k_59, k_60, k_61, k_62, k_63, k_64, k_65, k_66, k_67, k_68, k_69, k_70, k_71, k_72, k_73, k_74, k_75, k_76, k_77, k_78, k_79, k_80, k_81, k_82, k_83, k_84, k_85, k_86, k_87, k_88, k_89, k_90, k_91, k_92, k_93, k_94, k_95, k_96, k_97, k_98, k_99, k_100, k_101, k_102, k_103, k_104, k_105, k_106, k_107, k_108, k_109, k_110, k_111, k_112, k_113, k_114, k_115, k_116, k_117, k_118, k_119, k_120, k_121, k_122, k_123, k_124, k_125, k_126, k_127, k_128, k_129, k_130, k_133, k_144, k_145, k_153, k_193, k_203, k_211, k_227, k_255, k_256, k_280, k_300, k_313, k_371, k_433, k_705, k_997, k_999, k_1000, k_4176, k_4547, k_9999, k_10000, k_30557, k_99999, k_1000000, k_1000000000, nI_add, pk_mul, w_sub, w_rem, w_div, w_dv, w_rm, nI_leI, nI_ltI, nI_eq, w_em, w_me, w_lm, w_ml, w_lem, w_mle, bnd, Option.some.injEq, xI_n, yI_n, xL_n, yL_n, xP_n, xG_n, I_same, I_row, I_col, L_1, Q_1, R_same, R_row, if_pos, if_neg, ite_self, not_true, not_false, decide_true, decide_false, Nat.add_assoc, true_and, and_true, Nat.zero_add, Nat.add_zero, Nat.mul_zero, Nat.mul_one, Nat.one_mul, eq_self, decide_eq_true, decide_eq_false, Bool.true_eq_false, Bool.false_eq_true, ↓reduceIte, Nat.reduceAdd, Nat.reduceMul, Nat.reduceSub, Nat.reduceDiv, Nat.reduceMod, bb_t, bb_f, w_m1']
  | succ d ih =>
    intro k q τ u hk hq hnu huk hJ hS hO
    obtain ⟨q, rfl⟩ : ∃ m, q = m + 1 := ⟨q - 1, by omega⟩
    have hCt := hJ.1.rc hC
    rw [st_a hCt hW (by omega) (by omega) hon hke]
    have cb := cst_b (on := on) (ke := ke) b25 hon hke (n := n) (k := k + 1) (by omega)
    have cb0 := cst_b (on := on) (ke := ke) b25 hon hke (n := n) (k := u) (by omega)
    have e3 : (if 0 < am (s 25) n (k + 1) then on else 0) + kp (s 25) n (k + 1) * ke = cst (s 25) on ke n (k + 1) := rfl
    generalize (if 0 < am (s 25) n (k + 1) then on else 0) = X at e3 ⊢
    obtain ⟨l1, l2⟩ := hL (k + 1) (by omega) (by omega)
    have l1' : τ.1 630 (k + 1) = nI (L (k + 1)) := (hJ.2 630 (k + 1) (Or.inl rfl) (by omega)).trans l1
    obtain ⟨l3, l4⟩ := hL u (by omega) (by omega)
    obtain ⟨s1, s2, s3⟩ := hS
    have b1 := am_b b25 n (k + 1)
    have b2 := am_b b25 n u
    have mo := am_add (a := s 25) (n := n) (u := u) (by omega) (k + 1) (by omega)
    unfold g_X5_plan_70 g_X5_plan_104 g_X5_plan_109 g_X5_plan_140
    by_cases c1 : cst (s 25) on ke n u + L u ≤ cst (s 25) on ke n (k + 1) + L (k + 1)
    · by_cases c2 : cst (s 25) on ke n (k + 1) + L (k + 1) = cst (s 25) on ke n u + L u
      · by_cases c3 : am (s 25) n (k + 1) ≤ am (s 25) n u
        · obtain ⟨u', τ', r1, r2⟩ := ih (k + 1) q τ u (by omega) (by omega) hnu (by omega) hJ ⟨s1, s2, s3⟩ (fun j h1 h2 => by
            by_cases e : j = k + 1
            · rw [e]
              exact ch3 hnu (by omega) (by omega) hD c3
            · exact hO j h1 (by omega))
          refine ⟨u', τ', ?_, r2⟩
          simp (disch := omega) only [k_0, k_1, k_2, k_3, k_4, k_5, k_6, k_7, k_8, k_9, k_10, k_11, k_12, k_13, k_14, k_15, k_16, k_17, k_18, k_19, k_20, k_21, k_22, k_23, k_24, k_25, k_26, k_27, k_28, k_29, k_30, k_31, k_32, k_33, k_34, k_35, k_36, k_37, k_38, k_39, k_40, k_41, k_42, k_43, k_44, k_45, k_46, k_47, k_48, k_49, k_50, k_51, k_52, k_53, k_54, k_55, k_56, k_57, k_58, k_59, k_60, k_61, k_62, k_63, k_64, k_65, k_66, k_67, k_68, k_69, k_70, k_71, k_72, k_73, k_74, k_75, k_76, k_77, k_78, k_79, k_80, k_81, k_82, k_83, k_84, k_85, k_86, k_87, k_88, k_89, k_90, k_91, k_92, k_93, k_94, k_95, k_96, k_97, k_98, k_99, k_100, k_101, k_102, k_103, k_104, k_105, k_106, k_107, k_108, k_109, k_110, k_111, k_112, k_113, k_114, k_115, k_116, k_117, k_118, k_119, k_120, k_121, k_122, k_123, k_124, k_125, k_126, k_127, k_128, k_129, k_130, k_133, k_144, k_145, k_153, k_193, k_203, k_211, k_227, k_255, k_256, k_280, k_300, k_313, k_371, k_433, k_705, k_997, k_999, k_1000, k_4176, k_4547, k_9999, k_10000, k_30557, k_99999, k_1000000, k_1000000000, nI_add, pk_mul, w_sub, w_rem, w_div, w_dv, w_rm, nI_leI, nI_ltI, nI_eq, w_em, w_me, w_lm, w_ml, w_lem, w_mle, bnd, Option.some.injEq, xI_n, yI_n, xL_n, yL_n, xP_n, xG_n, I_same, I_row, I_col, L_1, Q_1, R_same, R_row, if_pos, if_neg, ite_self, not_true, not_false, decide_true, decide_false, Nat.add_assoc, true_and, and_true, Nat.zero_add, Nat.add_zero, Nat.mul_zero, Nat.mul_one, Nat.one_mul, eq_self, decide_eq_true, decide_eq_false, Bool.true_eq_false, Bool.false_eq_true, ↓reduceIte, Nat.reduceAdd, Nat.reduceMul, Nat.reduceSub, Nat.reduceDiv, Nat.reduceMod, bb_t, bb_f, l1', e3, s1, s2, c2]
          exact r1
        · obtain ⟨t1, t2⟩ := hJ.take (c := cst (s 25) on ke n (k + 1) + L (k + 1)) (A := am (s 25) n (k + 1)) (u := k + 1)
          obtain ⟨u', τ', r1, r2⟩ := ih (k + 1) q _ (k + 1) (by omega) (by omega) (by omega) (by omega) t1 t2 (fun j h1 h2 => by
            by_cases e : j = k + 1
            · rw [e]
              exact Int.le_refl _
            · exact Int.le_trans (ch2 b25 h8 (by omega) (by omega) hnu (by omega) hD c2 (by omega)) (hO j h1 (by omega)))
          refine ⟨u', τ', ?_, r2⟩
          rw [c2] at r1
          simp (disch := omega) only [k_0, k_1, k_2, k_3, k_4, k_5, k_6, k_7, k_8, k_9, k_10, k_11, k_12, k_13, k_14, k_15, k_16, k_17, k_18, k_19, k_20, k_21, k_22, k_23, k_24, k_25, k_26, k_27, k_28, k_29, k_30, k_31, k_32, k_33, k_34, k_35, k_36, k_37, k_38, k_39, k_40, k_41, k_42, k_43, k_44, k_45, k_46, k_47, k_48, k_49, k_50, k_51, k_52, k_53, k_54, k_55, k_56, k_57, k_58, k_59, k_60, k_61, k_62, k_63, k_64, k_65, k_66, k_67, k_68, k_69, k_70, k_71, k_72, k_73, k_74, k_75, k_76, k_77, k_78, k_79, k_80, k_81, k_82, k_83, k_84, k_85, k_86, k_87, k_88, k_89, k_90, k_91, k_92, k_93, k_94, k_95, k_96, k_97, k_98, k_99, k_100, k_101, k_102, k_103, k_104, k_105, k_106, k_107, k_108, k_109, k_110, k_111, k_112, k_113, k_114, k_115, k_116, k_117, k_118, k_119, k_120, k_121, k_122, k_123, k_124, k_125, k_126, k_127, k_128, k_129, k_130, k_133, k_144, k_145, k_153, k_193, k_203, k_211, k_227, k_255, k_256, k_280, k_300, k_313, k_371, k_433, k_705, k_997, k_999, k_1000, k_4176, k_4547, k_9999, k_10000, k_30557, k_99999, k_1000000, k_1000000000, nI_add, pk_mul, w_sub, w_rem, w_div, w_dv, w_rm, nI_leI, nI_ltI, nI_eq, w_em, w_me, w_lm, w_ml, w_lem, w_mle, bnd, Option.some.injEq, xI_n, yI_n, xL_n, yL_n, xP_n, xG_n, I_same, I_row, I_col, L_1, Q_1, R_same, R_row, if_pos, if_neg, ite_self, not_true, not_false, decide_true, decide_false, Nat.add_assoc, true_and, and_true, Nat.zero_add, Nat.add_zero, Nat.mul_zero, Nat.mul_one, Nat.one_mul, eq_self, decide_eq_true, decide_eq_false, Bool.true_eq_false, Bool.false_eq_true, ↓reduceIte, Nat.reduceAdd, Nat.reduceMul, Nat.reduceSub, Nat.reduceDiv, Nat.reduceMod, bb_t, bb_f, l1', e3, s1, s2, c2]
          exact r1
      · obtain ⟨u', τ', r1, r2⟩ := ih (k + 1) q τ u (by omega) (by omega) hnu (by omega) hJ ⟨s1, s2, s3⟩ (fun j h1 h2 => by
          by_cases e : j = k + 1
          · rw [e]
            exact ch1 b25 h8 hnu (by omega) (by omega) (by omega) hD (by omega)
          · exact hO j h1 (by omega))
        refine ⟨u', τ', ?_, r2⟩
        simp (disch := omega) only [k_0, k_1, k_2, k_3, k_4, k_5, k_6, k_7, k_8, k_9, k_10, k_11, k_12, k_13, k_14, k_15, k_16, k_17, k_18, k_19, k_20, k_21, k_22, k_23, k_24, k_25, k_26, k_27, k_28, k_29, k_30, k_31, k_32, k_33, k_34, k_35, k_36, k_37, k_38, k_39, k_40, k_41, k_42, k_43, k_44, k_45, k_46, k_47, k_48, k_49, k_50, k_51, k_52, k_53, k_54, k_55, k_56, k_57, k_58, k_59, k_60, k_61, k_62, k_63, k_64, k_65, k_66, k_67, k_68, k_69, k_70, k_71, k_72, k_73, k_74, k_75, k_76, k_77, k_78, k_79, k_80, k_81, k_82, k_83, k_84, k_85, k_86, k_87, k_88, k_89, k_90, k_91, k_92, k_93, k_94, k_95, k_96, k_97, k_98, k_99, k_100, k_101, k_102, k_103, k_104, k_105, k_106, k_107, k_108, k_109, k_110, k_111, k_112, k_113, k_114, k_115, k_116, k_117, k_118, k_119, k_120, k_121, k_122, k_123, k_124, k_125, k_126, k_127, k_128, k_129, k_130, k_133, k_144, k_145, k_153, k_193, k_203, k_211, k_227, k_255, k_256, k_280, k_300, k_313, k_371, k_433, k_705, k_997, k_999, k_1000, k_4176, k_4547, k_9999, k_10000, k_30557, k_99999, k_1000000, k_1000000000, nI_add, pk_mul, w_sub, w_rem, w_div, w_dv, w_rm, nI_leI, nI_ltI, nI_eq, w_em, w_me, w_lm, w_ml, w_lem, w_mle, bnd, Option.some.injEq, xI_n, yI_n, xL_n, yL_n, xP_n, xG_n, I_same, I_row, I_col, L_1, Q_1, R_same, R_row, if_pos, if_neg, ite_self, not_true, not_false, decide_true, decide_false, Nat.add_assoc, true_and, and_true, Nat.zero_add, Nat.add_zero, Nat.mul_zero, Nat.mul_one, Nat.one_mul, eq_self, decide_eq_true, decide_eq_false, Bool.true_eq_false, Bool.false_eq_true, ↓reduceIte, Nat.reduceAdd, Nat.reduceMul, Nat.reduceSub, Nat.reduceDiv, Nat.reduceMod, bb_t, bb_f, l1', e3, s1, s2]
        exact r1
    · obtain ⟨t1, t2⟩ := hJ.take (c := cst (s 25) on ke n (k + 1) + L (k + 1)) (A := am (s 25) n (k + 1)) (u := k + 1)
      obtain ⟨u', τ', r1, r2⟩ := ih (k + 1) q _ (k + 1) (by omega) (by omega) (by omega) (by omega) t1 t2 (fun j h1 h2 => by
        by_cases e : j = k + 1
        · rw [e]
          exact Int.le_refl _
        · exact Int.le_trans (ch1 b25 h8 (by omega) (by omega) hnu (by omega) hD (by omega)) (hO j h1 (by omega)))
      refine ⟨u', τ', ?_, r2⟩
      simp (disch := omega) only [k_0, k_1, k_2, k_3, k_4, k_5, k_6, k_7, k_8, k_9, k_10, k_11, k_12, k_13, k_14, k_15, k_16, k_17, k_18, k_19, k_20, k_21, k_22, k_23, k_24, k_25, k_26, k_27, k_28, k_29, k_30, k_31, k_32, k_33, k_34, k_35, k_36, k_37, k_38, k_39, k_40, k_41, k_42, k_43, k_44, k_45, k_46, k_47, k_48, k_49, k_50, k_51, k_52, k_53, k_54, k_55, k_56, k_57, k_58, k_59, k_60, k_61, k_62, k_63, k_64, k_65, k_66, k_67, k_68, k_69, k_70, k_71, k_72, k_73, k_74, k_75, k_76, k_77, k_78, k_79, k_80, k_81, k_82, k_83, k_84, k_85, k_86, k_87, k_88, k_89, k_90, k_91, k_92, k_93, k_94, k_95, k_96, k_97, k_98, k_99, k_100, k_101, k_102, k_103, k_104, k_105, k_106, k_107, k_108, k_109, k_110, k_111, k_112, k_113, k_114, k_115, k_116, k_117, k_118, k_119, k_120, k_121, k_122, k_123, k_124, k_125, k_126, k_127, k_128, k_129, k_130, k_133, k_144, k_145, k_153, k_193, k_203, k_211, k_227, k_255, k_256, k_280, k_300, k_313, k_371, k_433, k_705, k_997, k_999, k_1000, k_4176, k_4547, k_9999, k_10000, k_30557, k_99999, k_1000000, k_1000000000, nI_add, pk_mul, w_sub, w_rem, w_div, w_dv, w_rm, nI_leI, nI_ltI, nI_eq, w_em, w_me, w_lm, w_ml, w_lem, w_mle, bnd, Option.some.injEq, xI_n, yI_n, xL_n, yL_n, xP_n, xG_n, I_same, I_row, I_col, L_1, Q_1, R_same, R_row, if_pos, if_neg, ite_self, not_true, not_false, decide_true, decide_false, Nat.add_assoc, true_and, and_true, Nat.zero_add, Nat.add_zero, Nat.mul_zero, Nat.mul_one, Nat.one_mul, eq_self, decide_eq_true, decide_eq_false, Bool.true_eq_false, Bool.false_eq_true, ↓reduceIte, Nat.reduceAdd, Nat.reduceMul, Nat.reduceSub, Nat.reduceDiv, Nat.reduceMod, bb_t, bb_f, l1', e3, s1, s2]
      exact r1
theorem st_n (hC : RC 1 σ s) (hW : WFs s) {n : Nat} (hn : n < 8) (hon : on ≤ 999) (hke : ke ≤ 99) (K : Nat → Nat → Nat → Int32 → Int32 → Int32 → ST → Option ST) (hL : ∀ j, n < j → j ≤ 8 → τ0.1 630 j = nI (L j) ∧ L j ≤ 4800000) (h8 : V 8 = 0) (hD : ∀ j, n < j → j < 8 → DPn (s 25) on ke L V U j) (hS : SC σ τ0) : ∃ u' τ', g_X5_plan_27 N fu K 629 8 26 (nI on) (nI ke) (nI n) (nI 0) (nI 0) (nI n) τ0 = K 629 8 26 (nI on) (nI ke) (nI n - nI 1) τ' ∧ n < u' ∧ u' ≤ 8 ∧ SJ σ τ0 n τ' ∧ SK τ' n (cst (s 25) on ke n u' + L u') (am (s 25) n u') u' ∧ (∀ j, n < j → j ≤ 8 → Sg (s 25) on ke n u' + ky L V u' ≤ Sg (s 25) on ke n j + ky L V j) := by
  obtain ⟨z, hz, hz2⟩ : ∃ z, fu = z + 1 ∧ 10 < z := ⟨999999, by unfold fu; omega, by omega⟩
  have hJ : SJ σ τ0 n τ0 := ⟨hS, fun _ _ _ _ => rfl⟩
  have hCt := hS.rc hC
  have e0 := st_a (N := N) (q := z) (on := on) (ke := ke) hCt hW (Nat.le_refl n) hn hon hke K
  rw [(am_z n n (Nat.le_refl _)).1, (am_z n n (Nat.le_refl _)).2, Nat.zero_mul] at e0
  obtain ⟨t1, t2⟩ := hJ.take (c := cst (s 25) on ke n (n + 1) + L (n + 1)) (A := am (s 25) n (n + 1)) (u := n + 1)
  obtain ⟨u', τ', r1, r2⟩ := st_i (N := N) hC hW hn hon hke K hL h8 hD (7 - n) (n + 1) z _ (n + 1) (by omega) (by omega) (by omega) (by omega) t1 t2 (fun j h1 h2 => by
    obtain rfl : j = n + 1 := by omega
    exact Int.le_refl _)
  refine ⟨u', τ', ?_, r2⟩
  rw [hz, e0]
  unfold g_X5_plan_70 g_X5_plan_104 g_X5_plan_109 g_X5_plan_140
  obtain ⟨l1, l2⟩ := hL (n + 1) (by omega) (by omega)
  have e3 : (if 0 < am (s 25) n (n + 1) then on else 0) + kp (s 25) n (n + 1) * ke = cst (s 25) on ke n (n + 1) := rfl
  simp (disch := omega) only [k_0, k_1, k_2, k_3, k_4, k_5, k_6, k_7, k_8, k_9, k_10, k_11, k_12, k_13, k_14, k_15, k_16, k_17, k_18, k_19, k_20, k_21, k_22, k_23, k_24, k_25, k_26, k_27, k_28, k_29, k_30, k_31, k_32, k_33, k_34, k_35, k_36, k_37, k_38, k_39, k_40, k_41, k_42, k_43, k_44, k_45, k_46, k_47, k_48, k_49, k_50, k_51, k_52, k_53, k_54, k_55, k_56, k_57, k_58, k_59, k_60, k_61, k_62, k_63, k_64, k_65, k_66, k_67, k_68, k_69, k_70, k_71, k_72, k_73, k_74, k_75, k_76, k_77, k_78, k_79, k_80, k_81, k_82, k_83, k_84, k_85, k_86, k_87, k_88, k_89, k_90, k_91, k_92, k_93, k_94, k_95, k_96, k_97, k_98, k_99, k_100, k_101, k_102, k_103, k_104, k_105, k_106, k_107, k_108, k_109, k_110, k_111, k_112, k_113, k_114, k_115, k_116, k_117, k_118, k_119, k_120, k_121, k_122, k_123, k_124, k_125, k_126, k_127, k_128, k_129, k_130, k_133, k_144, k_145, k_153, k_193, k_203, k_211, k_227, k_255, k_256, k_280, k_300, k_313, k_371, k_433, k_705, k_997, k_999, k_1000, k_4176, k_4547, k_9999, k_10000, k_30557, k_99999, k_1000000, k_1000000000, nI_add, pk_mul, w_sub, w_rem, w_div, w_dv, w_rm, nI_leI, nI_ltI, nI_eq, w_em, w_me, w_lm, w_ml, w_lem, w_mle, bnd, Option.some.injEq, xI_n, yI_n, xL_n, yL_n, xP_n, xG_n, I_same, I_row, I_col, L_1, Q_1, R_same, R_row, if_pos, if_neg, ite_self, not_true, not_false, decide_true, decide_false, Nat.add_assoc, true_and, and_true, Nat.zero_add, Nat.add_zero, Nat.mul_zero, Nat.mul_one, Nat.one_mul, eq_self, decide_eq_true, decide_eq_false, Bool.true_eq_false, Bool.false_eq_true, ↓reduceIte, Nat.reduceAdd, Nat.reduceMul, Nat.reduceSub, Nat.reduceDiv, Nat.reduceMod, bb_t, bb_f, l1, e3]
  exact r1
theorem DPn_c {a L' V' U' : Nat → Nat} {n : Nat} (h : DPn a on ke L V U n) (hL : ∀ j, n ≤ j → L' j = L j) (hV : ∀ j, n ≤ j → V' j = V j) (hU : ∀ j, n ≤ j → U' j = U j) : DPn a on ke L' V' U' n := by
  obtain ⟨u1, u2, u3, u4, u5, u6⟩ := h
  unfold DPn ky
  rw [hU n (Nat.le_refl _), hL n (Nat.le_refl _), hV n (Nat.le_refl _), hL (U n) (by omega), hV (U n) (by omega)]
  refine ⟨u1, u2, u3, u4, fun k hk hk8 => ?_, u6⟩
  rw [hL k (by omega), hV k (by omega)]
  exact u5 k hk hk8
def SO (a : Nat → Nat) (on ke : Nat) (L V U : Nat → Nat) (c : Nat) (τ : ST) : Prop := L 8 = 0 ∧ V 8 = 0 ∧ (∀ j, c ≤ j → j ≤ 8 → τ.1 630 j = nI (L j)) ∧ ∀ j, c ≤ j → j < 8 → DPn a on ke L V U j ∧ τ.1 631 j = nI (am a j (U j)) ∧ τ.1 632 j = nI (U j)
theorem st_o (hC : RC 1 σ s) (hW : WFs s) (hon : on ≤ 999) (hke : ke ≤ 99) : ∀ c q τ L V U, c < q → c ≤ 8 → SC σ τ → SO (s 25) on ke L V U c τ → ∃ τ' L' V' U', g_X5_plan_12 N q 629 8 26 (nI on) (nI ke) (nI c - nI 1) τ = g_X5_plan_184 N fu 629 (nI 0) τ' ∧ SC σ τ' ∧ SO (s 25) on ke L' V' U' 0 τ' := by
  obtain ⟨-, -, b25⟩ := b_23 hW
  intro c
  induction c with
  | zero =>
    intro q τ L V U hq hc hS hO
    obtain ⟨q, rfl⟩ : ∃ m, q = m + 1 := ⟨q - 1, by omega⟩
    refine ⟨τ, L, V, U, ?_, hS, hO⟩
    rw [g_X5_plan_12]
    simp (disch := omega) only [k_0, k_1, k_2, k_3, k_4, k_5, k_6, k_7, k_8, k_9, k_10, k_11, k_12, k_13, k_14, k_15, k_16, k_17, k_18, k_19, k_20, k_21, k_22, k_23, k_24, k_25, k_26, k_27, k_28, k_29, k_30, k_31, k_32, k_33, k_34, k_35, k_36, k_37, k_38, k_39, k_40, k_41, k_42, k_43, k_44, k_45, k_46, k_47, k_48, k_49, k_50, k_51, k_52, k_53, k_54, k_55, k_56, k_57, k_58, k_59, k_60, k_61, k_62, k_63, k_64, k_65, k_66, k_67, k_68, k_69, k_70, k_71, k_72, k_73, k_74, k_75, k_76, k_77, k_78, k_79, k_80, k_81, k_82, k_83, k_84, k_85, k_86, k_87, k_88, k_89, k_90, k_91, k_92, k_93, k_94, k_95, k_96, k_97, k_98, k_99, k_100, k_101, k_102, k_103, k_104, k_105, k_106, k_107, k_108, k_109, k_110, k_111, k_112, k_113, k_114, k_115, k_116, k_117, k_118, k_119, k_120, k_121, k_122, k_123, k_124, k_125, k_126, k_127, k_128, k_129, k_130, k_133, k_144, k_145, k_153, k_193, k_203, k_211, k_227, k_255, k_256, k_280, k_300, k_313, k_371, k_433, k_705, k_997, k_999, k_1000, k_4176, k_4547, k_9999, k_10000, k_30557, k_99999, k_1000000, k_1000000000, nI_add, pk_mul, w_sub, w_rem, w_div, w_dv, w_rm, nI_leI, nI_ltI, nI_eq, w_em, w_me, w_lm, w_ml, w_lem, w_mle, bnd, Option.some.injEq, xI_n, yI_n, xL_n, yL_n, xP_n, xG_n, I_same, I_row, I_col, L_1, Q_1, R_same, R_row, if_pos, if_neg, ite_self, not_true, not_false, decide_true, decide_false, Nat.add_assoc, true_and, and_true, Nat.zero_add, Nat.add_zero, Nat.mul_zero, Nat.mul_one, Nat.one_mul, eq_self, decide_eq_true, decide_eq_false, Bool.true_eq_false, Bool.false_eq_true, ↓reduceIte, Nat.reduceAdd, Nat.reduceMul, Nat.reduceSub, Nat.reduceDiv, Nat.reduceMod, bb_t, bb_f, w_z1]
  | succ n ih =>
    intro q τ L V U hq hc hS hO
    obtain ⟨q, rfl⟩ : ∃ m, q = m + 1 := ⟨q - 1, by omega⟩
    obtain ⟨L8, V8, hl, hd⟩ := hO
    have hL : ∀ j, n < j → j ≤ 8 → τ.1 630 j = nI (L j) ∧ L j ≤ 4800000 := by
      intro j h1 h2
      refine ⟨hl j (by omega) h2, ?_⟩
      by_cases e : j = 8
      · rw [e, L8]; omega
      · have := (hd j (by omega) (by omega)).1.2.2.2.2.2
        omega
    have hD : ∀ j, n < j → j < 8 → DPn (s 25) on ke L V U j := fun j h1 h2 => (hd j (by omega) h2).1
    obtain ⟨u, τ1, r1, r2, r3, r4, r5, r6⟩ := st_n (N := N) hC hW (n := n) (by omega) hon hke (g_X5_plan_12 N q) hL V8 hD hS
    obtain ⟨k1, k2, k3⟩ := r5
    have cb := cst_b (on := on) (ke := ke) b25 hon hke (n := n) (k := u) (by omega)
    have hLu : L u ≤ 600000 * (8 - u) := by
      by_cases e : u = 8
      · rw [e, L8]; omega
      · exact (hd u (by omega) (by omega)).1.2.2.2.2.2
    have hO2 : SO (s 25) on ke (un L n (cst (s 25) on ke n u + L u)) (un V n (am (s 25) n u * wB n + V u)) (un U n u) n τ1 := by
      refine ⟨(un_n (by omega)).trans L8, (un_n (by omega)).trans V8, fun j h1 h2 => ?_, fun j h1 h2 => ?_⟩
      · by_cases e : j = n
        · rw [un_s e, e]; exact k1
        · rw [un_n e, r4.2 630 j (Or.inl rfl) e]; exact hl j (by omega) h2
      · by_cases e : j = n
        · subst e
          rw [un_s rfl]
          refine ⟨⟨?_, ?_, ?_, ?_, ?_, ?_⟩, k2, k3⟩
          · rw [un_s rfl]; exact r2
          · rw [un_s rfl]; exact r3
          · rw [un_s rfl, un_s rfl, un_n (by omega)]
          · rw [un_s rfl, un_s rfl, un_n (by omega)]
          · intro k hk hk8
            have h6 := r6 k hk hk8
            unfold ky Sg at h6 ⊢
            rw [un_s rfl, un_s rfl, un_n (by omega), un_n (by omega)]
            omega
          · rw [un_s rfl]
            omega
        · obtain ⟨d1, d2, d3⟩ := hd j (by omega) h2
          rw [un_n e, r4.2 631 j (Or.inr (Or.inl rfl)) e, r4.2 632 j (Or.inr (Or.inr rfl)) e]
          exact ⟨DPn_c d1 (fun i hi => un_n (by omega)) (fun i hi => un_n (by omega)) (fun i hi => un_n (by omega)), d2, d3⟩
    obtain ⟨τ', L', V', U', q1, q2⟩ := ih q τ1 _ _ _ (by omega) (by omega) r4.1 hO2
    refine ⟨τ', L', V', U', ?_, q2⟩
    rw [w_s1, g_X5_plan_12, ← q1]
    simp (disch := omega) only [k_0, k_1, k_2, k_3, k_4, k_5, k_6, k_7, k_8, k_9, k_10, k_11, k_12, k_13, k_14, k_15, k_16, k_17, k_18, k_19, k_20, k_21, k_22, k_23, k_24, k_25, k_26, k_27, k_28, k_29, k_30, k_31, k_32, k_33, k_34, k_35, k_36, k_37, k_38, k_39, k_40, k_41, k_42, k_43, k_44, k_45, k_46, k_47, k_48, k_49, k_50, k_51, k_52, k_53, k_54, k_55, k_56, k_57, k_58, k_59, k_60, k_61, k_62, k_63, k_64, k_65, k_66, k_67, k_68, k_69, k_70, k_71, k_72, k_73, k_74, k_75, k_76, k_77, k_78, k_79, k_80, k_81, k_82, k_83, k_84, k_85, k_86, k_87, k_88, k_89, k_90, k_91, k_92, k_93, k_94, k_95, k_96, k_97, k_98, k_99, k_100, k_101, k_102, k_103, k_104, k_105, k_106, k_107, k_108, k_109, k_110, k_111, k_112, k_113, k_114, k_115, k_116, k_117, k_118, k_119, k_120, k_121, k_122, k_123, k_124, k_125, k_126, k_127, k_128, k_129, k_130, k_133, k_144, k_145, k_153, k_193, k_203, k_211, k_227, k_255, k_256, k_280, k_300, k_313, k_371, k_433, k_705, k_997, k_999, k_1000, k_4176, k_4547, k_9999, k_10000, k_30557, k_99999, k_1000000, k_1000000000, nI_add, pk_mul, w_sub, w_rem, w_div, w_dv, w_rm, nI_leI, nI_ltI, nI_eq, w_em, w_me, w_lm, w_ml, w_lem, w_mle, bnd, Option.some.injEq, xI_n, yI_n, xL_n, yL_n, xP_n, xG_n, I_same, I_row, I_col, L_1, Q_1, R_same, R_row, if_pos, if_neg, ite_self, not_true, not_false, decide_true, decide_false, Nat.add_assoc, true_and, and_true, Nat.zero_add, Nat.add_zero, Nat.mul_zero, Nat.mul_one, Nat.one_mul, eq_self, decide_eq_true, decide_eq_false, Bool.true_eq_false, Bool.false_eq_true, ↓reduceIte, Nat.reduceAdd, Nat.reduceMul, Nat.reduceSub, Nat.reduceDiv, Nat.reduceMod, bb_t, bb_f]
    exact r1
theorem st_c (K : Nat → Int32 → ST → Option ST) {n u : Nat} (hu8 : u ≤ 8) : ∀ d x q τ, x + d = u → d < q → n < x → τ.1 632 n = nI u → SC σ τ → ∃ τ', g_X5_plan_197 N q K 629 (nI n) (nI x) τ = K 629 (nI (n + 1)) τ' ∧ SC σ τ' ∧ (∀ j, τ'.1 630 j = τ.1 630 j) ∧ (∀ j, x ≤ j → j < u → τ'.1 631 j = nI 0 ∧ τ'.1 632 j = nI 0) ∧ ∀ j, j < x ∨ u ≤ j → τ'.1 631 j = τ.1 631 j ∧ τ'.1 632 j = τ.1 632 j := by
  intro d
  induction d with
  | zero =>
    intro x q τ hx hq hn h hS
    obtain ⟨q, rfl⟩ : ∃ m, q = m + 1 := ⟨q - 1, by omega⟩
    refine ⟨τ, ?_, hS, fun _ => rfl, fun j h1 h2 => by omega, fun _ _ => ⟨rfl, rfl⟩⟩
    rw [g_X5_plan_197]
    simp (disch := omega) only [k_0, k_1, k_2, k_3, k_4, k_5, k_6, k_7, k_8, k_9, k_10, k_11, k_12, k_13, k_14, k_15, k_16, k_17, k_18, k_19, k_20, k_21, k_22, k_23, k_24, k_25, k_26, k_27, k_28, k_29, k_30, k_31, k_32, k_33, k_34, k_35, k_36, k_37, k_38, k_39, k_40, k_41, k_42, k_43, k_44, k_45, k_46, k_47, k_48, k_49, k_50, k_51, k_52, k_53, k_54, k_55, k_56, k_57, k_58, k_59, k_60, k_61, k_62, k_63, k_64, k_65, k_66, k_67, k_68, k_69, k_70, k_71, k_72, k_73, k_74, k_75, k_76, k_77, k_78, k_79, k_80, k_81, k_82, k_83, k_84, k_85, k_86, k_87, k_88, k_89, k_90, k_91, k_92, k_93, k_94, k_95, k_96, k_97, k_98, k_99, k_100, k_101, k_102, k_103, k_104, k_105, k_106, k_107, k_108, k_109, k_110, k_111, k_112, k_113, k_114, k_115, k_116, k_117, k_118, k_119, k_120, k_121, k_122, k_123, k_124, k_125, k_126, k_127, k_128, k_129, k_130, k_133, k_144, k_145, k_153, k_193, k_203, k_211, k_227, k_255, k_256, k_280, k_300, k_313, k_371, k_433, k_705, k_997, k_999, k_1000, k_4176, k_4547, k_9999, k_10000, k_30557, k_99999, k_1000000, k_1000000000, nI_add, pk_mul, w_sub, w_rem, w_div, w_dv, w_rm, nI_leI, nI_ltI, nI_eq, w_em, w_me, w_lm, w_ml, w_lem, w_mle, bnd, Option.some.injEq, xI_n, yI_n, xL_n, yL_n, xP_n, xG_n, I_same, I_row, I_col, L_1, Q_1, R_same, R_row, if_pos, if_neg, ite_self, not_true, not_false, decide_true, decide_false, Nat.add_assoc, true_and, and_true, Nat.zero_add, Nat.add_zero, Nat.mul_zero, Nat.mul_one, Nat.one_mul, eq_self, decide_eq_true, decide_eq_false, Bool.true_eq_false, Bool.false_eq_true, ↓reduceIte, Nat.reduceAdd, Nat.reduceMul, Nat.reduceSub, Nat.reduceDiv, Nat.reduceMod, bb_t, bb_f, h]
  | succ d ih =>
    intro x q τ hx hq hn h hS
    obtain ⟨q, rfl⟩ : ∃ m, q = m + 1 := ⟨q - 1, by omega⟩
    obtain ⟨τ', r1, r2, r3, r4, r5⟩ := ih (x + 1) q (setI (setI τ 631 x (nI 0)) 632 x (nI 0)) (by omega) (by omega) (by omega) (by rw [I_col (by omega), I_row (by omega)]; exact h) ((hS.set (by omega)).set (by omega))
    refine ⟨τ', ?_, r2, ?_, ?_, ?_⟩
    · rw [g_X5_plan_197]
      simp (disch := omega) only [k_0, k_1, k_2, k_3, k_4, k_5, k_6, k_7, k_8, k_9, k_10, k_11, k_12, k_13, k_14, k_15, k_16, k_17, k_18, k_19, k_20, k_21, k_22, k_23, k_24, k_25, k_26, k_27, k_28, k_29, k_30, k_31, k_32, k_33, k_34, k_35, k_36, k_37, k_38, k_39, k_40, k_41, k_42, k_43, k_44, k_45, k_46, k_47, k_48, k_49, k_50, k_51, k_52, k_53, k_54, k_55, k_56, k_57, k_58, k_59, k_60, k_61, k_62, k_63, k_64, k_65, k_66, k_67, k_68, k_69, k_70, k_71, k_72, k_73, k_74, k_75, k_76, k_77, k_78, k_79, k_80, k_81, k_82, k_83, k_84, k_85, k_86, k_87, k_88, k_89, k_90, k_91, k_92, k_93, k_94, k_95, k_96, k_97, k_98, k_99, k_100, k_101, k_102, k_103, k_104, k_105, k_106, k_107, k_108, k_109, k_110, k_111, k_112, k_113, k_114, k_115, k_116, k_117, k_118, k_119, k_120, k_121, k_122, k_123, k_124, k_125, k_126, k_127, k_128, k_129, k_130, k_133, k_144, k_145, k_153, k_193, k_203, k_211, k_227, k_255, k_256, k_280, k_300, k_313, k_371, k_433, k_705, k_997, k_999, k_1000, k_4176, k_4547, k_9999, k_10000, k_30557, k_99999, k_1000000, k_1000000000, nI_add, pk_mul, w_sub, w_rem, w_div, w_dv, w_rm, nI_leI, nI_ltI, nI_eq, w_em, w_me, w_lm, w_ml, w_lem, w_mle, bnd, Option.some.injEq, xI_n, yI_n, xL_n, yL_n, xP_n, xG_n, I_same, I_row, I_col, L_1, Q_1, R_same, R_row, if_pos, if_neg, ite_self, not_true, not_false, decide_true, decide_false, Nat.add_assoc, true_and, and_true, Nat.zero_add, Nat.add_zero, Nat.mul_zero, Nat.mul_one, Nat.one_mul, eq_self, decide_eq_true, decide_eq_false, Bool.true_eq_false, Bool.false_eq_true, ↓reduceIte, Nat.reduceAdd, Nat.reduceMul, Nat.reduceSub, Nat.reduceDiv, Nat.reduceMod, bb_t, bb_f, h]
      exact r1
    · intro j
      rw [r3 j, I_row (by omega), I_row (by omega)]
    · intro j h1 h2
      by_cases e : j = x
      · subst e
        obtain ⟨q1, q2⟩ := r5 j (Or.inl (by omega))
        rw [q1, q2, I_row (by omega), I_same rfl rfl, I_same rfl rfl]
        exact ⟨rfl, rfl⟩
      · exact r4 j (by omega) h2
    · intro j hj
      obtain ⟨q1, q2⟩ := r5 j (by omega)
      rw [q1, q2, I_row (by omega), I_col (by omega), I_col (by omega), I_row (by omega)]
      exact ⟨rfl, rfl⟩
theorem Vs_z {f : Nat → Nat} : ∀ d x, (∀ j, x ≤ j → j < x + d → f j = 0) → Vs f (x + d) = Vs f x := by
  intro d
  induction d with
  | zero => intro x h; rfl
  | succ d ih =>
    intro x h
    rw [show x + (d + 1) = x + d + 1 by omega, Vs, ih x (fun j h1 h2 => h j h1 (by omega)), h (x + d) (by omega) (by omega)]
    omega
theorem Vs_c {f g : Nat → Nat} : ∀ k, (∀ j, j < k → f j = g j) → Vs f k = Vs g k := by
  intro k
  induction k with
  | zero => intro h; rfl
  | succ k ih =>
    intro h
    rw [Vs, Vs, ih (fun j hj => h j (by omega)), h k (by omega)]
theorem st_f (ha : ∀ i, s 25 i ≤ 99) (hD : ∀ j, j < 8 → DPn (s 25) on ke L V U j) (h8 : V 8 = 0) : ∀ d n q τ st (bf : Nat → Nat), n + d = 8 → d < q → n ≤ st → st ≤ 8 → SC σ τ → (∀ j, j < 8 → τ.1 631 j = nI (bf j) ∧ bf j ≤ 999) → (∀ j, st ≤ j → j < 8 → bf j = am (s 25) j (U j) ∧ τ.1 632 j = nI (U j)) → (∀ j, n ≤ j → j < st → τ.1 632 j = nI 0) → Vs bf st + V st = V 0 → ∃ τ' bf', g_X5_plan_184 N q 629 (nI n) τ = some τ' ∧ SC σ τ' ∧ (∀ j, τ'.1 630 j = τ.1 630 j) ∧ (∀ j, j < 8 → τ'.1 631 j = nI (bf' j) ∧ bf' j ≤ 999) ∧ Vs bf' 8 = V 0 := by
  intro d
  induction d with
  | zero =>
    intro n q τ st bf hn hq hs1 hs2 hS hb hu hz hV
    obtain ⟨q, rfl⟩ : ∃ m, q = m + 1 := ⟨q - 1, by omega⟩
    obtain rfl : n = 8 := by omega
    obtain rfl : st = 8 := by omega
    refine ⟨τ, bf, ?_, hS, fun _ => rfl, hb, by omega⟩
    rw [g_X5_plan_184]
    simp (disch := omega) only [k_0, k_1, k_2, k_3, k_4, k_5, k_6, k_7, k_8, k_9, k_10, k_11, k_12, k_13, k_14, k_15, k_16, k_17, k_18, k_19, k_20, k_21, k_22, k_23, k_24, k_25, k_26, k_27, k_28, k_29, k_30, k_31, k_32, k_33, k_34, k_35, k_36, k_37, k_38, k_39, k_40, k_41, k_42, k_43, k_44, k_45, k_46, k_47, k_48, k_49, k_50, k_51, k_52, k_53, k_54, k_55, k_56, k_57, k_58, k_59, k_60, k_61, k_62, k_63, k_64, k_65, k_66, k_67, k_68, k_69, k_70, k_71, k_72, k_73, k_74, k_75, k_76, k_77, k_78, k_79, k_80, k_81, k_82, k_83, k_84, k_85, k_86, k_87, k_88, k_89, k_90, k_91, k_92, k_93, k_94, k_95, k_96, k_97, k_98, k_99, k_100, k_101, k_102, k_103, k_104, k_105, k_106, k_107, k_108, k_109, k_110, k_111, k_112, k_113, k_114, k_115, k_116, k_117, k_118, k_119, k_120, k_121, k_122, k_123, k_124, k_125, k_126, k_127, k_128, k_129, k_130, k_133, k_144, k_145, k_153, k_193, k_203, k_211, k_227, k_255, k_256, k_280, k_300, k_313, k_371, k_433, k_705, k_997, k_999, k_1000, k_4176, k_4547, k_9999, k_10000, k_30557, k_99999, k_1000000, k_1000000000, nI_add, pk_mul, w_sub, w_rem, w_div, w_dv, w_rm, nI_leI, nI_ltI, nI_eq, w_em, w_me, w_lm, w_ml, w_lem, w_mle, bnd, Option.some.injEq, xI_n, yI_n, xL_n, yL_n, xP_n, xG_n, I_same, I_row, I_col, L_1, Q_1, R_same, R_row, if_pos, if_neg, ite_self, not_true, not_false, decide_true, decide_false, Nat.add_assoc, true_and, and_true, Nat.zero_add, Nat.add_zero, Nat.mul_zero, Nat.mul_one, Nat.one_mul, eq_self, decide_eq_true, decide_eq_false, Bool.true_eq_false, Bool.false_eq_true, ↓reduceIte, Nat.reduceAdd, Nat.reduceMul, Nat.reduceSub, Nat.reduceDiv, Nat.reduceMod, bb_t, bb_f]
  | succ d ih =>
    intro n q τ st bf hn hq hs1 hs2 hS hb hu hz hV
    obtain ⟨q, rfl⟩ : ∃ m, q = m + 1 := ⟨q - 1, by omega⟩
    by_cases e : n = st
    · subst e
      obtain ⟨u1, u2, u3, u4, u5, u6⟩ := hD n (by omega)
      obtain ⟨g1, g2⟩ := hu n (Nat.le_refl _) (by omega)
      obtain ⟨τ1, r1, r2, r3, r4, r5⟩ := st_c (N := N) (σ := σ) (g_X5_plan_184 N q) (n := n) u2 (U n - (n + 1)) (n + 1) fu τ (by omega) (by unfold fu; omega) (by omega) g2 hS
      obtain ⟨τ', bf', q1, q2, q3, q4, q5⟩ := ih (n + 1) q τ1 (U n) (fun j => if n < j ∧ j < U n then 0 else bf j) (by omega) (by omega) (by omega) u2 r2 (fun j hj => by
        by_cases c : n < j ∧ j < U n
        · rw [if_pos c]
          exact ⟨(r4 j (by omega) (by omega)).1, by omega⟩
        · rw [if_neg c, (r5 j (by omega)).1]
          exact hb j hj) (fun j h1 h2 => by
        rw [if_neg (by omega), (r5 j (Or.inr h1)).2]
        exact hu j (by omega) h2) (fun j h1 h2 => (r4 j (by omega) (by omega)).2) (by
        rw [show U n = n + 1 + (U n - (n + 1)) by omega, Vs_z _ _ (fun j h1 h2 => if_pos (by omega)), show n + 1 + (U n - (n + 1)) = U n by omega, Vs, Vs_c (g := bf) n (fun j hj => if_neg (by omega)), if_neg (by omega), g1]
        omega)
      refine ⟨τ', bf', ?_, q2, fun j => (q3 j).trans (r3 j), q4, q5⟩
      rw [g_X5_plan_184, ← q1]
      simp (disch := omega) only [k_0, k_1, k_2, k_3, k_4, k_5, k_6, k_7, k_8, k_9, k_10, k_11, k_12, k_13, k_14, k_15, k_16, k_17, k_18, k_19, k_20, k_21, k_22, k_23, k_24, k_25, k_26, k_27, k_28, k_29, k_30, k_31, k_32, k_33, k_34, k_35, k_36, k_37, k_38, k_39, k_40, k_41, k_42, k_43, k_44, k_45, k_46, k_47, k_48, k_49, k_50, k_51, k_52, k_53, k_54, k_55, k_56, k_57, k_58, k_59, k_60, k_61, k_62, k_63, k_64, k_65, k_66, k_67, k_68, k_69, k_70, k_71, k_72, k_73, k_74, k_75, k_76, k_77, k_78, k_79, k_80, k_81, k_82, k_83, k_84, k_85, k_86, k_87, k_88, k_89, k_90, k_91, k_92, k_93, k_94, k_95, k_96, k_97, k_98, k_99, k_100, k_101, k_102, k_103, k_104, k_105, k_106, k_107, k_108, k_109, k_110, k_111, k_112, k_113, k_114, k_115, k_116, k_117, k_118, k_119, k_120, k_121, k_122, k_123, k_124, k_125, k_126, k_127, k_128, k_129, k_130, k_133, k_144, k_145, k_153, k_193, k_203, k_211, k_227, k_255, k_256, k_280, k_300, k_313, k_371, k_433, k_705, k_997, k_999, k_1000, k_4176, k_4547, k_9999, k_10000, k_30557, k_99999, k_1000000, k_1000000000, nI_add, pk_mul, w_sub, w_rem, w_div, w_dv, w_rm, nI_leI, nI_ltI, nI_eq, w_em, w_me, w_lm, w_ml, w_lem, w_mle, bnd, Option.some.injEq, xI_n, yI_n, xL_n, yL_n, xP_n, xG_n, I_same, I_row, I_col, L_1, Q_1, R_same, R_row, if_pos, if_neg, ite_self, not_true, not_false, decide_true, decide_false, Nat.add_assoc, true_and, and_true, Nat.zero_add, Nat.add_zero, Nat.mul_zero, Nat.mul_one, Nat.one_mul, eq_self, decide_eq_true, decide_eq_false, Bool.true_eq_false, Bool.false_eq_true, ↓reduceIte, Nat.reduceAdd, Nat.reduceMul, Nat.reduceSub, Nat.reduceDiv, Nat.reduceMod, bb_t, bb_f]
      exact r1
    · obtain ⟨τ', bf', q1, q2⟩ := ih (n + 1) q τ st bf (by omega) (by omega) (by omega) hs2 hS hb hu (fun j h1 h2 => hz j (by omega) h2) hV
      refine ⟨τ', bf', ?_, q2⟩
      have z0 := hz n (Nat.le_refl _) (by omega)
      obtain ⟨z, hfz⟩ : ∃ z, fu = z + 1 := ⟨999999, by unfold fu; omega⟩
      rw [g_X5_plan_184, ← q1]
      simp (disch := omega) only [k_0, k_1, k_2, k_3, k_4, k_5, k_6, k_7, k_8, k_9, k_10, k_11, k_12, k_13, k_14, k_15, k_16, k_17, k_18, k_19, k_20, k_21, k_22, k_23, k_24, k_25, k_26, k_27, k_28, k_29, k_30, k_31, k_32, k_33, k_34, k_35, k_36, k_37, k_38, k_39, k_40, k_41, k_42, k_43, k_44, k_45, k_46, k_47, k_48, k_49, k_50, k_51, k_52, k_53, k_54, k_55, k_56, k_57, k_58, k_59, k_60, k_61, k_62, k_63, k_64, k_65, k_66, k_67, k_68, k_69, k_70, k_71, k_72, k_73, k_74, k_75, k_76, k_77, k_78, k_79, k_80, k_81, k_82, k_83, k_84, k_85, k_86, k_87, k_88, k_89, k_90, k_91, k_92, k_93, k_94, k_95, k_96, k_97, k_98, k_99, k_100, k_101, k_102, k_103, k_104, k_105, k_106, k_107, k_108, k_109, k_110, k_111, k_112, k_113, k_114, k_115, k_116, k_117, k_118, k_119, k_120, k_121, k_122, k_123, k_124, k_125, k_126, k_127, k_128, k_129, k_130, k_133, k_144, k_145, k_153, k_193, k_203, k_211, k_227, k_255, k_256, k_280, k_300, k_313, k_371, k_433, k_705, k_997, k_999, k_1000, k_4176, k_4547, k_9999, k_10000, k_30557, k_99999, k_1000000, k_1000000000, nI_add, pk_mul, w_sub, w_rem, w_div, w_dv, w_rm, nI_leI, nI_ltI, nI_eq, w_em, w_me, w_lm, w_ml, w_lem, w_mle, bnd, Option.some.injEq, xI_n, yI_n, xL_n, yL_n, xP_n, xG_n, I_same, I_row, I_col, L_1, Q_1, R_same, R_row, if_pos, if_neg, ite_self, not_true, not_false, decide_true, decide_false, Nat.add_assoc, true_and, and_true, Nat.zero_add, Nat.add_zero, Nat.mul_zero, Nat.mul_one, Nat.one_mul, eq_self, decide_eq_true, decide_eq_false, Bool.true_eq_false, Bool.false_eq_true, ↓reduceIte, Nat.reduceAdd, Nat.reduceMul, Nat.reduceSub, Nat.reduceDiv, Nat.reduceMod, bb_t, bb_f]
      rw [hfz, g_X5_plan_197]
      simp (disch := omega) only [k_0, k_1, k_2, k_3, k_4, k_5, k_6, k_7, k_8, k_9, k_10, k_11, k_12, k_13, k_14, k_15, k_16, k_17, k_18, k_19, k_20, k_21, k_22, k_23, k_24, k_25, k_26, k_27, k_28, k_29, k_30, k_31, k_32, k_33, k_34, k_35, k_36, k_37, k_38, k_39, k_40, k_41, k_42, k_43, k_44, k_45, k_46, k_47, k_48, k_49, k_50, k_51, k_52, k_53, k_54, k_55, k_56, k_57, k_58, k_59, k_60, k_61, k_62, k_63, k_64, k_65, k_66, k_67, k_68, k_69, k_70, k_71, k_72, k_73, k_74, k_75, k_76, k_77, k_78, k_79, k_80, k_81, k_82, k_83, k_84, k_85, k_86, k_87, k_88, k_89, k_90, k_91, k_92, k_93, k_94, k_95, k_96, k_97, k_98, k_99, k_100, k_101, k_102, k_103, k_104, k_105, k_106, k_107, k_108, k_109, k_110, k_111, k_112, k_113, k_114, k_115, k_116, k_117, k_118, k_119, k_120, k_121, k_122, k_123, k_124, k_125, k_126, k_127, k_128, k_129, k_130, k_133, k_144, k_145, k_153, k_193, k_203, k_211, k_227, k_255, k_256, k_280, k_300, k_313, k_371, k_433, k_705, k_997, k_999, k_1000, k_4176, k_4547, k_9999, k_10000, k_30557, k_99999, k_1000000, k_1000000000, nI_add, pk_mul, w_sub, w_rem, w_div, w_dv, w_rm, nI_leI, nI_ltI, nI_eq, w_em, w_me, w_lm, w_ml, w_lem, w_mle, bnd, Option.some.injEq, xI_n, yI_n, xL_n, yL_n, xP_n, xG_n, I_same, I_row, I_col, L_1, Q_1, R_same, R_row, if_pos, if_neg, ite_self, not_true, not_false, decide_true, decide_false, Nat.add_assoc, true_and, and_true, Nat.zero_add, Nat.add_zero, Nat.mul_zero, Nat.mul_one, Nat.one_mul, eq_self, decide_eq_true, decide_eq_false, Bool.true_eq_false, Bool.false_eq_true, ↓reduceIte, Nat.reduceAdd, Nat.reduceMul, Nat.reduceSub, Nat.reduceDiv, Nat.reduceMod, bb_t, bb_f, z0]
theorem st_all (hC : RC 1 σ s) (hW : WFs s) (hon : on ≤ 999) (hke : ke ≤ 99) : ∃ τ' L V U bf, g_X5_plan N 629 8 26 (nI on) (nI ke) σ = some τ' ∧ SC σ τ' ∧ L 8 = 0 ∧ V 8 = 0 ∧ (∀ j, j < 8 → DPn (s 25) on ke L V U j) ∧ τ'.1 630 0 = nI (L 0) ∧ (∀ j, j < 8 → τ'.1 631 j = nI (bf j) ∧ bf j ≤ 999) ∧ Vs bf 8 = V 0 := by
  obtain ⟨-, -, b25⟩ := b_23 hW
  obtain ⟨τ1, L, V, U, r1, r2, r3, r4, r5, r6⟩ := st_o (N := N) hC hW hon hke 8 fu (setI σ 630 8 (nI 0)) (fun _ => 0) (fun _ => 0) (fun _ => 0) (by unfold fu; omega) (by omega) (SC.rfl.set (by omega)) ⟨rfl, rfl, fun j h1 h2 => I_same rfl (by omega), fun j h1 h2 => by omega⟩
  have hD : ∀ j, j < 8 → DPn (s 25) on ke L V U j := fun j hj => (r6 j (by omega) hj).1
  obtain ⟨τ', bf, q1, q2, q3, q4, q5⟩ := st_f (N := N) (σ := σ) b25 hD r4 8 0 fu τ1 0 (fun j => am (s 25) j (U j)) (by omega) (by unfold fu; omega) (by omega) (by omega) r2 (fun j hj => ⟨(r6 j (by omega) hj).2.1, by
    have h1 := am_b b25 j (U j)
    have h2 := (hD j hj).2.1
    omega⟩) (fun j h1 h2 => ⟨rfl, (r6 j (by omega) h2).2.2⟩) (fun j h1 h2 => by omega) (by rw [Vs]; omega)
  refine ⟨τ', L, V, U, bf, ?_, q2, r3, r4, hD, (q3 0).trans (r5 0 (by omega) (by omega)), q4, q5⟩
  unfold g_X5_plan g_X5_plan_0
  rw [pk_sub (by omega)] at r1
  simp (disch := omega) only [k_0, k_1, k_2, k_3, k_4, k_5, k_6, k_7, k_8, k_9, k_10, k_11, k_12, k_13, k_14, k_15, k_16, k_17, k_18, k_19, k_20, k_21, k_22, k_23, k_24, k_25, k_26, k_27, k_28, k_29, k_30, k_31, k_32, k_33, k_34, k_35, k_36, k_37, k_38, k_39, k_40, k_41, k_42, k_43, k_44, k_45, k_46, k_47, k_48, k_49, k_50, k_51, k_52, k_53, k_54, k_55, k_56, k_57, k_58, k_59, k_60, k_61, k_62, k_63, k_64, k_65, k_66, k_67, k_68, k_69, k_70, k_71, k_72, k_73, k_74, k_75, k_76, k_77, k_78, k_79, k_80, k_81, k_82, k_83, k_84, k_85, k_86, k_87, k_88, k_89, k_90, k_91, k_92, k_93, k_94, k_95, k_96, k_97, k_98, k_99, k_100, k_101, k_102, k_103, k_104, k_105, k_106, k_107, k_108, k_109, k_110, k_111, k_112, k_113, k_114, k_115, k_116, k_117, k_118, k_119, k_120, k_121, k_122, k_123, k_124, k_125, k_126, k_127, k_128, k_129, k_130, k_133, k_144, k_145, k_153, k_193, k_203, k_211, k_227, k_255, k_256, k_280, k_300, k_313, k_371, k_433, k_705, k_997, k_999, k_1000, k_4176, k_4547, k_9999, k_10000, k_30557, k_99999, k_1000000, k_1000000000, nI_add, pk_mul, w_sub, w_rem, w_div, w_dv, w_rm, nI_leI, nI_ltI, nI_eq, w_em, w_me, w_lm, w_ml, w_lem, w_mle, bnd, Option.some.injEq, xI_n, yI_n, xL_n, yL_n, xP_n, xG_n, I_same, I_row, I_col, L_1, Q_1, R_same, R_row, if_pos, if_neg, ite_self, not_true, not_false, decide_true, decide_false, Nat.add_assoc, true_and, and_true, Nat.zero_add, Nat.add_zero, Nat.mul_zero, Nat.mul_one, Nat.one_mul, eq_self, decide_eq_true, decide_eq_false, Bool.true_eq_false, Bool.false_eq_true, ↓reduceIte, Nat.reduceAdd, Nat.reduceMul, Nat.reduceSub, Nat.reduceDiv, Nat.reduceMod, bb_t, bb_f]
  rw [r1]
  exact q1
end STK
