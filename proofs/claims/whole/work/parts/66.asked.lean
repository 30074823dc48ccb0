/-! the class asks a law -/
def enw (w : SS) (m i : Nat) : Nat := if i = 0 then w 0 1 else if i = 1 then w 1 m else if i = 2 then w 3 m else if i = 3 then w 4 m else if i = 4 then w 5 m else if i = 5 then m else if i = 6 then w 6 m else if w 6 m = dc (w 5 m) then 1 else 0
def suw (w : SS) (v : Int) : Nat := if 0 ≤ v ∧ v < w 0 0 then w 5 v.toNat else 0
def WR (τ : ST) (b : Nat) (w : SS) : Prop := ∀ k i, k < 9 → τ.1 (b + k) i = nI (w k i)
def Sk (τ : ST) (st : List Int32) : Prop := match st with
  | [] => True
  | x :: st => τ.1 602 st.length = x ∧ Sk τ st
def AF (τ τ' : ST) : Prop := (∀ a j, a ≠ 602 → ¬ (a = 601 ∧ j = 1) → τ'.1 a j = τ.1 a j) ∧ τ'.2 = τ.2
def TO (N : Mem) (t : Nat) (O P : Nat → Nat) (to : Nat) : Prop := ∃ u0 u1, gR N 8 t 0 = some u0 ∧ gR N 8 t 1 = some u1 ∧ ∀ i, i < to → rI N u0 (nI i) = some (nI (O i)) ∧ rI N u1 (nI i) = some (nI (P i)) ∧ O i ≤ 43 ∧ P i ≤ 9999
section ASK
variable {N : Mem} {σ τ τ' υ : ST} {w : SS} {O P f : Nat → Nat} {g : Int → Nat}
theorem AF.rfl : AF τ τ := ⟨fun _ _ _ _ => Eq.refl _, Eq.refl _⟩
theorem AF.t (h1 : AF σ τ) (h2 : AF τ τ') : AF σ τ' := ⟨fun a j q1 q2 => (h2.1 a j q1 q2).trans (h1.1 a j q1 q2), h2.2.trans h1.2⟩
theorem AF.s1 {v : Int32} (h : AF σ τ) : AF σ (setI τ 601 1 v) := ⟨fun a j q1 q2 => by
  refine Eq.trans ?_ (h.1 a j q1 q2)
  show (if a = 601 ∧ j = 1 then v else τ.1 a j) = _
  rw [if_neg q2], h.2⟩
theorem AF.s2 {i : Nat} {v : Int32} (h : AF σ τ) : AF σ (setI τ 602 i v) := ⟨fun a j q1 q2 => (I_row q1).trans (h.1 a j q1 q2), h.2⟩
theorem AF.sc (h : AF σ τ) : SC σ τ := ⟨fun a i ha => h.1 a i (by omega) (by omega), h.2⟩
theorem AF.wr (h : AF σ τ) {b : Nat} (hb : b + 9 ≤ 601 ∨ 603 ≤ b) (hw : WR σ b w) : WR τ b w := fun k i hk => (h.1 _ _ (by omega) (by omega)).trans (hw k i hk)
theorem Sk_c : ∀ st : List Int32, Sk τ st → (∀ i, i < st.length → τ'.1 602 i = τ.1 602 i) → Sk τ' st := by
  intro st
  induction st with
  | nil => intro _ _; trivial
  | cons x st ih =>
    rintro ⟨h1, h2⟩ hc
    exact ⟨(hc _ (by rw [List.length_cons]; omega)).trans h1, ih h2 (fun i hi => hc i (by rw [List.length_cons]; omega))⟩
def SS1 (τ : ST) (st : List Int32) : Prop := τ.1 601 1 = nI st.length ∧ Sk τ st
theorem pop_c {x : Int32} {st : List Int32} (h : SS1 τ (x :: st)) (hl : st.length < 300) : g_X0_pop N 601 τ = some (x, setI τ 601 1 (nI st.length)) ∧ SS1 (setI τ 601 1 (nI st.length)) st := by
  obtain ⟨h1, h2, h3⟩ := h
  rw [List.length_cons] at h1
  refine ⟨?_, I_same rfl rfl, Sk_c st h3 (fun i _ => I_row (by omega))⟩
  have q : Int32.ofNat 300 = nI 300 := rfl
  unfold g_X0_pop g_X0_pop_0
  rw [q]
  simp (disch := omega) only [k_0, k_1, k_2, k_3, k_4, k_5, k_6, k_7, k_8, k_9, k_10, k_11, k_12, k_13, k_14, k_15, k_16, k_17, k_18, k_19, k_20, k_21, k_22, k_23, k_24, k_25, k_26, k_27, k_28, k_29, k_30, k_31, k_32, k_33, k_34, k_35, k_36, k_37, k_38, k_39, k_40, k_41, k_42, k_43, k_44, k_45, k_46, k_47, k_48, k_49, k_50, k_51, k_52, k_53, k_54, k_55, k_56, k_57, k_58, k_59, k_60, k_61, k_62, k_63, k_64, k_65, k_66, k_67, k_68, k_69, k_70, k_71, k_72, k_73, k_74, k_75, k_76, k_77, k_78, k_79, k_80, k_81, k_82, k_83, k_84, k_85, k_86, k_87, k_88, k_89, k_90, k_91, k_92, k_93, k_94, k_95, k_96, k_97, k_98, k_99, k_100, k_101, k_102, k_103, k_104, k_105, k_106, k_107, k_108, k_109, k_110, k_111, k_112, k_113, k_114, k_115, k_116, k_117, k_118, k_119, k_120, k_121, k_122, k_123, k_124, k_125, k_126, k_127, k_128, k_129, k_130, k_133, k_144, k_145, k_153, k_193, k_203, k_211, k_227, k_255, k_256, k_280, k_300, k_313, k_371, k_433, k_705, k_997, k_999, k_1000, k_4176, k_4547, k_9999, k_10000, k_30557, k_99999, k_1000000, k_1000000000, nI_add, pk_mul, w_sub, w_rem, w_div, w_dv, w_rm, nI_leI, nI_ltI, nI_eq, w_em, w_me, w_lm, w_ml, w_lem, w_mle, bnd, Option.some.injEq, xI_n, yI_n, xL_n, yL_n, xP_n, xG_n, I_same, I_row, I_col, L_1, Q_1, R_same, R_row, if_pos, if_neg, ite_self, not_true, not_false, decide_true, decide_false, Nat.add_assoc, true_and, and_true, Nat.zero_add, Nat.add_zero, Nat.mul_zero, Nat.mul_one, Nat.one_mul, eq_self, decide_eq_true, decide_eq_false, Bool.true_eq_false, Bool.false_eq_true, ↓reduceIte, Nat.reduceAdd, Nat.reduceMul, Nat.reduceSub, Nat.reduceDiv, Nat.reduceMod, bb_t, bb_f, h1, wi10, in_t, w_s1, Nat.add_sub_cancel, h2]
theorem push_c {x : Int32} {st : List Int32} (h : SS1 τ st) (hl : st.length < 300) : ∃ τ', g_X0_push N 601 x τ = some τ' ∧ SS1 τ' (x :: st) ∧ AF τ τ' := by
  obtain ⟨h1, h2⟩ := h
  refine ⟨setI (setI τ 602 st.length x) 601 1 (nI (st.length + 1)), ?_, ⟨I_same rfl rfl, ?_, Sk_c st h2 (fun i hi => ?_)⟩, (AF.rfl.s2).s1⟩
  · have q : Int32.ofNat 300 = nI 300 := rfl
    unfold g_X0_push g_X0_push_0
    rw [q]
    simp (disch := omega) only [k_0, k_1, k_2, k_3, k_4, k_5, k_6, k_7, k_8, k_9, k_10, k_11, k_12, k_13, k_14, k_15, k_16, k_17, k_18, k_19, k_20, k_21, k_22, k_23, k_24, k_25, k_26, k_27, k_28, k_29, k_30, k_31, k_32, k_33, k_34, k_35, k_36, k_37, k_38, k_39, k_40, k_41, k_42, k_43, k_44, k_45, k_46, k_47, k_48, k_49, k_50, k_51, k_52, k_53, k_54, k_55, k_56, k_57, k_58, k_59, k_60, k_61, k_62, k_63, k_64, k_65, k_66, k_67, k_68, k_69, k_70, k_71, k_72, k_73, k_74, k_75, k_76, k_77, k_78, k_79, k_80, k_81, k_82, k_83, k_84, k_85, k_86, k_87, k_88, k_89, k_90, k_91, k_92, k_93, k_94, k_95, k_96, k_97, k_98, k_99, k_100, k_101, k_102, k_103, k_104, k_105, k_106, k_107, k_108, k_109, k_110, k_111, k_112, k_113, k_114, k_115, k_116, k_117, k_118, k_119, k_120, k_121, k_122, k_123, k_124, k_125, k_126, k_127, k_128, k_129, k_130, k_133, k_144, k_145, k_153, k_193, k_203, k_211, k_227, k_255, k_256, k_280, k_300, k_313, k_371, k_433, k_705, k_997, k_999, k_1000, k_4176, k_4547, k_9999, k_10000, k_30557, k_99999, k_1000000, k_1000000000, nI_add, pk_mul, w_sub, w_rem, w_div, w_dv, w_rm, nI_leI, nI_ltI, nI_eq, w_em, w_me, w_lm, w_ml, w_lem, w_mle, bnd, Option.some.injEq, xI_n, yI_n, xL_n, yL_n, xP_n, xG_n, I_same, I_row, I_col, L_1, Q_1, R_same, R_row, if_pos, if_neg, ite_self, not_true, not_false, decide_true, decide_false, Nat.add_assoc, true_and, and_true, Nat.zero_add, Nat.add_zero, Nat.mul_zero, Nat.mul_one, Nat.one_mul, eq_self, decide_eq_true, decide_eq_false, Bool.true_eq_false, Bool.false_eq_true, ↓reduceIte, Nat.reduceAdd, Nat.reduceMul, Nat.reduceSub, Nat.reduceDiv, Nat.reduceMod, bb_t, bb_f, h1, wi10, in_t]
  · rw [I_row (by omega), I_same rfl rfl]
  · rw [I_row (by omega), I_col (by omega)]
theorem jmx {i p : Nat} (hi : i < 1000000) (hp : p < 1000000) : jmax (nI i) (nI p - nI 1) = nI (max i (p - 1)) := by
  cases p with
  | zero =>
    unfold jmax
    rw [if_neg, show max i (0 - 1) = i by omega]
    rw [show nI 0 - nI 1 = -nI 1 by decide]
    exact fun h => (w_lm (a := i) (b := 1) (by omega) (by omega)).mp h
  | succ p => rw [w_s1, jmax_n (by omega) (by omega), Nat.add_sub_cancel]
theorem named_c {b m k : Nat} (hw : WR τ b w) (hW : WFw w) (hm : m < 5) (h1 : 8 ≤ k) (h2 : k ≤ 15) : g_X0_named N (nI k) b (nI m) τ = some (nI (enw w m (nmI k))) := by
  have e0 : τ.1 b 1 = nI (w 0 1) := hw 0 1 (by omega)
  have e1 : τ.1 (b + 1) m = nI (w 1 m) := hw 1 m (by omega)
  have e3 : τ.1 (b + 3) m = nI (w 3 m) := hw 3 m (by omega)
  have e4 : τ.1 (b + 4) m = nI (w 4 m) := hw 4 m (by omega)
  have e5 : τ.1 (b + 5) m = nI (w 5 m) := hw 5 m (by omega)
  have e6 : τ.1 (b + 6) m = nI (w 6 m) := hw 6 m (by omega)
  obtain ⟨-, -, b3, b4, b5, b6⟩ := hW.fld m
  unfold g_X0_named g_X0_named_0 enw nmI
  obtain rfl | rfl | rfl | rfl | rfl | rfl | rfl | rfl : k = 8 ∨ k = 9 ∨ k = 10 ∨ k = 11 ∨ k = 12 ∨ k = 13 ∨ k = 14 ∨ k = 15 := by omega
  · simp (disch := omega) only [k_0, k_1, k_2, k_3, k_4, k_5, k_6, k_7, k_8, k_9, k_10, k_11, k_12, k_13, k_14, k_15, k_16, k_17, k_18, k_19, k_20, k_21, k_22, k_23, k_24, k_25, k_26, k_27, k_28, k_29, k_30, k_31, k_32, k_33, k_34, k_35, k_36, k_37, k_38, k_39, k_40, k_41, k_42, k_43, k_44, k_45, k_46, k_47, k_48, k_49, k_50, k_51, k_52, k_53, k_54, k_55, k_56, k_57, k_58, k_59, k_60, k_61, k_62, k_63, k_64, k_65, k_66, k_67, k_68, k_69, k_70, k_71, k_72, k_73, k_74, k_75, k_76, k_77, k_78, k_79, k_80, k_81, k_82, k_83, k_84, k_85, k_86, k_87, k_88, k_89, k_90, k_91, k_92, k_93, k_94, k_95, k_96, k_97, k_98, k_99, k_100, k_101, k_102, k_103, k_104, k_105, k_106, k_107, k_108, k_109, k_110, k_111, k_112, k_113, k_114, k_115, k_116, k_117, k_118, k_119, k_120, k_121, k_122, k_123, k_124, k_125, k_126, k_127, k_128, k_129, k_130, k_133, k_144, k_145, k_153, k_193, k_203, k_211, k_227, k_255, k_256, k_280, k_300, k_313, k_371, k_433, k_705, k_997, k_999, k_1000, k_4176, k_4547, k_9999, k_10000, k_30557, k_99999, k_1000000, k_1000000000, nI_add, pk_mul, w_sub, w_rem, w_div, w_dv, w_rm, nI_leI, nI_ltI, nI_eq, w_em, w_me, w_lm, w_ml, w_lem, w_mle, bnd, Option.some.injEq, xI_n, yI_n, xL_n, yL_n, xP_n, xG_n, I_same, I_row, I_col, L_1, Q_1, R_same, R_row, if_pos, if_neg, ite_self, not_true, not_false, decide_true, decide_false, Nat.add_assoc, true_and, and_true, Nat.zero_add, Nat.add_zero, Nat.mul_zero, Nat.mul_one, Nat.one_mul, eq_self, decide_eq_true, decide_eq_false, Bool.true_eq_false, Bool.false_eq_true, ↓reduceIte, Nat.reduceAdd, Nat.reduceMul, Nat.reduceSub, Nat.reduceDiv, Nat.reduceMod, bb_t, bb_f, e4]
  · simp (disch := omega) only [k_0, k_1, k_2, k_3, k_4, k_5, k_6, k_7, k_8, k_9, k_10, k_11, k_12, k_13, k_14, k_15, k_16, k_17, k_18, k_19, k_20, k_21, k_22, k_23, k_24, k_25, k_26, k_27, k_28, k_29, k_30, k_31, k_32, k_33, k_34, k_35, k_36, k_37, k_38, k_39, k_40, k_41, k_42, k_43, k_44, k_45, k_46, k_47, k_48, k_49, k_50, k_51, k_52, k_53, k_54, k_55, k_56, k_57, k_58, k_59, k_60, k_61, k_62, k_63, k_64, k_65, k_66, k_67, k_68, k_69, k_70, k_71, k_72, k_73, k_74, k_75, k_76, k_77, k_78, k_79, k_80, k_81, k_82, k_83, k_84, k_85, k_86, k_87, k_88, k_89, k_90, k_91, k_92, k_93, k_94, k_95, k_96, k_97, k_98, k_99, k_100, k_101, k_102, k_103, k_104, k_105, k_106, k_107, k_108, k_109, k_110, k_111, k_112, k_113, k_114, k_115, k_116, k_117, k_118, k_119, k_120, k_121, k_122, k_123, k_124, k_125, k_126, k_127, k_128, k_129, k_130, k_133, k_144, k_145, k_153, k_193, k_203, k_211, k_227, k_255, k_256, k_280, k_300, k_313, k_371, k_433, k_705, k_997, k_999, k_1000, k_4176, k_4547, k_9999, k_10000, k_30557, k_99999, k_1000000, k_1000000000, nI_add, pk_mul, w_sub, w_rem, w_div, w_dv, w_rm, nI_leI, nI_ltI, nI_eq, w_em, w_me, w_lm, w_ml, w_lem, w_mle, bnd, Option.some.injEq, xI_n, yI_n, xL_n, yL_n, xP_n, xG_n, I_same, I_row, I_col, L_1, Q_1, R_same, R_row, if_pos, if_neg, ite_self, not_true, not_false, decide_true, decide_false, Nat.add_assoc, true_and, and_true, Nat.zero_add, Nat.add_zero, Nat.mul_zero, Nat.mul_one, Nat.one_mul, eq_self, decide_eq_true, decide_eq_false, Bool.true_eq_false, Bool.false_eq_true, ↓reduceIte, Nat.reduceAdd, Nat.reduceMul, Nat.reduceSub, Nat.reduceDiv, Nat.reduceMod, bb_t, bb_f, e0]
  · simp (disch := omega) only [k_0, k_1, k_2, k_3, k_4, k_5, k_6, k_7, k_8, k_9, k_10, k_11, k_12, k_13, k_14, k_15, k_16, k_17, k_18, k_19, k_20, k_21, k_22, k_23, k_24, k_25, k_26, k_27, k_28, k_29, k_30, k_31, k_32, k_33, k_34, k_35, k_36, k_37, k_38, k_39, k_40, k_41, k_42, k_43, k_44, k_45, k_46, k_47, k_48, k_49, k_50, k_51, k_52, k_53, k_54, k_55, k_56, k_57, k_58, k_59, k_60, k_61, k_62, k_63, k_64, k_65, k_66, k_67, k_68, k_69, k_70, k_71, k_72, k_73, k_74, k_75, k_76, k_77, k_78, k_79, k_80, k_81, k_82, k_83, k_84, k_85, k_86, k_87, k_88, k_89, k_90, k_91, k_92, k_93, k_94, k_95, k_96, k_97, k_98, k_99, k_100, k_101, k_102, k_103, k_104, k_105, k_106, k_107, k_108, k_109, k_110, k_111, k_112, k_113, k_114, k_115, k_116, k_117, k_118, k_119, k_120, k_121, k_122, k_123, k_124, k_125, k_126, k_127, k_128, k_129, k_130, k_133, k_144, k_145, k_153, k_193, k_203, k_211, k_227, k_255, k_256, k_280, k_300, k_313, k_371, k_433, k_705, k_997, k_999, k_1000, k_4176, k_4547, k_9999, k_10000, k_30557, k_99999, k_1000000, k_1000000000, nI_add, pk_mul, w_sub, w_rem, w_div, w_dv, w_rm, nI_leI, nI_ltI, nI_eq, w_em, w_me, w_lm, w_ml, w_lem, w_mle, bnd, Option.some.injEq, xI_n, yI_n, xL_n, yL_n, xP_n, xG_n, I_same, I_row, I_col, L_1, Q_1, R_same, R_row, if_pos, if_neg, ite_self, not_true, not_false, decide_true, decide_false, Nat.add_assoc, true_and, and_true, Nat.zero_add, Nat.add_zero, Nat.mul_zero, Nat.mul_one, Nat.one_mul, eq_self, decide_eq_true, decide_eq_false, Bool.true_eq_false, Bool.false_eq_true, ↓reduceIte, Nat.reduceAdd, Nat.reduceMul, Nat.reduceSub, Nat.reduceDiv, Nat.reduceMod, bb_t, bb_f, e1]
  · simp (disch := omega) only [k_0, k_1, k_2, k_3, k_4, k_5, k_6, k_7, k_8, k_9, k_10, k_11, k_12, k_13, k_14, k_15, k_16, k_17, k_18, k_19, k_20, k_21, k_22, k_23, k_24, k_25, k_26, k_27, k_28, k_29, k_30, k_31, k_32, k_33, k_34, k_35, k_36, k_37, k_38, k_39, k_40, k_41, k_42, k_43, k_44, k_45, k_46, k_47, k_48, k_49, k_50, k_51, k_52, k_53, k_54, k_55, k_56, k_57, k_58, k_59, k_60, k_61, k_62, k_63, k_64, k_65, k_66, k_67, k_68, k_69, k_70, k_71, k_72, k_73, k_74, k_75, k_76, k_77, k_78, k_79, k_80, k_81, k_82, k_83, k_84, k_85, k_86, k_87, k_88, k_89, k_90, k_91, k_92, k_93, k_94, k_95, k_96, k_97, k_98, k_99, k_100, k_101, k_102, k_103, k_104, k_105, k_106, k_107, k_108, k_109, k_110, k_111, k_112, k_113, k_114, k_115, k_116, k_117, k_118, k_119, k_120, k_121, k_122, k_123, k_124, k_125, k_126, k_127, k_128, k_129, k_130, k_133, k_144, k_145, k_153, k_193, k_203, k_211, k_227, k_255, k_256, k_280, k_300, k_313, k_371, k_433, k_705, k_997, k_999, k_1000, k_4176, k_4547, k_9999, k_10000, k_30557, k_99999, k_1000000, k_1000000000, nI_add, pk_mul, w_sub, w_rem, w_div, w_dv, w_rm, nI_leI, nI_ltI, nI_eq, w_em, w_me, w_lm, w_ml, w_lem, w_mle, bnd, Option.some.injEq, xI_n, yI_n, xL_n, yL_n, xP_n, xG_n, I_same, I_row, I_col, L_1, Q_1, R_same, R_row, if_pos, if_neg, ite_self, not_true, not_false, decide_true, decide_false, Nat.add_assoc, true_and, and_true, Nat.zero_add, Nat.add_zero, Nat.mul_zero, Nat.mul_one, Nat.one_mul, eq_self, decide_eq_true, decide_eq_false, Bool.true_eq_false, Bool.false_eq_true, ↓reduceIte, Nat.reduceAdd, Nat.reduceMul, Nat.reduceSub, Nat.reduceDiv, Nat.reduceMod, bb_t, bb_f, e3]
  · simp (disch := omega) only [k_0, k_1, k_2, k_3, k_4, k_5, k_6, k_7, k_8, k_9, k_10, k_11, k_12, k_13, k_14, k_15, k_16, k_17, k_18, k_19, k_20, k_21, k_22, k_23, k_24, k_25, k_26, k_27, k_28, k_29, k_30, k_31, k_32, k_33, k_34, k_35, k_36, k_37, k_38, k_39, k_40, k_41, k_42, k_43, k_44, k_45, k_46, k_47, k_48, k_49, k_50, k_51, k_52, k_53, k_54, k_55, k_56, k_57, k_58, k_59, k_60, k_61, k_62, k_63, k_64, k_65, k_66, k_67, k_68, k_69, k_70, k_71, k_72, k_73, k_74, k_75, k_76, k_77, k_78, k_79, k_80, k_81, k_82, k_83, k_84, k_85, k_86, k_87, k_88, k_89, k_90, k_91, k_92, k_93, k_94, k_95, k_96, k_97, k_98, k_99, k_100, k_101, k_102, k_103, k_104, k_105, k_106, k_107, k_108, k_109, k_110, k_111, k_112, k_113, k_114, k_115, k_116, k_117, k_118, k_119, k_120, k_121, k_122, k_123, k_124, k_125, k_126, k_127, k_128, k_129, k_130, k_133, k_144, k_145, k_153, k_193, k_203, k_211, k_227, k_255, k_256, k_280, k_300, k_313, k_371, k_433, k_705, k_997, k_999, k_1000, k_4176, k_4547, k_9999, k_10000, k_30557, k_99999, k_1000000, k_1000000000, nI_add, pk_mul, w_sub, w_rem, w_div, w_dv, w_rm, nI_leI, nI_ltI, nI_eq, w_em, w_me, w_lm, w_ml, w_lem, w_mle, bnd, Option.some.injEq, xI_n, yI_n, xL_n, yL_n, xP_n, xG_n, I_same, I_row, I_col, L_1, Q_1, R_same, R_row, if_pos, if_neg, ite_self, not_true, not_false, decide_true, decide_false, Nat.add_assoc, true_and, and_true, Nat.zero_add, Nat.add_zero, Nat.mul_zero, Nat.mul_one, Nat.one_mul, eq_self, decide_eq_true, decide_eq_false, Bool.true_eq_false, Bool.false_eq_true, ↓reduceIte, Nat.reduceAdd, Nat.reduceMul, Nat.reduceSub, Nat.reduceDiv, Nat.reduceMod, bb_t, bb_f, e5]
  · simp (disch := omega) only [k_0, k_1, k_2, k_3, k_4, k_5, k_6, k_7, k_8, k_9, k_10, k_11, k_12, k_13, k_14, k_15, k_16, k_17, k_18, k_19, k_20, k_21, k_22, k_23, k_24, k_25, k_26, k_27, k_28, k_29, k_30, k_31, k_32, k_33, k_34, k_35, k_36, k_37, k_38, k_39, k_40, k_41, k_42, k_43, k_44, k_45, k_46, k_47, k_48, k_49, k_50, k_51, k_52, k_53, k_54, k_55, k_56, k_57, k_58, k_59, k_60, k_61, k_62, k_63, k_64, k_65, k_66, k_67, k_68, k_69, k_70, k_71, k_72, k_73, k_74, k_75, k_76, k_77, k_78, k_79, k_80, k_81, k_82, k_83, k_84, k_85, k_86, k_87, k_88, k_89, k_90, k_91, k_92, k_93, k_94, k_95, k_96, k_97, k_98, k_99, k_100, k_101, k_102, k_103, k_104, k_105, k_106, k_107, k_108, k_109, k_110, k_111, k_112, k_113, k_114, k_115, k_116, k_117, k_118, k_119, k_120, k_121, k_122, k_123, k_124, k_125, k_126, k_127, k_128, k_129, k_130, k_133, k_144, k_145, k_153, k_193, k_203, k_211, k_227, k_255, k_256, k_280, k_300, k_313, k_371, k_433, k_705, k_997, k_999, k_1000, k_4176, k_4547, k_9999, k_10000, k_30557, k_99999, k_1000000, k_1000000000, nI_add, pk_mul, w_sub, w_rem, w_div, w_dv, w_rm, nI_leI, nI_ltI, nI_eq, w_em, w_me, w_lm, w_ml, w_lem, w_mle, bnd, Option.some.injEq, xI_n, yI_n, xL_n, yL_n, xP_n, xG_n, I_same, I_row, I_col, L_1, Q_1, R_same, R_row, if_pos, if_neg, ite_self, not_true, not_false, decide_true, decide_false, Nat.add_assoc, true_and, and_true, Nat.zero_add, Nat.add_zero, Nat.mul_zero, Nat.mul_one, Nat.one_mul, eq_self, decide_eq_true, decide_eq_false, Bool.true_eq_false, Bool.false_eq_true, ↓reduceIte, Nat.reduceAdd, Nat.reduceMul, Nat.reduceSub, Nat.reduceDiv, Nat.reduceMod, bb_t, bb_f]
  · simp (disch := omega) only [k_0, k_1, k_2, k_3, k_4, k_5, k_6, k_7, k_8, k_9, k_10, k_11, k_12, k_13, k_14, k_15, k_16, k_17, k_18, k_19, k_20, k_21, k_22, k_23, k_24, k_25, k_26, k_27, k_28, k_29, k_30, k_31, k_32, k_33, k_34, k_35, k_36, k_37, k_38, k_39, k_40, k_41, k_42, k_43, k_44, k_45, k_46, k_47, k_48, k_49, k_50, k_51, k_52, k_53, k_54, k_55, k_56, k_57, k_58, k_59, k_60, k_61, k_62, k_63, k_64, k_65, k_66, k_67, k_68, k_69, k_70, k_71, k_72, k_73, k_74, k_75, k_76, k_77, k_78, k_79, k_80, k_81, k_82, k_83, k_84, k_85, k_86, k_87, k_88, k_89, k_90, k_91, k_92, k_93, k_94, k_95, k_96, k_97, k_98, k_99, k_100, k_101, k_102, k_103, k_104, k_105, k_106, k_107, k_108, k_109, k_110, k_111, k_112, k_113, k_114, k_115, k_116, k_117, k_118, k_119, k_120, k_121, k_122, k_123, k_124, k_125, k_126, k_127, k_128, k_129, k_130, k_133, k_144, k_145, k_153, k_193, k_203, k_211, k_227, k_255, k_256, k_280, k_300, k_313, k_371, k_433, k_705, k_997, k_999, k_1000, k_4176, k_4547, k_9999, k_10000, k_30557, k_99999, k_1000000, k_1000000000, nI_add, pk_mul, w_sub, w_rem, w_div, w_dv, w_rm, nI_leI, nI_ltI, nI_eq, w_em, w_me, w_lm, w_ml, w_lem, w_mle, bnd, Option.some.injEq, xI_n, yI_n, xL_n, yL_n, xP_n, xG_n, I_same, I_row, I_col, L_1, Q_1, R_same, R_row, if_pos, if_neg, ite_self, not_true, not_false, decide_true, decide_false, Nat.add_assoc, true_and, and_true, Nat.zero_add, Nat.add_zero, Nat.mul_zero, Nat.mul_one, Nat.one_mul, eq_self, decide_eq_true, decide_eq_false, Bool.true_eq_false, Bool.false_eq_true, ↓reduceIte, Nat.reduceAdd, Nat.reduceMul, Nat.reduceSub, Nat.reduceDiv, Nat.reduceMod, bb_t, bb_f, e6]
  · have hd := dc_b (w 5 m)
    by_cases c : w 6 m = dc (w 5 m)
    · simp (disch := omega) only [k_0, k_1, k_2, k_3, k_4, k_5, k_6, k_7, k_8, k_9, k_10, k_11, k_12, k_13, k_14, k_15, k_16, k_17, k_18, k_19, k_20, k_21, k_22, k_23, k_24, k_25, k_26, k_27, k_28, k_29, k_30, k_31, k_32, k_33, k_34, k_35, k_36, k_37, k_38, k_39, k_40, k_41, k_42, k_43, k_44, k_45, k_46, k_47, k_48, k_49, k_50, k_51, k_52, k_53, k_54, k_55, k_56, k_57, k_58, k_59, k_60, k_61, k_62, k_63, k_64, k_65, k_66, k_67, k_68, k_69, k_70, k_71, k_72, k_73, k_74, k_75, k_76, k_77, k_78, k_79, k_80, k_81, k_82, k_83, k_84, k_85, k_86, k_87, k_88, k_89, k_90, k_91, k_92, k_93, k_94, k_95, k_96, k_97, k_98, k_99, k_100, k_101, k_102, k_103, k_104, k_105, k_106, k_107, k_108, k_109, k_110, k_111, k_112, k_113, k_114, k_115, k_116, k_117, k_118, k_119, k_120, k_121, k_122, k_123, k_124, k_125, k_126, k_127, k_128, k_129, k_130, k_133, k_144, k_145, k_153, k_193, k_203, k_211, k_227, k_255, k_256, k_280, k_300, k_313, k_371, k_433, k_705, k_997, k_999, k_1000, k_4176, k_4547, k_9999, k_10000, k_30557, k_99999, k_1000000, k_1000000000, nI_add, pk_mul, w_sub, w_rem, w_div, w_dv, w_rm, nI_leI, nI_ltI, nI_eq, w_em, w_me, w_lm, w_ml, w_lem, w_mle, bnd, Option.some.injEq, xI_n, yI_n, xL_n, yL_n, xP_n, xG_n, I_same, I_row, I_col, L_1, Q_1, R_same, R_row, if_pos, if_neg, ite_self, not_true, not_false, decide_true, decide_false, Nat.add_assoc, true_and, and_true, Nat.zero_add, Nat.add_zero, Nat.mul_zero, Nat.mul_one, Nat.one_mul, eq_self, decide_eq_true, decide_eq_false, Bool.true_eq_false, Bool.false_eq_true, ↓reduceIte, Nat.reduceAdd, Nat.reduceMul, Nat.reduceSub, Nat.reduceDiv, Nat.reduceMod, bb_t, bb_f, e5, e6, dc10, c]
    · simp (disch := omega) only [k_0, k_1, k_2, k_3, k_4, k_5, k_6, k_7, k_8, k_9, k_10, k_11, k_12, k_13, k_14, k_15, k_16, k_17, k_18, k_19, k_20, k_21, k_22, k_23, k_24, k_25, k_26, k_27, k_28, k_29, k_30, k_31, k_32, k_33, k_34, k_35, k_36, k_37, k_38, k_39, k_40, k_41, k_42, k_43, k_44, k_45, k_46, k_47, k_48, k_49, k_50, k_51, k_52, k_53, k_54, k_55, k_56, k_57, k_58, k_59, k_60, k_61, k_62, k_63, k_64, k_65, k_66, k_67, k_68, k_69, k_70, k_71, k_72, k_73, k_74, k_75, k_76, k_77, k_78, k_79, k_80, k_81, k_82, k_83, k_84, k_85, k_86, k_87, k_88, k_89, k_90, k_91, k_92, k_93, k_94, k_95, k_96, k_97, k_98, k_99, k_100, k_101, k_102, k_103, k_104, k_105, k_106, k_107, k_108, k_109, k_110, k_111, k_112, k_113, k_114, k_115, k_116, k_117, k_118, k_119, k_120, k_121, k_122, k_123, k_124, k_125, k_126, k_127, k_128, k_129, k_130, k_133, k_144, k_145, k_153, k_193, k_203, k_211, k_227, k_255, k_256, k_280, k_300, k_313, k_371, k_433, k_705, k_997, k_999, k_1000, k_4176, k_4547, k_9999, k_10000, k_30557, k_99999, k_1000000, k_1000000000, nI_add, pk_mul, w_sub, w_rem, w_div, w_dv, w_rm, nI_leI, nI_ltI, nI_eq, w_em, w_me, w_lm, w_ml, w_lem, w_mle, bnd, Option.some.injEq, xI_n, yI_n, xL_n, yL_n, xP_n, xG_n, I_same, I_row, I_col, L_1, Q_1, R_same, R_row, if_pos, if_neg, ite_self, not_true, not_false, decide_true, decide_false, Nat.add_assoc, true_and, and_true, Nat.zero_add, Nat.add_zero, Nat.mul_zero, Nat.mul_one, Nat.one_mul, eq_self, decide_eq_true, decide_eq_false, Bool.true_eq_false, Bool.false_eq_true, ↓reduceIte, Nat.reduceAdd, Nat.reduceMul, Nat.reduceSub, Nat.reduceDiv, Nat.reduceMod, bb_t, bb_f, e5, e6, dc10, c]
theorem sums_c {b : Nat} (hw : WR τ b w) (hW : WFw w) (x : Int32) : g_X0_ofOne N (nI 19) x b τ = some (nI (suw w x.toInt)) := by
  have e0 : τ.1 b 0 = nI (w 0 0) := hw 0 0 (by omega)
  have hc : w 0 0 ≤ 5 := hW.1
  unfold g_X0_ofOne g_X0_ofOne_0
  rcases has9 (N := N) e0 hc x with ⟨h1, h2⟩ | ⟨k, hk, rfl, h1⟩
  · have es : suw w x.toInt = 0 := by
      refine if_neg ?_
      rintro ⟨q1, q2⟩
      refine h2 x.toInt.toNat (by omega) ?_
      apply Int32.toInt_inj.mp
      rw [nI_toInt (by omega)]
      omega
    rw [es]
    simp (disch := omega) only [k_0, k_1, k_2, k_3, k_4, k_5, k_6, k_7, k_8, k_9, k_10, k_11, k_12, k_13, k_14, k_15, k_16, k_17, k_18, k_19, k_20, k_21, k_22, k_23, k_24, k_25, k_26, k_27, k_28, k_29, k_30, k_31, k_32, k_33, k_34, k_35, k_36, k_37, k_38, k_39, k_40, k_41, k_42, k_43, k_44, k_45, k_46, k_47, k_48, k_49, k_50, k_51, k_52, k_53, k_54, k_55, k_56, k_57, k_58, k_59, k_60, k_61, k_62, k_63, k_64, k_65, k_66, k_67, k_68, k_69, k_70, k_71, k_72, k_73, k_74, k_75, k_76, k_77, k_78, k_79, k_80, k_81, k_82, k_83, k_84, k_85, k_86, k_87, k_88, k_89, k_90, k_91, k_92, k_93, k_94, k_95, k_96, k_97, k_98, k_99, k_100, k_101, k_102, k_103, k_104, k_105, k_106, k_107, k_108, k_109, k_110, k_111, k_112, k_113, k_114, k_115, k_116, k_117, k_118, k_119, k_120, k_121, k_122, k_123, k_124, k_125, k_126, k_127, k_128, k_129, k_130, k_133, k_144, k_145, k_153, k_193, k_203, k_211, k_227, k_255, k_256, k_280, k_300, k_313, k_371, k_433, k_705, k_997, k_999, k_1000, k_4176, k_4547, k_9999, k_10000, k_30557, k_99999, k_1000000, k_1000000000, nI_add, pk_mul, w_sub, w_rem, w_div, w_dv, w_rm, nI_leI, nI_ltI, nI_eq, w_em, w_me, w_lm, w_ml, w_lem, w_mle, bnd, Option.some.injEq, xI_n, yI_n, xL_n, yL_n, xP_n, xG_n, I_same, I_row, I_col, L_1, Q_1, R_same, R_row, if_pos, if_neg, ite_self, not_true, not_false, decide_true, decide_false, Nat.add_assoc, true_and, and_true, Nat.zero_add, Nat.add_zero, Nat.mul_zero, Nat.mul_one, Nat.one_mul, eq_self, decide_eq_true, decide_eq_false, Bool.true_eq_false, Bool.false_eq_true, ↓reduceIte, Nat.reduceAdd, Nat.reduceMul, Nat.reduceSub, Nat.reduceDiv, Nat.reduceMod, bb_t, bb_f, h1]
  · have e5 : τ.1 (b + 5) k = nI (w 5 k) := hw 5 k (by omega)
    have ek : (nI k).toInt = k := nI_toInt (by omega)
    have es : suw w (nI k).toInt = w 5 k := by
      unfold suw
      rw [ek, if_pos (by omega), Int.toNat_natCast]
    rw [es]
    simp (disch := omega) only [k_0, k_1, k_2, k_3, k_4, k_5, k_6, k_7, k_8, k_9, k_10, k_11, k_12, k_13, k_14, k_15, k_16, k_17, k_18, k_19, k_20, k_21, k_22, k_23, k_24, k_25, k_26, k_27, k_28, k_29, k_30, k_31, k_32, k_33, k_34, k_35, k_36, k_37, k_38, k_39, k_40, k_41, k_42, k_43, k_44, k_45, k_46, k_47, k_48, k_49, k_50, k_51, k_52, k_53, k_54, k_55, k_56, k_57, k_58, k_59, k_60, k_61, k_62, k_63, k_64, k_65, k_66, k_67, k_68, k_69, k_70, k_71, k_72, k_73, k_74, k_75, k_76, k_77, k_78, k_79, k_80, k_81, k_82, k_83, k_84, k_85, k_86, k_87, k_88, k_89, k_90, k_91, k_92, k_93, k_94, k_95, k_96, k_97, k_98, k_99, k_100, k_101, k_102, k_103, k_104, k_105, k_106, k_107, k_108, k_109, k_110, k_111, k_112, k_113, k_114, k_115, k_116, k_117, k_118, k_119, k_120, k_121, k_122, k_123, k_124, k_125, k_126, k_127, k_128, k_129, k_130, k_133, k_144, k_145, k_153, k_193, k_203, k_211, k_227, k_255, k_256, k_280, k_300, k_313, k_371, k_433, k_705, k_997, k_999, k_1000, k_4176, k_4547, k_9999, k_10000, k_30557, k_99999, k_1000000, k_1000000000, nI_add, pk_mul, w_sub, w_rem, w_div, w_dv, w_rm, nI_leI, nI_ltI, nI_eq, w_em, w_me, w_lm, w_ml, w_lem, w_mle, bnd, Option.some.injEq, xI_n, yI_n, xL_n, yL_n, xP_n, xG_n, I_same, I_row, I_col, L_1, Q_1, R_same, R_row, if_pos, if_neg, ite_self, not_true, not_false, decide_true, decide_false, Nat.add_assoc, true_and, and_true, Nat.zero_add, Nat.add_zero, Nat.mul_zero, Nat.mul_one, Nat.one_mul, eq_self, decide_eq_true, decide_eq_false, Bool.true_eq_false, Bool.false_eq_true, ↓reduceIte, Nat.reduceAdd, Nat.reduceMul, Nat.reduceSub, Nat.reduceDiv, Nat.reduceMod, bb_t, bb_f, h1, e5]
theorem one_c {b k : Nat} (hw : WR τ b w) (hW : WFw w) (hk : k = 18 ∨ k = 19 ∨ k = 26 ∨ k = 43) (x : Int32) : g_X0_ofOne N (nI k) x b τ = c1S k (suw w) x := by
  obtain rfl | rfl | rfl | rfl := hk
  · unfold g_X0_ofOne g_X0_ofOne_0 c1S
    rw [if_neg (by decide), if_neg (by decide), if_neg (by decide), if_neg (by decide), if_neg (by decide), if_neg (by decide)]
    cases f_X0_crossSum (jabs x) <;> rfl
  · rw [sums_c hw hW]
    rfl
  · unfold g_X0_ofOne g_X0_ofOne_0 c1S
    by_cases c : x = nI 0
    · simp (disch := omega) only [k_0, k_1, k_2, k_3, k_4, k_5, k_6, k_7, k_8, k_9, k_10, k_11, k_12, k_13, k_14, k_15, k_16, k_17, k_18, k_19, k_20, k_21, k_22, k_23, k_24, k_25, k_26, k_27, k_28, k_29, k_30, k_31, k_32, k_33, k_34, k_35, k_36, k_37, k_38, k_39, k_40, k_41, k_42, k_43, k_44, k_45, k_46, k_47, k_48, k_49, k_50, k_51, k_52, k_53, k_54, k_55, k_56, k_57, k_58, k_59, k_60, k_61, k_62, k_63, k_64, k_65, k_66, k_67, k_68, k_69, k_70, k_71, k_72, k_73, k_74, k_75, k_76, k_77, k_78, k_79, k_80, k_81, k_82, k_83, k_84, k_85, k_86, k_87, k_88, k_89, k_90, k_91, k_92, k_93, k_94, k_95, k_96, k_97, k_98, k_99, k_100, k_101, k_102, k_103, k_104, k_105, k_106, k_107, k_108, k_109, k_110, k_111, k_112, k_113, k_114, k_115, k_116, k_117, k_118, k_119, k_120, k_121, k_122, k_123, k_124, k_125, k_126, k_127, k_128, k_129, k_130, k_133, k_144, k_145, k_153, k_193, k_203, k_211, k_227, k_255, k_256, k_280, k_300, k_313, k_371, k_433, k_705, k_997, k_999, k_1000, k_4176, k_4547, k_9999, k_10000, k_30557, k_99999, k_1000000, k_1000000000, nI_add, pk_mul, w_sub, w_rem, w_div, w_dv, w_rm, nI_leI, nI_ltI, nI_eq, w_em, w_me, w_lm, w_ml, w_lem, w_mle, bnd, Option.some.injEq, xI_n, yI_n, xL_n, yL_n, xP_n, xG_n, I_same, I_row, I_col, L_1, Q_1, R_same, R_row, if_pos, if_neg, ite_self, not_true, not_false, decide_true, decide_false, Nat.add_assoc, true_and, and_true, Nat.zero_add, Nat.add_zero, Nat.mul_zero, Nat.mul_one, Nat.one_mul, eq_self, decide_eq_true, decide_eq_false, Bool.true_eq_false, Bool.false_eq_true, ↓reduceIte, Nat.reduceAdd, Nat.reduceMul, Nat.reduceSub, Nat.reduceDiv, Nat.reduceMod, bb_t, bb_f, c]
    · simp (disch := omega) only [k_0, k_1, k_2, k_3, k_4, k_5, k_6, k_7, k_8, k_9, k_10, k_11, k_12, k_13, k_14, k_15, k_16, k_17, k_18, k_19, k_20, k_21, k_22, k_23, k_24, k_25, k_26, k_27, k_28, k_29, k_30, k_31, k_32, k_33, k_34, k_35, k_36, k_37, k_38, k_39, k_40, k_41, k_42, k_43, k_44, k_45, k_46, k_47, k_48, k_49, k_50, k_51, k_52, k_53, k_54, k_55, k_56, k_57, k_58, k_59, k_60, k_61, k_62, k_63, k_64, k_65, k_66, k_67, k_68, k_69, k_70, k_71, k_72, k_73, k_74, k_75, k_76, k_77, k_78, k_79, k_80, k_81, k_82, k_83, k_84, k_85, k_86, k_87, k_88, k_89, k_90, k_91, k_92, k_93, k_94, k_95, k_96, k_97, k_98, k_99, k_100, k_101, k_102, k_103, k_104, k_105, k_106, k_107, k_108, k_109, k_110, k_111, k_112, k_113, k_114, k_115, k_116, k_117, k_118, k_119, k_120, k_121, k_122, k_123, k_124, k_125, k_126, k_127, k_128, k_129, k_130, k_133, k_144, k_145, k_153, k_193, k_203, k_211, k_227, k_255, k_256, k_280, k_300, k_313, k_371, k_433, k_705, k_997, k_999, k_1000, k_4176, k_4547, k_9999, k_10000, k_30557, k_99999, k_1000000, k_1000000000, nI_add, pk_mul, w_sub, w_rem, w_div, w_dv, w_rm, nI_leI, nI_ltI, nI_eq, w_em, w_me, w_lm, w_ml, w_lem, w_mle, bnd, Option.some.injEq, xI_n, yI_n, xL_n, yL_n, xP_n, xG_n, I_same, I_row, I_col, L_1, Q_1, R_same, R_row, if_pos, if_neg, ite_self, not_true, not_false, decide_true, decide_false, Nat.add_assoc, true_and, and_true, Nat.zero_add, Nat.add_zero, Nat.mul_zero, Nat.mul_one, Nat.one_mul, eq_self, decide_eq_true, decide_eq_false, Bool.true_eq_false, Bool.false_eq_true, ↓reduceIte, Nat.reduceAdd, Nat.reduceMul, Nat.reduceSub, Nat.reduceDiv, Nat.reduceMod, bb_t, bb_f, c]
  · unfold g_X0_ofOne g_X0_ofOne_0 c1S
    simp (disch := omega) only [k_0, k_1, k_2, k_3, k_4, k_5, k_6, k_7, k_8, k_9, k_10, k_11, k_12, k_13, k_14, k_15, k_16, k_17, k_18, k_19, k_20, k_21, k_22, k_23, k_24, k_25, k_26, k_27, k_28, k_29, k_30, k_31, k_32, k_33, k_34, k_35, k_36, k_37, k_38, k_39, k_40, k_41, k_42, k_43, k_44, k_45, k_46, k_47, k_48, k_49, k_50, k_51, k_52, k_53, k_54, k_55, k_56, k_57, k_58, k_59, k_60, k_61, k_62, k_63, k_64, k_65, k_66, k_67, k_68, k_69, k_70, k_71, k_72, k_73, k_74, k_75, k_76, k_77, k_78, k_79, k_80, k_81, k_82, k_83, k_84, k_85, k_86, k_87, k_88, k_89, k_90, k_91, k_92, k_93, k_94, k_95, k_96, k_97, k_98, k_99, k_100, k_101, k_102, k_103, k_104, k_105, k_106, k_107, k_108, k_109, k_110, k_111, k_112, k_113, k_114, k_115, k_116, k_117, k_118, k_119, k_120, k_121, k_122, k_123, k_124, k_125, k_126, k_127, k_128, k_129, k_130, k_133, k_144, k_145, k_153, k_193, k_203, k_211, k_227, k_255, k_256, k_280, k_300, k_313, k_371, k_433, k_705, k_997, k_999, k_1000, k_4176, k_4547, k_9999, k_10000, k_30557, k_99999, k_1000000, k_1000000000, nI_add, pk_mul, w_sub, w_rem, w_div, w_dv, w_rm, nI_leI, nI_ltI, nI_eq, w_em, w_me, w_lm, w_ml, w_lem, w_mle, bnd, Option.some.injEq, xI_n, yI_n, xL_n, yL_n, xP_n, xG_n, I_same, I_row, I_col, L_1, Q_1, R_same, R_row, if_pos, if_neg, ite_self, not_true, not_false, decide_true, decide_false, Nat.add_assoc, true_and, and_true, Nat.zero_add, Nat.add_zero, Nat.mul_zero, Nat.mul_one, Nat.one_mul, eq_self, decide_eq_true, decide_eq_false, Bool.true_eq_false, Bool.false_eq_true, ↓reduceIte, Nat.reduceAdd, Nat.reduceMul, Nat.reduceSub, Nat.reduceDiv, Nat.reduceMod, bb_t, bb_f]
theorem cS_l {i a : Nat} {st s : List Int32} (h : cS O P f g i st = some (a, s)) : s.length ≤ st.length + 1 := by
  unfold cS at h
  split at h
  · cases st with
    | nil => cases h
    | cons c st =>
      cases h
      rw [List.length_cons]
      omega
  split at h
  · cases h
    omega
  split at h
  · cases h
    rw [List.length_cons]
    omega
  split at h
  · split at h
    · cases h
      rw [List.length_cons]
      omega
    · cases h
  split at h
  · cases st with
    | nil => cases h
    | cons x st =>
      dsimp only at h
      cases e : c1S (O i) g x with
      | none => rw [e] at h; cases h
      | some v =>
        rw [e] at h
        cases h
        rw [List.length_cons, List.length_cons]
        omega
  · match st, h with
    | [], h => cases h
    | [_], h => cases h
    | y :: x :: st, h =>
      dsimp only at h
      cases e : f_X0_ofTwo (nI (O i)) x y with
      | none => rw [e] at h; cases h
      | some v =>
        rw [e] at h
        cases h
        rw [List.length_cons, List.length_cons, List.length_cons]
        omega
theorem as_s {t to b m i n a : Nat} {st s : List Int32} (hT : TO N t O P to) (hb : b + 9 ≤ 601 ∨ 603 ≤ b) (hw : WR τ b w) (hW : WFw w) (hm : m < 5) (hto : to ≤ 300) (hi : i < to) (hl : st.length < 300) (hS : SS1 τ st) (h : cS O P (enw w m) (suw w) i st = some (a, s)) : ∃ τ', g_X0_asked_33 N (n + 1) 601 (some t) b (nI m) (nI to) (nI i) τ = g_X0_asked_33 N n 601 (some t) b (nI m) (nI to) (nI a) τ' ∧ SS1 τ' s ∧ AF τ τ' := by
  obtain ⟨u0, u1, g0, g1, hr⟩ := hT
  obtain ⟨r0, r1, bO, bP⟩ := hr i hi
  have ne : ∀ q, O i ≠ q → q < 1000 → ¬ nI (O i) = nI q := fun q h1 h2 h3 => h1 ((nI_eq (by omega) (by omega)).mp h3)
  have ad : nI i + nI 1 = nI (i + 1) := nI_add _ _
  rw [g_X0_asked_33, if_neg (nI_ge hi (by omega)), bnd, g0, bnd, r0, bnd, g1, bnd, r1, bnd, k_21, k_22, k_27, k_15, k_18, k_19, k_26, k_43, k_1, k_0, ad]
  unfold cS at h
  by_cases c21 : O i = 21
  · rw [if_pos c21] at h
    rw [if_pos (by rw [c21])]
    cases st with
    | nil => cases h
    | cons c st =>
      rw [List.length_cons] at hl
      obtain ⟨p1, p2⟩ := pop_c (N := N) hS (by omega)
      dsimp only at h
      rw [k_0] at h
      rw [p1, bnd]
      dsimp only
      refine ⟨setI τ 601 1 (nI st.length), ?_, ?_, AF.rfl.s1⟩
      · by_cases c0 : c = nI 0
        · rw [if_pos c0] at h
          cases h
          rw [if_pos c0, jmx (by omega) (by omega), nI_add]
        · rw [if_neg c0] at h
          cases h
          rw [if_neg c0]
      · cases h
        exact p2
  rw [if_neg c21] at h
  rw [if_neg (ne 21 c21 (by omega))]
  by_cases c22 : O i = 22
  · rw [if_pos c22] at h
    rw [if_pos (by rw [c22])]
    cases h
    refine ⟨τ, ?_, hS, AF.rfl⟩
    rw [jmx (by omega) (by omega), nI_add]
  rw [if_neg c22] at h
  rw [if_neg (ne 22 c22 (by omega))]
  by_cases c27 : O i = 27
  · rw [if_pos c27] at h
    rw [if_pos (by rw [c27])]
    cases h
    obtain ⟨τ', q1, q2, q3⟩ := push_c (N := N) (x := nI (P i)) hS hl
    refine ⟨τ', ?_, q2, q3⟩
    rw [q1, bnd]
  rw [if_neg c27] at h
  rw [if_neg (ne 27 c27 (by omega))]
  by_cases c15 : O i ≤ 15
  · rw [if_pos c15] at h
    rw [if_neg (nI_nlt c15 (by omega))]
    by_cases c8 : 8 ≤ O i
    · rw [if_pos c8] at h
      cases h
      have hn := named_c (N := N) hw hW hm c8 c15
      obtain ⟨τ', q1, q2, q3⟩ := push_c (N := N) (x := nI (enw w m (nmI (O i)))) hS hl
      refine ⟨τ', ?_, q2, q3⟩
      rw [hn, bnd, q1, bnd]
    · rw [if_neg c8] at h
      cases h
  rw [if_neg c15] at h
  rw [if_pos (nI_lt (by omega) (by omega))]
  by_cases c1 : O i = 18 ∨ O i = 19 ∨ O i = 26 ∨ O i = 43
  · rw [if_pos c1] at h
    cases st with
    | nil => cases h
    | cons x st =>
      rw [List.length_cons] at hl
      obtain ⟨p1, p2⟩ := pop_c (N := N) hS (by omega)
      dsimp only at h
      cases e : c1S (O i) (suw w) x with
      | none => rw [e] at h; cases h
      | some v =>
        rw [e] at h
        cases h
        obtain ⟨τ', q1, q2, q3⟩ := push_c (N := N) (x := v) p2 (by omega)
        refine ⟨τ', ?_, q2, (AF.rfl.s1).t q3⟩
        have ho : g_X0_ofOne N (nI (O i)) x b (setI τ 601 1 (nI st.length)) = some v := by
          rw [← e]
          exact one_c ((AF.rfl.s1).wr hb hw) hW c1 x
        have h178 : g_X0_asked_178 N (g_X0_asked_33 N n) 601 (some t) b (nI m) (nI to) (nI i) (nI (O i)) τ = g_X0_asked_33 N n 601 (some t) b (nI m) (nI to) (nI (i + 1)) τ' := by
          unfold g_X0_asked_178
          rw [p1, bnd]
          dsimp only
          rw [ho, bnd, q1, bnd, k_1, ad]
        by_cases d18 : O i = 18
        · rw [if_pos (by rw [d18]), h178]
        · rw [if_neg (ne 18 d18 (by omega))]
          by_cases d19 : O i = 19
          · rw [if_pos (by rw [d19]), h178]
          · rw [if_neg (ne 19 d19 (by omega))]
            by_cases d26 : O i = 26
            · rw [if_pos (by rw [d26]), h178]
            · rw [if_neg (ne 26 d26 (by omega))]
              have d43 : O i = 43 := by omega
              rw [if_pos (by rw [d43]), h178]
  rw [if_neg c1] at h
  rw [if_neg (ne 18 (by omega) (by omega)), if_neg (ne 19 (by omega) (by omega)), if_neg (ne 26 (by omega) (by omega)), if_neg (ne 43 (by omega) (by omega))]
  match st, hS, hl, h with
  | [], _, _, h => cases h
  | [_], _, _, h => cases h
  | y :: x :: st, hS, hl, h =>
    rw [List.length_cons, List.length_cons] at hl
    obtain ⟨p1, p2⟩ := pop_c (N := N) hS (by rw [List.length_cons]; omega)
    obtain ⟨p3, p4⟩ := pop_c (N := N) p2 (by omega)
    dsimp only at h
    cases e : f_X0_ofTwo (nI (O i)) x y with
    | none => rw [e] at h; cases h
    | some v =>
      rw [e] at h
      cases h
      obtain ⟨τ', q1, q2, q3⟩ := push_c (N := N) (x := v) p4 (by omega)
      refine ⟨τ', ?_, q2, ((AF.rfl.s1).s1).t q3⟩
      rw [p1, bnd]
      dsimp only
      rw [p3, bnd]
      dsimp only
      rw [e, bnd, q1, bnd]
theorem as_r {t to b m F : Nat} (hT : TO N t O P to) (hb : b + 9 ≤ 601 ∨ 603 ≤ b) (hW : WFw w) (hm : m < 5) (hto : to ≤ 300) : ∀ k i st s n τ, Cr O P (enw w m) (suw w) k i st to s → k ≤ n → st.length + F ≤ i → WR τ b w → SS1 τ st → ∃ τ', g_X0_asked_33 N n 601 (some t) b (nI m) (nI to) (nI i) τ = g_X0_asked_33 N (n - k) 601 (some t) b (nI m) (nI to) (nI to) τ' ∧ SS1 τ' s ∧ AF τ τ' := by
  intro k
  induction k with
  | zero =>
    rintro i st s n τ ⟨rfl, rfl⟩ hn hl hw hS
    exact ⟨τ, by rw [Nat.sub_zero], hS, AF.rfl⟩
  | succ k ih =>
    rintro i st s n τ ⟨a, s1, h1, h2, h3⟩ hn hl hw hS
    have hle := Cr_le _ _ _ _ _ h3
    obtain ⟨n, rfl⟩ : ∃ x, n = x + 1 := ⟨n - 1, by omega⟩
    obtain ⟨τ1, a1, a2, a3⟩ := as_s (N := N) (n := n) hT hb hw hW hm hto (by omega) (by omega) hS h1
    have hl1 := cS_l h1
    obtain ⟨τ', b1, b2, b3⟩ := ih a s1 s n τ1 h3 (by omega) (by omega) (a3.wr hb hw) a2
    refine ⟨τ', ?_, b2, a3.t b3⟩
    rw [a1, b1, show n + 1 - (k + 1) = n - k by omega]
theorem asked_c {t nO b m F T l : Nat} {x : Int32} {u2 u3 : Nat} (hT : TO N t O P nO) (hln : ∃ u0, gR N 8 t 0 = some u0 ∧ lnA N u0 = some (nI nO)) (hnO : nO ≤ 300) (hb : b + 9 ≤ 601 ∨ 603 ≤ b) (hW : WFw w) (hm : m < 5) (g2 : gR N 8 t 2 = some u2) (g3 : gR N 8 t 3 = some u3) (r2 : rI N u2 (nI l) = some (nI F)) (r3 : rI N u3 (nI l) = some (nI T)) (hFT : F ≤ T) (hTn : T ≤ nO) (hw : WR τ b w) (h : Cq O P (enw w m) (suw w) F [] T [x]) : ∃ τ', g_X0_asked N 601 (some t) (nI l) b (nI m) τ = some (x, τ') ∧ AF τ τ' := by
  obtain ⟨u0, q1, q2⟩ := hln
  obtain ⟨k, hk⟩ := h
  have hle := Cr_le _ _ _ _ _ hk
  have hT2 : TO N t O P T := by
    obtain ⟨u0, u1, g0, g1, hr⟩ := hT
    exact ⟨u0, u1, g0, g1, fun i hi => hr i (by omega)⟩
  have hw2 : WR (setI τ 601 1 (nI 0)) b w := (AF.rfl.s1).wr hb hw
  obtain ⟨τ1, a1, a2, a3⟩ := as_r (N := N) (F := F) hT2 hb hW hm (by omega) k F [] [x] fu (setI τ 601 1 (nI 0)) hk (by unfold fu; omega) (by rw [List.length_nil]; omega) hw2 ⟨I_same rfl rfl, trivial⟩
  obtain ⟨p1, p2⟩ := pop_c (N := N) a2 (by rw [List.length_nil]; omega)
  refine ⟨setI τ1 601 1 (nI ([] : List Int32).length), ?_, ((AF.rfl.s1).t a3).s1⟩
  obtain ⟨z, hz⟩ : ∃ z, fu - k = z + 1 := ⟨999999 - k, by unfold fu; omega⟩
  have e1 : jmin (nI T) (nI nO) = nI T := by rw [jmin_n (by omega) (by omega), Nat.min_eq_left hTn]
  have e2 : jmax (nI 0) (nI F) = nI F := by rw [jmax_n (by omega) (by omega), show max 0 F = F by omega]
  rw [hz, g_X0_asked_33, if_pos (nI_le (Nat.le_refl _) (by omega)), p1, bnd] at a1
  unfold g_X0_asked g_X0_asked_0
  simp (disch := omega) only [k_0, k_1, k_2, k_3, k_4, k_5, k_6, k_7, k_8, k_9, k_10, k_11, k_12, k_13, k_14, k_15, k_16, k_17, k_18, k_19, k_20, k_21, k_22, k_23, k_24, k_25, k_26, k_27, k_28, k_29, k_30, k_31, k_32, k_33, k_34, k_35, k_36, k_37, k_38, k_39, k_40, k_41, k_42, k_43, k_44, k_45, k_46, k_47, k_48, k_49, k_50, k_51, k_52, k_53, k_54, k_55, k_56, k_57, k_58, k_59, k_60, k_61, k_62, k_63, k_64, k_65, k_66, k_67, k_68, k_69, k_70, k_71, k_72, k_73, k_74, k_75, k_76, k_77, k_78, k_79, k_80, k_81, k_82, k_83, k_84, k_85, k_86, k_87, k_88, k_89, k_90, k_91, k_92, k_93, k_94, k_95, k_96, k_97, k_98, k_99, k_100, k_101, k_102, k_103, k_104, k_105, k_106, k_107, k_108, k_109, k_110, k_111, k_112, k_113, k_114, k_115, k_116, k_117, k_118, k_119, k_120, k_121, k_122, k_123, k_124, k_125, k_126, k_127, k_128, k_129, k_130, k_133, k_144, k_145, k_153, k_193, k_203, k_211, k_227, k_255, k_256, k_280, k_300, k_313, k_371, k_433, k_705, k_997, k_999, k_1000, k_4176, k_4547, k_9999, k_10000, k_30557, k_99999, k_1000000, k_1000000000, nI_add, pk_mul, w_sub, w_rem, w_div, w_dv, w_rm, nI_leI, nI_ltI, nI_eq, w_em, w_me, w_lm, w_ml, w_lem, w_mle, bnd, Option.some.injEq, xI_n, yI_n, xL_n, yL_n, xP_n, xG_n, I_same, I_row, I_col, L_1, Q_1, R_same, R_row, if_pos, if_neg, ite_self, not_true, not_false, decide_true, decide_false, Nat.add_assoc, true_and, and_true, Nat.zero_add, Nat.add_zero, Nat.mul_zero, Nat.mul_one, Nat.one_mul, eq_self, decide_eq_true, decide_eq_false, Bool.true_eq_false, Bool.false_eq_true, ↓reduceIte, Nat.reduceAdd, Nat.reduceMul, Nat.reduceSub, Nat.reduceDiv, Nat.reduceMod, bb_t, bb_f, g3, r3, q1, q2, g2, r2, e1, e2]
  exact a1
end ASK
