/-! what to add: the reference's search; add -/
def mnt (r f : Nat → Nat) (n : Nat) (tk : Nat → Nat) (p e : Nat) : Nat := match e with
  | 0 => 1000000000
  | e + 1 => min (mnt r f n tk p e) (tby r f n tk p e)
theorem mnt_b {r f tk : Nat → Nat} {n p : Nat} : ∀ e, mnt r f n tk p e ≤ 1000000000 := by
  intro e
  induction e with
  | zero => exact Nat.le_refl _
  | succ e ih => rw [mnt]; omega
theorem mnt_l {r f tk : Nat → Nat} {n p : Nat} : ∀ e e', e' < e → mnt r f n tk p e ≤ tby r f n tk p e' := by
  intro e
  induction e with
  | zero => intro e' h; omega
  | succ e ih =>
    intro e' h
    rw [mnt]
    by_cases q : e' = e
    · rw [q]; omega
    · have := ih e' (by omega)
      omega
theorem mnt_x {r f tk : Nat → Nat} {n p : Nat} : ∀ e, mnt r f n tk p e = 1000000000 ∨ ∃ e', e' < e ∧ mnt r f n tk p e = tby r f n tk p e' := by
  intro e
  induction e with
  | zero => exact Or.inl rfl
  | succ e ih =>
    rw [mnt]
    by_cases q : mnt r f n tk p e ≤ tby r f n tk p e
    · rw [Nat.min_eq_left q]
      rcases ih with h | ⟨e', h1, h2⟩
      · exact Or.inl h
      · exact Or.inr ⟨e', by omega, h2⟩
    · rw [Nat.min_eq_right (by omega)]
      exact Or.inr ⟨e, by omega, rfl⟩
def TKc (r f : Nat → Nat) (n : Nat) (tk : Nat → Nat) (c : Nat) : Prop := tk n = 0 ∧ ∀ p, c ≤ p → p < n → tk p = mnt r f n tk p 20
theorem TKc_tk {r f tk : Nat → Nat} {n : Nat} (h : TKc r f n tk 0) : TK r f n tk := by
  refine ⟨h.1, fun p hp => ?_⟩
  have e := h.2 p (by omega) hp
  refine ⟨by rw [e]; exact mnt_b 20, fun e' he q hb hq => ?_, ?_⟩
  · have h1 := mnt_l (r := r) (f := f) (tk := tk) (n := n) (p := p) 20 e' he
    unfold tby at h1
    rw [hb] at h1
    dsimp only at h1
    rw [if_neg hq] at h1
    omega
  · rcases mnt_x (r := r) (f := f) (tk := tk) (n := n) (p := p) 20 with h1 | ⟨e', he, h1⟩
    · exact Or.inl (e.trans h1)
    · by_cases hF : tk p = 1000000000
      · exact Or.inl hF
      · have hb9 := mnt_b (r := r) (f := f) (tk := tk) (n := n) (p := p) 20
        unfold tby at h1
        cases hb : bhd f n p (r e') with
        | none =>
          rw [hb] at h1
          exact Or.inl (e.trans h1)
        | some q =>
          rw [hb] at h1
          dsimp only at h1
          by_cases hq : q = p
          · rw [if_pos hq] at h1
            exact Or.inl (e.trans h1)
          · rw [if_neg hq] at h1
            exact Or.inr ⟨e', he, q, hb, hq, e.trans h1, by omega⟩
theorem tby_c {r f tk tk' : Nat → Nat} {n p e : Nat} (h : ∀ q, p < q → tk' q = tk q) : tby r f n tk' p e = tby r f n tk p e := by
  unfold tby
  cases hb : bhd f n p (r e) with
  | none => rfl
  | some q =>
    dsimp only
    by_cases hq : q = p
    · rw [if_pos hq, if_pos hq]
    · rw [if_neg hq, if_neg hq, h q (by have := bhd_ge hb; omega)]
theorem mnt_c {r f tk tk' : Nat → Nat} {n p : Nat} (h : ∀ q, p < q → tk' q = tk q) : ∀ e, mnt r f n tk' p e = mnt r f n tk p e := by
  intro e
  induction e with
  | zero => rfl
  | succ e ih => rw [mnt, mnt, ih, tby_c h]
def TS (υ0 : ST) (s : SS) (tk : Nat → Nat) (p e : Nat) (υ : ST) : Prop := SR υ0 υ ∧ υ.1 654 p = nI (mnt (s 12) (s 14) (s 13 1) tk p e) ∧ ∀ q, p < q → q ≤ s 13 1 → υ.1 654 q = nI (tk q)
def Hs (s : SS) (pl k d : Nat) : Prop := ∃ x, (∃ p, p ≤ s 13 1 ∧ pl.testBit p = true ∧ Eg (s 12) (s 14) (s 13 1) p d x) ∧ Rch (s 12) (s 14) (s 13 1) k x
section ADR
variable {N : Mem} {σ τ τ0 υ υ0 : ST} {s : SS} {tk : Nat → Nat}
theorem r_tb (hW : WFs s) (hR : RR (υ.1 643) s) {p d l : Nat} (hp : p ≤ s 13 1) (hd : d ≤ 9) (hl : l ≤ 1) (ht : ∀ q, p < q → q ≤ s 13 1 → υ.1 654 q = nI (tk q)) (hb : ∀ q, tk q ≤ 1000000000) : g_X11_takesBy N 642 (nI p) (nI d) (nI l) υ = some (nI (tby (s 12) (s 14) (s 13 1) tk p (2 * d + l))) := by
  obtain ⟨z, b14, -⟩ := b_14 hW
  have h1 := ruR (N := N) hR hd hl
  have h2 := r_bh (N := N) hW hR hp (b_12 hW (2 * d + l))
  unfold g_X11_takesBy g_X11_takesBy_0 tby
  cases e : bhd (s 14) (s 13 1) p (s 12 (2 * d + l)) with
  | none =>
    rw [e] at h2
    unfold oI at h2
    simp (disch := omega) only [k_0, k_1, k_2, k_3, k_4, k_5, k_6, k_7, k_8, k_9, k_10, k_11, k_12, k_13, k_14, k_15, k_16, k_17, k_18, k_19, k_20, k_21, k_22, k_23, k_24, k_25, k_26, k_27, k_28, k_29, k_30, k_31, k_32, k_33, k_34, k_35, k_36, k_37, k_38, k_39, k_40, k_41, k_42, k_43, k_44, k_45, k_46, k_47, k_48, k_49, k_50, k_51, k_52, k_53, k_54, k_55, k_56, k_57, k_58, k_59, k_60, k_61, k_62, k_63, k_64, k_65, k_66, k_67, k_68, k_69, k_70, k_71, k_72, k_73, k_74, k_75, k_76, k_77, k_78, k_79, k_80, k_81, k_82, k_83, k_84, k_85, k_86, k_87, k_88, k_89, k_90, k_91, k_92, k_93, k_94, k_95, k_96, k_97, k_98, k_99, k_100, k_101, k_102, k_103, k_104, k_105, k_106, k_107, k_108, k_109, k_110, k_111, k_112, k_113, k_114, k_115, k_116, k_117, k_118, k_119, k_120, k_121, k_122, k_123, k_124, k_125, k_126, k_127, k_128, k_129, k_130, k_133, k_144, k_145, k_153, k_193, k_203, k_211, k_227, k_255, k_256, k_280, k_300, k_313, k_371, k_433, k_705, k_997, k_999, k_1000, k_4176, k_4547, k_9999, k_10000, k_30557, k_99999, k_1000000, k_1000000000, nI_add, pk_mul, w_sub, w_rem, w_div, w_dv, w_rm, nI_leI, nI_ltI, nI_eq, w_em, w_me, w_lm, w_ml, w_lem, w_mle, bnd, Option.some.injEq, xI_n, yI_n, xL_n, yL_n, xP_n, xG_n, I_same, I_row, I_col, L_1, Q_1, R_same, R_row, if_pos, if_neg, ite_self, not_true, not_false, decide_true, decide_false, Nat.add_assoc, true_and, and_true, Nat.zero_add, Nat.add_zero, Nat.mul_zero, Nat.mul_one, Nat.one_mul, eq_self, decide_eq_true, decide_eq_false, Bool.true_eq_false, Bool.false_eq_true, ↓reduceIte, Nat.reduceAdd, Nat.reduceMul, Nat.reduceSub, Nat.reduceDiv, Nat.reduceMod, bb_t, bb_f, h1, h2]
  | some q =>
    rw [e] at h2
    have g1 := bhd_b hp e
    have g2 := bhd_ge e
    unfold oI at h2
    dsimp only
    by_cases hq : q = p
    · rw [if_pos hq]
      simp (disch := omega) only [k_0, k_1, k_2, k_3, k_4, k_5, k_6, k_7, k_8, k_9, k_10, k_11, k_12, k_13, k_14, k_15, k_16, k_17, k_18, k_19, k_20, k_21, k_22, k_23, k_24, k_25, k_26, k_27, k_28, k_29, k_30, k_31, k_32, k_33, k_34, k_35, k_36, k_37, k_38, k_39, k_40, k_41, k_42, k_43, k_44, k_45, k_46, k_47, k_48, k_49, k_50, k_51, k_52, k_53, k_54, k_55, k_56, k_57, k_58, k_59, k_60, k_61, k_62, k_63, k_64, k_65, k_66, k_67, k_68, k_69, k_70, k_71, k_72, k_73, k_74, k_75, k_76, k_77, k_78, k_79, k_80, k_81, k_82, k_83, k_84, k_85, k_86, k_87, k_88, k_89, k_90, k_91, k_92, k_93, k_94, k_95, k_96, k_97, k_98, k_99, k_100, k_101, k_102, k_103, k_104, k_105, k_106, k_107, k_108, k_109, k_110, k_111, k_112, k_113, k_114, k_115, k_116, k_117, k_118, k_119, k_120, k_121, k_122, k_123, k_124, k_125, k_126, k_127, k_128, k_129, k_130, k_133, k_144, k_145, k_153, k_193, k_203, k_211, k_227, k_255, k_256, k_280, k_300, k_313, k_371, k_433, k_705, k_997, k_999, k_1000, k_4176, k_4547, k_9999, k_10000, k_30557, k_99999, k_1000000, k_1000000000, nI_add, pk_mul, w_sub, w_rem, w_div, w_dv, w_rm, nI_leI, nI_ltI, nI_eq, w_em, w_me, w_lm, w_ml, w_lem, w_mle, bnd, Option.some.injEq, xI_n, yI_n, xL_n, yL_n, xP_n, xG_n, I_same, I_row, I_col, L_1, Q_1, R_same, R_row, if_pos, if_neg, ite_self, not_true, not_false, decide_true, decide_false, Nat.add_assoc, true_and, and_true, Nat.zero_add, Nat.add_zero, Nat.mul_zero, Nat.mul_one, Nat.one_mul, eq_self, decide_eq_true, decide_eq_false, Bool.true_eq_false, Bool.false_eq_true, ↓reduceIte, Nat.reduceAdd, Nat.reduceMul, Nat.reduceSub, Nat.reduceDiv, Nat.reduceMod, bb_t, bb_f, h1, h2]
    · rw [if_neg hq]
      have h3 := ht q (by omega) g1
      simp (disch := omega) only [k_0, k_1, k_2, k_3, k_4, k_5, k_6, k_7, k_8, k_9, k_10, k_11, k_12, k_13, k_14, k_15, k_16, k_17, k_18, k_19, k_20, k_21, k_22, k_23, k_24, k_25, k_26, k_27, k_28, k_29, k_30, k_31, k_32, k_33, k_34, k_35, k_36, k_37, k_38, k_39, k_40, k_41, k_42, k_43, k_44, k_45, k_46, k_47, k_48, k_49, k_50, k_51, k_52, k_53, k_54, k_55, k_56, k_57, k_58, k_59, k_60, k_61, k_62, k_63, k_64, k_65, k_66, k_67, k_68, k_69, k_70, k_71, k_72, k_73, k_74, k_75, k_76, k_77, k_78, k_79, k_80, k_81, k_82, k_83, k_84, k_85, k_86, k_87, k_88, k_89, k_90, k_91, k_92, k_93, k_94, k_95, k_96, k_97, k_98, k_99, k_100, k_101, k_102, k_103, k_104, k_105, k_106, k_107, k_108, k_109, k_110, k_111, k_112, k_113, k_114, k_115, k_116, k_117, k_118, k_119, k_120, k_121, k_122, k_123, k_124, k_125, k_126, k_127, k_128, k_129, k_130, k_133, k_144, k_145, k_153, k_193, k_203, k_211, k_227, k_255, k_256, k_280, k_300, k_313, k_371, k_433, k_705, k_997, k_999, k_1000, k_4176, k_4547, k_9999, k_10000, k_30557, k_99999, k_1000000, k_1000000000, nI_add, pk_mul, w_sub, w_rem, w_div, w_dv, w_rm, nI_leI, nI_ltI, nI_eq, w_em, w_me, w_lm, w_ml, w_lem, w_mle, bnd, Option.some.injEq, xI_n, yI_n, xL_n, yL_n, xP_n, xG_n, I_same, I_row, I_col, L_1, Q_1, R_same, R_row, if_pos, if_neg, ite_self, not_true, not_false, decide_true, decide_false, Nat.add_assoc, true_and, and_true, Nat.zero_add, Nat.add_zero, Nat.mul_zero, Nat.mul_one, Nat.one_mul, eq_self, decide_eq_true, decide_eq_false, Bool.true_eq_false, Bool.false_eq_true, ↓reduceIte, Nat.reduceAdd, Nat.reduceMul, Nat.reduceSub, Nat.reduceDiv, Nat.reduceMod, bb_t, bb_f, h1, h2, h3]
theorem r_44 (hW : WFs s) (hR : RR (υ0.1 643) s) (hb : ∀ q, tk q ≤ 1000000000) {p d : Nat} (hp : p < s 13 1) (hd : d ≤ 9) (K : Nat → Int32 → ST → Option ST) (K' : Nat → Int32 → Int32 → ST → Option ST) : ∀ k l q υ, l + k = 2 → k < q → TS υ0 s tk p (2 * d + l) υ → ∃ υ', g_X11_layTakes_44 N q K K' 642 (nI p) (nI d) (nI l) υ = K' 642 (nI p) (nI (d + 1)) υ' ∧ TS υ0 s tk p (2 * (d + 1)) υ' := by
  obtain ⟨z, b14, -⟩ := b_14 hW
  intro k
  induction k with
  | zero =>
    intro l q υ hl hq hT
    obtain ⟨q, rfl⟩ : ∃ m, q = m + 1 := ⟨q - 1, by omega⟩
    obtain rfl : l = 2 := by omega
    refine ⟨υ, ?_, by rw [show 2 * (d + 1) = 2 * d + 2 by omega]; exact hT⟩
    rw [g_X11_layTakes_44]
    simp (disch := omega) only [k_0, k_1, k_2, k_3, k_4, k_5, k_6, k_7, k_8, k_9, k_10, k_11, k_12, k_13, k_14, k_15, k_16, k_17, k_18, k_19, k_20, k_21, k_22, k_23, k_24, k_25, k_26, k_27, k_28, k_29, k_30, k_31, k_32, k_33, k_34, k_35, k_36, k_37, k_38, k_39, k_40, k_41, k_42, k_43, k_44, k_45, k_46, k_47, k_48, k_49, k_50, k_51, k_52, k_53, k_54, k_55, k_56, k_57, k_58, k_59, k_60, k_61, k_62, k_63, k_64, k_65, k_66, k_67, k_68, k_69, k_70, k_71, k_72, k_73, k_74, k_75, k_76, k_77, k_78, k_79, k_80, k_81, k_82, k_83, k_84, k_85, k_86, k_87, k_88, k_89, k_90, k_91, k_92, k_93, k_94, k_95, k_96, k_97, k_98, k_99, k_100, k_101, k_102, k_103, k_104, k_105, k_106, k_107, k_108, k_109, k_110, k_111, k_112, k_113, k_114, k_115, k_116, k_117, k_118, k_119, k_120, k_121, k_122, k_123, k_124, k_125, k_126, k_127, k_128, k_129, k_130, k_133, k_144, k_145, k_153, k_193, k_203, k_211, k_227, k_255, k_256, k_280, k_300, k_313, k_371, k_433, k_705, k_997, k_999, k_1000, k_4176, k_4547, k_9999, k_10000, k_30557, k_99999, k_1000000, k_1000000000, nI_add, pk_mul, w_sub, w_rem, w_div, w_dv, w_rm, nI_leI, nI_ltI, nI_eq, w_em, w_me, w_lm, w_ml, w_lem, w_mle, bnd, Option.some.injEq, xI_n, yI_n, xL_n, yL_n, xP_n, xG_n, I_same, I_row, I_col, L_1, Q_1, R_same, R_row, if_pos, if_neg, ite_self, not_true, not_false, decide_true, decide_false, Nat.add_assoc, true_and, and_true, Nat.zero_add, Nat.add_zero, Nat.mul_zero, Nat.mul_one, Nat.one_mul, eq_self, decide_eq_true, decide_eq_false, Bool.true_eq_false, Bool.false_eq_true, ↓reduceIte, Nat.reduceAdd, Nat.reduceMul, Nat.reduceSub, Nat.reduceDiv, Nat.reduceMod, bb_t, bb_f]
  | succ k ih =>
    intro l q υ hl hq hT
    obtain ⟨q, rfl⟩ : ∃ m, q = m + 1 := ⟨q - 1, by omega⟩
    obtain ⟨t1, t2, t3⟩ := hT
    have htb := r_tb (N := N) hW (t1.rr hR) (p := p) (d := d) (l := l) (by omega) hd (by omega) t3 hb
    have m1 := mnt_b (r := s 12) (f := s 14) (n := s 13 1) (tk := tk) (p := p) (2 * d + l)
    have m2 : tby (s 12) (s 14) (s 13 1) tk p (2 * d + l) ≤ 1000000001 := by
      unfold tby
      split
      · omega
      · rename_i x _
        have := hb x
        split <;> omega
    by_cases c : mnt (s 12) (s 14) (s 13 1) tk p (2 * d + l) ≤ tby (s 12) (s 14) (s 13 1) tk p (2 * d + l)
    · obtain ⟨υ', a1, a2⟩ := ih (l + 1) q υ (by omega) (by omega) ⟨t1, by rw [show 2 * d + (l + 1) = 2 * d + l + 1 by omega, mnt, Nat.min_eq_left c]; exact t2, t3⟩
      refine ⟨υ', ?_, a2⟩
      rw [g_X11_layTakes_44, ← a1]
      simp (disch := omega) only [k_0, k_1, k_2, k_3, k_4, k_5, k_6, k_7, k_8, k_9, k_10, k_11, k_12, k_13, k_14, k_15, k_16, k_17, k_18, k_19, k_20, k_21, k_22, k_23, k_24, k_25, k_26, k_27, k_28, k_29, k_30, k_31, k_32, k_33, k_34, k_35, k_36, k_37, k_38, k_39, k_40, k_41, k_42, k_43, k_44, k_45, k_46, k_47, k_48, k_49, k_50, k_51, k_52, k_53, k_54, k_55, k_56, k_57, k_58, k_59, k_60, k_61, k_62, k_63, k_64, k_65, k_66, k_67, k_68, k_69, k_70, k_71, k_72, k_73, k_74, k_75, k_76, k_77, k_78, k_79, k_80, k_81, k_82, k_83, k_84, k_85, k_86, k_87, k_88, k_89, k_90, k_91, k_92, k_93, k_94, k_95, k_96, k_97, k_98, k_99, k_100, k_101, k_102, k_103, k_104, k_105, k_106, k_107, k_108, k_109, k_110, k_111, k_112, k_113, k_114, k_115, k_116, k_117, k_118, k_119, k_120, k_121, k_122, k_123, k_124, k_125, k_126, k_127, k_128, k_129, k_130, k_133, k_144, k_145, k_153, k_193, k_203, k_211, k_227, k_255, k_256, k_280, k_300, k_313, k_371, k_433, k_705, k_997, k_999, k_1000, k_4176, k_4547, k_9999, k_10000, k_30557, k_99999, k_1000000, k_1000000000, nI_add, pk_mul, w_sub, w_rem, w_div, w_dv, w_rm, nI_leI, nI_ltI, nI_eq, w_em, w_me, w_lm, w_ml, w_lem, w_mle, bnd, Option.some.injEq, xI_n, yI_n, xL_n, yL_n, xP_n, xG_n, I_same, I_row, I_col, L_1, Q_1, R_same, R_row, if_pos, if_neg, ite_self, not_true, not_false, decide_true, decide_false, Nat.add_assoc, true_and, and_true, Nat.zero_add, Nat.add_zero, Nat.mul_zero, Nat.mul_one, Nat.one_mul, eq_self, decide_eq_true, decide_eq_false, Bool.true_eq_false, Bool.false_eq_true, ↓reduceIte, Nat.reduceAdd, Nat.reduceMul, Nat.reduceSub, Nat.reduceDiv, Nat.reduceMod, bb_t, bb_f, htb, t2]
    · obtain ⟨υ', a1, a2⟩ := ih (l + 1) q (setI υ 654 p (nI (tby (s 12) (s 14) (s 13 1) tk p (2 * d + l)))) (by omega) (by omega) ⟨t1.set (by omega), by rw [show 2 * d + (l + 1) = 2 * d + l + 1 by omega, mnt, Nat.min_eq_right (by omega), I_same rfl rfl], fun q h1 h2 => (I_col (by omega)).trans (t3 q h1 h2)⟩
      refine ⟨υ', ?_, a2⟩
      rw [g_X11_layTakes_44, ← a1]
      simp (disch := omega) only [k_0, k_1, k_2, k_3, k_4, k_5, k_6, k_7, k_8, k_9, k_10, k_11, k_12, k_13, k_14, k_15, k_16, k_17, k_18, k_19, k_20, k_21, k_22, k_23, k_24, k_25, k_26, k_27, k_28, k_29, k_30, k_31, k_32, k_33, k_34, k_35, k_36, k_37, k_38, k_39, k_40, k_41, k_42, k_43, k_44, k_45, k_46, k_47, k_48, k_49, k_50, k_51, k_52, k_53, k_54, k_55, k_56, k_57, k_58, k_59, k_60, k_61, k_62, k_63, k_64, k_65, k_66, k_67, k_68, k_69, k_70, k_71, k_72, k_73, k_74, k_75, k_76, k_77, k_78, k_79, k_80, k_81, k_82, k_83, k_84, k_85, k_86, k_87, k_88, k_89, k_90, k_91, k_92, k_93, k_94, k_95, k_96, k_97, k_98, k_99, k_100, k_101, k_102, k_103, k_104, k_105, k_106, k_107, k_108, k_109, k_110, k_111, k_112, k_113, k_114, k_115, k_116, k_117, k_118, k_119, k_120, k_121, k_122, k_123, k_124, k_125, k_126, k_127, k_128, k_129, k_130, k_133, k_144, k_145, k_153, k_193, k_203, k_211, k_227, k_255, k_256, k_280, k_300, k_313, k_371, k_433, k_705, k_997, k_999, k_1000, k_4176, k_4547, k_9999, k_10000, k_30557, k_99999, k_1000000, k_1000000000, nI_add, pk_mul, w_sub, w_rem, w_div, w_dv, w_rm, nI_leI, nI_ltI, nI_eq, w_em, w_me, w_lm, w_ml, w_lem, w_mle, bnd, Option.some.injEq, xI_n, yI_n, xL_n, yL_n, xP_n, xG_n, I_same, I_row, I_col, L_1, Q_1, R_same, R_row, if_pos, if_neg, ite_self, not_true, not_false, decide_true, decide_false, Nat.add_assoc, true_and, and_true, Nat.zero_add, Nat.add_zero, Nat.mul_zero, Nat.mul_one, Nat.one_mul, eq_self, decide_eq_true, decide_eq_false, Bool.true_eq_false, Bool.false_eq_true, ↓reduceIte, Nat.reduceAdd, Nat.reduceMul, Nat.reduceSub, Nat.reduceDiv, Nat.reduceMod, bb_t, bb_f, htb, t2]
theorem r_36 (hW : WFs s) (hR : RR (υ0.1 643) s) (hb : ∀ q, tk q ≤ 1000000000) {p : Nat} (hp : p < s 13 1) (K : Nat → Int32 → ST → Option ST) : ∀ k d q υ, d + k = 10 → k < q → TS υ0 s tk p (2 * d) υ → ∃ υ', g_X11_layTakes_36 N q K 642 (nI p) (nI d) υ = K 642 (nI p - nI 1) υ' ∧ TS υ0 s tk p 20 υ' := by
  obtain ⟨z, b14, -⟩ := b_14 hW
  intro k
  induction k with
  | zero =>
    intro d q υ hd hq hT
    obtain ⟨q, rfl⟩ : ∃ m, q = m + 1 := ⟨q - 1, by omega⟩
    obtain rfl : d = 10 := by omega
    refine ⟨υ, ?_, hT⟩
    rw [g_X11_layTakes_36]
    simp (disch := omega) only [k_0, k_1, k_2, k_3, k_4, k_5, k_6, k_7, k_8, k_9, k_10, k_11, k_12, k_13, k_14, k_15, k_16, k_17, k_18, k_19, k_20, k_21, k_22, k_23, k_24, k_25, k_26, k_27, k_28, k_29, k_30, k_31, k_32, k_33, k_34, k_35, k_36, k_37, k_38, k_39, k_40, k_41, k_42, k_43, k_44, k_45, k_46, k_47, k_48, k_49, k_50, k_51, k_52, k_53, k_54, k_55, k_56, k_57, k_58, k_59, k_60, k_61, k_62, k_63, k_64, k_65, k_66, k_67, k_68, k_69, k_70, k_71, k_72, k_73, k_74, k_75, k_76, k_77, k_78, k_79, k_80, k_81, k_82, k_83, k_84, k_85, k_86, k_87, k_88, k_89, k_90, k_91, k_92, k_93, k_94, k_95, k_96, k_97, k_98, k_99, k_100, k_101, k_102, k_103, k_104, k_105, k_106, k_107, k_108, k_109, k_110, k_111, k_112, k_113, k_114, k_115, k_116, k_117, k_118, k_119, k_120, k_121, k_122, k_123, k_124, k_125, k_126, k_127, k_128, k_129, k_130, k_133, k_144, k_145, k_153, k_193, k_203, k_211, k_227, k_255, k_256, k_280, k_300, k_313, k_371, k_433, k_705, k_997, k_999, k_1000, k_4176, k_4547, k_9999, k_10000, k_30557, k_99999, k_1000000, k_1000000000, nI_add, pk_mul, w_sub, w_rem, w_div, w_dv, w_rm, nI_leI, nI_ltI, nI_eq, w_em, w_me, w_lm, w_ml, w_lem, w_mle, bnd, Option.some.injEq, xI_n, yI_n, xL_n, yL_n, xP_n, xG_n, I_same, I_row, I_col, L_1, Q_1, R_same, R_row, if_pos, if_neg, ite_self, not_true, not_false, decide_true, decide_false, Nat.add_assoc, true_and, and_true, Nat.zero_add, Nat.add_zero, Nat.mul_zero, Nat.mul_one, Nat.one_mul, eq_self, decide_eq_true, decide_eq_false, Bool.true_eq_false, Bool.false_eq_true, ↓reduceIte, Nat.reduceAdd, Nat.reduceMul, Nat.reduceSub, Nat.reduceDiv, Nat.reduceMod, bb_t, bb_f, w_m1']
  | succ k ih =>
    intro d q υ hd hq hT
    obtain ⟨q, rfl⟩ : ∃ m, q = m + 1 := ⟨q - 1, by omega⟩
    obtain ⟨υ1, a1, a2⟩ := r_44 (N := N) hW hR hb hp (d := d) (by omega) K (g_X11_layTakes_36 N q K) 2 0 fu υ (by omega) (by unfold fu; omega) hT
    obtain ⟨υ', b1, b2⟩ := ih (d + 1) q υ1 (by omega) (by omega) a2
    refine ⟨υ', ?_, b2⟩
    rw [g_X11_layTakes_36, ← b1]
    simp (disch := omega) only [k_0, k_1, k_2, k_3, k_4, k_5, k_6, k_7, k_8, k_9, k_10, k_11, k_12, k_13, k_14, k_15, k_16, k_17, k_18, k_19, k_20, k_21, k_22, k_23, k_24, k_25, k_26, k_27, k_28, k_29, k_30, k_31, k_32, k_33, k_34, k_35, k_36, k_37, k_38, k_39, k_40, k_41, k_42, k_43, k_44, k_45, k_46, k_47, k_48, k_49, k_50, k_51, k_52, k_53, k_54, k_55, k_56, k_57, k_58, k_59, k_60, k_61, k_62, k_63, k_64, k_65, k_66, k_67, k_68, k_69, k_70, k_71, k_72, k_73, k_74, k_75, k_76, k_77, k_78, k_79, k_80, k_81, k_82, k_83, k_84, k_85, k_86, k_87, k_88, k_89, k_90, k_91, k_92, k_93, k_94, k_95, k_96, k_97, k_98, k_99, k_100, k_101, k_102, k_103, k_104, k_105, k_106, k_107, k_108, k_109, k_110, k_111, k_112, k_113, k_114, k_115, k_116, k_117, k_118, k_119, k_120, k_121, k_122, k_123, k_124, k_125, k_126, k_127, k_128, k_129, k_130, k_133, k_144, k_145, k_153, k_193, k_203, k_211, k_227, k_255, k_256, k_280, k_300, k_313, k_371, k_433, k_705, k_997, k_999, k_1000, k_4176, k_4547, k_9999, k_10000, k_30557, k_99999, k_1000000, k_1000000000, nI_add, pk_mul, w_sub, w_rem, w_div, w_dv, w_rm, nI_leI, nI_ltI, nI_eq, w_em, w_me, w_lm, w_ml, w_lem, w_mle, bnd, Option.some.injEq, xI_n, yI_n, xL_n, yL_n, xP_n, xG_n, I_same, I_row, I_col, L_1, Q_1, R_same, R_row, if_pos, if_neg, ite_self, not_true, not_false, decide_true, decide_false, Nat.add_assoc, true_and, and_true, Nat.zero_add, Nat.add_zero, Nat.mul_zero, Nat.mul_one, Nat.one_mul, eq_self, decide_eq_true, decide_eq_false, Bool.true_eq_false, Bool.false_eq_true, ↓reduceIte, Nat.reduceAdd, Nat.reduceMul, Nat.reduceSub, Nat.reduceDiv, Nat.reduceMod, bb_t, bb_f]
    exact a1
theorem r_21 (hW : WFs s) (hR : RR (υ0.1 643) s) : ∀ c q υ tk, c < q → c ≤ s 13 1 → SR υ0 υ → (∀ q, tk q ≤ 1000000000) → (∀ q, c ≤ q → q ≤ s 13 1 → υ.1 654 q = nI (tk q)) → TKc (s 12) (s 14) (s 13 1) tk c → ∃ υ' tk', g_X11_layTakes_21 N q 642 (nI c - nI 1) υ = some υ' ∧ SR υ0 υ' ∧ (∀ q, tk' q ≤ 1000000000) ∧ (∀ q, q ≤ s 13 1 → υ'.1 654 q = nI (tk' q)) ∧ TK (s 12) (s 14) (s 13 1) tk' := by
  obtain ⟨z, b14, -⟩ := b_14 hW
  intro c
  induction c with
  | zero =>
    intro q υ tk hq hc hS hb ht hT
    obtain ⟨q, rfl⟩ : ∃ m, q = m + 1 := ⟨q - 1, by omega⟩
    refine ⟨υ, tk, ?_, hS, hb, fun q h => ht q (by omega) h, TKc_tk hT⟩
    rw [g_X11_layTakes_21]
    simp (disch := omega) only [k_0, k_1, k_2, k_3, k_4, k_5, k_6, k_7, k_8, k_9, k_10, k_11, k_12, k_13, k_14, k_15, k_16, k_17, k_18, k_19, k_20, k_21, k_22, k_23, k_24, k_25, k_26, k_27, k_28, k_29, k_30, k_31, k_32, k_33, k_34, k_35, k_36, k_37, k_38, k_39, k_40, k_41, k_42, k_43, k_44, k_45, k_46, k_47, k_48, k_49, k_50, k_51, k_52, k_53, k_54, k_55, k_56, k_57, k_58, k_59, k_60, k_61, k_62, k_63, k_64, k_65, k_66, k_67, k_68, k_69, k_70, k_71, k_72, k_73, k_74, k_75, k_76, k_77, k_78, k_79, k_80, k_81, k_82, k_83, k_84, k_85, k_86, k_87, k_88, k_89, k_90, k_91, k_92, k_93, k_94, k_95, k_96, k_97, k_98, k_99, k_100, k_101, k_102, k_103, k_104, k_105, k_106, k_107, k_108, k_109, k_110, k_111, k_112, k_113, k_114, k_115, k_116, k_117, k_118, k_119, k_120, k_121, k_122, k_123, k_124, k_125, k_126, k_127, k_128, k_129, k_130, k_133, k_144, k_145, k_153, k_193, k_203, k_211, k_227, k_255, k_256, k_280, k_300, k_313, k_371, k_433, k_705, k_997, k_999, k_1000, k_4176, k_4547, k_9999, k_10000, k_30557, k_99999, k_1000000, k_1000000000, nI_add, pk_mul, w_sub, w_rem, w_div, w_dv, w_rm, nI_leI, nI_ltI, nI_eq, w_em, w_me, w_lm, w_ml, w_lem, w_mle, bnd, Option.some.injEq, xI_n, yI_n, xL_n, yL_n, xP_n, xG_n, I_same, I_row, I_col, L_1, Q_1, R_same, R_row, if_pos, if_neg, ite_self, not_true, not_false, decide_true, decide_false, Nat.add_assoc, true_and, and_true, Nat.zero_add, Nat.add_zero, Nat.mul_zero, Nat.mul_one, Nat.one_mul, eq_self, decide_eq_true, decide_eq_false, Bool.true_eq_false, Bool.false_eq_true, ↓reduceIte, Nat.reduceAdd, Nat.reduceMul, Nat.reduceSub, Nat.reduceDiv, Nat.reduceMod, bb_t, bb_f, w_z1]
  | succ p ih =>
    intro q υ tk hq hc hS hb ht hT
    obtain ⟨q, rfl⟩ : ∃ m, q = m + 1 := ⟨q - 1, by omega⟩
    obtain ⟨υ1, a1, t1, t2, t3⟩ := r_36 (N := N) hW hR hb (p := p) (by omega) (g_X11_layTakes_21 N q) 10 0 fu (setI υ 654 p (nI 1000000000)) (by omega) (by unfold fu; omega) ⟨hS.set (by omega), I_same rfl rfl, fun q h1 h2 => (I_col (by omega)).trans (ht q (by omega) h2)⟩
    obtain ⟨υ', tk', b1, b2⟩ := ih q υ1 (un tk p (mnt (s 12) (s 14) (s 13 1) tk p 20)) (by omega) (by omega) t1 (fun q => by
      by_cases e : q = p
      · rw [un_s e]; exact mnt_b 20
      · rw [un_n e]; exact hb q) (fun q h1 h2 => by
      by_cases e : q = p
      · rw [un_s e, e]; exact t2
      · rw [un_n e]; exact t3 q (by omega) h2) ⟨(un_n (by omega)).trans hT.1, fun x h1 h2 => by
        rw [mnt_c (tk := tk) (fun q hq => un_n (by omega))]
        by_cases e : x = p
        · rw [un_s e, e]
        · rw [un_n e]; exact hT.2 x (by omega) h2⟩
    refine ⟨υ', tk', ?_, b2⟩
    rw [w_s1, g_X11_layTakes_21, ← b1]
    simp (disch := omega) only [k_0, k_1, k_2, k_3, k_4, k_5, k_6, k_7, k_8, k_9, k_10, k_11, k_12, k_13, k_14, k_15, k_16, k_17, k_18, k_19, k_20, k_21, k_22, k_23, k_24, k_25, k_26, k_27, k_28, k_29, k_30, k_31, k_32, k_33, k_34, k_35, k_36, k_37, k_38, k_39, k_40, k_41, k_42, k_43, k_44, k_45, k_46, k_47, k_48, k_49, k_50, k_51, k_52, k_53, k_54, k_55, k_56, k_57, k_58, k_59, k_60, k_61, k_62, k_63, k_64, k_65, k_66, k_67, k_68, k_69, k_70, k_71, k_72, k_73, k_74, k_75, k_76, k_77, k_78, k_79, k_80, k_81, k_82, k_83, k_84, k_85, k_86, k_87, k_88, k_89, k_90, k_91, k_92, k_93, k_94, k_95, k_96, k_97, k_98, k_99, k_100, k_101, k_102, k_103, k_104, k_105, k_106, k_107, k_108, k_109, k_110, k_111, k_112, k_113, k_114, k_115, k_116, k_117, k_118, k_119, k_120, k_121, k_122, k_123, k_124, k_125, k_126, k_127, k_128, k_129, k_130, k_133, k_144, k_145, k_153, k_193, k_203, k_211, k_227, k_255, k_256, k_280, k_300, k_313, k_371, k_433, k_705, k_997, k_999, k_1000, k_4176, k_4547, k_9999, k_10000, k_30557, k_99999, k_1000000, k_1000000000, nI_add, pk_mul, w_sub, w_rem, w_div, w_dv, w_rm, nI_leI, nI_ltI, nI_eq, w_em, w_me, w_lm, w_ml, w_lem, w_mle, bnd, Option.some.injEq, xI_n, yI_n, xL_n, yL_n, xP_n, xG_n, I_same, I_row, I_col, L_1, Q_1, R_same, R_row, if_pos, if_neg, ite_self, not_true, not_false, decide_true, decide_false, Nat.add_assoc, true_and, and_true, Nat.zero_add, Nat.add_zero, Nat.mul_zero, Nat.mul_one, Nat.one_mul, eq_self, decide_eq_true, decide_eq_false, Bool.true_eq_false, Bool.false_eq_true, ↓reduceIte, Nat.reduceAdd, Nat.reduceMul, Nat.reduceSub, Nat.reduceDiv, Nat.reduceMod, bb_t, bb_f]
    exact a1
theorem r_takes (hW : WFs s) (hR : RR (υ0.1 643) s) : ∃ υ' tk', g_X11_layTakes N 642 υ0 = some υ' ∧ SR υ0 υ' ∧ (∀ q, tk' q ≤ 1000000000) ∧ (∀ q, q ≤ s 13 1 → υ'.1 654 q = nI (tk' q)) ∧ TK (s 12) (s 14) (s 13 1) tk' := by
  obtain ⟨z, b14, -⟩ := b_14 hW
  obtain ⟨υ', tk', a1, a2⟩ := r_21 (N := N) hW hR (s 13 1) fu (setI υ0 654 (s 13 1) (nI 0)) (fun _ => 0) (by unfold fu; omega) (Nat.le_refl _) (SR.rfl.set (by omega)) (fun _ => Nat.zero_le _) (fun q h1 h2 => I_same rfl (by omega)) ⟨rfl, fun p h1 h2 => by omega⟩
  refine ⟨υ', tk', ?_, a2⟩
  unfold g_X11_layTakes g_X11_layTakes_0
  simp (disch := omega) only [k_0, k_1, k_2, k_3, k_4, k_5, k_6, k_7, k_8, k_9, k_10, k_11, k_12, k_13, k_14, k_15, k_16, k_17, k_18, k_19, k_20, k_21, k_22, k_23, k_24, k_25, k_26, k_27, k_28, k_29, k_30, k_31, k_32, k_33, k_34, k_35, k_36, k_37, k_38, k_39, k_40, k_41, k_42, k_43, k_44, k_45, k_46, k_47, k_48, k_49, k_50, k_51, k_52, k_53, k_54, k_55, k_56, k_57, k_58, k_59, k_60, k_61, k_62, k_63, k_64, k_65, k_66, k_67, k_68, k_69, k_70, k_71, k_72, k_73, k_74, k_75, k_76, k_77, k_78, k_79, k_80, k_81, k_82, k_83, k_84, k_85, k_86, k_87, k_88, k_89, k_90, k_91, k_92, k_93, k_94, k_95, k_96, k_97, k_98, k_99, k_100, k_101, k_102, k_103, k_104, k_105, k_106, k_107, k_108, k_109, k_110, k_111, k_112, k_113, k_114, k_115, k_116, k_117, k_118, k_119, k_120, k_121, k_122, k_123, k_124, k_125, k_126, k_127, k_128, k_129, k_130, k_133, k_144, k_145, k_153, k_193, k_203, k_211, k_227, k_255, k_256, k_280, k_300, k_313, k_371, k_433, k_705, k_997, k_999, k_1000, k_4176, k_4547, k_9999, k_10000, k_30557, k_99999, k_1000000, k_1000000000, nI_add, pk_mul, w_sub, w_rem, w_div, w_dv, w_rm, nI_leI, nI_ltI, nI_eq, w_em, w_me, w_lm, w_ml, w_lem, w_mle, bnd, Option.some.injEq, xI_n, yI_n, xL_n, yL_n, xP_n, xG_n, I_same, I_row, I_col, L_1, Q_1, R_same, R_row, if_pos, if_neg, ite_self, not_true, not_false, decide_true, decide_false, Nat.add_assoc, true_and, and_true, Nat.zero_add, Nat.add_zero, Nat.mul_zero, Nat.mul_one, Nat.one_mul, eq_self, decide_eq_true, decide_eq_false, Bool.true_eq_false, Bool.false_eq_true, ↓reduceIte, Nat.reduceAdd, Nat.reduceMul, Nat.reduceSub, Nat.reduceDiv, Nat.reduceMod, bb_t, bb_f, r_4 hR]
  exact a1
theorem r_19 (hW : WFs s) (hRu : RR (υ.1 643) s) (hb : ∀ q, tk q ≤ 1000000000) (ht : ∀ q, q ≤ s 13 1 → υ.1 654 q = nI (tk q)) {pl d p : Nat} (hpl : pl < 8192) (hd : d ≤ 9) (hp : p < s 13 1) (hF : pl.testBit p = true → tk p < 1000000000) (K : Nat → Int32 → Int32 → Int32 → Int32 → ST → Option Int32) : ∀ k l q m, l + k = 2 → k < q → m < 8192 → ∃ m', m' < 8192 ∧ g_X11_placesBy_19 N q K 642 (nI pl) (nI d) (nI m) (nI p) (nI l) υ = K 642 (nI pl) (nI d) (nI m') (nI (p + 1)) υ ∧ ∀ x, m'.testBit x = true ↔ (m.testBit x = true ∨ (pl.testBit p = true ∧ ∃ l', l ≤ l' ∧ l' < 2 ∧ bhd (s 14) (s 13 1) p (s 12 (2 * d + l')) = some x ∧ tby (s 12) (s 14) (s 13 1) tk p (2 * d + l') = tk p)) := by
  obtain ⟨z, b14, -⟩ := b_14 hW
  intro k
  induction k with
  | zero =>
    intro l q m hl hq hm
    obtain ⟨q, rfl⟩ : ∃ m, q = m + 1 := ⟨q - 1, by omega⟩
    obtain rfl : l = 2 := by omega
    refine ⟨m, hm, ?_, fun x => ⟨Or.inl, ?_⟩⟩
    · rw [g_X11_placesBy_19]
      simp (disch := omega) only [k_0, k_1, k_2, k_3, k_4, k_5, k_6, k_7, k_8, k_9, k_10, k_11, k_12, k_13, k_14, k_15, k_16, k_17, k_18, k_19, k_20, k_21, k_22, k_23, k_24, k_25, k_26, k_27, k_28, k_29, k_30, k_31, k_32, k_33, k_34, k_35, k_36, k_37, k_38, k_39, k_40, k_41, k_42, k_43, k_44, k_45, k_46, k_47, k_48, k_49, k_50, k_51, k_52, k_53, k_54, k_55, k_56, k_57, k_58, k_59, k_60, k_61, k_62, k_63, k_64, k_65, k_66, k_67, k_68, k_69, k_70, k_71, k_72, k_73, k_74, k_75, k_76, k_77, k_78, k_79, k_80, k_81, k_82, k_83, k_84, k_85, k_86, k_87, k_88, k_89, k_90, k_91, k_92, k_93, k_94, k_95, k_96, k_97, k_98, k_99, k_100, k_101, k_102, k_103, k_104, k_105, k_106, k_107, k_108, k_109, k_110, k_111, k_112, k_113, k_114, k_115, k_116, k_117, k_118, k_119, k_120, k_121, k_122, k_123, k_124, k_125, k_126, k_127, k_128, k_129, k_130, k_133, k_144, k_145, k_153, k_193, k_203, k_211, k_227, k_255, k_256, k_280, k_300, k_313, k_371, k_433, k_705, k_997, k_999, k_1000, k_4176, k_4547, k_9999, k_10000, k_30557, k_99999, k_1000000, k_1000000000, nI_add, pk_mul, w_sub, w_rem, w_div, w_dv, w_rm, nI_leI, nI_ltI, nI_eq, w_em, w_me, w_lm, w_ml, w_lem, w_mle, bnd, Option.some.injEq, xI_n, yI_n, xL_n, yL_n, xP_n, xG_n, I_same, I_row, I_col, L_1, Q_1, R_same, R_row, if_pos, if_neg, ite_self, not_true, not_false, decide_true, decide_false, Nat.add_assoc, true_and, and_true, Nat.zero_add, Nat.add_zero, Nat.mul_zero, Nat.mul_one, Nat.one_mul, eq_self, decide_eq_true, decide_eq_false, Bool.true_eq_false, Bool.false_eq_true, ↓reduceIte, Nat.reduceAdd, Nat.reduceMul, Nat.reduceSub, Nat.reduceDiv, Nat.reduceMod, bb_t, bb_f]
    · rintro (h | ⟨-, l', h1, h2, -⟩)
      · exact h
      · omega
  | succ k ih =>
    intro l q m hl hq hm
    obtain ⟨q, rfl⟩ : ∃ m, q = m + 1 := ⟨q - 1, by omega⟩
    have hh := has11 (x := pl) (k := p) (by omega) (by omega)
    rw [g_X11_placesBy_19]
    by_cases hbit : bit pl p = 1
    · have hT := (bit_t pl p).mp hbit
      rw [decide_eq_true hbit] at hh
      have htb := r_tb (N := N) hW hRu (p := p) (d := d) (l := l) (by omega) hd (by omega) (fun q _ h2 => ht q h2) hb
      have h3 := ht p (by omega)
      have m2 : tby (s 12) (s 14) (s 13 1) tk p (2 * d + l) ≤ 1000000001 := by
        unfold tby
        split
        · omega
        · rename_i x _
          have := hb x
          split <;> omega
      have htp := hF hT
      by_cases c : tby (s 12) (s 14) (s 13 1) tk p (2 * d + l) = tk p
      · have h1 := ruR (N := N) hRu hd (show l ≤ 1 by omega)
        have h2 := r_bh (N := N) hW hRu (p := p) (by omega) (b_12 hW (2 * d + l))
        cases e : bhd (s 14) (s 13 1) p (s 12 (2 * d + l)) with
        | none =>
          unfold tby at c
          rw [e] at c
          dsimp only at c
          omega
        | some y =>
          rw [e] at h2
          unfold oI at h2
          have g1 := bhd_b (by omega) e
          have pb := p2_b (q := y) (by omega)
          obtain ⟨m', a1, a2, a3⟩ := ih (l + 1) q (m ||| 2 ^ y) (by omega) (by omega) (or_b hm pb)
          refine ⟨m', a1, ?_, fun x => (a3 x).trans ⟨?_, ?_⟩⟩
          · rw [← a2]
            simp (disch := omega) only [k_0, k_1, k_2, k_3, k_4, k_5, k_6, k_7, k_8, k_9, k_10, k_11, k_12, k_13, k_14, k_15, k_16, k_17, k_18, k_19, k_20, k_21, k_22, k_23, k_24, k_25, k_26, k_27, k_28, k_29, k_30, k_31, k_32, k_33, k_34, k_35, k_36, k_37, k_38, k_39, k_40, k_41, k_42, k_43, k_44, k_45, k_46, k_47, k_48, k_49, k_50, k_51, k_52, k_53, k_54, k_55, k_56, k_57, k_58, k_59, k_60, k_61, k_62, k_63, k_64, k_65, k_66, k_67, k_68, k_69, k_70, k_71, k_72, k_73, k_74, k_75, k_76, k_77, k_78, k_79, k_80, k_81, k_82, k_83, k_84, k_85, k_86, k_87, k_88, k_89, k_90, k_91, k_92, k_93, k_94, k_95, k_96, k_97, k_98, k_99, k_100, k_101, k_102, k_103, k_104, k_105, k_106, k_107, k_108, k_109, k_110, k_111, k_112, k_113, k_114, k_115, k_116, k_117, k_118, k_119, k_120, k_121, k_122, k_123, k_124, k_125, k_126, k_127, k_128, k_129, k_130, k_133, k_144, k_145, k_153, k_193, k_203, k_211, k_227, k_255, k_256, k_280, k_300, k_313, k_371, k_433, k_705, k_997, k_999, k_1000, k_4176, k_4547, k_9999, k_10000, k_30557, k_99999, k_1000000, k_1000000000, nI_add, pk_mul, w_sub, w_rem, w_div, w_dv, w_rm, nI_leI, nI_ltI, nI_eq, w_em, w_me, w_lm, w_ml, w_lem, w_mle, bnd, Option.some.injEq, xI_n, yI_n, xL_n, yL_n, xP_n, xG_n, I_same, I_row, I_col, L_1, Q_1, R_same, R_row, if_pos, if_neg, ite_self, not_true, not_false, decide_true, decide_false, Nat.add_assoc, true_and, and_true, Nat.zero_add, Nat.add_zero, Nat.mul_zero, Nat.mul_one, Nat.one_mul, eq_self, decide_eq_true, decide_eq_false, Bool.true_eq_false, Bool.false_eq_true, ↓reduceIte, Nat.reduceAdd, Nat.reduceMul, Nat.reduceSub, Nat.reduceDiv, Nat.reduceMod, bb_t, bb_f, hh, htb, h3, c, h1, h2, w_shl, w_or]
          · rintro (h | ⟨g0, l', g2, g3⟩)
            · rw [Nat.testBit_or, Bool.or_eq_true, Nat.testBit_two_pow, decide_eq_true_eq] at h
              rcases h with h | h
              · exact Or.inl h
              · rw [← h]
                exact Or.inr ⟨hT, l, Nat.le_refl _, by omega, e, c⟩
            · exact Or.inr ⟨g0, l', by omega, g3⟩
          · rintro (h | ⟨g0, l', g2, g3, g4, g5⟩)
            · left
              rw [Nat.testBit_or, Bool.or_eq_true]
              exact Or.inl h
            · by_cases el : l' = l
              · left
                rw [el, e] at g4
                cases g4
                rw [Nat.testBit_or, Bool.or_eq_true, Nat.testBit_two_pow, decide_eq_true_eq]
                exact Or.inr rfl
              · exact Or.inr ⟨g0, l', by omega, g3, g4, g5⟩
      · obtain ⟨m', a1, a2, a3⟩ := ih (l + 1) q m (by omega) (by omega) hm
        refine ⟨m', a1, ?_, fun x => (a3 x).trans ⟨?_, ?_⟩⟩
        · rw [← a2]
          simp (disch := omega) only [k_0, k_1, k_2, k_3, k_4, k_5, k_6, k_7, k_8, k_9, k_10, k_11, k_12, k_13, k_14, k_15, k_16, k_17, k_18, k_19, k_20, k_21, k_22, k_23, k_24, k_25, k_26, k_27, k_28, k_29, k_30, k_31, k_32, k_33, k_34, k_35, k_36, k_37, k_38, k_39, k_40, k_41, k_42, k_43, k_44, k_45, k_46, k_47, k_48, k_49, k_50, k_51, k_52, k_53, k_54, k_55, k_56, k_57, k_58, k_59, k_60, k_61, k_62, k_63, k_64, k_65, k_66, k_67, k_68, k_69, k_70, k_71, k_72, k_73, k_74, k_75, k_76, k_77, k_78, k_79, k_80, k_81, k_82, k_83, k_84, k_85, k_86, k_87, k_88, k_89, k_90, k_91, k_92, k_93, k_94, k_95, k_96, k_97, k_98, k_99, k_100, k_101, k_102, k_103, k_104, k_105, k_106, k_107, k_108, k_109, k_110, k_111, k_112, k_113, k_114, k_115, k_116, k_117, k_118, k_119, k_120, k_121, k_122, k_123, k_124, k_125, k_126, k_127, k_128, k_129, k_130, k_133, k_144, k_145, k_153, k_193, k_203, k_211, k_227, k_255, k_256, k_280, k_300, k_313, k_371, k_433, k_705, k_997, k_999, k_1000, k_4176, k_4547, k_9999, k_10000, k_30557, k_99999, k_1000000, k_1000000000, nI_add, pk_mul, w_sub, w_rem, w_div, w_dv, w_rm, nI_leI, nI_ltI, nI_eq, w_em, w_me, w_lm, w_ml, w_lem, w_mle, bnd, Option.some.injEq, xI_n, yI_n, xL_n, yL_n, xP_n, xG_n, I_same, I_row, I_col, L_1, Q_1, R_same, R_row, if_pos, if_neg, ite_self, not_true, not_false, decide_true, decide_false, Nat.add_assoc, true_and, and_true, Nat.zero_add, Nat.add_zero, Nat.mul_zero, Nat.mul_one, Nat.one_mul, eq_self, decide_eq_true, decide_eq_false, Bool.true_eq_false, Bool.false_eq_true, ↓reduceIte, Nat.reduceAdd, Nat.reduceMul, Nat.reduceSub, Nat.reduceDiv, Nat.reduceMod, bb_t, bb_f, hh, htb, h3, c]
        · rintro (h | ⟨g0, l', g2, g3⟩)
          · exact Or.inl h
          · exact Or.inr ⟨g0, l', by omega, g3⟩
        · rintro (h | ⟨g0, l', g2, g3, g4, g5⟩)
          · exact Or.inl h
          · by_cases el : l' = l
            · rw [el] at g5
              exact absurd g5 c
            · exact Or.inr ⟨g0, l', by omega, g3, g4, g5⟩
    · rw [decide_eq_false hbit] at hh
      obtain ⟨m', a1, a2, a3⟩ := ih (l + 1) q m (by omega) (by omega) hm
      refine ⟨m', a1, ?_, fun x => (a3 x).trans ⟨?_, ?_⟩⟩
      · rw [← a2]
        simp (disch := omega) only [k_0, k_1, k_2, k_3, k_4, k_5, k_6, k_7, k_8, k_9, k_10, k_11, k_12, k_13, k_14, k_15, k_16, k_17, k_18, k_19, k_20, k_21, k_22, k_23, k_24, k_25, k_26, k_27, k_28, k_29, k_30, k_31, k_32, k_33, k_34, k_35, k_36, k_37, k_38, k_39, k_40, k_41, k_42, k_43, k_44, k_45, k_46, k_47, k_48, k_49, k_50, k_51, k_52, k_53, k_54, k_55, k_56, k_57, k_58, k_59, k_60, k_61, k_62, k_63, k_64, k_65, k_66, k_67, k_68, k_69, k_70, k_71, k_72, k_73, k_74, k_75, k_76, k_77, k_78, k_79, k_80, k_81, k_82, k_83, k_84, k_85, k_86, k_87, k_88, k_89, k_90, k_91, k_92, k_93, k_94, k_95, k_96, k_97, k_98, k_99, k_100, k_101, k_102, k_103, k_104, k_105, k_106, k_107, k_108, k_109, k_110, k_111, k_112, k_113, k_114, k_115, k_116, k_117, k_118, k_119, k_120, k_121, k_122, k_123, k_124, k_125, k_126, k_127, k_128, k_129, k_130, k_133, k_144, k_145, k_153, k_193, k_203, k_211, k_227, k_255, k_256, k_280, k_300, k_313, k_371, k_433, k_705, k_997, k_999, k_1000, k_4176, k_4547, k_9999, k_10000, k_30557, k_99999, k_1000000, k_1000000000, nI_add, pk_mul, w_sub, w_rem, w_div, w_dv, w_rm, nI_leI, nI_ltI, nI_eq, w_em, w_me, w_lm, w_ml, w_lem, w_mle, bnd, Option.some.injEq, xI_n, yI_n, xL_n, yL_n, xP_n, xG_n, I_same, I_row, I_col, L_1, Q_1, R_same, R_row, if_pos, if_neg, ite_self, not_true, not_false, decide_true, decide_false, Nat.add_assoc, true_and, and_true, Nat.zero_add, Nat.add_zero, Nat.mul_zero, Nat.mul_one, Nat.one_mul, eq_self, decide_eq_true, decide_eq_false, Bool.true_eq_false, Bool.false_eq_true, ↓reduceIte, Nat.reduceAdd, Nat.reduceMul, Nat.reduceSub, Nat.reduceDiv, Nat.reduceMod, bb_t, bb_f, hh]
      · rintro (h | ⟨g0, l', g2, g3⟩)
        · exact Or.inl h
        · exact Or.inr ⟨g0, l', by omega, g3⟩
      · rintro (h | ⟨g0, -⟩)
        · exact Or.inl h
        · exact absurd ((bit_t pl p).mpr g0) hbit
theorem r_pb (hW : WFs s) (hRu : RR (υ.1 643) s) (hb : ∀ q, tk q ≤ 1000000000) (ht : ∀ q, q ≤ s 13 1 → υ.1 654 q = nI (tk q)) {pl d : Nat} (hpl : pl < 8192) (hd : d ≤ 9) (hF : ∀ p, pl.testBit p = true → tk p < 1000000000) : ∃ m, m < 8192 ∧ g_X11_placesBy N 642 (nI pl) (nI d) υ = some (nI m) ∧ ∀ x, m.testBit x = true ↔ ∃ p, p < s 13 1 ∧ pl.testBit p = true ∧ ∃ l, l < 2 ∧ bhd (s 14) (s 13 1) p (s 12 (2 * d + l)) = some x ∧ tby (s 12) (s 14) (s 13 1) tk p (2 * d + l) = tk p := by
  obtain ⟨z, b14, -⟩ := b_14 hW
  have hl : ∀ k p q m, p + k = s 13 1 → k < q → m < 8192 → ∃ m', m' < 8192 ∧ g_X11_placesBy_5 N q 642 (nI pl) (nI d) (nI m) (nI p) υ = some (nI m') ∧ ∀ x, m'.testBit x = true ↔ (m.testBit x = true ∨ ∃ p', p ≤ p' ∧ p' < s 13 1 ∧ pl.testBit p' = true ∧ ∃ l, l < 2 ∧ bhd (s 14) (s 13 1) p' (s 12 (2 * d + l)) = some x ∧ tby (s 12) (s 14) (s 13 1) tk p' (2 * d + l) = tk p') := by
    intro k
    induction k with
    | zero =>
      intro p q m hp hq hm
      obtain ⟨q, rfl⟩ : ∃ m, q = m + 1 := ⟨q - 1, by omega⟩
      refine ⟨m, hm, ?_, fun x => ⟨Or.inl, ?_⟩⟩
      · rw [g_X11_placesBy_5]
        simp (disch := omega) only [k_0, k_1, k_2, k_3, k_4, k_5, k_6, k_7, k_8, k_9, k_10, k_11, k_12, k_13, k_14, k_15, k_16, k_17, k_18, k_19, k_20, k_21, k_22, k_23, k_24, k_25, k_26, k_27, k_28, k_29, k_30, k_31, k_32, k_33, k_34, k_35, k_36, k_37, k_38, k_39, k_40, k_41, k_42, k_43, k_44, k_45, k_46, k_47, k_48, k_49, k_50, k_51, k_52, k_53, k_54, k_55, k_56, k_57, k_58, k_59, k_60, k_61, k_62, k_63, k_64, k_65, k_66, k_67, k_68, k_69, k_70, k_71, k_72, k_73, k_74, k_75, k_76, k_77, k_78, k_79, k_80, k_81, k_82, k_83, k_84, k_85, k_86, k_87, k_88, k_89, k_90, k_91, k_92, k_93, k_94, k_95, k_96, k_97, k_98, k_99, k_100, k_101, k_102, k_103, k_104, k_105, k_106, k_107, k_108, k_109, k_110, k_111, k_112, k_113, k_114, k_115, k_116, k_117, k_118, k_119, k_120, k_121, k_122, k_123, k_124, k_125, k_126, k_127, k_128, k_129, k_130, k_133, k_144, k_145, k_153, k_193, k_203, k_211, k_227, k_255, k_256, k_280, k_300, k_313, k_371, k_433, k_705, k_997, k_999, k_1000, k_4176, k_4547, k_9999, k_10000, k_30557, k_99999, k_1000000, k_1000000000, nI_add, pk_mul, w_sub, w_rem, w_div, w_dv, w_rm, nI_leI, nI_ltI, nI_eq, w_em, w_me, w_lm, w_ml, w_lem, w_mle, bnd, Option.some.injEq, xI_n, yI_n, xL_n, yL_n, xP_n, xG_n, I_same, I_row, I_col, L_1, Q_1, R_same, R_row, if_pos, if_neg, ite_self, not_true, not_false, decide_true, decide_false, Nat.add_assoc, true_and, and_true, Nat.zero_add, Nat.add_zero, Nat.mul_zero, Nat.mul_one, Nat.one_mul, eq_self, decide_eq_true, decide_eq_false, Bool.true_eq_false, Bool.false_eq_true, ↓reduceIte, Nat.reduceAdd, Nat.reduceMul, Nat.reduceSub, Nat.reduceDiv, Nat.reduceMod, bb_t, bb_f, r_4 hRu]
      · rintro (h | ⟨p', h1, h2, -⟩)
        · exact h
        · omega
    | succ k ih =>
      intro p q m hp hq hm
      obtain ⟨q, rfl⟩ : ∃ m, q = m + 1 := ⟨q - 1, by omega⟩
      obtain ⟨m1, a1, a2, a3⟩ := r_19 (N := N) hW hRu hb ht hpl hd (p := p) (by omega) (hF p) (g_X11_placesBy_5 N q) 2 0 fu m (by omega) (by unfold fu; omega) hm
      obtain ⟨m', b1, b2, b3⟩ := ih (p + 1) q m1 (by omega) (by omega) a1
      refine ⟨m', b1, ?_, fun x => (b3 x).trans ⟨?_, ?_⟩⟩
      · rw [g_X11_placesBy_5]
        simp (disch := omega) only [k_0, k_1, k_2, k_3, k_4, k_5, k_6, k_7, k_8, k_9, k_10, k_11, k_12, k_13, k_14, k_15, k_16, k_17, k_18, k_19, k_20, k_21, k_22, k_23, k_24, k_25, k_26, k_27, k_28, k_29, k_30, k_31, k_32, k_33, k_34, k_35, k_36, k_37, k_38, k_39, k_40, k_41, k_42, k_43, k_44, k_45, k_46, k_47, k_48, k_49, k_50, k_51, k_52, k_53, k_54, k_55, k_56, k_57, k_58, k_59, k_60, k_61, k_62, k_63, k_64, k_65, k_66, k_67, k_68, k_69, k_70, k_71, k_72, k_73, k_74, k_75, k_76, k_77, k_78, k_79, k_80, k_81, k_82, k_83, k_84, k_85, k_86, k_87, k_88, k_89, k_90, k_91, k_92, k_93, k_94, k_95, k_96, k_97, k_98, k_99, k_100, k_101, k_102, k_103, k_104, k_105, k_106, k_107, k_108, k_109, k_110, k_111, k_112, k_113, k_114, k_115, k_116, k_117, k_118, k_119, k_120, k_121, k_122, k_123, k_124, k_125, k_126, k_127, k_128, k_129, k_130, k_133, k_144, k_145, k_153, k_193, k_203, k_211, k_227, k_255, k_256, k_280, k_300, k_313, k_371, k_433, k_705, k_997, k_999, k_1000, k_4176, k_4547, k_9999, k_10000, k_30557, k_99999, k_1000000, k_1000000000, nI_add, pk_mul, w_sub, w_rem, w_div, w_dv, w_rm, nI_leI, nI_ltI, nI_eq, w_em, w_me, w_lm, w_ml, w_lem, w_mle, bnd, Option.some.injEq, xI_n, yI_n, xL_n, yL_n, xP_n, xG_n, I_same, I_row, I_col, L_1, Q_1, R_same, R_row, if_pos, if_neg, ite_self, not_true, not_false, decide_true, decide_false, Nat.add_assoc, true_and, and_true, Nat.zero_add, Nat.add_zero, Nat.mul_zero, Nat.mul_one, Nat.one_mul, eq_self, decide_eq_true, decide_eq_false, Bool.true_eq_false, Bool.false_eq_true, ↓reduceIte, Nat.reduceAdd, Nat.reduceMul, Nat.reduceSub, Nat.reduceDiv, Nat.reduceMod, bb_t, bb_f, r_4 hRu]
        rw [a2]
        exact b2
      · rintro (h | ⟨p', h1, h2⟩)
        · rcases (a3 x).mp h with h | ⟨h1, l', -, h3, h4⟩
          · exact Or.inl h
          · exact Or.inr ⟨p, Nat.le_refl _, by omega, h1, l', h3, h4⟩
        · exact Or.inr ⟨p', by omega, h2⟩
      · rintro (h | ⟨p', h1, h2, h3, l', h4, h5⟩)
        · exact Or.inl ((a3 x).mpr (Or.inl h))
        · by_cases e : p' = p
          · rw [e] at h3 h5
            exact Or.inl ((a3 x).mpr (Or.inr ⟨h3, l', by omega, h4, h5⟩))
          · exact Or.inr ⟨p', by omega, h2, h3, l', h4, h5⟩
  obtain ⟨m, a1, a2, a3⟩ := hl (s 13 1) 0 fu 0 (by omega) (by unfold fu; omega) (by omega)
  refine ⟨m, a1, ?_, fun x => (a3 x).trans ⟨?_, ?_⟩⟩
  · unfold g_X11_placesBy g_X11_placesBy_0
    exact a2
  · rintro (h | ⟨p, -, h2⟩)
    · exact absurd rfl (nz_t.mpr ⟨x, h⟩)
    · exact ⟨p, h2⟩
  · rintro ⟨p, h2⟩
    exact Or.inr ⟨p, by omega, h2⟩
/-- the class's next digit: the first that leads on -/
theorem c_dig (hC : RC 1 τ s) (hW : WFs s) {ld : Nat → Nat} {c pl k : Nat} (hL : LDs s τ ld c) (hk : k < c) (hc : c ≤ 13) (hpl : pl < 8192) (K : Nat → Nat → Nat → Nat → Int32 → Int32 → ST → Option ST) : ∀ r d q, d + r = 9 → r < q → (∃ d0, d ≤ d0 ∧ d0 ≤ 9 ∧ Hs s pl k d0) → ∃ d' m, d ≤ d' ∧ d' ≤ 9 ∧ (∀ x, d ≤ x → x < d' → ¬ Hs s pl k x) ∧ m < 8192 ∧ m ≠ 0 ∧ (∀ x, m.testBit x = true ↔ (∃ p, p ≤ s 13 1 ∧ pl.testBit p = true ∧ Eg (s 12) (s 14) (s 13 1) p d' x) ∧ Rch (s 12) (s 14) (s 13 1) k x) ∧ g_X6_fewest_95 N q K 603 14 20 13 (nI pl) (nI k) (nI d) τ = (g_X3_append N 604 (nI d') τ).bind fun r3 => K 603 14 20 13 (nI m) (nI k - nI 1) r3.2 := by
  obtain ⟨z, b14, -⟩ := b_14 hW
  obtain ⟨l1, l2, l3⟩ := hL k hk
  intro r
  induction r with
  | zero =>
    rintro d q hd hq ⟨d0, h1, h2, hH⟩
    obtain rfl : d = 9 := by omega
    obtain rfl : d0 = 9 := by omega
    obtain ⟨q, rfl⟩ : ∃ m, q = m + 1 := ⟨q - 1, by omega⟩
    obtain ⟨m, m1, m2, m3⟩ := c_on (N := N) hC hW hpl (Nat.le_refl 9)
    have hmt : ∀ x, (m &&& ld k).testBit x = true ↔ (∃ p, p ≤ s 13 1 ∧ pl.testBit p = true ∧ Eg (s 12) (s 14) (s 13 1) p 9 x) ∧ Rch (s 12) (s 14) (s 13 1) k x := by
      intro x
      rw [Nat.testBit_and, Bool.and_eq_true, m3, l3]
    refine ⟨9, m &&& ld k, Nat.le_refl _, Nat.le_refl _, fun x h1 h2 => by omega, an_b l2, ?_, hmt, ?_⟩
    · obtain ⟨x, hx⟩ := hH
      exact nz_t.mpr ⟨x, (hmt x).mpr hx⟩
    · rw [g_X6_fewest_95]
      unfold g_X6_fewest_128
      simp (disch := omega) only [k_0, k_1, k_2, k_3, k_4, k_5, k_6, k_7, k_8, k_9, k_10, k_11, k_12, k_13, k_14, k_15, k_16, k_17, k_18, k_19, k_20, k_21, k_22, k_23, k_24, k_25, k_26, k_27, k_28, k_29, k_30, k_31, k_32, k_33, k_34, k_35, k_36, k_37, k_38, k_39, k_40, k_41, k_42, k_43, k_44, k_45, k_46, k_47, k_48, k_49, k_50, k_51, k_52, k_53, k_54, k_55, k_56, k_57, k_58, k_59, k_60, k_61, k_62, k_63, k_64, k_65, k_66, k_67, k_68, k_69, k_70, k_71, k_72, k_73, k_74, k_75, k_76, k_77, k_78, k_79, k_80, k_81, k_82, k_83, k_84, k_85, k_86, k_87, k_88, k_89, k_90, k_91, k_92, k_93, k_94, k_95, k_96, k_97, k_98, k_99, k_100, k_101, k_102, k_103, k_104, k_105, k_106, k_107, k_108, k_109, k_110, k_111, k_112, k_113, k_114, k_115, k_116, k_117, k_118, k_119, k_120, k_121, k_122, k_123, k_124, k_125, k_126, k_127, k_128, k_129, k_130, k_133, k_144, k_145, k_153, k_193, k_203, k_211, k_227, k_255, k_256, k_280, k_300, k_313, k_371, k_433, k_705, k_997, k_999, k_1000, k_4176, k_4547, k_9999, k_10000, k_30557, k_99999, k_1000000, k_1000000000, nI_add, pk_mul, w_sub, w_rem, w_div, w_dv, w_rm, nI_leI, nI_ltI, nI_eq, w_em, w_me, w_lm, w_ml, w_lem, w_mle, bnd, Option.some.injEq, xI_n, yI_n, xL_n, yL_n, xP_n, xG_n, I_same, I_row, I_col, L_1, Q_1, R_same, R_row, if_pos, if_neg, ite_self, not_true, not_false, decide_true, decide_false, Nat.add_assoc, true_and, and_true, Nat.zero_add, Nat.add_zero, Nat.mul_zero, Nat.mul_one, Nat.one_mul, eq_self, decide_eq_true, decide_eq_false, Bool.true_eq_false, Bool.false_eq_true, ↓reduceIte, Nat.reduceAdd, Nat.reduceMul, Nat.reduceSub, Nat.reduceDiv, Nat.reduceMod, bb_t, bb_f, m2, l1, w_an, w_m1']
  | succ r ih =>
    rintro d q hd hq ⟨d0, h1, h2, hH⟩
    obtain ⟨q, rfl⟩ : ∃ m, q = m + 1 := ⟨q - 1, by omega⟩
    obtain ⟨m, m1, m2, m3⟩ := c_on (N := N) hC hW hpl (d := d) (by omega)
    have hmt : ∀ x, (m &&& ld k).testBit x = true ↔ (∃ p, p ≤ s 13 1 ∧ pl.testBit p = true ∧ Eg (s 12) (s 14) (s 13 1) p d x) ∧ Rch (s 12) (s 14) (s 13 1) k x := by
      intro x
      rw [Nat.testBit_and, Bool.and_eq_true, m3, l3]
    have hab : m &&& ld k < 8192 := an_b l2
    by_cases hz : m &&& ld k = 0
    · have hnH : ¬ Hs s pl k d := by
        rintro ⟨x, hx⟩
        exact nz_t.mpr ⟨x, (hmt x).mpr hx⟩ hz
      obtain ⟨d', m', a1, a2, a3, a4⟩ := ih (d + 1) q (by omega) (by omega) ⟨d0, by
        by_cases e : d0 = d
        · rw [e] at hH
          exact absurd hH hnH
        · omega, h2, hH⟩
      refine ⟨d', m', by omega, a2, fun x h1 h2 => ?_, a4.1, a4.2.1, a4.2.2.1, ?_⟩
      · by_cases e : x = d
        · rw [e]; exact hnH
        · exact a3 x (by omega) h2
      · rw [g_X6_fewest_95, ← a4.2.2.2]
        simp (disch := omega) only [k_0, k_1, k_2, k_3, k_4, k_5, k_6, k_7, k_8, k_9, k_10, k_11, k_12, k_13, k_14, k_15, k_16, k_17, k_18, k_19, k_20, k_21, k_22, k_23, k_24, k_25, k_26, k_27, k_28, k_29, k_30, k_31, k_32, k_33, k_34, k_35, k_36, k_37, k_38, k_39, k_40, k_41, k_42, k_43, k_44, k_45, k_46, k_47, k_48, k_49, k_50, k_51, k_52, k_53, k_54, k_55, k_56, k_57, k_58, k_59, k_60, k_61, k_62, k_63, k_64, k_65, k_66, k_67, k_68, k_69, k_70, k_71, k_72, k_73, k_74, k_75, k_76, k_77, k_78, k_79, k_80, k_81, k_82, k_83, k_84, k_85, k_86, k_87, k_88, k_89, k_90, k_91, k_92, k_93, k_94, k_95, k_96, k_97, k_98, k_99, k_100, k_101, k_102, k_103, k_104, k_105, k_106, k_107, k_108, k_109, k_110, k_111, k_112, k_113, k_114, k_115, k_116, k_117, k_118, k_119, k_120, k_121, k_122, k_123, k_124, k_125, k_126, k_127, k_128, k_129, k_130, k_133, k_144, k_145, k_153, k_193, k_203, k_211, k_227, k_255, k_256, k_280, k_300, k_313, k_371, k_433, k_705, k_997, k_999, k_1000, k_4176, k_4547, k_9999, k_10000, k_30557, k_99999, k_1000000, k_1000000000, nI_add, pk_mul, w_sub, w_rem, w_div, w_dv, w_rm, nI_leI, nI_ltI, nI_eq, w_em, w_me, w_lm, w_ml, w_lem, w_mle, bnd, Option.some.injEq, xI_n, yI_n, xL_n, yL_n, xP_n, xG_n, I_same, I_row, I_col, L_1, Q_1, R_same, R_row, if_pos, if_neg, ite_self, not_true, not_false, decide_true, decide_false, Nat.add_assoc, true_and, and_true, Nat.zero_add, Nat.add_zero, Nat.mul_zero, Nat.mul_one, Nat.one_mul, eq_self, decide_eq_true, decide_eq_false, Bool.true_eq_false, Bool.false_eq_true, ↓reduceIte, Nat.reduceAdd, Nat.reduceMul, Nat.reduceSub, Nat.reduceDiv, Nat.reduceMod, bb_t, bb_f, m2, l1, w_an, hz]
    · refine ⟨d, m &&& ld k, Nat.le_refl _, by omega, fun x h1 h2 => by omega, hab, hz, hmt, ?_⟩
      rw [g_X6_fewest_95]
      unfold g_X6_fewest_128
      simp (disch := omega) only [k_0, k_1, k_2, k_3, k_4, k_5, k_6, k_7, k_8, k_9, k_10, k_11, k_12, k_13, k_14, k_15, k_16, k_17, k_18, k_19, k_20, k_21, k_22, k_23, k_24, k_25, k_26, k_27, k_28, k_29, k_30, k_31, k_32, k_33, k_34, k_35, k_36, k_37, k_38, k_39, k_40, k_41, k_42, k_43, k_44, k_45, k_46, k_47, k_48, k_49, k_50, k_51, k_52, k_53, k_54, k_55, k_56, k_57, k_58, k_59, k_60, k_61, k_62, k_63, k_64, k_65, k_66, k_67, k_68, k_69, k_70, k_71, k_72, k_73, k_74, k_75, k_76, k_77, k_78, k_79, k_80, k_81, k_82, k_83, k_84, k_85, k_86, k_87, k_88, k_89, k_90, k_91, k_92, k_93, k_94, k_95, k_96, k_97, k_98, k_99, k_100, k_101, k_102, k_103, k_104, k_105, k_106, k_107, k_108, k_109, k_110, k_111, k_112, k_113, k_114, k_115, k_116, k_117, k_118, k_119, k_120, k_121, k_122, k_123, k_124, k_125, k_126, k_127, k_128, k_129, k_130, k_133, k_144, k_145, k_153, k_193, k_203, k_211, k_227, k_255, k_256, k_280, k_300, k_313, k_371, k_433, k_705, k_997, k_999, k_1000, k_4176, k_4547, k_9999, k_10000, k_30557, k_99999, k_1000000, k_1000000000, nI_add, pk_mul, w_sub, w_rem, w_div, w_dv, w_rm, nI_leI, nI_ltI, nI_eq, w_em, w_me, w_lm, w_ml, w_lem, w_mle, bnd, Option.some.injEq, xI_n, yI_n, xL_n, yL_n, xP_n, xG_n, I_same, I_row, I_col, L_1, Q_1, R_same, R_row, if_pos, if_neg, ite_self, not_true, not_false, decide_true, decide_false, Nat.add_assoc, true_and, and_true, Nat.zero_add, Nat.add_zero, Nat.mul_zero, Nat.mul_one, Nat.one_mul, eq_self, decide_eq_true, decide_eq_false, Bool.true_eq_false, Bool.false_eq_true, ↓reduceIte, Nat.reduceAdd, Nat.reduceMul, Nat.reduceSub, Nat.reduceDiv, Nat.reduceMod, bb_t, bb_f, m2, l1, w_an, hz, w_m1']
end ADR
