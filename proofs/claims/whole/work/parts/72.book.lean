/-! nights: the book -/
/-- room in the book -/
def rmk (w : SS) : SS := if w 0 3 < 30 then w else fun k i => if k = 8 then (if i < 116 then w 8 (i + 4) else w 8 i) else if k = 0 ∧ i = 3 then 29 else w k i
def wrt (w : SS) (m a t : Nat) : SS := us (us (us (us (us w 8 (w 0 3 * 4) (w 0 1)) 8 (w 0 3 * 4 + 1) m) 8 (w 0 3 * 4 + 2) a) 8 (w 0 3 * 4 + 3) t) 0 3 (w 0 3 + 1)
def bk (w : SS) (m a t : Nat) : SS := wrt (rmk w) m a t
def shA (A : Nat → Int32) (t : Nat) : Nat → Int32 := fun i => if 4547 ≤ i ∧ i < 4547 + t then A (i + 2) else A i
section BOO
variable {N : Mem} {σ τ τ0 τ' υ υ' υ0 : ST} {w w' w1 : SS} {b : Nat} {wr : Bool} {A : Nat → Int32}
theorem rmk_3 (hW : WFw w) : rmk w 0 3 < 30 := by
  unfold rmk
  split
  · assumption
  · dsimp only
    rw [if_neg (by omega), if_pos ⟨rfl, rfl⟩]
    omega
theorem rmk_o {k i : Nat} (h1 : k ≠ 8) (h2 : ¬ (k = 0 ∧ i = 3)) : rmk w k i = w k i := by
  unfold rmk
  split
  · rfl
  · dsimp only
    rw [if_neg h1, if_neg h2]
theorem rmk_w (hW : WFw w) : WFw (rmk w) := by
  have hW0 := hW
  obtain ⟨h0, h1, h2, h3, h4, h5, h6, h7, h8, h9, h10, h11⟩ := hW
  have r3 := rmk_3 hW0
  refine ⟨?_, ?_, ?_, by omega, fun m => ?_, fun m => ?_, fun m => ?_, fun m => ?_, fun m => ?_, fun m => ?_, fun m => ?_, fun m => ?_⟩
  · rw [rmk_o (by omega) (by omega)]; exact h0
  · rw [rmk_o (by omega) (by omega)]; exact h1
  · rw [rmk_o (by omega) (by omega)]; exact h2
  · rw [rmk_o (by omega) (by omega)]; exact h4 m
  · rw [rmk_o (by omega) (by omega)]; exact h5 m
  · rw [rmk_o (by omega) (by omega)]; exact h6 m
  · rw [rmk_o (by omega) (by omega)]; exact h7 m
  · rw [rmk_o (by omega) (by omega)]; exact h8 m
  · rw [rmk_o (by omega) (by omega)]; exact h9 m
  · rw [rmk_o (by omega) (by omega)]; exact h10 m
  · unfold rmk
    split
    · exact h11 m
    · dsimp only
      rw [if_pos rfl, if_pos rfl, if_pos rfl, if_pos rfl]
      have g1 := h11 (m + 1)
      have g0 := h11 m
      rw [show 4 * (m + 1) = 4 * m + 4 by omega, show 4 * m + 4 + 1 = 4 * m + 1 + 4 by omega, show 4 * m + 4 + 2 = 4 * m + 2 + 4 by omega, show 4 * m + 4 + 3 = 4 * m + 3 + 4 by omega] at g1
      refine ⟨?_, ?_, ?_, ?_⟩
      · split
        · exact g1.1
        · exact g0.1
      · split
        · exact g1.2.1
        · exact g0.2.1
      · split
        · exact g1.2.2.1
        · exact g0.2.2.1
      · split
        · exact g1.2.2.2
        · exact g0.2.2.2
theorem wrt_o {m a t k i : Nat} (h1 : k ≠ 8) (h2 : ¬ (k = 0 ∧ i = 3)) : wrt w m a t k i = w k i := by
  unfold wrt
  refine Eq.trans (if_neg h2) ?_
  rw [us_row h1, us_row h1, us_row h1, us_row h1]
theorem wrt_w (hW : WFw w) (h30 : w 0 3 < 30) {m a t : Nat} (hm : m ≤ 4) (ha : a ≤ 9999) (ht : t ≤ 9999) : WFw (wrt w m a t) := by
  obtain ⟨h0, h1, h2, h3, h4, h5, h6, h7, h8, h9, h10, h11⟩ := hW
  refine ⟨?_, ?_, ?_, ?_, fun m => ?_, fun m => ?_, fun m => ?_, fun m => ?_, fun m => ?_, fun m => ?_, fun m => ?_, fun q => ?_⟩
  · rw [wrt_o (by omega) (by omega)]; exact h0
  · rw [wrt_o (by omega) (by omega)]; exact h1
  · rw [wrt_o (by omega) (by omega)]; exact h2
  · unfold wrt
    rw [us_same rfl rfl]; omega
  · rw [wrt_o (by omega) (by omega)]; exact h4 m
  · rw [wrt_o (by omega) (by omega)]; exact h5 m
  · rw [wrt_o (by omega) (by omega)]; exact h6 m
  · rw [wrt_o (by omega) (by omega)]; exact h7 m
  · rw [wrt_o (by omega) (by omega)]; exact h8 m
  · rw [wrt_o (by omega) (by omega)]; exact h9 m
  · rw [wrt_o (by omega) (by omega)]; exact h10 m
  · have g := h11 q
    unfold wrt
    by_cases e : q = w 0 3
    · subst e
      simp (disch := omega) only [us_row, us_col, us_same]
      exact ⟨h1, hm, ha, ht⟩
    · simp (disch := omega) only [us_row, us_col]
      exact g
theorem bk_o {m a t k i : Nat} (h1 : k ≠ 8) (h2 : ¬ (k = 0 ∧ i = 3)) : bk w m a t k i = w k i := by
  unfold bk
  rw [wrt_o h1 h2, rmk_o h1 h2]
theorem bk_w (hW : WFw w) {m a t : Nat} (hm : m ≤ 4) (ha : a ≤ 9999) (ht : t ≤ 9999) : WFw (bk w m a t) := wrt_w (rmk_w hW) (rmk_3 hW) hm ha ht
theorem bk_us {m a t : Nat} : bk (us w 5 m t) m a t = us (bk w m a t) 5 m t := by
  have e1 : rmk (us w 5 m t) = us (rmk w) 5 m t := by
    unfold rmk
    rw [us_row (by omega)]
    split
    · rfl
    · funext k i
      have u8 : ∀ q, us w 5 m t 8 q = w 8 q := fun q => us_row (by omega)
      rw [u8, u8]
      by_cases c : k = 5 ∧ i = m
      · rw [us_same c.1 c.2, us_same c.1 c.2, if_neg (by omega), if_neg (by omega)]
      · have e6 : ∀ v : SS, us v 5 m t k i = v k i := fun v => if_neg c
        rw [e6, e6]
  unfold bk
  rw [e1]
  generalize rmk w = v
  unfold wrt
  have e3 : us v 5 m t 0 3 = v 0 3 := us_row (by omega)
  have e4 : us v 5 m t 0 1 = v 0 1 := us_row (by omega)
  rw [e3, e4]
  funext k i
  by_cases c : k = 5
  · subst c
    rw [us_row (by omega), us_row (by omega), us_row (by omega), us_row (by omega), us_row (by omega)]
    by_cases c2 : i = m
    · rw [us_same rfl c2, us_same rfl c2]
    · rw [us_col c2, us_col c2, us_row (by omega), us_row (by omega), us_row (by omega), us_row (by omega), us_row (by omega)]
  · rw [us_row (k := 5) c]
    unfold us
    rw [if_neg (c := k = 5 ∧ i = m) (fun q => c q.1)]
/-- the class writes it down -/
theorem bel_c (h : CW b τ0 τ w) (hW : WFw w) {m : Nat} (hm : m < w 0 0) : ∃ τ', g_X9_believe N b (nI m) τ = some τ' ∧ CW b τ0 τ' (us (bk w m (w 5 m) (rnm w m)) 5 m (rnm w m)) := by
  have hc : w 0 0 ≤ 5 := hW.1
  have hb30 : w 0 3 ≤ 30 := hW.2.2.2.1
  have hn := num_c (N := N) h.1 hW hm
  have e3 : τ.1 b 3 = nI (w 0 3) := h.1 0 3 (by omega)
  have key : ∀ (τ : ST) (v : SS) (t : Nat), CW b τ0 τ v → v 0 3 < 30 → ∃ τ', g_X9_believe_36 N b (nI m) (nI t) τ = some τ' ∧ CW b τ0 τ' (us (wrt v m (v 5 m) t) 5 m t) := by
    intro τ v t h h30
    have e3 : τ.1 b 3 = nI (v 0 3) := h.1 0 3 (by omega)
    have e1 : τ.1 b 1 = nI (v 0 1) := h.1 0 1 (by omega)
    have e5 : τ.1 (b + 5) m = nI (v 5 m) := h.1 5 m (by omega)
    refine ⟨_, ?_, (((((h.set (k := 8) (i := v 0 3 * 4) (v := v 0 1) (by omega)).set (k := 8) (i := v 0 3 * 4 + 1) (v := m) (by omega)).set (k := 8) (i := v 0 3 * 4 + 2) (v := v 5 m) (by omega)).set (k := 8) (i := v 0 3 * 4 + 3) (v := t) (by omega)).set (k := 0) (i := 3) (v := v 0 3 + 1) (by omega)).set (k := 5) (i := m) (v := t) (by omega)⟩
    unfold g_X9_believe_36
    simp (disch := omega) only [k_0, k_1, k_2, k_3, k_4, k_5, k_6, k_7, k_8, k_9, k_10, k_11, k_12, k_13, k_14, k_15, k_16, k_17, k_18, k_19, k_20, k_21, k_22, k_23, k_24, k_25, k_26, k_27, k_28, k_29, k_30, k_31, k_32, k_33, k_34, k_35, k_36, k_37, k_38, k_39, k_40, k_41, k_42, k_43, k_44, k_45, k_46, k_47, k_48, k_49, k_50, k_51, k_52, k_53, k_54, k_55, k_56, k_57, k_58, k_59, k_60, k_61, k_62, k_63, k_64, k_65, k_66, k_67, k_68, k_69, k_70, k_71, k_72, k_73, k_74, k_75, k_76, k_77, k_78, k_79, k_80, k_81, k_82, k_83, k_84, k_85, k_86, k_87, k_88, k_89, k_90, k_91, k_92, k_93, k_94, k_95, k_96, k_97, k_98, k_99, k_100, k_101, k_102, k_103, k_104, k_105, k_106, k_107, k_108, k_109, k_110, k_111, k_112, k_113, k_114, k_115, k_116, k_117, k_118, k_119, k_120, k_121, k_122, k_123, k_124, k_125, k_126, k_127, k_128, k_129, k_130, k_133, k_144, k_145, k_153, k_193, k_203, k_211, k_227, k_255, k_256, k_280, k_300, k_313, k_371, k_433, k_705, k_997, k_999, k_1000, k_4176, k_4547, k_9999, k_10000, k_30557, k_99999, k_1000000, k_1000000000, nI_add, pk_mul, w_sub, w_rem, w_div, w_dv, w_rm, nI_leI, nI_ltI, nI_eq, w_em, w_me, w_lm, w_ml, w_lem, w_mle, bnd, Option.some.injEq, xI_n, yI_n, xL_n, yL_n, xP_n, xG_n, I_same, I_row, I_col, L_1, Q_1, R_same, R_row, if_pos, if_neg, ite_self, not_true, not_false, decide_true, decide_false, Nat.add_assoc, true_and, and_true, Nat.zero_add, Nat.add_zero, Nat.mul_zero, Nat.mul_one, Nat.one_mul, eq_self, decide_eq_true, decide_eq_false, Bool.true_eq_false, Bool.false_eq_true, ↓reduceIte, Nat.reduceAdd, Nat.reduceMul, Nat.reduceSub, Nat.reduceDiv, Nat.reduceMod, bb_t, bb_f, e3, e1, e5]
  unfold g_X9_believe g_X9_believe_0 bk
  rw [hn, bnd, k_30, e3]
  have e5 : rmk w 5 m = w 5 m := rmk_o (by omega) (by omega)
  by_cases c : w 0 3 < 30
  · rw [if_pos (nI_lt c (by omega))]
    have er : rmk w = w := by unfold rmk; rw [if_pos c]
    rw [er]
    exact key τ w _ h c
  · rw [if_neg (nI_nlt (by omega) (by omega))]
    have z1 : zC 120 120 τ (b + 8) (nI 4) (b + 8) (nI 0) (nI 116) = some (setR τ (b + 8) (fun j => if j < 116 then τ.1 (b + 8) (j + 4) else τ.1 (b + 8) j)) := by
      unfold zC
      rw [nI_clamp (by omega), nI_clamp (by omega), nI_clamp (by omega), if_neg]
      · congr 2
        funext j
        unfold va_cpy
        by_cases q : j < 116
        · rw [if_pos ⟨Nat.zero_le _, by omega⟩, if_pos q, show 4 + (j - 0) = j + 4 by omega]
        · rw [if_neg (by omega), if_neg q]
      · intro q
        rcases q with q | q | q | q | q
        · exact nI_pos (by omega) q
        · exact nI_pos (by omega) q
        · exact nI_pos (by omega) q
        · omega
        · omega
    have h2 : CW b τ0 (setI (setR τ (b + 8) (fun j => if j < 116 then τ.1 (b + 8) (j + 4) else τ.1 (b + 8) j)) b 3 (nI 29)) (rmk w) := by
      obtain ⟨g1, g2, g3⟩ := h
      refine ⟨fun k i hk => ?_, fun a j q1 q2 q3 => ?_, g3⟩
      · unfold rmk
        rw [if_neg c]
        by_cases c8 : k = 8
        · subst c8
          rw [I_row (by omega), R_same rfl, if_pos rfl]
          by_cases q : i < 116
          · rw [if_pos q, if_pos q]; exact g1 8 _ (by omega)
          · rw [if_neg q, if_neg q]; exact g1 8 _ (by omega)
        · rw [if_neg c8]
          by_cases c3 : k = 0 ∧ i = 3
          · rw [if_pos c3, I_same (by omega) c3.2]
          · rw [if_neg c3]
            have e : (setI (setR τ (b + 8) (fun j => if j < 116 then τ.1 (b + 8) (j + 4) else τ.1 (b + 8) j)) b 3 (nI 29)).1 (b + k) i = (setR τ (b + 8) (fun j => if j < 116 then τ.1 (b + 8) (j + 4) else τ.1 (b + 8) j)).1 (b + k) i := if_neg (by omega)
            rw [e, R_row (by omega)]
            exact g1 k i hk
      · rw [I_row (by omega), R_row (by omega)]
        exact g2 a j q1 q2 q3
    obtain ⟨τ', a1, a2⟩ := key _ _ (rnm w m) h2 (rmk_3 hW)
    rw [e5] at a2
    refine ⟨τ', ?_, a2⟩
    rw [k_4, k_0, k_116, z1, bnd, k_29, bnd]
    exact a1
theorem w23 (m a t : Nat) : ∀ d k n A, k + d = 60 → 2 ≤ k → d < n → g_X11_write_23 N n 642 (nI m) (nI a) (nI t) (nI k) (setR υ 643 (shA A (k - 2))) = (xI 4607 (setR υ 643 (shA A 58)) 643 (nI 10)).bind fun v8 => (yI 4607 (setR υ 643 (shA A 58)) 643 (nI 10) (v8 - nI 1)).bind fun r9 => g_X11_write_71 N 642 (nI m) (nI a) (nI t) r9 := by
  intro d
  induction d with
  | zero =>
    intro k n A hk h2 hn
    obtain ⟨n, rfl⟩ : ∃ x, n = x + 1 := ⟨n - 1, by omega⟩
    obtain rfl : k = 60 := by omega
    rw [g_X11_write_23, k_60, if_pos (nI_le (Nat.le_refl _) (by omega)), k_10, k_1]
  | succ d ih =>
    intro k n A hk h2 hn
    obtain ⟨n, rfl⟩ : ∃ x, n = x + 1 := ⟨n - 1, by omega⟩
    have es : ua (shA A (k - 2)) (4547 + k - 2) (shA A (k - 2) (4547 + k)) = shA A (k + 1 - 2) := by
      funext i
      unfold ua shA
      by_cases c : i = 4547 + k - 2
      · rw [if_pos c, if_neg (by omega), if_pos (by omega), show i + 2 = 4547 + k by omega]
      · rw [if_neg c]
        by_cases c2 : 4547 ≤ i ∧ i < 4547 + (k - 2)
        · rw [if_pos c2, if_pos (by omega)]
        · rw [if_neg c2, if_neg (by omega)]
    rw [g_X11_write_23, ← ih (k + 1) n A (by omega) (by omega) (by omega), ← es]
    simp (disch := omega) only [k_0, k_1, k_2, k_3, k_4, k_5, k_6, k_7, k_8, k_9, k_10, k_11, k_12, k_13, k_14, k_15, k_16, k_17, k_18, k_19, k_20, k_21, k_22, k_23, k_24, k_25, k_26, k_27, k_28, k_29, k_30, k_31, k_32, k_33, k_34, k_35, k_36, k_37, k_38, k_39, k_40, k_41, k_42, k_43, k_44, k_45, k_46, k_47, k_48, k_49, k_50, k_51, k_52, k_53, k_54, k_55, k_56, k_57, k_58, k_59, k_60, k_61, k_62, k_63, k_64, k_65, k_66, k_67, k_68, k_69, k_70, k_71, k_72, k_73, k_74, k_75, k_76, k_77, k_78, k_79, k_80, k_81, k_82, k_83, k_84, k_85, k_86, k_87, k_88, k_89, k_90, k_91, k_92, k_93, k_94, k_95, k_96, k_97, k_98, k_99, k_100, k_101, k_102, k_103, k_104, k_105, k_106, k_107, k_108, k_109, k_110, k_111, k_112, k_113, k_114, k_115, k_116, k_117, k_118, k_119, k_120, k_121, k_122, k_123, k_124, k_125, k_126, k_127, k_128, k_129, k_130, k_133, k_144, k_145, k_153, k_193, k_203, k_211, k_227, k_255, k_256, k_280, k_300, k_313, k_371, k_433, k_705, k_997, k_999, k_1000, k_4176, k_4547, k_9999, k_10000, k_30557, k_99999, k_1000000, k_1000000000, nI_add, pk_mul, w_sub, w_rem, w_div, w_dv, w_rm, nI_leI, nI_ltI, nI_eq, w_em, w_me, w_lm, w_ml, w_lem, w_mle, bnd, Option.some.injEq, xI_n, yI_n, xL_n, yL_n, xP_n, xG_n, I_same, I_row, I_col, L_1, Q_1, R_same, R_row, if_pos, if_neg, ite_self, not_true, not_false, decide_true, decide_false, Nat.add_assoc, true_and, and_true, Nat.zero_add, Nat.add_zero, Nat.mul_zero, Nat.mul_one, Nat.one_mul, eq_self, decide_eq_true, decide_eq_false, Bool.true_eq_false, Bool.false_eq_true, ↓reduceIte, Nat.reduceAdd, Nat.reduceMul, Nat.reduceSub, Nat.reduceDiv, Nat.reduceMod, bb_t, bb_f, R_ua]
end BOO
