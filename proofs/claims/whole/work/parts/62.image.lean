/-! image and back: a state is copied -/
def ur (z : SS) (k n : Nat) (f : Nat → Nat) : SS := fun a j => if a = k ∧ j < n then f j else z a j
def wr (k i : Nat) : Prop := (1 ≤ k ∧ k < 10 ∧ i < wl (k - 1)) ∨ (26 ≤ k ∧ k < 296 ∧ i < wl ((k - 26) % 9))
def inr (k i : Nat) : Prop := wr k i ∨ (k = 0 ∧ (i = 2 ∨ i = 3 ∨ i = 5 ∨ i = 6)) ∨ (k = 12 ∧ i < 20) ∨ (k = 14 ∧ i < 12) ∨ (k = 13 ∧ i = 1) ∨ (k = 16 ∧ i < 12) ∨ (k = 15 ∧ i = 1) ∨ (k = 18 ∧ i < 8) ∨ (k = 17 ∧ i = 1) ∨ (k = 20 ∧ i < 8) ∨ (k = 19 ∧ i = 1) ∨ (k = 22 ∧ i < 8) ∨ (k = 21 ∧ i = 1) ∨ (k = 23 ∧ i < 25) ∨ (k = 24 ∧ i < 25) ∨ (k = 25 ∧ i < 8)
def Mix (s z z' : SS) : Prop := ∀ k i, z' k i = s k i ∨ z' k i = z k i
def CPI (σ : ST) (b c : Nat) (s z : SS) (r : ST) : Prop := RC b r z ∧ RC c r s ∧ (∀ a i, a < b ∨ b + 296 ≤ a → r.1 a i = σ.1 a i) ∧ r.2 = σ.2
theorem ur_in {z : SS} {k n a j : Nat} {f : Nat → Nat} (h1 : a = k) (h2 : j < n) : ur z k n f a j = f j := if_pos ⟨h1, h2⟩
theorem ur_row {z : SS} {k n a j : Nat} {f : Nat → Nat} (h1 : a ≠ k) : ur z k n f a j = z a j := if_neg fun h => h1 h.1
theorem Mix.us {s z z' : SS} {k i : Nat} (h : Mix s z z') : Mix s z (us z' k i (s k i)) := by
  intro a j
  by_cases e : a = k ∧ j = i
  · obtain ⟨rfl, rfl⟩ := e
    exact Or.inl (us_same rfl rfl)
  · have e2 : _root_.Jvm.Pilot.CMachinesDreamLaw_law_r7552_56ae04.us z' k i (s k i) a j = z' a j := if_neg e
    rw [e2]
    exact h a j
theorem Mix.ur {s z z' : SS} {k n : Nat} (h : Mix s z z') : Mix s z (ur z' k n (s k)) := by
  intro a j
  by_cases e : a = k ∧ j < n
  · obtain ⟨rfl, e⟩ := e
    exact Or.inl (ur_in rfl e)
  · have e2 : _root_.Jvm.Pilot.CMachinesDreamLaw_law_r7552_56ae04.ur z' k n (s k) a j = z' a j := if_neg e
    rw [e2]
    exact h a j
section IMG
variable {N : Mem} {σ τ r υ : ST} {s z : SS} {b c : Nat}
theorem RC6 (h : RC b σ s) {v : Nat} : RC b (setI σ b 6 (nI v - nI 1)) (us s 0 6 v) := by
  refine ⟨fun k j hk hj => ?_, ?_⟩
  · by_cases e : k = 0
    · subst e
      rw [Nat.add_zero, I_col (by omega), us_col (by omega)]
      exact h.1 0 j hk hj
    · rw [I_row (by omega), us_row e]
      exact h.1 k j hk hj
  · rw [I_same rfl rfl, us_same rfl rfl]
theorem CPI.fld (hbc : b + 296 ≤ c ∨ c + 296 ≤ b) (h : CPI σ b c s z r) {f : Nat} (hf : f ≠ 6) : CPI σ b c s (us z 0 f (s 0 f)) (setI r b f (r.1 c f)) := by
  obtain ⟨h1, h2, h3, h4⟩ := h
  have e : r.1 c f = nI (s 0 f) := h2.1 0 f (by omega) (by omega)
  rw [e]
  refine ⟨?_, h2.other (by omega), fun a i ha => (I_row (by omega)).trans (h3 a i ha), h4⟩
  exact h1.set (k := 0) (by omega) (by omega)
theorem CPI.fld6 (hbc : b + 296 ≤ c ∨ c + 296 ≤ b) (h : CPI σ b c s z r) : CPI σ b c s (us z 0 6 (s 0 6)) (setI r b 6 (r.1 c 6)) := by
  obtain ⟨h1, h2, h3, h4⟩ := h
  rw [h2.2]
  exact ⟨RC6 h1, h2.other (by omega), fun a i ha => (I_row (by omega)).trans (h3 a i ha), h4⟩
theorem CPI.arr (hbc : b + 296 ≤ c ∨ c + 296 ≤ b) (h : CPI σ b c s z r) {k n : Nat} (hk : 0 < k) (hk2 : k < 296) (hn : n < 2147483648) : ∃ r', zC n n r (c + k) 0 (b + k) 0 (nI n) = some r' ∧ CPI σ b c s (ur z k n (s k)) r' := by
  obtain ⟨h1, h2, h3, h4⟩ := h
  refine ⟨_, zC_n (Nat.le_refl _) (Nat.le_refl _) hn, ⟨fun a j ha hj => ?_, ?_⟩, ?_, fun a i ha => (R_row (by omega)).trans (h3 a i ha), h4⟩
  · by_cases e : a = k
    · subst e
      rw [R_same rfl]
      by_cases e2 : j < n
      · rw [if_pos e2, ur_in rfl e2]
        exact h2.1 a j ha (by omega)
      · rw [if_neg e2]
        have e3 : ur z a n (s a) a j = z a j := if_neg (fun q => e2 q.2)
        rw [e3]
        exact h1.1 a j ha hj
    · rw [R_row (by omega), ur_row e]
      exact h1.1 a j ha hj
  · rw [R_row (by omega), ur_row (by omega)]
    exact h1.2
  · exact h2.frame (fun a i h5 h6 => R_row (by omega))
theorem CPI.row (hbc : b + 296 ≤ c ∨ c + 296 ≤ b) (h : CPI σ b c s z r) {k n : Nat} (hk : 0 < k) (hk2 : k + 1 < 296) (hn : n < 1000) (sb : shN (b + k + 1) = n) (sc : shN (c + k + 1) = n) (hs : s k 1 ≤ n) : ∃ r', g_X3_copyFrom N (b + k) (c + k) r = some r' ∧ CPI σ b c s (us (ur z (k + 1) n (s (k + 1))) k 1 (s k 1)) r' := by
  obtain ⟨r1, e1, h1⟩ := h.arr hbc (k := k + 1) (n := n) (by omega) hk2 (by omega)
  have e2 : r1.1 (c + k) 1 = nI (s k 1) := h1.2.1.1 k 1 (by omega) (by omega)
  refine ⟨setI r1 (b + k) 1 (nI (s k 1)), ?_, ?_⟩
  · unfold g_X3_copyFrom g_X3_copyFrom_0
    rw [sb, sc]
    have ej : jmin (Int32.ofNat n) (Int32.ofNat n) = nI n := by
      have := jmin_n (a := n) (b := n) (by omega) (by omega)
      rw [Nat.min_self] at this
      exact this
    have ej2 : jmin (nI (s k 1)) (Int32.ofNat n) = nI (s k 1) := by
      have := jmin_n (a := s k 1) (b := n) (by omega) (by omega)
      rw [Nat.min_eq_left hs] at this
      exact this
    rw [ej]
    rw [show c + k + 1 = c + (k + 1) by omega, show b + k + 1 = b + (k + 1) by omega, e1, bnd, e2, ej2]
    rfl
  · obtain ⟨g1, g2, g3, g4⟩ := h1
    exact ⟨g1.set (by omega) (by omega), g2.other (by omega), fun a i ha => (I_row (by omega)).trans (g3 a i ha), g4⟩
def cpS (z s : SS) (n : Nat) : SS := fun k i => if (1 ≤ k ∧ k < 10 ∧ i < wl (k - 1)) ∨ (26 ≤ k ∧ k < 26 + 9 * n ∧ i < wl ((k - 26) % 9)) then s k i else z k i
theorem CPI.wld (hbc : b + 296 ≤ c ∨ c + 296 ≤ b) (h : CPI σ b c s z r) {k : Nat} (hk : 0 < k) (hk2 : k + 9 ≤ 296) : g_X9_copyFrom N (b + k) (c + k) r = some (cpW r (b + k) (c + k)) ∧ CPI σ b c s (fun a i => if k ≤ a ∧ a < k + 9 ∧ i < wl (a - k) then s a i else z a i) (cpW r (b + k) (c + k)) := by
  obtain ⟨h1, h2, h3, h4⟩ := h
  refine ⟨copyW (by omega), ⟨fun a j ha hj => ?_, ?_⟩, ?_, fun a i ha => ?_, h4⟩
  · unfold cpW
    dsimp only
    have e : b + a - (b + k) = a - k := by omega
    by_cases q : k ≤ a ∧ a < k + 9 ∧ j < wl (a - k)
    · rw [if_pos q, if_pos ⟨by omega, by omega, by rw [e]; exact q.2.2⟩, e, show c + k + (a - k) = c + a by omega]
      exact h2.1 a j ha (by omega)
    · rw [if_neg q, if_neg (fun q2 => q ⟨by omega, by omega, by rw [← e]; exact q2.2.2⟩)]
      exact h1.1 a j ha hj
  · unfold cpW
    dsimp only
    rw [if_neg (by omega), if_neg (by omega)]
    exact h1.2
  · refine h2.frame (fun a i h5 h6 => ?_)
    unfold cpW
    dsimp only
    rw [if_neg (by omega)]
  · refine Eq.trans ?_ (h3 a i ha)
    unfold cpW
    dsimp only
    rw [if_neg (by omega)]
theorem st_13 (hbc : b + 296 ≤ c ∨ c + 296 ≤ b) : ∀ k n q r, n + k = 30 → k < q → CPI σ b c s (cpS z s n) r → ∃ r', g_X4_copyFrom_13 N q b c (nI n) r = g_X4_copyFrom_58 N fu b c (nI 0) (setI (setI r' b 2 (r'.1 c 2)) b 3 ((setI r' b 2 (r'.1 c 2)).1 c 3)) ∧ CPI σ b c s (cpS z s 30) r' := by
  intro k
  induction k with
  | zero =>
    intro n q r hn hq h
    obtain ⟨q, rfl⟩ : ∃ m, q = m + 1 := ⟨q - 1, by omega⟩
    obtain rfl : n = 30 := by omega
    refine ⟨r, ?_, h⟩
    rw [g_X4_copyFrom_13]
    simp (disch := omega) only [k_0, k_1, k_2, k_3, k_4, k_5, k_6, k_7, k_8, k_9, k_10, k_11, k_12, k_13, k_14, k_15, k_16, k_17, k_18, k_19, k_20, k_21, k_22, k_23, k_24, k_25, k_26, k_27, k_28, k_29, k_30, k_31, k_32, k_33, k_34, k_35, k_36, k_37, k_38, k_39, k_40, k_41, k_42, k_43, k_44, k_45, k_46, k_47, k_48, k_49, k_50, k_51, k_52, k_53, k_54, k_55, k_56, k_57, k_58, k_59, k_60, k_61, k_62, k_63, k_64, k_65, k_66, k_67, k_68, k_69, k_70, k_71, k_72, k_73, k_74, k_75, k_76, k_77, k_78, k_79, k_80, k_81, k_82, k_83, k_84, k_85, k_86, k_87, k_88, k_89, k_90, k_91, k_92, k_93, k_94, k_95, k_96, k_97, k_98, k_99, k_100, k_101, k_102, k_103, k_104, k_105, k_106, k_107, k_108, k_109, k_110, k_111, k_112, k_113, k_114, k_115, k_116, k_117, k_118, k_119, k_120, k_121, k_122, k_123, k_124, k_125, k_126, k_127, k_128, k_129, k_130, k_133, k_144, k_145, k_153, k_193, k_203, k_211, k_227, k_255, k_256, k_280, k_300, k_313, k_371, k_433, k_705, k_997, k_999, k_1000, k_4176, k_4547, k_9999, k_10000, k_30557, k_99999, k_1000000, k_1000000000, nI_add, pk_mul, w_sub, w_rem, w_div, w_dv, w_rm, nI_leI, nI_ltI, nI_eq, w_em, w_me, w_lm, w_ml, w_lem, w_mle, bnd, Option.some.injEq, xI_n, yI_n, xL_n, yL_n, xP_n, xG_n, I_same, I_row, I_col, L_1, Q_1, R_same, R_row, if_pos, if_neg, ite_self, not_true, not_false, decide_true, decide_false, Nat.add_assoc, true_and, and_true, Nat.zero_add, Nat.add_zero, Nat.mul_zero, Nat.mul_one, Nat.one_mul, eq_self, decide_eq_true, decide_eq_false, Bool.true_eq_false, Bool.false_eq_true, ↓reduceIte, Nat.reduceAdd, Nat.reduceMul, Nat.reduceSub, Nat.reduceDiv, Nat.reduceMod, bb_t, bb_f]
  | succ k ih =>
    intro n q r hn hq h
    obtain ⟨q, rfl⟩ : ∃ m, q = m + 1 := ⟨q - 1, by omega⟩
    obtain ⟨e1, h1⟩ := h.wld (N := N) hbc (k := 26 + 9 * n) (by omega) (by omega)
    have h2 : CPI σ b c s (cpS z s (n + 1)) (cpW r (b + (26 + 9 * n)) (c + (26 + 9 * n))) := by
      have ez : (fun a i => if 26 + 9 * n ≤ a ∧ a < 26 + 9 * n + 9 ∧ i < wl (a - (26 + 9 * n)) then s a i else cpS z s n a i) = cpS z s (n + 1) := by
        funext a i
        unfold cpS
        by_cases q1 : 26 + 9 * n ≤ a ∧ a < 26 + 9 * n + 9
        · have e : (a - 26) % 9 = a - (26 + 9 * n) := by omega
          by_cases q2 : i < wl (a - (26 + 9 * n))
          · rw [if_pos ⟨q1.1, q1.2, q2⟩, if_pos (Or.inr ⟨by omega, by omega, by rw [e]; exact q2⟩)]
          · rw [if_neg (fun q => q2 q.2.2), if_neg (by omega), if_neg (by rw [e]; omega)]
        · rw [if_neg (fun q => q1 ⟨q.1, q.2.1⟩)]
          by_cases q2 : (1 ≤ a ∧ a < 10 ∧ i < wl (a - 1)) ∨ (26 ≤ a ∧ a < 26 + 9 * n ∧ i < wl ((a - 26) % 9))
          · rw [if_pos q2, if_pos (by omega)]
          · rw [if_neg q2, if_neg (by omega)]
      rw [ez] at h1
      exact h1
    obtain ⟨r', a1, a2⟩ := ih (n + 1) q _ (by omega) (by omega) h2
    refine ⟨r', ?_, a2⟩
    have x1 : xP (b + 10) (nI n) = some (b + (26 + 9 * n)) := by rw [xP_n (by omega), show b + 10 + (16 + 9 * n) = b + (26 + 9 * n) by omega]
    have x2 : xP (c + 10) (nI n) = some (c + (26 + 9 * n)) := by rw [xP_n (by omega), show c + 10 + (16 + 9 * n) = c + (26 + 9 * n) by omega]
    rw [g_X4_copyFrom_13, ← a1]
    simp (disch := omega) only [k_0, k_1, k_2, k_3, k_4, k_5, k_6, k_7, k_8, k_9, k_10, k_11, k_12, k_13, k_14, k_15, k_16, k_17, k_18, k_19, k_20, k_21, k_22, k_23, k_24, k_25, k_26, k_27, k_28, k_29, k_30, k_31, k_32, k_33, k_34, k_35, k_36, k_37, k_38, k_39, k_40, k_41, k_42, k_43, k_44, k_45, k_46, k_47, k_48, k_49, k_50, k_51, k_52, k_53, k_54, k_55, k_56, k_57, k_58, k_59, k_60, k_61, k_62, k_63, k_64, k_65, k_66, k_67, k_68, k_69, k_70, k_71, k_72, k_73, k_74, k_75, k_76, k_77, k_78, k_79, k_80, k_81, k_82, k_83, k_84, k_85, k_86, k_87, k_88, k_89, k_90, k_91, k_92, k_93, k_94, k_95, k_96, k_97, k_98, k_99, k_100, k_101, k_102, k_103, k_104, k_105, k_106, k_107, k_108, k_109, k_110, k_111, k_112, k_113, k_114, k_115, k_116, k_117, k_118, k_119, k_120, k_121, k_122, k_123, k_124, k_125, k_126, k_127, k_128, k_129, k_130, k_133, k_144, k_145, k_153, k_193, k_203, k_211, k_227, k_255, k_256, k_280, k_300, k_313, k_371, k_433, k_705, k_997, k_999, k_1000, k_4176, k_4547, k_9999, k_10000, k_30557, k_99999, k_1000000, k_1000000000, nI_add, pk_mul, w_sub, w_rem, w_div, w_dv, w_rm, nI_leI, nI_ltI, nI_eq, w_em, w_me, w_lm, w_ml, w_lem, w_mle, bnd, Option.some.injEq, xI_n, yI_n, xL_n, yL_n, xP_n, xG_n, I_same, I_row, I_col, L_1, Q_1, R_same, R_row, if_pos, if_neg, ite_self, not_true, not_false, decide_true, decide_false, Nat.add_assoc, true_and, and_true, Nat.zero_add, Nat.add_zero, Nat.mul_zero, Nat.mul_one, Nat.one_mul, eq_self, decide_eq_true, decide_eq_false, Bool.true_eq_false, Bool.false_eq_true, ↓reduceIte, Nat.reduceAdd, Nat.reduceMul, Nat.reduceSub, Nat.reduceDiv, Nat.reduceMod, bb_t, bb_f, x1, x2, e1]
end IMG
