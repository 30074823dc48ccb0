/-! the world changes: what is kept; the reference's row as a function; by, blocks, book, looser, machine -/
def ua (f : Nat → Int32) (j : Nat) (v : Int32) : Nat → Int32 := fun i => if i = j then v else f i
def wl (k : Nat) : Nat := if k = 0 then 4 else if k < 7 then 5 else if k = 7 then 60 else 120
section WLD
variable {N : Mem} {σ τ : ST} {s s' w w' : SS} {A A' : Nat → Int32}
theorem ua_same {f : Nat → Int32} {i j : Nat} {v : Int32} (h : i = j) : ua f j v i = v := if_pos h
theorem ua_ne {f : Nat → Int32} {i j : Nat} {v : Int32} (h : i ≠ j) : ua f j v i = f i := if_neg h
theorem R_ua {a j : Nat} {f : Nat → Int32} {v : Int32} : setI (setR σ a f) a j v = setR σ a (ua f j v) := by
  refine Prod.ext (funext fun c => funext fun i => ?_) rfl
  show (if c = a ∧ i = j then v else if c = a then f i else σ.1 c i) = if c = a then (if i = j then v else f i) else σ.1 c i
  by_cases h : c = a
  · by_cases h2 : i = j
    · rw [if_pos ⟨h, h2⟩, if_pos h, if_pos h2]
    · rw [if_neg (fun q => h2 q.2), if_pos h, if_pos h, if_neg h2]
  · rw [if_neg (fun q => h q.1), if_neg h, if_neg h]
theorem R_R {a : Nat} {f g : Nat → Int32} : setR (setR σ a f) a g = setR σ a g := by
  refine Prod.ext (funext fun c => funext fun i => ?_) rfl
  show (if c = a then g i else if c = a then f i else σ.1 c i) = if c = a then g i else σ.1 c i
  by_cases h : c = a
  · rw [if_pos h, if_pos h]
  · rw [if_neg h, if_neg h, if_neg h]
theorem R_id (a : Nat) : setR σ a (σ.1 a) = σ := by
  refine Prod.ext (funext fun c => funext fun i => ?_) rfl
  show (if c = a then σ.1 a i else σ.1 c i) = σ.1 c i
  by_cases h : c = a
  · rw [if_pos h, h]
  · rw [if_neg h]
theorem I_R {a j : Nat} {v : Int32} : setI σ a j v = setR σ a (ua (σ.1 a) j v) := by
  rw [← R_ua, R_id]
theorem R_1 {a : Nat} {f : Nat → Int32} : (setR σ a f).1 a = f := funext fun i => R_same rfl
theorem Rm1_a {f f' : Nat → Int32} {m : Nat} (hm : m < 5) (hf : ∀ i, i < 16 → f' i = f i) (hw : ∀ k i, k < 9 → i < wl k → w' k i = w k i) (hl : w 6 m ≤ 12) (h : Rm1 f w m) : Rm1 f' w' m := by
  obtain ⟨h0, h1, h2, h3, h4⟩ := h
  refine ⟨?_, ?_, ?_, ?_, fun i hi => ?_⟩
  · rw [hf _ (by omega), hw 3 m (by omega) hm]; exact h0
  · rw [hf _ (by omega), hw 4 m (by omega) hm]; exact h1
  · rw [hf _ (by omega), hw 5 m (by omega) hm]; exact h2
  · rw [hf _ (by omega), hw 6 m (by omega) hm]; exact h3
  · rw [hw 6 m (by omega) hm] at hi
    rw [hf _ (by omega), hw 7 _ (by omega) (by show _ < 60; omega)]; exact h4 i hi
theorem Rbk_a {f f' : Nat → Int32} (hf : ∀ i, i < 60 → f' i = f i) (hw : ∀ k i, k < 9 → i < wl k → w' k i = w k i) (hl : w 0 3 ≤ 30) (h : Rbk f w) : Rbk f' w' := by
  intro i hi
  rw [hw 0 3 (by omega) (by decide)] at hi
  rw [hf _ (by omega), hf _ (by omega), hw 8 _ (by omega) (by show _ < 120; omega), hw 8 _ (by omega) (by show _ < 120; omega), hw 8 _ (by omega) (by show _ < 120; omega), hw 8 _ (by omega) (by show _ < 120; omega)]
  exact h i hi
theorem WFs_w (h : WFs s) (hs : ∀ k i, k = 0 ∨ 10 ≤ k → s' k i = s k i) (hw : WFw (cur s')) (hc : s 1 0 ≤ s' 1 0) : WFs s' := by
  obtain ⟨W, P, h2, h3, h5, h6, r12, z13, r14, z15, r16, z17, r18, z19, z21, r20, r22, r23, r24, r25, pc⟩ := h
  refine ⟨hw, fun p hp => WFw_c (fun c j hc => hs _ _ (by omega)) (P p hp), ?_, ?_, ?_, ?_, ?_, ?_, ?_, ?_, ?_, ?_, ?_, ?_, ?_, ?_, ?_, ?_, ?_, ?_, ?_⟩
  · rw [hs _ _ (by omega)]; exact h2
  · rw [hs _ _ (by omega)]; exact h3
  · rw [hs _ _ (by omega)]; exact h5
  · rw [hs _ _ (by omega), hs _ _ (by omega)]; exact h6
  · intro j; rw [hs _ _ (by omega)]; exact r12 j
  · rw [hs _ _ (by omega)]; exact z13
  · intro j; rw [hs _ _ (by omega)]; exact r14 j
  · rw [hs _ _ (by omega)]; exact z15
  · intro j; rw [hs _ _ (by omega)]; exact r16 j
  · rw [hs _ _ (by omega)]; exact z17
  · intro j; rw [hs _ _ (by omega)]; exact r18 j
  · rw [hs _ _ (by omega)]; exact z19
  · rw [hs _ _ (by omega), hs _ _ (by omega)]; exact z21
  · intro j hj; rw [hs _ _ (by omega)] at hj; rw [hs _ _ (by omega)]; exact Nat.lt_of_lt_of_le (r20 j hj) hc
  · intro j; rw [hs _ _ (by omega)]; exact r22 j
  · intro j; rw [hs _ _ (by omega)]; exact r23 j
  · intro j; rw [hs _ _ (by omega)]; exact r24 j
  · intro j; rw [hs _ _ (by omega)]; exact r25 j
  · intro j hj
    rw [hs _ _ (by omega)] at hj
    rw [past_c (s := s) (fun c i hc => hs _ _ (by omega)) (hs _ _ (by omega))]
    exact Nat.le_trans (pc j hj) hc
theorem RR_w (hW : WFs s) (h : RR A s) (hA : ∀ i, 101 ≤ i → i < 4547 → A' i = A i) (hA1 : ∀ i, 1 ≤ i → i < 8 → A' i = A i) (hs : ∀ k i, k = 0 ∨ 10 ≤ k → s' k i = s k i) (g0 : A' 0 = nI (s' 1 0)) (g8 : A' 8 = nI (s' 1 1)) (g9 : A' 9 = nI (s' 1 2)) (g10 : A' 10 = nI (s' 1 3)) (gm : Rma A' (cur s')) (gb : Rbk (fun k => A' (4547 + k)) (cur s')) : RR A' s' := by
  obtain ⟨sc, ma, r12, r14, r16, r18, r23, r24, r25, rd, st, bk⟩ := h
  obtain ⟨a0, a1, a2, a3, a4, a5, a6, a7, a8, a9, a10⟩ := sc
  refine ⟨⟨g0, ?_, ?_, ?_, ?_, ?_, ?_, ?_, g8, g9, g10⟩, gm, ?_, ?_, ?_, ?_, ?_, ?_, ?_, ?_, ?_, gb⟩
  · rw [hA1 _ (by omega) (by omega), hs _ _ (by omega)]; exact a1
  · rw [hA1 _ (by omega) (by omega), hs _ _ (by omega)]; exact a2
  · rw [hA1 _ (by omega) (by omega), hs _ _ (by omega)]; exact a3
  · rw [hA1 _ (by omega) (by omega), hs _ _ (by omega)]; exact a4
  · rw [hA1 _ (by omega) (by omega), hs _ _ (by omega)]; exact a5
  · rw [hA1 _ (by omega) (by omega), hs _ _ (by omega)]; exact a6
  · rw [hA1 _ (by omega) (by omega), hs _ _ (by omega)]; exact a7
  · exact Rro_c (fun j _ _ => hA _ (by omega) (by omega)) (fun j _ => hs _ _ (by omega)) r12
  · exact Rro_c (fun j _ _ => hA _ (by omega) (by omega)) (fun j _ => hs _ _ (by omega)) r14
  · exact Rro_c (fun j _ _ => hA _ (by omega) (by omega)) (fun j _ => hs _ _ (by omega)) r16
  · exact Rro_c (fun j _ _ => hA _ (by omega) (by omega)) (fun j _ => hs _ _ (by omega)) r18
  · exact Rro_c (fun j _ _ => hA _ (by omega) (by omega)) (fun j _ => hs _ _ (by omega)) r23
  · exact Rro_c (fun j _ _ => hA _ (by omega) (by omega)) (fun j _ => hs _ _ (by omega)) r24
  · exact Rro_c (fun j _ _ => hA _ (by omega) (by omega)) (fun j _ => hs _ _ (by omega)) r25
  · exact Rrd_c (fun j _ _ => hA _ (by omega) (by omega)) (fun j => hs _ _ (by omega)) (fun j => hs _ _ (by omega)) rd
  · exact Rst_c (fun j _ _ => hA _ (by omega) (by omega)) (fun c j _ => hs _ _ (by omega)) (hs _ _ (by omega)) (hs _ _ (by omega)) hW st
theorem b_w (h : WFs s) : s 1 0 ≤ 5 ∧ s 1 1 ≤ 9999 ∧ s 1 2 < 30557 ∧ s 1 3 ≤ 30 := ⟨h.1.1, h.1.2.1, h.1.2.2.1, h.1.2.2.2.1⟩
theorem q_m (h : RR (σ.1 643) s) {m : Nat} (hm : m < s 1 0) : σ.1 643 (11 + 18 * m) = nI (s 4 m) ∧ σ.1 643 (11 + (18 * m + 1)) = nI (s 5 m) ∧ σ.1 643 (11 + (18 * m + 2)) = nI (s 6 m) ∧ σ.1 643 (11 + (18 * m + 3)) = nI (s 7 m) ∧ (∀ i, i < s 7 m → σ.1 643 (11 + (18 * m + (4 + i))) = nI (s 8 (12 * m + i))) ∧ σ.1 643 (11 + (18 * m + 16)) = nI (s 2 m) ∧ σ.1 643 (11 + (18 * m + 17)) = nI (s 3 m) := by
  obtain ⟨⟨h0, h1, h2, h3, h4⟩, h5, h6⟩ := h.2.1 m hm
  refine ⟨h0, ?_, ?_, ?_, fun i hi => ?_, ?_, ?_⟩
  · rw [← Nat.add_assoc]; exact h1
  · rw [← Nat.add_assoc]; exact h2
  · rw [← Nat.add_assoc]; exact h3
  · rw [← Nat.add_assoc]; exact h4 i hi
  · rw [show 11 + (18 * m + 16) = 27 + 18 * m by omega]; exact h5
  · rw [show 11 + (18 * m + 17) = 28 + 18 * m by omega]; exact h6
theorem q_b (h : RR (σ.1 643) s) {i : Nat} (hi : i < s 1 3) : σ.1 643 (4547 + 2 * i) = nI (s 9 (4 * i) * 8 + s 9 (4 * i + 1)) ∧ σ.1 643 (4547 + (2 * i + 1)) = nI (s 9 (4 * i + 2) * 10000 + s 9 (4 * i + 3)) := by
  obtain ⟨-, -, -, -, -, -, -, -, -, -, -, h1⟩ := h
  exact h1 i hi
theorem b_b (h : WFs s) (i : Nat) : s 9 (4 * i) ≤ 9999 ∧ s 9 (4 * i + 1) ≤ 4 ∧ s 9 (4 * i + 2) ≤ 9999 ∧ s 9 (4 * i + 3) ≤ 9999 := by
  obtain ⟨-, -, -, -, -, -, -, -, -, -, -, h1⟩ := h.1
  exact h1 i
/-- a machine of the class, of the reference -/
theorem has9 {a c : Nat} (hc : σ.1 a 0 = nI c) (h5 : c ≤ 5) (x : Int32) : (g_X9_has N a x σ = some false ∧ ∀ k, k < c → x ≠ nI k) ∨ ∃ k, k < c ∧ x = nI k ∧ g_X9_has N a x σ = some true := by
  unfold g_X9_has g_X9_has_0
  rcases arg1 x (c := c) (by omega) with ⟨h, hne⟩ | ⟨k, hk, rfl⟩
  · refine Or.inl ⟨?_, hne⟩
    rw [hc]
    by_cases h0 : x < 0
    · rw [if_pos h0]
    · rw [if_neg h0]
      obtain ⟨j, hj, rfl⟩ := nI_of h0
      rw [if_pos (nI_le (Nat.le_of_not_lt fun q => hne j q rfl) hj)]
  · refine Or.inr ⟨k, hk, rfl, ?_⟩
    simp (disch := omega) only [k_0, k_1, k_2, k_3, k_4, k_5, k_6, k_7, k_8, k_9, k_10, k_11, k_12, k_13, k_14, k_15, k_16, k_17, k_18, k_19, k_20, k_21, k_22, k_23, k_24, k_25, k_26, k_27, k_28, k_29, k_30, k_31, k_32, k_33, k_34, k_35, k_36, k_37, k_38, k_39, k_40, k_41, k_42, k_43, k_44, k_45, k_46, k_47, k_48, k_49, k_50, k_51, k_52, k_53, k_54, k_55, k_56, k_57, k_58, k_59, k_60, k_61, k_62, k_63, k_64, k_65, k_66, k_67, k_68, k_69, k_70, k_71, k_72, k_73, k_74, k_75, k_76, k_77, k_78, k_79, k_80, k_81, k_82, k_83, k_84, k_85, k_86, k_87, k_88, k_89, k_90, k_91, k_92, k_93, k_94, k_95, k_96, k_97, k_98, k_99, k_100, k_101, k_102, k_103, k_104, k_105, k_106, k_107, k_108, k_109, k_110, k_111, k_112, k_113, k_114, k_115, k_116, k_117, k_118, k_119, k_120, k_121, k_122, k_123, k_124, k_125, k_126, k_127, k_128, k_129, k_130, k_133, k_144, k_145, k_153, k_193, k_203, k_211, k_227, k_255, k_256, k_280, k_300, k_313, k_371, k_433, k_705, k_997, k_999, k_1000, k_4176, k_4547, k_9999, k_10000, k_30557, k_99999, k_1000000, k_1000000000, nI_add, pk_mul, w_sub, w_rem, w_div, w_dv, w_rm, nI_leI, nI_ltI, nI_eq, w_em, w_me, w_lm, w_ml, w_lem, w_mle, Option.bind_some, Option.some.injEq, xI_n, yI_n, xL_n, yL_n, xP_n, xG_n, I_same, I_row, I_col, L_1, Q_1, R_same, R_row, if_pos, if_neg, ite_self, not_true, not_false, decide_true, decide_false, Nat.add_assoc, true_and, and_true, Nat.zero_add, Nat.add_zero, Nat.mul_zero, Nat.mul_one, Nat.one_mul, eq_self, decide_eq_true, decide_eq_false, Bool.true_eq_false, Bool.false_eq_true, ↓reduceIte, Nat.reduceAdd, Nat.reduceMul, Nat.reduceSub, Nat.reduceDiv, Nat.reduceMod, bb_t, bb_f, hc]
theorem isM11 (hR : σ.1 643 0 = nI (s 1 0)) (h5 : s 1 0 ≤ 5) (x : Int32) : (g_X11_isMachine N 642 x σ = some false ∧ ∀ k, k < s 1 0 → x ≠ nI k) ∨ ∃ k, k < s 1 0 ∧ x = nI k ∧ g_X11_isMachine N 642 x σ = some true := by
  unfold g_X11_isMachine g_X11_isMachine_0
  rcases arg1 x (c := s 1 0) (by omega) with ⟨h, hne⟩ | ⟨k, hk, rfl⟩
  · refine Or.inl ⟨?_, hne⟩
    simp (disch := omega) only [k_0, k_1, k_2, k_3, k_4, k_5, k_6, k_7, k_8, k_9, k_10, k_11, k_12, k_13, k_14, k_15, k_16, k_17, k_18, k_19, k_20, k_21, k_22, k_23, k_24, k_25, k_26, k_27, k_28, k_29, k_30, k_31, k_32, k_33, k_34, k_35, k_36, k_37, k_38, k_39, k_40, k_41, k_42, k_43, k_44, k_45, k_46, k_47, k_48, k_49, k_50, k_51, k_52, k_53, k_54, k_55, k_56, k_57, k_58, k_59, k_60, k_61, k_62, k_63, k_64, k_65, k_66, k_67, k_68, k_69, k_70, k_71, k_72, k_73, k_74, k_75, k_76, k_77, k_78, k_79, k_80, k_81, k_82, k_83, k_84, k_85, k_86, k_87, k_88, k_89, k_90, k_91, k_92, k_93, k_94, k_95, k_96, k_97, k_98, k_99, k_100, k_101, k_102, k_103, k_104, k_105, k_106, k_107, k_108, k_109, k_110, k_111, k_112, k_113, k_114, k_115, k_116, k_117, k_118, k_119, k_120, k_121, k_122, k_123, k_124, k_125, k_126, k_127, k_128, k_129, k_130, k_133, k_144, k_145, k_153, k_193, k_203, k_211, k_227, k_255, k_256, k_280, k_300, k_313, k_371, k_433, k_705, k_997, k_999, k_1000, k_4176, k_4547, k_9999, k_10000, k_30557, k_99999, k_1000000, k_1000000000, nI_add, pk_mul, w_sub, w_rem, w_div, w_dv, w_rm, nI_leI, nI_ltI, nI_eq, w_em, w_me, w_lm, w_ml, w_lem, w_mle, Option.bind_some, Option.some.injEq, xI_n, yI_n, xL_n, yL_n, xP_n, xG_n, I_same, I_row, I_col, L_1, Q_1, R_same, R_row, if_pos, if_neg, ite_self, not_true, not_false, decide_true, decide_false, Nat.add_assoc, true_and, and_true, Nat.zero_add, Nat.add_zero, Nat.mul_zero, Nat.mul_one, Nat.one_mul, eq_self, decide_eq_true, decide_eq_false, Bool.true_eq_false, Bool.false_eq_true, ↓reduceIte, Nat.reduceAdd, Nat.reduceMul, Nat.reduceSub, Nat.reduceDiv, Nat.reduceMod, bb_t, bb_f, hR, wi11, h]
  · refine Or.inr ⟨k, hk, rfl, ?_⟩
    simp (disch := omega) only [k_0, k_1, k_2, k_3, k_4, k_5, k_6, k_7, k_8, k_9, k_10, k_11, k_12, k_13, k_14, k_15, k_16, k_17, k_18, k_19, k_20, k_21, k_22, k_23, k_24, k_25, k_26, k_27, k_28, k_29, k_30, k_31, k_32, k_33, k_34, k_35, k_36, k_37, k_38, k_39, k_40, k_41, k_42, k_43, k_44, k_45, k_46, k_47, k_48, k_49, k_50, k_51, k_52, k_53, k_54, k_55, k_56, k_57, k_58, k_59, k_60, k_61, k_62, k_63, k_64, k_65, k_66, k_67, k_68, k_69, k_70, k_71, k_72, k_73, k_74, k_75, k_76, k_77, k_78, k_79, k_80, k_81, k_82, k_83, k_84, k_85, k_86, k_87, k_88, k_89, k_90, k_91, k_92, k_93, k_94, k_95, k_96, k_97, k_98, k_99, k_100, k_101, k_102, k_103, k_104, k_105, k_106, k_107, k_108, k_109, k_110, k_111, k_112, k_113, k_114, k_115, k_116, k_117, k_118, k_119, k_120, k_121, k_122, k_123, k_124, k_125, k_126, k_127, k_128, k_129, k_130, k_133, k_144, k_145, k_153, k_193, k_203, k_211, k_227, k_255, k_256, k_280, k_300, k_313, k_371, k_433, k_705, k_997, k_999, k_1000, k_4176, k_4547, k_9999, k_10000, k_30557, k_99999, k_1000000, k_1000000000, nI_add, pk_mul, w_sub, w_rem, w_div, w_dv, w_rm, nI_leI, nI_ltI, nI_eq, w_em, w_me, w_lm, w_ml, w_lem, w_mle, Option.bind_some, Option.some.injEq, xI_n, yI_n, xL_n, yL_n, xP_n, xG_n, I_same, I_row, I_col, L_1, Q_1, R_same, R_row, if_pos, if_neg, ite_self, not_true, not_false, decide_true, decide_false, Nat.add_assoc, true_and, and_true, Nat.zero_add, Nat.add_zero, Nat.mul_zero, Nat.mul_one, Nat.one_mul, eq_self, decide_eq_true, decide_eq_false, Bool.true_eq_false, Bool.false_eq_true, ↓reduceIte, Nat.reduceAdd, Nat.reduceMul, Nat.reduceSub, Nat.reduceDiv, Nat.reduceMod, bb_t, bb_f, hR, wi11]
theorem hasT {a c k : Nat} (hc : σ.1 a 0 = nI c) (h5 : c ≤ 5) (hk : k < c) : g_X9_has N a (nI k) σ = some true := by
  rcases has9 (N := N) hc h5 (nI k) with ⟨_, h⟩ | ⟨_, _, _, h⟩
  · exact absurd rfl (h k hk)
  · exact h
theorem isMT (hR : σ.1 643 0 = nI (s 1 0)) (h5 : s 1 0 ≤ 5) {k : Nat} (hk : k < s 1 0) : g_X11_isMachine N 642 (nI k) σ = some true := by
  rcases isM11 (N := N) hR h5 (nI k) with ⟨_, h⟩ | ⟨_, _, _, h⟩
  · exact absurd rfl (h k hk)
  · exact h
theorem hasF {a c : Nat} (hc : σ.1 a 0 = nI c) (h5 : c ≤ 5) {x : Int32} (h : ∀ k, k < c → x ≠ nI k) : g_X9_has N a x σ = some false := by
  rcases has9 (N := N) hc h5 x with ⟨h1, _⟩ | ⟨k, hk, e, _⟩
  · exact h1
  · exact absurd e (h k hk)
theorem isMF (hR : σ.1 643 0 = nI (s 1 0)) (h5 : s 1 0 ≤ 5) {x : Int32} (h : ∀ k, k < s 1 0 → x ≠ nI k) : g_X11_isMachine N 642 x σ = some false := by
  rcases isM11 (N := N) hR h5 x with ⟨h1, _⟩ | ⟨k, hk, e, _⟩
  · exact h1
  · exact absurd e (h k hk)
/-- book -/
theorem book_ok (hC : RC 1 σ s) (hW : WFs s) (hR : RR (σ.1 643) s) (x y : Int32) : OK0 σ (g_X10_book N 0 x y) (g_X11_book N 642 x y) := by
  obtain ⟨b0, b1, b2, b3⟩ := b_w hW
  by_cases hx : x = -nI 1
  · subst hx
    refine ⟨nI (s 1 3), ?_, ?_⟩
    · unfold g_X10_book g_X10_book_0
      simp (disch := omega) only [k_0, k_1, k_2, k_3, k_4, k_5, k_6, k_7, k_8, k_9, k_10, k_11, k_12, k_13, k_14, k_15, k_16, k_17, k_18, k_19, k_20, k_21, k_22, k_23, k_24, k_25, k_26, k_27, k_28, k_29, k_30, k_31, k_32, k_33, k_34, k_35, k_36, k_37, k_38, k_39, k_40, k_41, k_42, k_43, k_44, k_45, k_46, k_47, k_48, k_49, k_50, k_51, k_52, k_53, k_54, k_55, k_56, k_57, k_58, k_59, k_60, k_61, k_62, k_63, k_64, k_65, k_66, k_67, k_68, k_69, k_70, k_71, k_72, k_73, k_74, k_75, k_76, k_77, k_78, k_79, k_80, k_81, k_82, k_83, k_84, k_85, k_86, k_87, k_88, k_89, k_90, k_91, k_92, k_93, k_94, k_95, k_96, k_97, k_98, k_99, k_100, k_101, k_102, k_103, k_104, k_105, k_106, k_107, k_108, k_109, k_110, k_111, k_112, k_113, k_114, k_115, k_116, k_117, k_118, k_119, k_120, k_121, k_122, k_123, k_124, k_125, k_126, k_127, k_128, k_129, k_130, k_133, k_144, k_145, k_153, k_193, k_203, k_211, k_227, k_255, k_256, k_280, k_300, k_313, k_371, k_433, k_705, k_997, k_999, k_1000, k_4176, k_4547, k_9999, k_10000, k_30557, k_99999, k_1000000, k_1000000000, nI_add, pk_mul, w_sub, w_rem, w_div, w_dv, w_rm, nI_leI, nI_ltI, nI_eq, w_em, w_me, w_lm, w_ml, w_lem, w_mle, Option.bind_some, Option.some.injEq, xI_n, yI_n, xL_n, yL_n, xP_n, xG_n, I_same, I_row, I_col, L_1, Q_1, R_same, R_row, if_pos, if_neg, ite_self, not_true, not_false, decide_true, decide_false, Nat.add_assoc, true_and, and_true, Nat.zero_add, Nat.add_zero, Nat.mul_zero, Nat.mul_one, Nat.one_mul, eq_self, decide_eq_true, decide_eq_false, Bool.true_eq_false, Bool.false_eq_true, ↓reduceIte, Nat.reduceAdd, Nat.reduceMul, Nat.reduceSub, Nat.reduceDiv, Nat.reduceMod, bb_t, bb_f, c_1_3 hC]
    · unfold g_X11_book g_X11_book_0
      simp (disch := omega) only [k_0, k_1, k_2, k_3, k_4, k_5, k_6, k_7, k_8, k_9, k_10, k_11, k_12, k_13, k_14, k_15, k_16, k_17, k_18, k_19, k_20, k_21, k_22, k_23, k_24, k_25, k_26, k_27, k_28, k_29, k_30, k_31, k_32, k_33, k_34, k_35, k_36, k_37, k_38, k_39, k_40, k_41, k_42, k_43, k_44, k_45, k_46, k_47, k_48, k_49, k_50, k_51, k_52, k_53, k_54, k_55, k_56, k_57, k_58, k_59, k_60, k_61, k_62, k_63, k_64, k_65, k_66, k_67, k_68, k_69, k_70, k_71, k_72, k_73, k_74, k_75, k_76, k_77, k_78, k_79, k_80, k_81, k_82, k_83, k_84, k_85, k_86, k_87, k_88, k_89, k_90, k_91, k_92, k_93, k_94, k_95, k_96, k_97, k_98, k_99, k_100, k_101, k_102, k_103, k_104, k_105, k_106, k_107, k_108, k_109, k_110, k_111, k_112, k_113, k_114, k_115, k_116, k_117, k_118, k_119, k_120, k_121, k_122, k_123, k_124, k_125, k_126, k_127, k_128, k_129, k_130, k_133, k_144, k_145, k_153, k_193, k_203, k_211, k_227, k_255, k_256, k_280, k_300, k_313, k_371, k_433, k_705, k_997, k_999, k_1000, k_4176, k_4547, k_9999, k_10000, k_30557, k_99999, k_1000000, k_1000000000, nI_add, pk_mul, w_sub, w_rem, w_div, w_dv, w_rm, nI_leI, nI_ltI, nI_eq, w_em, w_me, w_lm, w_ml, w_lem, w_mle, Option.bind_some, Option.some.injEq, xI_n, yI_n, xL_n, yL_n, xP_n, xG_n, I_same, I_row, I_col, L_1, Q_1, R_same, R_row, if_pos, if_neg, ite_self, not_true, not_false, decide_true, decide_false, Nat.add_assoc, true_and, and_true, Nat.zero_add, Nat.add_zero, Nat.mul_zero, Nat.mul_one, Nat.one_mul, eq_self, decide_eq_true, decide_eq_false, Bool.true_eq_false, Bool.false_eq_true, ↓reduceIte, Nat.reduceAdd, Nat.reduceMul, Nat.reduceSub, Nat.reduceDiv, Nat.reduceMod, bb_t, bb_f, r_10 hR]
  rcases arg1 x (c := s 1 3) (by omega) with ⟨h, hne⟩ | ⟨i, hi, rfl⟩
  · refine ⟨-2, ?_, ?_⟩
    · unfold g_X10_book g_X10_book_0
      simp (disch := omega) only [k_0, k_1, k_2, k_3, k_4, k_5, k_6, k_7, k_8, k_9, k_10, k_11, k_12, k_13, k_14, k_15, k_16, k_17, k_18, k_19, k_20, k_21, k_22, k_23, k_24, k_25, k_26, k_27, k_28, k_29, k_30, k_31, k_32, k_33, k_34, k_35, k_36, k_37, k_38, k_39, k_40, k_41, k_42, k_43, k_44, k_45, k_46, k_47, k_48, k_49, k_50, k_51, k_52, k_53, k_54, k_55, k_56, k_57, k_58, k_59, k_60, k_61, k_62, k_63, k_64, k_65, k_66, k_67, k_68, k_69, k_70, k_71, k_72, k_73, k_74, k_75, k_76, k_77, k_78, k_79, k_80, k_81, k_82, k_83, k_84, k_85, k_86, k_87, k_88, k_89, k_90, k_91, k_92, k_93, k_94, k_95, k_96, k_97, k_98, k_99, k_100, k_101, k_102, k_103, k_104, k_105, k_106, k_107, k_108, k_109, k_110, k_111, k_112, k_113, k_114, k_115, k_116, k_117, k_118, k_119, k_120, k_121, k_122, k_123, k_124, k_125, k_126, k_127, k_128, k_129, k_130, k_133, k_144, k_145, k_153, k_193, k_203, k_211, k_227, k_255, k_256, k_280, k_300, k_313, k_371, k_433, k_705, k_997, k_999, k_1000, k_4176, k_4547, k_9999, k_10000, k_30557, k_99999, k_1000000, k_1000000000, nI_add, pk_mul, w_sub, w_rem, w_div, w_dv, w_rm, nI_leI, nI_ltI, nI_eq, w_em, w_me, w_lm, w_ml, w_lem, w_mle, Option.bind_some, Option.some.injEq, xI_n, yI_n, xL_n, yL_n, xP_n, xG_n, I_same, I_row, I_col, L_1, Q_1, R_same, R_row, if_pos, if_neg, ite_self, not_true, not_false, decide_true, decide_false, Nat.add_assoc, true_and, and_true, Nat.zero_add, Nat.add_zero, Nat.mul_zero, Nat.mul_one, Nat.one_mul, eq_self, decide_eq_true, decide_eq_false, Bool.true_eq_false, Bool.false_eq_true, ↓reduceIte, Nat.reduceAdd, Nat.reduceMul, Nat.reduceSub, Nat.reduceDiv, Nat.reduceMod, bb_t, bb_f, c_1_3 hC, wi10, h, hx]
    · unfold g_X11_book g_X11_book_0
      simp (disch := omega) only [k_0, k_1, k_2, k_3, k_4, k_5, k_6, k_7, k_8, k_9, k_10, k_11, k_12, k_13, k_14, k_15, k_16, k_17, k_18, k_19, k_20, k_21, k_22, k_23, k_24, k_25, k_26, k_27, k_28, k_29, k_30, k_31, k_32, k_33, k_34, k_35, k_36, k_37, k_38, k_39, k_40, k_41, k_42, k_43, k_44, k_45, k_46, k_47, k_48, k_49, k_50, k_51, k_52, k_53, k_54, k_55, k_56, k_57, k_58, k_59, k_60, k_61, k_62, k_63, k_64, k_65, k_66, k_67, k_68, k_69, k_70, k_71, k_72, k_73, k_74, k_75, k_76, k_77, k_78, k_79, k_80, k_81, k_82, k_83, k_84, k_85, k_86, k_87, k_88, k_89, k_90, k_91, k_92, k_93, k_94, k_95, k_96, k_97, k_98, k_99, k_100, k_101, k_102, k_103, k_104, k_105, k_106, k_107, k_108, k_109, k_110, k_111, k_112, k_113, k_114, k_115, k_116, k_117, k_118, k_119, k_120, k_121, k_122, k_123, k_124, k_125, k_126, k_127, k_128, k_129, k_130, k_133, k_144, k_145, k_153, k_193, k_203, k_211, k_227, k_255, k_256, k_280, k_300, k_313, k_371, k_433, k_705, k_997, k_999, k_1000, k_4176, k_4547, k_9999, k_10000, k_30557, k_99999, k_1000000, k_1000000000, nI_add, pk_mul, w_sub, w_rem, w_div, w_dv, w_rm, nI_leI, nI_ltI, nI_eq, w_em, w_me, w_lm, w_ml, w_lem, w_mle, Option.bind_some, Option.some.injEq, xI_n, yI_n, xL_n, yL_n, xP_n, xG_n, I_same, I_row, I_col, L_1, Q_1, R_same, R_row, if_pos, if_neg, ite_self, not_true, not_false, decide_true, decide_false, Nat.add_assoc, true_and, and_true, Nat.zero_add, Nat.add_zero, Nat.mul_zero, Nat.mul_one, Nat.one_mul, eq_self, decide_eq_true, decide_eq_false, Bool.true_eq_false, Bool.false_eq_true, ↓reduceIte, Nat.reduceAdd, Nat.reduceMul, Nat.reduceSub, Nat.reduceDiv, Nat.reduceMod, bb_t, bb_f, r_10 hR, wi11, h, hx]
  obtain ⟨q1, q2⟩ := q_b hR hi
  obtain ⟨e0, e1, e2, e3⟩ := b_b hW i
  rcases argn y (n := 3) (by omega) with h | ⟨k, hk, rfl⟩
  · have hne : ∀ k, k ≤ 3 → y ≠ nI k := fun k hk e => h (by rw [e]; exact ⟨nI_le (by omega) (by omega), nI_le hk (by omega)⟩)
    refine ⟨-2, ?_, ?_⟩
    · unfold g_X10_book g_X10_book_0
      simp (disch := omega) only [k_0, k_1, k_2, k_3, k_4, k_5, k_6, k_7, k_8, k_9, k_10, k_11, k_12, k_13, k_14, k_15, k_16, k_17, k_18, k_19, k_20, k_21, k_22, k_23, k_24, k_25, k_26, k_27, k_28, k_29, k_30, k_31, k_32, k_33, k_34, k_35, k_36, k_37, k_38, k_39, k_40, k_41, k_42, k_43, k_44, k_45, k_46, k_47, k_48, k_49, k_50, k_51, k_52, k_53, k_54, k_55, k_56, k_57, k_58, k_59, k_60, k_61, k_62, k_63, k_64, k_65, k_66, k_67, k_68, k_69, k_70, k_71, k_72, k_73, k_74, k_75, k_76, k_77, k_78, k_79, k_80, k_81, k_82, k_83, k_84, k_85, k_86, k_87, k_88, k_89, k_90, k_91, k_92, k_93, k_94, k_95, k_96, k_97, k_98, k_99, k_100, k_101, k_102, k_103, k_104, k_105, k_106, k_107, k_108, k_109, k_110, k_111, k_112, k_113, k_114, k_115, k_116, k_117, k_118, k_119, k_120, k_121, k_122, k_123, k_124, k_125, k_126, k_127, k_128, k_129, k_130, k_133, k_144, k_145, k_153, k_193, k_203, k_211, k_227, k_255, k_256, k_280, k_300, k_313, k_371, k_433, k_705, k_997, k_999, k_1000, k_4176, k_4547, k_9999, k_10000, k_30557, k_99999, k_1000000, k_1000000000, nI_add, pk_mul, w_sub, w_rem, w_div, w_dv, w_rm, nI_leI, nI_ltI, nI_eq, w_em, w_me, w_lm, w_ml, w_lem, w_mle, Option.bind_some, Option.some.injEq, xI_n, yI_n, xL_n, yL_n, xP_n, xG_n, I_same, I_row, I_col, L_1, Q_1, R_same, R_row, if_pos, if_neg, ite_self, not_true, not_false, decide_true, decide_false, Nat.add_assoc, true_and, and_true, Nat.zero_add, Nat.add_zero, Nat.mul_zero, Nat.mul_one, Nat.one_mul, eq_self, decide_eq_true, decide_eq_false, Bool.true_eq_false, Bool.false_eq_true, ↓reduceIte, Nat.reduceAdd, Nat.reduceMul, Nat.reduceSub, Nat.reduceDiv, Nat.reduceMod, bb_t, bb_f, c_1_3 hC, wi10, in_f h, hx]
    · unfold g_X11_book g_X11_book_0 g_X11_book_54
      by_cases hy : y ≤ 1
      · rw [if_pos hy]
        have ez : jz false = nI 0 := rfl
        simp (disch := omega) only [k_0, k_1, k_2, k_3, k_4, k_5, k_6, k_7, k_8, k_9, k_10, k_11, k_12, k_13, k_14, k_15, k_16, k_17, k_18, k_19, k_20, k_21, k_22, k_23, k_24, k_25, k_26, k_27, k_28, k_29, k_30, k_31, k_32, k_33, k_34, k_35, k_36, k_37, k_38, k_39, k_40, k_41, k_42, k_43, k_44, k_45, k_46, k_47, k_48, k_49, k_50, k_51, k_52, k_53, k_54, k_55, k_56, k_57, k_58, k_59, k_60, k_61, k_62, k_63, k_64, k_65, k_66, k_67, k_68, k_69, k_70, k_71, k_72, k_73, k_74, k_75, k_76, k_77, k_78, k_79, k_80, k_81, k_82, k_83, k_84, k_85, k_86, k_87, k_88, k_89, k_90, k_91, k_92, k_93, k_94, k_95, k_96, k_97, k_98, k_99, k_100, k_101, k_102, k_103, k_104, k_105, k_106, k_107, k_108, k_109, k_110, k_111, k_112, k_113, k_114, k_115, k_116, k_117, k_118, k_119, k_120, k_121, k_122, k_123, k_124, k_125, k_126, k_127, k_128, k_129, k_130, k_133, k_144, k_145, k_153, k_193, k_203, k_211, k_227, k_255, k_256, k_280, k_300, k_313, k_371, k_433, k_705, k_997, k_999, k_1000, k_4176, k_4547, k_9999, k_10000, k_30557, k_99999, k_1000000, k_1000000000, nI_add, pk_mul, w_sub, w_rem, w_div, w_dv, w_rm, nI_leI, nI_ltI, nI_eq, w_em, w_me, w_lm, w_ml, w_lem, w_mle, Option.bind_some, Option.some.injEq, xI_n, yI_n, xL_n, yL_n, xP_n, xG_n, I_same, I_row, I_col, L_1, Q_1, R_same, R_row, if_pos, if_neg, ite_self, not_true, not_false, decide_true, decide_false, Nat.add_assoc, true_and, and_true, Nat.zero_add, Nat.add_zero, Nat.mul_zero, Nat.mul_one, Nat.one_mul, eq_self, decide_eq_true, decide_eq_false, Bool.true_eq_false, Bool.false_eq_true, ↓reduceIte, Nat.reduceAdd, Nat.reduceMul, Nat.reduceSub, Nat.reduceDiv, Nat.reduceMod, bb_t, bb_f, r_10 hR, wi11, ez, hne 0 (by omega), hne 1 (by omega), hne 2 (by omega), hne 3 (by omega)]
      · rw [if_neg hy]
        have ez : jz true = nI 1 := rfl
        simp (disch := omega) only [k_0, k_1, k_2, k_3, k_4, k_5, k_6, k_7, k_8, k_9, k_10, k_11, k_12, k_13, k_14, k_15, k_16, k_17, k_18, k_19, k_20, k_21, k_22, k_23, k_24, k_25, k_26, k_27, k_28, k_29, k_30, k_31, k_32, k_33, k_34, k_35, k_36, k_37, k_38, k_39, k_40, k_41, k_42, k_43, k_44, k_45, k_46, k_47, k_48, k_49, k_50, k_51, k_52, k_53, k_54, k_55, k_56, k_57, k_58, k_59, k_60, k_61, k_62, k_63, k_64, k_65, k_66, k_67, k_68, k_69, k_70, k_71, k_72, k_73, k_74, k_75, k_76, k_77, k_78, k_79, k_80, k_81, k_82, k_83, k_84, k_85, k_86, k_87, k_88, k_89, k_90, k_91, k_92, k_93, k_94, k_95, k_96, k_97, k_98, k_99, k_100, k_101, k_102, k_103, k_104, k_105, k_106, k_107, k_108, k_109, k_110, k_111, k_112, k_113, k_114, k_115, k_116, k_117, k_118, k_119, k_120, k_121, k_122, k_123, k_124, k_125, k_126, k_127, k_128, k_129, k_130, k_133, k_144, k_145, k_153, k_193, k_203, k_211, k_227, k_255, k_256, k_280, k_300, k_313, k_371, k_433, k_705, k_997, k_999, k_1000, k_4176, k_4547, k_9999, k_10000, k_30557, k_99999, k_1000000, k_1000000000, nI_add, pk_mul, w_sub, w_rem, w_div, w_dv, w_rm, nI_leI, nI_ltI, nI_eq, w_em, w_me, w_lm, w_ml, w_lem, w_mle, Option.bind_some, Option.some.injEq, xI_n, yI_n, xL_n, yL_n, xP_n, xG_n, I_same, I_row, I_col, L_1, Q_1, R_same, R_row, if_pos, if_neg, ite_self, not_true, not_false, decide_true, decide_false, Nat.add_assoc, true_and, and_true, Nat.zero_add, Nat.add_zero, Nat.mul_zero, Nat.mul_one, Nat.one_mul, eq_self, decide_eq_true, decide_eq_false, Bool.true_eq_false, Bool.false_eq_true, ↓reduceIte, Nat.reduceAdd, Nat.reduceMul, Nat.reduceSub, Nat.reduceDiv, Nat.reduceMod, bb_t, bb_f, r_10 hR, wi11, ez, hne 0 (by omega), hne 1 (by omega), hne 2 (by omega), hne 3 (by omega)]
  have ez : jz false = nI 0 := rfl
  have ez1 : jz true = nI 1 := rfl
  refine ⟨nI (s 9 (4 * i + k)), ?_, ?_⟩
  · unfold g_X10_book g_X10_book_0
    have e4 : i * 4 + k = 4 * i + k := by omega
    simp (disch := omega) only [k_0, k_1, k_2, k_3, k_4, k_5, k_6, k_7, k_8, k_9, k_10, k_11, k_12, k_13, k_14, k_15, k_16, k_17, k_18, k_19, k_20, k_21, k_22, k_23, k_24, k_25, k_26, k_27, k_28, k_29, k_30, k_31, k_32, k_33, k_34, k_35, k_36, k_37, k_38, k_39, k_40, k_41, k_42, k_43, k_44, k_45, k_46, k_47, k_48, k_49, k_50, k_51, k_52, k_53, k_54, k_55, k_56, k_57, k_58, k_59, k_60, k_61, k_62, k_63, k_64, k_65, k_66, k_67, k_68, k_69, k_70, k_71, k_72, k_73, k_74, k_75, k_76, k_77, k_78, k_79, k_80, k_81, k_82, k_83, k_84, k_85, k_86, k_87, k_88, k_89, k_90, k_91, k_92, k_93, k_94, k_95, k_96, k_97, k_98, k_99, k_100, k_101, k_102, k_103, k_104, k_105, k_106, k_107, k_108, k_109, k_110, k_111, k_112, k_113, k_114, k_115, k_116, k_117, k_118, k_119, k_120, k_121, k_122, k_123, k_124, k_125, k_126, k_127, k_128, k_129, k_130, k_133, k_144, k_145, k_153, k_193, k_203, k_211, k_227, k_255, k_256, k_280, k_300, k_313, k_371, k_433, k_705, k_997, k_999, k_1000, k_4176, k_4547, k_9999, k_10000, k_30557, k_99999, k_1000000, k_1000000000, nI_add, pk_mul, w_sub, w_rem, w_div, w_dv, w_rm, nI_leI, nI_ltI, nI_eq, w_em, w_me, w_lm, w_ml, w_lem, w_mle, Option.bind_some, Option.some.injEq, xI_n, yI_n, xL_n, yL_n, xP_n, xG_n, I_same, I_row, I_col, L_1, Q_1, R_same, R_row, if_pos, if_neg, ite_self, not_true, not_false, decide_true, decide_false, Nat.add_assoc, true_and, and_true, Nat.zero_add, Nat.add_zero, Nat.mul_zero, Nat.mul_one, Nat.one_mul, eq_self, decide_eq_true, decide_eq_false, Bool.true_eq_false, Bool.false_eq_true, ↓reduceIte, Nat.reduceAdd, Nat.reduceMul, Nat.reduceSub, Nat.reduceDiv, Nat.reduceMod, bb_t, bb_f, c_1_3 hC, wi10, c_9 hC, e4]
  · unfold g_X11_book g_X11_book_0 g_X11_book_54
    obtain rfl | rfl | rfl | rfl : k = 0 ∨ k = 1 ∨ k = 2 ∨ k = 3 := by omega
    · have e5 : (s 9 (4 * i) * 8 + s 9 (4 * i + 1)) / 8 = s 9 (4 * i) := by omega
      simp (disch := omega) only [k_0, k_1, k_2, k_3, k_4, k_5, k_6, k_7, k_8, k_9, k_10, k_11, k_12, k_13, k_14, k_15, k_16, k_17, k_18, k_19, k_20, k_21, k_22, k_23, k_24, k_25, k_26, k_27, k_28, k_29, k_30, k_31, k_32, k_33, k_34, k_35, k_36, k_37, k_38, k_39, k_40, k_41, k_42, k_43, k_44, k_45, k_46, k_47, k_48, k_49, k_50, k_51, k_52, k_53, k_54, k_55, k_56, k_57, k_58, k_59, k_60, k_61, k_62, k_63, k_64, k_65, k_66, k_67, k_68, k_69, k_70, k_71, k_72, k_73, k_74, k_75, k_76, k_77, k_78, k_79, k_80, k_81, k_82, k_83, k_84, k_85, k_86, k_87, k_88, k_89, k_90, k_91, k_92, k_93, k_94, k_95, k_96, k_97, k_98, k_99, k_100, k_101, k_102, k_103, k_104, k_105, k_106, k_107, k_108, k_109, k_110, k_111, k_112, k_113, k_114, k_115, k_116, k_117, k_118, k_119, k_120, k_121, k_122, k_123, k_124, k_125, k_126, k_127, k_128, k_129, k_130, k_133, k_144, k_145, k_153, k_193, k_203, k_211, k_227, k_255, k_256, k_280, k_300, k_313, k_371, k_433, k_705, k_997, k_999, k_1000, k_4176, k_4547, k_9999, k_10000, k_30557, k_99999, k_1000000, k_1000000000, nI_add, pk_mul, w_sub, w_rem, w_div, w_dv, w_rm, nI_leI, nI_ltI, nI_eq, w_em, w_me, w_lm, w_ml, w_lem, w_mle, Option.bind_some, Option.some.injEq, xI_n, yI_n, xL_n, yL_n, xP_n, xG_n, I_same, I_row, I_col, L_1, Q_1, R_same, R_row, if_pos, if_neg, ite_self, not_true, not_false, decide_true, decide_false, Nat.add_assoc, true_and, and_true, Nat.zero_add, Nat.add_zero, Nat.mul_zero, Nat.mul_one, Nat.one_mul, eq_self, decide_eq_true, decide_eq_false, Bool.true_eq_false, Bool.false_eq_true, ↓reduceIte, Nat.reduceAdd, Nat.reduceMul, Nat.reduceSub, Nat.reduceDiv, Nat.reduceMod, bb_t, bb_f, r_10 hR, wi11, ez, q1, e5]
    · have e5 : (s 9 (4 * i) * 8 + s 9 (4 * i + 1)) % 8 = s 9 (4 * i + 1) := by omega
      simp (disch := omega) only [k_0, k_1, k_2, k_3, k_4, k_5, k_6, k_7, k_8, k_9, k_10, k_11, k_12, k_13, k_14, k_15, k_16, k_17, k_18, k_19, k_20, k_21, k_22, k_23, k_24, k_25, k_26, k_27, k_28, k_29, k_30, k_31, k_32, k_33, k_34, k_35, k_36, k_37, k_38, k_39, k_40, k_41, k_42, k_43, k_44, k_45, k_46, k_47, k_48, k_49, k_50, k_51, k_52, k_53, k_54, k_55, k_56, k_57, k_58, k_59, k_60, k_61, k_62, k_63, k_64, k_65, k_66, k_67, k_68, k_69, k_70, k_71, k_72, k_73, k_74, k_75, k_76, k_77, k_78, k_79, k_80, k_81, k_82, k_83, k_84, k_85, k_86, k_87, k_88, k_89, k_90, k_91, k_92, k_93, k_94, k_95, k_96, k_97, k_98, k_99, k_100, k_101, k_102, k_103, k_104, k_105, k_106, k_107, k_108, k_109, k_110, k_111, k_112, k_113, k_114, k_115, k_116, k_117, k_118, k_119, k_120, k_121, k_122, k_123, k_124, k_125, k_126, k_127, k_128, k_129, k_130, k_133, k_144, k_145, k_153, k_193, k_203, k_211, k_227, k_255, k_256, k_280, k_300, k_313, k_371, k_433, k_705, k_997, k_999, k_1000, k_4176, k_4547, k_9999, k_10000, k_30557, k_99999, k_1000000, k_1000000000, nI_add, pk_mul, w_sub, w_rem, w_div, w_dv, w_rm, nI_leI, nI_ltI, nI_eq, w_em, w_me, w_lm, w_ml, w_lem, w_mle, Option.bind_some, Option.some.injEq, xI_n, yI_n, xL_n, yL_n, xP_n, xG_n, I_same, I_row, I_col, L_1, Q_1, R_same, R_row, if_pos, if_neg, ite_self, not_true, not_false, decide_true, decide_false, Nat.add_assoc, true_and, and_true, Nat.zero_add, Nat.add_zero, Nat.mul_zero, Nat.mul_one, Nat.one_mul, eq_self, decide_eq_true, decide_eq_false, Bool.true_eq_false, Bool.false_eq_true, ↓reduceIte, Nat.reduceAdd, Nat.reduceMul, Nat.reduceSub, Nat.reduceDiv, Nat.reduceMod, bb_t, bb_f, r_10 hR, wi11, ez, q1, e5]
    · have e5 : (s 9 (4 * i + 2) * 10000 + s 9 (4 * i + 3)) / 10000 = s 9 (4 * i + 2) := by omega
      simp (disch := omega) only [k_0, k_1, k_2, k_3, k_4, k_5, k_6, k_7, k_8, k_9, k_10, k_11, k_12, k_13, k_14, k_15, k_16, k_17, k_18, k_19, k_20, k_21, k_22, k_23, k_24, k_25, k_26, k_27, k_28, k_29, k_30, k_31, k_32, k_33, k_34, k_35, k_36, k_37, k_38, k_39, k_40, k_41, k_42, k_43, k_44, k_45, k_46, k_47, k_48, k_49, k_50, k_51, k_52, k_53, k_54, k_55, k_56, k_57, k_58, k_59, k_60, k_61, k_62, k_63, k_64, k_65, k_66, k_67, k_68, k_69, k_70, k_71, k_72, k_73, k_74, k_75, k_76, k_77, k_78, k_79, k_80, k_81, k_82, k_83, k_84, k_85, k_86, k_87, k_88, k_89, k_90, k_91, k_92, k_93, k_94, k_95, k_96, k_97, k_98, k_99, k_100, k_101, k_102, k_103, k_104, k_105, k_106, k_107, k_108, k_109, k_110, k_111, k_112, k_113, k_114, k_115, k_116, k_117, k_118, k_119, k_120, k_121, k_122, k_123, k_124, k_125, k_126, k_127, k_128, k_129, k_130, k_133, k_144, k_145, k_153, k_193, k_203, k_211, k_227, k_255, k_256, k_280, k_300, k_313, k_371, k_433, k_705, k_997, k_999, k_1000, k_4176, k_4547, k_9999, k_10000, k_30557, k_99999, k_1000000, k_1000000000, nI_add, pk_mul, w_sub, w_rem, w_div, w_dv, w_rm, nI_leI, nI_ltI, nI_eq, w_em, w_me, w_lm, w_ml, w_lem, w_mle, Option.bind_some, Option.some.injEq, xI_n, yI_n, xL_n, yL_n, xP_n, xG_n, I_same, I_row, I_col, L_1, Q_1, R_same, R_row, if_pos, if_neg, ite_self, not_true, not_false, decide_true, decide_false, Nat.add_assoc, true_and, and_true, Nat.zero_add, Nat.add_zero, Nat.mul_zero, Nat.mul_one, Nat.one_mul, eq_self, decide_eq_true, decide_eq_false, Bool.true_eq_false, Bool.false_eq_true, ↓reduceIte, Nat.reduceAdd, Nat.reduceMul, Nat.reduceSub, Nat.reduceDiv, Nat.reduceMod, bb_t, bb_f, r_10 hR, wi11, ez1, q2, e5]
    · have e5 : (s 9 (4 * i + 2) * 10000 + s 9 (4 * i + 3)) % 10000 = s 9 (4 * i + 3) := by omega
      simp (disch := omega) only [k_0, k_1, k_2, k_3, k_4, k_5, k_6, k_7, k_8, k_9, k_10, k_11, k_12, k_13, k_14, k_15, k_16, k_17, k_18, k_19, k_20, k_21, k_22, k_23, k_24, k_25, k_26, k_27, k_28, k_29, k_30, k_31, k_32, k_33, k_34, k_35, k_36, k_37, k_38, k_39, k_40, k_41, k_42, k_43, k_44, k_45, k_46, k_47, k_48, k_49, k_50, k_51, k_52, k_53, k_54, k_55, k_56, k_57, k_58, k_59, k_60, k_61, k_62, k_63, k_64, k_65, k_66, k_67, k_68, k_69, k_70, k_71, k_72, k_73, k_74, k_75, k_76, k_77, k_78, k_79, k_80, k_81, k_82, k_83, k_84, k_85, k_86, k_87, k_88, k_89, k_90, k_91, k_92, k_93, k_94, k_95, k_96, k_97, k_98, k_99, k_100, k_101, k_102, k_103, k_104, k_105, k_106, k_107, k_108, k_109, k_110, k_111, k_112, k_113, k_114, k_115, k_116, k_117, k_118, k_119, k_120, k_121, k_122, k_123, k_124, k_125, k_126, k_127, k_128, k_129, k_130, k_133, k_144, k_145, k_153, k_193, k_203, k_211, k_227, k_255, k_256, k_280, k_300, k_313, k_371, k_433, k_705, k_997, k_999, k_1000, k_4176, k_4547, k_9999, k_10000, k_30557, k_99999, k_1000000, k_1000000000, nI_add, pk_mul, w_sub, w_rem, w_div, w_dv, w_rm, nI_leI, nI_ltI, nI_eq, w_em, w_me, w_lm, w_ml, w_lem, w_mle, Option.bind_some, Option.some.injEq, xI_n, yI_n, xL_n, yL_n, xP_n, xG_n, I_same, I_row, I_col, L_1, Q_1, R_same, R_row, if_pos, if_neg, ite_self, not_true, not_false, decide_true, decide_false, Nat.add_assoc, true_and, and_true, Nat.zero_add, Nat.add_zero, Nat.mul_zero, Nat.mul_one, Nat.one_mul, eq_self, decide_eq_true, decide_eq_false, Bool.true_eq_false, Bool.false_eq_true, ↓reduceIte, Nat.reduceAdd, Nat.reduceMul, Nat.reduceSub, Nat.reduceDiv, Nat.reduceMod, bb_t, bb_f, r_10 hR, wi11, ez1, q2, e5]
end WLD
