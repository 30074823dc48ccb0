/-! nights: a machine dreams -/
section DRM
variable {N : Mem} {σ τ τ0 τ' υ υ' υ0 : ST} {w w' w1 : SS} {b : Nat} {wr : Bool} {A A' : Nat → Int32} {ru : Nat → Nat}
theorem RW.c (h : RW A w) (hW : WFw w) (h1 : ∀ i, i = 0 ∨ i = 8 ∨ i = 9 ∨ (11 ≤ i ∧ i < 101) → A' i = A i) (h2 : ∀ k i, k ≠ 8 → ¬ (k = 0 ∧ i = 3) → w' k i = w k i) : RW A' w' := by
  obtain ⟨a0, a8, a9, ma⟩ := h
  refine ⟨?_, ?_, ?_, ?_⟩
  · rw [h1 _ (by omega), h2 _ _ (by omega) (by omega)]; exact a0
  · rw [h1 _ (by omega), h2 _ _ (by omega) (by omega)]; exact a8
  · rw [h1 _ (by omega), h2 _ _ (by omega) (by omega)]; exact a9
  · have hc : w 0 0 ≤ 5 := hW.1
    intro m hm
    rw [h2 _ _ (by omega) (by omega)] at hm
    obtain ⟨⟨m0, m1, m2, m3, m4⟩, m5, m6⟩ := ma m hm
    have hl := hW.l m
    refine ⟨⟨?_, ?_, ?_, ?_, fun i hi => ?_⟩, ?_, ?_⟩
    · show A' (11 + 18 * m + 0) = _
      rw [h1 _ (by omega), h2 _ _ (by omega) (by omega)]; exact m0
    · show A' (11 + 18 * m + 1) = _
      rw [h1 _ (by omega), h2 _ _ (by omega) (by omega)]; exact m1
    · show A' (11 + 18 * m + 2) = _
      rw [h1 _ (by omega), h2 _ _ (by omega) (by omega)]; exact m2
    · show A' (11 + 18 * m + 3) = _
      rw [h1 _ (by omega), h2 _ _ (by omega) (by omega)]; exact m3
    · rw [h2 _ _ (by omega) (by omega)] at hi
      show A' (11 + 18 * m + (4 + i)) = _
      rw [h1 _ (by omega), h2 _ _ (by omega) (by omega)]; exact m4 i hi
    · rw [h1 _ (by omega), h2 _ _ (by omega) (by omega)]; exact m5
    · rw [h1 _ (by omega), h2 _ _ (by omega) (by omega)]; exact m6
theorem RV.rep (h : RV wr υ0 υ w) (hA : υ'.1 643 = A') (hrow : ∀ a i, a ≠ 643 → ¬ (a = 642 ∧ i = 24) → υ'.1 a i = υ.1 a i) (h2 : υ'.2 = υ.2) (hR : RW A' w') (hf : ∀ i, (1 ≤ i ∧ i < 8) ∨ (101 ≤ i ∧ i < 4547) ∨ 4607 ≤ i → A' i = υ.1 643 i) (ht : wr = true → A' 10 = nI (w' 0 3) ∧ Rbk (fun k => A' (4547 + k)) w') (hn : wr = false → A' 10 = υ.1 643 10 ∧ ∀ i, 4547 ≤ i → i < 4607 → A' i = υ.1 643 i) : RV wr υ0 υ' w' := by
  obtain ⟨g1, g2, g3, g4, g5, g6, g7⟩ := h
  unfold RV
  rw [hA, h2]
  exact ⟨hR, fun i hi => (hf i hi).trans (g2 i hi), ht, fun q => ⟨(hn q).1.trans (g4 q).1, fun i q1 q2 => ((hn q).2 i q1 q2).trans ((g4 q).2 i q1 q2)⟩, fun a i q1 q2 q3 q4 => (hrow a i q1 q4).trans (g5 a i q1 q2 q3 q4), g6, g7⟩
theorem w71 (h : RV true υ0 υ w) (hW : WFw w) (h30 : w 0 3 < 30) {m a t : Nat} (hm : m ≤ 4) : ∃ υ', g_X11_write_71 N 642 (nI m) (nI a) (nI t) υ = some υ' ∧ RV true υ0 υ' (wrt w m a t) ∧ υ'.1 642 = υ.1 642 := by
  obtain ⟨g1, g2⟩ := h.2.2.1 rfl
  have a8 : υ.1 643 8 = nI (w 0 1) := h.1.2.1
  refine ⟨setI (setI (setI υ 643 (4547 + 2 * w 0 3) (nI (w 0 1 * 8 + m))) 643 (4547 + (2 * w 0 3 + 1)) (nI (a * 10000 + t))) 643 10 (nI (w 0 3 + 1)), ?_, ?_, ?_⟩
  · unfold g_X11_write_71
    simp (disch := omega) only [k_0, k_1, k_2, k_3, k_4, k_5, k_6, k_7, k_8, k_9, k_10, k_11, k_12, k_13, k_14, k_15, k_16, k_17, k_18, k_19, k_20, k_21, k_22, k_23, k_24, k_25, k_26, k_27, k_28, k_29, k_30, k_31, k_32, k_33, k_34, k_35, k_36, k_37, k_38, k_39, k_40, k_41, k_42, k_43, k_44, k_45, k_46, k_47, k_48, k_49, k_50, k_51, k_52, k_53, k_54, k_55, k_56, k_57, k_58, k_59, k_60, k_61, k_62, k_63, k_64, k_65, k_66, k_67, k_68, k_69, k_70, k_71, k_72, k_73, k_74, k_75, k_76, k_77, k_78, k_79, k_80, k_81, k_82, k_83, k_84, k_85, k_86, k_87, k_88, k_89, k_90, k_91, k_92, k_93, k_94, k_95, k_96, k_97, k_98, k_99, k_100, k_101, k_102, k_103, k_104, k_105, k_106, k_107, k_108, k_109, k_110, k_111, k_112, k_113, k_114, k_115, k_116, k_117, k_118, k_119, k_120, k_121, k_122, k_123, k_124, k_125, k_126, k_127, k_128, k_129, k_130, k_133, k_144, k_145, k_153, k_193, k_203, k_211, k_227, k_255, k_256, k_280, k_300, k_313, k_371, k_433, k_705, k_997, k_999, k_1000, k_4176, k_4547, k_9999, k_10000, k_30557, k_99999, k_1000000, k_1000000000, nI_add, pk_mul, w_sub, w_rem, w_div, w_dv, w_rm, nI_leI, nI_ltI, nI_eq, w_em, w_me, w_lm, w_ml, w_lem, w_mle, bnd, Option.some.injEq, xI_n, yI_n, xL_n, yL_n, xP_n, xG_n, I_same, I_row, I_col, L_1, Q_1, R_same, R_row, if_pos, if_neg, ite_self, not_true, not_false, decide_true, decide_false, Nat.add_assoc, true_and, and_true, Nat.zero_add, Nat.add_zero, Nat.mul_zero, Nat.mul_one, Nat.one_mul, eq_self, decide_eq_true, decide_eq_false, Bool.true_eq_false, Bool.false_eq_true, ↓reduceIte, Nat.reduceAdd, Nat.reduceMul, Nat.reduceSub, Nat.reduceDiv, Nat.reduceMod, bb_t, bb_f, g1, a8]
  · refine h.rep (A' := ua (ua (ua (υ.1 643) (4547 + 2 * w 0 3) (nI (w 0 1 * 8 + m))) (4547 + (2 * w 0 3 + 1)) (nI (a * 10000 + t))) 10 (nI (w 0 3 + 1))) (by rw [I_ua, I_ua, I_ua]) (fun a i q1 q2 => by rw [I_row q1, I_row q1, I_row q1]) rfl (h.1.c hW (fun i hi => by rw [ua_ne (by omega), ua_ne (by omega), ua_ne (by omega)]) (fun k i q1 q2 => wrt_o q1 q2)) (fun i hi => by rw [ua_ne (by omega), ua_ne (by omega), ua_ne (by omega)]) (fun _ => ⟨?_, fun i hi => ?_⟩) (fun q => by cases q)
    · rw [ua_same rfl]
      unfold wrt
      rw [us_same rfl rfl]
    · have hi : i < w 0 3 + 1 := by
        have e : wrt w m a t 0 3 = w 0 3 + 1 := us_same rfl rfl
        rw [e] at hi
        exact hi
      dsimp only
      by_cases e : i = w 0 3
      · subst e
        rw [ua_ne (by omega), ua_ne (by omega), ua_same rfl, ua_ne (by omega), ua_same (by omega)]
        unfold wrt
        simp (disch := omega) only [us_row, us_col, us_same]
        exact ⟨trivial, trivial⟩
      · obtain ⟨q1, q2⟩ := g2 i (by omega)
        dsimp only at q1 q2
        rw [ua_ne (by omega), ua_ne (by omega), ua_ne (by omega), ua_ne (by omega), ua_ne (by omega), ua_ne (by omega)]
        unfold wrt
        simp (disch := omega) only [us_row, us_col]
        exact ⟨q1, q2⟩
  · funext i
    rw [I_row (by omega), I_row (by omega), I_row (by omega)]
theorem wri_r (h : RV wr υ0 υ w) (hW : WFw w) (h23 : υ.1 642 23 = jz wr) {m a t : Nat} (hm : m ≤ 4) : ∃ υ', g_X11_write N 642 (nI m) (nI a) (nI t) υ = some υ' ∧ RV wr υ0 υ' (bk w m a t) ∧ υ'.1 642 = υ.1 642 := by
  unfold g_X11_write g_X11_write_0
  rw [h23]
  cases wr with
  | false =>
    refine ⟨υ, rfl, ?_, rfl⟩
    refine h.rep (A' := υ.1 643) rfl (fun _ _ _ _ => rfl) rfl (h.1.c hW (fun _ _ => rfl) (fun k i q1 q2 => bk_o q1 q2)) (fun _ _ => rfl) (fun q => by cases q) (fun _ => ⟨rfl, fun _ _ _ => rfl⟩)
  | true =>
    obtain ⟨g1, g2⟩ := h.2.2.1 rfl
    have hb30 : w 0 3 ≤ 30 := hW.2.2.2.1
    have ez : zb (jz true) = some true := rfl
    have e10 : xI 4607 υ (642 + 1) (nI 10) = some (nI (w 0 3)) := by
      rw [xI_n (by omega) (by omega)]
      exact congrArg some g1
    rw [ez, bnd, if_pos rfl, k_10, e10, bnd, k_30]
    unfold bk
    by_cases c : w 0 3 < 30
    · rw [if_neg (fun q => by have := (nI_eq (by omega) (by omega)).mp q; omega)]
      have er : rmk w = w := by unfold rmk; rw [if_pos c]
      rw [er]
      exact w71 h hW c hm
    · have e30 : w 0 3 = 30 := by omega
      rw [if_pos (by rw [e30])]
      have h0 : shA (υ.1 643) (2 - 2) = υ.1 643 := by
        funext i
        unfold shA
        rw [if_neg (by omega)]
      have hl := w23 (N := N) (υ := υ) m a t 58 2 fu (υ.1 643) (by omega) (by omega) (by unfold fu; omega)
      rw [h0, R_id, xI_n (by omega) (by omega), bnd, yI_n (by omega) (by omega), bnd, R_same rfl] at hl
      have s10 : shA (υ.1 643) 58 10 = nI 30 := by
        unfold shA
        rw [if_neg (by omega), g1, e30]
      rw [s10, pk_sub (by omega)] at hl
      have h2 : RV true υ0 (setI (setR υ 643 (shA (υ.1 643) 58)) 643 10 (nI (30 - 1))) (rmk w) := by
        refine h.rep (A' := ua (shA (υ.1 643) 58) 10 (nI 29)) (by rw [I_ua, R_1]) (fun a i q1 q2 => by rw [I_row q1, R_row q1]) rfl (h.1.c hW (fun i hi => by unfold shA; rw [ua_ne (by omega), if_neg (by omega)]) (fun k i q1 q2 => rmk_o q1 q2)) (fun i hi => by unfold shA; rw [ua_ne (by omega), if_neg (by omega)]) (fun _ => ⟨?_, fun i hi => ?_⟩) (fun q => by cases q)
        · rw [ua_same rfl]
          unfold rmk
          rw [if_neg c]
          rfl
        · have e29 : rmk w 0 3 = 29 := by
            unfold rmk
            rw [if_neg c]
            rfl
          rw [e29] at hi
          obtain ⟨q1, q2⟩ := g2 (i + 1) (by omega)
          dsimp only at q1 q2 ⊢
          have e8 : ∀ j, j < 116 → rmk w 8 j = w 8 (j + 4) := by
            intro j hj
            unfold rmk
            rw [if_neg c]
            rw [if_pos rfl, if_pos hj]
          rw [e8 _ (by omega), e8 _ (by omega), e8 _ (by omega), e8 _ (by omega), ua_ne (by omega), ua_ne (by omega)]
          unfold shA
          rw [if_pos (by omega), if_pos (by omega)]
          rw [show 4547 + 2 * i + 2 = 4547 + 2 * (i + 1) by omega, show 4547 + (2 * i + 1) + 2 = 4547 + (2 * (i + 1) + 1) by omega, show 4 * i + 4 = 4 * (i + 1) by omega, show 4 * i + 1 + 4 = 4 * (i + 1) + 1 by omega, show 4 * i + 2 + 4 = 4 * (i + 1) + 2 by omega, show 4 * i + 3 + 4 = 4 * (i + 1) + 3 by omega]
          exact ⟨q1, q2⟩
      obtain ⟨υ', a1, a2, a3⟩ := w71 (N := N) h2 (rmk_w hW) (rmk_3 hW) (m := m) (a := a) (t := t) hm
      refine ⟨υ', ?_, a2, ?_⟩
      · rw [k_2, hl]
        exact a1
      · rw [a3]
        funext i
        rw [I_row (by omega), R_row (by omega)]
def RU (τ0 υ0 : ST) (ru : Nat → Nat) : Prop := (∀ i, i < 20 → τ0.1 13 i = nI (ru i) ∧ υ0.1 643 (101 + i) = nI (ru i)) ∧ ∀ i, ru i ≤ 110
theorem ru_r (hU : RU τ0 υ0 ru) (h : RV wr υ0 υ w) {d l : Nat} (hd : d ≤ 9) (hl : l ≤ 1) : g_X11_ruleOf N 642 (nI d) (nI l) υ = some (nI (ru (2 * d + l))) := by
  have e := (hU.1 (2 * d + l) (by omega)).2
  have e2 : υ.1 643 (101 + (2 * d + l)) = nI (ru (2 * d + l)) := (h.2.1 _ (by omega)).trans e
  unfold g_X11_ruleOf g_X11_ruleOf_0
  simp (disch := omega) only [k_0, k_1, k_2, k_3, k_4, k_5, k_6, k_7, k_8, k_9, k_10, k_11, k_12, k_13, k_14, k_15, k_16, k_17, k_18, k_19, k_20, k_21, k_22, k_23, k_24, k_25, k_26, k_27, k_28, k_29, k_30, k_31, k_32, k_33, k_34, k_35, k_36, k_37, k_38, k_39, k_40, k_41, k_42, k_43, k_44, k_45, k_46, k_47, k_48, k_49, k_50, k_51, k_52, k_53, k_54, k_55, k_56, k_57, k_58, k_59, k_60, k_61, k_62, k_63, k_64, k_65, k_66, k_67, k_68, k_69, k_70, k_71, k_72, k_73, k_74, k_75, k_76, k_77, k_78, k_79, k_80, k_81, k_82, k_83, k_84, k_85, k_86, k_87, k_88, k_89, k_90, k_91, k_92, k_93, k_94, k_95, k_96, k_97, k_98, k_99, k_100, k_101, k_102, k_103, k_104, k_105, k_106, k_107, k_108, k_109, k_110, k_111, k_112, k_113, k_114, k_115, k_116, k_117, k_118, k_119, k_120, k_121, k_122, k_123, k_124, k_125, k_126, k_127, k_128, k_129, k_130, k_133, k_144, k_145, k_153, k_193, k_203, k_211, k_227, k_255, k_256, k_280, k_300, k_313, k_371, k_433, k_705, k_997, k_999, k_1000, k_4176, k_4547, k_9999, k_10000, k_30557, k_99999, k_1000000, k_1000000000, nI_add, pk_mul, w_sub, w_rem, w_div, w_dv, w_rm, nI_leI, nI_ltI, nI_eq, w_em, w_me, w_lm, w_ml, w_lem, w_mle, bnd, Option.some.injEq, xI_n, yI_n, xL_n, yL_n, xP_n, xG_n, I_same, I_row, I_col, L_1, Q_1, R_same, R_row, if_pos, if_neg, ite_self, not_true, not_false, decide_true, decide_false, Nat.add_assoc, true_and, and_true, Nat.zero_add, Nat.add_zero, Nat.mul_zero, Nat.mul_one, Nat.one_mul, eq_self, decide_eq_true, decide_eq_false, Bool.true_eq_false, Bool.false_eq_true, ↓reduceIte, Nat.reduceAdd, Nat.reduceMul, Nat.reduceSub, Nat.reduceDiv, Nat.reduceMod, bb_t, bb_f, e2]
theorem roll_l (hU : RU τ0 υ0 ru) (hb : b + 9 ≤ 13 ∨ 603 ≤ b) {S l m : Nat} (hS : S ≤ 9999) (hm : m < w 0 0) : ∀ r k n n2 τ υ w1, k + r = dc S → r < n → r < n2 → CW b τ0 τ w1 → RV wr υ0 υ w1 → WFw w1 → Qr w w1 m → l ≤ 10 → ∃ τ' υ' w' n3, g_X0_printRoll_25 N n b (nI m) 20 13 (nI l) (nI S) (nI (dc S)) (nI k) τ = some τ' ∧ g_X11_dream_27 N n2 642 (nI m) (nI S) (nI l) (nI k) υ = g_X11_dream_27 N (n3 + 1) 642 (nI m) (nI S) (nI l) (nI (dc S)) υ' ∧ CW b τ0 τ' w' ∧ RV wr υ0 υ' w' ∧ WFw w' ∧ Qr w w' m ∧ υ'.1 642 = υ.1 642 := by
  intro r
  induction r with
  | zero =>
    intro k n n2 τ υ w1 hk hn hn2 hC hV hW hQ hl
    obtain ⟨n, rfl⟩ : ∃ x, n = x + 1 := ⟨n - 1, by omega⟩
    obtain ⟨n2, rfl⟩ : ∃ x, n2 = x + 1 := ⟨n2 - 1, by omega⟩
    obtain rfl : k = dc S := by omega
    have hd := dc_b S
    refine ⟨τ, υ, w1, n2, ?_, rfl, hC, hV, hW, hQ, rfl⟩
    rw [g_X0_printRoll_25, if_pos (nI_le (Nat.le_refl _) (by omega))]
  | succ r ih =>
    intro k n n2 τ υ w1 hk hn hn2 hC hV hW hQ hl
    obtain ⟨n, rfl⟩ : ∃ x, n = x + 1 := ⟨n - 1, by omega⟩
    obtain ⟨n2, rfl⟩ : ∃ x, n2 = x + 1 := ⟨n2 - 1, by omega⟩
    have hd := dc_b S
    have hx : w1 0 2 < 30557 := hW.2.2.1
    have hc : w1 0 0 ≤ 5 := hW.1
    have hm1 : m < w1 0 0 := by rw [hQ _ _ (by omega) (by omega) (by omega)]; exact hm
    have hdg := dg_b S k
    have dC := dg10 hS (show k < dc S by omega)
    have dR := dg11 hS (show k < dc S by omega)
    have eC := draw_c (N := N) hC.1 hx
    have eR := drawn_r (N := N) hV.1 hx
    have hC2 : CW b τ0 (setI τ b 2 (nI (nxt (w1 0 2)))) (us w1 0 2 (nxt (w1 0 2))) := by
      have := hC.set (k := 0) (i := 2) (v := nxt (w1 0 2)) (by omega)
      rw [Nat.add_zero] at this
      exact this
    have hV2 := hV.set (j := 9) (v := nI (nxt (w1 0 2))) (w' := us w1 0 2 (nxt (w1 0 2))) (by omega) hV.1.sc9 (us_col (by omega)) (fun i => us_row (by omega)) hW.2.2.2.1
    have hW2 := ww_02 hW (nxt_b (w1 0 2))
    have hQ2 : Qr w (us w1 0 2 (nxt (w1 0 2))) m := fun a i q1 q2 q3 => Eq.trans (if_neg q1) (hQ a i q1 q2 q3)
    have hm2 : m < us w1 0 2 (nxt (w1 0 2)) 0 0 := by rw [us_col (by omega)]; exact hm1
    generalize us w1 0 2 (nxt (w1 0 2)) = w2 at *
    have step : ∀ z, z ≤ 1 → ∃ τ' υ' w', (∀ K : Nat → Int32 → Nat → Nat → Int32 → Int32 → Int32 → Int32 → ST → Option ST, g_X0_printRoll_52 N K b (nI m) 20 13 (nI l) (nI S) (nI (dc S)) (nI k) (decide (z = 1)) (nI (dg S k)) (setI τ b 2 (nI (nxt (w1 0 2)))) = K b (nI m) 20 13 (nI l) (nI S) (nI (dc S)) (nI (k + 1)) τ') ∧ (∀ K : Nat → Int32 → Int32 → Int32 → Int32 → ST → Option ST, g_X11_dream_58 N K 642 (nI m) (nI S) (nI l) (nI k) (decide (z = 1)) (nI (dg S k)) 642 (nI m) 642 (setI υ 643 9 (nI (nxt (w1 0 2)))) = K 642 (nI m) (nI S) (nI l) (nI (k + 1)) υ') ∧ CW b τ0 τ' w' ∧ RV wr υ0 υ' w' ∧ WFw w' ∧ Qr w w' m ∧ υ'.1 642 = υ.1 642 := by
      intro z hz
      obtain ⟨τ', a1, a2⟩ := pw_c (N := N) hC2 hW2 (m := m) (v := ru (2 * dg S k + z)) (by omega) (hU.2 _)
      obtain ⟨υ', b1, b2, b3⟩ := pw_r (N := N) hV2 hW2 hm2 (hU.2 (2 * dg S k + z))
      refine ⟨τ', υ', _, fun K => ?_, fun K => ?_, a2, b2, pwd_w hW2 (hU.2 _), pwd_q hQ2, b3.trans (funext fun i => I_row (by omega))⟩
      · have e13 : (setI τ b 2 (nI (nxt (w1 0 2)))).1 13 (2 * dg S k + z) = nI (ru (2 * dg S k + z)) := (hC2.2.1 _ _ (by omega) (by omega) (by omega)).trans (hU.1 _ (by omega)).1
        have er : f_X10_ruleIndex (nI (dg S k)) (decide (z = 1)) = some (nI (2 * dg S k + z)) := by
          rw [ruleIx]
          obtain rfl | rfl : z = 0 ∨ z = 1 := by omega
          · rfl
          · rfl
        have q20 : Int32.ofNat 20 = nI 20 := rfl
        have ed : decide (nI 0 ≤ nI (2 * dg S k + z) ∧ nI (2 * dg S k + z) ≤ nI 19) = true := in_t (by omega) (by omega) (by omega)
        unfold g_X0_printRoll_52
        rw [er, bnd, q20, k_0, k_1, pk_sub (by omega), show 20 - 1 = 19 by omega, wi10, ed, bnd, if_neg (by decide), xI_n (by omega) (by omega), e13, bnd, a1, bnd, nI_add]
      · have er := ru_r (N := N) hU hV2 (d := dg S k) (l := z) hdg hz
        have ez : jz (decide (z = 1)) = nI z := by
          obtain rfl | rfl : z = 0 ∨ z = 1 := by omega
          · rfl
          · rfl
        unfold g_X11_dream_58
        rw [ez, er, bnd, b1, bnd, k_1, nI_add]
    have hx10 : w1 0 2 % 10 < 10 := Nat.mod_lt _ (by omega)
    by_cases cl : l ≤ w1 0 2 % 10
    · obtain ⟨τ1, υ1, w3, s1, s2, s3, s4, s5, s6, s7⟩ := step 0 (by omega)
      obtain ⟨τ', υ', w', n3, t1, t2, t3, t4, t5, t6, t7⟩ := ih (k + 1) n n2 τ1 υ1 w3 (by omega) (by omega) (by omega) s3 s4 s5 s6 hl
      refine ⟨τ', υ', w', n3, ?_, ?_, t3, t4, t5, t6, t7.trans s7⟩
      · rw [g_X0_printRoll_25, if_neg (nI_ge (by omega) (by omega)), dC, bnd, eC, bnd]
        dsimp only
        rw [if_pos (nI_le cl (by omega)), ← t1]
        exact s1 _
      · rw [g_X11_dream_27, dc11 hS, bnd, if_neg (nI_ge (by omega) (by omega)), dR, bnd, eR, bnd]
        dsimp only
        rw [if_pos (nI_le cl (by omega)), ← t2]
        exact s2 _
    · obtain ⟨τ1, υ1, w3, s1, s2, s3, s4, s5, s6, s7⟩ := step 1 (by omega)
      obtain ⟨τ', υ', w', n3, t1, t2, t3, t4, t5, t6, t7⟩ := ih (k + 1) n n2 τ1 υ1 w3 (by omega) (by omega) (by omega) s3 s4 s5 s6 hl
      refine ⟨τ', υ', w', n3, ?_, ?_, t3, t4, t5, t6, t7.trans s7⟩
      · rw [g_X0_printRoll_25, if_neg (nI_ge (by omega) (by omega)), dC, bnd, eC, bnd]
        dsimp only
        rw [if_neg (nI_ge (by omega) (by omega)), ← t1]
        exact s1 _
      · rw [g_X11_dream_27, dc11 hS, bnd, if_neg (nI_ge (by omega) (by omega)), dR, bnd, eR, bnd]
        dsimp only
        rw [if_neg (nI_ge (by omega) (by omega)), ← t2]
        exact s2 _
end DRM
