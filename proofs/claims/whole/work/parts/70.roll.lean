/-! nights: draws and rolls -/
def CW (b : Nat) (τ0 τ : ST) (w : SS) : Prop := WR τ b w ∧ (∀ a i, ¬ (b ≤ a ∧ a < b + 9) → a ≠ 602 → ¬ (a = 601 ∧ i = 1) → τ.1 a i = τ0.1 a i) ∧ τ.2 = τ0.2
def RV (wr : Bool) (υ0 υ : ST) (w : SS) : Prop := RW (υ.1 643) w ∧ (∀ i, (1 ≤ i ∧ i < 8) ∨ (101 ≤ i ∧ i < 4547) ∨ 4607 ≤ i → υ.1 643 i = υ0.1 643 i) ∧ (wr = true → υ.1 643 10 = nI (w 0 3) ∧ Rbk (fun k => υ.1 643 (4547 + k)) w) ∧ (wr = false → υ.1 643 10 = υ0.1 643 10 ∧ ∀ i, 4547 ≤ i → i < 4607 → υ.1 643 i = υ0.1 643 i) ∧ (∀ a i, a ≠ 643 → a ≠ 648 → a ≠ 650 → ¬ (a = 642 ∧ i = 24) → υ.1 a i = υ0.1 a i) ∧ (∀ a i, a ≠ 649 → υ.2.1 a i = υ0.2.1 a i) ∧ υ.2.2 = υ0.2.2
def nxt (x : Nat) : Nat := (x * 433 + 313) % 30557
def pdg (w : SS) (m d : Nat) : SS := if w 6 m < 12 then us (us w 7 (12 * m + w 6 m) d) 6 m (w 6 m + 1) else w
def pwd (w : SS) (m v : Nat) : SS := if v = 0 then w else if v < 11 then pdg w m (v - 1) else pdg (pdg w m ((v - 11) / 10)) m ((v - 11) % 10)
/-- what a roll may change -/
def Qr (w w' : SS) (m : Nat) : Prop := ∀ k i, ¬ (k = 0 ∧ i = 2) → k ≠ 7 → ¬ (k = 6 ∧ i = m) → w' k i = w k i
section ROL
variable {N : Mem} {σ τ τ0 τ' υ υ' υ0 : ST} {w w' w1 : SS} {b : Nat} {wr : Bool} {A : Nat → Int32}
theorem CW.set (h : CW b τ0 τ w) {k i v : Nat} (hk : k < 9) : CW b τ0 (setI τ (b + k) i (nI v)) (us w k i v) := by
  obtain ⟨h1, h2, h3⟩ := h
  refine ⟨fun c j hc => ?_, fun a j q1 q2 q3 => (I_row (by omega)).trans (h2 a j q1 q2 q3), h3⟩
  by_cases e : c = k ∧ j = i
  · rw [I_same (by omega) e.2, us_same e.1 e.2]
  · have e2 : us w k i v c j = w c j := if_neg e
    rw [e2]
    refine Eq.trans ?_ (h1 c j hc)
    show (if b + c = b + k ∧ j = i then _ else _) = _
    rw [if_neg (by omega)]
theorem CW.af (h : CW b τ0 τ w) (hb : b + 9 ≤ 601 ∨ 603 ≤ b) (ha : AF τ τ') : CW b τ0 τ' w := ⟨ha.wr hb h.1, fun a i q1 q2 q3 => (ha.1 a i q2 q3).trans (h.2.1 a i q1 q2 q3), ha.2.trans h.2.2⟩
theorem RV.bf (h : RV wr υ0 υ w) (hb : BF υ υ') : RV wr υ0 υ' w := by
  obtain ⟨h1, h2, h3, h4, h5, h6, h7⟩ := h
  have e : υ'.1 643 = υ.1 643 := hb.ref
  unfold RV
  rw [e]
  exact ⟨h1, h2, h3, h4, fun a i q1 q2 q3 q4 => (hb.1 a i q2 q3).trans (h5 a i q1 q2 q3 q4), fun a i q => (hb.2.1 a i q).trans (h6 a i q), hb.2.2.trans h7⟩
theorem I_ua {j : Nat} {v : Int32} : (setI υ 643 j v).1 643 = ua (υ.1 643) j v := by
  funext i
  by_cases e : i = j
  · rw [I_same rfl e, ua_same e]
  · rw [I_col e, ua_ne e]
theorem RV.set (h : RV wr υ0 υ w) {j : Nat} {v : Int32} (hj : j = 8 ∨ j = 9 ∨ (11 ≤ j ∧ j < 101)) (hR : RW (ua (υ.1 643) j v) w') (h03 : w' 0 3 = w 0 3) (h8 : ∀ i, w' 8 i = w 8 i) (hb30 : w 0 3 ≤ 30) : RV wr υ0 (setI υ 643 j v) w' := by
  obtain ⟨h1, h2, h3, h4, h5, h6, h7⟩ := h
  unfold RV
  rw [I_ua]
  refine ⟨hR, fun i hi => (ua_ne (by omega)).trans (h2 i hi), fun q => ?_, fun q => ⟨(ua_ne (by omega)).trans (h4 q).1, fun i q1 q2 => (ua_ne (by omega)).trans ((h4 q).2 i q1 q2)⟩, fun a i q1 q2 q3 q4 => (I_row q1).trans (h5 a i q1 q2 q3 q4), h6, h7⟩
  obtain ⟨g1, g2⟩ := h3 q
  exact ⟨by rw [ua_ne (by omega), h03]; exact g1, Rbk_b (fun i hi => ua_ne (by omega)) h8 h03 hb30 g2⟩
theorem RW.sc9 (h : RW A w) {v : Nat} : RW (ua A 9 (nI v)) (us w 0 2 v) := by
  obtain ⟨a0, a8, a9, ma⟩ := h
  refine ⟨?_, ?_, ?_, ?_⟩
  · rw [ua_ne (by omega), us_col (by omega)]; exact a0
  · rw [ua_ne (by omega), us_col (by omega)]; exact a8
  · rw [ua_same rfl, us_same rfl rfl]
  · intro m hm
    rw [us_col (by omega)] at hm
    obtain ⟨⟨m0, m1, m2, m3, m4⟩, m5, m6⟩ := ma m hm
    refine ⟨⟨?_, ?_, ?_, ?_, fun i hi => ?_⟩, ?_, ?_⟩
    · show ua A 9 (nI v) (11 + 18 * m + 0) = _
      rw [ua_ne (by omega), us_row (by omega)]; exact m0
    · show ua A 9 (nI v) (11 + 18 * m + 1) = _
      rw [ua_ne (by omega), us_row (by omega)]; exact m1
    · show ua A 9 (nI v) (11 + 18 * m + 2) = _
      rw [ua_ne (by omega), us_row (by omega)]; exact m2
    · show ua A 9 (nI v) (11 + 18 * m + 3) = _
      rw [ua_ne (by omega), us_row (by omega)]; exact m3
    · rw [us_row (by omega)] at hi
      show ua A 9 (nI v) (11 + 18 * m + (4 + i)) = _
      rw [ua_ne (by omega), us_row (by omega)]; exact m4 i hi
    · rw [ua_ne (by omega), us_row (by omega)]; exact m5
    · rw [ua_ne (by omega), us_row (by omega)]; exact m6
theorem nxt_b (x : Nat) : nxt x < 30557 := Nat.mod_lt _ (by omega)
theorem draw_c (hw : WR τ b w) (hx : w 0 2 < 30557) : g_X9_draw N b τ = some (nI (w 0 2 % 10), setI τ b 2 (nI (nxt (w 0 2)))) := by
  have e : τ.1 b 2 = nI (w 0 2) := hw 0 2 (by omega)
  unfold g_X9_draw g_X9_draw_0 g_X9_renewX g_X9_renewX_0 nxt
  simp (disch := omega) only [k_0, k_1, k_2, k_3, k_4, k_5, k_6, k_7, k_8, k_9, k_10, k_11, k_12, k_13, k_14, k_15, k_16, k_17, k_18, k_19, k_20, k_21, k_22, k_23, k_24, k_25, k_26, k_27, k_28, k_29, k_30, k_31, k_32, k_33, k_34, k_35, k_36, k_37, k_38, k_39, k_40, k_41, k_42, k_43, k_44, k_45, k_46, k_47, k_48, k_49, k_50, k_51, k_52, k_53, k_54, k_55, k_56, k_57, k_58, k_59, k_60, k_61, k_62, k_63, k_64, k_65, k_66, k_67, k_68, k_69, k_70, k_71, k_72, k_73, k_74, k_75, k_76, k_77, k_78, k_79, k_80, k_81, k_82, k_83, k_84, k_85, k_86, k_87, k_88, k_89, k_90, k_91, k_92, k_93, k_94, k_95, k_96, k_97, k_98, k_99, k_100, k_101, k_102, k_103, k_104, k_105, k_106, k_107, k_108, k_109, k_110, k_111, k_112, k_113, k_114, k_115, k_116, k_117, k_118, k_119, k_120, k_121, k_122, k_123, k_124, k_125, k_126, k_127, k_128, k_129, k_130, k_133, k_144, k_145, k_153, k_193, k_203, k_211, k_227, k_255, k_256, k_280, k_300, k_313, k_371, k_433, k_705, k_997, k_999, k_1000, k_4176, k_4547, k_9999, k_10000, k_30557, k_99999, k_1000000, k_1000000000, nI_add, pk_mul, w_sub, w_rem, w_div, w_dv, w_rm, nI_leI, nI_ltI, nI_eq, w_em, w_me, w_lm, w_ml, w_lem, w_mle, bnd, Option.some.injEq, xI_n, yI_n, xL_n, yL_n, xP_n, xG_n, I_same, I_row, I_col, L_1, Q_1, R_same, R_row, if_pos, if_neg, ite_self, not_true, not_false, decide_true, decide_false, Nat.add_assoc, true_and, and_true, Nat.zero_add, Nat.add_zero, Nat.mul_zero, Nat.mul_one, Nat.one_mul, eq_self, decide_eq_true, decide_eq_false, Bool.true_eq_false, Bool.false_eq_true, ↓reduceIte, Nat.reduceAdd, Nat.reduceMul, Nat.reduceSub, Nat.reduceDiv, Nat.reduceMod, bb_t, bb_f, e]
theorem toI32 {n : Nat} (h : n < 2147483648) : Int64.toInt32 (lN n) = nI n := by
  rw [← nI_L h]
  apply Int32.toInt_inj.mp
  rw [Int64.toInt_toInt32, wdL, nI_toInt h, fb_bmod (by omega) (by omega)]
theorem anew_r (hA : RW (υ.1 643) w) (hx : w 0 2 < 30557) : g_X11_anew N 642 υ = some (setI υ 643 9 (nI (nxt (w 0 2)))) := by
  have e : xI 4607 υ (642 + 1) (nI 9) = some (nI (w 0 2)) := by
    rw [xI_n (by omega) (by omega)]
    exact congrArg some hA.2.2.1
  have l433 : (433 : Int64) = lN 433 := rfl
  have l313 : (313 : Int64) = lN 313 := rfl
  have l305 : (30557 : Int64) = lN 30557 := rfl
  have e1 := w_rmL (a := w 0 2 * 433 + 313) (d := 30557) (by omega) (by omega) (by omega)
  unfold rmL at e1
  rw [if_neg (by decide)] at e1
  have e1 : jremL (lN (w 0 2 * 433 + 313)) (lN 30557) = lN ((w 0 2 * 433 + 313) % 30557) := Option.some.inj e1
  have e2 : lN (w 0 2) * lN 433 = lN (w 0 2 * 433) := (Int64.ofNat_mul _ _).symm
  have e3 : lN (w 0 2 * 433) + lN 313 = lN (w 0 2 * 433 + 313) := (Int64.ofNat_add _ _).symm
  have hb := nxt_b (w 0 2)
  unfold nxt at hb ⊢
  unfold g_X11_anew g_X11_anew_0
  rw [k_9, e, bnd, l433, l313, l305, nI_L (by omega), e2, e3, e1, toI32 (by omega), yI_n (by omega) (by omega), bnd]
theorem drawn_r (hA : RW (υ.1 643) w) (hx : w 0 2 < 30557) : g_X11_drawn N 642 υ = some (nI (w 0 2 % 10), setI υ 643 9 (nI (nxt (w 0 2)))) := by
  have e : xI 4607 υ (642 + 1) (nI 9) = some (nI (w 0 2)) := by
    rw [xI_n (by omega) (by omega)]
    exact congrArg some hA.2.2.1
  unfold g_X11_drawn g_X11_drawn_0
  rw [k_9, e, bnd, anew_r hA hx, bnd, k_10, w_rem (by omega) (by omega) (by omega)]
theorem ww_02 (h : WFw w) {v : Nat} (hv : v < 30557) : WFw (us w 0 2 v) := by
  obtain ⟨h0, h1, h2, h3, h4, h5, h6, h7, h8, h9, h10, h11⟩ := h
  refine ⟨?_, ?_, ?_, ?_, fun m => ?_, fun m => ?_, fun m => ?_, fun m => ?_, fun m => ?_, fun m => ?_, fun m => ?_, fun m => ?_⟩
  · rw [us_col (by omega)]; exact h0
  · rw [us_col (by omega)]; exact h1
  · rw [us_same rfl rfl]; exact hv
  · rw [us_col (by omega)]; exact h3
  · rw [us_row (by omega)]; exact h4 m
  · rw [us_row (by omega)]; exact h5 m
  · rw [us_row (by omega)]; exact h6 m
  · rw [us_row (by omega)]; exact h7 m
  · rw [us_row (by omega)]; exact h8 m
  · rw [us_row (by omega)]; exact h9 m
  · rw [us_row (by omega)]; exact h10 m
  · rw [us_row (by omega), us_row (by omega), us_row (by omega), us_row (by omega)]; exact h11 m
theorem ww_7 (h : WFw w) {i v : Nat} (hv : v ≤ 9) : WFw (us w 7 i v) := by
  obtain ⟨h0, h1, h2, h3, h4, h5, h6, h7, h8, h9, h10, h11⟩ := h
  refine ⟨?_, ?_, ?_, ?_, fun m => ?_, fun m => ?_, fun m => ?_, fun m => ?_, fun m => ?_, fun m => ?_, fun m => ?_, fun m => ?_⟩
  · rw [us_row (by omega)]; exact h0
  · rw [us_row (by omega)]; exact h1
  · rw [us_row (by omega)]; exact h2
  · rw [us_row (by omega)]; exact h3
  · rw [us_row (by omega)]; exact h4 m
  · rw [us_row (by omega)]; exact h5 m
  · rw [us_row (by omega)]; exact h6 m
  · rw [us_row (by omega)]; exact h7 m
  · rw [us_row (by omega)]; exact h8 m
  · rw [us_row (by omega)]; exact h9 m
  · unfold us
    split
    · exact hv
    · exact h10 m
  · rw [us_row (by omega), us_row (by omega), us_row (by omega), us_row (by omega)]; exact h11 m
theorem pdg_w (h : WFw w) {m d : Nat} (hd : d ≤ 9) : WFw (pdg w m d) := by
  unfold pdg
  split
  · exact ww_6 (ww_7 h hd) (by omega)
  · exact h
theorem pdg_q {m d : Nat} (h : Qr w w1 m) : Qr w (pdg w1 m d) m := by
  intro k i h1 h2 h3
  unfold pdg
  split
  · have e : us (us w1 7 (12 * m + w1 6 m) d) 6 m (w1 6 m + 1) k i = w1 k i := by
      refine Eq.trans (if_neg h3) ?_
      exact us_row h2
    rw [e]
    exact h k i h1 h2 h3
  · exact h k i h1 h2 h3
theorem rma_3 (h : Rma A w) (hc : w 0 0 ≤ 5) (hl9 : ∀ m, w 6 m ≤ 12) {m d : Nat} (hm : m < w 0 0) (hL : w 6 m < 12) : Rma (ua (ua A (11 + (18 * m + (4 + w 6 m))) (nI d)) (11 + (18 * m + 3)) (nI (w 6 m + 1))) (us (us w 7 (12 * m + w 6 m) d) 6 m (w 6 m + 1)) := by
  intro q hq
  rw [us_row (by omega), us_row (by omega)] at hq
  have hq5 : q < 5 := by omega
  obtain ⟨⟨m0, m1, m2, m3, m4⟩, m5, m6⟩ := h q hq
  dsimp only at m0 m1 m2 m3 m4
  have hl := hl9 q
  refine ⟨⟨?_, ?_, ?_, ?_, fun i hi => ?_⟩, ?_, ?_⟩
  · show ua _ _ _ (11 + 18 * q + 0) = _
    rw [ua_ne (by omega), ua_ne (by omega), us_row (by omega), us_row (by omega)]; exact m0
  · show ua _ _ _ (11 + 18 * q + 1) = _
    rw [ua_ne (by omega), ua_ne (by omega), us_row (by omega), us_row (by omega)]; exact m1
  · show ua _ _ _ (11 + 18 * q + 2) = _
    rw [ua_ne (by omega), ua_ne (by omega), us_row (by omega), us_row (by omega)]; exact m2
  · show ua _ _ _ (11 + 18 * q + 3) = _
    by_cases e : q = m
    · rw [ua_same (by omega), us_same rfl e]
    · rw [ua_ne (by omega), ua_ne (by omega), us_col e, us_row (by omega)]; exact m3
  · show ua _ _ _ (11 + 18 * q + (4 + i)) = _
    by_cases e : q = m
    · subst e
      rw [us_same rfl rfl] at hi
      rw [us_row (by omega)]
      by_cases e2 : i = w 6 q
      · rw [ua_ne (by omega), ua_same (by omega), us_same rfl (by omega)]
      · rw [ua_ne (by omega), ua_ne (by omega), us_col (by omega)]
        exact m4 i (by omega)
    · rw [us_col e, us_row (by omega)] at hi
      rw [ua_ne (by omega), ua_ne (by omega), us_row (by omega), us_col (by omega)]
      exact m4 i hi
  · show ua _ _ _ (27 + 18 * q) = _
    rw [ua_ne (by omega), ua_ne (by omega), us_row (by omega), us_row (by omega)]; exact m5
  · show ua _ _ _ (28 + 18 * q) = _
    rw [ua_ne (by omega), ua_ne (by omega), us_row (by omega), us_row (by omega)]; exact m6
theorem pd_c (h : CW b τ0 τ w) (hW : WFw w) {m d : Nat} (hm : m < 5) : ∃ τ', g_X9_printDigit N b (nI m) (nI d) τ = some τ' ∧ CW b τ0 τ' (pdg w m d) := by
  have hl := hW.l m
  have e6 : τ.1 (b + 6) m = nI (w 6 m) := h.1 6 m (by omega)
  unfold g_X9_printDigit g_X9_printDigit_0 pdg
  by_cases c : w 6 m < 12
  · rw [if_pos c]
    refine ⟨_, ?_, (h.set (k := 7) (by omega)).set (k := 6) (by omega)⟩
    have e12 : m * 12 = 12 * m := by omega
    simp (disch := omega) only [k_0, k_1, k_2, k_3, k_4, k_5, k_6, k_7, k_8, k_9, k_10, k_11, k_12, k_13, k_14, k_15, k_16, k_17, k_18, k_19, k_20, k_21, k_22, k_23, k_24, k_25, k_26, k_27, k_28, k_29, k_30, k_31, k_32, k_33, k_34, k_35, k_36, k_37, k_38, k_39, k_40, k_41, k_42, k_43, k_44, k_45, k_46, k_47, k_48, k_49, k_50, k_51, k_52, k_53, k_54, k_55, k_56, k_57, k_58, k_59, k_60, k_61, k_62, k_63, k_64, k_65, k_66, k_67, k_68, k_69, k_70, k_71, k_72, k_73, k_74, k_75, k_76, k_77, k_78, k_79, k_80, k_81, k_82, k_83, k_84, k_85, k_86, k_87, k_88, k_89, k_90, k_91, k_92, k_93, k_94, k_95, k_96, k_97, k_98, k_99, k_100, k_101, k_102, k_103, k_104, k_105, k_106, k_107, k_108, k_109, k_110, k_111, k_112, k_113, k_114, k_115, k_116, k_117, k_118, k_119, k_120, k_121, k_122, k_123, k_124, k_125, k_126, k_127, k_128, k_129, k_130, k_133, k_144, k_145, k_153, k_193, k_203, k_211, k_227, k_255, k_256, k_280, k_300, k_313, k_371, k_433, k_705, k_997, k_999, k_1000, k_4176, k_4547, k_9999, k_10000, k_30557, k_99999, k_1000000, k_1000000000, nI_add, pk_mul, w_sub, w_rem, w_div, w_dv, w_rm, nI_leI, nI_ltI, nI_eq, w_em, w_me, w_lm, w_ml, w_lem, w_mle, bnd, Option.some.injEq, xI_n, yI_n, xL_n, yL_n, xP_n, xG_n, I_same, I_row, I_col, L_1, Q_1, R_same, R_row, if_pos, if_neg, ite_self, not_true, not_false, decide_true, decide_false, Nat.add_assoc, true_and, and_true, Nat.zero_add, Nat.add_zero, Nat.mul_zero, Nat.mul_one, Nat.one_mul, eq_self, decide_eq_true, decide_eq_false, Bool.true_eq_false, Bool.false_eq_true, ↓reduceIte, Nat.reduceAdd, Nat.reduceMul, Nat.reduceSub, Nat.reduceDiv, Nat.reduceMod, bb_t, bb_f, e6, wi10, in_t, e12]
  · rw [if_neg c]
    refine ⟨τ, ?_, h⟩
    have e : decide (nI 0 ≤ nI (w 6 m) ∧ nI (w 6 m) ≤ nI 11) = false := decide_eq_false (fun q => nI_ge (by omega) (by omega) q.2)
    rw [k_0, k_11, xI_n hm (by omega), e6, bnd, wi10, e, bnd, if_pos rfl]
end ROL
