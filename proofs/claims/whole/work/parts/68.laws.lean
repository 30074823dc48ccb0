/-! texts on both sides; the three laws -/
def rk (k : Nat) : Nat := if k = 7 then 8 else if k = 8 then 7 else k
def lawOk (N : Mem) (R : Nat → Int32) (u2 u3 nO nC : Nat) (O P ck : Nat → Nat) (l : Nat) : Prop := ((∀ k, k < nC → ck k ≠ l) ∧ rI N u2 (nI l) = some (-nI 1)) ∨ (∃ k F T a b C D, k < nC ∧ ck k = l ∧ (∀ q, q < k → ck q ≠ l) ∧ rI N u2 (nI l) = some (nI F) ∧ rI N u3 (nI l) = some (nI T) ∧ F ≤ T ∧ T ≤ nO ∧ R (1 + (4 * k + 1)) = nI a ∧ R (1 + (4 * k + 2)) = nI b ∧ b ≤ 303 ∧ (∀ q, a ≤ q → q < b → R (97 + 2 * q) = nI (C q) ∧ R (97 + (2 * q + 1)) = nI (D q) ∧ C q ≤ 22 ∧ D q ≤ 9999 ∧ (C q = 1 → D q < 8)) ∧ VL O P C D F T a b)
def clOk (N : Mem) (R : Nat → Int32) (u4 : Nat) (k c : Nat) : Prop := c ≤ 9 ∧ R (1 + 4 * k) = nI (rk c) ∧ rI N u4 (nI (3 * k)) = some (nI c) ∧ ∃ x y, rI N u4 (nI (3 * k + 1)) = some x ∧ rI N u4 (nI (3 * k + 2)) = some y ∧ (3 ≤ c → R (1 + (4 * k + 1)) = x ∧ ∃ v, v ≤ 9999 ∧ x = nI v ∧ (c = 9 → 1 ≤ v ∧ v ≤ 60)) ∧ (3 ≤ c → c ≠ 7 → c ≠ 9 → R (1 + (4 * k + 2)) = y ∧ ∃ v, v ≤ 9999 ∧ y = nI v)
def TR (N : Mem) (t : Nat) (R : Nat → Int32) : Prop := ∃ u0 u1 u2 u3 u4 nO nC O P ck, isOb N 8 t = true ∧ gR N 8 t 0 = some u0 ∧ gR N 8 t 1 = some u1 ∧ gR N 8 t 2 = some u2 ∧ gR N 8 t 3 = some u3 ∧ gR N 8 t 4 = some u4 ∧ gI N 8 t 5 = some (nI nC) ∧ lnA N u0 = some (nI nO) ∧ lnA N u2 = some (nI 3) ∧ lnA N u4 = some (nI (3 * nC)) ∧ nO ≤ 300 ∧ nC ≤ 24 ∧ R 0 = nI nC ∧ (∀ i, i < nO → rI N u0 (nI i) = some (nI (O i)) ∧ rI N u1 (nI i) = some (nI (P i)) ∧ O i ≤ 43 ∧ P i ≤ 9999) ∧ (∀ k, k < nC → clOk N R u4 k (ck k)) ∧ ∀ l, l < 3 → lawOk N R u2 u3 nO nC O P ck l
def TXO (N : Mem) (υ : ST) (o : Option Nat) (X : Int32) : Prop := (o = none ∧ X = -nI 1) ∨ ∃ t j, o = some t ∧ X = nI j ∧ j < 4 ∧ TR N t (fun i => υ.1 645 (705 * j + i))
def BF (υ υ' : ST) : Prop := (∀ a j, a ≠ 648 → a ≠ 650 → υ'.1 a j = υ.1 a j) ∧ (∀ a j, a ≠ 649 → υ'.2.1 a j = υ.2.1 a j) ∧ υ'.2.2 = υ.2.2
def RW (A : Nat → Int32) (w : SS) : Prop := A 0 = nI (w 0 0) ∧ A 8 = nI (w 0 1) ∧ A 9 = nI (w 0 2) ∧ Rma A w
def RW0 (A : Nat → Int32) (w : SS) : Prop := A 0 = nI (w 0 0) ∧ A 8 = nI (w 0 1) ∧ Rma A w
theorem RW.r0 {A : Nat → Int32} {w : SS} (h : RW A w) : RW0 A w := ⟨h.1, h.2.1, h.2.2.2⟩
section LAW
variable {N : Mem} {σ τ τ' υ υ' υ0 : ST} {w : SS} {f : Nat → Nat} {A A' : Nat → Int32}
theorem BF.rfl : BF υ υ := ⟨fun _ _ _ _ => Eq.refl _, fun _ _ _ => Eq.refl _, Eq.refl _⟩
theorem BF.t (h1 : BF σ υ) (h2 : BF υ υ') : BF σ υ' := ⟨fun a j q r => (h2.1 a j q r).trans (h1.1 a j q r), fun a j q => (h2.2.1 a j q).trans (h1.2.1 a j q), h2.2.2.trans h1.2.2⟩
theorem BG.bf (h : BG υ υ') : BF υ υ' := ⟨fun a j _ q => h.1 a j q, h.2.1, h.2.2⟩
theorem BF.ref (h : BF υ υ') : υ'.1 643 = υ.1 643 := funext fun i => h.1 _ _ (by omega) (by omega)
theorem BF.tx (h : BF υ υ') {o : Option Nat} {X : Int32} (hT : TXO N υ o X) : TXO N υ' o X := by
  rcases hT with h1 | ⟨t, j, h1, h2, h3, h4⟩
  · exact Or.inl h1
  · refine Or.inr ⟨t, j, h1, h2, h3, ?_⟩
    have e : (fun i => υ'.1 645 (705 * j + i)) = fun i => υ.1 645 (705 * j + i) := funext fun i => h.1 _ _ (by omega) (by omega)
    rw [e]
    exact h4
theorem BF.sr (h : BF υ υ') : SR υ υ' := ⟨fun a i ha => h.1 a i (by omega) (by omega), h.2.2⟩
theorem cut_n (x : Int32) {top : Nat} (h : top ≤ 99) : ∃ v, v ≤ top ∧ jmax 0 (jmin (nI top) x) = nI v ∧ f_X11_cut x.toInt64 0 (nI top) = some (nI v) := by
  have e0 : (0 : Int32) = nI 0 := rfl
  unfold f_X11_cut f_X11_cut_0
  by_cases c : 0 ≤ x
  · rw [if_pos ((lg_cmp_ge _ _).mpr ((wd_le _ _).mpr c))]
    by_cases c2 : x ≤ nI top
    · obtain ⟨v, hv, rfl⟩ := nI_of2 (M := nI top) (nI_toInt (by omega)) (x := x) (Int32.not_lt.mpr c) c2
      refine ⟨v, hv, ?_, ?_⟩
      · rw [jmin_n (by omega) (by omega), e0, jmax_n (by omega) (by omega), show max 0 (min top v) = v by omega]
      · rw [if_pos ((lg_cmp_le _ _).mpr ((wd_le _ _).mpr c2))]
        congr 1
        apply Int32.toInt_inj.mp
        rw [Int64.toInt_toInt32, wdL, nI_toInt (by omega), fb_bmod (by omega) (by omega)]
    · refine ⟨top, Nat.le_refl _, ?_, ?_⟩
      · have e : jmin (nI top) x = nI top := by
          rw [jmin_le, if_pos (Int32.le_of_lt (Int32.not_le.mp c2))]
        rw [e, e0, jmax_n (by omega) (by omega), show max 0 top = top by omega]
      · rw [if_neg (fun q => c2 ((wd_le _ _).mp ((lg_cmp_le _ _).mp q)))]
  · refine ⟨0, Nat.zero_le _, ?_, ?_⟩
    · have c3 : x < 0 := Int32.not_le.mp c
      have ht : ¬ nI top ≤ x := fun q => c (Int32.le_trans (nI_le (Nat.zero_le _) (by omega)) q)
      rw [jmin_le, if_neg ht]
      unfold jmax
      rw [if_neg (fun q => Int32.lt_irrefl (Int32.lt_trans q c3))]
      exact e0
    · rw [if_neg (fun q => c ((wd_le _ _).mp ((lg_cmp_ge _ _).mp q)))]
      exact congrArg some e0
theorem enw_b (hW : WFw w) {m : Nat} (hm : m < 5) (i : Nat) : enw w m i ≤ 9999 := by
  obtain ⟨b1, b2, b3, b4, b5, b6⟩ := hW.fld m
  have b0 : w 0 1 ≤ 9999 := hW.2.1
  unfold enw
  repeat' split
  all_goals omega
theorem suw_b (hW : WFw w) (x : Int) : suw w x ≤ 9999 := by
  unfold suw
  split
  · exact (hW.fld _).2.2.2.2.1
  · omega
theorem gd_w (hW : WFw w) {m : Nat} (hm : m < 5) : Gd (enw w m) (suw w) := ⟨enw_b hW hm, suw_b hW⟩
theorem name_r (hA : RW0 (υ.1 643) w) (hW : WFw w) {m : Nat} (hm : m < w 0 0) : ∃ υ', g_X11_name N 642 (nI m) υ = some υ' ∧ NW υ' w (enw w m) ∧ BF υ υ' := by
  obtain ⟨a0, a8, ma⟩ := hA
  have hc : w 0 0 ≤ 5 := hW.1
  obtain ⟨⟨m0, m1, m2, m3, -⟩, m16, m17⟩ := ma m hm
  dsimp only at m0 m1 m2 m3
  obtain ⟨b1, b2, b3, b4, b5, b6⟩ := hW.fld m
  have hd := dc_b (w 5 m)
  have f0 : υ.1 643 (11 + 18 * m) = nI (w 3 m) := m0
  have f1 : υ.1 643 (11 + (18 * m + 1)) = nI (w 4 m) := by rw [← Nat.add_assoc]; exact m1
  have f2 : υ.1 643 (11 + (18 * m + 2)) = nI (w 5 m) := by rw [← Nat.add_assoc]; exact m2
  have f3 : υ.1 643 (11 + (18 * m + 3)) = nI (w 6 m) := by rw [← Nat.add_assoc]; exact m3
  have f16 : υ.1 643 (11 + (18 * m + 16)) = nI (w 1 m) := by rw [show 11 + (18 * m + 16) = 27 + 18 * m by omega]; exact m16
  have key : ∀ z, (w 6 m = dc (w 5 m) → z = 1) → (w 6 m ≠ dc (w 5 m) → z = 0) → NW (setI (setI (setI (setI (setI (setI (setI (setI υ 648 0 (nI (w 0 1))) 648 1 (nI (w 1 m))) 648 2 (nI (w 3 m))) 648 3 (nI (w 4 m))) 648 4 (nI (w 5 m))) 648 5 (nI m)) 648 6 (nI (w 6 m))) 648 7 (nI z)) w (enw w m) ∧ BF υ (setI (setI (setI (setI (setI (setI (setI (setI υ 648 0 (nI (w 0 1))) 648 1 (nI (w 1 m))) 648 2 (nI (w 3 m))) 648 3 (nI (w 4 m))) 648 4 (nI (w 5 m))) 648 5 (nI m)) 648 6 (nI (w 6 m))) 648 7 (nI z)) := by
    intro z hz1 hz0
    refine ⟨⟨fun i hi => ?_, ?_, fun q hq => ?_⟩, ⟨fun a j q1 q2 => ?_, fun _ _ _ => rfl, rfl⟩⟩
    · obtain rfl | rfl | rfl | rfl | rfl | rfl | rfl | rfl : i = 0 ∨ i = 1 ∨ i = 2 ∨ i = 3 ∨ i = 4 ∨ i = 5 ∨ i = 6 ∨ i = 7 := by omega
      all_goals simp (disch := omega) only [I_same, I_col]
      all_goals unfold enw
      · rfl
      · rfl
      · rfl
      · rfl
      · rfl
      · rfl
      · rfl
      · by_cases c : w 6 m = dc (w 5 m)
        · rw [hz1 c]
          simp [c]
        · rw [hz0 c]
          simp [c]
    · simp (disch := omega) only [I_row]
      exact a0
    · simp (disch := omega) only [I_row]
      obtain ⟨⟨-, -, m2, -, -⟩, -, -⟩ := ma q hq
      dsimp only at m2
      rw [← Nat.add_assoc]
      exact m2
    · simp (disch := omega) only [I_row]
  unfold g_X11_name g_X11_name_0 g_X11_get g_X11_get_0
  by_cases c : w 6 m = dc (w 5 m)
  · obtain ⟨k1, k2⟩ := key 1 (fun _ => rfl) (fun q => absurd c q)
    refine ⟨_, ?_, k1, k2⟩
    simp (disch := omega) only [k_0, k_1, k_2, k_3, k_4, k_5, k_6, k_7, k_8, k_9, k_10, k_11, k_12, k_13, k_14, k_15, k_16, k_17, k_18, k_19, k_20, k_21, k_22, k_23, k_24, k_25, k_26, k_27, k_28, k_29, k_30, k_31, k_32, k_33, k_34, k_35, k_36, k_37, k_38, k_39, k_40, k_41, k_42, k_43, k_44, k_45, k_46, k_47, k_48, k_49, k_50, k_51, k_52, k_53, k_54, k_55, k_56, k_57, k_58, k_59, k_60, k_61, k_62, k_63, k_64, k_65, k_66, k_67, k_68, k_69, k_70, k_71, k_72, k_73, k_74, k_75, k_76, k_77, k_78, k_79, k_80, k_81, k_82, k_83, k_84, k_85, k_86, k_87, k_88, k_89, k_90, k_91, k_92, k_93, k_94, k_95, k_96, k_97, k_98, k_99, k_100, k_101, k_102, k_103, k_104, k_105, k_106, k_107, k_108, k_109, k_110, k_111, k_112, k_113, k_114, k_115, k_116, k_117, k_118, k_119, k_120, k_121, k_122, k_123, k_124, k_125, k_126, k_127, k_128, k_129, k_130, k_133, k_144, k_145, k_153, k_193, k_203, k_211, k_227, k_255, k_256, k_280, k_300, k_313, k_371, k_433, k_705, k_997, k_999, k_1000, k_4176, k_4547, k_9999, k_10000, k_30557, k_99999, k_1000000, k_1000000000, nI_add, pk_mul, w_sub, w_rem, w_div, w_dv, w_rm, nI_leI, nI_ltI, nI_eq, w_em, w_me, w_lm, w_ml, w_lem, w_mle, bnd, Option.some.injEq, xI_n, yI_n, xL_n, yL_n, xP_n, xG_n, I_same, I_row, I_col, L_1, Q_1, R_same, R_row, if_pos, if_neg, ite_self, not_true, not_false, decide_true, decide_false, Nat.add_assoc, true_and, and_true, Nat.zero_add, Nat.add_zero, Nat.mul_zero, Nat.mul_one, Nat.one_mul, eq_self, decide_eq_true, decide_eq_false, Bool.true_eq_false, Bool.false_eq_true, ↓reduceIte, Nat.reduceAdd, Nat.reduceMul, Nat.reduceSub, Nat.reduceDiv, Nat.reduceMod, bb_t, bb_f, a8, f0, f1, f2, f3, f16, dc11, c]
  · obtain ⟨k1, k2⟩ := key 0 (fun q => absurd q c) (fun _ => rfl)
    refine ⟨_, ?_, k1, k2⟩
    simp (disch := omega) only [k_0, k_1, k_2, k_3, k_4, k_5, k_6, k_7, k_8, k_9, k_10, k_11, k_12, k_13, k_14, k_15, k_16, k_17, k_18, k_19, k_20, k_21, k_22, k_23, k_24, k_25, k_26, k_27, k_28, k_29, k_30, k_31, k_32, k_33, k_34, k_35, k_36, k_37, k_38, k_39, k_40, k_41, k_42, k_43, k_44, k_45, k_46, k_47, k_48, k_49, k_50, k_51, k_52, k_53, k_54, k_55, k_56, k_57, k_58, k_59, k_60, k_61, k_62, k_63, k_64, k_65, k_66, k_67, k_68, k_69, k_70, k_71, k_72, k_73, k_74, k_75, k_76, k_77, k_78, k_79, k_80, k_81, k_82, k_83, k_84, k_85, k_86, k_87, k_88, k_89, k_90, k_91, k_92, k_93, k_94, k_95, k_96, k_97, k_98, k_99, k_100, k_101, k_102, k_103, k_104, k_105, k_106, k_107, k_108, k_109, k_110, k_111, k_112, k_113, k_114, k_115, k_116, k_117, k_118, k_119, k_120, k_121, k_122, k_123, k_124, k_125, k_126, k_127, k_128, k_129, k_130, k_133, k_144, k_145, k_153, k_193, k_203, k_211, k_227, k_255, k_256, k_280, k_300, k_313, k_371, k_433, k_705, k_997, k_999, k_1000, k_4176, k_4547, k_9999, k_10000, k_30557, k_99999, k_1000000, k_1000000000, nI_add, pk_mul, w_sub, w_rem, w_div, w_dv, w_rm, nI_leI, nI_ltI, nI_eq, w_em, w_me, w_lm, w_ml, w_lem, w_mle, bnd, Option.some.injEq, xI_n, yI_n, xL_n, yL_n, xP_n, xG_n, I_same, I_row, I_col, L_1, Q_1, R_same, R_row, if_pos, if_neg, ite_self, not_true, not_false, decide_true, decide_false, Nat.add_assoc, true_and, and_true, Nat.zero_add, Nat.add_zero, Nat.mul_zero, Nat.mul_one, Nat.one_mul, eq_self, decide_eq_true, decide_eq_false, Bool.true_eq_false, Bool.false_eq_true, ↓reduceIte, Nat.reduceAdd, Nat.reduceMul, Nat.reduceSub, Nat.reduceDiv, Nat.reduceMod, bb_t, bb_f, a8, f0, f1, f2, f3, f16, dc11, c]
/-- a law that a text has, or not -/
theorem law_e {t j l b m : Nat} (hj : j < 4) (hT : TR N t (fun i => υ.1 645 (705 * j + i))) (hl : l < 3) (hb : b + 9 ≤ 601 ∨ 603 ≤ b) (hw : WR τ b w) (hW : WFw w) (hm : m < 5) (hN : NW υ w (enw w m)) : (f_X8_hasLaw t (nI l) N = some false ∧ ∀ X Y, g_X11_says N 642 (nI j) (nI l) X Y υ = (f_X11_cut X.toInt64 0 Y).bind fun v => some (v, υ)) ∨ (f_X8_hasLaw t (nI l) N = some true ∧ ∃ x τ' υ', g_X0_asked N 601 (some t) (nI l) b (nI m) τ = some (x, τ') ∧ AF τ τ' ∧ BF υ υ' ∧ ∀ X Y, g_X11_says N 642 (nI j) (nI l) X Y υ = (f_X11_cut x.toInt64 0 Y).bind fun v => some (v, υ')) := by
  obtain ⟨u0, u1, u2, u3, u4, nO, nC, O, P, ck, hob, g0, g1, g2, g3, g4, g5, n0, n2, n4, hnO, hnC, hR0, hO, hcl, hlw⟩ := hT
  have hR0 : υ.1 645 (705 * j + 0) = nI nC := hR0
  rw [Nat.add_zero] at hR0
  have hck : ∀ k, k < nC → ck k ≤ 9 ∧ υ.1 645 (705 * j + (1 + 4 * k)) = nI (rk (ck k)) := fun k hk => ⟨(hcl k hk).1, (hcl k hk).2.1⟩
  have hne : ∀ k, k < nC → ck k ≠ l → ¬ nI (rk (ck k)) = nI l := by
    intro k hk h1 h2
    have h9 := (hck k hk).1
    have hb9 : rk (ck k) ≤ 9 := by
      unfold rk
      repeat' split
      all_goals omega
    have h3 := (nI_eq (by omega) (by omega)).mp h2
    unfold rk at h3
    repeat' split at h3
    all_goals omega
  have skip : ∀ (X Y : Int32) (d k n : Nat), (∀ q, q < k + d → q < nC) → (∀ q, k ≤ q → q < k + d → ck q ≠ l) → g_X11_says_3 N (n + d) 642 (nI j) (nI l) X Y (nI k) υ = g_X11_says_3 N n 642 (nI j) (nI l) X Y (nI (k + d)) υ := by
    intro X Y d
    induction d with
    | zero => intro k n _ _; rfl
    | succ d ih =>
      intro k n h1 h2
      have hk : k < nC := h1 k (by omega)
      have h3 := (hck k hk).2
      have h4 := hne k hk (h2 k (by omega) (by omega))
      have h9 := (hck k hk).1
      have hb9 : rk (ck k) ≤ 9 := by
        unfold rk
        repeat' split
        all_goals omega
      rw [show n + (d + 1) = n + d + 1 by omega, g_X11_says_3, show k + (d + 1) = k + 1 + d by omega, ← ih (k + 1) n (fun q hq => h1 q (by omega)) (fun q q1 q2 => h2 q (by omega) (by omega))]
      simp (disch := omega) only [k_0, k_1, k_2, k_3, k_4, k_5, k_6, k_7, k_8, k_9, k_10, k_11, k_12, k_13, k_14, k_15, k_16, k_17, k_18, k_19, k_20, k_21, k_22, k_23, k_24, k_25, k_26, k_27, k_28, k_29, k_30, k_31, k_32, k_33, k_34, k_35, k_36, k_37, k_38, k_39, k_40, k_41, k_42, k_43, k_44, k_45, k_46, k_47, k_48, k_49, k_50, k_51, k_52, k_53, k_54, k_55, k_56, k_57, k_58, k_59, k_60, k_61, k_62, k_63, k_64, k_65, k_66, k_67, k_68, k_69, k_70, k_71, k_72, k_73, k_74, k_75, k_76, k_77, k_78, k_79, k_80, k_81, k_82, k_83, k_84, k_85, k_86, k_87, k_88, k_89, k_90, k_91, k_92, k_93, k_94, k_95, k_96, k_97, k_98, k_99, k_100, k_101, k_102, k_103, k_104, k_105, k_106, k_107, k_108, k_109, k_110, k_111, k_112, k_113, k_114, k_115, k_116, k_117, k_118, k_119, k_120, k_121, k_122, k_123, k_124, k_125, k_126, k_127, k_128, k_129, k_130, k_133, k_144, k_145, k_153, k_193, k_203, k_211, k_227, k_255, k_256, k_280, k_300, k_313, k_371, k_433, k_705, k_997, k_999, k_1000, k_4176, k_4547, k_9999, k_10000, k_30557, k_99999, k_1000000, k_1000000000, nI_add, pk_mul, w_sub, w_rem, w_div, w_dv, w_rm, nI_leI, nI_ltI, nI_eq, w_em, w_me, w_lm, w_ml, w_lem, w_mle, bnd, Option.some.injEq, xI_n, yI_n, xL_n, yL_n, xP_n, xG_n, I_same, I_row, I_col, L_1, Q_1, R_same, R_row, if_pos, if_neg, ite_self, not_true, not_false, decide_true, decide_false, Nat.add_assoc, true_and, and_true, Nat.zero_add, Nat.add_zero, Nat.mul_zero, Nat.mul_one, Nat.one_mul, eq_self, decide_eq_true, decide_eq_false, Bool.true_eq_false, Bool.false_eq_true, ↓reduceIte, Nat.reduceAdd, Nat.reduceMul, Nat.reduceSub, Nat.reduceDiv, Nat.reduceMod, bb_t, bb_f, hR0, h3, h4]
  rcases hlw l hl with ⟨h1, h2⟩ | ⟨k, F, T, a, b', C, D, h1, h2, h3, h4, h5, h6, h7, h8, h9, h10, h11, h12⟩
  · left
    refine ⟨?_, fun X Y => ?_⟩
    · unfold f_X8_hasLaw f_X8_hasLaw_0
      have em : (-nI 1 < nI 0) = True := eq_true (by decide)
      rw [if_pos hob]
      simp (disch := omega) only [k_0, k_1, k_2, k_3, k_4, k_5, k_6, k_7, k_8, k_9, k_10, k_11, k_12, k_13, k_14, k_15, k_16, k_17, k_18, k_19, k_20, k_21, k_22, k_23, k_24, k_25, k_26, k_27, k_28, k_29, k_30, k_31, k_32, k_33, k_34, k_35, k_36, k_37, k_38, k_39, k_40, k_41, k_42, k_43, k_44, k_45, k_46, k_47, k_48, k_49, k_50, k_51, k_52, k_53, k_54, k_55, k_56, k_57, k_58, k_59, k_60, k_61, k_62, k_63, k_64, k_65, k_66, k_67, k_68, k_69, k_70, k_71, k_72, k_73, k_74, k_75, k_76, k_77, k_78, k_79, k_80, k_81, k_82, k_83, k_84, k_85, k_86, k_87, k_88, k_89, k_90, k_91, k_92, k_93, k_94, k_95, k_96, k_97, k_98, k_99, k_100, k_101, k_102, k_103, k_104, k_105, k_106, k_107, k_108, k_109, k_110, k_111, k_112, k_113, k_114, k_115, k_116, k_117, k_118, k_119, k_120, k_121, k_122, k_123, k_124, k_125, k_126, k_127, k_128, k_129, k_130, k_133, k_144, k_145, k_153, k_193, k_203, k_211, k_227, k_255, k_256, k_280, k_300, k_313, k_371, k_433, k_705, k_997, k_999, k_1000, k_4176, k_4547, k_9999, k_10000, k_30557, k_99999, k_1000000, k_1000000000, nI_add, pk_mul, w_sub, w_rem, w_div, w_dv, w_rm, nI_leI, nI_ltI, nI_eq, w_em, w_me, w_lm, w_ml, w_lem, w_mle, bnd, Option.some.injEq, xI_n, yI_n, xL_n, yL_n, xP_n, xG_n, I_same, I_row, I_col, L_1, Q_1, R_same, R_row, if_pos, if_neg, ite_self, not_true, not_false, decide_true, decide_false, Nat.add_assoc, true_and, and_true, Nat.zero_add, Nat.add_zero, Nat.mul_zero, Nat.mul_one, Nat.one_mul, eq_self, decide_eq_true, decide_eq_false, Bool.true_eq_false, Bool.false_eq_true, ↓reduceIte, Nat.reduceAdd, Nat.reduceMul, Nat.reduceSub, Nat.reduceDiv, Nat.reduceMod, bb_t, bb_f, g2, n2, h2, em]
    · unfold g_X11_says g_X11_says_0
      obtain ⟨z, hz⟩ : ∃ z, fu = z + 1 + nC := ⟨999999 - nC, by unfold fu; omega⟩
      rw [hz, k_0, skip X Y nC 0 (z + 1) (fun q hq => by omega) (fun q q1 q2 => h1 q (by omega)), Nat.zero_add, g_X11_says_3]
      simp (disch := omega) only [k_0, k_1, k_2, k_3, k_4, k_5, k_6, k_7, k_8, k_9, k_10, k_11, k_12, k_13, k_14, k_15, k_16, k_17, k_18, k_19, k_20, k_21, k_22, k_23, k_24, k_25, k_26, k_27, k_28, k_29, k_30, k_31, k_32, k_33, k_34, k_35, k_36, k_37, k_38, k_39, k_40, k_41, k_42, k_43, k_44, k_45, k_46, k_47, k_48, k_49, k_50, k_51, k_52, k_53, k_54, k_55, k_56, k_57, k_58, k_59, k_60, k_61, k_62, k_63, k_64, k_65, k_66, k_67, k_68, k_69, k_70, k_71, k_72, k_73, k_74, k_75, k_76, k_77, k_78, k_79, k_80, k_81, k_82, k_83, k_84, k_85, k_86, k_87, k_88, k_89, k_90, k_91, k_92, k_93, k_94, k_95, k_96, k_97, k_98, k_99, k_100, k_101, k_102, k_103, k_104, k_105, k_106, k_107, k_108, k_109, k_110, k_111, k_112, k_113, k_114, k_115, k_116, k_117, k_118, k_119, k_120, k_121, k_122, k_123, k_124, k_125, k_126, k_127, k_128, k_129, k_130, k_133, k_144, k_145, k_153, k_193, k_203, k_211, k_227, k_255, k_256, k_280, k_300, k_313, k_371, k_433, k_705, k_997, k_999, k_1000, k_4176, k_4547, k_9999, k_10000, k_30557, k_99999, k_1000000, k_1000000000, nI_add, pk_mul, w_sub, w_rem, w_div, w_dv, w_rm, nI_leI, nI_ltI, nI_eq, w_em, w_me, w_lm, w_ml, w_lem, w_mle, bnd, Option.some.injEq, xI_n, yI_n, xL_n, yL_n, xP_n, xG_n, I_same, I_row, I_col, L_1, Q_1, R_same, R_row, if_pos, if_neg, ite_self, not_true, not_false, decide_true, decide_false, Nat.add_assoc, true_and, and_true, Nat.zero_add, Nat.add_zero, Nat.mul_zero, Nat.mul_one, Nat.one_mul, eq_self, decide_eq_true, decide_eq_false, Bool.true_eq_false, Bool.false_eq_true, ↓reduceIte, Nat.reduceAdd, Nat.reduceMul, Nat.reduceSub, Nat.reduceDiv, Nat.reduceMod, bb_t, bb_f, hR0]
  · right
    have h8 : υ.1 645 (705 * j + (1 + (4 * k + 1))) = nI a := h8
    have h9 : υ.1 645 (705 * j + (1 + (4 * k + 2))) = nI b' := h9
    obtain ⟨x, hbx, hcx, hrx⟩ := h12 (enw w m) (suw w) (gd_w hW hm)
    obtain ⟨τ', q1, q2⟩ := asked_c (N := N) (nO := nO) ⟨u0, u1, g0, g1, hO⟩ ⟨u0, g0, n0⟩ hnO hb hW hm g2 g3 h4 h5 h6 h7 hw (hcx [])
    obtain ⟨υ', q3, q4⟩ := summed_r (N := N) (j := j) (c := k) (k0 := a) (l := b') hj (by omega) h10 (enw_b hW hm) hW (fun q r1 r2 => by
      obtain ⟨s1, s2, s3⟩ := h11 q r1 r2
      refine ⟨?_, ?_, s3⟩
      · rw [Nat.add_assoc]
        exact s1
      · rw [Nat.add_assoc]
        exact s2) h8 h9 hN (hrx [] [])
    refine ⟨?_, x, τ', υ', q1, q2, q4.bf, fun X Y => ?_⟩
    · unfold f_X8_hasLaw f_X8_hasLaw_0
      rw [if_pos hob]
      simp (disch := omega) only [k_0, k_1, k_2, k_3, k_4, k_5, k_6, k_7, k_8, k_9, k_10, k_11, k_12, k_13, k_14, k_15, k_16, k_17, k_18, k_19, k_20, k_21, k_22, k_23, k_24, k_25, k_26, k_27, k_28, k_29, k_30, k_31, k_32, k_33, k_34, k_35, k_36, k_37, k_38, k_39, k_40, k_41, k_42, k_43, k_44, k_45, k_46, k_47, k_48, k_49, k_50, k_51, k_52, k_53, k_54, k_55, k_56, k_57, k_58, k_59, k_60, k_61, k_62, k_63, k_64, k_65, k_66, k_67, k_68, k_69, k_70, k_71, k_72, k_73, k_74, k_75, k_76, k_77, k_78, k_79, k_80, k_81, k_82, k_83, k_84, k_85, k_86, k_87, k_88, k_89, k_90, k_91, k_92, k_93, k_94, k_95, k_96, k_97, k_98, k_99, k_100, k_101, k_102, k_103, k_104, k_105, k_106, k_107, k_108, k_109, k_110, k_111, k_112, k_113, k_114, k_115, k_116, k_117, k_118, k_119, k_120, k_121, k_122, k_123, k_124, k_125, k_126, k_127, k_128, k_129, k_130, k_133, k_144, k_145, k_153, k_193, k_203, k_211, k_227, k_255, k_256, k_280, k_300, k_313, k_371, k_433, k_705, k_997, k_999, k_1000, k_4176, k_4547, k_9999, k_10000, k_30557, k_99999, k_1000000, k_1000000000, nI_add, pk_mul, w_sub, w_rem, w_div, w_dv, w_rm, nI_leI, nI_ltI, nI_eq, w_em, w_me, w_lm, w_ml, w_lem, w_mle, bnd, Option.some.injEq, xI_n, yI_n, xL_n, yL_n, xP_n, xG_n, I_same, I_row, I_col, L_1, Q_1, R_same, R_row, if_pos, if_neg, ite_self, not_true, not_false, decide_true, decide_false, Nat.add_assoc, true_and, and_true, Nat.zero_add, Nat.add_zero, Nat.mul_zero, Nat.mul_one, Nat.one_mul, eq_self, decide_eq_true, decide_eq_false, Bool.true_eq_false, Bool.false_eq_true, ↓reduceIte, Nat.reduceAdd, Nat.reduceMul, Nat.reduceSub, Nat.reduceDiv, Nat.reduceMod, bb_t, bb_f, g2, n2, h4]
    · unfold g_X11_says g_X11_says_0
      obtain ⟨z, hz⟩ : ∃ z, fu = z + 1 + k := ⟨999999 - k, by unfold fu; omega⟩
      have h13 := (hck k h1).2
      rw [h2] at h13
      have erk : rk l = l := by
        unfold rk
        rw [if_neg (by omega), if_neg (by omega)]
      rw [erk] at h13
      rw [hz, k_0, skip X Y k 0 (z + 1) (fun q hq => by omega) (fun q q1 q2 => h3 q (by omega)), Nat.zero_add, g_X11_says_3]
      simp (disch := omega) only [k_0, k_1, k_2, k_3, k_4, k_5, k_6, k_7, k_8, k_9, k_10, k_11, k_12, k_13, k_14, k_15, k_16, k_17, k_18, k_19, k_20, k_21, k_22, k_23, k_24, k_25, k_26, k_27, k_28, k_29, k_30, k_31, k_32, k_33, k_34, k_35, k_36, k_37, k_38, k_39, k_40, k_41, k_42, k_43, k_44, k_45, k_46, k_47, k_48, k_49, k_50, k_51, k_52, k_53, k_54, k_55, k_56, k_57, k_58, k_59, k_60, k_61, k_62, k_63, k_64, k_65, k_66, k_67, k_68, k_69, k_70, k_71, k_72, k_73, k_74, k_75, k_76, k_77, k_78, k_79, k_80, k_81, k_82, k_83, k_84, k_85, k_86, k_87, k_88, k_89, k_90, k_91, k_92, k_93, k_94, k_95, k_96, k_97, k_98, k_99, k_100, k_101, k_102, k_103, k_104, k_105, k_106, k_107, k_108, k_109, k_110, k_111, k_112, k_113, k_114, k_115, k_116, k_117, k_118, k_119, k_120, k_121, k_122, k_123, k_124, k_125, k_126, k_127, k_128, k_129, k_130, k_133, k_144, k_145, k_153, k_193, k_203, k_211, k_227, k_255, k_256, k_280, k_300, k_313, k_371, k_433, k_705, k_997, k_999, k_1000, k_4176, k_4547, k_9999, k_10000, k_30557, k_99999, k_1000000, k_1000000000, nI_add, pk_mul, w_sub, w_rem, w_div, w_dv, w_rm, nI_leI, nI_ltI, nI_eq, w_em, w_me, w_lm, w_ml, w_lem, w_mle, bnd, Option.some.injEq, xI_n, yI_n, xL_n, yL_n, xP_n, xG_n, I_same, I_row, I_col, L_1, Q_1, R_same, R_row, if_pos, if_neg, ite_self, not_true, not_false, decide_true, decide_false, Nat.add_assoc, true_and, and_true, Nat.zero_add, Nat.add_zero, Nat.mul_zero, Nat.mul_one, Nat.one_mul, eq_self, decide_eq_true, decide_eq_false, Bool.true_eq_false, Bool.false_eq_true, ↓reduceIte, Nat.reduceAdd, Nat.reduceMul, Nat.reduceSub, Nat.reduceDiv, Nat.reduceMod, bb_t, bb_f, hR0, h13, q3]
end LAW
