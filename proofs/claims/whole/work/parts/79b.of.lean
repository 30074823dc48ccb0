/-! of, whose -/
section OFF
variable {N : Mem} {σ τ υ υ0 : ST} {s s' : SS}
theorem AF.fc (h : AF σ τ) : FC σ τ := h.sc.fc
theorem AF.rc (h : AF σ τ) (hC : RC 1 σ s) : RC 1 τ s := h.sc.rc hC
theorem BF.fr (h : BF υ0 υ) : FR υ0 υ := h.sr.fr
theorem BF.rr (h : BF υ0 υ) (hR : RR (υ0.1 643) s) : RR (υ.1 643) s := by rw [h.ref]; exact hR
theorem of_ok (hC : RC 1 σ s) (hW : WFs s) (hX : RX N σ s σ) (x y : Int32) : OK1 σ s (g_X10_of N 0 x y) (g_X11_of N 642 x y) := by
  refine ok1_3 hX (fun υ0 hX0 => ?_)
  have hc : s 1 0 ≤ 5 := hW.1.1
  have hR := hX0.1
  rcases has9 (N := N) (c_1_0 hC) hc x with ⟨h, hne⟩ | ⟨m, hm, rfl, hT⟩
  · have h' : g_X9_has N (0 + 1 + 1) x σ = some false := h
    refine ⟨-nI 1, s, σ, υ0, ?_, ?_, hC, FC.rfl, hW, hR, FR.rfl, rfl⟩
    · unfold g_X10_of g_X10_of_0
      rw [h', bnd, if_neg (by decide), k_1]
    · unfold g_X11_of g_X11_of_0
      rw [isMF (N := N) (r_0 hR) hc hne, bnd, if_neg (by decide), k_1]
  have h' : g_X9_has N (0 + 1 + 1) (nI m) σ = some true := hT
  have hM := isMT (N := N) (r_0 hR) hc hm
  have hm5 : m < 5 := by omega
  obtain ⟨b2, b3, b4, b5, b6, b7⟩ := b_f hW m
  obtain ⟨o, o1, o2⟩ := the_t hC hW hR hX0.2.2
  have hA := (rv_of hR).1
  obtain ⟨g0, g1, g2, g3, g4⟩ := get_r (N := N) hA hc hm
  have q16 : g_X11_get N 642 (nI m) (nI 16) υ0 = some (nI (s 2 m)) := by
    obtain ⟨-, -, -, -, -, q5, -⟩ := q_m hR hm
    unfold g_X11_get g_X11_get_0
    simp (disch := omega) only [k_0, k_1, k_2, k_3, k_4, k_5, k_6, k_7, k_8, k_9, k_10, k_11, k_12, k_13, k_14, k_15, k_16, k_17, k_18, k_19, k_20, k_21, k_22, k_23, k_24, k_25, k_26, k_27, k_28, k_29, k_30, k_31, k_32, k_33, k_34, k_35, k_36, k_37, k_38, k_39, k_40, k_41, k_42, k_43, k_44, k_45, k_46, k_47, k_48, k_49, k_50, k_51, k_52, k_53, k_54, k_55, k_56, k_57, k_58, k_59, k_60, k_61, k_62, k_63, k_64, k_65, k_66, k_67, k_68, k_69, k_70, k_71, k_72, k_73, k_74, k_75, k_76, k_77, k_78, k_79, k_80, k_81, k_82, k_83, k_84, k_85, k_86, k_87, k_88, k_89, k_90, k_91, k_92, k_93, k_94, k_95, k_96, k_97, k_98, k_99, k_100, k_101, k_102, k_103, k_104, k_105, k_106, k_107, k_108, k_109, k_110, k_111, k_112, k_113, k_114, k_115, k_116, k_117, k_118, k_119, k_120, k_121, k_122, k_123, k_124, k_125, k_126, k_127, k_128, k_129, k_130, k_133, k_144, k_145, k_153, k_193, k_203, k_211, k_227, k_255, k_256, k_280, k_300, k_313, k_371, k_433, k_705, k_997, k_999, k_1000, k_4176, k_4547, k_9999, k_10000, k_30557, k_99999, k_1000000, k_1000000000, nI_add, pk_mul, w_sub, w_rem, w_div, w_dv, w_rm, nI_leI, nI_ltI, nI_eq, w_em, w_me, w_lm, w_ml, w_lem, w_mle, bnd, Option.some.injEq, xI_n, yI_n, xL_n, yL_n, xP_n, xG_n, I_same, I_row, I_col, L_1, Q_1, R_same, R_row, if_pos, if_neg, ite_self, not_true, not_false, decide_true, decide_false, Nat.add_assoc, true_and, and_true, Nat.zero_add, Nat.add_zero, Nat.mul_zero, Nat.mul_one, Nat.one_mul, eq_self, decide_eq_true, decide_eq_false, Bool.true_eq_false, Bool.false_eq_true, ↓reduceIte, Nat.reduceAdd, Nat.reduceMul, Nat.reduceSub, Nat.reduceDiv, Nat.reduceMod, bb_t, bb_f, q5]
  have x1 : ∀ k, k < 8 → xI 5 σ (0 + 1 + 1 + (1 + k)) (nI m) = some (nI (s (2 + k) m)) := by
    intro k hk
    rw [xI_n hm5 (by omega), show 0 + 1 + 1 + (1 + k) = 1 + (2 + k) by omega]
    exact congrArg some (hC.1 (2 + k) m (by omega) (by omega))
  have e2 : xI 4607 υ0 (642 + 1) (nI 2) = some (υ0.1 643 2) := xI_n (by omega) (by omega)
  have simple : ∀ v, g_X10_of N 0 (nI m) y σ = some (v, σ) → g_X11_of N 642 (nI m) y υ0 = some (v, υ0) → ∃ r s' τ υ, g_X10_of N 0 (nI m) y σ = some (r, τ) ∧ g_X11_of N 642 (nI m) y υ0 = some (r, υ) ∧ RC 1 τ s' ∧ FC σ τ ∧ WFs s' ∧ RR (υ.1 643) s' ∧ FR υ0 υ ∧ s' 0 5 = s 0 5 := fun v h1 h2 => ⟨v, s, σ, υ0, h1, h2, hC, FC.rfl, hW, hR, FR.rfl, rfl⟩
  have lawed : ∀ v τ υ, g_X10_of N 0 (nI m) y σ = some (v, τ) → g_X11_of N 642 (nI m) y υ0 = some (v, υ) → AF σ τ → BF υ0 υ → ∃ r s' τ υ, g_X10_of N 0 (nI m) y σ = some (r, τ) ∧ g_X11_of N 642 (nI m) y υ0 = some (r, υ) ∧ RC 1 τ s' ∧ FC σ τ ∧ WFs s' ∧ RR (υ.1 643) s' ∧ FR υ0 υ ∧ s' 0 5 = s 0 5 := fun v τ υ h1 h2 h3 h4 => ⟨v, s, τ, υ, h1, h2, h3.rc hC, h3.fc, hW, h4.rr hR, h4.fr, rfl⟩
  have cA : g_X10_of N 0 (nI m) y σ = (if y = nI 0 then ((xI 5 σ (0 + 1 + 1 + 1) (nI m)).bind fun v2 => some (v2, σ)) else if y = nI 1 then ((xI 5 σ (0 + 1 + 1 + 3) (nI m)).bind fun v3 => some (v3, σ)) else if y = nI 2 then ((xI 5 σ (0 + 1 + 1 + 4) (nI m)).bind fun v4 => some (v4, σ)) else if y = nI 3 then ((xI 5 σ (0 + 1 + 1 + 5) (nI m)).bind fun v5 => some (v5, σ)) else if y = nI 4 then ((xI 5 σ (0 + 1 + 1 + 6) (nI m)).bind fun v6 => some (v6, σ)) else if y = nI 5 then ((g_X4_theText N (0 + 1) σ).bind fun v7 => (g_X0_loose N (0 + 601) v7 (0 + 1 + 1) (nI m) σ).bind fun r8 => some (r8.1, r8.2)) else if y = nI 6 then ((g_X4_theText N (0 + 1) σ).bind fun v9 => (g_X0_believes N (0 + 601) v9 (0 + 1 + 1) (nI m) σ).bind fun r10 => some (r10.1, r10.2)) else if y = nI 7 then ((g_X4_theText N (0 + 1) σ).bind fun v11 => (g_X0_wears N (0 + 601) v11 (0 + 1 + 1) (nI m) σ).bind fun r12 => some (r12.1, r12.2)) else if nI 10 ≤ y then ((g_X9_rollDigit N (0 + 1 + 1) (nI m) (y - nI 10) σ).bind fun v13 => some (v13, σ)) else some (-nI 1, σ)) := by
    unfold g_X10_of g_X10_of_0
    rw [h', bnd, if_pos rfl, k_0, k_1, k_2, k_3, k_4, k_5, k_6, k_7, k_10]
  have rA : g_X11_of N 642 (nI m) y υ0 = (if y = nI 0 then some (nI (s 2 m), υ0) else if y = nI 5 then ((g_X11_looseOf N 642 (υ0.1 643 2) (nI m) υ0).bind fun r4 => some (r4.1, r4.2)) else if y = nI 6 then ((g_X11_believesOf N 642 (nI m) υ0).bind fun r5 => some (r5.1, r5.2)) else if y = nI 7 then ((g_X11_wearsOf N 642 (nI m) υ0).bind fun r6 => some (r6.1, r6.2)) else if decide (nI 1 ≤ y ∧ y ≤ nI 4) = false then (if decide (nI 10 ≤ y ∧ y ≤ nI (9 + s 7 m)) = false then some (-nI 1, υ0) else ((g_X11_get N 642 (nI m) (nI 4 + y - nI 10) υ0).bind fun v10 => some (v10, υ0))) else ((g_X11_get N 642 (nI m) (y - nI 1) υ0).bind fun v11 => some (v11, υ0))) := by
    unfold g_X11_of g_X11_of_0
    have g3' : g_X11_get N 642 (nI m) (nI 3) υ0 = some (nI (s 7 m)) := g3
    rw [hM, bnd, if_pos rfl, k_0, k_1, k_2, k_3, k_4, k_5, k_6, k_7, k_10, k_9, k_16, q16, bnd, e2, bnd, wi11, bnd, g3', bnd, nI_add, wi11, bnd]
  have no : ∀ a b, a < 1000 → b < 1000 → a ≠ b → ¬ nI a = nI b := fun a b h1 h2 h3 h4 => h3 ((nI_eq (by omega) (by omega)).mp h4)
  have neg10 : ¬ nI 10 ≤ y → (∀ k, k ≤ 7 → y ≠ nI k) → ∃ r s' τ υ, g_X10_of N 0 (nI m) y σ = some (r, τ) ∧ g_X11_of N 642 (nI m) y υ0 = some (r, υ) ∧ RC 1 τ s' ∧ FC σ τ ∧ WFs s' ∧ RR (υ.1 643) s' ∧ FR υ0 υ ∧ s' 0 5 = s 0 5 := by
    intro h10 hk
    refine simple (-nI 1) ?_ ?_
    · rw [cA, if_neg (hk 0 (by omega)), if_neg (hk 1 (by omega)), if_neg (hk 2 (by omega)), if_neg (hk 3 (by omega)), if_neg (hk 4 (by omega)), if_neg (hk 5 (by omega)), if_neg (hk 6 (by omega)), if_neg (hk 7 (by omega)), if_neg h10]
    · have d1 : decide (nI 1 ≤ y ∧ y ≤ nI 4) = false := decide_eq_false (fun q => by
        obtain ⟨j, hj, e⟩ := nI_of2 (M := nI 4) (nI_toInt (by omega)) (x := y) (fun q2 => Int32.lt_irrefl (Int32.lt_of_lt_of_le q2 (Int32.le_trans (by decide : (0 : Int32) ≤ nI 1) q.1))) q.2
        exact hk j (by omega) e)
      have d2 : decide (nI 10 ≤ y ∧ y ≤ nI (9 + s 7 m)) = false := decide_eq_false (fun q => h10 q.1)
      rw [rA, if_neg (hk 0 (by omega)), if_neg (hk 5 (by omega)), if_neg (hk 6 (by omega)), if_neg (hk 7 (by omega)), if_pos d1, if_pos d2]
  rcases argn y (n := 2147483647) (by omega) with hy | ⟨k, hk, rfl⟩
  · refine neg10 (fun q => hy ⟨Int32.le_trans (by decide) q, ?_⟩) (fun k hk e => hy ?_)
    · exact Int32.le_iff_toInt_le.mpr (by rw [nI_toInt (by omega)]; have := Int32.toInt_lt y; omega)
    · rw [e]
      exact ⟨nI_le (by omega) (by omega), nI_le (by omega) (by omega)⟩
  have d14 : 1 ≤ k → k ≤ 4 → decide (nI 1 ≤ nI k ∧ nI k ≤ nI 4) = true := fun h1 h2 => decide_eq_true ⟨nI_le h1 (by omega), nI_le h2 (by omega)⟩
  by_cases k0 : k = 0
  · subst k0
    refine simple (nI (s 2 m)) ?_ ?_
    · rw [cA, if_pos rfl, x1 0 (by omega), bnd]
    · rw [rA, if_pos rfl]
  by_cases k1 : k = 1
  · subst k1
    refine simple (nI (s 4 m)) ?_ ?_
    · rw [cA, if_neg (no _ _ (by omega) (by omega) (by omega)), if_pos rfl, x1 2 (by omega), bnd]
    · rw [rA, if_neg (no _ _ (by omega) (by omega) (by omega)), if_neg (no _ _ (by omega) (by omega) (by omega)), if_neg (no _ _ (by omega) (by omega) (by omega)), if_neg (no _ _ (by omega) (by omega) (by omega)), d14 (by omega) (by omega), if_neg (by decide), pk_sub (by omega)]
      show ((g_X11_get N 642 (nI m) (nI 0) υ0).bind fun v11 => some (v11, υ0)) = _
      rw [g0, bnd]
      rfl
  by_cases k2 : k = 2
  · subst k2
    refine simple (nI (s 5 m)) ?_ ?_
    · rw [cA, if_neg (no _ _ (by omega) (by omega) (by omega)), if_neg (no _ _ (by omega) (by omega) (by omega)), if_pos rfl, x1 3 (by omega), bnd]
    · rw [rA, if_neg (no _ _ (by omega) (by omega) (by omega)), if_neg (no _ _ (by omega) (by omega) (by omega)), if_neg (no _ _ (by omega) (by omega) (by omega)), if_neg (no _ _ (by omega) (by omega) (by omega)), d14 (by omega) (by omega), if_neg (by decide), pk_sub (by omega)]
      show ((g_X11_get N 642 (nI m) (nI 1) υ0).bind fun v11 => some (v11, υ0)) = _
      rw [g1, bnd]
      rfl
  by_cases k3 : k = 3
  · subst k3
    refine simple (nI (s 6 m)) ?_ ?_
    · rw [cA, if_neg (no _ _ (by omega) (by omega) (by omega)), if_neg (no _ _ (by omega) (by omega) (by omega)), if_neg (no _ _ (by omega) (by omega) (by omega)), if_pos rfl, x1 4 (by omega), bnd]
    · rw [rA, if_neg (no _ _ (by omega) (by omega) (by omega)), if_neg (no _ _ (by omega) (by omega) (by omega)), if_neg (no _ _ (by omega) (by omega) (by omega)), if_neg (no _ _ (by omega) (by omega) (by omega)), d14 (by omega) (by omega), if_neg (by decide), pk_sub (by omega)]
      show ((g_X11_get N 642 (nI m) (nI 2) υ0).bind fun v11 => some (v11, υ0)) = _
      rw [g2, bnd]
      rfl
  by_cases k4 : k = 4
  · subst k4
    refine simple (nI (s 7 m)) ?_ ?_
    · rw [cA, if_neg (no _ _ (by omega) (by omega) (by omega)), if_neg (no _ _ (by omega) (by omega) (by omega)), if_neg (no _ _ (by omega) (by omega) (by omega)), if_neg (no _ _ (by omega) (by omega) (by omega)), if_pos rfl, x1 5 (by omega), bnd]
    · rw [rA, if_neg (no _ _ (by omega) (by omega) (by omega)), if_neg (no _ _ (by omega) (by omega) (by omega)), if_neg (no _ _ (by omega) (by omega) (by omega)), if_neg (no _ _ (by omega) (by omega) (by omega)), d14 (by omega) (by omega), if_neg (by decide), pk_sub (by omega)]
      show ((g_X11_get N 642 (nI m) (nI 3) υ0).bind fun v11 => some (v11, υ0)) = _
      rw [g3, bnd]
      rfl
  by_cases k5 : k = 5
  · subst k5
    obtain ⟨v, τ, υ, v1, v2, v3, v4, v5⟩ := loose_e (N := N) o2 (b := 2) (by omega) (cw_of hC).1 hW.1 hA.r0 hm
    refine lawed (nI v) τ υ ?_ ?_ v4 v5
    · rw [cA, if_neg (no _ _ (by omega) (by omega) (by omega)), if_neg (no _ _ (by omega) (by omega) (by omega)), if_neg (no _ _ (by omega) (by omega) (by omega)), if_neg (no _ _ (by omega) (by omega) (by omega)), if_neg (no _ _ (by omega) (by omega) (by omega)), if_pos rfl]
      show ((g_X4_theText N 1 σ).bind fun v7 => (g_X0_loose N 601 v7 2 (nI m) σ).bind fun r8 => some (r8.1, r8.2)) = _
      rw [o1, bnd, v2, bnd]
    · rw [rA, if_neg (no _ _ (by omega) (by omega) (by omega)), if_pos rfl, v3, bnd]
  by_cases k6 : k = 6
  · subst k6
    obtain ⟨v, τ, υ, v1, v2, v3, v4, v5⟩ := believes_e (N := N) o2 rfl (b := 2) (by omega) (cw_of hC).1 hW.1 hA.r0 hm
    refine lawed (nI v) τ υ ?_ ?_ v4 v5
    · rw [cA, if_neg (no _ _ (by omega) (by omega) (by omega)), if_neg (no _ _ (by omega) (by omega) (by omega)), if_neg (no _ _ (by omega) (by omega) (by omega)), if_neg (no _ _ (by omega) (by omega) (by omega)), if_neg (no _ _ (by omega) (by omega) (by omega)), if_neg (no _ _ (by omega) (by omega) (by omega)), if_pos rfl]
      show ((g_X4_theText N 1 σ).bind fun v7 => (g_X0_believes N 601 v7 2 (nI m) σ).bind fun r8 => some (r8.1, r8.2)) = _
      rw [o1, bnd, v2, bnd]
    · rw [rA, if_neg (no _ _ (by omega) (by omega) (by omega)), if_neg (no _ _ (by omega) (by omega) (by omega)), if_pos rfl, v3, bnd]
  by_cases k7 : k = 7
  · subst k7
    obtain ⟨v, τ, υ, v1, v2, v3, v4, v5⟩ := wears_e (N := N) o2 rfl (b := 2) (by omega) (cw_of hC).1 hW.1 hA.r0 hm
    refine lawed (nI v) τ υ ?_ ?_ v4 v5
    · rw [cA, if_neg (no _ _ (by omega) (by omega) (by omega)), if_neg (no _ _ (by omega) (by omega) (by omega)), if_neg (no _ _ (by omega) (by omega) (by omega)), if_neg (no _ _ (by omega) (by omega) (by omega)), if_neg (no _ _ (by omega) (by omega) (by omega)), if_neg (no _ _ (by omega) (by omega) (by omega)), if_neg (no _ _ (by omega) (by omega) (by omega)), if_pos rfl]
      show ((g_X4_theText N 1 σ).bind fun v7 => (g_X0_wears N 601 v7 2 (nI m) σ).bind fun r8 => some (r8.1, r8.2)) = _
      rw [o1, bnd, v2, bnd]
    · rw [rA, if_neg (no _ _ (by omega) (by omega) (by omega)), if_neg (no _ _ (by omega) (by omega) (by omega)), if_neg (no _ _ (by omega) (by omega) (by omega)), if_pos rfl, v3, bnd]
  have nk : ∀ q, q ≤ 7 → nI k ≠ nI q := fun q hq e => by
    have := (nI_eq (by omega) (by omega)).mp e
    omega
  by_cases k10 : 10 ≤ k
  · have d1 : decide (nI 1 ≤ nI k ∧ nI k ≤ nI 4) = false := decide_eq_false (fun q => nI_ge (by omega) (by omega) q.2)
    have w0 : σ.1 (0 + 1 + 1 + 6) m = nI (s 7 m) := c_7 hC m
    by_cases kl : k < 10 + s 7 m
    · have d2 : decide (nI 10 ≤ nI k ∧ nI k ≤ nI (9 + s 7 m)) = true := decide_eq_true ⟨nI_le k10 (by omega), nI_le (by omega) (by omega)⟩
      have w7 : σ.1 (0 + 1 + 1 + 7) (m * 12 + (k - 10)) = nI (s 8 (12 * m + (k - 10))) := by
        rw [show m * 12 + (k - 10) = 12 * m + (k - 10) by omega]
        exact c_8 hC _
      refine simple (nI (s 8 (12 * m + (k - 10)))) ?_ ?_
      · have ed : decide (nI 0 ≤ nI (k - 10) ∧ nI (k - 10) ≤ nI (s 7 m) - nI 1) = true := by
          refine decide_eq_true ⟨nI_le (by omega) (by omega), ?_⟩
          rw [pk_sub (by omega)]
          exact nI_le (by omega) (by omega)
        rw [cA, if_neg (nk 0 (by omega)), if_neg (nk 1 (by omega)), if_neg (nk 2 (by omega)), if_neg (nk 3 (by omega)), if_neg (nk 4 (by omega)), if_neg (nk 5 (by omega)), if_neg (nk 6 (by omega)), if_neg (nk 7 (by omega)), if_pos (nI_le k10 (by omega)), pk_sub k10]
        unfold g_X9_rollDigit g_X9_rollDigit_0
        rw [h', bnd, if_neg (by decide), xI_n hm5 (by omega), w0, bnd, k_0, k_1, wi10, ed, bnd, if_neg (by decide), k_12, if_pos (nI_lt (by omega) (by omega)), pk_mul, nI_add, xI_n (by omega) (by omega), w7, bnd, bnd]
      · have gd := g4 (k - 10) (show k - 10 < cur s 6 m from (by have : cur s 6 m = s 7 m := rfl; omega)) (by omega)
        rw [rA, if_neg (nk 0 (by omega)), if_neg (nk 5 (by omega)), if_neg (nk 6 (by omega)), if_neg (nk 7 (by omega)), if_pos d1, d2, if_neg (by decide), nI_add, pk_sub (by omega), show 4 + k - 10 = 4 + (k - 10) by omega, gd, bnd]
        rfl
    · have d2 : decide (nI 10 ≤ nI k ∧ nI k ≤ nI (9 + s 7 m)) = false := decide_eq_false (fun q => nI_ge (by omega) (by omega) q.2)
      refine simple (-nI 1) ?_ ?_
      · have ed : decide (nI 0 ≤ nI (k - 10) ∧ nI (k - 10) ≤ nI (s 7 m) - nI 1) = false := decide_eq_false (fun q => by
          by_cases z : s 7 m = 0
          · rw [z] at q
            exact absurd (Int32.le_trans q.1 q.2) (by decide)
          · have q2 := q.2
            rw [pk_sub (by omega)] at q2
            exact nI_ge (by omega) (by omega) q2)
        rw [cA, if_neg (nk 0 (by omega)), if_neg (nk 1 (by omega)), if_neg (nk 2 (by omega)), if_neg (nk 3 (by omega)), if_neg (nk 4 (by omega)), if_neg (nk 5 (by omega)), if_neg (nk 6 (by omega)), if_neg (nk 7 (by omega)), if_pos (nI_le k10 (by omega)), pk_sub k10]
        unfold g_X9_rollDigit g_X9_rollDigit_0
        rw [h', bnd, if_neg (by decide), xI_n hm5 (by omega), w0, bnd, k_0, k_1, wi10, ed, bnd, if_pos rfl, bnd]
      · rw [rA, if_neg (nk 0 (by omega)), if_neg (nk 5 (by omega)), if_neg (nk 6 (by omega)), if_neg (nk 7 (by omega)), if_pos d1, if_pos d2]
  · exact neg10 (nI_ge (by omega) (by omega)) nk
end OFF
