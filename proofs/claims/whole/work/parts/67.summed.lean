/-! the reference asks a law -/
def Vk (υ : ST) (vs : List Int64) : Prop := match vs with
  | [] => True
  | x :: vs => υ.2.1 649 vs.length = x ∧ Vk υ vs
def Tk (υ : ST) (ts : List Bool) : Prop := match ts with
  | [] => True
  | t :: ts => υ.1 650 ts.length = jz t ∧ Tk υ ts
def BG (υ υ' : ST) : Prop := (∀ a j, a ≠ 650 → υ'.1 a j = υ.1 a j) ∧ (∀ a j, a ≠ 649 → υ'.2.1 a j = υ.2.1 a j) ∧ υ'.2.2 = υ.2.2
def TC (υ : ST) (cb : Nat) (C D : Nat → Nat) (k0 l : Nat) : Prop := ∀ k, k0 ≤ k → k < l → υ.1 645 (cb + 2 * k) = nI (C k) ∧ υ.1 645 (cb + (2 * k + 1)) = nI (D k) ∧ C k ≤ 22 ∧ D k ≤ 9999 ∧ (C k = 1 → D k < 8)
def NW (υ : ST) (w : SS) (f : Nat → Nat) : Prop := (∀ i, i < 8 → υ.1 648 i = nI (f i)) ∧ υ.1 643 0 = nI (w 0 0) ∧ ∀ m, m < w 0 0 → υ.1 643 (11 + (18 * m + 2)) = nI (w 5 m)
section SMU
variable {N : Mem} {σ υ υ' υ0 : ST} {w : SS} {C D f : Nat → Nat}
theorem BG.rfl : BG υ υ := ⟨fun _ _ _ => Eq.refl _, fun _ _ _ => Eq.refl _, Eq.refl _⟩
theorem BG.t (h1 : BG σ υ) (h2 : BG υ υ') : BG σ υ' := ⟨fun a j q => (h2.1 a j q).trans (h1.1 a j q), fun a j q => (h2.2.1 a j q).trans (h1.2.1 a j q), h2.2.2.trans h1.2.2⟩
theorem BG.sI {i : Nat} {v : Int32} : BG υ (setI υ 650 i v) := ⟨fun a j q => I_row q, fun _ _ _ => Eq.refl _, Eq.refl _⟩
theorem BG.sL {i : Nat} {v : Int64} : BG υ (setL υ 649 i v) := ⟨fun _ _ _ => Eq.refl _, fun a j q => LL_row q, Eq.refl _⟩
theorem BG.nw (h : BG υ υ') (hN : NW υ w f) : NW υ' w f := ⟨fun i hi => (h.1 _ _ (by omega)).trans (hN.1 i hi), (h.1 _ _ (by omega)).trans hN.2.1, fun m hm => (h.1 _ _ (by omega)).trans (hN.2.2 m hm)⟩
theorem BG.tc (h : BG υ υ') {cb k0 l : Nat} (hT : TC υ cb C D k0 l) : TC υ' cb C D k0 l := fun k h0 hk => by
  obtain ⟨a1, a2, a3⟩ := hT k h0 hk
  exact ⟨(h.1 _ _ (by omega)).trans a1, (h.1 _ _ (by omega)).trans a2, a3⟩
theorem Vk_c : ∀ vs : List Int64, Vk υ vs → (∀ i, i < vs.length → υ'.2.1 649 i = υ.2.1 649 i) → Vk υ' vs := by
  intro vs
  induction vs with
  | nil => intro _ _; trivial
  | cons x vs ih =>
    rintro ⟨h1, h2⟩ hc
    exact ⟨(hc _ (by rw [List.length_cons]; omega)).trans h1, ih h2 (fun i hi => hc i (by rw [List.length_cons]; omega))⟩
theorem Tk_c : ∀ ts : List Bool, Tk υ ts → (∀ i, i < ts.length → υ'.1 650 i = υ.1 650 i) → Tk υ' ts := by
  intro ts
  induction ts with
  | nil => intro _ _; trivial
  | cons x ts ih =>
    rintro ⟨h1, h2⟩ hc
    exact ⟨(hc _ (by rw [List.length_cons]; omega)).trans h1, ih h2 (fun i hi => hc i (by rw [List.length_cons]; omega))⟩
theorem xZ_n {n i b : Nat} {t : Bool} (hi : i < n) (hn : n < 2147483648) (h : υ.1 b i = jz t) : xZ n υ b (nI i) = some t := by
  unfold xZ
  rw [xI_n hi hn, bnd, h]
  cases t <;> rfl
theorem sumsR (hN : NW υ w f) (hW : WFw w) (x : Int64) : g_X11_sumsOf N 642 x υ = some (lN (suw w x.toInt)) := by
  obtain ⟨-, h0, hm⟩ := hN
  have hc : w 0 0 ≤ 5 := hW.1
  have e0 : (0 : Int64).toInt = 0 := by decide
  unfold g_X11_sumsOf g_X11_sumsOf_0
  by_cases c : lg_cmp x 0 < 0
  · have c1 := Int64.lt_iff_toInt_lt.mp ((lg_cmp_lt _ _).mp c)
    rw [e0] at c1
    have es : suw w x.toInt = 0 := if_neg (fun q => by omega)
    rw [if_pos c, es]
    rfl
  · have c1 : ¬ x.toInt < 0 := by
      intro q
      apply c
      apply (lg_cmp_lt _ _).mpr
      apply Int64.lt_iff_toInt_lt.mpr
      rw [e0]
      exact q
    have eL : (nI (w 0 0)).toInt64.toInt = w 0 0 := by rw [wdL, nI_toInt (by omega)]
    have x0 : xI 4607 υ (642 + 1) 0 = some (nI (w 0 0)) := by
      rw [k_0, xI_n (by omega) (by omega)]
      exact congrArg some h0
    rw [if_neg c, x0, bnd]
    by_cases c2 : 0 ≤ lg_cmp x (nI (w 0 0)).toInt64
    · have c3 := Int64.le_iff_toInt_le.mp ((lg_cmp_ge _ _).mp c2)
      rw [eL] at c3
      have es : suw w x.toInt = 0 := if_neg (fun q => by omega)
      rw [if_pos c2, es]
      rfl
    · have c3 : x.toInt < w 0 0 := by
        apply Int.lt_of_not_ge
        intro q
        apply c2
        apply (lg_cmp_ge _ _).mpr
        apply Int64.le_iff_toInt_le.mpr
        rw [eL]
        exact q
      have ex : x.toInt32 = nI x.toInt.toNat := by
        apply Int32.toInt_inj.mp
        rw [Int64.toInt_toInt32, nI_toInt (by omega), fb_bmod (by omega) (by omega)]
        omega
      have es : suw w x.toInt = w 5 x.toInt.toNat := if_pos ⟨by omega, c3⟩
      have hv := hm x.toInt.toNat (by omega)
      rw [if_neg c2, es, ex]
      have hm5 : x.toInt.toNat < 5 := by omega
      have h99 := (hW.fld x.toInt.toNat).2.2.2.2.1
      generalize x.toInt.toNat = m at *
      unfold g_X11_get g_X11_get_0
      simp (disch := omega) only [k_0, k_1, k_2, k_3, k_4, k_5, k_6, k_7, k_8, k_9, k_10, k_11, k_12, k_13, k_14, k_15, k_16, k_17, k_18, k_19, k_20, k_21, k_22, k_23, k_24, k_25, k_26, k_27, k_28, k_29, k_30, k_31, k_32, k_33, k_34, k_35, k_36, k_37, k_38, k_39, k_40, k_41, k_42, k_43, k_44, k_45, k_46, k_47, k_48, k_49, k_50, k_51, k_52, k_53, k_54, k_55, k_56, k_57, k_58, k_59, k_60, k_61, k_62, k_63, k_64, k_65, k_66, k_67, k_68, k_69, k_70, k_71, k_72, k_73, k_74, k_75, k_76, k_77, k_78, k_79, k_80, k_81, k_82, k_83, k_84, k_85, k_86, k_87, k_88, k_89, k_90, k_91, k_92, k_93, k_94, k_95, k_96, k_97, k_98, k_99, k_100, k_101, k_102, k_103, k_104, k_105, k_106, k_107, k_108, k_109, k_110, k_111, k_112, k_113, k_114, k_115, k_116, k_117, k_118, k_119, k_120, k_121, k_122, k_123, k_124, k_125, k_126, k_127, k_128, k_129, k_130, k_133, k_144, k_145, k_153, k_193, k_203, k_211, k_227, k_255, k_256, k_280, k_300, k_313, k_371, k_433, k_705, k_997, k_999, k_1000, k_4176, k_4547, k_9999, k_10000, k_30557, k_99999, k_1000000, k_1000000000, nI_add, pk_mul, w_sub, w_rem, w_div, w_dv, w_rm, nI_leI, nI_ltI, nI_eq, w_em, w_me, w_lm, w_ml, w_lem, w_mle, bnd, Option.some.injEq, xI_n, yI_n, xL_n, yL_n, xP_n, xG_n, I_same, I_row, I_col, L_1, Q_1, R_same, R_row, if_pos, if_neg, ite_self, not_true, not_false, decide_true, decide_false, Nat.add_assoc, true_and, and_true, Nat.zero_add, Nat.add_zero, Nat.mul_zero, Nat.mul_one, Nat.one_mul, eq_self, decide_eq_true, decide_eq_false, Bool.true_eq_false, Bool.false_eq_true, ↓reduceIte, Nat.reduceAdd, Nat.reduceMul, Nat.reduceSub, Nat.reduceDiv, Nat.reduceMod, bb_t, bb_f, hv, nI_L]
theorem w_m2 (p : Nat) : nI (p + 1 + 1) + -nI 2 = nI p := by
  rw [show nI (p + 1 + 1) + -nI 2 = nI (p + 1 + 1) - nI 2 from (Int32.sub_eq_add_neg _ _).symm, pk_sub (by omega), show p + 1 + 1 - 2 = p by omega]
theorem ss_s {xb cb k k0 l n : Nat} {vs v' : List Int64} {ts t' : List Bool} (hT : TC υ cb C D k0 l) (hx : υ.1 645 (xb + 2) = nI l) (hxb : xb + 2 < 2820) (hcb : cb + 2 * l < 2820) (hN : NW υ w f) (hF : ∀ i, f i ≤ 9999) (hW : WFw w) (h0 : k0 ≤ k) (hk : k < l) (hl : vs.length + ts.length ≤ 320) (hV : Vk υ vs) (hB : Tk υ ts) (h : rS C D f (suw w) k vs ts = some (v', t')) : ∃ υ', g_X11_summedUp_38 N (n + 1) 642 (nI xb) (nI cb) (nI vs.length) (nI ts.length) (nI k) υ = g_X11_summedUp_38 N n 642 (nI xb) (nI cb) (nI v'.length) (nI t'.length) (nI (k + 1)) υ' ∧ Vk υ' v' ∧ Tk υ' t' ∧ BG υ υ' := by
  obtain ⟨r0, r1, bC, bD, bN⟩ := hT k h0 hk
  have e1 : xI 2820 υ (642 + 3) (nI xb + nI 2) = some (nI l) := by
    rw [nI_add, xI_n hxb (by omega)]
    exact congrArg some hx
  have e2 : xI 2820 υ (642 + 3) (nI cb + nI 2 * nI k) = some (nI (C k)) := by
    rw [pk_mul, nI_add, xI_n (by omega) (by omega)]
    exact congrArg some r0
  have e3 : xI 2820 υ (642 + 3) (nI cb + nI 2 * nI k + nI 1) = some (nI (D k)) := by
    rw [pk_mul, nI_add, nI_add, xI_n (by omega) (by omega), show cb + 2 * k + 1 = cb + (2 * k + 1) by omega]
    exact congrArg some r1
  have ad : nI k + nI 1 = nI (k + 1) := nI_add _ _
  have ne : ∀ q, C k ≠ q → q < 1000 → ¬ nI (C k) = nI q := fun q h1 h2 h3 => h1 ((nI_eq (by omega) (by omega)).mp h3)
  have xl : ∀ (υ : ST) i, i < 330 → xL 330 υ (642 + 7) (nI i) = some (υ.2.1 649 i) := fun υ i hi => xL_n hi (by omega)
  have yl : ∀ (υ : ST) i v, i < 330 → yL 330 υ (642 + 7) (nI i) v = some (setL υ 649 i v) := fun υ i v hi => yL_n hi (by omega)
  have yi : ∀ (υ : ST) i v, i < 330 → yI 330 υ (642 + 8) (nI i) v = some (setI υ 650 i v) := fun υ i v hi => yI_n hi (by omega)
  have xz : ∀ (υ : ST) i t, i < 330 → υ.1 650 i = jz t → xZ 330 υ (642 + 8) (nI i) = some t := fun υ i t hi hh => xZ_n hi (by omega) hh
  rw [g_X11_summedUp_38, k_2, e1, bnd, if_neg (nI_ge hk (by omega)), e2, bnd, k_1, e3, bnd, k_4, k_5, k_10, k_20, k_3, k_0, ad]
  unfold rS at h
  by_cases c0 : C k = 0
  · rw [if_pos c0] at h
    cases h
    rw [if_neg (nI_nlt (by omega) (by omega)), if_pos (by rw [c0]), yl _ _ _ (by omega), bnd, nI_add, nI_L (by omega)]
    exact ⟨_, rfl, ⟨LL_same rfl rfl, Vk_c vs hV (fun i hi => LL_col (by omega))⟩, Tk_c _ hB (fun i hi => rfl), BG.sL⟩
  rw [if_neg c0] at h
  by_cases c1 : C k = 1
  · rw [if_pos c1] at h
    cases h
    have hf := hN.1 (D k) (bN c1)
    have e4 : xI 8 υ (642 + 6) (nI (D k)) = some (nI (f (D k))) := by
      rw [xI_n (bN c1) (by omega)]
      exact congrArg some hf
    rw [if_neg (nI_nlt (by omega) (by omega)), if_neg (ne 0 c0 (by omega)), e4, bnd, yl _ _ _ (by omega), bnd, nI_add]
    refine ⟨_, rfl, ⟨?_, Vk_c vs hV (fun i hi => LL_col (by omega))⟩, Tk_c _ hB (fun i hi => rfl), BG.sL⟩
    rw [LL_same rfl rfl]
    exact nI_L (by have := hF (D k); omega)
  rw [if_neg c1] at h
  rw [if_pos (nI_lt (by omega) (by omega))]
  by_cases c4 : C k = 4
  · rw [if_pos c4] at h
    rw [if_pos (by rw [c4])]
    match vs, ts, hl, hV, hB, h with
    | y :: x :: vs, t :: ts, hl, hV, hB, h =>
      cases h
      obtain ⟨v1, v2, v3⟩ := hV
      obtain ⟨b1, b2⟩ := hB
      simp only [List.length_cons] at hl v1 ⊢
      rw [w_m1', w_s1, w_m1', w_s1, xz _ _ t (by omega) b1, bnd]
      cases t with
      | true =>
        rw [if_pos rfl, if_pos rfl]
        exact ⟨υ, rfl, ⟨v2, v3⟩, b2, BG.rfl⟩
      | false =>
        rw [if_neg (by decide), if_neg (by decide), xl _ _ (by omega), bnd, w_s1, yl _ _ _ (by omega), bnd, v1]
        exact ⟨_, rfl, ⟨LL_same rfl rfl, Vk_c vs v3 (fun i hi => LL_col (by omega))⟩, Tk_c _ b2 (fun i hi => rfl), BG.sL⟩
    | [], _, _, _, _, h => cases h
    | [_], _, _, _, _, h => cases h
    | _ :: _ :: _, [], _, _, _, h => cases h
  rw [if_neg c4] at h
  rw [if_neg (ne 4 c4 (by omega))]
  by_cases c5 : C k = 5
  · rw [if_pos c5] at h
    rw [if_neg (nI_nlt (by omega) (by omega)), if_pos (by rw [c5])]
    match vs, hl, hV, h with
    | x :: vs, hl, hV, h =>
      cases h
      obtain ⟨v1, v2⟩ := hV
      simp only [List.length_cons] at hl ⊢
      rw [w_s1, xl _ _ (by omega), bnd, yl _ _ _ (by omega), bnd, v1]
      exact ⟨_, rfl, ⟨LL_same rfl rfl, Vk_c vs v2 (fun i hi => LL_col (by omega))⟩, Tk_c _ hB (fun i hi => rfl), BG.sL⟩
    | [], _, _, h => cases h
  rw [if_neg c5] at h
  by_cases c3 : C k = 3
  · rw [if_pos c3] at h
    rw [if_neg (nI_nlt (by omega) (by omega)), if_neg (ne 5 c5 (by omega)), if_pos (by rw [c3])]
    match vs, hl, hV, h with
    | x :: vs, hl, hV, h =>
      cases h
      obtain ⟨v1, v2⟩ := hV
      simp only [List.length_cons] at hl ⊢
      rw [w_s1, xl _ _ (by omega), bnd, v1, sumsR hN hW, bnd, yl _ _ _ (by omega), bnd]
      exact ⟨_, rfl, ⟨LL_same rfl rfl, Vk_c vs v2 (fun i hi => LL_col (by omega))⟩, Tk_c _ hB (fun i hi => rfl), BG.sL⟩
    | [], _, _, h => cases h
  rw [if_neg c3] at h
  by_cases c2 : C k = 2
  · rw [if_pos c2] at h
    rw [if_neg (nI_nlt (by omega) (by omega)), if_neg (ne 5 c5 (by omega)), if_neg (ne 3 c3 (by omega))]
    match vs, hl, hV, h with
    | x :: vs, hl, hV, h =>
      dsimp only at h
      obtain ⟨v1, v2⟩ := hV
      simp only [List.length_cons] at hl ⊢
      cases e : f_X11_digitsOf x with
      | none => rw [e] at h; cases h
      | some z =>
        rw [e] at h
        cases h
        rw [w_s1, xl _ _ (by omega), bnd, v1, e, bnd, yl _ _ _ (by omega), bnd]
        exact ⟨_, rfl, ⟨LL_same rfl rfl, Vk_c vs v2 (fun i hi => LL_col (by omega))⟩, Tk_c _ hB (fun i hi => rfl), BG.sL⟩
    | [], _, _, h => cases h
  rw [if_neg c2] at h
  rw [if_pos (nI_lt (by omega) (by omega))]
  by_cases c10 : C k < 10
  · rw [if_pos c10] at h
    rw [if_neg (nI_ge c10 (by omega))]
    match vs, hl, hV, h with
    | y :: x :: vs, hl, hV, h =>
      dsimp only at h
      obtain ⟨v1, v2, v3⟩ := hV
      simp only [List.length_cons] at hl v1 ⊢
      cases e : f_X11_two (nI (C k)) x y with
      | none => rw [e] at h; cases h
      | some z =>
        rw [e] at h
        cases h
        rw [w_m1', w_s1, w_s1, xl _ _ (by omega), bnd, xl _ _ (by omega), bnd, v1, v2, e, bnd, yl _ _ _ (by omega), bnd]
        exact ⟨_, rfl, ⟨LL_same rfl rfl, Vk_c vs v3 (fun i hi => LL_col (by omega))⟩, Tk_c _ hB (fun i hi => rfl), BG.sL⟩
    | [], _, _, h => cases h
    | [_], _, _, h => cases h
  rw [if_neg c10] at h
  rw [if_pos (nI_le (by omega) (by omega))]
  by_cases c20 : C k < 20
  · rw [if_pos c20] at h
    rw [if_neg (nI_ge c20 (by omega))]
    match vs, hl, hV, h with
    | y :: x :: vs, hl, hV, h =>
      dsimp only at h
      obtain ⟨v1, v2, v3⟩ := hV
      simp only [List.length_cons] at hl v1 ⊢
      cases e : f_X11_isAsked (nI (C k)) x y with
      | none => rw [e] at h; cases h
      | some z =>
        rw [e] at h
        cases h
        rw [w_m2, nI_add, xl _ _ (by omega), bnd, xl _ _ (by omega), bnd, v1, v2, e, bnd, yi _ _ _ (by omega), bnd, nI_add]
        exact ⟨_, rfl, Vk_c _ v3 (fun i hi => rfl), ⟨I_same rfl rfl, Tk_c ts hB (fun i hi => I_col (by omega))⟩, BG.sI⟩
    | [], _, _, h => cases h
    | [_], _, _, h => cases h
  rw [if_neg c20] at h
  rw [if_pos (nI_le (by omega) (by omega))]
  by_cases d20 : C k = 20
  · rw [if_pos d20] at h
    rw [if_pos (by rw [d20])]
    match ts, hl, hB, h with
    | t :: ts, hl, hB, h =>
      cases h
      obtain ⟨b1, b2⟩ := hB
      simp only [List.length_cons] at hl ⊢
      rw [w_s1, xz _ _ t (by omega) b1, bnd, yi _ _ _ (by omega), yi _ _ _ (by omega), bnd, bnd]
      cases t with
      | true =>
        rw [if_pos rfl]
        exact ⟨_, rfl, Vk_c vs hV (fun i hi => rfl), ⟨I_same rfl rfl, Tk_c ts b2 (fun i hi => I_col (by omega))⟩, BG.sI⟩
      | false =>
        rw [if_neg (by decide)]
        exact ⟨_, rfl, Vk_c vs hV (fun i hi => rfl), ⟨I_same rfl rfl, Tk_c ts b2 (fun i hi => I_col (by omega))⟩, BG.sI⟩
    | [], _, _, h => cases h
  rw [if_neg d20] at h
  rw [if_neg (ne 20 d20 (by omega))]
  match ts, hl, hB, h with
  | u :: t :: ts, hl, hB, h =>
    dsimp only at h
    obtain ⟨b1, b2, b3⟩ := hB
    simp only [List.length_cons] at hl b1 ⊢
    cases e : f_X11_joined (nI (C k)) t u with
    | none => rw [e] at h; cases h
    | some z =>
      rw [e] at h
      cases h
      rw [w_m1', w_s1, w_s1, xz _ _ t (by omega) b2, bnd, xz _ _ u (by omega) b1, bnd, e, bnd, yi _ _ _ (by omega), bnd]
      exact ⟨_, rfl, Vk_c vs hV (fun i hi => rfl), ⟨I_same rfl rfl, Tk_c ts b3 (fun i hi => I_col (by omega))⟩, BG.sI⟩
  | [], _, _, h => cases h
  | [_], _, _, h => cases h
theorem rS_l {k : Nat} {g : Int → Nat} {vs v' : List Int64} {ts t' : List Bool} (h : rS C D f g k vs ts = some (v', t')) : v'.length + t'.length ≤ vs.length + ts.length + 1 := by
  unfold rS at h
  split at h
  · cases h; rw [List.length_cons]; omega
  split at h
  · cases h; rw [List.length_cons]; omega
  split at h
  · match vs, ts, h with
    | y :: x :: vs, t :: ts, h =>
      cases h
      simp only [List.length_cons]
      omega
    | [], _, h => cases h
    | [_], _, h => cases h
    | _ :: _ :: _, [], h => cases h
  split at h
  · match vs, h with
    | x :: vs, h => cases h; simp only [List.length_cons]; omega
    | [], h => cases h
  split at h
  · match vs, h with
    | x :: vs, h => cases h; simp only [List.length_cons]; omega
    | [], h => cases h
  split at h
  · match vs, h with
    | x :: vs, h =>
      dsimp only at h
      cases e : f_X11_digitsOf x with
      | none => rw [e] at h; cases h
      | some z => rw [e] at h; cases h; simp only [List.length_cons]; omega
    | [], h => cases h
  split at h
  · match vs, h with
    | y :: x :: vs, h =>
      dsimp only at h
      cases e : f_X11_two (nI (C k)) x y with
      | none => rw [e] at h; cases h
      | some z => rw [e] at h; cases h; simp only [List.length_cons]; omega
    | [], h => cases h
    | [_], h => cases h
  split at h
  · match vs, h with
    | y :: x :: vs, h =>
      dsimp only at h
      cases e : f_X11_isAsked (nI (C k)) x y with
      | none => rw [e] at h; cases h
      | some z => rw [e] at h; cases h; simp only [List.length_cons]; omega
    | [], h => cases h
    | [_], h => cases h
  split at h
  · match ts, h with
    | t :: ts, h => cases h; simp only [List.length_cons]; omega
    | [], h => cases h
  · match ts, h with
    | u :: t :: ts, h =>
      dsimp only at h
      cases e : f_X11_joined (nI (C k)) t u with
      | none => rw [e] at h; cases h
      | some z => rw [e] at h; cases h; simp only [List.length_cons]; omega
    | [], h => cases h
    | [_], h => cases h
theorem ss_r {xb cb k0 l : Nat} (hxb : xb + 2 < 2820) (hcb : cb + 2 * l < 2820) (hl : l ≤ 304) (hF : ∀ i, f i ≤ 9999) (hW : WFw w) : ∀ q k vs ts v' t' n υ, Rr C D f (suw w) q k vs ts l v' t' → q ≤ n → k0 ≤ k → vs.length + ts.length + k0 ≤ k → TC υ cb C D k0 l → υ.1 645 (xb + 2) = nI l → NW υ w f → Vk υ vs → Tk υ ts → ∃ υ', g_X11_summedUp_38 N n 642 (nI xb) (nI cb) (nI vs.length) (nI ts.length) (nI k) υ = g_X11_summedUp_38 N (n - q) 642 (nI xb) (nI cb) (nI v'.length) (nI t'.length) (nI l) υ' ∧ Vk υ' v' ∧ Tk υ' t' ∧ BG υ υ' := by
  intro q
  induction q with
  | zero =>
    rintro k vs ts v' t' n υ ⟨rfl, rfl, rfl⟩ hn h0 hlen hT hx hN hV hB
    exact ⟨υ, by rw [Nat.sub_zero], hV, hB, BG.rfl⟩
  | succ q ih =>
    rintro k vs ts v' t' n υ ⟨v1, t1, h1, h3⟩ hn h0 hlen hT hx hN hV hB
    have hle := Rr_le _ _ _ _ _ _ _ h3
    obtain ⟨n, rfl⟩ : ∃ x, n = x + 1 := ⟨n - 1, by omega⟩
    obtain ⟨υ1, a1, a2, a3, a4⟩ := ss_s (N := N) (n := n) hT hx hxb hcb hN hF hW h0 (by omega) (by omega) hV hB h1
    have hl1 := rS_l h1
    obtain ⟨υ', b1, b2, b3, b4⟩ := ih (k + 1) v1 t1 v' t' n υ1 h3 (by omega) (by omega) (by omega) (a4.tc hT) ((a4.1 _ _ (by omega)).trans hx) (a4.nw hN) a2 a3
    refine ⟨υ', ?_, b2, b3, a4.t b4⟩
    rw [a1, b1, show n + 1 - (q + 1) = n - q by omega]
theorem summed_r {j c k0 l : Nat} {y : Int64} (hj : j < 4) (hc : c < 24) (hl : l ≤ 303) (hF : ∀ i, f i ≤ 9999) (hW : WFw w) (hT : TC υ (705 * j + 97) C D k0 l) (hf : υ.1 645 (705 * j + (1 + (4 * c + 1))) = nI k0) (hx : υ.1 645 (705 * j + (1 + (4 * c + 2))) = nI l) (hN : NW υ w f) (h : Rq C D f (suw w) k0 [] [] l [y] []) : ∃ υ', g_X11_summedUp N 642 (nI j) (nI c) υ = some (y, υ') ∧ BG υ υ' := by
  obtain ⟨q, hq⟩ := h
  have hle := Rr_le _ _ _ _ _ _ _ hq
  have hx2 : υ.1 645 (705 * j + (1 + 4 * c) + 2) = nI l := by
    rw [show 705 * j + (1 + 4 * c) + 2 = 705 * j + (1 + (4 * c + 2)) by omega]
    exact hx
  obtain ⟨υ1, a1, a2, a3, a4⟩ := ss_r (N := N) (xb := 705 * j + (1 + 4 * c)) (cb := 705 * j + 97) (by omega) (by omega) (by omega) hF hW q k0 [] [] [y] [] fu υ hq (by unfold fu; omega) (Nat.le_refl _) (by simp) hT hx2 hN trivial trivial
  obtain ⟨z, hz⟩ : ∃ z, fu - q = z + 1 := ⟨999999 - q, by unfold fu; omega⟩
  have e1 : xI 2820 υ1 (642 + 3) (nI (705 * j + (1 + 4 * c)) + nI 2) = some (nI l) := by
    rw [nI_add, xI_n (by omega) (by omega)]
    exact congrArg some ((a4.1 _ _ (by omega)).trans hx2)
  have e2 : xL 330 υ1 (642 + 7) (nI 0) = some y := by
    rw [xL_n (by omega) (by omega)]
    exact congrArg some a2.1
  rw [hz, g_X11_summedUp_38, k_2, e1, bnd, if_pos (nI_le (Nat.le_refl _) (by omega)), k_0, e2, bnd] at a1
  refine ⟨υ1, ?_, a4⟩
  simp only [List.length_nil] at a1
  unfold g_X11_summedUp g_X11_summedUp_0
  simp (disch := omega) only [k_0, k_1, k_2, k_3, k_4, k_5, k_6, k_7, k_8, k_9, k_10, k_11, k_12, k_13, k_14, k_15, k_16, k_17, k_18, k_19, k_20, k_21, k_22, k_23, k_24, k_25, k_26, k_27, k_28, k_29, k_30, k_31, k_32, k_33, k_34, k_35, k_36, k_37, k_38, k_39, k_40, k_41, k_42, k_43, k_44, k_45, k_46, k_47, k_48, k_49, k_50, k_51, k_52, k_53, k_54, k_55, k_56, k_57, k_58, k_59, k_60, k_61, k_62, k_63, k_64, k_65, k_66, k_67, k_68, k_69, k_70, k_71, k_72, k_73, k_74, k_75, k_76, k_77, k_78, k_79, k_80, k_81, k_82, k_83, k_84, k_85, k_86, k_87, k_88, k_89, k_90, k_91, k_92, k_93, k_94, k_95, k_96, k_97, k_98, k_99, k_100, k_101, k_102, k_103, k_104, k_105, k_106, k_107, k_108, k_109, k_110, k_111, k_112, k_113, k_114, k_115, k_116, k_117, k_118, k_119, k_120, k_121, k_122, k_123, k_124, k_125, k_126, k_127, k_128, k_129, k_130, k_133, k_144, k_145, k_153, k_193, k_203, k_211, k_227, k_255, k_256, k_280, k_300, k_313, k_371, k_433, k_705, k_997, k_999, k_1000, k_4176, k_4547, k_9999, k_10000, k_30557, k_99999, k_1000000, k_1000000000, nI_add, pk_mul, w_sub, w_rem, w_div, w_dv, w_rm, nI_leI, nI_ltI, nI_eq, w_em, w_me, w_lm, w_ml, w_lem, w_mle, bnd, Option.some.injEq, xI_n, yI_n, xL_n, yL_n, xP_n, xG_n, I_same, I_row, I_col, L_1, Q_1, R_same, R_row, if_pos, if_neg, ite_self, not_true, not_false, decide_true, decide_false, Nat.add_assoc, true_and, and_true, Nat.zero_add, Nat.add_zero, Nat.mul_zero, Nat.mul_one, Nat.one_mul, eq_self, decide_eq_true, decide_eq_false, Bool.true_eq_false, Bool.false_eq_true, ↓reduceIte, Nat.reduceAdd, Nat.reduceMul, Nat.reduceSub, Nat.reduceDiv, Nat.reduceMod, bb_t, bb_f, hf]
  exact a1
end SMU
