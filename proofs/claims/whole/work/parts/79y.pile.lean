/-! the reference's pile as a list, its top first -/
def rkO (x : Nat) : Nat := if 40 ≤ x then 0 else if x = 22 then 1 else if x = 21 then 2 else if x = 20 then 3 else if 10 ≤ x then 4 else if x = 5 then 7 else if x = 2 then 7 else if x = 3 then 7 else if x < 8 then 5 else 6
def PLs (υ : ST) (p : List Nat) : Prop := match p with
  | [] => True
  | x :: p => υ.1 647 p.length = nI x ∧ x ≤ 43 ∧ PLs υ p
def opn (p : List Nat) : Option Nat := match p with
  | [] => none
  | x :: p => if 40 ≤ x then some x else opn p
def opA (p : List Nat) : Nat := match p with
  | [] => 0
  | x :: p => if 40 ≤ x then p.length + 1 else opA p
def cmpd (p : List Nat) : Bool := match p with
  | [] => false
  | x :: p => if rkO x ≤ 4 then decide (rkO x = 4) else cmpd p
def topr (p : List Nat) : Nat := match p with
  | [] => 0
  | x :: _ => rkO x
def askA (p : List Nat) : Prop := opn p = some 41 ∧ (topr p ≤ 3)
def onv (o : Option Nat) : Int32 := match o with
  | none => -1
  | some x => nI x
def RDr (υ : ST) (t lw o k : Nat) (p : List Nat) (b : Bool) : Prop := υ.1 642 12 = nI (705 * t) ∧ υ.1 642 13 = nI k ∧ υ.1 642 14 = nI lw ∧ υ.1 642 16 = nI p.length ∧ υ.1 642 17 = nI o ∧ υ.1 642 18 = jz b ∧ PLs υ p
def RDc (σ : ST) (lw o i : Nat) : Prop := σ.1 595 3 = nI lw ∧ σ.1 595 4 = nI o ∧ σ.1 595 5 = nI i
/-- what is emitted -/
def EM (t : Nat) (υ : ST) (k x v : Nat) : Prop := υ.1 645 (705 * t + (97 + 2 * k)) = nI x ∧ υ.1 645 (705 * t + (97 + (2 * k + 1))) = nI v
/-- what the reference may touch: without, with its tokens -/
def FRp (t k : Nat) (υ υ' : ST) : Prop := (∀ a j, ¬ (a = 642 ∧ (j = 13 ∨ (16 ≤ j ∧ j ≤ 18))) → a ≠ 647 → ¬ (a = 645 ∧ 705 * t + (97 + 2 * k) ≤ j ∧ j < 705 * t + 705) → υ'.1 a j = υ.1 a j) ∧ υ'.2 = υ.2
def FRr (t k : Nat) (υ υ' : ST) : Prop := (∀ a j, ¬ (a = 642 ∧ ((7 ≤ j ∧ j ≤ 10) ∨ j = 13 ∨ (16 ≤ j ∧ j ≤ 18))) → a ≠ 647 → ¬ (a = 645 ∧ 705 * t + (97 + 2 * k) ≤ j ∧ j < 705 * t + 705) → υ'.1 a j = υ.1 a j) ∧ (∀ a j, ¬ (a = 642 ∧ j = 11) → υ'.2.1 a j = υ.2.1 a j) ∧ υ'.2.2 = υ.2.2
def FCz (σ σ' : ST) : Prop := (∀ a j, ¬ (a = 593 ∧ 2 ≤ j ∧ j ≤ 5) → ¬ (a = 595 ∧ (j = 1 ∨ j = 2 ∨ j = 4 ∨ j = 5)) → ¬ (a = 596 ∨ a = 597) → σ'.1 a j = σ.1 a j) ∧ σ'.2 = σ.2
def FCc (i : Nat) (σ σ' : ST) : Prop := (∀ a j, ¬ (a = 593 ∧ 2 ≤ j ∧ j ≤ 5) → ¬ (a = 595 ∧ (j = 4 ∨ j = 5)) → ¬ ((a = 596 ∨ a = 597) ∧ i ≤ j) → σ'.1 a j = σ.1 a j) ∧ σ'.2 = σ.2
section PIL
variable {N : Mem} {σ τ υ υ' υ'' : ST} {B : Nat → Nat} {L q kc t lw o k k' i i' x v a : Nat} {p : List Nat} {b : Bool}
theorem rank_a : (List.range 44).all (fun x => decide (f_X11_rank (nI x) = some (nI (rkO x)))) = true := by decide +kernel
theorem rank_e (h : x ≤ 43) : f_X11_rank (nI x) = some (nI (rkO x)) := of_decide_eq_true (List.all_eq_true.mp rank_a x (List.mem_range.mpr (by omega)))
theorem rkO_b : rkO x ≤ 7 := by
  unfold rkO
  repeat' split
  all_goals omega
theorem rkO_0 : rkO x = 0 ↔ 40 ≤ x := by
  unfold rkO
  constructor
  · intro h
    repeat' split at h
    all_goals omega
  · intro h
    rw [if_pos h]
theorem FRp.rfl : FRp t k υ υ := ⟨fun _ _ _ _ _ => Eq.refl _, Eq.refl _⟩
theorem FRp.tr (h1 : FRp t k υ υ') (h2 : FRp t k' υ' υ'') (hk : k ≤ k') : FRp t k υ υ'' := ⟨fun a j q1 q2 q3 => (h2.1 a j q1 q2 (by omega)).trans (h1.1 a j q1 q2 q3), h2.2.trans h1.2⟩
theorem FRr.rfl : FRr t k υ υ := ⟨fun _ _ _ _ _ => Eq.refl _, fun _ _ _ => Eq.refl _, Eq.refl _⟩
theorem FRr.tr (h1 : FRr t k υ υ') (h2 : FRr t k' υ' υ'') (hk : k ≤ k') : FRr t k υ υ'' := ⟨fun a j q1 q2 q3 => (h2.1 a j q1 q2 (by omega)).trans (h1.1 a j q1 q2 q3), fun a j q1 => (h2.2.1 a j q1).trans (h1.2.1 a j q1), h2.2.2.trans h1.2.2⟩
theorem FRp.r (h : FRp t k υ υ') : FRr t k υ υ' := ⟨fun a j q1 q2 q3 => h.1 a j (by omega) q2 q3, fun a j _ => by rw [h.2], by rw [h.2]⟩
theorem FCc.rfl : FCc i σ σ := ⟨fun _ _ _ _ _ => Eq.refl _, Eq.refl _⟩
theorem FCc.tr {σ' σ'' : ST} (h1 : FCc i σ σ') (h2 : FCc i' σ' σ'') (hk : i ≤ i') : FCc i σ σ'' := ⟨fun a j q1 q2 q3 => (h2.1 a j q1 q2 (by omega)).trans (h1.1 a j q1 q2 q3), h2.2.trans h1.2⟩
theorem FCc.dn {σ' : ST} (h : FCc i σ σ') (hk : i' ≤ i) : FCc i' σ σ' := ⟨fun a j q1 q2 q3 => h.1 a j q1 q2 (by omega), h.2⟩
theorem FCc.z {σ' : ST} (h : FCc i σ σ') : FCz σ σ' := ⟨fun a j q1 q2 q3 => h.1 a j q1 (by omega) (by omega), h.2⟩
theorem FCz.tr {σ' σ'' : ST} (h1 : FCz σ σ') (h2 : FCz σ' σ'') : FCz σ σ'' := ⟨fun a j q1 q2 q3 => (h2.1 a j q1 q2 q3).trans (h1.1 a j q1 q2 q3), h2.2.trans h1.2⟩
theorem FCz.rfl : FCz σ σ := ⟨fun _ _ _ _ _ => Eq.refl _, Eq.refl _⟩
theorem TKN.pp (h : TKN B L σ υ q kc) (hf : FRp t k υ υ') : TKN B L σ υ' q kc := by
  obtain ⟨⟨hB, b1, b2, hq⟩, h1, ⟨r1, r2, r3⟩, r4, r5⟩ := h
  have e : ∀ j, 4 ≤ j → j ≤ 10 → υ'.1 642 j = υ.1 642 j := fun j _ _ => hf.1 _ _ (by omega) (by omega) (by omega)
  refine ⟨⟨hB, b1, b2.f (fun j => hf.1 _ _ (by omega) (by omega) (by omega)) (e 4 (by omega) (by omega)), hq⟩, h1, ⟨?_, ?_, ?_⟩, fun hk => ?_, fun a1 a2 => ?_⟩
  · rw [e 8 (by omega) (by omega)]; exact r1
  · rw [e 7 (by omega) (by omega)]; exact r2
  · rw [e 9 (by omega) (by omega)]; exact r3
  · rw [e 10 (by omega) (by omega)]; exact r4 hk
  · rw [hf.2]; exact r5 a1 a2
theorem TKN.cc {σ' : ST} (h : TKN B L σ υ q kc) (hf : ∀ j, σ'.1 593 j = σ.1 593 j) (h2 : ∀ j, σ'.1 594 j = σ.1 594 j) : TKN B L σ' υ q kc := by
  obtain ⟨⟨hB, b1, b2, hq⟩, ⟨c1, c2, c3, c4⟩, h3, r4, r5⟩ := h
  refine ⟨⟨hB, b1.f h2 (hf _), b2, hq⟩, ⟨?_, ?_, ?_, c4⟩, h3, fun hk => ?_, r5⟩
  · rw [hf]; exact c1
  · rw [hf]; exact c2
  · rw [hf]; exact c3
  · rw [hf]; exact r4 hk
theorem PLs.fr (h : PLs υ p) (hf : ∀ j, j < p.length → υ'.1 647 j = υ.1 647 j) : PLs υ' p := by
  induction p with
  | nil => exact trivial
  | cons x p ih =>
    have hl : (x :: p).length = p.length + 1 := rfl
    exact ⟨(hf _ (by omega)).trans h.1, h.2.1, ih h.2.2 (fun j hj => hf j (by omega))⟩
theorem jm1 (n : Nat) : nI n + (-1) = nI n - 1 := (Int32.sub_eq_add_neg _ _).symm
/-- what is open at last -/
theorem oA_e (h : PLs υ p) (hl : p.length ≤ 160) : ∀ n, g_X11_openAt_7 N (n + (p.length + 1)) 642 (nI p.length - 1) υ = some (nI (opA p) - 1) := by
  intro n
  induction p with
  | nil =>
    show g_X11_openAt_7 N (n + 0 + 1) 642 (nI 0 - 1) υ = some (nI 0 - 1)
    rw [g_X11_openAt_7, if_pos (by decide)]
  | cons x p ih =>
    obtain ⟨h1, h2, h3⟩ := h
    have hl' : p.length + 1 ≤ 160 := hl
    have e1 : nI (x :: p).length - 1 = nI p.length := nI_pred _
    have e2 : n + ((x :: p).length + 1) = n + (p.length + 1) + 1 := rfl
    rw [e1, e2, g_X11_openAt_7, if_neg (nI_pos (by omega)), xI_n (by omega) (by omega)]
    show ((some (υ.1 647 p.length)).bind _) = _
    rw [h1, bnd, show (40 : Int32) = nI 40 from rfl]
    unfold opA
    by_cases c : 40 ≤ x
    · rw [if_pos (nI_le c (by omega)), if_pos c, nI_pred]
    · rw [if_neg (nI_ge (by omega) (by omega)), if_neg c, jm1]
      exact ih h3 (by omega)
theorem opA_b : opA p ≤ p.length := by
  induction p with
  | nil => exact Nat.le_refl _
  | cons x p ih =>
    unfold opA
    have : (x :: p).length = p.length + 1 := rfl
    by_cases c : 40 ≤ x
    · rw [if_pos c]; omega
    · rw [if_neg c]; omega
theorem opA_n (h : PLs υ p) : (opA p = 0 ∧ opn p = none) ∨ ∃ x, 1 ≤ opA p ∧ opn p = some x ∧ υ.1 647 (opA p - 1) = nI x ∧ 40 ≤ x ∧ x ≤ 43 := by
  induction p with
  | nil => exact Or.inl ⟨rfl, rfl⟩
  | cons x p ih =>
    unfold opA opn
    by_cases c : 40 ≤ x
    · right
      rw [if_pos c, if_pos c]
      exact ⟨x, by omega, rfl, h.1, c, h.2.1⟩
    · rw [if_neg c, if_neg c]
      exact ih h.2.2
theorem oAt_e (h : RDr υ t lw o k p b) (hl : p.length ≤ 160) : g_X11_openAt N 642 υ = some (nI (opA p) - 1) := by
  obtain ⟨_, _, _, h4, _, _, h7⟩ := h
  unfold g_X11_openAt g_X11_openAt_0
  obtain ⟨z, hz⟩ : ∃ z, fu = z + (p.length + 1) := ⟨1000000 - (p.length + 1), by unfold fu; omega⟩
  rw [hz, h4]
  exact oA_e h7 hl z
theorem opn_e (h : RDr υ t lw o k p b) (hl : p.length ≤ 160) : g_X11_openNow N 642 υ = some (onv (opn p)) := by
  have hA := oAt_e (N := N) h hl
  have hb := opA_b (p := p)
  unfold g_X11_openNow g_X11_openNow_0
  rw [hA, bnd, bnd]
  rcases opA_n h.2.2.2.2.2.2 with ⟨h1, h2⟩ | ⟨x, h1, h2, h3, h4⟩
  · rw [h1, h2, if_neg (by decide)]
    rfl
  · rw [h2, show (1 : Int32) = nI 1 from rfl, pk_sub h1, show (0 : Int32) = nI 0 from rfl, if_pos (nI_le (by omega) (by omega)), xI_n (by omega) (by omega)]
    show ((some (υ.1 647 (opA p - 1))).bind _) = _
    rw [h3, bnd]
    rfl
/-- whether it has been compared -/
theorem iC_e (h : PLs υ p) (hl : p.length ≤ 160) : ∀ n, g_X11_isCompared_7 N (n + (p.length + 1)) 642 (nI p.length - 1) υ = some (cmpd p) := by
  intro n
  induction p with
  | nil =>
    show g_X11_isCompared_7 N (n + 0 + 1) 642 (nI 0 - 1) υ = some false
    rw [g_X11_isCompared_7, if_pos (by decide)]
    unfold g_X11_isCompared_30
    rw [if_pos (by decide)]
  | cons x p ih =>
    obtain ⟨h1, h2, h3⟩ := h
    have hl' : p.length + 1 ≤ 160 := hl
    have hr := rkO_b (x := x)
    have e1 : nI (x :: p).length - 1 = nI p.length := nI_pred _
    have e2 : n + ((x :: p).length + 1) = n + (p.length + 1) + 1 := rfl
    have ex : xI 160 υ (642 + 5) (nI p.length) = some (nI x) := by
      rw [xI_n (by omega) (by omega)]
      exact congrArg some h1
    rw [e1, e2, g_X11_isCompared_7, if_neg (nI_pos (by omega)), ex, bnd, rank_e h2, bnd, show (4 : Int32) = nI 4 from rfl]
    unfold cmpd
    by_cases c : rkO x ≤ 4
    · rw [if_pos (nI_le c (by omega)), if_pos c]
      unfold g_X11_isCompared_30
      rw [if_neg (nI_pos (by omega)), ex, bnd, rank_e h2, bnd, show (4 : Int32) = nI 4 from rfl]
      by_cases d : rkO x = 4
      · rw [d, if_pos rfl]
        rfl
      · rw [if_neg (fun y => d ((nI_eq (by omega) (by omega)).mp y)), decide_eq_false d]
    · rw [if_neg (nI_ge (by omega) (by omega)), if_neg c, jm1]
      exact ih h3 (by omega)
theorem cmp_e (h : RDr υ t lw o k p b) (hl : p.length ≤ 160) : g_X11_isCompared N 642 υ = some (cmpd p) := by
  obtain ⟨_, _, _, h4, _, _, h7⟩ := h
  unfold g_X11_isCompared g_X11_isCompared_0
  obtain ⟨z, hz⟩ : ∃ z, fu = z + (p.length + 1) := ⟨1000000 - (p.length + 1), by unfold fu; omega⟩
  rw [hz, h4]
  exact iC_e h7 hl z
theorem onv_41 (h : PLs υ p) : onv (opn p) = 41 ↔ opn p = some 41 := by
  rcases opA_n h with ⟨_, h2⟩ | ⟨x, _, h2, _, h4, h5⟩
  · rw [h2]
    exact ⟨fun y => absurd y (by decide), fun y => by cases y⟩
  · rw [h2]
    show nI x = nI 41 ↔ _
    rw [nI_eq (by omega) (by omega)]
    exact ⟨fun y => by rw [y], fun y => Option.some.inj y⟩
theorem ask_e (h : RDr υ t lw o k p b) (hl : p.length ≤ 160) : ∃ d, g_X11_isAskAhead N 642 υ = some d ∧ (d = true ↔ askA p) := by
  have hO := opn_e (N := N) h hl
  have h41 := onv_41 h.2.2.2.2.2.2
  obtain ⟨_, _, _, h4, _, _, h7⟩ := h
  unfold g_X11_isAskAhead g_X11_isAskAhead_0
  rw [hO, bnd]
  by_cases c : opn p = some 41
  · rw [if_pos (h41.mpr c)]
    cases p with
    | nil => cases c
    | cons x p =>
      obtain ⟨h1, h2, h3⟩ := h7
      have hl' : p.length + 1 ≤ 160 := hl
      have hr := rkO_b (x := x)
      have h0 := rkO_0 (x := x)
      have ex : xI 160 υ (642 + 5) (υ.1 642 16 - 1) = some (nI x) := by
        rw [h4, show nI (x :: p).length - 1 = nI p.length from nI_pred _, xI_n (by omega) (by omega)]
        exact congrArg some h1
      rw [ex, bnd, bnd, rank_e h2, bnd, show (40 : Int32) = nI 40 from rfl, show (1 : Int32) = nI 1 from rfl, show (3 : Int32) = nI 3 from rfl, wi11, bnd]
      by_cases c1 : 40 ≤ x
      · rw [if_pos (nI_le c1 (by omega))]
        refine ⟨true, rfl, fun _ => ⟨c, ?_⟩, fun _ => rfl⟩
        show rkO x ≤ 3
        omega
      · rw [if_neg (nI_ge (by omega) (by omega))]
        by_cases c2 : rkO x ≤ 3
        · rw [in_t (by omega) c2 (by omega), if_neg (by decide)]
          exact ⟨true, rfl, fun _ => ⟨c, c2⟩, fun _ => rfl⟩
        · rw [in_f (fun y => nI_ge (by omega) (by omega) y.2), if_pos rfl]
          exact ⟨false, rfl, fun y => (by cases y), fun y => absurd y.2 c2⟩
  · rw [if_neg (fun y => c (h41.mp y))]
    exact ⟨false, rfl, fun y => (by cases y), fun y => absurd y.1 c⟩
/-- a piece of code is emitted -/
def emS (t k x v : Nat) (υ : ST) : ST := setI (setI (setI υ 645 (705 * t + (97 + 2 * k)) (nI x)) 645 (705 * t + (97 + (2 * k + 1))) (nI v)) 642 13 (nI (k + 1))
theorem em_e (h1 : υ.1 642 12 = nI (705 * t)) (h2 : υ.1 642 13 = nI k) (ht : t < 4) (hk : k ≤ 303) : g_X11_emit N 642 (nI x) (nI v) υ = some (emS t k x v υ) := by
  unfold g_X11_emit g_X11_emit_0 emS
  simp (disch := omega) only [k_0, k_1, k_2, k_3, k_4, k_5, k_6, k_7, k_8, k_9, k_10, k_11, k_12, k_13, k_14, k_15, k_16, k_17, k_18, k_19, k_20, k_21, k_22, k_23, k_24, k_25, k_26, k_27, k_28, k_29, k_30, k_31, k_32, k_33, k_34, k_35, k_36, k_37, k_38, k_39, k_40, k_41, k_42, k_43, k_44, k_45, k_46, k_47, k_48, k_49, k_50, k_51, k_52, k_53, k_54, k_55, k_56, k_57, k_58, k_59, k_60, k_61, k_62, k_63, k_64, k_65, k_66, k_67, k_68, k_69, k_70, k_71, k_72, k_73, k_74, k_75, k_76, k_77, k_78, k_79, k_80, k_81, k_82, k_83, k_84, k_85, k_86, k_87, k_88, k_89, k_90, k_91, k_92, k_93, k_94, k_95, k_96, k_97, k_98, k_99, k_100, k_101, k_102, k_103, k_104, k_105, k_106, k_107, k_108, k_109, k_110, k_111, k_112, k_113, k_114, k_115, k_116, k_117, k_118, k_119, k_120, k_121, k_122, k_123, k_124, k_125, k_126, k_127, k_128, k_129, k_130, k_133, k_144, k_145, k_153, k_193, k_203, k_211, k_227, k_255, k_256, k_280, k_300, k_313, k_371, k_433, k_705, k_997, k_999, k_1000, k_4176, k_4547, k_9999, k_10000, k_30557, k_99999, k_1000000, k_1000000000, nI_add, pk_mul, w_sub, w_rem, w_div, w_dv, w_rm, nI_leI, nI_ltI, nI_eq, w_em, w_me, w_lm, w_ml, w_lem, w_mle, bnd, Option.some.injEq, xI_n, yI_n, xL_n, yL_n, xP_n, xG_n, I_same, I_row, I_col, L_1, Q_1, R_same, R_row, if_pos, if_neg, ite_self, not_true, not_false, decide_true, decide_false, Nat.add_assoc, true_and, and_true, Nat.zero_add, Nat.add_zero, Nat.mul_zero, Nat.mul_one, Nat.one_mul, eq_self, decide_eq_true, decide_eq_false, Bool.true_eq_false, Bool.false_eq_true, ↓reduceIte, Nat.reduceAdd, Nat.reduceMul, Nat.reduceSub, Nat.reduceDiv, Nat.reduceMod, bb_t, bb_f, h1, h2]
theorem em_f (hk : k ≤ 303) : FRp t k υ (emS t k x v υ) := by
  refine ⟨fun a j q1 q2 q3 => ?_, rfl⟩
  unfold emS
  refine Eq.trans (if_neg (by omega)) (Eq.trans (if_neg ?_) (if_neg ?_))
  · omega
  · omega
end PIL
