/-! settling; the reference's loop -/
def Pp (N : Mem) (m a : Nat) (υ υ2 : ST) : Prop := ∀ b n, 1 ≤ b → b ≤ a → g_X11_settle_0 N (n + m) 642 (nI b) υ = g_X11_settle_0 N n 642 (nI b) υ2
def Go (N : Mem) (d : Nat) (υ υ' : ST) : Prop := ∃ m, m ≤ d ∧ ∀ n, g_X11_summed_15 N (n + m) 642 υ = g_X11_summed_15 N n 642 υ'
theorem tnf : ¬ (true : Bool) = false := fun y => Bool.noConfusion y
theorem fnt : ¬ (false : Bool) = true := fun y => Bool.noConfusion y
section POP
variable {N : Mem} {σ τ υ υ' υ2 υ'' : ST} {B : Nat → Nat} {L q kc t lw o k k' i i' x v a m m' d d' c f : Nat} {p : List Nat} {b : Bool}
theorem em_r (h : RDr υ t lw o k p b) : RDr (emS t k x v υ) t lw o (k + 1) p b ∧ (k ≤ 303 → EM t (emS t k x v υ) k x v) := by
  obtain ⟨h1, h2, h3, h4, h5, h6, h7⟩ := h
  refine ⟨⟨?_, ?_, ?_, ?_, ?_, ?_, h7.fr (fun j _ => ?_)⟩, fun _ => ⟨?_, ?_⟩⟩
  all_goals unfold emS
  all_goals simp (disch := omega) only [I_same, I_row, I_col]
  all_goals assumption
theorem pop_e (h : RDr υ t lw o k (x :: p) b) (ht : t < 4) (hk : k ≤ 303) (hl : p.length < 160) (hx : 1 ≤ rkO x) (ho : rkO x = 7 ∨ x = 20 → 1 ≤ o) : ∃ υ', Pp N 1 (rkO x) υ υ' ∧ RDr υ' t lw (if rkO x = 7 ∨ x = 20 then o - 1 else o) (k + 1) p b ∧ FRp t k υ υ' ∧ EM t υ' k x 0 := by
  obtain ⟨h1, h2, h3, h4, h5, h6, h7, h8, h9⟩ := h
  have hr := rkO_b (x := x)
  have h4' : υ.1 642 16 = nI (p.length + 1) := h4
  have a16 : υ.1 642 16 - 1 = nI p.length := by rw [h4', nI_pred]
  have R1 : RDr (setI υ 642 16 (nI p.length)) t lw o k p b := by
    refine ⟨?_, ?_, ?_, I_same rfl rfl, ?_, ?_, h9.fr (fun j _ => I_row (by omega))⟩
    all_goals simp (disch := omega) only [I_col]
    all_goals assumption
  have R2 := (em_r (x := x) (v := 0) R1).1
  have E2 := (em_r (x := x) (v := 0) R1).2 hk
  have F1 : FRp t k υ (setI υ 642 16 (nI p.length)) := ⟨fun a j q1 q2 q3 => if_neg (by omega), rfl⟩
  have F2 : FRp t k υ (emS t k x 0 (setI υ 642 16 (nI p.length))) := F1.tr (em_f hk) (Nat.le_refl _)
  have em : g_X11_emit N 642 (nI x) 0 (setI υ 642 16 (nI p.length)) = some (emS t k x 0 (setI υ 642 16 (nI p.length))) := em_e R1.1 R1.2.1 ht hk
  have ex0 : xI 160 υ (642 + 5) (nI p.length) = some (nI x) := by
    rw [xI_n (by omega) (by omega)]
    exact congrArg some h7
  have ex1 : xI 160 (setI υ 642 16 (nI p.length)) (642 + 5) ((setI υ 642 16 (nI p.length)).1 642 16) = some (nI x) := by
    rw [R1.2.2.2.1, xI_n (by omega) (by omega)]
    exact congrArg some ((I_row (by omega)).trans h7)
  have ex2 : xI 160 (emS t k x 0 (setI υ 642 16 (nI p.length))) (642 + 5) ((emS t k x 0 (setI υ 642 16 (nI p.length))).1 642 16) = some (nI x) := by
    rw [R2.2.2.2.1, xI_n (by omega) (by omega)]
    refine congrArg some (Eq.trans ?_ h7)
    unfold emS
    simp (disch := omega) only [I_row]
  generalize hυ2 : emS t k x 0 (setI υ 642 16 (nI p.length)) = υ2 at *
  have start : ∀ b n, 1 ≤ b → b ≤ rkO x → g_X11_settle_0 N (n + 1) 642 (nI b) υ = if nI (rkO x) = nI 7 then g_X11_settle_80 N (g_X11_settle_0 N n) 642 (nI b) υ2 else if nI x = nI 20 then g_X11_settle_80 N (g_X11_settle_0 N n) 642 (nI b) υ2 else g_X11_settle_0 N n 642 (nI b) υ2 := by
    intro b n b1 b2
    rw [g_X11_settle_0, show (7 : Int32) = nI 7 from rfl, show (20 : Int32) = nI 20 from rfl, a16, if_neg (by rw [h4']; exact nI_nle (by omega) (by omega)), ex0, bnd, rank_e h8, bnd, if_neg (nI_nlt b2 (by omega)), bnd, ex1, bnd, em, bnd, ex2, bnd, rank_e h8, bnd, bnd]
  by_cases c : rkO x = 7 ∨ x = 20
  · rw [if_pos c]
    have ho' := ho c
    refine ⟨setI υ2 642 17 (nI (o - 1)), fun b n b1 b2 => ?_, ?_, F2.tr ⟨fun a j q1 q2 q3 => if_neg (by omega), rfl⟩ (Nat.le_refl _), ?_⟩
    · have e80 : g_X11_settle_80 N (g_X11_settle_0 N n) 642 (nI b) υ2 = g_X11_settle_0 N n 642 (nI b) (setI υ2 642 17 (nI (o - 1))) := by
        unfold g_X11_settle_80
        rw [bnd, R2.2.2.2.2.1, show (1 : Int32) = nI 1 from rfl, pk_sub ho']
      rw [start b n b1 b2, e80]
      by_cases c1 : rkO x = 7
      · rw [c1, if_pos rfl]
      · have c2 : x = 20 := by omega
        rw [if_neg (fun y => c1 ((nI_eq (b := 7) (by omega) (by omega)).mp y)), c2, if_pos rfl]
    · obtain ⟨q1, q2, q3, q4, q5, q6, q7⟩ := R2
      refine ⟨?_, ?_, ?_, ?_, I_same rfl rfl, ?_, q7.fr (fun j _ => I_row (by omega))⟩
      all_goals simp (disch := omega) only [I_col]
      all_goals assumption
    · refine ⟨?_, ?_⟩
      all_goals simp (disch := omega) only [I_row]
      · exact E2.1
      · exact E2.2
  · rw [if_neg c]
    refine ⟨υ2, fun b n b1 b2 => ?_, R2, F2, E2⟩
    rw [start b n b1 b2, if_neg (fun y => c (Or.inl ((nI_eq (b := 7) (by omega) (by omega)).mp y))), if_neg (fun y => c (Or.inr ((nI_eq (b := 20) (by omega) (by omega)).mp y)))]
theorem Pp.rfl : Pp N 0 a υ υ := fun _ _ _ _ => Eq.refl _
theorem Pp.tr (h1 : Pp N m a υ υ') (h2 : Pp N m' a υ' υ'') : Pp N (m' + m) a υ υ'' := by
  intro b n b1 b2
  rw [← Nat.add_assoc, h1 b _ b1 b2, h2 b _ b1 b2]
theorem Pp.dn {a' : Nat} (h1 : Pp N m a υ υ') (h : a' ≤ a) : Pp N m a' υ υ' := fun b n b1 b2 => h1 b n b1 (by omega)
theorem st_end (h : RDr υ t lw o k p b) (hl : p.length ≤ 160) (ha : topr p < a) (h7 : a ≤ 7) (n : Nat) : g_X11_settle_0 N (n + 1) 642 (nI a) υ = some υ := by
  obtain ⟨_, _, _, h4, _, _, h8⟩ := h
  rw [g_X11_settle_0, h4]
  cases p with
  | nil => rw [if_pos (by decide)]
  | cons x p =>
    have hr := rkO_b (x := x)
    have ha : rkO x < a := ha
    have hl : p.length + 1 ≤ 160 := hl
    have e : nI (x :: p).length - 1 = nI p.length := nI_pred _
    have ex0 : xI 160 υ (642 + 5) (nI p.length) = some (nI x) := by
      rw [xI_n (by omega) (by omega)]
      exact congrArg some h8.1
    have hne : ¬ nI (x :: p).length ≤ 0 := nI_nle (n := p.length + 1) (by omega) (by omega)
    rw [if_neg hne, e, ex0, bnd, rank_e h8.2.1, bnd, if_pos (nI_lt ha (by omega))]
theorem st_fu (h1 : Pp N m a υ υ2) (hm : m ≤ 200) (h : RDr υ2 t lw o k p b) (hl : p.length ≤ 160) (hc : topr p < c) (h0 : c ≤ a) (h7 : c ≤ 7) : g_X11_settle N 642 (nI c) υ = some υ2 := by
  unfold g_X11_settle
  obtain ⟨z, hz⟩ : ∃ z, fu = z + 1 + m := ⟨1000000 - 1 - m, by unfold fu; omega⟩
  rw [hz, h1 c _ (by omega) h0, st_end h hl hc h7]
theorem Go.rfl : Go N d υ υ := ⟨0, Nat.zero_le _, fun _ => Eq.refl _⟩
theorem Go.tr (h1 : Go N d υ υ') (h2 : Go N d' υ' υ'') : Go N (d + d') υ υ'' := by
  obtain ⟨m, hm, e⟩ := h1
  obtain ⟨m', hm', e'⟩ := h2
  refine ⟨m' + m, by omega, fun n => ?_⟩
  rw [← Nat.add_assoc, e, e']
theorem Go.wk (h1 : Go N d υ υ') (h : d ≤ d') : Go N d' υ υ' := by
  obtain ⟨m, hm, e⟩ := h1
  exact ⟨m, by omega, e⟩
theorem zb_j (b : Bool) : zb (jz b) = some b := by cases b <;> rfl
theorem be_f {υe : ST} (h : υ.1 642 18 = jz false) (hb : g_X11_beginOne N 642 υ = some (nI f, υe)) (h1 : 1 ≤ f) (h2 : f ≤ 6) (n : Nat) : g_X11_summed_15 N (n + 1) 642 υ = some (nI f, υe) := by
  rw [g_X11_summed_15, h, zb_j, bnd, if_pos rfl, hb, bnd, if_neg (nI_ne0 (by omega) (by omega))]
theorem be_g (h : υ.1 642 18 = jz false) (hb : g_X11_beginOne N 642 υ = some (0, υ')) : Go N 1 υ υ' := by
  refine ⟨1, Nat.le_refl _, fun n => ?_⟩
  rw [g_X11_summed_15, h, zb_j, bnd, if_pos rfl, hb, bnd, if_pos rfl]
theorem bh_g (h : υ.1 642 18 = jz true) (hb : g_X11_behindOne N 642 υ = some (true, υ')) : Go N 1 υ υ' := by
  refine ⟨1, Nat.le_refl _, fun n => ?_⟩
  rw [g_X11_summed_15, h, zb_j, bnd, if_neg (by first | decide | exact tnf | exact fnt), hb, bnd, if_neg (by first | decide | exact tnf | exact fnt)]
end POP
