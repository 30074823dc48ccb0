/-! a law's clause -/
/-- a law's clause, as the class reads it behind its first word -/
noncomputable def gx_law (N : Mem) (x0 : Nat) (x1 : Int32) (σ : ST) : Option (Bool × ST) :=
  (some (setI σ x0 3 x1)).bind fun r1 =>
  (yI 3 r1 (x0 + 3) x1 (r1.1 x0 5)).bind fun r2 =>
  (g_X2_readSum N x0 r2).bind fun r3 =>
  (yI 3 r3.2 (x0 + 4) x1 (r3.2.1 x0 5)).bind fun r4 =>
  some (r3.1, r4)
theorem ob4 {α β γ δ ε ζ : Type} (a : α) (F : α → Option β) (S : β → Option γ) (Y : γ → Option δ) (P : γ → ε) (g : ε → δ → Option ζ) : ((some a).bind fun r6 => (F r6).bind fun r7 => (S r7).bind fun r8 => (Y r8).bind fun r9 => g (P r8) r9) = ((some a).bind fun r1 => (F r1).bind fun r2 => (S r2).bind fun r3 => (Y r3).bind fun r4 => some (P r3, r4)).bind fun r => g r.1 r.2 := by
  show (F a).bind _ = ((F a).bind _).bind _
  cases F a with
  | none => rfl
  | some b =>
    show (S b).bind _ = ((S b).bind _).bind _
    cases S b with
    | none => rfl
    | some c =>
      show (Y c).bind _ = ((Y c).bind _).bind _
      cases Y c <;> rfl
theorem rc40 {N : Mem} {x0 : Nat} {x1 : Int32} {σ : ST} : g_X2_readClause_40 N x0 x1 σ = if (σ.1 x0 6) < 24 then
    ((g_X7_advance N 593 σ).bind fun r3 =>
    (yI 72 r3 (x0 + 5) ((r3.1 x0 6) * 3) x1).bind fun r4 =>
    if 3 ≤ x1 then
    ((g_X2_readOrder N x0 x1 r4).bind fun r5 =>
    g_X2_readClause_119 N x0 r5.1 r5.2)
    else
    ((gx_law N x0 x1 r4).bind fun r6 =>
    g_X2_readClause_119 N x0 r6.1 r6.2))
    else
    ((g_X2_refuse N x0 6 σ).bind fun r7 =>
    some (r7.1, r7.2)) := by
  unfold g_X2_readClause_40
  by_cases c : (σ.1 x0 6) < 24
  · rw [if_pos c, if_pos c]
    refine congrArg (Option.bind _) (funext fun r3 => congrArg (Option.bind _) (funext fun r4 => ?_))
    by_cases c3 : 3 ≤ x1
    · rw [if_pos c3, if_pos c3]
    · rw [if_neg c3, if_neg c3]
      unfold gx_law
      exact ob4 (setI r4 x0 3 x1) (fun r => yI 3 r (x0 + 3) x1 (r.1 x0 5)) (g_X2_readSum N x0) (fun r => yI 3 r.2 (x0 + 4) x1 (r.2.1 x0 5)) (fun r => r.1) (g_X2_readClause_119 N x0)
  · rw [if_neg c, if_neg c]
section LWC
variable {N : Mem} {σ σ' σ1 σ2 τ υ υ' υ1 υ2 υ3 υe : ST} {B : Nat → Nat} {L q q1 q2 q3 kc kc1 kc2 t lw o j l k i x v w a m d c c0 f e n : Nat} {p : List Nat} {b : Bool}
/-- the sum of a law: from both readers' beginnings to their ends -/
theorem sum_top (h : S2 B L t lw σ υ q kc 0 0 i k [] false) (ht : t < 4) (hlw : lw < 3) : ∃ σ', (g_X2_readSum N 595 σ = some (true, σ') ∧ ∃ υ2 q' kc' j l, g_X11_summed_15 N fu 642 υ = some (0, υ2) ∧ q < q' ∧ S2 B L t lw σ' υ2 q' kc' 0 0 j l [] true ∧ SG false t σ' υ2 i j k l ∧ FCc i σ σ' ∧ FRr t k υ υ2) ∨ (g_X2_readSum N 595 σ = some (false, σ') ∧ FCz σ σ' ∧ ∃ f υe, 1 ≤ f ∧ f ≤ 6 ∧ g_X11_summed_15 N fu 642 υ = some (nI f, υe) ∧ σ'.1 595 1 = nI f ∧ σ'.1 595 2 = υe.1 642 8 ∧ FRr t k υ υe) := by
  have hL := tk_le h.1
  obtain ⟨σ', ⟨e1, q', kc', ⟨f1, υ', υ2, j, l, pend, o1, l1, g1, g2, g3, g4, g5, g6, g7, g8, s, g9, g10, g11⟩, hR⟩ | ⟨e1, f1, f, υe, m, x1, x2, x3, x4, x5, x6, x7⟩⟩ := (rd_all N 100 0 (by omega)).2.2.1 (by omega) B L t lw σ υ q kc i k [] ⟨h, ht, hlw, by omega, by show 0 ≤ 7 * 0 + 3; omega⟩ (fun _ y => by have := y.1; cases this) (by show (0 : Nat) < 5; omega)
  · have hL' := tk_le g7
    have hll : (pend ++ []).length = pend.length + 0 := List.length_append
    refine ⟨σ', Or.inl ⟨e1, υ2, q', kc', j, l, ?_, g1, s, g9, f1, g10⟩⟩
    have b0 := bh_0 (N := N) g7 g3 g6 (by omega) s.2.2.1 (by omega) (rk_5 g4 (by omega)) (hR.n (by omega))
    obtain ⟨m, m1, m2⟩ := g2
    obtain ⟨z, hz⟩ : ∃ z, fu = z + 1 + m := ⟨1000000 - 1 - m, by unfold fu; omega⟩
    rw [hz, m2]
    exact b0 z
  · refine ⟨σ', Or.inr ⟨e1, f1, f, υe, x1, x2, ?_, x5, x6, x7⟩⟩
    obtain ⟨z, hz⟩ : ∃ z, fu = z + m := ⟨1000000 - m, by unfold fu; omega⟩
    rw [hz]
    exact x4 z
theorem lw_e (h : HD B L t n i k σ υ q kc) (hc : c < 3) (h12 : υ.1 642 12 = nI (705 * t)) (h14 : υ.1 642 14 = nI c) : BRS N B L t n i k c σ υ q (gx_law N 595 (nI c) σ) (g_X11_body N 642 (nI (rk c)) (nI (705 * t + (1 + 4 * n))) υ) := by
  obtain ⟨T, h6, h24, ht, hi1, hk1, h4, h5, h13⟩ := h
  have hL := tk_le T
  have ei : ∀ z : Option (Int32 × ST), (z.bind fun r => some (r.1, r.2)) = z := fun z => by cases z <;> rfl
  have erk : rk c = c := by
    unfold rk
    rw [if_neg (by omega), if_neg (by omega)]
  have eb : g_X11_body N 642 (nI (rk c)) (nI (705 * t + (1 + 4 * n))) υ = g_X11_lawClause N 642 (nI (705 * t + (1 + 4 * n))) υ := by
    rw [erk]
    unfold g_X11_body g_X11_body_0
    have ne : ∀ z, 3 ≤ z → z ≤ 9 → ¬ nI c = nI z := fun z z1 z2 y => by have := (nI_eq (by omega) (by omega)).mp y; omega
    rw [show (3 : Int32) = nI 3 from rfl, if_neg (ne 3 (by omega) (by omega)), show (4 : Int32) = nI 4 from rfl, if_neg (ne 4 (by omega) (by omega)), show (5 : Int32) = nI 5 from rfl, if_neg (ne 5 (by omega) (by omega)), show (6 : Int32) = nI 6 from rfl, if_neg (ne 6 (by omega) (by omega)), show (7 : Int32) = nI 7 from rfl, if_neg (ne 7 (by omega) (by omega)), show (8 : Int32) = nI 8 from rfl, if_neg (ne 8 (by omega) (by omega)), show (9 : Int32) = nI 9 from rfl, if_neg (ne 9 (by omega) (by omega)), ei]
  rw [eb]
  generalize hσ1 : setI (setI σ 595 3 (nI c)) 598 c (nI i) = σ1
  generalize hυ1 : setI υ 645 (705 * t + (1 + (4 * n + 1))) (nI k) = υ1
  generalize hυ2 : setI (setI (setI υ1 642 16 (nI 0)) 642 17 (nI 0)) 642 18 (jz false) = υ2
  have F1 : FB1 n i c σ σ1 := by
    rw [← hσ1]
    exact ⟨fun a j q1 q2 q3 q4 q5 => (if_neg (by omega)).trans (if_neg (by omega)), rfl⟩
  have F2 : FB2 t n k υ υ2 := by
    rw [← hυ2, ← hυ1]
    exact ⟨fun a j q1 q2 q3 => (if_neg (by omega)).trans ((if_neg (by omega)).trans ((if_neg (by omega)).trans (if_neg (by omega)))), fun _ _ _ => rfl, rfl⟩
  have S0 : S2 B L t c σ1 υ2 q kc 0 0 i k [] false := by
    refine ⟨?_, ⟨?_, ?_, ?_⟩, ⟨?_, ?_, ?_, ?_, ?_, ?_, trivial⟩, hi1, hk1⟩
    · refine TKN.pp (t := t) (k := 0) ((TKN.cc T (fun j => ?_) (fun j => ?_)).p2 (υ' := υ1) (fun j _ => ?_) (fun j => ?_) ?_) ?_
      · rw [← hσ1]
        exact (I_row (by omega)).trans (I_row (by omega))
      · rw [← hσ1]
        exact (I_row (by omega)).trans (I_row (by omega))
      · rw [← hυ1]
        exact I_row (by omega)
      · rw [← hυ1]
        exact I_row (by omega)
      · rw [← hυ1]
        rfl
      · rw [← hυ2]
        exact ⟨fun a j q1 q2 q3 => (if_neg (by omega)).trans ((if_neg (by omega)).trans (if_neg (by omega))), rfl⟩
    · rw [← hσ1]
      exact (I_row (by omega)).trans (I_same rfl rfl)
    · rw [← hσ1]
      exact (I_row (by omega)).trans ((I_col (by omega)).trans h4)
    · rw [← hσ1]
      exact (I_row (by omega)).trans ((I_col (by omega)).trans h5)
    · exact (F2.1 _ _ (by omega) (by omega) (by omega)).trans h12
    · rw [← hυ2, ← hυ1]
      simp (disch := omega) only [I_row, I_col]
      exact h13
    · exact (F2.1 _ _ (by omega) (by omega) (by omega)).trans h14
    · rw [← hυ2]
      simp (disch := omega) only [I_same, I_col]
      rfl
    · rw [← hυ2]
      simp (disch := omega) only [I_same, I_col]
    · rw [← hυ2]
      exact I_same rfl rfl
  have ec : gx_law N 595 (nI c) σ = ((g_X2_readSum N 595 σ1).bind fun r3 => (yI 3 r3.2 599 (nI c) (r3.2.1 595 5)).bind fun r4 => some (r3.1, r4)) := by
    unfold gx_law
    have e5 : (setI σ 595 3 (nI c)).1 595 5 = nI i := (I_col (by omega)).trans h5
    rw [bnd, e5, yI_n (by omega) (by omega), bnd]
    show ((g_X2_readSum N 595 (setI (setI σ 595 3 (nI c)) 598 c (nI i))).bind _) = _
    rw [hσ1]
  have er : g_X11_lawClause N 642 (nI (705 * t + (1 + 4 * n))) υ = ((g_X11_summed_15 N fu 642 υ2).bind fun r2 => (yI 2820 r2.2 645 (nI (705 * t + (1 + (4 * n + 2)))) (r2.2.1 642 13)).bind fun r3 => some (r2.1, r3)) := by
    unfold g_X11_lawClause g_X11_lawClause_0 g_X11_summed g_X11_summed_0
    rw [h13, nI_1, show (2 : Int32) = nI 2 from rfl, nI_add, show 705 * t + (1 + 4 * n) + 1 = 705 * t + (1 + (4 * n + 1)) by omega, show 705 * t + (1 + 4 * n) + 2 = 705 * t + (1 + (4 * n + 2)) by omega, yI_n (by omega) (by omega), bnd]
    show (((some (setI (setI υ 645 (705 * t + (1 + (4 * n + 1))) (nI k)) 642 16 0)).bind _).bind _) = _
    rw [hυ1, bnd, bnd, bnd]
    show ((g_X11_summed_15 N fu 642 (setI (setI (setI υ1 642 16 (nI 0)) 642 17 (nI 0)) 642 18 (jz false))).bind _) = _
    rw [hυ2]
  rw [ec, er]
  obtain ⟨σ', ⟨e1, υ3, q', kc', j, l, e2, e3, e4, e5, e6, e7⟩ | ⟨e1, e2, f, υe, e3, e4, e5, e6, e7, e8⟩⟩ := sum_top (N := N) S0 ht hc
  · have hL' := tk_le e4.1
    obtain ⟨s1, s2, s3, s4, s5⟩ := e4
    have s4 : j + 0 ≤ q' := s4
    have s5 : l + 0 ≤ q' := s5
    refine ⟨setI σ' 599 c (nI j), setI υ3 645 (705 * t + (1 + (4 * n + 2))) (nI l), ?_, Or.inr ⟨?_, ?_, ?_, q', kc', j, l, ?_, ⟨by omega, by omega, by omega, e5.2.2.1, e5.2.2.2.1⟩, ⟨?_, ?_, ?_⟩, ?_, fun _ => ⟨?_, ?_, ?_, ?_, ?_⟩, by omega, by omega⟩⟩
    · exact (F2.tr e7.bb).tr (f_645 (e := 1) (by omega))
    · rw [e1, bnd, s2.2.2, yI_n (by omega) (by omega), bnd]
    · rw [e2, bnd, s3.2.1, yI_n (by omega) (by omega), bnd]
    · exact (F1.tr e6.bb).tr ⟨fun a j q1 q2 q3 q4 q5 => if_neg (by omega), rfl⟩
    · exact (TKN.cc s1 (fun j => I_row (by omega)) (fun j => I_row (by omega))).p2 (fun j _ => I_row (by omega)) (fun j => I_row (by omega)) rfl
    · exact (I_row (by omega)).trans s2.2.1
    · exact (I_row (by omega)).trans s2.2.2
    · exact (I_row (by omega)).trans s3.2.1
    · intro z z1 z2
      rw [I_row (by omega), I_row (by omega)]
      exact e5.2.2.2.2.1 z z1 z2
    · refine (I_row (by omega)).trans ((e6.1 _ _ (by omega) (by omega) (by omega)).trans ?_)
      rw [← hσ1]
      exact I_same rfl rfl
    · exact I_same rfl rfl
    · refine (I_col (by omega)).trans ((e7.1 _ _ (by omega) (by omega) (by omega)).trans ?_)
      rw [← hυ2, ← hυ1]
      simp (disch := omega) only [I_row]
      exact I_same rfl rfl
    · exact I_same rfl rfl
    · exact e5.cc (fun z _ _ => ⟨I_row (by omega), I_row (by omega)⟩) (fun z _ _ => ⟨I_col (by omega), I_col (by omega)⟩)
  · refine ⟨setI σ' 599 c (σ'.1 595 5), setI υe 645 (705 * t + (1 + (4 * n + 2))) (υe.1 642 13), ?_, Or.inl ⟨?_, ?_, f, e3, e4, ?_, ?_, ?_⟩⟩
    · exact (F2.tr e8.bb).tr ⟨fun a j q1 q2 q3 => if_neg (by omega), fun _ _ _ => rfl, rfl⟩
    · rw [e1, bnd, yI_n (by omega) (by omega), bnd]
    · exact (F1.z.tr e2.z).tr ⟨fun a j q1 q2 q3 => if_neg (by omega), rfl⟩
    · rw [e5, bnd, yI_n (by omega) (by omega), bnd]
    · exact (I_row (by omega)).trans e6
    · exact (I_row (by omega)).trans (e7.trans (I_row (by omega)).symm)
end LWC
