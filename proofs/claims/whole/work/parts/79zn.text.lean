/-! a text, whole: both readers from the tape's first byte on -/
def TRS (B : Nat → Nat) (L t : Nat) (σ υ : ST) (r : Option (Bool × ST)) (s : Option (Int32 × ST)) : Prop := ∃ σ' υ', FX σ σ' ∧ FY t υ υ' ∧ ((r = some (false, σ') ∧ ∃ f, 1 ≤ f ∧ f ≤ 6 ∧ s = some (nI f, υ') ∧ σ'.1 595 1 = nI f ∧ σ'.1 595 2 = υ'.1 642 8) ∨ (r = some (true, σ') ∧ s = some (0, υ') ∧ (σ'.1 595 1 = σ.1 595 1 ∧ σ'.1 595 2 = σ.1 595 2) ∧ ∃ n i k q kc on ck, CLI B L t n i k σ' υ' q kc on ck))
section TXT
variable {N : Mem} {σ σ' σ1 σ2 τ υ υ' υ1 υ2 υ3 υe : ST} {B : Nat → Nat} {L t : Nat}
theorem rd_loop (ht : t < 4) : ∀ m1 m2 x σ υ n i k q kc on ck, CLI B L t n i k σ υ q kc on ck → x ≤ q → L < m1 + q → L < m2 + q → TRS B L t σ υ (g_X2_read_52 N m1 595 true (nI x) σ) (g_X11_readText_43 N m2 642 υ) := by
  intro m1
  induction m1 with
  | zero =>
    intro m2 x σ υ n i k q kc on ck h h1 h2 h3
    have := tk_le h.1
    omega
  | succ m1 ih =>
    intro m2 x σ υ n i k q kc on ck h h1 h2 h3
    have hL := tk_le h.1
    have hkb := kd_b h.1
    obtain ⟨m2, rfl⟩ : ∃ m, m2 = m + 1 := ⟨m2 - 1, by omega⟩
    have t0 : υ.1 642 9 = 0 ↔ kc = 41 := tk_s h.1 (k := 41) (by omega) (by omega)
    rw [g_X2_read_52, g_X11_readText_43, h.1.2.1.2.2.1, show (41 : Int32) = nI 41 from rfl]
    have k41 := keq hkb 41 (by omega)
    by_cases c : kc = 41
    · rw [if_pos (t0.mpr c), if_neg tnf, if_pos (k41.mpr c), ite_self]
      exact ⟨σ, υ, FX.rfl, FY.rfl, Or.inr ⟨rfl, rfl, ⟨rfl, rfl⟩, n, i, k, q, kc, on, ck, h⟩⟩
    · have hq := tk_lt h.1 c
      rw [show (300 : Int32) = nI 300 from rfl, if_neg (nI_ge (by omega) (by omega)), if_neg (by first | decide | exact tnf | exact fnt), if_neg (fun y => c (k41.mp y)), if_neg (fun y => c (t0.mp y))]
      obtain ⟨σ', υ', F1, F2, ⟨e1, f, f1, f2, f3, f4, f5⟩ | ⟨e1, e2, e3, q', kc', i', k', on', ck', e4, e5⟩⟩ := cl_e (N := N) h ht
      · rw [e1, f3, bnd, bnd]
        refine ⟨σ', υ', F1, F2, Or.inl ⟨?_, f, f1, f2, ?_, f4, f5⟩⟩
        · obtain ⟨m1', rfl⟩ : ∃ m, m1 = m + 1 := ⟨m1 - 1, by omega⟩
          show g_X2_read_52 N (m1' + 1) 595 false (nI x + 1) σ' = _
          rw [g_X2_read_52, if_pos rfl, ite_self]
        · dsimp only
          rw [if_neg (nI_ne0 (by omega) (by omega))]
      · rw [e1, e2, bnd, bnd]
        show TRS B L t σ υ (g_X2_read_52 N m1 595 true (nI x + 1) σ') (if (0 : Int32) = 0 then g_X11_readText_43 N m2 642 υ' else _)
        rw [if_pos rfl, nI_1]
        obtain ⟨σ2, υ2, G1, G2, ⟨g1, f, f1, f2, f3, f4, f5⟩ | ⟨g1, g2, g3, g4⟩⟩ := ih m2 (x + 1) σ' υ' _ _ _ _ _ _ _ e5 (by omega) (by omega) (by omega)
        · exact ⟨σ2, υ2, F1.tr G1, F2.tr G2, Or.inl ⟨g1, f, f1, f2, f3, f4, f5⟩⟩
        · exact ⟨σ2, υ2, F1.tr G1, F2.tr G2, Or.inr ⟨g1, g2, ⟨g3.1.trans e3.1, g3.2.trans e3.2⟩, g4⟩⟩
theorem read_e (hB : ∀ i, B i < 256) (h1 : BT B L σ) (h2 : BR B L υ) (ht : t < 4) (hT : υ.1 643 1 = nI t) : ∃ σ' υ', FX σ σ' ∧ FY t υ υ' ∧ ((g_X2_read N 595 σ = some (false, σ') ∧ ∃ f, 1 ≤ f ∧ f ≤ 6 ∧ g_X11_readText N 642 υ = some (nI f, υ') ∧ σ'.1 595 1 = nI f ∧ σ'.1 595 2 = υ'.1 642 8) ∨ (g_X2_read N 595 σ = some (true, σ') ∧ g_X11_readText N 642 υ = some (0, υ') ∧ (σ'.1 595 1 = 0 ∧ σ'.1 595 2 = -1) ∧ ∃ n i k q kc on ck, CLI B L t n i k σ' υ' q kc on ck)) := by
  generalize hσ1 : setI (setI (setI (setI (setI σ 595 1 (nI 0)) 595 2 (-1)) 595 4 (nI 0)) 595 5 (nI 0)) 595 6 (nI 0) = σ1
  generalize hσ2 : setR σ1 598 (fun j => if j < 3 then -1 else σ1.1 598 j) = σ2
  generalize hσb : setR σ2 599 (fun j => if j < 3 then -1 else σ2.1 599 j) = σb
  generalize hσ3 : setI σb 593 5 0 = σ3
  generalize hυ1 : setI (setI (setI (setI (setI υ 642 12 (nI (705 * t))) (642 + 3) (705 * t) (nI 0)) 642 13 (nI 0)) 642 19 (nI 0)) 642 7 (nI 0) = υ1
  have e3 : ∀ a j, a ≠ 595 → a ≠ 598 → a ≠ 599 → ¬ (a = 593 ∧ j = 5) → σ3.1 a j = σ.1 a j := by
    intro a j q1 q2 q3 q4
    rw [← hσ3, ← hσb]
    refine (if_neg q4).trans ((R_row q3).trans ?_)
    rw [← hσ2]
    refine (R_row q2).trans ?_
    rw [← hσ1]
    simp (disch := omega) only [I_row]
  have e595 : ∀ j, σ3.1 595 j = σ1.1 595 j := by
    intro j
    rw [← hσ3, ← hσb]
    refine (I_row (by omega)).trans ((R_row (by omega)).trans ?_)
    rw [← hσ2]
    exact R_row (by omega)
  have e598 : ∀ j, j < 3 → σ3.1 598 j = -1 := by
    intro j hj
    rw [← hσ3, ← hσb]
    refine (I_row (by omega)).trans ((R_row (by omega)).trans ?_)
    rw [← hσ2]
    exact (R_same rfl).trans (if_pos hj)
  have z2 : σ3.2 = σ.2 := by
    rw [← hσ3, ← hσb, ← hσ2, ← hσ1]
    rfl
  have FX3 : FX σ σ3 := by
    refine ⟨fun a j q1 q2 q3 => ?_, z2⟩
    by_cases c : a = 595
    · subst c
      rw [e595, ← hσ1]
      simp (disch := omega) only [I_col]
    · exact e3 a j c (by omega) (by omega) (by omega)
  have u1 : ∀ a j, ¬ (a = 642 ∧ (j = 7 ∨ j = 12 ∨ j = 13 ∨ j = 19)) → ¬ (a = 645 ∧ j = 705 * t) → υ1.1 a j = υ.1 a j := by
    intro a j q1 q2
    rw [← hυ1]
    exact (if_neg (by omega)).trans ((if_neg (by omega)).trans ((if_neg (by omega)).trans ((if_neg (by omega)).trans (if_neg (by omega)))))
  have u2 : υ1.2 = υ.2 := by
    rw [← hυ1]
    rfl
  have FY1 : FY t υ υ1 := ⟨fun a j q1 q2 q3 => u1 a j (by omega) (by omega), fun a j _ => by rw [u2], by rw [u2]⟩
  have T1 : BT B L σ3 := h1.f (fun j => e3 _ _ (by omega) (by omega) (by omega) (by omega)) (e3 _ _ (by omega) (by omega) (by omega) (by omega))
  have T2 : BR B L υ1 := h2.f (fun j => u1 _ _ (by omega) (by omega)) (u1 _ _ (by omega) (by omega))
  have s5 : σ3.1 593 5 = nI 0 := by
    rw [← hσ3]
    exact I_same rfl rfl
  have r7 : υ1.1 642 7 = nI 0 := by
    rw [← hυ1]
    exact I_same rfl rfl
  obtain ⟨τ, υ2, q, kc, a1, a2, a3, a4, a5, a6, a7, a8, a9⟩ := tk_at (N := N) (p := 0) hB T1 T2 (Nat.zero_le _) s5 r7
  have f1 : g_fill 3 (595 + 3) (-1) σ1 = some σ2 := by
    rw [← hσ2]
    rfl
  have f2 : g_fill 3 (595 + 4) (-1) σ2 = some σb := by
    rw [← hσb]
    rfl
  have f3 : g_X7_rewind N 593 σb = some τ := by
    unfold g_X7_rewind g_X7_rewind_0
    rw [bnd, hσ3, a1, bnd]
  have ec : g_X2_read N 595 σ = g_X2_read_52 N fu 595 true (nI 0) τ := by
    unfold g_X2_read g_X2_read_0
    rw [show (0 : Int32) = nI 0 from rfl, bnd, bnd, bnd, bnd, bnd, hσ1, f1, bnd, f2, bnd, f3, bnd]
  have er : g_X11_readText N 642 υ = g_X11_readText_43 N fu 642 υ2 := by
    unfold g_X11_readText g_X11_readText_0
    have x1 : xI 4607 υ (642 + 1) 1 = some (nI t) := by
      rw [show (1 : Int32) = nI 1 from rfl, xI_n (by omega) (by omega)]
      exact congrArg some hT
    have e12 : (setI υ 642 12 (nI (705 * t))).1 642 12 = nI (705 * t) := I_same rfl rfl
    rw [x1, bnd, show (705 : Int32) = nI 705 from rfl, show (0 : Int32) = nI 0 from rfl, pk_mul, bnd, e12, yI_n (by omega) (by omega), bnd, bnd, bnd, bnd, hυ1, a2, bnd]
  have hL := tk_le a3
  have hC : CLI B L t 0 0 0 τ υ2 q kc 0 (fun _ => 0) := by
    refine ⟨a3, ⟨?_, ?_, ?_⟩, ⟨?_, ?_, ?_, ?_⟩, ⟨by omega, by omega, by omega, by omega⟩, fun z _ _ => by omega, fun c _ => by omega, fun l hl => Or.inl ⟨?_, fun c _ => by omega, ?_⟩⟩
    · rw [a5 _ _ (by omega), e595, ← hσ1]
      simp (disch := omega) only [I_same, I_col]
    · rw [a5 _ _ (by omega), e595, ← hσ1]
      simp (disch := omega) only [I_same, I_col]
    · rw [a5 _ _ (by omega), e595, ← hσ1]
      exact I_same rfl rfl
    · rw [a7 _ _ (by omega), ← hυ1]
      simp (disch := omega) only [I_same, I_col, I_row]
    · rw [a7 _ _ (by omega), ← hυ1]
      simp (disch := omega) only [I_same, I_col, I_row]
    · rw [a7 _ _ (by omega), ← hυ1]
      simp (disch := omega) only [I_same, I_col, I_row]
    · rw [a7 _ _ (by omega), ← hυ1]
      simp (disch := omega) only [I_same, I_col, I_row]
    · exact Nat.zero_testBit l
    · rw [a5 _ _ (by omega)]
      exact e598 l hl
  have FX4 : FX σ τ := FX3.tr ⟨fun a j q1 q2 q3 => a5 a j q1, a6⟩
  have FY4 : FY t υ υ2 := FY1.tr ⟨fun a j q1 q2 q3 => a7 a j (by omega), a8, a9⟩
  have f1 : τ.1 595 1 = 0 := by
    rw [a5 _ _ (by omega), e595, ← hσ1]
    simp (disch := omega) only [I_same, I_col]
    rfl
  have f2 : τ.1 595 2 = -1 := by
    rw [a5 _ _ (by omega), e595, ← hσ1]
    simp (disch := omega) only [I_same, I_col]
  obtain ⟨σ', υ', G1, G2, ⟨g1, f, y1, y2, y3, y4, y5⟩ | ⟨g1, g2, g3, g4⟩⟩ := rd_loop (N := N) ht fu fu 0 τ υ2 0 0 0 q kc 0 (fun _ => 0) hC (by omega) (by unfold fu; omega) (by unfold fu; omega)
  · exact ⟨σ', υ', FX4.tr G1, FY4.tr G2, Or.inl ⟨ec.trans g1, f, y1, y2, er.trans y3, y4, y5⟩⟩
  · exact ⟨σ', υ', FX4.tr G1, FY4.tr G2, Or.inr ⟨ec.trans g1, er.trans g2, ⟨g3.1.trans f1, g3.2.trans f2⟩, g4⟩⟩
end TXT
