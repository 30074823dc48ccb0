/-! image, back; tape and fault -/
section IM2
variable {N : Mem} {σ τ r υ : ST} {s z z' : SS} {b c : Nat} {A A' : Nat → Int32}
theorem yQ_n {i : Nat} {o : Option Nat} (hi : i < 4) (ho : ∀ v, o = some v → isOb N 8 v = true) {a : Nat} : yQ N r a (nI i) o = some (setQ r a i o) := by
  unfold yQ
  rw [if_neg, nI_clamp (by omega)]
  rintro (h | h)
  · exact nI_in hi (by omega) h
  · exact h ho
theorem xQ_n {i a : Nat} (hi : i < 4) : xQ r a (nI i) = some (r.2.2 a i) := by
  unfold xQ
  rw [if_neg (nI_in hi (by omega)), nI_clamp (by omega)]
theorem st_58 (hbc : b + 296 ≤ c ∨ c + 296 ≤ b) (hQ : ∀ t v, t < 4 → σ.2.2 (c + 11) t = some v → isOb N 8 v = true) : ∀ k n q (r : ST), n + k = 4 → k < q → r.2.1 = σ.2.1 → (∀ t, t < n → r.2.2 (b + 11) t = σ.2.2 (c + 11) t) → (∀ a t, a ≠ b + 11 → r.2.2 a t = σ.2.2 a t) → ∃ q' r', g_X4_copyFrom_58 N q b c (nI n) r = g_X4_copyFrom_58 N (q' + 1) b c (nI 4) r' ∧ r'.1 = r.1 ∧ r'.2.1 = σ.2.1 ∧ (∀ t, t < 4 → r'.2.2 (b + 11) t = σ.2.2 (c + 11) t) ∧ (∀ a t, a ≠ b + 11 → r'.2.2 a t = σ.2.2 a t) := by
  intro k
  induction k with
  | zero =>
    intro n q r hn hq h1 h2 h3
    obtain ⟨q, rfl⟩ : ∃ m, q = m + 1 := ⟨q - 1, by omega⟩
    obtain rfl : n = 4 := by omega
    exact ⟨q, r, rfl, rfl, h1, h2, h3⟩
  | succ k ih =>
    intro n q r hn hq h1 h2 h3
    obtain ⟨q, rfl⟩ : ∃ m, q = m + 1 := ⟨q - 1, by omega⟩
    have e0 : r.2.2 (c + 11) n = σ.2.2 (c + 11) n := h3 _ _ (by omega)
    have e1 := xQ_n (r := r) (a := c + 11) (i := n) (by omega)
    have e2 := yQ_n (N := N) (r := r) (a := b + 11) (i := n) (o := r.2.2 (c + 11) n) (by omega) (fun v hv => hQ n v (by omega) (e0 ▸ hv))
    obtain ⟨q', r', a1, a2, a3⟩ := ih (n + 1) q (setQ r (b + 11) n (r.2.2 (c + 11) n)) (by omega) (by omega) h1 (fun t ht => by
      show (if b + 11 = b + 11 ∧ t = n then _ else r.2.2 (b + 11) t) = _
      by_cases e : t = n
      · rw [if_pos ⟨rfl, e⟩, e0, e]
      · rw [if_neg (fun q => e q.2)]
        exact h2 t (by omega)) (fun a t ha => by
      show (if a = b + 11 ∧ t = n then _ else r.2.2 a t) = _
      rw [if_neg (fun q => ha q.1)]
      exact h3 a t ha)
    refine ⟨q', r', ?_, a2, a3⟩
    rw [← a1, g_X4_copyFrom_58]
    simp (disch := omega) only [k_0, k_1, k_2, k_3, k_4, k_5, k_6, k_7, k_8, k_9, k_10, k_11, k_12, k_13, k_14, k_15, k_16, k_17, k_18, k_19, k_20, k_21, k_22, k_23, k_24, k_25, k_26, k_27, k_28, k_29, k_30, k_31, k_32, k_33, k_34, k_35, k_36, k_37, k_38, k_39, k_40, k_41, k_42, k_43, k_44, k_45, k_46, k_47, k_48, k_49, k_50, k_51, k_52, k_53, k_54, k_55, k_56, k_57, k_58, k_59, k_60, k_61, k_62, k_63, k_64, k_65, k_66, k_67, k_68, k_69, k_70, k_71, k_72, k_73, k_74, k_75, k_76, k_77, k_78, k_79, k_80, k_81, k_82, k_83, k_84, k_85, k_86, k_87, k_88, k_89, k_90, k_91, k_92, k_93, k_94, k_95, k_96, k_97, k_98, k_99, k_100, k_101, k_102, k_103, k_104, k_105, k_106, k_107, k_108, k_109, k_110, k_111, k_112, k_113, k_114, k_115, k_116, k_117, k_118, k_119, k_120, k_121, k_122, k_123, k_124, k_125, k_126, k_127, k_128, k_129, k_130, k_133, k_144, k_145, k_153, k_193, k_203, k_211, k_227, k_255, k_256, k_280, k_300, k_313, k_371, k_433, k_705, k_997, k_999, k_1000, k_4176, k_4547, k_9999, k_10000, k_30557, k_99999, k_1000000, k_1000000000, nI_add, pk_mul, w_sub, w_rem, w_div, w_dv, w_rm, nI_leI, nI_ltI, nI_eq, w_em, w_me, w_lm, w_ml, w_lem, w_mle, bnd, Option.some.injEq, xI_n, yI_n, xL_n, yL_n, xP_n, xG_n, I_same, I_row, I_col, L_1, Q_1, R_same, R_row, if_pos, if_neg, ite_self, not_true, not_false, decide_true, decide_false, Nat.add_assoc, true_and, and_true, Nat.zero_add, Nat.add_zero, Nat.mul_zero, Nat.mul_one, Nat.one_mul, eq_self, decide_eq_true, decide_eq_false, Bool.true_eq_false, Bool.false_eq_true, ↓reduceIte, Nat.reduceAdd, Nat.reduceMul, Nat.reduceSub, Nat.reduceDiv, Nat.reduceMod, bb_t, bb_f, e1, e2]
theorem st_copy (hbc : b + 296 ≤ c ∨ c + 296 ≤ b) (sb14 : shN (b + 14) = 12) (sb16 : shN (b + 16) = 12) (sb18 : shN (b + 18) = 8) (sb20 : shN (b + 20) = 8) (sb22 : shN (b + 22) = 8) (sc14 : shN (c + 14) = 12) (sc16 : shN (c + 16) = 12) (sc18 : shN (c + 18) = 8) (sc20 : shN (c + 20) = 8) (sc22 : shN (c + 22) = 8) (hz : RC b σ z) (hs : RC c σ s) (hW : WFs s) (hQ : ∀ t v, t < 4 → σ.2.2 (c + 11) t = some v → isOb N 8 v = true) : ∃ τ z', g_X4_copyFrom N b c σ = some τ ∧ RC b τ z' ∧ RC c τ s ∧ (∀ k i, inr k i → z' k i = s k i) ∧ Mix s z z' ∧ (∀ a i, a < b ∨ b + 296 ≤ a → τ.1 a i = σ.1 a i) ∧ τ.2.1 = σ.2.1 ∧ (∀ t, t < 4 → τ.2.2 (b + 11) t = σ.2.2 (c + 11) t) ∧ (∀ a t, a ≠ b + 11 → τ.2.2 a t = σ.2.2 a t) := by
  obtain ⟨_, _, _, _, _, _, _, z13, _, z15, _, z17, _, z19, z21, _⟩ := hW
  have h0 : CPI σ b c s z σ := ⟨hz, hs, fun _ _ _ => rfl, rfl⟩
  obtain ⟨e1, h1⟩ := h0.wld (N := N) hbc (k := 1) (by omega) (by omega)
  have ez : (fun a i => if 1 ≤ a ∧ a < 1 + 9 ∧ i < wl (a - 1) then s a i else z a i) = cpS z s 0 := by
    funext a i
    unfold cpS
    by_cases q1 : 1 ≤ a ∧ a < 1 + 9 ∧ i < wl (a - 1)
    · rw [if_pos q1, if_pos (Or.inl q1)]
    · rw [if_neg q1, if_neg (by omega)]
  rw [ez] at h1
  obtain ⟨r2, e2, h2⟩ := st_13 (N := N) hbc 30 0 fu _ (by omega) (by unfold fu; omega) h1
  have h3 := (h2.fld hbc (f := 2) (by omega)).fld hbc (f := 3) (by omega)
  generalize hr3 : setI (setI r2 b 2 (r2.1 c 2)) b 3 ((setI r2 b 2 (r2.1 c 2)).1 c 3) = r3 at e2 h3
  obtain ⟨q', r4, e4, f1, f2, f3, f4⟩ := st_58 (N := N) (σ := σ) hbc hQ 4 0 fu r3 (by omega) (by unfold fu; omega) (by rw [h3.2.2.2]) (fun t ht => by omega) (fun a t ha => by rw [h3.2.2.2])
  have h4 : CPI r4 b c s (us (us (cpS z s 30) 0 2 (s 0 2)) 0 3 (s 0 3)) r4 := by
    obtain ⟨g1, g2, g3, g4⟩ := h3
    exact ⟨⟨fun k i hk hi => by rw [f1]; exact g1.1 k i hk hi, by rw [f1]; exact g1.2⟩, ⟨fun k i hk hi => by rw [f1]; exact g2.1 k i hk hi, by rw [f1]; exact g2.2⟩, fun _ _ _ => rfl, rfl⟩
  have h5 := (h4.fld hbc (f := 5) (by omega)).fld6 hbc
  generalize hr5 : setI (setI r4 b 5 (r4.1 c 5)) b 6 ((setI r4 b 5 (r4.1 c 5)).1 c 6) = r5 at h5
  obtain ⟨r6, e6, h6⟩ := h5.arr hbc (k := 12) (n := 20) (by omega) (by omega) (by omega)
  obtain ⟨r7, e7, h7⟩ := h6.row (N := N) hbc (k := 13) (n := 12) (by omega) (by omega) (by omega) sb14 sc14 z13
  obtain ⟨r8, e8, h8⟩ := h7.row (N := N) hbc (k := 15) (n := 12) (by omega) (by omega) (by omega) sb16 sc16 z15
  obtain ⟨r9, e9, h9⟩ := h8.row (N := N) hbc (k := 17) (n := 8) (by omega) (by omega) (by omega) sb18 sc18 z17
  obtain ⟨r10, e10, h10⟩ := h9.row (N := N) hbc (k := 19) (n := 8) (by omega) (by omega) (by omega) sb20 sc20 z19
  obtain ⟨r11, e11, h11⟩ := h10.row (N := N) hbc (k := 21) (n := 8) (by omega) (by omega) (by omega) sb22 sc22 (by omega)
  obtain ⟨r12, e12, h12⟩ := h11.arr hbc (k := 23) (n := 25) (by omega) (by omega) (by omega)
  obtain ⟨r13, e13, h13⟩ := h12.arr hbc (k := 24) (n := 25) (by omega) (by omega) (by omega)
  obtain ⟨r14, e14, h14⟩ := h13.arr hbc (k := 25) (n := 8) (by omega) (by omega) (by omega)
  obtain ⟨g1, g2, g3, g4⟩ := h14
  refine ⟨r14, _, ?_, g1, g2, ?_, ?_, fun a i ha => ?_, ?_, ?_, ?_⟩
  · unfold g_X4_copyFrom g_X4_copyFrom_0
    rw [e1, bnd]
    refine e2.trans (e4.trans ?_)
    rw [g_X4_copyFrom_58, if_pos (show (4 : Int32) ≤ nI 4 by decide), bnd, bnd, hr5]
    have q20 : Int32.ofNat 20 = nI 20 := rfl
    have q25 : Int32.ofNat 25 = nI 25 := rfl
    have q8 : Int32.ofNat 8 = nI 8 := rfl
    rw [q20, q25, q8, e6, bnd, e7, bnd, e8, bnd, e9, bnd, e10, bnd, e11, bnd, e12, bnd, e13, bnd, e14, bnd]
  · intro k i hki
    rcases hki with h | ⟨rfl, h⟩ | ⟨rfl, h⟩ | ⟨rfl, h⟩ | ⟨rfl, rfl⟩ | ⟨rfl, h⟩ | ⟨rfl, rfl⟩ | ⟨rfl, h⟩ | ⟨rfl, rfl⟩ | ⟨rfl, h⟩ | ⟨rfl, rfl⟩ | ⟨rfl, h⟩ | ⟨rfl, rfl⟩ | ⟨rfl, h⟩ | ⟨rfl, h⟩ | ⟨rfl, h⟩
    · have hk : (1 ≤ k ∧ k < 10) ∨ (26 ≤ k ∧ k < 296) := by
        rcases h with h | h
        · exact Or.inl ⟨h.1, h.2.1⟩
        · exact Or.inr ⟨h.1, h.2.1⟩
      simp (disch := omega) only [us_row, ur_row]
      refine if_pos ?_
      rcases h with h | h
      · exact Or.inl h
      · exact Or.inr ⟨h.1, by omega, h.2.2⟩
    · obtain rfl | rfl | rfl | rfl := h
      · simp (disch := omega) only [us_row, ur_row, us_col, us_same]
      · simp (disch := omega) only [us_row, ur_row, us_col, us_same]
      · simp (disch := omega) only [us_row, ur_row, us_col, us_same]
      · simp (disch := omega) only [us_row, ur_row, us_col, us_same]
    all_goals simp (disch := omega) only [us_row, ur_row, us_col, us_same, ur_in]
  · have m0 : Mix s z (cpS z s 30) := by
      intro k i
      unfold cpS
      split
      · exact Or.inl rfl
      · exact Or.inr rfl
    exact (((((((((((((((((m0.us).us).us).us).ur).ur).us).ur).us).ur).us).ur).us).ur).us).ur).ur).ur
  · rw [g3 a i ha, f1, h3.2.2.1 a i ha]
  · rw [g4]
    exact f2
  · intro t ht
    rw [g4]
    exact f3 t ht
  · intro a t ha
    rw [g4]
    exact f4 a t ha
end IM2
