/-! whose, foretold -/
section WHO
variable {N : Mem} {σ τ υ υ0 : ST} {s s' : SS}
theorem sn22 : shN 21 = 8 := sn21
theorem whf {j : Nat} {X : Int32} {c : Nat} (hc : c ≤ 8) (K : Nat → Int32 → Int32 → ST → Option (Int32 × ST)) (h7 : υ.1 643 7 = nI c) : ∀ d i n, i + d = c → d < n → g_X11_whose_19 N n K 642 X (nI j) false (nI i) υ = g_X11_whose_95 N K 642 (nI j) 0 X υ := by
  have e7 : xI 4607 υ (642 + 1) (nI 7) = some (nI c) := by
    rw [xI_n (by omega) (by omega)]
    exact congrArg some h7
  intro d
  induction d with
  | zero =>
    intro i n hi hn
    obtain ⟨n, rfl⟩ : ∃ x, n = x + 1 := ⟨n - 1, by omega⟩
    rw [g_X11_whose_19, k_7, e7, bnd, if_pos (nI_le (by omega) (by omega)), if_pos rfl]
  | succ d ih =>
    intro i n hi hn
    obtain ⟨n, rfl⟩ : ∃ x, n = x + 1 := ⟨n - 1, by omega⟩
    rw [g_X11_whose_19, k_7, e7, bnd, if_neg (nI_ge (by omega) (by omega)), if_pos rfl, k_1, nI_add]
    exact ih (i + 1) n (by omega) (by omega)
theorem agr (hC : RC 1 σ s) (hW : WFs s) (hR : RR (υ0.1 643) s) {t j : Nat} {X : Int32} (hj : j < 4) (hT : TR N t (fun i => υ0.1 645 (705 * j + i))) (K : Nat → Int32 → Int32 → ST → Option (Int32 × ST)) : ∀ d i n n2 τ υ, i + d = s 19 1 → d < n → d < n2 → AF σ τ → BF υ0 υ → ∃ b τ' υ', g_X10_agrees_2 N n 0 (some t) (nI i) τ = some (b, τ') ∧ g_X11_whose_19 N n2 K 642 X (nI j) true (nI i) υ = g_X11_whose_95 N K 642 (nI j) (if b = true then jshl (nI 1) (nI j) else 0) X υ' ∧ AF σ τ' ∧ BF υ0 υ' := by
  obtain ⟨_, _, _, _, _, _, _, _, _, _, _, _, _, z19, z21, r20, r22, _⟩ := id hW
  have hc : s 1 0 ≤ 5 := hW.1.1
  intro d
  induction d with
  | zero =>
    intro i n n2 τ υ hi hn hn2 hA hB
    obtain ⟨n, rfl⟩ : ∃ x, n = x + 1 := ⟨n - 1, by omega⟩
    obtain ⟨n2, rfl⟩ : ∃ x, n2 = x + 1 := ⟨n2 - 1, by omega⟩
    have c19 : τ.1 (0 + 1 + 19) 1 = nI (s 19 1) := c_19_1 (hA.rc hC)
    have e7 : xI 4607 υ (642 + 1) (nI 7) = some (nI (s 19 1)) := by
      rw [xI_n (by omega) (by omega)]
      exact congrArg some (r_7 (hB.rr hR))
    refine ⟨true, τ, υ, ?_, ?_, hA, hB⟩
    · rw [g_X10_agrees_2, c19, if_pos (nI_le (by omega) (by omega))]
    · rw [g_X11_whose_19, k_7, e7, bnd, if_pos (nI_le (by omega) (by omega)), if_neg (by decide), if_pos rfl, k_1]
  | succ d ih =>
    intro i n n2 τ υ hi hn hn2 hA hB
    obtain ⟨n, rfl⟩ : ∃ x, n = x + 1 := ⟨n - 1, by omega⟩
    obtain ⟨n2, rfl⟩ : ∃ x, n2 = x + 1 := ⟨n2 - 1, by omega⟩
    have hCt := hA.rc hC
    have hRu := hB.rr hR
    have c19 : τ.1 (0 + 1 + 19) 1 = nI (s 19 1) := c_19_1 hCt
    have e7 : xI 4607 υ (642 + 1) (nI 7) = some (nI (s 19 1)) := by
      rw [xI_n (by omega) (by omega)]
      exact congrArg some (r_7 hRu)
    have hm := r20 i (by omega)
    have gm : g_X3_get N (0 + 1 + 19) (nI i) τ = some (nI (s 20 i)) := by
      have := rowG (N := N) (x0 := 20) (i := i) sn21 z19 (by omega) (by omega) (c_19_1 hCt)
      refine Eq.trans this ?_
      exact congrArg some (c_20 hCt i)
    have hh : g_X9_has N (0 + 1 + 1) (nI (s 20 i)) τ = some true := hasT (N := N) (c_1_0 hCt) hc hm
    have hq := hRu.2.2.2.2.2.2.2.2.2.1 i (by omega)
    have x1 : xI 4607 υ (642 + 1) (nI 211 + nI 2 * nI i) = some (nI (s 20 i)) := by
      rw [pk_mul, nI_add, xI_n (by omega) (by omega)]
      exact congrArg some hq.1
    obtain ⟨v, τ1, υ1, v1, v2, v3, v4, v5⟩ := loose_e (N := N) (o := some t) (X := nI j) (υ := υ) (τ := τ) (Or.inr ⟨t, j, rfl, rfl, hj, by
      have e : (fun i => υ.1 645 (705 * j + i)) = fun i => υ0.1 645 (705 * j + i) := funext fun i => hB.1 _ _ (by omega) (by omega)
      rw [e]
      exact hT⟩) (b := 2) (by omega) (cw_of hCt).1 hW.1 (rv_of hRu).1.r0 hm
    have hA1 := hA.t v4
    have hB1 := hB.t v5
    have hC1 := hA1.rc hC
    have hR1 := hB1.rr hR
    have gl : g_X3_get N (0 + 1 + 21) (nI i) τ1 = some (nI (s 22 i)) := by
      have := rowG (N := N) (x0 := 22) (i := i) sn23 (show s 21 1 ≤ 8 by omega) (by omega) (by omega) (c_21_1 hC1)
      refine Eq.trans this ?_
      exact congrArg some (c_22 hC1 i)
    have hq1 := hR1.2.2.2.2.2.2.2.2.2.1 i (by omega)
    have x2 : xI 4607 υ1 (642 + 1) (nI 211 + nI 2 * nI i + nI 1) = some (nI (s 22 i)) := by
      rw [pk_mul, nI_add, nI_add, xI_n (by omega) (by omega), show 211 + 2 * i + 1 = 212 + 2 * i by omega]
      exact congrArg some hq1.2
    have t22 := r22 i
    have lo : g_X0_loose N (0 + 601) (some t) (0 + 1 + 1) (nI (s 20 i)) τ = some (nI v, τ1) := v2
    by_cases c : v = s 22 i
    · obtain ⟨b, τ', υ', q1, q2, q3, q4⟩ := ih (i + 1) n n2 τ1 υ1 (by omega) (by omega) (by omega) hA1 hB1
      refine ⟨b, τ', υ', ?_, ?_, q3, q4⟩
      · rw [g_X10_agrees_2, c19, if_neg (nI_ge (by omega) (by omega)), gm, bnd, hh, bnd, if_neg (by decide), lo, bnd]
        dsimp only
        rw [gl, bnd, if_pos (by rw [c]), k_1, nI_add]
        exact q1
      · rw [g_X11_whose_19, k_7, e7, bnd, if_neg (nI_ge (by omega) (by omega)), if_neg (by decide), k_211, k_2, x1, bnd, v3, bnd]
        dsimp only
        rw [k_1, x2, bnd, if_pos (by rw [c]), nI_add]
        exact q2
    · refine ⟨false, τ1, υ1, ?_, ?_, hA1, hB1⟩
      · rw [g_X10_agrees_2, c19, if_neg (nI_ge (by omega) (by omega)), gm, bnd, hh, bnd, if_neg (by decide), lo, bnd]
        dsimp only
        rw [gl, bnd, if_neg (fun q => c ((nI_eq (by omega) (by omega)).mp q))]
      · rw [g_X11_whose_19, k_7, e7, bnd, if_neg (nI_ge (by omega) (by omega)), if_neg (by decide), k_211, k_2, x1, bnd, v3, bnd]
        dsimp only
        rw [k_1, x2, bnd, if_neg (fun q => c ((nI_eq (by omega) (by omega)).mp q)), nI_add, if_neg (by decide)]
        exact whf (by omega) K (r_7 hR1) d (i + 1) n2 (by omega) (by omega)
theorem whose_ok (hC : RC 1 σ s) (hW : WFs s) (hX : RX N σ s σ) : OK1 σ s (g_X10_whose N 0) (g_X11_whose N 642) := by
  have h5 : s 0 5 ≤ 4 := by obtain ⟨_, _, _, _, h5, _⟩ := hW; exact h5
  have h8 : s 19 1 ≤ 8 := by obtain ⟨_, _, _, _, _, _, _, _, _, _, _, _, _, z19, _⟩ := hW; exact z19
  refine ok1_3 hX (fun υ0 hX0 => ?_)
  have hl : ∀ d j n n2 X τ υ, j + d = s 0 5 → d < n → d < n2 → AF σ τ → BF υ0 υ → ∃ r τ' υ', g_X10_whose_4 N n 0 X (nI j) τ = some (r, τ') ∧ g_X11_whose_4 N n2 642 X (nI j) υ = some (r, υ') ∧ AF σ τ' ∧ BF υ0 υ' := by
    intro d
    induction d with
    | zero =>
      intro j n n2 X τ υ hj hn hn2 hA hB
      obtain ⟨n, rfl⟩ : ∃ x, n = x + 1 := ⟨n - 1, by omega⟩
      obtain ⟨n2, rfl⟩ : ∃ x, n2 = x + 1 := ⟨n2 - 1, by omega⟩
      have c05 : τ.1 (0 + 1) 5 = nI (s 0 5) := c_0_5 (hA.rc hC)
      have e1 : xI 4607 υ (642 + 1) (nI 1) = some (nI (s 0 5)) := by
        rw [xI_n (by omega) (by omega)]
        exact congrArg some (r_1 (hB.rr hX0.1))
      refine ⟨X, τ, υ, ?_, ?_, hA, hB⟩
      · rw [g_X10_whose_4, c05, if_pos (nI_le (by omega) (by omega))]
      · rw [g_X11_whose_4, k_1, e1, bnd, if_pos (nI_le (by omega) (by omega))]
    | succ d ih =>
      intro j n n2 X τ υ hj hn hn2 hA hB
      obtain ⟨n, rfl⟩ : ∃ x, n = x + 1 := ⟨n - 1, by omega⟩
      obtain ⟨n2, rfl⟩ : ∃ x, n2 = x + 1 := ⟨n2 - 1, by omega⟩
      have c05 : τ.1 (0 + 1) 5 = nI (s 0 5) := c_0_5 (hA.rc hC)
      have e1 : xI 4607 υ (642 + 1) (nI 1) = some (nI (s 0 5)) := by
        rw [xI_n (by omega) (by omega)]
        exact congrArg some (r_1 (hB.rr hX0.1))
      obtain ⟨t, t1, t2⟩ := hX0.2.2 j (by omega)
      have xq : xQ τ (0 + 1 + 11) (nI j) = some (some t) := by
        rw [xQ_n (by omega), hA.2]
        exact congrArg some t1
      obtain ⟨b, τ1, υ1, q1, q2, q3, q4⟩ := agr (N := N) (X := X) hC hW hX0.1 (by omega) t2 (g_X11_whose_4 N n2) (s 19 1) 0 fu fu τ υ (by omega) (by unfold fu; omega) (by unfold fu; omega) hA hB
      have ag : g_X10_agrees N 0 (some t) τ = some (b, τ1) := by
        unfold g_X10_agrees g_X10_agrees_0
        exact q1
      cases b with
      | true =>
        obtain ⟨r, τ', υ', z1, z2, z3⟩ := ih (j + 1) n n2 (X ||| jshl (nI 1) (nI j)) τ1 υ1 (by omega) (by omega) (by omega) q3 q4
        refine ⟨r, τ', υ', ?_, ?_, z3⟩
        · rw [g_X10_whose_4, c05, if_neg (nI_ge (by omega) (by omega)), xq, bnd, ag, bnd]
          dsimp only
          rw [if_neg (by decide), k_1, nI_add]
          exact z1
        · rw [g_X11_whose_4, k_1, e1, bnd, if_neg (nI_ge (by omega) (by omega)), k_0, q2, if_pos rfl]
          unfold g_X11_whose_95
          rw [k_1, nI_add]
          exact z2
      | false =>
        obtain ⟨r, τ', υ', z1, z2, z3⟩ := ih (j + 1) n n2 X τ1 υ1 (by omega) (by omega) (by omega) q3 q4
        refine ⟨r, τ', υ', ?_, ?_, z3⟩
        · rw [g_X10_whose_4, c05, if_neg (nI_ge (by omega) (by omega)), xq, bnd, ag, bnd]
          dsimp only
          rw [if_pos rfl, k_1, nI_add]
          exact z1
        · rw [g_X11_whose_4, k_1, e1, bnd, if_neg (nI_ge (by omega) (by omega)), k_0, q2, if_neg (by decide)]
          unfold g_X11_whose_95
          rw [Int32.or_zero, k_1, nI_add]
          exact z2
  obtain ⟨r, τ, υ, z1, z2, z3, z4⟩ := hl (s 0 5) 0 fu fu 0 σ υ0 (by omega) (by unfold fu; omega) (by unfold fu; omega) AF.rfl BF.rfl
  refine ⟨r, s, τ, υ, ?_, ?_, z3.rc hC, z3.fc, hW, z4.rr hX0.1, z4.fr, rfl⟩
  · unfold g_X10_whose g_X10_whose_0
    exact z1
  · unfold g_X11_whose g_X11_whose_0
    exact z2
end WHO
