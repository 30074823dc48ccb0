/-! night -/
section NTS
variable {N : Mem} {σ τ υ υ0 : ST} {s s' : SS}
theorem nl (P : Nat) (hP : P ≤ 60) : ∀ k i n n2 B σ υ s, i + k ≤ P → k < n → k < n2 → B ≤ 5 * i → RC 1 σ s → WFs s → RX N σ s υ → s 1 1 + k ≤ 9999 → ∃ τ υ' s' E, E ≤ 5 * k ∧ g_X10_passNights_24 N n 0 (nI B) (nI (i + k)) (nI i) σ = some (nI (B + E), τ) ∧ g_X11_arePassed_7 N n2 642 (nI P) (nI i) υ = g_X11_arePassed_7 N (n2 - k) 642 (nI P) (nI (i + k)) υ' ∧ RC 1 τ s' ∧ FC σ τ ∧ WFs s' ∧ RX N σ s' υ' ∧ FR υ υ' ∧ s' 0 5 = s 0 5 ∧ s' 1 1 = s 1 1 + k ∧ υ'.1 642 24 = υ.1 642 24 + nI E := by
  intro k
  induction k with
  | zero =>
    intro i n n2 B σ υ s hi hn hn2 hB hC hW hX h9
    obtain ⟨n, rfl⟩ : ∃ x, n = x + 1 := ⟨n - 1, by omega⟩
    refine ⟨σ, υ, s, 0, by omega, ?_, by rw [Nat.sub_zero, Nat.add_zero], hC, FC.rfl, hW, hX, FR.rfl, rfl, rfl, ?_⟩
    · rw [g_X10_passNights_24, Nat.add_zero, if_pos (nI_le (Nat.le_refl _) (by omega))]
      rfl
    · rw [← k_0]
      exact (Int32.add_zero _).symm
  | succ k ih =>
    intro i n n2 B σ υ s hi hn hn2 hB hC hW hX h9
    obtain ⟨n, rfl⟩ : ∃ x, n = x + 1 := ⟨n - 1, by omega⟩
    obtain ⟨n2, rfl⟩ : ∃ x, n2 = x + 1 := ⟨n2 - 1, by omega⟩
    obtain ⟨τ1, τ, υ1, υ', s', e, o, a0, a1, a2, a3, a4, a5, a6, a7, a8, a9, a10, a11, a12, a13, a14⟩ := stp_e (N := N) hC hW hX (by omega)
    obtain ⟨τ2, υ2, s2, E, b0, b1, b2, b3, b4, b5, b6, b7, b8, b9, b10⟩ := ih (i + 1) n n2 (B + e) τ υ' s' (by omega) (by omega) (by omega) (by omega) a6 a8 (a9.of (by rw [a7.q])) (by omega)
    have e8 : xI 4607 υ (642 + 1) (nI 8) = some (nI (s 1 1)) := by
      rw [xI_n (by omega) (by omega)]
      exact congrArg some (r_8 hX.1)
    refine ⟨τ2, υ2, s2, e + E, by omega, ?_, ?_, b3, a7.trans b4, b5, b6.of (by rw [a7.q]), a10.trans b7, b8.trans a11, by rw [b9, a12]; omega, ?_⟩
    · rw [g_X10_passNights_24, if_neg (nI_ge (by omega) (by omega))]
      show ((g_X4_remember N 1 σ).bind fun r1 => (g_X4_theText N 1 r1).bind fun v2 => (g_X0_pass N 601 2 20 13 v2 r1).bind fun r3 => g_X10_passNights_24 N n 0 (nI B + r3.1) (nI (i + (k + 1))) (nI i + 1) r3.2) = _
      rw [a1, bnd, a2, bnd, a3, bnd]
      dsimp only
      rw [nI_add, k_1, nI_add, show i + (k + 1) = i + 1 + k by omega, b1, Nat.add_assoc]
    · rw [g_X11_arePassed_7, if_neg (nI_ge (by omega) (by omega)), k_8, e8, bnd, k_9999, if_neg (fun q => by have := (nI_eq (by omega) (by omega)).mp q; omega), a4, bnd, a5, bnd, k_1, nI_add, b2, show n2 + 1 - (k + 1) = n2 - k by omega, show i + (k + 1) = i + 1 + k by omega]
    · rw [b10, a14, ← nI_add, Int32.add_assoc]
theorem f24 : FR υ (setI υ 642 24 (nI 0)) := FR.rfl.set (by omega)
theorem RX.s24 (h : RX N σ s υ) : RX N σ s (setI υ 642 24 (nI 0)) := by
  have e : (setI υ 642 24 (nI 0)).1 643 = υ.1 643 := funext fun i => I_row (by omega)
  exact h.fr f24 (by rw [e]; exact h.1) rfl
theorem night_ok (hC : RC 1 σ s) (hW : WFs s) (hX : RX N σ s σ) (x : Int32) : OK1 σ s (g_X10_night N 0 x) (g_X11_night N 642 x) := by
  have b1 : s 1 1 ≤ 9999 := hW.1.2.1
  refine ok1_3 hX (fun υ0 hX0 => ?_)
  by_cases h : nI 1 ≤ x ∧ x ≤ nI 60
  · obtain ⟨n, hn, rfl⟩ := nI_of2 (M := nI 60) (nI_toInt (by omega)) (x := x) (fun q => Int32.lt_irrefl (Int32.lt_of_lt_of_le q (Int32.le_trans (by decide : (0 : Int32) ≤ nI 1) h.1))) h.2
    have hn1 : 1 ≤ n := (nI_leI (by omega) (by omega)).mp h.1
    have wd : decide (nI 1 ≤ nI n ∧ nI n ≤ nI 60) = true := decide_eq_true h
    have e9 : xI 4607 υ0 (642 + 1) (nI 8) = some (nI (s 1 1)) := by
      rw [xI_n (by omega) (by omega)]
      exact congrArg some (r_8 hX0.1)
    have c11 : σ.1 (0 + 1 + 1) 1 = nI (s 1 1) := c_1_1 hC
    by_cases hp : s 1 1 + n ≤ 9999
    · obtain ⟨τ, υ', s', E, k0, k1, k2, k3, k4, k5, k6, k7, k8, k9, k10⟩ := nl (N := N) n (by omega) n 0 fu fu 0 σ (setI υ0 642 24 (nI 0)) s (by omega) (by unfold fu; omega) (by unfold fu; omega) (by omega) hC hW hX0.s24 hp
      rw [Nat.zero_add, Nat.zero_add] at k1
      rw [Nat.zero_add] at k2
      obtain ⟨z, hz⟩ : ∃ z, fu - n = z + 1 := ⟨999999 - n, by unfold fu; omega⟩
      rw [hz, g_X11_arePassed_7, if_pos (nI_le (Nat.le_refl _) (by omega))] at k2
      have f0 : υ'.1 642 24 = nI E := by
        rw [k10, I_same rfl rfl, ← k_0]
        exact Int32.zero_add _
      refine ⟨nI E, s', τ, υ', ?_, ?_, k3, k4, k5, k6.1, f24.trans k7, k8⟩
      · unfold g_X10_night g_X10_night_0 g_X10_passNights g_X10_passNights_0
        have ej : jmin (nI n) (nI (9999 - s 1 1)) = nI n := by rw [jmin_n (by omega) (by omega), Nat.min_eq_left (by omega)]
        rw [k_1, k_60, wi10, wd, bnd, if_neg (by decide), c11, k_9999, pk_sub b1, if_pos (nI_le (by omega) (by omega)), ej, k_0, k1, bnd]
      · unfold g_X11_night g_X11_night_0 g_X11_arePassed g_X11_arePassed_0
        rw [k_1, k_60, wi11, wd, bnd, if_neg (by decide), k_8, e9, bnd, k_9999, nI_add, if_neg (nI_nlt hp (by omega)), k_0, bnd, k2, bnd]
        dsimp only
        rw [if_neg (by decide), f0]
    · refine ⟨-nI 1, s, σ, υ0, ?_, ?_, hC, FC.rfl, hW, hX0.1, FR.rfl, rfl⟩
      · unfold g_X10_night g_X10_night_0
        rw [k_1, k_60, wi10, wd, bnd, if_neg (by decide), c11, k_9999, pk_sub b1, if_neg (nI_ge (by omega) (by omega))]
      · unfold g_X11_night g_X11_night_0
        rw [k_1, k_60, wi11, wd, bnd, if_neg (by decide), k_8, e9, bnd, k_9999, nI_add, if_pos (nI_lt (by omega) (by omega))]
  · refine ⟨-nI 1, s, σ, υ0, ?_, ?_, hC, FC.rfl, hW, hX0.1, FR.rfl, rfl⟩
    · unfold g_X10_night g_X10_night_0
      rw [k_1, k_60, wi10, in_f h, bnd, if_pos rfl]
    · unfold g_X11_night g_X11_night_0
      rw [k_1, k_60, wi11, in_f h, bnd, if_pos rfl]
end NTS
