section LW4
variable {N : Mem} {σ τ υ : ST} {B : Nat → Nat} {L q kc : Nat}
theorem wm_7 : wlen 3 = 7 ∧ wst 3 = 21 ∧ wdn 21 = 109 ∧ wdn 22 = 97 ∧ wdn 23 = 99 ∧ wdn 24 = 104 ∧ wdn 25 = 105 ∧ wdn 26 = 110 ∧ wdn 27 = 101 := by decide +kernel
theorem tk_l7 (h : TKN B L σ υ q kc) : g_X11_isLong N 642 (lN (((109 * 256 + 97) * 256 + 99) * 256 + 104)) (lN ((105 * 256 + 110) * 256 + 101)) 7 υ = some (decide (kc = 3)) := by
  unfold g_X11_isLong g_X11_isLong_0
  rcases tk_is2 h with ⟨k2, _⟩ | ⟨k2, k3⟩
  · obtain ⟨ql, qa⟩ := kd_2 h k2
    have kw := kc_w h ql qa (k := 3) (by omega)
    obtain ⟨⟨hB, b1, b2, hq⟩, _, ⟨r1, r2, r3⟩, _⟩ := h
    have h0 := b2.1
    obtain ⟨t1, t2, t3⟩ := tkE_b (B := B) hq
    generalize tkE B L q = e at *
    rw [if_pos (by rw [k2]; rfl), r1, r2, pk_sub t2, show (7 : Int32) = nI 7 from rfl]
    by_cases c : e - q = 7
    · have eb : ∀ i, i < 7 → g_X11_byteAt N 642 (nI (q + i)) υ = some (nI (B (q + i))) := by
        intro i hi
        rw [ba_r (N := N) b2 (by omega), if_pos (by omega)]
      have e0 : g_X11_byteAt N 642 (nI q) υ = some (nI (B q)) := eb 0 (by omega)
      have g0 := hB q
      have g1 := hB (q + 1)
      have g2 := hB (q + 2)
      have g3 := hB (q + 3)
      have g4 := hB (q + 4)
      have g5 := hB (q + 5)
      have g6 := hB (q + 6)
      unfold g_X11_isLong_113
      rw [if_pos (by rw [c]), if_pos rfl, r1, show (4 : Int32) = nI 4 from rfl, show (5 : Int32) = nI 5 from rfl, show (6 : Int32) = nI 6 from rfl, show (1 : Int32) = nI 1 from rfl, show (2 : Int32) = nI 2 from rfl, show (3 : Int32) = nI 3 from rfl, nI_add, nI_add, nI_add, nI_add, nI_add, nI_add, eb 4 (by omega), bnd, eb 5 (by omega), bnd, eb 6 (by omega), bnd, w3_e g4 g5 g6, bnd, e0, bnd, eb 1 (by omega), bnd, eb 2 (by omega), bnd, eb 3 (by omega), bnd, w4_e g0 g1 g2 g3, bnd]
      have key : ((((B q * 256 + B (q + 1)) * 256 + B (q + 2)) * 256 + B (q + 3) = ((109 * 256 + 97) * 256 + 99) * 256 + 104) ∧ ((B (q + 4) * 256 + B (q + 5)) * 256 + B (q + 6) = (105 * 256 + 110) * 256 + 101)) ↔ kc = 3 := by
        rw [← kw]
        obtain ⟨z0, z1, z2, z3, z4, z5, z6, z7, z8⟩ := wm_7
        constructor
        · intro x
          refine ⟨by omega, fun u hu => ?_⟩
          rw [z0] at hu
          rw [z1]
          obtain rfl | rfl | rfl | rfl | rfl | rfl | rfl : u = 0 ∨ u = 1 ∨ u = 2 ∨ u = 3 ∨ u = 4 ∨ u = 5 ∨ u = 6 := by omega
          · show B q = wdn 21; omega
          · show B (q + 1) = wdn 22; omega
          · show B (q + 2) = wdn 23; omega
          · show B (q + 3) = wdn 24; omega
          · show B (q + 4) = wdn 25; omega
          · show B (q + 5) = wdn 26; omega
          · show B (q + 6) = wdn 27; omega
        · intro x
          have y : ∀ u, u < 7 → B (q + u) = wdn (21 + u) := fun u hu => by
            have := x.2 u (by omega)
            rw [z1] at this
            exact this
          have y0 : B q = wdn 21 := y 0 (by omega)
          have y1 : B (q + 1) = wdn 22 := y 1 (by omega)
          have y2 : B (q + 2) = wdn 23 := y 2 (by omega)
          have y3 : B (q + 3) = wdn 24 := y 3 (by omega)
          have y4 : B (q + 4) = wdn 25 := y 4 (by omega)
          have y5 : B (q + 5) = wdn 26 := y 5 (by omega)
          have y6 : B (q + 6) = wdn 27 := y 6 (by omega)
          omega
      by_cases d : kc = 3
      · obtain ⟨x1, x2⟩ := key.mpr d
        rw [x1, x2, if_pos ((lgc _ _).mpr rfl), if_pos ((lgc _ _).mpr rfl), decide_eq_true d]
      · rw [decide_eq_false d]
        by_cases x1 : ((B q * 256 + B (q + 1)) * 256 + B (q + 2)) * 256 + B (q + 3) = ((109 * 256 + 97) * 256 + 99) * 256 + 104
        · rw [if_pos ((lgc _ _).mpr (by rw [x1])), if_neg (fun y => d (key.mp ⟨x1, (lN_inj (by omega) (by omega)).mp ((lgc _ _).mp y)⟩))]
        · rw [if_neg (fun y => x1 ((lN_inj (by omega) (by omega)).mp ((lgc _ _).mp y)))]
    · have d : ¬ kc = 3 := fun x => c (by
        have := (kw.mpr x).1
        have z0 := wm_7.1
        omega)
      rw [if_neg (fun y => c ((nI_eq (by omega) (by omega)).mp y)), decide_eq_false d]
  · rw [if_neg (fun y => k2 (by rw [y]; rfl)), decide_eq_false (by omega)]
end LW4
