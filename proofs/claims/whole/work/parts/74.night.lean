/-! a night -/
section NGT
variable {N : Mem} {σ τ τ0 τ' υ υ' υ0 : ST} {w w' w1 : SS} {b : Nat} {wr : Bool} {A A' : Nat → Int32} {ru : Nat → Nat} {o : Option Nat} {X : Int32}
theorem RV.tx (h : RV wr υ0 υ w) (hT : TXO N υ0 o X) : TXO N υ o X := by
  rcases hT with h1 | ⟨t, j, h1, h2, h3, h4⟩
  · exact Or.inl h1
  · refine Or.inr ⟨t, j, h1, h2, h3, ?_⟩
    have e : (fun i => υ.1 645 (705 * j + i)) = fun i => υ0.1 645 (705 * j + i) := funext fun i => h.2.2.2.2.1 _ _ (by omega) (by omega) (by omega) (by omega)
    rw [e]
    exact h4
theorem RV.x (h : RV wr υ0 υ w) (hX : υ0.1 643 2 = X) : υ.1 643 2 = X := (h.2.1 2 (by omega)).trans hX
theorem RV.f23 (h : RV wr υ0 υ w) (hX : υ0.1 642 23 = jz wr) : υ.1 642 23 = jz wr := (h.2.2.2.2.1 642 23 (by omega) (by omega) (by omega) (by omega)).trans hX
/-- wear and oil at the end of a dream -/
theorem end_e (hT : TXO N υ0 o X) (hX : υ0.1 643 2 = X) (hb : b + 9 ≤ 13 ∨ 603 ≤ b) {m n B : Nat} (hm : m < w 0 0) (hC : CW b τ0 τ w) (hV : RV wr υ0 υ w) (hW : WFw w) (K : Nat → Nat → Nat → Nat → Option Nat → Int32 → Int32 → ST → Option (Int32 × ST)) : ∃ τ' υ' w', g_X0_pass_60 N K 601 b 20 13 o (nI B) (nI m) τ = K 601 b 20 13 o (nI B) (nI (m + 1)) τ' ∧ g_X11_dream_119 N 642 (nI m) υ = some υ' ∧ CW b τ0 τ' w' ∧ RV wr υ0 υ' w' ∧ WFw w' ∧ w' 0 0 = w 0 0 ∧ w' 0 1 = w 0 1 ∧ υ'.1 642 24 = υ.1 642 24 := by
  have hc : w 0 0 ≤ 5 := hW.1
  have hm5 : m < 5 := by omega
  have hb30 : w 0 3 ≤ 30 := hW.2.2.2.1
  obtain ⟨b1, b2, b3, b4, b5, b6⟩ := hW.fld m
  obtain ⟨v, τ1, υ1, v1, c1, r1, f1, f2⟩ := wears_e (N := N) (hV.tx hT) (hV.x hX) (by omega) hC.1 hW hV.1.r0 hm
  have hC1 := hC.af (by omega) f1
  have hV1 := hV.bf f2
  have hC2 := (hC1.set (k := 3) (i := m) (v := min 99 (w 3 m + v)) (by omega)).set (k := 4) (i := m) (v := w 4 m - 1) (by omega)
  have ma1 := rma_0 hV1.1.2.2.2 hc hW.l (v := min 99 (w 3 m + v)) hm
  have hV2 := hV1.set (j := 11 + 18 * m) (v := nI (min 99 (w 3 m + v))) (w' := us w 3 m (min 99 (w 3 m + v))) (by omega) (hV1.1.upd (by omega) ma1 (fun i => us_row (by omega))) (us_row (by omega)) (fun i => us_row (by omega)) hb30
  have hW2 := ww_3 hW (i := m) (v := min 99 (w 3 m + v)) (by omega)
  have hm2 : m < us w 3 m (min 99 (w 3 m + v)) 0 0 := by rw [us_row (by omega)]; exact hm
  have ma2 := rma_1 hV2.1.2.2.2 (by rw [us_row (by omega)]; exact hc) hW2.l (v := w 4 m - 1) hm2
  have hV3 := hV2.set (j := 11 + (18 * m + 1)) (v := nI (w 4 m - 1)) (w' := us (us w 3 m (min 99 (w 3 m + v))) 4 m (w 4 m - 1)) (by omega) (hV2.1.upd (by omega) ma2 (fun i => us_row (by omega))) (us_row (by omega)) (fun i => us_row (by omega)) (by rw [us_row (by omega)]; exact hb30)
  refine ⟨_, _, _, ?_, ?_, hC2, hV3, ww_4 hW2 (by omega), ?_, ?_, ?_⟩
  · have e3 : xI 5 τ (b + 3) (nI m) = some (nI (w 3 m)) := by
      rw [xI_n hm5 (by omega)]
      exact congrArg some (hC.1 3 m (by omega))
    have ej : jmin (nI 99) (nI (w 3 m) + nI v) = nI (min 99 (w 3 m + v)) := by rw [nI_add, jmin_n (by omega) (by omega)]
    have e4 : xI 5 (setI τ1 (b + 3) m (nI (min 99 (w 3 m + v)))) (b + 4) (nI m) = some (nI (w 4 m)) := by
      rw [xI_n hm5 (by omega), I_row (by omega)]
      exact congrArg some (hC1.1 4 m (by omega))
    have ek : jmax (nI 0) (nI (w 4 m) - nI 1) = nI (w 4 m - 1) := by
      rw [jmx (by omega) (by omega), show max 0 (w 4 m - 1) = w 4 m - 1 by omega]
    unfold g_X0_pass_60
    rw [e3, bnd, c1, bnd]
    dsimp only
    rw [k_99, ej, yI_n hm5 (by omega), bnd, e4, bnd, k_0, k_1, ek, yI_n hm5 (by omega), bnd, nI_add]
  · obtain ⟨g0, -⟩ := get_r (N := N) hV.1 hc hm
    obtain ⟨-, g1, -⟩ := get_r (N := N) hV2.1 (by rw [us_row (by omega)]; exact hc) hm2
    rw [us_row (by omega)] at g1
    have l0 := lay_r (N := N) (υ := υ1) (m := m) (k := 0) (v := nI (min 99 (w 3 m + v))) hm5 (by omega)
    rw [Nat.add_zero] at l0
    have l1 := lay_r (N := N) (υ := setI υ1 643 (11 + 18 * m) (nI (min 99 (w 3 m + v)))) (m := m) (k := 1) (v := nI (w 4 m - 1)) hm5 (by omega)
    have ct1 : f_X11_cut (Int32.toInt64 (nI (w 3 m) + nI v)) 0 (nI 99) = some (nI (min 99 (w 3 m + v))) := by
      obtain ⟨q, q1, q2, q3⟩ := cut_n (nI (w 3 m) + nI v) (top := 99) (by omega)
      rw [q3, ← q2, nI_add, jmin_n (by omega) (by omega), k_0, jmax_n (by omega) (by omega), show max 0 (min 99 (w 3 m + v)) = min 99 (w 3 m + v) by omega]
    have ct2 : f_X11_cut (Int32.toInt64 (nI (w 4 m) - nI 1)) 0 (nI 9) = some (nI (w 4 m - 1)) := by
      obtain ⟨q, q1, q2, q3⟩ := cut_n (nI (w 4 m) - nI 1) (top := 9) (by omega)
      rw [q3, ← q2]
      have em : jmin (nI 9) (nI (w 4 m) - nI 1) = nI (w 4 m) - nI 1 := by
        rw [jmin_le]
        by_cases z : w 4 m = 0
        · rw [z, if_neg (by decide)]
        · rw [pk_sub (by omega)]
          by_cases z2 : 9 ≤ w 4 m - 1
          · omega
          · rw [if_neg (nI_ge (by omega) (by omega))]
      rw [em, k_0, jmx (by omega) (by omega), show max 0 (w 4 m - 1) = w 4 m - 1 by omega]
    unfold g_X11_dream_119
    rw [k_0] at ct1 ct2
    rw [k_0, g0, bnd, r1, bnd]
    dsimp only
    rw [k_99, ct1, bnd, l0, bnd, k_1, g1, bnd, k_9, ct2, bnd, l1, bnd]
  · rw [us_row (by omega), us_row (by omega)]
  · rw [us_row (by omega), us_row (by omega)]
  · rw [I_row (by omega), I_row (by omega)]
    exact f2.1 _ _ (by omega) (by omega)
theorem dream_e (hT : TXO N υ0 o X) (hX : υ0.1 643 2 = X) (h23 : υ0.1 642 23 = jz wr) (hU : RU τ0 υ0 ru) (hb : b + 9 ≤ 13 ∨ 603 ≤ b) {m n B : Nat} (hm : m < w 0 0) (hC : CW b τ0 τ w) (hV : RV wr υ0 υ w) (hW : WFw w) : ∃ τ' υ' w' e, e ≤ 1 ∧ g_X0_pass_6 N (n + 1) 601 b 20 13 o (nI B) (nI m) τ = g_X0_pass_6 N n 601 b 20 13 o (nI (B + e)) (nI (m + 1)) τ' ∧ g_X11_dream N 642 (nI m) υ = some υ' ∧ CW b τ0 τ' w' ∧ RV wr υ0 υ' w' ∧ WFw w' ∧ w' 0 0 = w 0 0 ∧ w' 0 1 = w 0 1 ∧ υ'.1 642 24 = υ.1 642 24 + nI e := by
  have hc : w 0 0 ≤ 5 := hW.1
  have hm5 : m < 5 := by omega
  have hb30 : w 0 3 ≤ 30 := hW.2.2.2.1
  obtain ⟨b1, b2, b3, b4, b5, b6⟩ := hW.fld m
  obtain ⟨l, τ1, υ1, l1, c1, r1, f1, f2⟩ := loose_e (N := N) (hV.tx hT) (by omega) hC.1 hW hV.1.r0 hm
  have hC1 := hC.af (by omega) f1
  have hV1 := hV.bf f2
  -- the roll is taken off
  have hC2 := hC1.set (k := 6) (i := m) (v := 0) (by omega)
  have hcl := clear_ok (N := N) (σ := υ1) (f := υ1.1 643) hm5
  rw [R_id] at hcl
  have co : ∀ i, ¬ (14 + 18 * m ≤ i ∧ i < 27 + 18 * m) → clr (υ1.1 643) m i = υ1.1 643 i := fun i hi => if_neg hi
  have hV2 : RV wr υ0 (setR υ1 643 (clr (υ1.1 643) m)) (us w 6 m 0) := by
    refine hV1.rep (A' := clr (υ1.1 643) m) R_1 (fun a i q1 _ => R_row q1) rfl ⟨?_, ?_, ?_, rma_clr hV1.1.2.2.2 hc hW.l hm⟩ (fun i hi => co i (by omega)) (fun q => ?_) (fun q => ⟨co _ (by omega), fun i q1 q2 => co i (by omega)⟩)
    · rw [co _ (by omega), us_row (by omega)]; exact hV1.1.1
    · rw [co _ (by omega), us_row (by omega)]; exact hV1.1.2.1
    · rw [co _ (by omega), us_row (by omega)]; exact hV1.1.2.2.1
    · obtain ⟨q1, q2⟩ := hV1.2.2.1 q
      exact ⟨by rw [co _ (by omega), us_row (by omega)]; exact q1, Rbk_b (fun i hi => co _ (by omega)) (fun i => us_row (by omega)) (us_row (by omega)) hb30 q2⟩
  have hW2 := ww_6 hW (i := m) (v := 0) (by omega)
  have hm2 : m < us w 6 m 0 0 0 := by rw [us_row (by omega)]; exact hm
  obtain ⟨τ3, υ3, w3, n3, p1, p2, hC3, hV3, hW3, hQ3, p642⟩ := roll_l (N := N) (w := us w 6 m 0) hU hb (S := w 5 m) (l := l) (m := m) b5 hm2 (dc (w 5 m)) 0 fu fu _ _ _ (by omega) (by have := dc_b (w 5 m); unfold fu; omega) (by have := dc_b (w 5 m); unfold fu; omega) hC2 hV2 hW2 (fun _ _ _ _ _ => rfl) l1
  have q0 : ∀ k i, ¬ (k = 0 ∧ i = 2) → k ≠ 7 → k ≠ 6 → w3 k i = w k i := fun k i h1 h2 h3 => (hQ3 k i h1 h2 (by omega)).trans (us_row h3)
  have hm3 : m < w3 0 0 := by rw [q0 _ _ (by omega) (by omega) (by omega)]; exact hm
  have hx3 : w3 0 2 < 30557 := hW3.2.2.1
  have hC4 : CW b τ0 (setI τ3 b 2 (nI (nxt (w3 0 2)))) (us w3 0 2 (nxt (w3 0 2))) := by
    have := hC3.set (k := 0) (i := 2) (v := nxt (w3 0 2)) (by omega)
    rw [Nat.add_zero] at this
    exact this
  have hW4 := ww_02 hW3 (nxt_b (w3 0 2))
  have eC := draw_c (N := N) hC3.1 hx3
  have hA4 : RW0 (υ3.1 643) (us w3 0 2 (nxt (w3 0 2))) := by
    obtain ⟨a0, a8, a9, ma⟩ := hV3.1
    refine ⟨by rw [us_col (by omega)]; exact a0, by rw [us_col (by omega)]; exact a8, ?_⟩
    intro q hq
    rw [us_col (by omega)] at hq
    obtain ⟨⟨m0, m1, m2, m3, m4⟩, m5, m6⟩ := ma q hq
    refine ⟨⟨by rw [us_row (by omega)]; exact m0, by rw [us_row (by omega)]; exact m1, by rw [us_row (by omega)]; exact m2, by rw [us_row (by omega)]; exact m3, fun i hi => ?_⟩, by rw [us_row (by omega)]; exact m5, by rw [us_row (by omega)]; exact m6⟩
    rw [us_row (by omega)] at hi ⊢
    exact m4 i hi
  have hm4 : m < us w3 0 2 (nxt (w3 0 2)) 0 0 := by rw [us_col (by omega)]; exact hm3
  obtain ⟨v, τ5, υ5, v1, c5, r5, f3, f4⟩ := believes_e (N := N) (hV3.tx hT) (hV3.x hX) (by omega) hC4.1 hW4 hA4 hm4
  have hC5 := hC4.af (by omega) f3
  have hV5 := hV3.bf f4
  have eR := drawn_r (N := N) hV5.1 hx3
  have hV6 := hV5.set (j := 9) (v := nI (nxt (w3 0 2))) (w' := us w3 0 2 (nxt (w3 0 2))) (by omega) hV5.1.sc9 (us_col (by omega)) (fun i => us_row (by omega)) hW3.2.2.2.1
  have f24 : (setI υ5 643 9 (nI (nxt (w3 0 2)))).1 642 24 = υ.1 642 24 := by
    rw [I_row (by omega), f4.1 642 24 (by omega) (by omega), p642, R_row (by omega)]
    exact f2.1 642 24 (by omega) (by omega)
  have q4 : ∀ k i, ¬ (k = 0 ∧ i = 2) → k ≠ 7 → k ≠ 6 → us w3 0 2 (nxt (w3 0 2)) k i = w k i := fun k i h1 h2 h3 => Eq.trans (if_neg h1) (q0 k i h1 h2 h3)
  generalize us w3 0 2 (nxt (w3 0 2)) = w4 at *
  have hx10 : w3 0 2 % 10 < 10 := Nat.mod_lt _ (by omega)
  obtain ⟨-, -, g2, -⟩ := get_r (N := N) hV.1 hc hm
  have dcl : dc (w 5 m) ≤ 4 := (dc_b (w 5 m)).2
  -- what both do up to the draw
  have clsA : g_X0_pass_6 N (n + 1) 601 b 20 13 o (nI B) (nI m) τ = if nI v ≤ nI (w3 0 2 % 10) then g_X0_pass_60 N (g_X0_pass_6 N n) 601 b 20 13 o (nI B) (nI m) τ5 else (g_X9_believe N b (nI m) τ5).bind fun r11 => g_X0_pass_60 N (g_X0_pass_6 N n) 601 b 20 13 o (nI B + 1) (nI m) r11 := by
    have e0 : τ.1 b 0 = nI (w 0 0) := hC.1 0 0 (by omega)
    have e5 : xI 5 (setI τ1 (b + 6) m (nI 0)) (b + 5) (nI m) = some (nI (w 5 m)) := by
      rw [xI_n hm5 (by omega), I_row (by omega)]
      exact congrArg some (hC1.1 5 m (by omega))
    have pr : g_X0_printRoll N b (nI m) 20 13 (nI l) τ1 = some τ3 := by
      unfold g_X0_printRoll g_X0_printRoll_0
      rw [k_0, yI_n hm5 (by omega), bnd, e5, bnd, dc10 b5, bnd]
      exact p1
    rw [g_X0_pass_6, e0, if_neg (nI_ge hm (by omega)), k_5, if_neg (nI_ge hm5 (by omega)), c1, bnd]
    dsimp only
    rw [pr, bnd, eC, bnd]
    dsimp only
    rw [c5, bnd]
  have refA : g_X11_dream N 642 (nI m) υ = if nI v ≤ nI (w3 0 2 % 10) then g_X11_dream_119 N 642 (nI m) (setI υ5 643 9 (nI (nxt (w3 0 2)))) else (g_X11_numberOfRoll N 642 (nI m) (setI υ5 643 9 (nI (nxt (w3 0 2))))).bind fun v13 => (g_X11_lay N 642 (nI m) 2 v13 (setI υ5 643 9 (nI (nxt (w3 0 2))))).bind fun r14 => (some (setI r14 642 24 ((r14.1 642 24) + 1))).bind fun r15 => (g_X11_get N 642 (nI m) 2 r15).bind fun v16 => (g_X11_write N 642 (nI m) (nI (w 5 m)) v16 r15).bind fun r17 => g_X11_dream_119 N 642 (nI m) r17 := by
    have e2 : xI 4607 υ (642 + 1) (nI 2) = some X := by
      rw [xI_n (by omega) (by omega)]
      exact congrArg some (hV.x hX)
    unfold g_X11_dream g_X11_dream_0
    rw [k_2, g2, bnd, e2, bnd, r1, bnd]
    dsimp only
    rw [hcl, bnd, k_0, p2, g_X11_dream_27, dc11 b5, bnd, if_pos (nI_le (Nat.le_refl _) (by omega)), r5, bnd]
    dsimp only
    rw [eR, bnd, k_2]
  by_cases cv : v ≤ w3 0 2 % 10
  · obtain ⟨τ', υ', w', s1, s2, s3, s4, s5, s6, s7, s8⟩ := end_e (N := N) (n := n) (B := B) hT hX hb hm4 hC5 hV6 hW4 (g_X0_pass_6 N n)
    refine ⟨τ', υ', w', 0, by omega, ?_, ?_, s3, s4, s5, ?_, ?_, ?_⟩
    · rw [clsA, if_pos (nI_le cv (by omega)), Nat.add_zero]
      exact s1
    · rw [refA, if_pos (nI_le cv (by omega))]
      exact s2
    · rw [s6, q4 _ _ (by omega) (by omega) (by omega)]
    · rw [s7, q4 _ _ (by omega) (by omega) (by omega)]
    · rw [s8, f24, ← k_0]
      exact (Int32.add_zero _).symm
  · have hn4 : rnm w4 m ≤ 9999 := rnm_b hW4 m
    have hc4 : w4 0 0 ≤ 5 := hW4.1
    obtain ⟨τ6, a1, a2⟩ := bel_c (N := N) hC5 hW4 hm4
    have hw45 : w4 5 m = w 5 m := q4 _ _ (by omega) (by omega) (by omega)
    -- the reference
    have nr := num_r (N := N) hV6.1 hW4 hm4
    have lr := lay_r (N := N) (υ := setI υ5 643 9 (nI (nxt (w3 0 2)))) (m := m) (k := 2) (v := nI (rnm w4 m)) hm5 (by omega)
    have ma := rma_2 hV6.1.2.2.2 hc4 hW4.l (v := rnm w4 m) hm4
    have hV7 := hV6.set (j := 11 + (18 * m + 2)) (v := nI (rnm w4 m)) (w' := us w4 5 m (rnm w4 m)) (by omega) (hV6.1.upd (by omega) ma (fun i => us_row (by omega))) (us_row (by omega)) (fun i => us_row (by omega)) hW4.2.2.2.1
    have hW7 := ww_5 hW4 (i := m) (v := rnm w4 m) hn4
    generalize hυ7 : setI (setI υ5 643 9 (nI (nxt (w3 0 2)))) 643 (11 + (18 * m + 2)) (nI (rnm w4 m)) = υ7 at *
    have f24' : υ7.1 642 24 = υ.1 642 24 := by
      rw [← hυ7, I_row (by omega)]
      exact f24
    have hV8 : RV wr υ0 (setI υ7 642 24 (υ7.1 642 24 + 1)) (us w4 5 m (rnm w4 m)) := by
      refine hV7.rep (A' := υ7.1 643) (funext fun i => I_row (by omega)) (fun a i q1 q2 => ?_) rfl hV7.1 (fun _ _ => rfl) hV7.2.2.1 (fun q => ⟨rfl, fun _ _ _ => rfl⟩)
      show (if a = 642 ∧ i = 24 then _ else _) = _
      rw [if_neg q2]
    have hm7 : m < us w4 5 m (rnm w4 m) 0 0 := by rw [us_row (by omega)]; exact hm4
    obtain ⟨-, -, gs, -⟩ := get_r (N := N) hV8.1 (by rw [us_row (by omega)]; exact hc4) hm7
    rw [us_same rfl rfl] at gs
    obtain ⟨υ9, w1', w2', w3'⟩ := wri_r (N := N) hV8 hW7 (hV8.f23 h23) (m := m) (a := w 5 m) (t := rnm w4 m) (by omega)
    rw [bk_us, ← hw45] at w2'
    have hW9 : WFw (us (bk w4 m (w4 5 m) (rnm w4 m)) 5 m (rnm w4 m)) := ww_5 (bk_w hW4 (by omega) (by rw [hw45]; exact b5) hn4) hn4
    have hm9 : m < us (bk w4 m (w4 5 m) (rnm w4 m)) 5 m (rnm w4 m) 0 0 := by
      rw [us_row (by omega), bk_o (by omega) (by omega)]
      exact hm4
    obtain ⟨τ', υ', w', s1, s2, s3, s4, s5, s6, s7, s8⟩ := end_e (N := N) (n := n) (B := B + 1) hT hX hb hm9 a2 w2' hW9 (g_X0_pass_6 N n)
    refine ⟨τ', υ', w', 1, by omega, ?_, ?_, s3, s4, s5, ?_, ?_, ?_⟩
    · rw [clsA, if_neg (nI_ge (by omega) (by omega)), a1, bnd, k_1, nI_add]
      exact s1
    · rw [refA, if_neg (nI_ge (by omega) (by omega)), nr, bnd, k_2, lr, bnd, bnd, gs, bnd, w1', bnd]
      exact s2
    · rw [s6, us_row (by omega), bk_o (by omega) (by omega), q4 _ _ (by omega) (by omega) (by omega)]
    · rw [s7, us_row (by omega), bk_o (by omega) (by omega), q4 _ _ (by omega) (by omega) (by omega)]
    · rw [s8, w3', I_same rfl rfl, f24', k_1]
theorem pass_l (hT : TXO N υ0 o X) (hX : υ0.1 643 2 = X) (h23 : υ0.1 642 23 = jz wr) (hU : RU τ0 υ0 ru) (hb : b + 9 ≤ 13 ∨ 603 ≤ b) {c t : Nat} (hc : c ≤ 5) : ∀ r m n n2 B τ υ w, m + r = c → r < n → r < n2 → w 0 0 = c → w 0 1 = t → t < 9999 → CW b τ0 τ w → RV wr υ0 υ w → WFw w → ∃ τ' υ' w' e, e ≤ r ∧ g_X0_pass_6 N n 601 b 20 13 o (nI B) (nI m) τ = some (nI (B + e), τ') ∧ g_X11_pass_2 N n2 642 (nI m) υ = some υ' ∧ CW b τ0 τ' w' ∧ RV wr υ0 υ' w' ∧ WFw w' ∧ w' 0 0 = c ∧ w' 0 1 = t + 1 ∧ υ'.1 642 24 = υ.1 642 24 + nI e := by
  intro r
  induction r with
  | zero =>
    intro m n n2 B τ υ w hm hn hn2 h0 h1 ht hC hV hW
    obtain ⟨n, rfl⟩ : ∃ x, n = x + 1 := ⟨n - 1, by omega⟩
    obtain ⟨n2, rfl⟩ : ∃ x, n2 = x + 1 := ⟨n2 - 1, by omega⟩
    obtain rfl : m = c := by omega
    have hC2 : CW b τ0 (setI τ b 1 (nI (t + 1))) (us w 0 1 (t + 1)) := by
      have := hC.set (k := 0) (i := 1) (v := t + 1) (by omega)
      rw [Nat.add_zero] at this
      exact this
    have hR : RW (ua (υ.1 643) 8 (nI (t + 1))) (us w 0 1 (t + 1)) := by
      obtain ⟨a0, a8, a9, ma⟩ := hV.1
      refine ⟨by rw [ua_ne (by omega), us_col (by omega)]; exact a0, by rw [ua_same rfl, us_same rfl rfl], by rw [ua_ne (by omega), us_col (by omega)]; exact a9, ?_⟩
      intro q hq
      rw [us_col (by omega)] at hq
      obtain ⟨⟨m0, m1, m2, m3, m4⟩, m5, m6⟩ := ma q hq
      refine ⟨⟨?_, ?_, ?_, ?_, fun i hi => ?_⟩, ?_, ?_⟩
      · show ua _ _ _ (11 + 18 * q + 0) = _
        rw [ua_ne (by omega), us_row (by omega)]; exact m0
      · show ua _ _ _ (11 + 18 * q + 1) = _
        rw [ua_ne (by omega), us_row (by omega)]; exact m1
      · show ua _ _ _ (11 + 18 * q + 2) = _
        rw [ua_ne (by omega), us_row (by omega)]; exact m2
      · show ua _ _ _ (11 + 18 * q + 3) = _
        rw [ua_ne (by omega), us_row (by omega)]; exact m3
      · rw [us_row (by omega)] at hi
        show ua _ _ _ (11 + 18 * q + (4 + i)) = _
        rw [ua_ne (by omega), us_row (by omega)]; exact m4 i hi
      · rw [ua_ne (by omega), us_row (by omega)]; exact m5
      · rw [ua_ne (by omega), us_row (by omega)]; exact m6
    have hV2 := hV.set (j := 8) (v := nI (t + 1)) (w' := us w 0 1 (t + 1)) (by omega) hR (us_col (by omega)) (fun i => us_row (by omega)) hW.2.2.2.1
    have hW2 : WFw (us w 0 1 (t + 1)) := by
      obtain ⟨h0, h1, h2, h3, h4, h5, h6, h7, h8, h9, h10, h11⟩ := hW
      refine ⟨?_, ?_, ?_, ?_, fun m => ?_, fun m => ?_, fun m => ?_, fun m => ?_, fun m => ?_, fun m => ?_, fun m => ?_, fun m => ?_⟩
      · rw [us_col (by omega)]; exact h0
      · rw [us_same rfl rfl]; omega
      · rw [us_col (by omega)]; exact h2
      · rw [us_col (by omega)]; exact h3
      · rw [us_row (by omega)]; exact h4 m
      · rw [us_row (by omega)]; exact h5 m
      · rw [us_row (by omega)]; exact h6 m
      · rw [us_row (by omega)]; exact h7 m
      · rw [us_row (by omega)]; exact h8 m
      · rw [us_row (by omega)]; exact h9 m
      · rw [us_row (by omega)]; exact h10 m
      · rw [us_row (by omega), us_row (by omega), us_row (by omega), us_row (by omega)]; exact h11 m
    refine ⟨_, _, _, 0, by omega, ?_, ?_, hC2, hV2, hW2, ?_, us_same rfl rfl, ?_⟩
    · have e0 : τ.1 b 0 = nI m := (hC.1 0 0 (by omega)).trans (by rw [h0])
      have e1 : τ.1 b 1 = nI t := (hC.1 0 1 (by omega)).trans (by rw [h1])
      rw [g_X0_pass_6, e0, if_pos (nI_le (Nat.le_refl _) (by omega))]
      unfold g_X0_pass_114
      rw [e1, k_1, nI_add, bnd]
      rfl
    · have e0 : xI 4607 υ (642 + 1) (nI 0) = some (nI m) := by
        rw [xI_n (by omega) (by omega), ← h0]
        exact congrArg some hV.1.1
      have e8 : xI 4607 υ (642 + 1) (nI 8) = some (nI t) := by
        rw [xI_n (by omega) (by omega), ← h1]
        exact congrArg some hV.1.2.1
      rw [g_X11_pass_2, k_0, e0, bnd, if_pos (nI_le (Nat.le_refl _) (by omega)), k_8, e8, bnd, k_1, nI_add, yI_n (by omega) (by omega), bnd]
    · rw [us_col (by omega)]; exact h0
    · rw [I_row (by omega), ← k_0]
      exact (Int32.add_zero _).symm
  | succ r ih =>
    intro m n n2 B τ υ w hm hn hn2 h0 h1 ht hC hV hW
    obtain ⟨n, rfl⟩ : ∃ x, n = x + 1 := ⟨n - 1, by omega⟩
    obtain ⟨n2, rfl⟩ : ∃ x, n2 = x + 1 := ⟨n2 - 1, by omega⟩
    obtain ⟨τ1, υ1, w1, e1, k0, k1, k2, k3, k4, k5, k6, k7, k8⟩ := dream_e (N := N) (n := n) (B := B) (m := m) hT hX h23 hU hb (by omega) hC hV hW
    obtain ⟨τ', υ', w', e2, j0, j1, j2, j3⟩ := ih (m + 1) n n2 (B + e1) τ1 υ1 w1 (by omega) (by omega) (by omega) (k6.trans h0) (k7.trans h1) ht k3 k4 k5
    refine ⟨τ', υ', w', e1 + e2, by omega, ?_, ?_, j3.1, j3.2.1, j3.2.2.1, j3.2.2.2.1, j3.2.2.2.2.1, ?_⟩
    · rw [k1, j1, Nat.add_assoc]
    · have e0 : xI 4607 υ (642 + 1) (nI 0) = some (nI c) := by
        rw [xI_n (by omega) (by omega), ← h0]
        exact congrArg some hV.1.1
      rw [g_X11_pass_2, k_0, e0, bnd, if_neg (nI_ge (by omega) (by omega)), k2, bnd, k_1, nI_add]
      exact j2
    · rw [j3.2.2.2.2.2, k8, ← nI_add, Int32.add_assoc]
end NGT
