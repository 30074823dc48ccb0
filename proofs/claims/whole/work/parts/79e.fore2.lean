section FO2
variable {N : Mem} {σ τ υ υ0 υb : ST} {s s' w : SS}
def w0d (s w : SS) : SS := fun k i => if i < wl k then s (1 + k) i else w k i
theorem w0_e {k i : Nat} (h : i < wl k) : w0d s w k i = cur s k i := if_pos h
theorem w0_b {k B i : Nat} (h1 : cur s k i ≤ B) (h2 : w k i ≤ B) : w0d s w k i ≤ B := by
  unfold w0d
  by_cases c : i < wl k
  · rw [if_pos c]; exact h1
  · rw [if_neg c]; exact h2
theorem w0_wf (h1 : WFw (cur s)) (h2 : WFw w) : WFw (w0d s w) := by
  obtain ⟨a0, a1, a2, a3, a4, a5, a6, a7, a8, a9, a10, a11⟩ := h1
  obtain ⟨b0, b1, b2, b3, b4, b5, b6, b7, b8, b9, b10, b11⟩ := h2
  exact ⟨w0_b a0 b0, w0_b a1 b1, Nat.lt_succ_of_le (w0_b (Nat.le_of_lt_succ a2) (Nat.le_of_lt_succ b2)), w0_b a3 b3, fun m => w0_b (a4 m) (b4 m), fun m => w0_b (a5 m) (b5 m), fun m => w0_b (a6 m) (b6 m), fun m => w0_b (a7 m) (b7 m), fun m => w0_b (a8 m) (b8 m), fun m => w0_b (a9 m) (b9 m), fun m => w0_b (a10 m) (b10 m), fun m => ⟨w0_b (a11 m).1 (b11 m).1, w0_b (a11 m).2.1 (b11 m).2.1, w0_b (a11 m).2.2.1 (b11 m).2.2.1, w0_b (a11 m).2.2.2 (b11 m).2.2.2⟩⟩
theorem w0_rw {A : Nat → Int32} (hW : WFs s) (hR : RR A s) : RW A (w0d s w) := by
  have e0 : w0d s w 0 0 = s 1 0 := w0_e (by decide)
  have e1 : w0d s w 0 1 = s 1 1 := w0_e (by decide)
  have e2 : w0d s w 0 2 = s 1 2 := w0_e (by decide)
  refine ⟨by rw [e0]; exact hR.1.1, by rw [e1]; exact hR.1.2.2.2.2.2.2.2.2.1, by rw [e2]; exact hR.1.2.2.2.2.2.2.2.2.2.1, fun m hm => ?_⟩
  rw [e0] at hm
  have hc : s 1 0 ≤ 5 := hW.1.1
  have l6 : cur s 6 m ≤ 12 := by obtain ⟨_, _, _, _, _, _, _, _, _, h9, _⟩ := hW.1; exact h9 m
  have hm5 : m < 5 := by omega
  obtain ⟨⟨q0, q1, q2, q3, q4⟩, q5, q6⟩ := hR.2.1 m hm
  have e : ∀ k, 0 < k → k < 7 → w0d s w k m = cur s k m := fun k h1 h2 => w0_e (by unfold wl; rw [if_neg (by omega), if_pos h2]; exact hm5)
  refine ⟨⟨by rw [e 3 (by omega) (by omega)]; exact q0, by rw [e 4 (by omega) (by omega)]; exact q1, by rw [e 5 (by omega) (by omega)]; exact q2, by rw [e 6 (by omega) (by omega)]; exact q3, fun i hi => ?_⟩, by rw [e 1 (by omega) (by omega)]; exact q5, by rw [e 2 (by omega) (by omega)]; exact q6⟩
  rw [e 6 (by omega) (by omega)] at hi
  rw [w0_e (show 12 * m + i < 60 by omega)]
  exact q4 i hi
theorem w0_cw (hC : RC 1 σ s) (h : WR σ 633 w) : CW 633 σ (cpW σ 633 2) (w0d s w) := by
  refine ⟨fun k i hk => ?_, fun a i h1 h2 h3 => if_neg (by omega), rfl⟩
  unfold cpW w0d
  dsimp only
  rw [Nat.add_sub_cancel_left]
  by_cases c : i < wl k
  · rw [if_pos ⟨by omega, by omega, c⟩, if_pos c, show 2 + k = 1 + (1 + k) by omega]
    exact hC.1 (1 + k) i (by omega) (by omega)
  · rw [if_neg (fun q => c q.2.2), if_neg c]
    exact h k i hk
theorem CW.fd (h : CW 633 σ τ w) : FD σ τ := ⟨fun a i ha => h.2.1 a i (by omega) (by omega) (by omega), h.2.2⟩
theorem RX.fd (h : RX N σ s υ0) (hf : FD υ0 τ) : RX N σ s τ := by
  obtain ⟨h1, h2, h3⟩ := h
  have e3 : τ.1 643 = υ0.1 643 := funext fun i => hf.1 643 i (by omega)
  have e : τ.1 645 = υ0.1 645 := funext fun i => hf.1 645 i (by omega)
  refine ⟨by rw [e3]; exact h1, (hf.1 642 23 (by omega)).trans h2, ?_⟩
  rw [e]
  exact h3
theorem fin_ok {m c : Nat} {x3 : Int32} (hR : RR (υb.1 643) s) (h23 : υb.1 642 23 = jz true) (hc5 : c ≤ 5) (hm : m < c) (hs : s 1 0 = c) {g : Nat → Int32} (hg : ∀ j, j < 101 → g j = if 8 ≤ j then υb.1 643 j else υb.1 651 j) (hv : RV false (setI (setR υb 651 g) 642 23 (jz false)) υ w) (hw : w 0 0 = c) : ∃ υ', fin36 N (nI m) x3 υ = some ((if x3 = 0 then nI (w 5 m) else if x3 = 1 then nI (w 3 m) else nI (w 6 m)), υ') ∧ υ'.1 643 = υb.1 643 ∧ FR υb υ' := by
  obtain ⟨v1, v2, v3, v4, v5, v6, v7⟩ := hv
  obtain ⟨v41, v42⟩ := v4 rfl
  obtain ⟨q0, q1, q2, q3, q4⟩ := get_r (N := N) v1 (by omega) (show m < w 0 0 by omega)
  obtain ⟨f, b1, b2⟩ := back_l (N := N) (υ := υ) 93 8 fu (υ.1 643) (by omega) (by unfold fu; omega)
  rw [R_id] at b1
  have pb : g_X11_putBack N 642 υ = some (setI (setR υ 643 f) 642 23 (jz true)) := by
    unfold g_X11_putBack g_X11_putBack_0
    rw [k_8]
    exact b1
  have ob : ∀ a i, a ≠ 651 → ¬ (a = 642 ∧ i = 23) → (setI (setR υb 651 g) 642 23 (jz false)).1 a i = υb.1 a i := by
    intro a i h1 h2
    refine Eq.trans ?_ (R_row (f := g) h1)
    exact if_neg h2
  have o51 : ∀ j, υ.1 651 j = g j := by
    intro j
    rw [v5 651 j (by omega) (by omega) (by omega) (by omega), I_row (by omega)]
    exact R_same rfl
  have e643 : f = υb.1 643 := by
    funext j
    rw [b2 j]
    by_cases h1 : 8 ≤ j ∧ j < 101
    · rw [if_pos h1, o51, hg j h1.2, if_pos h1.1]
    · rw [if_neg h1]
      by_cases h0 : j = 0
      · subst h0
        rw [v1.1, hw, ← hs]
        exact hR.1.1.symm
      · by_cases h2 : 4547 ≤ j ∧ j < 4607
        · rw [v42 j h2.1 h2.2]
          exact ob 643 j (by omega) (by omega)
        · rw [v2 j (by omega)]
          exact ob 643 j (by omega) (by omega)
  refine ⟨setI (setR υ 643 f) 642 23 (jz true), ?_, ?_, fun a i ha => ?_, ?_⟩
  · unfold fin36
    rw [k_2, q2, k_3, q3, k_0, q0, bnd, bnd, bnd, pb, bnd, bnd, bnd]
    by_cases c0 : x3 = nI 0
    · rw [if_pos c0, if_pos c0]
    · rw [if_neg c0, if_neg c0]
      by_cases c1 : x3 = 1
      · rw [if_pos c1, if_pos c1]
      · rw [if_neg c1, if_neg c1]
  · rw [← e643]
    funext i
    rw [I_row (by omega)]
    exact R_same rfl
  · by_cases h1 : a = 642 ∧ i = 23
    · rw [I_same h1.1 h1.2, h1.1, h1.2, h23]
    · have x1 : (setI (setR υ 643 f) 642 23 (jz true)).1 a i = (setR υ 643 f).1 a i := if_neg h1
      rw [x1, R_row (by omega), v5 a i (by omega) (by omega) (by omega) (by omega)]
      exact ob a i (by omega) h1
  · show υ.2.2 = _
    rw [v7]
    rfl
theorem foretold_ok (hC : RC 1 σ s) (hW : WFs s) (hX : RX N σ s σ) (hD : DW σ) (x y z : Int32) : ∃ r τ υ, g_X10_foretold N 0 x y z σ = some (r, τ) ∧ g_X11_foretold N 642 x y z τ = some (r, υ) ∧ RC 1 τ s ∧ RR (υ.1 643) s ∧ FR τ υ ∧ DW τ ∧ FD σ τ := by
  have b1 : s 1 1 ≤ 9999 := hW.1.2.1
  have hc : s 1 0 ≤ 5 := hW.1.1
  have main : ∀ υb, RX N σ s υb → ∃ r τ υ, g_X10_foretold N 0 x y z σ = some (r, τ) ∧ g_X11_foretold N 642 x y z υb = some (r, υ) ∧ RC 1 τ s ∧ RR (υ.1 643) s ∧ FR υb υ ∧ DW τ ∧ FD σ τ := by
    intro υb hb
    have hR := hb.1
    have fd0 : FD σ σ := ⟨fun _ _ _ => rfl, rfl⟩
    by_cases h : ¬ (nI 1 ≤ x ∧ x ≤ nI 60)
    · refine ⟨-nI 1, σ, υb, ?_, ?_, hC, hR, FR.rfl, hD, fd0⟩
      · unfold g_X10_foretold g_X10_foretold_0
        rw [k_1, k_60, wi10, in_f h, bnd, if_pos rfl]
      · unfold g_X11_foretold g_X11_foretold_0
        rw [k_1, k_60, wi11, in_f h, bnd, if_pos rfl]
    replace h := Decidable.of_not_not h
    obtain ⟨n, hn, rfl⟩ := nI_of2 (M := nI 60) (nI_toInt (by omega)) (x := x) (fun q => Int32.lt_irrefl (Int32.lt_of_lt_of_le q (Int32.le_trans (by decide : (0 : Int32) ≤ nI 1) h.1))) h.2
    have hn1 : 1 ≤ n := (nI_leI (by omega) (by omega)).mp h.1
    have wd : decide (nI 1 ≤ nI n ∧ nI n ≤ nI 60) = true := decide_eq_true h
    rcases has9 (N := N) (c_1_0 hC) hc y with ⟨hh, hne⟩ | ⟨m, hm, rfl, hT⟩
    · have h' : g_X9_has N (0 + 1 + 1) y σ = some false := hh
      refine ⟨-nI 1, σ, υb, ?_, ?_, hC, hR, FR.rfl, hD, fd0⟩
      · unfold g_X10_foretold g_X10_foretold_0
        rw [k_1, k_60, wi10, wd, bnd, if_neg (by decide), h', bnd, if_pos rfl]
      · unfold g_X11_foretold g_X11_foretold_0
        rw [k_1, k_60, wi11, wd, bnd, if_neg (by decide), isMF (N := N) (r_0 hR) hc hne, bnd, if_pos rfl]
    have h' : g_X9_has N (0 + 1 + 1) (nI m) σ = some true := hT
    have hM := isMT (N := N) (r_0 hR) hc hm
    by_cases hz : ¬ (nI 0 ≤ z ∧ z ≤ nI 2)
    · refine ⟨-nI 1, σ, υb, ?_, ?_, hC, hR, FR.rfl, hD, fd0⟩
      · unfold g_X10_foretold g_X10_foretold_0
        rw [k_1, k_60, wi10, wd, bnd, if_neg (by decide), h', bnd, if_neg (by decide), k_0, k_2, wi10, in_f hz, bnd, if_neg (by decide)]
      · unfold g_X11_foretold g_X11_foretold_0
        rw [k_1, k_60, wi11, wd, bnd, if_neg (by decide), hM, bnd, if_neg (by decide), k_0, k_2, wi11, in_f hz, bnd, if_neg (by decide)]
    replace hz := Decidable.of_not_not hz
    have wz : decide (nI 0 ≤ z ∧ z ≤ nI 2) = true := decide_eq_true hz
    obtain ⟨w, w1, w2⟩ := hD
    obtain ⟨g, a1, a2⟩ := aside_l (N := N) (υ := υb) 93 8 fu (υb.1 651) (by omega) (by unfold fu; omega)
    rw [R_id] at a1
    have e3 : (setI (setR υb 651 g) 642 23 (jz false)).1 643 = υb.1 643 := funext fun i => (I_row (by omega)).trans (R_row (by omega))
    have e5 : (setI (setR υb 651 g) 642 23 (jz false)).1 645 = υb.1 645 := funext fun i => (I_row (by omega)).trans (R_row (by omega))
    have hR0 : RR ((setI (setR υb 651 g) 642 23 (jz false)).1 643) s := by rw [e3]; exact hR
    have hV0 : RV false (setI (setR υb 651 g) 642 23 (jz false)) (setI (setR υb 651 g) 642 23 (jz false)) (w0d s w) := ⟨w0_rw hW hR0, fun _ _ => rfl, fun q => absurd q (by decide), fun _ => ⟨rfl, fun _ _ _ => rfl⟩, fun _ _ _ _ _ _ => rfl, fun _ _ _ => rfl, rfl⟩
    have e00 : w0d s w 0 0 = s 1 0 := w0_e (by decide)
    have e01 : w0d s w 0 1 = s 1 1 := w0_e (by decide)
    have hcw := w0_cw hC w2
    obtain ⟨τ', υ', w', z1, z2, z3, z4, z5, z6⟩ := for_l (N := N) (x3 := z) hC hW hR0 (by rw [e5]; exact hb.2.2) (I_same rfl rfl) (m := m) (L := min n (9999 - s 1 1)) (nn := n) (t := s 1 1) hc hm hn (by omega) (by omega) (by omega) (min n (9999 - s 1 1)) 0 fu fu _ _ _ (by omega) (by unfold fu; omega) (by unfold fu; omega) hcw hV0 (w0_wf hW.1 w1) e00 e01
    obtain ⟨υ2, y1, y2, y3⟩ := fin_ok (N := N) (x3 := z) hR hb.2.1 hc hm rfl a2 z4 z6
    have q := z2.trans y1
    refine ⟨(if z = 0 then nI (w' 5 m) else if z = 1 then nI (w' 3 m) else nI (w' 6 m)), τ', υ2, ?_, ?_, hC.d z3, by rw [y2]; exact hR, y3, ⟨w', z5, z3.1⟩, z3.fd⟩
    · unfold g_X10_foretold g_X10_foretold_0
      have c11 : (cpW σ 633 2).1 (0 + 633) 1 = nI (s 1 1) := by
        rw [← e01]
        exact hcw.1 0 1 (by omega)
      have cp : g_X9_copyFrom N (0 + 633) (0 + 1 + 1) σ = some (cpW σ 633 2) := copyW (by omega)
      rw [k_1, k_60, wi10, wd, bnd, if_neg (by decide), h', bnd, if_neg (by decide), k_0, k_2, wi10, wz, bnd, if_pos rfl, cp, bnd, c11, k_9999, pk_sub b1, jmin_n (by omega) (by omega)]
      exact z1
    · unfold g_X11_foretold g_X11_foretold_0
      have sa : g_X11_setAside N 642 υb = some (setI (setR υb 651 g) 642 23 (jz false)) := by
        unfold g_X11_setAside g_X11_setAside_0
        rw [k_8]
        exact a1
      rw [k_1, k_60, wi11, wd, bnd, if_neg (by decide), hM, bnd, if_neg (by decide), k_0, k_2, wi11, wz, bnd, if_pos rfl, sa, bnd]
      exact q
  obtain ⟨r, τ, υ, h1, h2, h3, h4, h5, h6, h7⟩ := main σ hX
  obtain ⟨r', τ', υ', g1, g2, g3, g4, g5, g6, g7⟩ := main τ (hX.fd h7)
  rw [h1] at g1
  cases g1
  exact ⟨r, τ, υ', h1, g2, h3, g4, g5, h6, h7⟩
end FO2
