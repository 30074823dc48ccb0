/-! from the whole picture to a world and back -/
def TXs (N : Mem) (Q : Nat → Option Nat) (R : Nat → Int32) (n : Nat) : Prop := ∀ t, t < n → ∃ v, Q t = some v ∧ TR N v (fun i => R (705 * t + i))
def RX (N : Mem) (σ : ST) (s : SS) (υ0 : ST) : Prop := RR (υ0.1 643) s ∧ υ0.1 642 23 = jz true ∧ TXs N (σ.2.2 12) (υ0.1 645) (s 0 5)
def sw (s w : SS) : SS := fun k i => if 1 ≤ k ∧ k ≤ 9 then w (k - 1) i else s k i
section INV
variable {N : Mem} {σ τ τ0 τ' υ υ' υ0 : ST} {s s' w w' : SS} {wr : Bool}
theorem sw_in {k i : Nat} (h : k < 9) : sw s w (1 + k) i = w k i := by
  unfold sw
  rw [if_pos (by omega), show 1 + k - 1 = k by omega]
theorem sw_o {k i : Nat} (h : k = 0 ∨ 10 ≤ k) : sw s w k i = s k i := if_neg (by omega)
theorem cur_sw {k i : Nat} (h : k < 9) : cur (sw s w) k i = w k i := sw_in h
theorem RX.fc (h : RX N σ s υ0) (hf : FC υ0 τ) (hs : τ.2 = υ0.2) : RX N σ s τ := by
  obtain ⟨h1, h2, h3⟩ := h
  refine ⟨h1.fc hf, (hf.1 642 23 (Or.inr (by omega))).trans h2, ?_⟩
  have e : τ.1 645 = υ0.1 645 := funext fun i => hf.1 645 i (Or.inr (by omega))
  rw [e]
  exact h3
theorem RX.fr (h : RX N σ s υ0) (hf : FR υ0 υ) (hR : RR (υ.1 643) s') (h5 : s' 0 5 = s 0 5) : RX N σ s' υ := by
  obtain ⟨h1, h2, h3⟩ := h
  refine ⟨hR, (hf.1 642 23 (Or.inr (Or.inl (by omega)))).trans h2, ?_⟩
  have e : υ.1 645 = υ0.1 645 := funext fun i => hf.1 645 i (Or.inr (Or.inr (by omega)))
  rw [e, h5]
  exact h3
theorem ok1_3 (hX : RX N σ s σ) {R : Type} {p q : ST → Option (R × ST)} (h : ∀ υ0 : ST, RX N σ s υ0 → ∃ r s' τ υ, p σ = some (r, τ) ∧ q υ0 = some (r, υ) ∧ RC 1 τ s' ∧ FC σ τ ∧ WFs s' ∧ RR (υ.1 643) s' ∧ FR υ0 υ ∧ s' 0 5 = s 0 5) : OK1 σ s p q := by
  obtain ⟨r, s', τ, υ, h1, h2, h3, h4, h5, h6, h7, h8⟩ := h σ hX
  obtain ⟨r', s2, τ', υ', g1, g2, g3, g4, g5, g6, g7, g8⟩ := h τ (hX.fc h4 h4.2)
  rw [h1] at g1
  cases g1
  exact ⟨r, s2, τ, υ', h1, g2, g3, g4, g5, g6, g7, g8⟩
theorem cw_of (hC : RC 1 σ s) : CW 2 σ σ (cur s) := ⟨fun k i hk => by
  rw [show 2 + k = 1 + (1 + k) by omega]
  exact hC.1 (1 + k) i (by omega) (by omega), fun _ _ _ _ _ => rfl, rfl⟩
theorem cw_to (hC : RC 1 σ s) (h : CW 2 σ τ w) : RC 1 τ (sw s w) ∧ FC σ τ := by
  obtain ⟨h1, h2, h3⟩ := h
  refine ⟨⟨fun k i hk hi => ?_, ?_⟩, fun a i ha => h2 a i (by omega) (by omega) (by omega), h3⟩
  · by_cases c : 1 ≤ k ∧ k ≤ 9
    · have e : sw s w k i = w (k - 1) i := if_pos c
      rw [e, show 1 + k = 2 + (k - 1) by omega]
      exact h1 (k - 1) i (by omega)
    · rw [sw_o (by omega), h2 _ _ (by omega) (by omega) (by omega)]
      exact hC.1 k i hk hi
  · rw [sw_o (by omega), h2 _ _ (by omega) (by omega) (by omega)]
    exact hC.2
theorem rv_of (h : RR (υ.1 643) s) : RV true υ υ (cur s) := ⟨⟨h.1.1, h.1.2.2.2.2.2.2.2.2.1, h.1.2.2.2.2.2.2.2.2.2.1, h.2.1⟩, fun _ _ => rfl, fun _ => ⟨h.1.2.2.2.2.2.2.2.2.2.2, h.2.2.2.2.2.2.2.2.2.2.2⟩, fun _ => ⟨rfl, fun _ _ _ => rfl⟩, fun _ _ _ _ _ _ => rfl, fun _ _ _ => rfl, rfl⟩
theorem sw_w (hW : WFs s) (hw : WFw w) (h0 : s 1 0 ≤ w 0 0) : WFs (sw s w) := WFs_w hW (fun k i hk => sw_o hk) (WFw_c (fun k i hk => cur_sw hk) hw) (by
  rw [show sw s w 1 0 = w 0 0 from sw_in (k := 0) (by omega)]
  exact h0)
theorem rv_to (hW : WFs s) (hR : RR (υ0.1 643) s) (h : RV true υ0 υ w) (hw : WFw w) : RR (υ.1 643) (sw s w) ∧ FR υ0 υ := by
  obtain ⟨h1, h2, h3, h4, h5, h6, h7⟩ := h
  obtain ⟨g1, g2⟩ := h3 rfl
  refine ⟨RR_w hW hR (fun i q1 q2 => h2 i (by omega)) (fun i q1 q2 => h2 i (by omega)) (fun k i hk => sw_o hk) ?_ ?_ ?_ ?_ ?_ ?_, fun a i ha => ?_, h7⟩
  · rw [show sw s w 1 0 = w 0 0 from sw_in (k := 0) (by omega)]; exact h1.1
  · rw [show sw s w 1 1 = w 0 1 from sw_in (k := 0) (by omega)]; exact h1.2.1
  · rw [show sw s w 1 2 = w 0 2 from sw_in (k := 0) (by omega)]; exact h1.2.2.1
  · rw [show sw s w 1 3 = w 0 3 from sw_in (k := 0) (by omega)]; exact g1
  · exact Rma_c (fun _ _ _ => rfl) (fun k i hk => cur_sw hk) hw h1.2.2.2
  · exact Rbk_c (fun _ _ => rfl) (fun k i hk => cur_sw hk) hw.2.2.2.1 g2
  · exact h5 a i (by omega) (by omega) (by omega) (by omega)
theorem ru_of (hC : RC 1 σ s) (hW : WFs s) (hR : RR (υ.1 643) s) : RU σ υ (s 12) := ⟨fun i hi => ⟨c_12 hC i, q_12 hR hi⟩, b_12 hW⟩
/-- the text that rules -/
theorem the_t (hC : RC 1 σ s) (hW : WFs s) (hR : RR (υ.1 643) s) (hT : TXs N (σ.2.2 12) (υ.1 645) (s 0 5)) : ∃ o, g_X4_theText N 1 σ = some o ∧ TXO N υ o (υ.1 643 2) := by
  obtain ⟨_, _, _, _, h5, h6, _⟩ := hW
  have e6 : σ.1 1 6 = nI (s 0 6) - nI 1 := hC.2
  have e5 : σ.1 1 5 = nI (s 0 5) := c_0_5 hC
  unfold g_X4_theText g_X4_theText_0
  rw [e6, e5, r_2 hR]
  cases h : s 0 6 with
  | zero =>
    refine ⟨none, ?_, Or.inl ⟨rfl, by decide⟩⟩
    rw [if_pos (by decide)]
  | succ j =>
    obtain ⟨v, h1, h2⟩ := hT j (by omega)
    refine ⟨some v, ?_, Or.inr ⟨v, j, rfl, w_s1 j, by omega, h2⟩⟩
    rw [w_s1, k_0, k_4, if_neg (nI_nlt (by omega) (by omega)), if_neg (nI_ge (by omega) (by omega)), if_neg (nI_ge (by omega) (by omega)), xQ_n (by omega), bnd, h1]
/-- a night, seen whole -/
theorem ngt_e (hC : RC 1 σ s) (hW : WFs s) (hX : RX N σ s υ) (hn : s 1 1 < 9999) : ∃ τ υ' s' e o, e ≤ 5 ∧ g_X4_theText N 1 σ = some o ∧ g_X0_pass N 601 2 20 13 o σ = some (nI e, τ) ∧ g_X11_pass N 642 υ = some υ' ∧ RC 1 τ s' ∧ FC σ τ ∧ WFs s' ∧ RX N σ s' υ' ∧ FR υ υ' ∧ s' 0 5 = s 0 5 ∧ s' 1 1 = s 1 1 + 1 ∧ s' 1 0 = s 1 0 ∧ υ'.1 642 24 = υ.1 642 24 + nI e := by
  obtain ⟨o, o1, o2⟩ := the_t hC hW hX.1 hX.2.2
  have hc : s 1 0 ≤ 5 := hW.1.1
  obtain ⟨τ, υ', w', e, e1, p1, p2, p3, p4, p5, p6, p7, p8⟩ := pass_l (N := N) (wr := true) o2 rfl hX.2.1 (ru_of hC hW hX.1) (b := 2) (by omega) (c := s 1 0) (t := s 1 1) hc (s 1 0) 0 fu fu 0 σ υ (cur s) (by omega) (by unfold fu; omega) (by unfold fu; omega) rfl rfl hn (cw_of hC) (rv_of hX.1) hW.1
  rw [Nat.zero_add] at p1
  obtain ⟨q1, q2⟩ := cw_to hC p3
  obtain ⟨q3, q4⟩ := rv_to hW hX.1 p4 p5
  have h5 : sw s w' 0 5 = s 0 5 := sw_o (by omega)
  refine ⟨τ, υ', sw s w', e, o, by omega, o1, ?_, ?_, q1, q2, sw_w hW p5 (by omega), hX.fr q4 q3 h5, q4, h5, ?_, ?_, p8⟩
  · unfold g_X0_pass g_X0_pass_0
    exact p1
  · unfold g_X11_pass g_X11_pass_0
    exact p2
  · rw [show sw s w' 1 1 = w' 0 1 from sw_in (k := 0) (by omega)]; exact p7
  · rw [show sw s w' 1 0 = w' 0 0 from sw_in (k := 0) (by omega)]; exact p6
theorem FC.q {σ τ : ST} (h : FC σ τ) : τ.2.2 = σ.2.2 := by rw [h.2]
theorem RX.of {σ τ υ0 : ST} (h : RX N σ s υ0) (hq : τ.2.2 12 = σ.2.2 12) : RX N τ s υ0 := by
  obtain ⟨h1, h2, h3⟩ := h
  exact ⟨h1, h2, by rw [hq]; exact h3⟩
/-- a night that is a step -/
theorem stp_e (hC : RC 1 σ s) (hW : WFs s) (hX : RX N σ s υ) (hn : s 1 1 < 9999) : ∃ τ1 τ υ1 υ' s' e o, e ≤ 5 ∧ g_X4_remember N 1 σ = some τ1 ∧ g_X4_theText N 1 τ1 = some o ∧ g_X0_pass N 601 2 20 13 o τ1 = some (nI e, τ) ∧ g_X11_keep N 642 υ = some υ1 ∧ g_X11_pass N 642 υ1 = some υ' ∧ RC 1 τ s' ∧ FC σ τ ∧ WFs s' ∧ RX N σ s' υ' ∧ FR υ υ' ∧ s' 0 5 = s 0 5 ∧ s' 1 1 = s 1 1 + 1 ∧ s' 1 0 = s 1 0 ∧ υ'.1 642 24 = υ.1 642 24 + nI e := by
  obtain ⟨τ1, r1, r2, r3⟩ := rem_c (N := N) hC hW
  obtain ⟨g, k1, k2⟩ := keepR (N := N) hW hX.1
  have W1 := wf_rem hW
  have f1 : FR υ (setR υ 643 g) := FR.rfl.row (by omega)
  have h5 : rem s 0 5 = s 0 5 := rem_o (by omega) (by omega)
  have X1 : RX N τ1 (rem s) (setR υ 643 g) := (hX.fr f1 (by rw [R_1]; exact k2) h5).of (by rw [r3.q])
  obtain ⟨τ, υ', s', e, o, a0, a1, a2, a3, a4, a5, a6, a7, a8, a9, a10, a11, a12⟩ := ngt_e (N := N) r2 W1 X1 (by rw [rem_o (by omega) (by omega)]; exact hn)
  refine ⟨τ1, τ, _, υ', s', e, o, a0, r1, a1, a2, k1, a3, a4, r3.trans a5, a6, a7.of (by rw [r3.q]), f1.trans a8, a9.trans h5, ?_, ?_, ?_⟩
  · rw [a10, rem_o (by omega) (by omega)]
  · rw [a11, rem_o (by omega) (by omega)]
  · rw [a12, R_row (by omega)]
end INV
