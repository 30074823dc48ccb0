/-! foretold -/
def DW (σ : ST) : Prop := ∃ w, WFw w ∧ WR σ 633 w
def FD (σ τ : ST) : Prop := (∀ a i, a < 601 ∨ (603 ≤ a ∧ a < 633) ∨ 642 ≤ a → τ.1 a i = σ.1 a i) ∧ τ.2 = σ.2
noncomputable def fin36 (N : Mem) (x2 x3 : Int32) (υ : ST) : Option (Int32 × ST) := if x3 = 0 then ((g_X11_get N 642 x2 2 υ).bind fun v5 => (g_X11_putBack N 642 υ).bind fun r6 => some (v5, r6)) else if x3 = 1 then ((g_X11_get N 642 x2 0 υ).bind fun v3 => (g_X11_putBack N 642 υ).bind fun r4 => some (v3, r4)) else ((g_X11_get N 642 x2 3 υ).bind fun v1 => (g_X11_putBack N 642 υ).bind fun r2 => some (v1, r2))
section FOR
variable {N : Mem} {σ τ υ υ0 : ST} {s s' w : SS}
theorem aside_l : ∀ d i n f, i + d = 101 → d < n → ∃ g, g_X11_setAside_3 N n 642 (nI i) (setR υ 651 f) = some (setI (setR υ 651 g) 642 23 (jz false)) ∧ ∀ j, j < 101 → g j = if i ≤ j then υ.1 643 j else f j := by
  intro d
  induction d with
  | zero =>
    intro i n f hi hn
    obtain ⟨n, rfl⟩ : ∃ x, n = x + 1 := ⟨n - 1, by omega⟩
    refine ⟨f, ?_, fun j hj => (if_neg (by omega)).symm⟩
    rw [g_X11_setAside_3, k_101, if_pos (nI_le (by omega) (by omega)), bnd]
  | succ d ih =>
    intro i n f hi hn
    obtain ⟨n, rfl⟩ : ∃ x, n = x + 1 := ⟨n - 1, by omega⟩
    obtain ⟨g, h1, h2⟩ := ih (i + 1) n (ua f i (υ.1 643 i)) (by omega) (by omega)
    refine ⟨g, ?_, fun j hj => ?_⟩
    · have e : (setR υ 651 f).1 643 i = υ.1 643 i := R_row (by omega)
      rw [g_X11_setAside_3, k_101, if_neg (nI_ge (by omega) (by omega)), xI_n (by omega) (by omega), bnd, yI_n (by omega) (by omega), bnd, k_1, nI_add]
      show g_X11_setAside_3 N n 642 (nI (i + 1)) (setI (setR υ 651 f) 651 i ((setR υ 651 f).1 643 i)) = _
      rw [e, R_ua]
      exact h1
    · rw [h2 j hj]
      by_cases c : i + 1 ≤ j
      · rw [if_pos c, if_pos (by omega)]
      · rw [if_neg c]
        by_cases c2 : j = i
        · rw [ua_same c2, if_pos (by omega), c2]
        · rw [ua_ne c2, if_neg (by omega)]
theorem back_l : ∀ d i n f, i + d = 101 → d < n → ∃ g, g_X11_putBack_3 N n 642 (nI i) (setR υ 643 f) = some (setI (setR υ 643 g) 642 23 (jz true)) ∧ ∀ j, g j = if i ≤ j ∧ j < 101 then υ.1 651 j else f j := by
  intro d
  induction d with
  | zero =>
    intro i n f hi hn
    obtain ⟨n, rfl⟩ : ∃ x, n = x + 1 := ⟨n - 1, by omega⟩
    refine ⟨f, ?_, fun j => (if_neg (by omega)).symm⟩
    rw [g_X11_putBack_3, k_101, if_pos (nI_le (by omega) (by omega)), bnd]
  | succ d ih =>
    intro i n f hi hn
    obtain ⟨n, rfl⟩ : ∃ x, n = x + 1 := ⟨n - 1, by omega⟩
    obtain ⟨g, h1, h2⟩ := ih (i + 1) n (ua f i (υ.1 651 i)) (by omega) (by omega)
    refine ⟨g, ?_, fun j => ?_⟩
    · have e : (setR υ 643 f).1 651 i = υ.1 651 i := R_row (by omega)
      rw [g_X11_putBack_3, k_101, if_neg (nI_ge (by omega) (by omega)), xI_n (by omega) (by omega), bnd, yI_n (by omega) (by omega), bnd, k_1, nI_add]
      show g_X11_putBack_3 N n 642 (nI (i + 1)) (setI (setR υ 643 f) 643 i ((setR υ 643 f).1 651 i)) = _
      rw [e, R_ua]
      exact h1
    · rw [h2 j]
      by_cases c : i + 1 ≤ j ∧ j < 101
      · rw [if_pos c, if_pos (by omega)]
      · rw [if_neg c]
        by_cases c2 : j = i
        · rw [ua_same c2, if_pos (by omega), c2]
        · rw [ua_ne c2, if_neg (by omega)]
theorem fin_e {x2 x3 : Int32} {nn : Nat} (hnn : nn ≤ 60) : ∀ e i n, i + e = nn → e < n → (e = 0 ∨ υ.1 643 8 = nI 9999) → g_X11_foretold_36 N n 642 (nI nn) x2 x3 (nI i) υ = fin36 N x2 x3 υ := by
  intro e
  induction e with
  | zero =>
    intro i n hi hn h9
    obtain ⟨n, rfl⟩ : ∃ x, n = x + 1 := ⟨n - 1, by omega⟩
    rw [g_X11_foretold_36, if_pos (nI_le (by omega) (by omega))]
    rfl
  | succ e ih =>
    intro i n hi hn h9
    obtain ⟨n, rfl⟩ : ∃ x, n = x + 1 := ⟨n - 1, by omega⟩
    have h : υ.1 643 8 = nI 9999 := h9.resolve_left (by omega)
    have e8 : xI 4607 υ (642 + 1) (nI 8) = some (nI 9999) := by
      rw [xI_n (by omega) (by omega)]
      exact congrArg some h
    rw [g_X11_foretold_36, if_neg (nI_ge (by omega) (by omega)), k_8, e8, bnd, k_9999, if_pos (nI_le (by omega) (by omega)), k_1, nI_add]
    exact ih (i + 1) n (by omega) (by omega) (Or.inr h)
theorem RC.d (hC : RC 1 σ s) (h : CW 633 σ τ w) : RC 1 τ s := by
  refine ⟨fun k i hk hi => ?_, ?_⟩
  · rw [h.2.1 _ _ (by omega) (by omega) (by omega)]
    exact hC.1 k i hk hi
  · rw [h.2.1 _ _ (by omega) (by omega) (by omega)]
    exact hC.2
theorem for_l (hC : RC 1 σ s) (hW : WFs s) (hR : RR (υ0.1 643) s) (hT : TXs N (σ.2.2 12) (υ0.1 645) (s 0 5)) (h23 : υ0.1 642 23 = jz false) {m L nn t c : Nat} {x3 : Int32} (hc : c ≤ 5) (hm : m < c) (hnn : nn ≤ 60) (hL : L ≤ nn) (ht : t + L ≤ 9999) (hq : L = nn ∨ t + L = 9999) : ∀ d i n n2 τ υ w, i + d = L → d < n → nn - i < n2 → CW 633 σ τ w → RV false υ0 υ w → WFw w → w 0 0 = c → w 0 1 = t + i → ∃ τ' υ' w', g_X10_foretold_69 N n 0 (nI m) x3 (nI L) (nI i) τ = some ((if x3 = 0 then nI (w' 5 m) else if x3 = 1 then nI (w' 3 m) else nI (w' 6 m)), τ') ∧ g_X11_foretold_36 N n2 642 (nI nn) (nI m) x3 (nI i) υ = fin36 N (nI m) x3 υ' ∧ CW 633 σ τ' w' ∧ RV false υ0 υ' w' ∧ WFw w' ∧ w' 0 0 = c := by
  intro d
  induction d with
  | zero =>
    intro i n n2 τ υ w hi hn hn2 hcw hrv hw h0 h1
    obtain ⟨n, rfl⟩ : ∃ x, n = x + 1 := ⟨n - 1, by omega⟩
    obtain rfl : i = L := by omega
    have hm5 : m < 5 := by omega
    refine ⟨τ, υ, w, ?_, ?_, hcw, hrv, hw, h0⟩
    · have e : ∀ k, k < 9 → xI 5 τ (0 + 633 + k) (nI m) = some (nI (w k m)) := by
        intro k hk
        rw [xI_n hm5 (by omega)]
        exact congrArg some (hcw.1 k m hk)
      rw [g_X10_foretold_69, if_pos (nI_le (Nat.le_refl _) (by omega)), e 5 (by omega), e 3 (by omega), e 6 (by omega), bnd, bnd, bnd]
      by_cases c0 : x3 = 0
      · rw [if_pos c0, if_pos c0]
      · rw [if_neg c0, if_neg c0]
        by_cases c1 : x3 = 1
        · rw [if_pos c1, if_pos c1]
        · rw [if_neg c1, if_neg c1]
    · refine fin_e hnn (nn - i) i n2 (by omega) hn2 ?_
      rcases hq with h | h
      · left; omega
      · right
        rw [hrv.1.2.1, h1, h]
  | succ d ih =>
    intro i n n2 τ υ w hi hn hn2 hcw hrv hw h0 h1
    obtain ⟨n, rfl⟩ : ∃ x, n = x + 1 := ⟨n - 1, by omega⟩
    obtain ⟨n2, rfl⟩ : ∃ x, n2 = x + 1 := ⟨n2 - 1, by omega⟩
    have hC' := hC.d hcw
    obtain ⟨o, o1, o2⟩ := the_t (N := N) hC' hW hR (by rw [hcw.2.2]; exact hT)
    obtain ⟨τ1, υ1, w1, e, e1, p1, p2, p3, p4, p5, p6, p7, p8⟩ := pass_l (N := N) (wr := false) o2 rfl h23 (ru_of hC hW hR) (b := 633) (by omega) (c := c) (t := t + i) hc c 0 fu fu 0 τ υ w (by omega) (by unfold fu; omega) (by unfold fu; omega) h0 h1 (by omega) hcw hrv hw
    obtain ⟨τ', υ', w', z1, z2, z3⟩ := ih (i + 1) n n2 τ1 υ1 w1 (by omega) (by omega) (by omega) p3 p4 p5 p6 (by omega)
    refine ⟨τ', υ', w', ?_, ?_, z3⟩
    · rw [g_X10_foretold_69, if_neg (nI_ge (by omega) (by omega))]
      show ((g_X4_theText N 1 τ).bind fun v4 => (g_X0_pass N 601 633 20 13 v4 τ).bind fun r5 => g_X10_foretold_69 N n 0 (nI m) x3 (nI L) (nI i + 1) r5.2) = _
      have pe : g_X0_pass N 601 633 20 13 o τ = some (nI (0 + e), τ1) := by
        unfold g_X0_pass g_X0_pass_0
        exact p1
      rw [o1, bnd, pe, bnd, k_1, nI_add]
      exact z1
    · have e8 : xI 4607 υ (642 + 1) (nI 8) = some (nI (t + i)) := by
        rw [xI_n (by omega) (by omega), ← h1]
        exact congrArg some hrv.1.2.1
      have pe : g_X11_pass N 642 υ = some υ1 := by
        unfold g_X11_pass g_X11_pass_0
        exact p2
      rw [g_X11_foretold_36, if_neg (nI_ge (by omega) (by omega)), k_8, e8, bnd, k_9999, if_neg (nI_ge (by omega) (by omega)), pe, bnd, k_1, nI_add]
      exact z2
end FOR
