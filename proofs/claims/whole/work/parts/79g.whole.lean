/-! the whole picture, and what image, back, end, fault do to it -/
def TP (σ : ST) : Prop := ∃ L, L ≤ 300 ∧ σ.1 593 1 = nI L ∧ σ.1 642 4 = nI L ∧ ∀ i, i < L → σ.1 646 i = σ.1 594 i ∧ ∃ b, b ≤ 255 ∧ σ.1 594 i = nI b
def FL (σ : ST) : Prop := σ.1 595 1 = σ.1 642 5 ∧ σ.1 595 2 = σ.1 642 6
def QT (N : Mem) (σ : ST) (s z : SS) : Prop := (∀ t v, t < 4 → σ.2.2 12 t = some v → isOb N 8 v = true) ∧ (∀ t v, t < 4 → σ.2.2 308 t = some v → isOb N 8 v = true) ∧ z 0 5 ≤ s 0 5 ∧ (∀ t, t < z 0 5 → σ.2.2 308 t = σ.2.2 12 t) ∧ TXs N (σ.2.2 12) (σ.1 645) (s 0 5)
def Tl (σ : ST) : Prop := TP σ ∧ FL σ ∧ σ.1 642 23 = jz true ∧ DW σ
def Inv (N : Mem) (σ : ST) (s z : SS) : Prop := (RC 1 σ s ∧ WFs s ∧ RR (σ.1 643) s) ∧ (RC 297 σ z ∧ WFs z ∧ RR (σ.1 644) z) ∧ Tl σ ∧ QT N σ s z
section WHL
variable {N : Mem} {σ τ υ : ST} {s z z' : SS}
theorem DW.f (h : DW σ) (hf : ∀ a i, 633 ≤ a → a < 642 → τ.1 a i = σ.1 a i) : DW τ := by
  obtain ⟨w, h1, h2⟩ := h
  exact ⟨w, h1, fun k i hk => (hf _ _ (by omega) (by omega)).trans (h2 k i hk)⟩
theorem Tl.f (h : Tl σ) (hf : ∀ a i, 593 ≤ a → a ≠ 643 → a ≠ 644 → τ.1 a i = σ.1 a i) : Tl τ := by
  obtain ⟨⟨L, l1, l2, l3, l4⟩, ⟨f1, f2⟩, h3, h4⟩ := h
  refine ⟨⟨L, l1, ?_, ?_, fun i hi => ?_⟩, ⟨?_, ?_⟩, ?_, h4.f (fun a i q1 q2 => hf a i (by omega) (by omega) (by omega))⟩
  · rw [hf _ _ (by omega) (by omega) (by omega)]; exact l2
  · rw [hf _ _ (by omega) (by omega) (by omega)]; exact l3
  · rw [hf 646 _ (by omega) (by omega) (by omega), hf 594 _ (by omega) (by omega) (by omega)]; exact l4 i hi
  · rw [hf 595 _ (by omega) (by omega) (by omega), hf 642 _ (by omega) (by omega) (by omega)]; exact f1
  · rw [hf 595 _ (by omega) (by omega) (by omega), hf 642 _ (by omega) (by omega) (by omega)]; exact f2
  · rw [hf 642 _ (by omega) (by omega) (by omega)]; exact h3
theorem sn311 : shN 311 = 12 := by decide +kernel
theorem sn313 : shN 313 = 12 := by decide +kernel
theorem sn315 : shN 315 = 8 := by decide +kernel
theorem sn317 : shN 317 = 8 := by decide +kernel
theorem sn319 : shN 319 = 8 := by decide +kernel
theorem image_ok (h : Inv N σ s z) : ∃ r τ υ z', g_X10_image N 0 σ = some (r, τ) ∧ g_X11_image N 642 τ = some (r, υ) ∧ Inv N υ s z' := by
  obtain ⟨⟨h1, h2, h3⟩, ⟨h4, h5, h6⟩, h7, q1, q2, q3, q4, q5⟩ := h
  obtain ⟨τ, z', e1, e2, e3, e4, e5, e6, e7, e8, e9⟩ := st_copy (N := N) (b := 297) (c := 1) (by omega) sn311 sn313 sn315 sn317 sn319 sn15 sn17 sn19 sn21 sn23 h4 h1 h2 q1
  obtain ⟨g, g1, g2⟩ := cop_e (N := N) (υ := τ) (a := 643) (b := 644) (by omega)
  have r43 : τ.1 643 = σ.1 643 := funext fun i => e6 643 i (by omega)
  have w43 : (setR τ 644 g).1 643 = σ.1 643 := by
    rw [← r43]
    exact funext fun i => R_row (by omega)
  refine ⟨nI (s 1 1), τ, setR τ 644 g, z', ?_, ?_, ⟨e3.frame (fun a i _ _ => R_row (by omega)), h2, by rw [w43]; exact h3⟩, ⟨e2.frame (fun a i _ _ => R_row (by omega)), e5.wfs e4 h2 h5, ?_⟩, h7.f (fun a i p1 p2 p3 => (R_row p3).trans (e6 a i (by omega))), fun t v ht hv => ?_, fun t v ht hv => ?_, ?_, fun t ht => ?_, fun t ht => ?_⟩
  · unfold g_X10_image g_X10_image_0
    have e1' : g_X4_copyFrom N (0 + 297) (0 + 1) σ = some τ := e1
    have c11 : τ.1 (0 + 1 + 1) 1 = nI (s 1 1) := c_1_1 e3
    rw [e1', bnd, c11]
  · unfold g_X11_image g_X11_image_0
    have g1' : g_X11_copy N 4607 (642 + 1) 4607 (642 + 2) τ = some (setR τ 644 g) := g1
    have e8' : (setR τ 644 g).1 (642 + 1) 8 = nI (s 1 1) := by
      show (setR τ 644 g).1 643 8 = _
      rw [w43]
      exact r_8 h3
    rw [g1', bnd, k_8, xI_n (by omega) (by omega), e8', bnd]
  · rw [R_1]
    exact RR_in (fun i hi => (g2 i hi).trans (by rw [r43])) e4 h2 h3
  · exact q1 t v ht ((e9 12 t (by omega)).symm.trans hv)
  · exact q1 t v ht ((e8 t ht).symm.trans hv)
  · rw [e4 0 5 (in_s (by omega))]
    exact Nat.le_refl _
  · rw [e4 0 5 (in_s (by omega))] at ht
    have b5 : s 0 5 ≤ 4 := h2.2.2.2.2.1
    exact (e8 t (by omega)).trans (e9 12 t (by omega)).symm
  · have w45 : (setR τ 644 g).1 645 = σ.1 645 := funext fun i => (R_row (by omega)).trans (e6 645 i (by omega))
    obtain ⟨v, v1, v2⟩ := q5 t ht
    rw [w45]
    exact ⟨v, (e9 12 t (by omega)).trans v1, v2⟩
theorem back_ok (h : Inv N σ s z) : ∃ r τ υ s', g_X10_back N 0 σ = some (r, τ) ∧ g_X11_back N 642 τ = some (r, υ) ∧ Inv N υ s' z := by
  obtain ⟨⟨h1, h2, h3⟩, ⟨h4, h5, h6⟩, h7, q1, q2, q3, q4, q5⟩ := h
  obtain ⟨τ, s', e1, e2, e3, e4, e5, e6, e7, e8, e9⟩ := st_copy (N := N) (b := 1) (c := 297) (by omega) sn15 sn17 sn19 sn21 sn23 sn311 sn313 sn315 sn317 sn319 h1 h4 h5 q2
  obtain ⟨g, g1, g2⟩ := cop_e (N := N) (υ := τ) (a := 644) (b := 643) (by omega)
  have r44 : τ.1 644 = σ.1 644 := funext fun i => e6 644 i (by omega)
  have w44 : (setR τ 643 g).1 644 = σ.1 644 := by
    rw [← r44]
    exact funext fun i => R_row (by omega)
  have b5 : z 0 5 ≤ 4 := h5.2.2.2.2.1
  have hR : RR g s' := RR_in (fun i hi => (g2 i hi).trans (by rw [r44])) e4 h5 h6
  have s05 : s' 0 5 = z 0 5 := e4 0 5 (in_s (by omega))
  refine ⟨nI (s' 1 1), τ, setR τ 643 g, s', ?_, ?_, ⟨e2.frame (fun a i _ _ => R_row (by omega)), e5.wfs e4 h5 h2, by rw [R_1]; exact hR⟩, ⟨e3.frame (fun a i _ _ => R_row (by omega)), h5, by rw [w44]; exact h6⟩, h7.f (fun a i p1 p2 p3 => (R_row p2).trans (e6 a i (by omega))), fun t v ht hv => ?_, fun t v ht hv => ?_, ?_, fun t ht => ?_, fun t ht => ?_⟩
  · unfold g_X10_back g_X10_back_0
    have e1' : g_X4_copyFrom N (0 + 1) (0 + 297) σ = some τ := e1
    have c11 : τ.1 (0 + 1 + 1) 1 = nI (s' 1 1) := c_1_1 e2
    rw [e1', bnd, c11]
  · unfold g_X11_back g_X11_back_0
    have g1' : g_X11_copy N 4607 (642 + 2) 4607 (642 + 1) τ = some (setR τ 643 g) := g1
    have e8' : (setR τ 643 g).1 (642 + 1) 8 = nI (s' 1 1) := by
      show (setR τ 643 g).1 643 8 = _
      rw [R_1]
      exact hR.1.2.2.2.2.2.2.2.2.1
    rw [g1', bnd, k_8, xI_n (by omega) (by omega), e8', bnd]
  · exact q2 t v ht ((e8 t ht).symm.trans hv)
  · exact q2 t v ht ((e9 308 t (by omega)).symm.trans hv)
  · rw [s05]
    exact Nat.le_refl _
  · exact (e9 308 t (by omega)).trans (e8 t (by omega)).symm
  · have w45 : (setR τ 643 g).1 645 = σ.1 645 := funext fun i => (R_row (by omega)).trans (e6 645 i (by omega))
    rw [s05] at ht
    obtain ⟨v, v1, v2⟩ := q5 t (by omega)
    rw [w45]
    exact ⟨v, (e8 t (by omega)).trans ((q4 t ht).trans v1), v2⟩
theorem fault_ok (h : Inv N σ s z) (x : Int32) : ∃ r, g_X10_fault N 0 x σ = some r ∧ g_X11_fault N 642 x σ = some r := by
  obtain ⟨_, _, ⟨_, ⟨f1, f2⟩, _⟩, _⟩ := h
  have f1' : σ.1 (0 + 595) 1 = σ.1 642 5 := f1
  have f2' : σ.1 (0 + 595) 2 = σ.1 642 6 := f2
  unfold g_X10_fault g_X10_fault_0 g_X11_fault g_X11_fault_0
  rw [f1', f2']
  by_cases c : x = 0
  · rw [if_pos c]
    exact ⟨_, rfl, rfl⟩
  · rw [if_neg c]
    by_cases c1 : x = 1
    · rw [if_pos c1]
      exact ⟨_, rfl, rfl⟩
    · rw [if_neg c1]
      exact ⟨_, rfl, rfl⟩
/-- only the tape is touched -/
theorem Inv.tp (h : Inv N σ s z) (hf : ∀ a i, a ≠ 594 → a ≠ 646 → ¬ (a = 593 ∧ i = 1) → ¬ (a = 642 ∧ i = 4) → υ.1 a i = σ.1 a i) (h2 : υ.2 = σ.2) (ht : TP υ) : Inv N υ s z := by
  obtain ⟨⟨a1, a2, a3⟩, ⟨a4, a5, a6⟩, ⟨_, ⟨f1, f2⟩, b3, b4⟩, q⟩ := h
  have e3 : υ.1 643 = σ.1 643 := funext fun i => hf 643 i (by omega) (by omega) (by omega) (by omega)
  have e4 : υ.1 644 = σ.1 644 := funext fun i => hf 644 i (by omega) (by omega) (by omega) (by omega)
  have e5 : υ.1 645 = σ.1 645 := funext fun i => hf 645 i (by omega) (by omega) (by omega) (by omega)
  refine ⟨⟨a1.frame (fun a i _ _ => hf a i (by omega) (by omega) (by omega) (by omega)), a2, by rw [e3]; exact a3⟩, ⟨a4.frame (fun a i _ _ => hf a i (by omega) (by omega) (by omega) (by omega)), a5, by rw [e4]; exact a6⟩, ⟨ht, ⟨?_, ?_⟩, ?_, b4.f (fun a i _ _ => hf a i (by omega) (by omega) (by omega) (by omega))⟩, ?_⟩
  · rw [hf 595 1 (by omega) (by omega) (by omega) (by omega), hf 642 5 (by omega) (by omega) (by omega) (by omega)]; exact f1
  · rw [hf 595 2 (by omega) (by omega) (by omega) (by omega), hf 642 6 (by omega) (by omega) (by omega) (by omega)]; exact f2
  · rw [hf 642 23 (by omega) (by omega) (by omega) (by omega)]; exact b3
  · unfold QT
    rw [h2, e5]
    exact q
theorem end_ok (h : Inv N σ s z) (x : Int32) : ∃ r τ υ, g_X10_end N 0 x σ = some (r, τ) ∧ g_X11_end N 642 x τ = some (r, υ) ∧ Inv N υ s z := by
  obtain ⟨L, l1, l2, l3, l4⟩ := h.2.2.1.1
  have l2' : σ.1 (0 + 593) 1 = nI L := l2
  by_cases c : nI 0 ≤ x ∧ x ≤ nI L
  · obtain ⟨k, hk, rfl⟩ := nI_of2 (M := nI L) (nI_toInt (by omega)) (x := x) (by rw [← nI_0]; exact Int32.not_lt.mpr c.1) c.2
    have wd : decide (nI 0 ≤ nI k ∧ nI k ≤ nI L) = true := decide_eq_true c
    refine ⟨nI k, setI σ 593 1 (nI k), setI (setI σ 593 1 (nI k)) 642 4 (nI k), ?_, ?_, h.tp (fun a i q1 q2 q3 q4 => ?_) rfl ⟨k, by omega, ?_, I_same rfl rfl, fun i hi => ?_⟩⟩
    · unfold g_X10_end g_X10_end_0
      rw [l2', k_0, wi10, wd, bnd, if_pos rfl, bnd]
    · unfold g_X11_end g_X11_end_0
      have l3' : (setI σ 593 1 (nI k)).1 642 4 = nI L := (I_row (by omega)).trans l3
      rw [l3', k_0, wi11, wd, bnd, if_pos rfl, bnd]
    · have y1 : (setI (setI σ 593 1 (nI k)) 642 4 (nI k)).1 a i = (setI σ 593 1 (nI k)).1 a i := if_neg q4
      rw [y1]
      exact if_neg q3
    · rw [I_row (by omega)]
      exact I_same rfl rfl
    · rw [I_row (by omega), I_row (by omega), I_row (by omega), I_row (by omega)]
      exact l4 i (by omega)
  · refine ⟨-nI 1, σ, σ, ?_, ?_, h⟩
    · unfold g_X10_end g_X10_end_0
      rw [l2', k_0, wi10, in_f c, bnd, if_neg (by decide)]
      rfl
    · unfold g_X11_end g_X11_end_0
      rw [l3, k_0, wi11, in_f c, bnd, if_neg (by decide)]
      rfl
end WHL
