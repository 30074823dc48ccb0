/-! one method that keeps its own part keeps the whole -/
section OPS
variable {N : Mem} {σ τ υ : ST} {s s' z : SS}
theorem Tl.g (h : Tl σ) (hf : ∀ a i, (593 ≤ a ∧ a ≤ 595) ∨ (633 ≤ a ∧ a < 642) ∨ (a = 642 ∧ (i = 4 ∨ i = 5 ∨ i = 6 ∨ i = 23)) ∨ a = 646 → τ.1 a i = σ.1 a i) : Tl τ := by
  obtain ⟨⟨L, l1, l2, l3, l4⟩, ⟨f1, f2⟩, h3, h4⟩ := h
  refine ⟨⟨L, l1, ?_, ?_, fun i hi => ?_⟩, ⟨?_, ?_⟩, ?_, h4.f (fun a i q1 q2 => hf a i (by omega))⟩
  · rw [hf _ _ (by omega)]; exact l2
  · rw [hf _ _ (by omega)]; exact l3
  · rw [hf 646 _ (by omega), hf 594 _ (by omega)]; exact l4 i hi
  · rw [hf 595 _ (by omega), hf 642 5 (by omega)]; exact f1
  · rw [hf 595 _ (by omega), hf 642 6 (by omega)]; exact f2
  · rw [hf 642 23 (by omega)]; exact h3
theorem Inv.rx (h : Inv N σ s z) : RX N σ s σ := ⟨h.1.2.2, h.2.2.1.2.2.1, h.2.2.2.2.2.2.2⟩
theorem Inv.c (h : Inv N σ s z) : RC 1 σ s := h.1.1
theorem Inv.w (h : Inv N σ s z) : WFs s := h.1.2.1
theorem Inv.r (h : Inv N σ s z) : RR (σ.1 643) s := h.1.2.2
theorem Inv.dw (h : Inv N σ s z) : DW σ := h.2.2.1.2.2.2
theorem Inv.tq (h : Inv N σ s z) : σ.1 593 1 = σ.1 642 4 := by
  obtain ⟨L, l1, l2, l3, l4⟩ := h.2.2.1.1
  rw [l2, l3]
/-- what both sides keep, together -/
theorem Inv.go (h : Inv N σ s z) (h1 : RC 1 τ s') (h2 : FC σ τ) (h3 : WFs s') (h4 : RR (υ.1 643) s') (h5 : FR τ υ) (h6 : s' 0 5 = s 0 5) : Inv N υ s' z := by
  obtain ⟨_, ⟨a4, a5, a6⟩, a7, q1, q2, q3, q4, q5⟩ := h
  have e4 : υ.1 644 = σ.1 644 := funext fun i => (h5.1 644 i (by omega)).trans (h2.1 644 i (by omega))
  have e5 : υ.1 645 = σ.1 645 := funext fun i => (h5.1 645 i (by omega)).trans (h2.1 645 i (by omega))
  have eq : υ.2.2 = σ.2.2 := by rw [h5.2, h2.2]
  refine ⟨⟨h1.frame (fun a i _ _ => h5.1 a i (by omega)), h3, h4⟩, ⟨a4.frame (fun a i _ _ => (h5.1 a i (by omega)).trans (h2.1 a i (by omega))), a5, by rw [e4]; exact a6⟩, a7.g (fun a i _ => (h5.1 a i (by omega)).trans (h2.1 a i (by omega))), ?_⟩
  unfold QT
  rw [eq, e5, h6]
  exact ⟨q1, q2, q3, q4, q5⟩
theorem inv_1 {R : Type} {p q : ST → Option (R × ST)} (h : Inv N σ s z) (ho : OK1 σ s p q) : ∃ r τ υ s', p σ = some (r, τ) ∧ q τ = some (r, υ) ∧ Inv N υ s' z := by
  obtain ⟨r, s', τ, υ, h1, h2, h3, h4, h5, h6, h7, h8⟩ := ho
  exact ⟨r, τ, υ, s', h1, h2, h.go h3 h4 h5 h6 h7 h8⟩
theorem inv_for (h : Inv N σ s z) (x y k : Int32) : ∃ r τ υ s', g_X10_foretold N 0 x y k σ = some (r, τ) ∧ g_X11_foretold N 642 x y k τ = some (r, υ) ∧ Inv N υ s' z := by
  obtain ⟨r, τ, υ, h1, h2, h3, h4, h5, h6, h7⟩ := foretold_ok (N := N) h.c h.w h.rx h.dw x y k
  obtain ⟨⟨_, b2, _⟩, ⟨a4, a5, a6⟩, ⟨⟨L, l1, l2, l3, l4⟩, ⟨f1, f2⟩, t3, _⟩, q⟩ := h
  have e4 : υ.1 644 = σ.1 644 := funext fun i => (h5.1 644 i (by omega)).trans (h7.1 644 i (by omega))
  have e5 : υ.1 645 = σ.1 645 := funext fun i => (h5.1 645 i (by omega)).trans (h7.1 645 i (by omega))
  have eq : υ.2.2 = σ.2.2 := by rw [h5.2, h7.2]
  have hf : ∀ a i, (593 ≤ a ∧ a ≤ 595) ∨ (a = 642 ∧ (i = 4 ∨ i = 5 ∨ i = 6 ∨ i = 23)) ∨ a = 646 → υ.1 a i = σ.1 a i := fun a i _ => (h5.1 a i (by omega)).trans (h7.1 a i (by omega))
  refine ⟨r, τ, υ, s, h1, h2, ⟨h3.frame (fun a i _ _ => h5.1 a i (by omega)), b2, h4⟩, ⟨a4.frame (fun a i _ _ => (h5.1 a i (by omega)).trans (h7.1 a i (by omega))), a5, by rw [e4]; exact a6⟩, ⟨⟨L, l1, ?_, ?_, fun i hi => ?_⟩, ⟨?_, ?_⟩, ?_, h6.f (fun a i _ _ => h5.1 a i (by omega))⟩, ?_⟩
  · rw [hf _ _ (by omega)]; exact l2
  · rw [hf _ _ (by omega)]; exact l3
  · rw [hf 646 _ (by omega), hf 594 _ (by omega)]; exact l4 i hi
  · rw [hf 595 _ (by omega), hf 642 5 (by omega)]; exact f1
  · rw [hf 595 _ (by omega), hf 642 6 (by omega)]; exact f2
  · rw [hf 642 23 (by omega)]; exact t3
  · unfold QT
    rw [eq, e5]
    exact q
end OPS
