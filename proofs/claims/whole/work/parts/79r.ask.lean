/-! what the reference asks of a token -/
section ASK
variable {N : Mem} {σ τ υ : ST} {B : Nat → Nat} {L q kc : Nat}
theorem w_0 : f_X11_w5 108 111 111 115 101 = some (lN (wpk 0)) := by decide +kernel
theorem w_2 : f_X11_w5 119 101 97 114 115 = some (lN (wpk 2)) := by decide +kernel
theorem w_4 : f_X11_w6 115 116 114 105 99 116 = some (lN (wpk 4)) := by decide +kernel
theorem w_5 : f_X11_w5 115 108 97 99 107 = some (lN (wpk 5)) := by decide +kernel
theorem w_6 : f_X11_w5 99 114 97 110 107 = some (lN (wpk 6)) := by decide +kernel
theorem w_7 : f_X11_w4 108 105 102 116 = some (lN (wpk 7)) := by decide +kernel
theorem w_8 : f_X11_w3 111 105 108 = some (lN (wpk 8)) := by decide +kernel
theorem w_9 : f_X11_w5 110 105 103 104 116 = some (lN (wpk 9)) := by decide +kernel
theorem w_10 : f_X11_w5 98 114 97 115 115 = some (lN (wpk 10)) := by decide +kernel
theorem w_11 : f_X11_w4 119 101 97 114 = some (lN (wpk 11)) := by decide +kernel
theorem w_12 : f_X11_w3 115 117 109 = some (lN (wpk 12)) := by decide +kernel
theorem w_13 : f_X11_w3 119 104 111 = some (lN (wpk 13)) := by decide +kernel
theorem w_14 : f_X11_w4 108 111 110 103 = some (lN (wpk 14)) := by decide +kernel
theorem w_15 : f_X11_w4 115 97 109 101 = some (lN (wpk 15)) := by decide +kernel
theorem w_21 : f_X11_w4 116 104 101 110 = some (lN (wpk 21)) := by decide +kernel
theorem w_22 : f_X11_w4 101 108 115 101 = some (lN (wpk 22)) := by decide +kernel
theorem w_23 : f_X11_w3 101 110 100 = some (lN (wpk 23)) := by decide +kernel
/-- the reference's kind 2 is a word, and then the long is compared -/
theorem tk_is2 (h : TKN B L σ υ q kc) : (υ.1 642 9 = nI 2 ∧ ∀ k, k < 27 → k ≠ 1 → (lg_cmp (υ.2.1 642 11) (lN (wpk k)) = 0 ↔ kc = k)) ∨ (¬ υ.1 642 9 = nI 2 ∧ 27 ≤ kc) := by
  by_cases c : υ.1 642 9 = nI 2
  · left
    refine ⟨c, fun k hk h1 => ?_⟩
    have e := tk_w (N := (0, 0, fun _ => none)) h hk h1
    unfold g_X11_isWord g_X11_isWord_0 at e
    rw [if_pos (by rw [c]; rfl)] at e
    by_cases d : lg_cmp (υ.2.1 642 11) (lN (wpk k)) = 0
    · rw [if_pos d] at e
      have := Option.some.inj e
      exact ⟨fun _ => of_decide_eq_true this.symm, fun _ => d⟩
    · rw [if_neg d] at e
      have := Option.some.inj e
      exact ⟨fun x => absurd x d, fun x => absurd x (of_decide_eq_false this.symm)⟩
  · right
    · refine ⟨c, ?_⟩
      apply Nat.le_of_not_lt
      intro x
      by_cases k1 : kc = 1
      · obtain ⟨⟨hB, b1, b2, hq⟩, ⟨c1, c2, c3, c4⟩, ⟨r1, r2, r3⟩, _, r5⟩ := h
        rcases c4 with y | y | y | y
        · omega
        · apply c
          rw [r3]
          unfold rkK
          rw [if_neg (by omega), if_pos y.2.1]
        · omega
        · have y4 := y.2.2.2
          have z := sg_b (B q)
          by_cases x1 : sg2 B L q = true
          · rw [if_pos x1] at y4
            by_cases x2 : B q = 60
            · rw [if_pos x2] at y4; omega
            · rw [if_neg x2] at y4; omega
          · rw [if_neg x1] at y4; omega
      · have e := tk_w (N := (0, 0, fun _ => none)) h x k1
        unfold g_X11_isWord g_X11_isWord_0 at e
        rw [if_neg (fun y => c (by rw [y]; rfl))] at e
        have := Option.some.inj e
        rw [decide_eq_true rfl] at this
        exact absurd this (by decide)
/-- a name of a law's number -/
theorem tk_nm (h : TKN B L σ υ q kc) : g_X11_nameOf N 642 υ = some (if kc = 9 then nI 0 else if kc = 10 then nI 1 else if kc = 11 then nI 2 else if kc = 8 then nI 3 else if kc = 12 then nI 4 else if kc = 13 then nI 5 else if kc = 14 then nI 6 else if kc = 15 then nI 7 else -1) := by
  unfold g_X11_nameOf g_X11_nameOf_0
  rcases tk_is2 h with ⟨h1, h2⟩ | ⟨h1, h2⟩
  · rw [if_pos (by rw [h1]; rfl), w_9, bnd, w_10, bnd, w_11, bnd, w_8, bnd, w_12, bnd, w_13, bnd, w_14, bnd, w_15, bnd]
    simp only [h2 9 (by omega) (by omega), h2 10 (by omega) (by omega), h2 11 (by omega) (by omega), h2 8 (by omega) (by omega), h2 12 (by omega) (by omega), h2 13 (by omega) (by omega), h2 14 (by omega) (by omega), h2 15 (by omega) (by omega)]
    repeat' split
    all_goals rfl
  · rw [if_neg (fun y => h1 (by rw [y]; rfl)), if_neg (by omega), if_neg (by omega), if_neg (by omega), if_neg (by omega), if_neg (by omega), if_neg (by omega), if_neg (by omega), if_neg (by omega)]
end ASK
