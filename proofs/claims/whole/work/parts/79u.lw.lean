section LW2
variable {N : Mem} {σ τ υ : ST} {B : Nat → Nat} {L q kc : Nat}
theorem kc_w (h : TKN B L σ υ q kc) (hq : q < L) (ha : bA (B q) = true) {k : Nat} (hk : k < 27) : isW B q (tkE B L q) k ↔ kc = k := by
  obtain ⟨_, ⟨_, _, _, c4⟩, _⟩ := h
  rcases c4 with x | x | x | x
  · omega
  · rcases x.2.2 with ⟨y1, y2⟩ | ⟨y1, y2⟩
    · refine ⟨fun e => wpk_i y1 hk ?_, fun e => by rw [← e]; exact y2⟩
      rw [← isW_p y2, ← isW_p e]
    · exact ⟨fun e => absurd e (y2 k hk), fun e => by omega⟩
  · rw [ha] at x
    exact absurd x.2.1 (by decide)
  · rw [ha] at x
    exact absurd x.2.1 (by decide)
theorem kd_2 (h : TKN B L σ υ q kc) (h2 : υ.1 642 9 = nI 2) : q < L ∧ bA (B q) = true := by
  obtain ⟨⟨hB, _, _, hq⟩, _, ⟨_, _, r3⟩, _⟩ := h
  have rb := rk_b (L := L) (q := q) hB
  have e : rkK B L q = 2 := (nI_eq (by omega) (by omega)).mp (r3.symm.trans h2)
  apply Decidable.byContradiction
  intro c
  unfold rkK at e
  by_cases d : L ≤ q
  · rw [if_pos d] at e; omega
  · rw [if_neg d, if_neg (fun x => c ⟨by omega, x⟩)] at e
    by_cases d1 : bD (B q) = true
    · rw [if_pos d1] at e; omega
    · rw [if_neg d1] at e
      by_cases d2 : sg2 B L q = true
      · rw [if_pos d2] at e
        by_cases d3 : B q = 60
        · rw [if_pos d3] at e; omega
        · rw [if_neg d3] at e; omega
      · rw [if_neg d2] at e
        by_cases d3 : sgS (B q) = true
        · have := of_decide_eq_true d3
          rw [if_pos d3] at e; omega
        · rw [if_neg d3] at e; omega
end LW2
