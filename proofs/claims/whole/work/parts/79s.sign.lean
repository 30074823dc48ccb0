/-! signs -/
def kpr (k : Nat) : Nat := [1, 60, 62, 61, 35, 43, 45, 42, 47, 40, 41, 59, 4, 5, 0].getD (k - 27) 2
def rsg (b : Nat) : Nat := if sgS b = true then b else 3
section SGN
variable {N : Mem} {σ τ υ : ST} {B : Nat → Nat} {L q kc : Nat}
theorem kpr_a : (List.range 256).all (fun b => (List.range 15).all (fun i => decide (rsg b = kpr (27 + i) ↔ sgk b = 27 + i))) = true := by decide +kernel
theorem kpr_b : ∀ i, i < 15 → (0 = kpr (27 + i) ↔ 41 = 27 + i) ∧ (1 = kpr (27 + i) ↔ 27 = 27 + i) ∧ (4 = kpr (27 + i) ↔ 39 = 27 + i) ∧ (5 = kpr (27 + i) ↔ 40 = 27 + i) ∧ ¬ 2 = kpr (27 + i) ∧ kpr (27 + i) < 256 := by decide +kernel
theorem rk_b (hB : ∀ i, B i < 256) : rkK B L q < 256 := by
  have hb := hB q
  unfold rkK
  repeat' split
  all_goals omega
/-- a token that is no word: the same on both sides -/
theorem tk_s (h : TKN B L σ υ q kc) {k : Nat} (h1 : 27 ≤ k) (h2 : k ≤ 41) : υ.1 642 9 = nI (kpr k) ↔ kc = k := by
  obtain ⟨⟨hB, b1, b2, hq⟩, ⟨c1, c2, c3, c4⟩, ⟨r1, r2, r3⟩, _, r5⟩ := h
  obtain ⟨i, hi, rfl⟩ : ∃ i, i < 15 ∧ k = 27 + i := ⟨k - 27, by omega, by omega⟩
  obtain ⟨k1, k2, k3, k4, k5, k6⟩ := kpr_b i hi
  have rb := rk_b (L := L) (q := q) hB
  have key : rkK B L q = kpr (27 + i) ↔ kc = 27 + i := by
    rcases c4 with x | x | x | x
    · have e : rkK B L q = 0 := if_pos x.1
      rw [e, x.2]
      exact k1
    · have e : rkK B L q = 2 := by
        unfold rkK
        rw [if_neg (by omega), if_pos x.2.1]
      rw [e]
      refine ⟨fun y => absurd y k5, fun y => ?_⟩
      rcases x.2.2 with z | z
      · omega
      · omega
    · have e : rkK B L q = 1 := by
        unfold rkK
        rw [if_neg (by omega), if_neg (by rw [x.2.1]; decide), if_pos x.2.2.1]
      rw [e, x.2.2.2]
      exact k2
    · have e : rkK B L q = if sg2 B L q = true then (if B q = 60 then 4 else 5) else rsg (B q) := by
        unfold rkK
        rw [if_neg (by omega), if_neg (by rw [x.2.1]; decide), if_neg (by rw [x.2.2.1]; decide)]
        rfl
      rw [e, x.2.2.2]
      by_cases s : sg2 B L q = true
      · rw [if_pos s, if_pos s]
        by_cases s2 : B q = 60
        · rw [if_pos s2, if_pos s2]
          exact k3
        · rw [if_neg s2, if_neg s2]
          exact k4
      · rw [if_neg s, if_neg s]
        exact of_decide_eq_true (List.all_eq_true.mp (List.all_eq_true.mp kpr_a (B q) (List.mem_range.mpr (hB q))) i (List.mem_range.mpr hi))
  rw [r3, ← key]
  exact nI_eq (by omega) (by omega)
end SGN
