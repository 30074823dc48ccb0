/-! keep and remember agree; single fields of a machine; crank, oil, lift, machine -/
section KPT
variable {N : Mem} {σ τ : ST} {s s' w w' w1 w2 : SS} {f g A A' : Nat → Int32}
theorem WFw_mix (h : ∀ k i, k < 9 → w' k i = w1 k i ∨ w' k i = w2 k i) (h1 : WFw w1) (h2 : WFw w2) : WFw w' := by
  obtain ⟨a0, a1, a2, a3, a4, a5, a6, a7, a8, a9, a10, a11⟩ := h1
  obtain ⟨b0, b1, b2, b3, b4, b5, b6, b7, b8, b9, b10, b11⟩ := h2
  refine ⟨?_, ?_, ?_, ?_, fun m => ?_, fun m => ?_, fun m => ?_, fun m => ?_, fun m => ?_, fun m => ?_, fun m => ?_, fun m => ⟨?_, ?_, ?_, ?_⟩⟩
  · rcases h 0 0 (by omega) with e | e <;> rw [e] <;> assumption
  · rcases h 0 1 (by omega) with e | e <;> rw [e] <;> assumption
  · rcases h 0 2 (by omega) with e | e <;> rw [e] <;> assumption
  · rcases h 0 3 (by omega) with e | e <;> rw [e] <;> assumption
  · rcases h 1 m (by omega) with e | e <;> rw [e]
    · exact a4 m
    · exact b4 m
  · rcases h 2 m (by omega) with e | e <;> rw [e]
    · exact a5 m
    · exact b5 m
  · rcases h 3 m (by omega) with e | e <;> rw [e]
    · exact a6 m
    · exact b6 m
  · rcases h 4 m (by omega) with e | e <;> rw [e]
    · exact a7 m
    · exact b7 m
  · rcases h 5 m (by omega) with e | e <;> rw [e]
    · exact a8 m
    · exact b8 m
  · rcases h 6 m (by omega) with e | e <;> rw [e]
    · exact a9 m
    · exact b9 m
  · rcases h 7 m (by omega) with e | e <;> rw [e]
    · exact a10 m
    · exact b10 m
  · rcases h 8 (4 * m) (by omega) with e | e <;> rw [e]
    · exact (a11 m).1
    · exact (b11 m).1
  · rcases h 8 (4 * m + 1) (by omega) with e | e <;> rw [e]
    · exact (a11 m).2.1
    · exact (b11 m).2.1
  · rcases h 8 (4 * m + 2) (by omega) with e | e <;> rw [e]
    · exact (a11 m).2.2.1
    · exact (b11 m).2.2.1
  · rcases h 8 (4 * m + 3) (by omega) with e | e <;> rw [e]
    · exact (a11 m).2.2.2
    · exact (b11 m).2.2.2
theorem rem_mix {p k i : Nat} (hk : k < 9) : rem s (26 + 9 * p + k) i = s (26 + 9 * p + k) i ∨ rem s (26 + 9 * p + k) i = s (1 + k) i := by
  have h1 : ∀ q, rem1 s q (26 + 9 * p + k) i = s (26 + 9 * p + k) i ∨ rem1 s q (26 + 9 * p + k) i = s (1 + k) i := by
    intro q
    unfold rem1
    split
    · rename_i h
      have e : p = q := by omega
      subst e
      right
      rw [Nat.add_sub_cancel_left]
    · exact Or.inl rfl
  unfold rem
  split
  · rw [us_row (by omega)]; exact h1 _
  · rw [us_row (by omega)]; exact h1 _
theorem rem_03 (hW : WFs s) : rem s 0 3 ≤ 30 ∧ rem s 0 2 < 30 := by
  have b2 : s 0 2 < 30 := hW.2.2.1
  have b3 : s 0 3 ≤ 30 := hW.2.2.2.1
  unfold rem
  split
  · simp (disch := omega) only [us_same, us_row, us_col, rem1_o]
    omega
  · simp (disch := omega) only [us_same, us_row, us_col, rem1_o]
    omega
theorem wf_rem (hW : WFs s) : WFs (rem s) := by
  obtain ⟨W, P, h2, h3, h5, h6, r12, z13, r14, z15, r16, z17, r18, z19, z21, r20, r22, r23, r24, r25, pc⟩ := id hW
  have hs : ∀ k i, k < 26 → ¬ (k = 0 ∧ (i = 2 ∨ i = 3)) → rem s k i = s k i := fun k i => rem_o
  refine ⟨WFw_c (fun c j hc => hs _ _ (by omega) (by omega)) W, fun p hp => WFw_mix (fun k i hk => rem_mix hk) (P p hp) W, (rem_03 hW).2, (rem_03 hW).1, ?_, ?_, ?_, ?_, ?_, ?_, ?_, ?_, ?_, ?_, ?_, ?_, ?_, ?_, ?_, ?_, ?_⟩
  · rw [hs _ _ (by omega) (by omega)]; exact h5
  · rw [hs _ _ (by omega) (by omega), hs _ _ (by omega) (by omega)]; exact h6
  · intro j; rw [hs _ _ (by omega) (by omega)]; exact r12 j
  · rw [hs _ _ (by omega) (by omega)]; exact z13
  · intro j; rw [hs _ _ (by omega) (by omega)]; exact r14 j
  · rw [hs _ _ (by omega) (by omega)]; exact z15
  · intro j; rw [hs _ _ (by omega) (by omega)]; exact r16 j
  · rw [hs _ _ (by omega) (by omega)]; exact z17
  · intro j; rw [hs _ _ (by omega) (by omega)]; exact r18 j
  · rw [hs _ _ (by omega) (by omega)]; exact z19
  · rw [hs _ _ (by omega) (by omega), hs _ _ (by omega) (by omega)]; exact z21
  · intro j hj; rw [hs _ _ (by omega) (by omega)] at hj; rw [hs _ _ (by omega) (by omega), hs _ _ (by omega) (by omega)]; exact r20 j hj
  · intro j; rw [hs _ _ (by omega) (by omega)]; exact r22 j
  · intro j; rw [hs _ _ (by omega) (by omega)]; exact r23 j
  · intro j; rw [hs _ _ (by omega) (by omega)]; exact r24 j
  · intro j; rw [hs _ _ (by omega) (by omega)]; exact r25 j
  · intro j hj
    rw [hs 1 0 (by omega) (by omega)]
    obtain ⟨p1, p2⟩ := rem_past hW
    by_cases hf : s 0 3 < 30
    · obtain ⟨e1, e2, e3⟩ := p1 hf
      rw [e1] at hj
      by_cases c : j = s 0 3
      · rw [c, e3 0 0 (by omega) (by decide)]
        exact Nat.le_refl _
      · rw [e2 j 0 0 (by omega) (by omega)]
        exact pc j (by omega)
    · obtain ⟨e1, e2, e3⟩ := p2 (by omega)
      rw [e1] at hj
      by_cases c : j = 29
      · rw [c, e3 0 0 (by omega) (by decide)]
        exact Nat.le_refl _
      · rw [e2 j 0 0 (by omega) (by omega)]
        exact pc (j + 1) (by omega)
theorem Rs1_a {f f' : Nat → Int32} (hf : ∀ i, i < 144 → f' i = f i) (hw : ∀ k i, k < 9 → i < wl k → w' k i = w k i) (hW : WFw w) (h : Rs1 f w) : Rs1 f' w' := by
  obtain ⟨h0, h1, h2, h3, h4, h5⟩ := h
  have hl : ∀ m, w 6 m ≤ 12 := by obtain ⟨_, _, _, _, _, _, _, _, _, h9, _⟩ := hW; exact h9
  have hb : w 0 3 ≤ 30 := hW.2.2.2.1
  have hc : w 0 0 ≤ 5 := hW.1
  refine ⟨?_, ?_, ?_, ?_, fun m hm => ?_, Rbk_a (fun i hi => hf _ (by omega)) hw hb h5⟩
  · rw [hf _ (by omega), hw 0 0 (by omega) (by decide)]; exact h0
  · rw [hf _ (by omega), hw 0 1 (by omega) (by decide)]; exact h1
  · rw [hf _ (by omega), hw 0 2 (by omega) (by decide)]; exact h2
  · rw [hf _ (by omega), hw 0 3 (by omega) (by decide)]; exact h3
  · rw [hw 0 0 (by omega) (by decide)] at hm
    exact Rm1_a (by omega) (fun i hi => hf _ (by omega)) hw (hl m) (h4 m hm)
theorem srk_c {d : Nat} (hd : d < 144) (h : ∀ i, i = 0 ∨ (8 ≤ i ∧ i < 101) ∨ 4547 ≤ i → g i = f i) : srk g d = srk f d := by
  unfold srk
  split
  · exact h _ (by omega)
  · split
    · exact h _ (by omega)
    · split
      · exact h _ (by omega)
      · exact h _ (by omega)
theorem Rs1_srk (hW : WFs s) (h : RR f s) : Rs1 (srk f) (cur s) := by
  obtain ⟨sc, ma, -, -, -, -, -, -, -, -, -, bk⟩ := h
  obtain ⟨a0, a1, a2, a3, a4, a5, a6, a7, a8, a9, a10⟩ := sc
  have hc : s 1 0 ≤ 5 := hW.1.1
  have hl : ∀ m, cur s 6 m ≤ 12 := by obtain ⟨_, _, _, _, _, _, _, _, _, h9, _⟩ := hW.1; exact h9
  refine ⟨a0, a8, a9, a10, fun m hm => ?_, ?_⟩
  · have hm5 : m < 5 := Nat.lt_of_lt_of_le hm hc
    refine Rm1_c (fun i hi => ?_) (fun _ _ _ => rfl) (hl m) (ma m hm).1
    unfold srk
    rw [if_neg (by omega), if_neg (by omega), if_pos (by omega), show (4 + 16 * m + i - 4) / 16 = m by omega, show (4 + 16 * m + i - 4) % 16 = i by omega]
  · refine Rbk_c (fun i hi => ?_) (fun _ _ _ => rfl) hW.1.2.2.2.1 bk
    unfold srk
    rw [if_neg (by omega), if_neg (by omega), if_neg (by omega), Nat.add_sub_cancel_left]
theorem rr_keep (hW : WFs s) (h : RR f s) : RR (kee f (s 0 3)) (rem s) := by
  have b3 : s 0 3 ≤ 30 := hW.2.2.2.1
  have hs : ∀ k i, k < 26 → ¬ (k = 0 ∧ (i = 2 ∨ i = 3)) → rem s k i = s k i := fun k i => rem_o
  have ho : ∀ i, i ≠ 3 → i < 227 ∨ 4547 ≤ i → kee f (s 0 3) i = f i := by
    intro i hi h2
    unfold kee
    split
    · rw [ua_ne hi, kpp_o (by omega) (by omega) h2, ua_ne hi, shk_o (by omega)]
    · rw [ua_ne hi, kpp_o (by omega) (by omega) h2]
  have h9 := Rs1_srk hW h
  obtain ⟨sc, ma, r12, r14, r16, r18, r23, r24, r25, rd, st, bk⟩ := h
  obtain ⟨a0, a1, a2, a3, a4, a5, a6, a7, a8, a9, a10⟩ := sc
  obtain ⟨p1, p2⟩ := rem_past hW
  refine ⟨⟨?_, ?_, ?_, ?_, ?_, ?_, ?_, ?_, ?_, ?_, ?_⟩, Rma_c (fun j _ _ => ho _ (by omega) (by omega)) (fun c j _ => hs _ _ (by omega) (by omega)) hW.1 ma, ?_, ?_, ?_, ?_, ?_, ?_, ?_, Rrd_c (fun j _ _ => ho _ (by omega) (by omega)) (fun j => hs _ _ (by omega) (by omega)) (fun j => hs _ _ (by omega) (by omega)) rd, ?_, Rbk_c (fun j _ => ho _ (by omega) (by omega)) (fun c j _ => hs _ _ (by omega) (by omega)) hW.1.2.2.2.1 bk⟩
  · rw [ho _ (by omega) (by omega), hs _ _ (by omega) (by omega)]; exact a0
  · rw [ho _ (by omega) (by omega), hs _ _ (by omega) (by omega)]; exact a1
  · rw [ho _ (by omega) (by omega), hs _ _ (by omega) (by omega)]; exact a2
  · by_cases hf : s 0 3 < 30
    · rw [(p1 hf).1]
      unfold kee
      rw [if_neg (by omega)]
      exact ua_same rfl
    · rw [(p2 (by omega)).1]
      unfold kee
      rw [if_pos (by omega)]
      exact ua_same rfl
  · rw [ho _ (by omega) (by omega), hs _ _ (by omega) (by omega)]; exact a4
  · rw [ho _ (by omega) (by omega), hs _ _ (by omega) (by omega)]; exact a5
  · rw [ho _ (by omega) (by omega), hs _ _ (by omega) (by omega)]; exact a6
  · rw [ho _ (by omega) (by omega), hs _ _ (by omega) (by omega)]; exact a7
  · rw [ho _ (by omega) (by omega), hs _ _ (by omega) (by omega)]; exact a8
  · rw [ho _ (by omega) (by omega), hs _ _ (by omega) (by omega)]; exact a9
  · rw [ho _ (by omega) (by omega), hs _ _ (by omega) (by omega)]; exact a10
  · exact Rro_c (fun j _ _ => ho _ (by omega) (by omega)) (fun j _ => hs _ _ (by omega) (by omega)) r12
  · exact Rro_c (fun j _ _ => ho _ (by omega) (by omega)) (fun j _ => hs _ _ (by omega) (by omega)) r14
  · exact Rro_c (fun j _ _ => ho _ (by omega) (by omega)) (fun j _ => hs _ _ (by omega) (by omega)) r16
  · exact Rro_c (fun j _ _ => ho _ (by omega) (by omega)) (fun j _ => hs _ _ (by omega) (by omega)) r18
  · exact Rro_c (fun j _ _ => ho _ (by omega) (by omega)) (fun j _ => hs _ _ (by omega) (by omega)) r23
  · exact Rro_c (fun j _ _ => ho _ (by omega) (by omega)) (fun j _ => hs _ _ (by omega) (by omega)) r24
  · exact Rro_c (fun j _ _ => ho _ (by omega) (by omega)) (fun j _ => hs _ _ (by omega) (by omega)) r25
  · intro j hj
    by_cases hf : s 0 3 < 30
    · obtain ⟨e1, e2, e3⟩ := p1 hf
      rw [e1] at hj
      have ek : kee f (s 0 3) = ua (kpp f (227 + 144 * s 0 3) 144) 3 (nI (s 0 3 + 1)) := if_neg (by omega)
      by_cases c : j = s 0 3
      · subst c
        refine Rs1_a (fun i hi => ?_) e3 hW.1 h9
        rw [ek, ua_ne (by omega)]
        unfold kpp
        rw [if_pos (by omega), Nat.add_sub_cancel_left]
      · refine Rs1_a (fun i hi => ?_) (fun k i hk _ => e2 j k i (by omega) hk) (hW.past j) (st j (by omega))
        rw [ek, ua_ne (by omega)]
        unfold kpp
        exact if_neg (by omega)
    · have hf : s 0 3 = 30 := by omega
      obtain ⟨e1, e2, e3⟩ := p2 hf
      rw [e1] at hj
      have ek : kee f (s 0 3) = ua (kpp (ua (shk f 4176) 3 (nI 29)) 4403 144) 3 (nI 30) := if_pos hf
      by_cases c : j = 29
      · subst c
        refine Rs1_a (fun i hi => ?_) e3 hW.1 h9
        rw [ek, ua_ne (by omega)]
        unfold kpp
        rw [if_pos (by omega), show 227 + 144 * 29 + i - 4403 = i by omega]
        refine srk_c hi (fun q hq => ?_)
        rw [ua_ne (by omega), shk_o (by omega)]
      · refine Rs1_a (fun i hi => ?_) (fun k i hk _ => e2 j k i (by omega) hk) (hW.past (j + 1)) (st (j + 1) (by omega))
        rw [ek, ua_ne (by omega)]
        unfold kpp
        rw [if_neg (by omega), ua_ne (by omega)]
        unfold shk
        rw [if_pos (by omega), show 227 + 144 * j + i + 144 = 227 + 144 * (j + 1) + i by omega]
end KPT
