/-! what is kept where rows are the same; single writes -/
section CNG
variable {σ τ : ST} {s s' w w' : SS} {A A' : Nat → Int32}
theorem WFw_c (hw : ∀ k i, k < 9 → w' k i = w k i) (h : WFw w) : WFw w' := by
  obtain ⟨h0, h1, h2, h3, h4, h5, h6, h7, h8, h9, h10, h11⟩ := h
  refine ⟨?_, ?_, ?_, ?_, fun m => ?_, fun m => ?_, fun m => ?_, fun m => ?_, fun m => ?_, fun m => ?_, fun m => ?_, fun m => ?_⟩
  · rw [hw _ _ (by omega)]; exact h0
  · rw [hw _ _ (by omega)]; exact h1
  · rw [hw _ _ (by omega)]; exact h2
  · rw [hw _ _ (by omega)]; exact h3
  · rw [hw _ _ (by omega)]; exact h4 m
  · rw [hw _ _ (by omega)]; exact h5 m
  · rw [hw _ _ (by omega)]; exact h6 m
  · rw [hw _ _ (by omega)]; exact h7 m
  · rw [hw _ _ (by omega)]; exact h8 m
  · rw [hw _ _ (by omega)]; exact h9 m
  · rw [hw _ _ (by omega)]; exact h10 m
  · rw [hw _ _ (by omega), hw _ _ (by omega), hw _ _ (by omega), hw _ _ (by omega)]; exact h11 m
theorem Rm1_c {f f' : Nat → Int32} {m : Nat} (hf : ∀ i, i < 16 → f' i = f i) (hw : ∀ k i, k < 9 → w' k i = w k i) (hl : w 6 m ≤ 12) (h : Rm1 f w m) : Rm1 f' w' m := by
  obtain ⟨h0, h1, h2, h3, h4⟩ := h
  refine ⟨?_, ?_, ?_, ?_, fun i hi => ?_⟩
  · rw [hf _ (by omega), hw _ _ (by omega)]; exact h0
  · rw [hf _ (by omega), hw _ _ (by omega)]; exact h1
  · rw [hf _ (by omega), hw _ _ (by omega)]; exact h2
  · rw [hf _ (by omega), hw _ _ (by omega)]; exact h3
  · rw [hw _ _ (by omega)] at hi
    rw [hf _ (by omega), hw _ _ (by omega)]; exact h4 i hi
theorem Rbk_c {f f' : Nat → Int32} (hf : ∀ i, i < 60 → f' i = f i) (hw : ∀ k i, k < 9 → w' k i = w k i) (hl : w 0 3 ≤ 30) (h : Rbk f w) : Rbk f' w' := by
  intro i hi
  rw [hw _ _ (by omega)] at hi
  rw [hf _ (by omega), hf _ (by omega), hw _ _ (by omega), hw _ _ (by omega), hw _ _ (by omega), hw _ _ (by omega)]
  exact h i hi
theorem Rma_c (hA : ∀ i, 11 ≤ i → i < 101 → A' i = A i) (hw : ∀ k i, k < 9 → w' k i = w k i) (hW : WFw w) (h : Rma A w) : Rma A' w' := by
  intro m hm
  rw [hw _ _ (by omega)] at hm
  have hm5 : m < 5 := Nat.lt_of_lt_of_le hm hW.1
  obtain ⟨h1, h2, h3⟩ := h m hm
  have hl : w 6 m ≤ 12 := by obtain ⟨_, _, _, _, _, _, _, _, _, h9, _⟩ := hW; exact h9 m
  refine ⟨Rm1_c (fun i hi => hA _ (by omega) (by omega)) hw hl h1, ?_, ?_⟩
  · rw [hA _ (by omega) (by omega), hw _ _ (by omega)]; exact h2
  · rw [hA _ (by omega) (by omega), hw _ _ (by omega)]; exact h3
theorem Rs1_c {f f' : Nat → Int32} (hf : ∀ i, i < 144 → f' i = f i) (hw : ∀ k i, k < 9 → w' k i = w k i) (hW : WFw w) (h : Rs1 f w) : Rs1 f' w' := by
  obtain ⟨h0, h1, h2, h3, h4, h5⟩ := h
  have hl : ∀ m, w 6 m ≤ 12 := by obtain ⟨_, _, _, _, _, _, _, _, _, h9, _⟩ := hW; exact h9
  have hb : w 0 3 ≤ 30 := hW.2.2.2.1
  have hc : w 0 0 ≤ 5 := hW.1
  refine ⟨?_, ?_, ?_, ?_, fun m hm => ?_, Rbk_c (fun i hi => hf _ (by omega)) hw hb h5⟩
  · rw [hf _ (by omega), hw _ _ (by omega)]; exact h0
  · rw [hf _ (by omega), hw _ _ (by omega)]; exact h1
  · rw [hf _ (by omega), hw _ _ (by omega)]; exact h2
  · rw [hf _ (by omega), hw _ _ (by omega)]; exact h3
  · rw [hw _ _ (by omega)] at hm
    exact Rm1_c (fun i hi => hf _ (by omega)) hw (hl m) (h4 m hm)
theorem past_c (hs : ∀ k i, 26 ≤ k → s' k i = s k i) (h2 : s' 0 2 = s 0 2) (j : Nat) : past s' j = past s j := by
  funext k i
  unfold past
  rw [h2, hs _ _ (by omega)]
theorem WFs.past (h : WFs s) (j : Nat) : WFw (past s j) := h.2.1 _ (Nat.mod_lt _ (by omega))
theorem Rst_c (hA : ∀ i, 227 ≤ i → i < 4547 → A' i = A i) (hs : ∀ k i, 26 ≤ k → s' k i = s k i) (h2 : s' 0 2 = s 0 2) (h3 : s' 0 3 = s 0 3) (hW : WFs s) (h : Rst A s) : Rst A' s' := by
  intro j hj
  rw [h3] at hj
  have hj30 : j < 30 := Nat.lt_of_lt_of_le hj hW.2.2.2.1
  rw [past_c hs h2]
  exact Rs1_c (fun i hi => hA _ (by omega) (by omega)) (fun _ _ _ => rfl) (hW.past j) (h j hj)
theorem Rro_c {lo n : Nat} {f f' : Nat → Nat} (hA : ∀ i, lo ≤ i → i < lo + n → A' i = A i) (hf : ∀ i, i < n → f' i = f i) (h : Rro A lo n f) : Rro A' lo n f' := by
  intro i hi
  rw [hA _ (by omega) (by omega), hf _ hi]
  exact h i hi
theorem Rrd_c (hA : ∀ i, 211 ≤ i → i < 227 → A' i = A i) (h20 : ∀ i, s' 20 i = s 20 i) (h22 : ∀ i, s' 22 i = s 22 i) (h : Rrd A s) : Rrd A' s' := by
  intro i hi
  rw [hA _ (by omega) (by omega), hA _ (by omega) (by omega), h20, h22]
  exact h i hi
theorem A_set (j : Nat) (v : Int32) (i : Nat) : (setI σ 643 j v).1 643 i = if i = j then v else σ.1 643 i := by
  show (if 643 = 643 ∧ i = j then v else σ.1 643 i) = _
  by_cases h : i = j
  · rw [if_pos ⟨rfl, h⟩, if_pos h]
  · rw [if_neg (fun q => h q.2), if_neg h]
theorem A_ne {j i : Nat} {v : Int32} (h : i ≠ j) : (setI σ 643 j v).1 643 i = σ.1 643 i := by rw [A_set, if_neg h]
theorem FC.ref (h : FC σ τ) : τ.1 643 = σ.1 643 := funext fun i => h.1 643 i (Or.inr (by omega))
theorem RR.fc (h : RR (σ.1 643) s) (hf : FC σ τ) : RR (τ.1 643) s := by rw [hf.ref]; exact h
theorem wf_12 (h : WFs s) {i v : Nat} (hv : v ≤ 110) : WFs (us s 12 i v) := by
  obtain ⟨W, P, h2, h3, h5, h6, r12, z13, r14, z15, r16, z17, r18, z19, z21, r20, r22, r23, r24, r25, pc⟩ := h
  refine ⟨WFw_c (fun c j hc => us_row (by omega)) W, fun p hp => WFw_c (fun c j hc => us_row (by omega)) (P p hp), ?_, ?_, ?_, ?_, ?_, ?_, ?_, ?_, ?_, ?_, ?_, ?_, ?_, ?_, ?_, ?_, ?_, ?_, ?_⟩
  · rw [us_row (by omega)]
    exact h2
  · rw [us_row (by omega)]
    exact h3
  · rw [us_row (by omega)]
    exact h5
  · rw [us_row (by omega), us_row (by omega)]
    exact h6
  · intro j
    unfold us
    split
    · exact hv
    · exact r12 j
  · rw [us_row (by omega)]
    exact z13
  · intro j
    rw [us_row (by omega)]
    exact r14 j
  · rw [us_row (by omega)]
    exact z15
  · intro j
    rw [us_row (by omega)]
    exact r16 j
  · rw [us_row (by omega)]
    exact z17
  · intro j
    rw [us_row (by omega)]
    exact r18 j
  · rw [us_row (by omega)]
    exact z19
  · rw [us_row (by omega), us_row (by omega)]
    exact z21
  · intro j hj
    rw [us_row (by omega)] at hj
    rw [us_row (by omega), us_row (by omega)]
    exact r20 j hj
  · intro j
    rw [us_row (by omega)]
    exact r22 j
  · intro j
    rw [us_row (by omega)]
    exact r23 j
  · intro j
    rw [us_row (by omega)]
    exact r24 j
  · intro j
    rw [us_row (by omega)]
    exact r25 j
  · intro j hj
    rw [us_row (by omega)] at hj
    rw [past_c (s := s) (fun c i hc => us_row (by omega)) (us_row (by omega)), us_row (by omega)]
    exact pc j hj
theorem wf_14 (h : WFs s) {i v : Nat} (hv : v ≤ 9) : WFs (us s 14 i v) := by
  obtain ⟨W, P, h2, h3, h5, h6, r12, z13, r14, z15, r16, z17, r18, z19, z21, r20, r22, r23, r24, r25, pc⟩ := h
  refine ⟨WFw_c (fun c j hc => us_row (by omega)) W, fun p hp => WFw_c (fun c j hc => us_row (by omega)) (P p hp), ?_, ?_, ?_, ?_, ?_, ?_, ?_, ?_, ?_, ?_, ?_, ?_, ?_, ?_, ?_, ?_, ?_, ?_, ?_⟩
  · rw [us_row (by omega)]
    exact h2
  · rw [us_row (by omega)]
    exact h3
  · rw [us_row (by omega)]
    exact h5
  · rw [us_row (by omega), us_row (by omega)]
    exact h6
  · intro j
    rw [us_row (by omega)]
    exact r12 j
  · rw [us_row (by omega)]
    exact z13
  · intro j
    unfold us
    split
    · exact hv
    · exact r14 j
  · rw [us_row (by omega)]
    exact z15
  · intro j
    rw [us_row (by omega)]
    exact r16 j
  · rw [us_row (by omega)]
    exact z17
  · intro j
    rw [us_row (by omega)]
    exact r18 j
  · rw [us_row (by omega)]
    exact z19
  · rw [us_row (by omega), us_row (by omega)]
    exact z21
  · intro j hj
    rw [us_row (by omega)] at hj
    rw [us_row (by omega), us_row (by omega)]
    exact r20 j hj
  · intro j
    rw [us_row (by omega)]
    exact r22 j
  · intro j
    rw [us_row (by omega)]
    exact r23 j
  · intro j
    rw [us_row (by omega)]
    exact r24 j
  · intro j
    rw [us_row (by omega)]
    exact r25 j
  · intro j hj
    rw [us_row (by omega)] at hj
    rw [past_c (s := s) (fun c i hc => us_row (by omega)) (us_row (by omega)), us_row (by omega)]
    exact pc j hj
theorem wf_16 (h : WFs s) {i v : Nat} (hv : v ≤ 9) : WFs (us s 16 i v) := by
  obtain ⟨W, P, h2, h3, h5, h6, r12, z13, r14, z15, r16, z17, r18, z19, z21, r20, r22, r23, r24, r25, pc⟩ := h
  refine ⟨WFw_c (fun c j hc => us_row (by omega)) W, fun p hp => WFw_c (fun c j hc => us_row (by omega)) (P p hp), ?_, ?_, ?_, ?_, ?_, ?_, ?_, ?_, ?_, ?_, ?_, ?_, ?_, ?_, ?_, ?_, ?_, ?_, ?_⟩
  · rw [us_row (by omega)]
    exact h2
  · rw [us_row (by omega)]
    exact h3
  · rw [us_row (by omega)]
    exact h5
  · rw [us_row (by omega), us_row (by omega)]
    exact h6
  · intro j
    rw [us_row (by omega)]
    exact r12 j
  · rw [us_row (by omega)]
    exact z13
  · intro j
    rw [us_row (by omega)]
    exact r14 j
  · rw [us_row (by omega)]
    exact z15
  · intro j
    unfold us
    split
    · exact hv
    · exact r16 j
  · rw [us_row (by omega)]
    exact z17
  · intro j
    rw [us_row (by omega)]
    exact r18 j
  · rw [us_row (by omega)]
    exact z19
  · rw [us_row (by omega), us_row (by omega)]
    exact z21
  · intro j hj
    rw [us_row (by omega)] at hj
    rw [us_row (by omega), us_row (by omega)]
    exact r20 j hj
  · intro j
    rw [us_row (by omega)]
    exact r22 j
  · intro j
    rw [us_row (by omega)]
    exact r23 j
  · intro j
    rw [us_row (by omega)]
    exact r24 j
  · intro j
    rw [us_row (by omega)]
    exact r25 j
  · intro j hj
    rw [us_row (by omega)] at hj
    rw [past_c (s := s) (fun c i hc => us_row (by omega)) (us_row (by omega)), us_row (by omega)]
    exact pc j hj
theorem wf_18 (h : WFs s) {i v : Nat} (hv : v ≤ 9999) : WFs (us s 18 i v) := by
  obtain ⟨W, P, h2, h3, h5, h6, r12, z13, r14, z15, r16, z17, r18, z19, z21, r20, r22, r23, r24, r25, pc⟩ := h
  refine ⟨WFw_c (fun c j hc => us_row (by omega)) W, fun p hp => WFw_c (fun c j hc => us_row (by omega)) (P p hp), ?_, ?_, ?_, ?_, ?_, ?_, ?_, ?_, ?_, ?_, ?_, ?_, ?_, ?_, ?_, ?_, ?_, ?_, ?_⟩
  · rw [us_row (by omega)]
    exact h2
  · rw [us_row (by omega)]
    exact h3
  · rw [us_row (by omega)]
    exact h5
  · rw [us_row (by omega), us_row (by omega)]
    exact h6
  · intro j
    rw [us_row (by omega)]
    exact r12 j
  · rw [us_row (by omega)]
    exact z13
  · intro j
    rw [us_row (by omega)]
    exact r14 j
  · rw [us_row (by omega)]
    exact z15
  · intro j
    rw [us_row (by omega)]
    exact r16 j
  · rw [us_row (by omega)]
    exact z17
  · intro j
    unfold us
    split
    · exact hv
    · exact r18 j
  · rw [us_row (by omega)]
    exact z19
  · rw [us_row (by omega), us_row (by omega)]
    exact z21
  · intro j hj
    rw [us_row (by omega)] at hj
    rw [us_row (by omega), us_row (by omega)]
    exact r20 j hj
  · intro j
    rw [us_row (by omega)]
    exact r22 j
  · intro j
    rw [us_row (by omega)]
    exact r23 j
  · intro j
    rw [us_row (by omega)]
    exact r24 j
  · intro j
    rw [us_row (by omega)]
    exact r25 j
  · intro j hj
    rw [us_row (by omega)] at hj
    rw [past_c (s := s) (fun c i hc => us_row (by omega)) (us_row (by omega)), us_row (by omega)]
    exact pc j hj
theorem wf_23 (h : WFs s) {i v : Nat} (hv : v ≤ 9) : WFs (us s 23 i v) := by
  obtain ⟨W, P, h2, h3, h5, h6, r12, z13, r14, z15, r16, z17, r18, z19, z21, r20, r22, r23, r24, r25, pc⟩ := h
  refine ⟨WFw_c (fun c j hc => us_row (by omega)) W, fun p hp => WFw_c (fun c j hc => us_row (by omega)) (P p hp), ?_, ?_, ?_, ?_, ?_, ?_, ?_, ?_, ?_, ?_, ?_, ?_, ?_, ?_, ?_, ?_, ?_, ?_, ?_⟩
  · rw [us_row (by omega)]
    exact h2
  · rw [us_row (by omega)]
    exact h3
  · rw [us_row (by omega)]
    exact h5
  · rw [us_row (by omega), us_row (by omega)]
    exact h6
  · intro j
    rw [us_row (by omega)]
    exact r12 j
  · rw [us_row (by omega)]
    exact z13
  · intro j
    rw [us_row (by omega)]
    exact r14 j
  · rw [us_row (by omega)]
    exact z15
  · intro j
    rw [us_row (by omega)]
    exact r16 j
  · rw [us_row (by omega)]
    exact z17
  · intro j
    rw [us_row (by omega)]
    exact r18 j
  · rw [us_row (by omega)]
    exact z19
  · rw [us_row (by omega), us_row (by omega)]
    exact z21
  · intro j hj
    rw [us_row (by omega)] at hj
    rw [us_row (by omega), us_row (by omega)]
    exact r20 j hj
  · intro j
    rw [us_row (by omega)]
    exact r22 j
  · intro j
    unfold us
    split
    · exact hv
    · exact r23 j
  · intro j
    rw [us_row (by omega)]
    exact r24 j
  · intro j
    rw [us_row (by omega)]
    exact r25 j
  · intro j hj
    rw [us_row (by omega)] at hj
    rw [past_c (s := s) (fun c i hc => us_row (by omega)) (us_row (by omega)), us_row (by omega)]
    exact pc j hj
theorem wf_24 (h : WFs s) {i v : Nat} (hv : v ≤ 9) : WFs (us s 24 i v) := by
  obtain ⟨W, P, h2, h3, h5, h6, r12, z13, r14, z15, r16, z17, r18, z19, z21, r20, r22, r23, r24, r25, pc⟩ := h
  refine ⟨WFw_c (fun c j hc => us_row (by omega)) W, fun p hp => WFw_c (fun c j hc => us_row (by omega)) (P p hp), ?_, ?_, ?_, ?_, ?_, ?_, ?_, ?_, ?_, ?_, ?_, ?_, ?_, ?_, ?_, ?_, ?_, ?_, ?_⟩
  · rw [us_row (by omega)]
    exact h2
  · rw [us_row (by omega)]
    exact h3
  · rw [us_row (by omega)]
    exact h5
  · rw [us_row (by omega), us_row (by omega)]
    exact h6
  · intro j
    rw [us_row (by omega)]
    exact r12 j
  · rw [us_row (by omega)]
    exact z13
  · intro j
    rw [us_row (by omega)]
    exact r14 j
  · rw [us_row (by omega)]
    exact z15
  · intro j
    rw [us_row (by omega)]
    exact r16 j
  · rw [us_row (by omega)]
    exact z17
  · intro j
    rw [us_row (by omega)]
    exact r18 j
  · rw [us_row (by omega)]
    exact z19
  · rw [us_row (by omega), us_row (by omega)]
    exact z21
  · intro j hj
    rw [us_row (by omega)] at hj
    rw [us_row (by omega), us_row (by omega)]
    exact r20 j hj
  · intro j
    rw [us_row (by omega)]
    exact r22 j
  · intro j
    rw [us_row (by omega)]
    exact r23 j
  · intro j
    unfold us
    split
    · exact hv
    · exact r24 j
  · intro j
    rw [us_row (by omega)]
    exact r25 j
  · intro j hj
    rw [us_row (by omega)] at hj
    rw [past_c (s := s) (fun c i hc => us_row (by omega)) (us_row (by omega)), us_row (by omega)]
    exact pc j hj
theorem wf_25 (h : WFs s) {i v : Nat} (hv : v ≤ 99) : WFs (us s 25 i v) := by
  obtain ⟨W, P, h2, h3, h5, h6, r12, z13, r14, z15, r16, z17, r18, z19, z21, r20, r22, r23, r24, r25, pc⟩ := h
  refine ⟨WFw_c (fun c j hc => us_row (by omega)) W, fun p hp => WFw_c (fun c j hc => us_row (by omega)) (P p hp), ?_, ?_, ?_, ?_, ?_, ?_, ?_, ?_, ?_, ?_, ?_, ?_, ?_, ?_, ?_, ?_, ?_, ?_, ?_⟩
  · rw [us_row (by omega)]
    exact h2
  · rw [us_row (by omega)]
    exact h3
  · rw [us_row (by omega)]
    exact h5
  · rw [us_row (by omega), us_row (by omega)]
    exact h6
  · intro j
    rw [us_row (by omega)]
    exact r12 j
  · rw [us_row (by omega)]
    exact z13
  · intro j
    rw [us_row (by omega)]
    exact r14 j
  · rw [us_row (by omega)]
    exact z15
  · intro j
    rw [us_row (by omega)]
    exact r16 j
  · rw [us_row (by omega)]
    exact z17
  · intro j
    rw [us_row (by omega)]
    exact r18 j
  · rw [us_row (by omega)]
    exact z19
  · rw [us_row (by omega), us_row (by omega)]
    exact z21
  · intro j hj
    rw [us_row (by omega)] at hj
    rw [us_row (by omega), us_row (by omega)]
    exact r20 j hj
  · intro j
    rw [us_row (by omega)]
    exact r22 j
  · intro j
    rw [us_row (by omega)]
    exact r23 j
  · intro j
    rw [us_row (by omega)]
    exact r24 j
  · intro j
    unfold us
    split
    · exact hv
    · exact r25 j
  · intro j hj
    rw [us_row (by omega)] at hj
    rw [past_c (s := s) (fun c i hc => us_row (by omega)) (us_row (by omega)), us_row (by omega)]
    exact pc j hj
theorem wf_13 (h : WFs s) {v : Nat} (hv : v ≤ 12) : WFs (us s 13 1 v) := by
  obtain ⟨W, P, h2, h3, h5, h6, r12, z13, r14, z15, r16, z17, r18, z19, z21, r20, r22, r23, r24, r25, pc⟩ := h
  refine ⟨WFw_c (fun c j hc => us_row (by omega)) W, fun p hp => WFw_c (fun c j hc => us_row (by omega)) (P p hp), ?_, ?_, ?_, ?_, ?_, ?_, ?_, ?_, ?_, ?_, ?_, ?_, ?_, ?_, ?_, ?_, ?_, ?_, ?_⟩
  · rw [us_row (by omega)]
    exact h2
  · rw [us_row (by omega)]
    exact h3
  · rw [us_row (by omega)]
    exact h5
  · rw [us_row (by omega), us_row (by omega)]
    exact h6
  · intro j
    rw [us_row (by omega)]
    exact r12 j
  · rw [us_same rfl rfl]
    exact hv
  · intro j
    rw [us_row (by omega)]
    exact r14 j
  · rw [us_row (by omega)]
    exact z15
  · intro j
    rw [us_row (by omega)]
    exact r16 j
  · rw [us_row (by omega)]
    exact z17
  · intro j
    rw [us_row (by omega)]
    exact r18 j
  · rw [us_row (by omega)]
    exact z19
  · rw [us_row (by omega), us_row (by omega)]
    exact z21
  · intro j hj
    rw [us_row (by omega)] at hj
    rw [us_row (by omega), us_row (by omega)]
    exact r20 j hj
  · intro j
    rw [us_row (by omega)]
    exact r22 j
  · intro j
    rw [us_row (by omega)]
    exact r23 j
  · intro j
    rw [us_row (by omega)]
    exact r24 j
  · intro j
    rw [us_row (by omega)]
    exact r25 j
  · intro j hj
    rw [us_row (by omega)] at hj
    rw [past_c (s := s) (fun c i hc => us_row (by omega)) (us_row (by omega)), us_row (by omega)]
    exact pc j hj
theorem wf_15 (h : WFs s) {v : Nat} (hv : v ≤ 12) : WFs (us s 15 1 v) := by
  obtain ⟨W, P, h2, h3, h5, h6, r12, z13, r14, z15, r16, z17, r18, z19, z21, r20, r22, r23, r24, r25, pc⟩ := h
  refine ⟨WFw_c (fun c j hc => us_row (by omega)) W, fun p hp => WFw_c (fun c j hc => us_row (by omega)) (P p hp), ?_, ?_, ?_, ?_, ?_, ?_, ?_, ?_, ?_, ?_, ?_, ?_, ?_, ?_, ?_, ?_, ?_, ?_, ?_⟩
  · rw [us_row (by omega)]
    exact h2
  · rw [us_row (by omega)]
    exact h3
  · rw [us_row (by omega)]
    exact h5
  · rw [us_row (by omega), us_row (by omega)]
    exact h6
  · intro j
    rw [us_row (by omega)]
    exact r12 j
  · rw [us_row (by omega)]
    exact z13
  · intro j
    rw [us_row (by omega)]
    exact r14 j
  · rw [us_same rfl rfl]
    exact hv
  · intro j
    rw [us_row (by omega)]
    exact r16 j
  · rw [us_row (by omega)]
    exact z17
  · intro j
    rw [us_row (by omega)]
    exact r18 j
  · rw [us_row (by omega)]
    exact z19
  · rw [us_row (by omega), us_row (by omega)]
    exact z21
  · intro j hj
    rw [us_row (by omega)] at hj
    rw [us_row (by omega), us_row (by omega)]
    exact r20 j hj
  · intro j
    rw [us_row (by omega)]
    exact r22 j
  · intro j
    rw [us_row (by omega)]
    exact r23 j
  · intro j
    rw [us_row (by omega)]
    exact r24 j
  · intro j
    rw [us_row (by omega)]
    exact r25 j
  · intro j hj
    rw [us_row (by omega)] at hj
    rw [past_c (s := s) (fun c i hc => us_row (by omega)) (us_row (by omega)), us_row (by omega)]
    exact pc j hj
theorem wf_17 (h : WFs s) {v : Nat} (hv : v ≤ 8) : WFs (us s 17 1 v) := by
  obtain ⟨W, P, h2, h3, h5, h6, r12, z13, r14, z15, r16, z17, r18, z19, z21, r20, r22, r23, r24, r25, pc⟩ := h
  refine ⟨WFw_c (fun c j hc => us_row (by omega)) W, fun p hp => WFw_c (fun c j hc => us_row (by omega)) (P p hp), ?_, ?_, ?_, ?_, ?_, ?_, ?_, ?_, ?_, ?_, ?_, ?_, ?_, ?_, ?_, ?_, ?_, ?_, ?_⟩
  · rw [us_row (by omega)]
    exact h2
  · rw [us_row (by omega)]
    exact h3
  · rw [us_row (by omega)]
    exact h5
  · rw [us_row (by omega), us_row (by omega)]
    exact h6
  · intro j
    rw [us_row (by omega)]
    exact r12 j
  · rw [us_row (by omega)]
    exact z13
  · intro j
    rw [us_row (by omega)]
    exact r14 j
  · rw [us_row (by omega)]
    exact z15
  · intro j
    rw [us_row (by omega)]
    exact r16 j
  · rw [us_same rfl rfl]
    exact hv
  · intro j
    rw [us_row (by omega)]
    exact r18 j
  · rw [us_row (by omega)]
    exact z19
  · rw [us_row (by omega), us_row (by omega)]
    exact z21
  · intro j hj
    rw [us_row (by omega)] at hj
    rw [us_row (by omega), us_row (by omega)]
    exact r20 j hj
  · intro j
    rw [us_row (by omega)]
    exact r22 j
  · intro j
    rw [us_row (by omega)]
    exact r23 j
  · intro j
    rw [us_row (by omega)]
    exact r24 j
  · intro j
    rw [us_row (by omega)]
    exact r25 j
  · intro j hj
    rw [us_row (by omega)] at hj
    rw [past_c (s := s) (fun c i hc => us_row (by omega)) (us_row (by omega)), us_row (by omega)]
    exact pc j hj
theorem rr_12 (hW : WFs s) (h : RR (σ.1 643) s) {i v : Nat} (hi : i < 20) : RR ((setI σ 643 (101 + i) (nI v)).1 643) (us s 12 i v) := by
  obtain ⟨sc, ma, r12, r14, r16, r18, r23, r24, r25, rd, st, bk⟩ := h
  refine ⟨?_, Rma_c (fun j _ _ => A_ne (by omega)) (fun c j _ => us_row (by omega)) hW.1 ma, ?_, ?_, ?_, ?_, ?_, ?_, ?_, Rrd_c (fun j _ _ => A_ne (by omega)) (fun j => us_row (by omega)) (fun j => us_row (by omega)) rd, Rst_c (fun j _ _ => A_ne (by omega)) (fun c j _ => us_row (by omega)) (us_row (by omega)) (us_row (by omega)) hW st, Rbk_c (fun j _ => A_ne (by omega)) (fun c j _ => us_row (by omega)) hW.1.2.2.2.1 bk⟩
  · obtain ⟨a0, a1, a2, a3, a4, a5, a6, a7, a8, a9, a10⟩ := sc
    refine ⟨?_, ?_, ?_, ?_, ?_, ?_, ?_, ?_, ?_, ?_, ?_⟩ <;> (rw [A_ne (by omega), us_row (by omega)]; assumption)
  · intro j hj
    rw [A_set]
    by_cases e : j = i
    · rw [if_pos (by omega), us_same rfl e]
    · rw [if_neg (by omega), us_col e]
      exact r12 j hj
  · exact Rro_c (fun j _ _ => A_ne (by omega)) (fun j _ => us_row (by omega)) r14
  · exact Rro_c (fun j _ _ => A_ne (by omega)) (fun j _ => us_row (by omega)) r16
  · exact Rro_c (fun j _ _ => A_ne (by omega)) (fun j _ => us_row (by omega)) r18
  · exact Rro_c (fun j _ _ => A_ne (by omega)) (fun j _ => us_row (by omega)) r23
  · exact Rro_c (fun j _ _ => A_ne (by omega)) (fun j _ => us_row (by omega)) r24
  · exact Rro_c (fun j _ _ => A_ne (by omega)) (fun j _ => us_row (by omega)) r25
theorem rr_14 (hW : WFs s) (h : RR (σ.1 643) s) {i v : Nat} (hi : i < 12) : RR ((setI σ 643 (121 + i) (nI v)).1 643) (us s 14 i v) := by
  obtain ⟨sc, ma, r12, r14, r16, r18, r23, r24, r25, rd, st, bk⟩ := h
  refine ⟨?_, Rma_c (fun j _ _ => A_ne (by omega)) (fun c j _ => us_row (by omega)) hW.1 ma, ?_, ?_, ?_, ?_, ?_, ?_, ?_, Rrd_c (fun j _ _ => A_ne (by omega)) (fun j => us_row (by omega)) (fun j => us_row (by omega)) rd, Rst_c (fun j _ _ => A_ne (by omega)) (fun c j _ => us_row (by omega)) (us_row (by omega)) (us_row (by omega)) hW st, Rbk_c (fun j _ => A_ne (by omega)) (fun c j _ => us_row (by omega)) hW.1.2.2.2.1 bk⟩
  · obtain ⟨a0, a1, a2, a3, a4, a5, a6, a7, a8, a9, a10⟩ := sc
    refine ⟨?_, ?_, ?_, ?_, ?_, ?_, ?_, ?_, ?_, ?_, ?_⟩ <;> (rw [A_ne (by omega), us_row (by omega)]; assumption)
  · exact Rro_c (fun j _ _ => A_ne (by omega)) (fun j _ => us_row (by omega)) r12
  · intro j hj
    rw [A_set]
    by_cases e : j = i
    · rw [if_pos (by omega), us_same rfl e]
    · rw [if_neg (by omega), us_col e]
      exact r14 j hj
  · exact Rro_c (fun j _ _ => A_ne (by omega)) (fun j _ => us_row (by omega)) r16
  · exact Rro_c (fun j _ _ => A_ne (by omega)) (fun j _ => us_row (by omega)) r18
  · exact Rro_c (fun j _ _ => A_ne (by omega)) (fun j _ => us_row (by omega)) r23
  · exact Rro_c (fun j _ _ => A_ne (by omega)) (fun j _ => us_row (by omega)) r24
  · exact Rro_c (fun j _ _ => A_ne (by omega)) (fun j _ => us_row (by omega)) r25
theorem rr_16 (hW : WFs s) (h : RR (σ.1 643) s) {i v : Nat} (hi : i < 12) : RR ((setI σ 643 (133 + i) (nI v)).1 643) (us s 16 i v) := by
  obtain ⟨sc, ma, r12, r14, r16, r18, r23, r24, r25, rd, st, bk⟩ := h
  refine ⟨?_, Rma_c (fun j _ _ => A_ne (by omega)) (fun c j _ => us_row (by omega)) hW.1 ma, ?_, ?_, ?_, ?_, ?_, ?_, ?_, Rrd_c (fun j _ _ => A_ne (by omega)) (fun j => us_row (by omega)) (fun j => us_row (by omega)) rd, Rst_c (fun j _ _ => A_ne (by omega)) (fun c j _ => us_row (by omega)) (us_row (by omega)) (us_row (by omega)) hW st, Rbk_c (fun j _ => A_ne (by omega)) (fun c j _ => us_row (by omega)) hW.1.2.2.2.1 bk⟩
  · obtain ⟨a0, a1, a2, a3, a4, a5, a6, a7, a8, a9, a10⟩ := sc
    refine ⟨?_, ?_, ?_, ?_, ?_, ?_, ?_, ?_, ?_, ?_, ?_⟩ <;> (rw [A_ne (by omega), us_row (by omega)]; assumption)
  · exact Rro_c (fun j _ _ => A_ne (by omega)) (fun j _ => us_row (by omega)) r12
  · exact Rro_c (fun j _ _ => A_ne (by omega)) (fun j _ => us_row (by omega)) r14
  · intro j hj
    rw [A_set]
    by_cases e : j = i
    · rw [if_pos (by omega), us_same rfl e]
    · rw [if_neg (by omega), us_col e]
      exact r16 j hj
  · exact Rro_c (fun j _ _ => A_ne (by omega)) (fun j _ => us_row (by omega)) r18
  · exact Rro_c (fun j _ _ => A_ne (by omega)) (fun j _ => us_row (by omega)) r23
  · exact Rro_c (fun j _ _ => A_ne (by omega)) (fun j _ => us_row (by omega)) r24
  · exact Rro_c (fun j _ _ => A_ne (by omega)) (fun j _ => us_row (by omega)) r25
theorem rr_18 (hW : WFs s) (h : RR (σ.1 643) s) {i v : Nat} (hi : i < 8) : RR ((setI σ 643 (145 + i) (nI v)).1 643) (us s 18 i v) := by
  obtain ⟨sc, ma, r12, r14, r16, r18, r23, r24, r25, rd, st, bk⟩ := h
  refine ⟨?_, Rma_c (fun j _ _ => A_ne (by omega)) (fun c j _ => us_row (by omega)) hW.1 ma, ?_, ?_, ?_, ?_, ?_, ?_, ?_, Rrd_c (fun j _ _ => A_ne (by omega)) (fun j => us_row (by omega)) (fun j => us_row (by omega)) rd, Rst_c (fun j _ _ => A_ne (by omega)) (fun c j _ => us_row (by omega)) (us_row (by omega)) (us_row (by omega)) hW st, Rbk_c (fun j _ => A_ne (by omega)) (fun c j _ => us_row (by omega)) hW.1.2.2.2.1 bk⟩
  · obtain ⟨a0, a1, a2, a3, a4, a5, a6, a7, a8, a9, a10⟩ := sc
    refine ⟨?_, ?_, ?_, ?_, ?_, ?_, ?_, ?_, ?_, ?_, ?_⟩ <;> (rw [A_ne (by omega), us_row (by omega)]; assumption)
  · exact Rro_c (fun j _ _ => A_ne (by omega)) (fun j _ => us_row (by omega)) r12
  · exact Rro_c (fun j _ _ => A_ne (by omega)) (fun j _ => us_row (by omega)) r14
  · exact Rro_c (fun j _ _ => A_ne (by omega)) (fun j _ => us_row (by omega)) r16
  · intro j hj
    rw [A_set]
    by_cases e : j = i
    · rw [if_pos (by omega), us_same rfl e]
    · rw [if_neg (by omega), us_col e]
      exact r18 j hj
  · exact Rro_c (fun j _ _ => A_ne (by omega)) (fun j _ => us_row (by omega)) r23
  · exact Rro_c (fun j _ _ => A_ne (by omega)) (fun j _ => us_row (by omega)) r24
  · exact Rro_c (fun j _ _ => A_ne (by omega)) (fun j _ => us_row (by omega)) r25
theorem rr_23 (hW : WFs s) (h : RR (σ.1 643) s) {i v : Nat} (hi : i < 25) : RR ((setI σ 643 (153 + i) (nI v)).1 643) (us s 23 i v) := by
  obtain ⟨sc, ma, r12, r14, r16, r18, r23, r24, r25, rd, st, bk⟩ := h
  refine ⟨?_, Rma_c (fun j _ _ => A_ne (by omega)) (fun c j _ => us_row (by omega)) hW.1 ma, ?_, ?_, ?_, ?_, ?_, ?_, ?_, Rrd_c (fun j _ _ => A_ne (by omega)) (fun j => us_row (by omega)) (fun j => us_row (by omega)) rd, Rst_c (fun j _ _ => A_ne (by omega)) (fun c j _ => us_row (by omega)) (us_row (by omega)) (us_row (by omega)) hW st, Rbk_c (fun j _ => A_ne (by omega)) (fun c j _ => us_row (by omega)) hW.1.2.2.2.1 bk⟩
  · obtain ⟨a0, a1, a2, a3, a4, a5, a6, a7, a8, a9, a10⟩ := sc
    refine ⟨?_, ?_, ?_, ?_, ?_, ?_, ?_, ?_, ?_, ?_, ?_⟩ <;> (rw [A_ne (by omega), us_row (by omega)]; assumption)
  · exact Rro_c (fun j _ _ => A_ne (by omega)) (fun j _ => us_row (by omega)) r12
  · exact Rro_c (fun j _ _ => A_ne (by omega)) (fun j _ => us_row (by omega)) r14
  · exact Rro_c (fun j _ _ => A_ne (by omega)) (fun j _ => us_row (by omega)) r16
  · exact Rro_c (fun j _ _ => A_ne (by omega)) (fun j _ => us_row (by omega)) r18
  · intro j hj
    rw [A_set]
    by_cases e : j = i
    · rw [if_pos (by omega), us_same rfl e]
    · rw [if_neg (by omega), us_col e]
      exact r23 j hj
  · exact Rro_c (fun j _ _ => A_ne (by omega)) (fun j _ => us_row (by omega)) r24
  · exact Rro_c (fun j _ _ => A_ne (by omega)) (fun j _ => us_row (by omega)) r25
theorem rr_24 (hW : WFs s) (h : RR (σ.1 643) s) {i v : Nat} (hi : i < 25) : RR ((setI σ 643 (178 + i) (nI v)).1 643) (us s 24 i v) := by
  obtain ⟨sc, ma, r12, r14, r16, r18, r23, r24, r25, rd, st, bk⟩ := h
  refine ⟨?_, Rma_c (fun j _ _ => A_ne (by omega)) (fun c j _ => us_row (by omega)) hW.1 ma, ?_, ?_, ?_, ?_, ?_, ?_, ?_, Rrd_c (fun j _ _ => A_ne (by omega)) (fun j => us_row (by omega)) (fun j => us_row (by omega)) rd, Rst_c (fun j _ _ => A_ne (by omega)) (fun c j _ => us_row (by omega)) (us_row (by omega)) (us_row (by omega)) hW st, Rbk_c (fun j _ => A_ne (by omega)) (fun c j _ => us_row (by omega)) hW.1.2.2.2.1 bk⟩
  · obtain ⟨a0, a1, a2, a3, a4, a5, a6, a7, a8, a9, a10⟩ := sc
    refine ⟨?_, ?_, ?_, ?_, ?_, ?_, ?_, ?_, ?_, ?_, ?_⟩ <;> (rw [A_ne (by omega), us_row (by omega)]; assumption)
  · exact Rro_c (fun j _ _ => A_ne (by omega)) (fun j _ => us_row (by omega)) r12
  · exact Rro_c (fun j _ _ => A_ne (by omega)) (fun j _ => us_row (by omega)) r14
  · exact Rro_c (fun j _ _ => A_ne (by omega)) (fun j _ => us_row (by omega)) r16
  · exact Rro_c (fun j _ _ => A_ne (by omega)) (fun j _ => us_row (by omega)) r18
  · exact Rro_c (fun j _ _ => A_ne (by omega)) (fun j _ => us_row (by omega)) r23
  · intro j hj
    rw [A_set]
    by_cases e : j = i
    · rw [if_pos (by omega), us_same rfl e]
    · rw [if_neg (by omega), us_col e]
      exact r24 j hj
  · exact Rro_c (fun j _ _ => A_ne (by omega)) (fun j _ => us_row (by omega)) r25
theorem rr_25 (hW : WFs s) (h : RR (σ.1 643) s) {i v : Nat} (hi : i < 8) : RR ((setI σ 643 (203 + i) (nI v)).1 643) (us s 25 i v) := by
  obtain ⟨sc, ma, r12, r14, r16, r18, r23, r24, r25, rd, st, bk⟩ := h
  refine ⟨?_, Rma_c (fun j _ _ => A_ne (by omega)) (fun c j _ => us_row (by omega)) hW.1 ma, ?_, ?_, ?_, ?_, ?_, ?_, ?_, Rrd_c (fun j _ _ => A_ne (by omega)) (fun j => us_row (by omega)) (fun j => us_row (by omega)) rd, Rst_c (fun j _ _ => A_ne (by omega)) (fun c j _ => us_row (by omega)) (us_row (by omega)) (us_row (by omega)) hW st, Rbk_c (fun j _ => A_ne (by omega)) (fun c j _ => us_row (by omega)) hW.1.2.2.2.1 bk⟩
  · obtain ⟨a0, a1, a2, a3, a4, a5, a6, a7, a8, a9, a10⟩ := sc
    refine ⟨?_, ?_, ?_, ?_, ?_, ?_, ?_, ?_, ?_, ?_, ?_⟩ <;> (rw [A_ne (by omega), us_row (by omega)]; assumption)
  · exact Rro_c (fun j _ _ => A_ne (by omega)) (fun j _ => us_row (by omega)) r12
  · exact Rro_c (fun j _ _ => A_ne (by omega)) (fun j _ => us_row (by omega)) r14
  · exact Rro_c (fun j _ _ => A_ne (by omega)) (fun j _ => us_row (by omega)) r16
  · exact Rro_c (fun j _ _ => A_ne (by omega)) (fun j _ => us_row (by omega)) r18
  · exact Rro_c (fun j _ _ => A_ne (by omega)) (fun j _ => us_row (by omega)) r23
  · exact Rro_c (fun j _ _ => A_ne (by omega)) (fun j _ => us_row (by omega)) r24
  · intro j hj
    rw [A_set]
    by_cases e : j = i
    · rw [if_pos (by omega), us_same rfl e]
    · rw [if_neg (by omega), us_col e]
      exact r25 j hj
theorem rr_13 (hW : WFs s) (h : RR (σ.1 643) s) {v : Nat} : RR ((setI σ 643 4 (nI v)).1 643) (us s 13 1 v) := by
  obtain ⟨sc, ma, r12, r14, r16, r18, r23, r24, r25, rd, st, bk⟩ := h
  refine ⟨?_, Rma_c (fun j _ _ => A_ne (by omega)) (fun c j _ => us_row (by omega)) hW.1 ma, ?_, ?_, ?_, ?_, ?_, ?_, ?_, Rrd_c (fun j _ _ => A_ne (by omega)) (fun j => us_row (by omega)) (fun j => us_row (by omega)) rd, Rst_c (fun j _ _ => A_ne (by omega)) (fun c j _ => us_row (by omega)) (us_row (by omega)) (us_row (by omega)) hW st, Rbk_c (fun j _ => A_ne (by omega)) (fun c j _ => us_row (by omega)) hW.1.2.2.2.1 bk⟩
  · obtain ⟨a0, a1, a2, a3, a4, a5, a6, a7, a8, a9, a10⟩ := sc
    refine ⟨?_, ?_, ?_, ?_, ?_, ?_, ?_, ?_, ?_, ?_, ?_⟩ <;> first | (rw [A_ne (by omega), us_row (by omega)]; assumption) | (rw [A_set, if_pos rfl, us_same rfl rfl])
  · exact Rro_c (fun j _ _ => A_ne (by omega)) (fun j _ => us_row (by omega)) r12
  · exact Rro_c (fun j _ _ => A_ne (by omega)) (fun j _ => us_row (by omega)) r14
  · exact Rro_c (fun j _ _ => A_ne (by omega)) (fun j _ => us_row (by omega)) r16
  · exact Rro_c (fun j _ _ => A_ne (by omega)) (fun j _ => us_row (by omega)) r18
  · exact Rro_c (fun j _ _ => A_ne (by omega)) (fun j _ => us_row (by omega)) r23
  · exact Rro_c (fun j _ _ => A_ne (by omega)) (fun j _ => us_row (by omega)) r24
  · exact Rro_c (fun j _ _ => A_ne (by omega)) (fun j _ => us_row (by omega)) r25
theorem rr_15 (hW : WFs s) (h : RR (σ.1 643) s) {v : Nat} : RR ((setI σ 643 5 (nI v)).1 643) (us s 15 1 v) := by
  obtain ⟨sc, ma, r12, r14, r16, r18, r23, r24, r25, rd, st, bk⟩ := h
  refine ⟨?_, Rma_c (fun j _ _ => A_ne (by omega)) (fun c j _ => us_row (by omega)) hW.1 ma, ?_, ?_, ?_, ?_, ?_, ?_, ?_, Rrd_c (fun j _ _ => A_ne (by omega)) (fun j => us_row (by omega)) (fun j => us_row (by omega)) rd, Rst_c (fun j _ _ => A_ne (by omega)) (fun c j _ => us_row (by omega)) (us_row (by omega)) (us_row (by omega)) hW st, Rbk_c (fun j _ => A_ne (by omega)) (fun c j _ => us_row (by omega)) hW.1.2.2.2.1 bk⟩
  · obtain ⟨a0, a1, a2, a3, a4, a5, a6, a7, a8, a9, a10⟩ := sc
    refine ⟨?_, ?_, ?_, ?_, ?_, ?_, ?_, ?_, ?_, ?_, ?_⟩ <;> first | (rw [A_ne (by omega), us_row (by omega)]; assumption) | (rw [A_set, if_pos rfl, us_same rfl rfl])
  · exact Rro_c (fun j _ _ => A_ne (by omega)) (fun j _ => us_row (by omega)) r12
  · exact Rro_c (fun j _ _ => A_ne (by omega)) (fun j _ => us_row (by omega)) r14
  · exact Rro_c (fun j _ _ => A_ne (by omega)) (fun j _ => us_row (by omega)) r16
  · exact Rro_c (fun j _ _ => A_ne (by omega)) (fun j _ => us_row (by omega)) r18
  · exact Rro_c (fun j _ _ => A_ne (by omega)) (fun j _ => us_row (by omega)) r23
  · exact Rro_c (fun j _ _ => A_ne (by omega)) (fun j _ => us_row (by omega)) r24
  · exact Rro_c (fun j _ _ => A_ne (by omega)) (fun j _ => us_row (by omega)) r25
theorem rr_17 (hW : WFs s) (h : RR (σ.1 643) s) {v : Nat} : RR ((setI σ 643 6 (nI v)).1 643) (us s 17 1 v) := by
  obtain ⟨sc, ma, r12, r14, r16, r18, r23, r24, r25, rd, st, bk⟩ := h
  refine ⟨?_, Rma_c (fun j _ _ => A_ne (by omega)) (fun c j _ => us_row (by omega)) hW.1 ma, ?_, ?_, ?_, ?_, ?_, ?_, ?_, Rrd_c (fun j _ _ => A_ne (by omega)) (fun j => us_row (by omega)) (fun j => us_row (by omega)) rd, Rst_c (fun j _ _ => A_ne (by omega)) (fun c j _ => us_row (by omega)) (us_row (by omega)) (us_row (by omega)) hW st, Rbk_c (fun j _ => A_ne (by omega)) (fun c j _ => us_row (by omega)) hW.1.2.2.2.1 bk⟩
  · obtain ⟨a0, a1, a2, a3, a4, a5, a6, a7, a8, a9, a10⟩ := sc
    refine ⟨?_, ?_, ?_, ?_, ?_, ?_, ?_, ?_, ?_, ?_, ?_⟩ <;> first | (rw [A_ne (by omega), us_row (by omega)]; assumption) | (rw [A_set, if_pos rfl, us_same rfl rfl])
  · exact Rro_c (fun j _ _ => A_ne (by omega)) (fun j _ => us_row (by omega)) r12
  · exact Rro_c (fun j _ _ => A_ne (by omega)) (fun j _ => us_row (by omega)) r14
  · exact Rro_c (fun j _ _ => A_ne (by omega)) (fun j _ => us_row (by omega)) r16
  · exact Rro_c (fun j _ _ => A_ne (by omega)) (fun j _ => us_row (by omega)) r18
  · exact Rro_c (fun j _ _ => A_ne (by omega)) (fun j _ => us_row (by omega)) r23
  · exact Rro_c (fun j _ _ => A_ne (by omega)) (fun j _ => us_row (by omega)) r24
  · exact Rro_c (fun j _ _ => A_ne (by omega)) (fun j _ => us_row (by omega)) r25
end CNG
