/-! single fields of a machine; crank, oil, lift, machine -/
def clr (f : Nat → Int32) (m : Nat) : Nat → Int32 := fun j => if 14 + 18 * m ≤ j ∧ j < 27 + 18 * m then nI 0 else f j
def trn (s : SS) (m v : Nat) : SS := us (us s 6 m ((s 6 m + v) % 10000)) 4 m (s 4 m + 1)
section CRK
variable {N : Mem} {σ τ : ST} {s s' w w' w1 w2 : SS} {f g A A' : Nat → Int32}
theorem Rbk_b {f f' : Nat → Int32} (hf : ∀ i, i < 60 → f' i = f i) (hw : ∀ i, w' 8 i = w 8 i) (h0 : w' 0 3 = w 0 3) (hl : w 0 3 ≤ 30) (h : Rbk f w) : Rbk f' w' := by
  intro i hi
  rw [h0] at hi
  rw [hf _ (by omega), hf _ (by omega), hw, hw, hw, hw]
  exact h i hi
theorem cur_us {k i v : Nat} : cur (us s (1 + k) i v) = us (cur s) k i v := by
  funext c j
  unfold cur us
  by_cases h : c = k ∧ j = i
  · rw [if_pos h, if_pos (by omega)]
  · rw [if_neg h, if_neg (by omega)]

theorem ww_3 (h : WFw w) {i v : Nat} (hv : v ≤ 99) : WFw (us w 3 i v) := by
  obtain ⟨a0, a1, a2, a3, a4, a5, a6, a7, a8, a9, a10, a11⟩ := h
  refine ⟨?_, ?_, ?_, ?_, ?_, ?_, ?_, ?_, ?_, ?_, ?_, ?_⟩
  · rw [us_row (by omega)]; exact a0
  · rw [us_row (by omega)]; exact a1
  · rw [us_row (by omega)]; exact a2
  · rw [us_row (by omega)]; exact a3
  · intro j; rw [us_row (by omega)]; exact a4 j
  · intro j; rw [us_row (by omega)]; exact a5 j
  · intro j; unfold us; split
    · exact hv
    · exact a6 j
  · intro j; rw [us_row (by omega)]; exact a7 j
  · intro j; rw [us_row (by omega)]; exact a8 j
  · intro j; rw [us_row (by omega)]; exact a9 j
  · intro j; rw [us_row (by omega)]; exact a10 j
  · intro j; rw [us_row (by omega), us_row (by omega), us_row (by omega), us_row (by omega)]; exact a11 j
theorem wf_4 (h : WFs s) {i v : Nat} (hv : v ≤ 99) : WFs (us s 4 i v) := by
  refine WFs_w h (fun c j hc => us_row (by omega)) ?_ (Nat.le_of_eq (us_row (by omega)).symm)
  have e : us s 4 i v = us s (1 + 3) i v := rfl
  rw [e, cur_us]
  exact ww_3 h.1 hv
theorem ww_4 (h : WFw w) {i v : Nat} (hv : v ≤ 9) : WFw (us w 4 i v) := by
  obtain ⟨a0, a1, a2, a3, a4, a5, a6, a7, a8, a9, a10, a11⟩ := h
  refine ⟨?_, ?_, ?_, ?_, ?_, ?_, ?_, ?_, ?_, ?_, ?_, ?_⟩
  · rw [us_row (by omega)]; exact a0
  · rw [us_row (by omega)]; exact a1
  · rw [us_row (by omega)]; exact a2
  · rw [us_row (by omega)]; exact a3
  · intro j; rw [us_row (by omega)]; exact a4 j
  · intro j; rw [us_row (by omega)]; exact a5 j
  · intro j; rw [us_row (by omega)]; exact a6 j
  · intro j; unfold us; split
    · exact hv
    · exact a7 j
  · intro j; rw [us_row (by omega)]; exact a8 j
  · intro j; rw [us_row (by omega)]; exact a9 j
  · intro j; rw [us_row (by omega)]; exact a10 j
  · intro j; rw [us_row (by omega), us_row (by omega), us_row (by omega), us_row (by omega)]; exact a11 j
theorem wf_5 (h : WFs s) {i v : Nat} (hv : v ≤ 9) : WFs (us s 5 i v) := by
  refine WFs_w h (fun c j hc => us_row (by omega)) ?_ (Nat.le_of_eq (us_row (by omega)).symm)
  have e : us s 5 i v = us s (1 + 4) i v := rfl
  rw [e, cur_us]
  exact ww_4 h.1 hv
theorem ww_5 (h : WFw w) {i v : Nat} (hv : v ≤ 9999) : WFw (us w 5 i v) := by
  obtain ⟨a0, a1, a2, a3, a4, a5, a6, a7, a8, a9, a10, a11⟩ := h
  refine ⟨?_, ?_, ?_, ?_, ?_, ?_, ?_, ?_, ?_, ?_, ?_, ?_⟩
  · rw [us_row (by omega)]; exact a0
  · rw [us_row (by omega)]; exact a1
  · rw [us_row (by omega)]; exact a2
  · rw [us_row (by omega)]; exact a3
  · intro j; rw [us_row (by omega)]; exact a4 j
  · intro j; rw [us_row (by omega)]; exact a5 j
  · intro j; rw [us_row (by omega)]; exact a6 j
  · intro j; rw [us_row (by omega)]; exact a7 j
  · intro j; unfold us; split
    · exact hv
    · exact a8 j
  · intro j; rw [us_row (by omega)]; exact a9 j
  · intro j; rw [us_row (by omega)]; exact a10 j
  · intro j; rw [us_row (by omega), us_row (by omega), us_row (by omega), us_row (by omega)]; exact a11 j
theorem wf_6 (h : WFs s) {i v : Nat} (hv : v ≤ 9999) : WFs (us s 6 i v) := by
  refine WFs_w h (fun c j hc => us_row (by omega)) ?_ (Nat.le_of_eq (us_row (by omega)).symm)
  have e : us s 6 i v = us s (1 + 5) i v := rfl
  rw [e, cur_us]
  exact ww_5 h.1 hv
theorem ww_6 (h : WFw w) {i v : Nat} (hv : v ≤ 12) : WFw (us w 6 i v) := by
  obtain ⟨a0, a1, a2, a3, a4, a5, a6, a7, a8, a9, a10, a11⟩ := h
  refine ⟨?_, ?_, ?_, ?_, ?_, ?_, ?_, ?_, ?_, ?_, ?_, ?_⟩
  · rw [us_row (by omega)]; exact a0
  · rw [us_row (by omega)]; exact a1
  · rw [us_row (by omega)]; exact a2
  · rw [us_row (by omega)]; exact a3
  · intro j; rw [us_row (by omega)]; exact a4 j
  · intro j; rw [us_row (by omega)]; exact a5 j
  · intro j; rw [us_row (by omega)]; exact a6 j
  · intro j; rw [us_row (by omega)]; exact a7 j
  · intro j; rw [us_row (by omega)]; exact a8 j
  · intro j; unfold us; split
    · exact hv
    · exact a9 j
  · intro j; rw [us_row (by omega)]; exact a10 j
  · intro j; rw [us_row (by omega), us_row (by omega), us_row (by omega), us_row (by omega)]; exact a11 j
theorem wf_7 (h : WFs s) {i v : Nat} (hv : v ≤ 12) : WFs (us s 7 i v) := by
  refine WFs_w h (fun c j hc => us_row (by omega)) ?_ (Nat.le_of_eq (us_row (by omega)).symm)
  have e : us s 7 i v = us s (1 + 6) i v := rfl
  rw [e, cur_us]
  exact ww_6 h.1 hv
theorem rma_0 (h : Rma A w) (hc : w 0 0 ≤ 5) (hl9 : ∀ m, w 6 m ≤ 12) {m v : Nat} (hm : m < w 0 0) : Rma (ua A (11 + 18 * m) (nI v)) (us w 3 m v) := by
  intro q hq
  rw [us_row (by omega)] at hq
  obtain ⟨⟨h0, h1, h2, h3, h4⟩, h5, h6⟩ := h q hq
  by_cases e : q = m
  · subst e
    refine ⟨⟨?_, ?_, ?_, ?_, fun i hi => ?_⟩, ?_, ?_⟩

    · dsimp only; rw [ua_same (by omega), us_same rfl rfl]
    · dsimp only; rw [ua_ne (by omega), us_row (by omega)]; exact h1
    · dsimp only; rw [ua_ne (by omega), us_row (by omega)]; exact h2
    · dsimp only; rw [ua_ne (by omega), us_row (by omega)]; exact h3
    · rw [us_row (by omega)] at hi; dsimp only; rw [ua_ne, us_row (by omega)]
      · exact h4 i hi
      · have hl := hl9 q; omega
    · rw [ua_ne (by omega), us_row (by omega)]; exact h5
    · rw [ua_ne (by omega), us_row (by omega)]; exact h6
  · refine ⟨⟨?_, ?_, ?_, ?_, fun i hi => ?_⟩, ?_, ?_⟩
    · dsimp only; rw [ua_ne (by omega), us_col e]; exact h0
    · dsimp only; rw [ua_ne (by omega), us_row (by omega)]; exact h1
    · dsimp only; rw [ua_ne (by omega), us_row (by omega)]; exact h2
    · dsimp only; rw [ua_ne (by omega), us_row (by omega)]; exact h3
    · rw [us_row (by omega)] at hi; dsimp only; rw [ua_ne, us_row (by omega)]
      · exact h4 i hi
      · have hl := hl9 q; omega
    · rw [ua_ne (by omega), us_row (by omega)]; exact h5
    · rw [ua_ne (by omega), us_row (by omega)]; exact h6
theorem rma_1 (h : Rma A w) (hc : w 0 0 ≤ 5) (hl9 : ∀ m, w 6 m ≤ 12) {m v : Nat} (hm : m < w 0 0) : Rma (ua A (11 + (18 * m + 1)) (nI v)) (us w 4 m v) := by
  intro q hq
  rw [us_row (by omega)] at hq
  obtain ⟨⟨h0, h1, h2, h3, h4⟩, h5, h6⟩ := h q hq
  by_cases e : q = m
  · subst e
    refine ⟨⟨?_, ?_, ?_, ?_, fun i hi => ?_⟩, ?_, ?_⟩

    · dsimp only; rw [ua_ne (by omega), us_row (by omega)]; exact h0
    · dsimp only; rw [ua_same (by omega), us_same rfl rfl]
    · dsimp only; rw [ua_ne (by omega), us_row (by omega)]; exact h2
    · dsimp only; rw [ua_ne (by omega), us_row (by omega)]; exact h3
    · rw [us_row (by omega)] at hi; dsimp only; rw [ua_ne, us_row (by omega)]
      · exact h4 i hi
      · have hl := hl9 q; omega
    · rw [ua_ne (by omega), us_row (by omega)]; exact h5
    · rw [ua_ne (by omega), us_row (by omega)]; exact h6
  · refine ⟨⟨?_, ?_, ?_, ?_, fun i hi => ?_⟩, ?_, ?_⟩
    · dsimp only; rw [ua_ne (by omega), us_row (by omega)]; exact h0
    · dsimp only; rw [ua_ne (by omega), us_col e]; exact h1
    · dsimp only; rw [ua_ne (by omega), us_row (by omega)]; exact h2
    · dsimp only; rw [ua_ne (by omega), us_row (by omega)]; exact h3
    · rw [us_row (by omega)] at hi; dsimp only; rw [ua_ne, us_row (by omega)]
      · exact h4 i hi
      · have hl := hl9 q; omega
    · rw [ua_ne (by omega), us_row (by omega)]; exact h5
    · rw [ua_ne (by omega), us_row (by omega)]; exact h6
theorem rma_2 (h : Rma A w) (hc : w 0 0 ≤ 5) (hl9 : ∀ m, w 6 m ≤ 12) {m v : Nat} (hm : m < w 0 0) : Rma (ua A (11 + (18 * m + 2)) (nI v)) (us w 5 m v) := by
  intro q hq
  rw [us_row (by omega)] at hq
  obtain ⟨⟨h0, h1, h2, h3, h4⟩, h5, h6⟩ := h q hq
  by_cases e : q = m
  · subst e
    refine ⟨⟨?_, ?_, ?_, ?_, fun i hi => ?_⟩, ?_, ?_⟩

    · dsimp only; rw [ua_ne (by omega), us_row (by omega)]; exact h0
    · dsimp only; rw [ua_ne (by omega), us_row (by omega)]; exact h1
    · dsimp only; rw [ua_same (by omega), us_same rfl rfl]
    · dsimp only; rw [ua_ne (by omega), us_row (by omega)]; exact h3
    · rw [us_row (by omega)] at hi; dsimp only; rw [ua_ne, us_row (by omega)]
      · exact h4 i hi
      · have hl := hl9 q; omega
    · rw [ua_ne (by omega), us_row (by omega)]; exact h5
    · rw [ua_ne (by omega), us_row (by omega)]; exact h6
  · refine ⟨⟨?_, ?_, ?_, ?_, fun i hi => ?_⟩, ?_, ?_⟩
    · dsimp only; rw [ua_ne (by omega), us_row (by omega)]; exact h0
    · dsimp only; rw [ua_ne (by omega), us_row (by omega)]; exact h1
    · dsimp only; rw [ua_ne (by omega), us_col e]; exact h2
    · dsimp only; rw [ua_ne (by omega), us_row (by omega)]; exact h3
    · rw [us_row (by omega)] at hi; dsimp only; rw [ua_ne, us_row (by omega)]
      · exact h4 i hi
      · have hl := hl9 q; omega
    · rw [ua_ne (by omega), us_row (by omega)]; exact h5
    · rw [ua_ne (by omega), us_row (by omega)]; exact h6
theorem WFw.l (h : WFw w) (m : Nat) : w 6 m ≤ 12 := by obtain ⟨_, _, _, _, _, _, _, _, _, h9, _⟩ := h; exact h9 m
theorem WFw.fld (h : WFw w) (m : Nat) : w 1 m ≤ 9 ∧ w 2 m ≤ 99 ∧ w 3 m ≤ 99 ∧ w 4 m ≤ 9 ∧ w 5 m ≤ 9999 ∧ w 6 m ≤ 12 := by obtain ⟨_, _, _, _, h4, h5, h6, h7, h8, h9, _⟩ := h; exact ⟨h4 m, h5 m, h6 m, h7 m, h8 m, h9 m⟩
theorem rr_f0 (hW : WFs s) (h : RR f s) {m v : Nat} (hm : m < s 1 0) : RR (ua f (11 + 18 * m) (nI v)) (us s 4 m v) := by
  have hc : s 1 0 ≤ 5 := hW.1.1
  obtain ⟨sc, ma, r12, r14, r16, r18, r23, r24, r25, rd, st, bk⟩ := id h
  obtain ⟨a0, a1, a2, a3, a4, a5, a6, a7, a8, a9, a10⟩ := sc
  have e : us s 4 m v = us s (1 + 3) m v := rfl
  refine RR_w hW h (fun i _ _ => ua_ne (by omega)) (fun i _ _ => ua_ne (by omega)) (fun c j hc => us_row (by omega)) ?_ ?_ ?_ ?_ ?_ ?_
  · rw [ua_ne (by omega), us_row (by omega)]; exact a0
  · rw [ua_ne (by omega), us_row (by omega)]; exact a8
  · rw [ua_ne (by omega), us_row (by omega)]; exact a9
  · rw [ua_ne (by omega), us_row (by omega)]; exact a10
  · rw [e, cur_us]; exact rma_0 ma hc hW.1.l hm
  · rw [e, cur_us]; exact Rbk_b (fun i _ => ua_ne (by omega)) (fun j => us_row (by omega)) (us_row (by omega)) hW.1.2.2.2.1 bk
theorem rr_f1 (hW : WFs s) (h : RR f s) {m v : Nat} (hm : m < s 1 0) : RR (ua f (11 + (18 * m + 1)) (nI v)) (us s 5 m v) := by
  have hc : s 1 0 ≤ 5 := hW.1.1
  obtain ⟨sc, ma, r12, r14, r16, r18, r23, r24, r25, rd, st, bk⟩ := id h
  obtain ⟨a0, a1, a2, a3, a4, a5, a6, a7, a8, a9, a10⟩ := sc
  have e : us s 5 m v = us s (1 + 4) m v := rfl
  refine RR_w hW h (fun i _ _ => ua_ne (by omega)) (fun i _ _ => ua_ne (by omega)) (fun c j hc => us_row (by omega)) ?_ ?_ ?_ ?_ ?_ ?_
  · rw [ua_ne (by omega), us_row (by omega)]; exact a0
  · rw [ua_ne (by omega), us_row (by omega)]; exact a8
  · rw [ua_ne (by omega), us_row (by omega)]; exact a9
  · rw [ua_ne (by omega), us_row (by omega)]; exact a10
  · rw [e, cur_us]; exact rma_1 ma hc hW.1.l hm
  · rw [e, cur_us]; exact Rbk_b (fun i _ => ua_ne (by omega)) (fun j => us_row (by omega)) (us_row (by omega)) hW.1.2.2.2.1 bk
theorem rr_f2 (hW : WFs s) (h : RR f s) {m v : Nat} (hm : m < s 1 0) : RR (ua f (11 + (18 * m + 2)) (nI v)) (us s 6 m v) := by
  have hc : s 1 0 ≤ 5 := hW.1.1
  obtain ⟨sc, ma, r12, r14, r16, r18, r23, r24, r25, rd, st, bk⟩ := id h
  obtain ⟨a0, a1, a2, a3, a4, a5, a6, a7, a8, a9, a10⟩ := sc
  have e : us s 6 m v = us s (1 + 5) m v := rfl
  refine RR_w hW h (fun i _ _ => ua_ne (by omega)) (fun i _ _ => ua_ne (by omega)) (fun c j hc => us_row (by omega)) ?_ ?_ ?_ ?_ ?_ ?_
  · rw [ua_ne (by omega), us_row (by omega)]; exact a0
  · rw [ua_ne (by omega), us_row (by omega)]; exact a8
  · rw [ua_ne (by omega), us_row (by omega)]; exact a9
  · rw [ua_ne (by omega), us_row (by omega)]; exact a10
  · rw [e, cur_us]; exact rma_2 ma hc hW.1.l hm
  · rw [e, cur_us]; exact Rbk_b (fun i _ => ua_ne (by omega)) (fun j => us_row (by omega)) (us_row (by omega)) hW.1.2.2.2.1 bk
theorem rma_clr (h : Rma A w) (hc : w 0 0 ≤ 5) (hl9 : ∀ m, w 6 m ≤ 12) {m : Nat} (hm : m < w 0 0) : Rma (clr A m) (us w 6 m 0) := by
  intro q hq
  rw [us_row (by omega)] at hq
  obtain ⟨⟨h0, h1, h2, h3, h4⟩, h5, h6⟩ := h q hq
  have hn : ∀ i, i < 14 + 18 * m ∨ 27 + 18 * m ≤ i → clr A m i = A i := fun i hi => if_neg (by omega)
  have hl := hl9 q
  by_cases e : q = m
  · subst e
    refine ⟨⟨?_, ?_, ?_, ?_, fun i hi => ?_⟩, ?_, ?_⟩
    · dsimp only; rw [hn _ (by omega), us_row (by omega)]; exact h0
    · dsimp only; rw [hn _ (by omega), us_row (by omega)]; exact h1
    · dsimp only; rw [hn _ (by omega), us_row (by omega)]; exact h2
    · rw [us_same rfl rfl]; exact if_pos (by omega)
    · rw [us_same rfl rfl] at hi; omega
    · rw [hn _ (by omega), us_row (by omega)]; exact h5
    · rw [hn _ (by omega), us_row (by omega)]; exact h6
  · refine ⟨⟨?_, ?_, ?_, ?_, fun i hi => ?_⟩, ?_, ?_⟩
    · dsimp only; rw [hn _ (by omega), us_row (by omega)]; exact h0
    · dsimp only; rw [hn _ (by omega), us_row (by omega)]; exact h1
    · dsimp only; rw [hn _ (by omega), us_row (by omega)]; exact h2
    · dsimp only; rw [hn _ (by omega), us_col e]; exact h3
    · rw [us_col e] at hi
      dsimp only; rw [hn _ (by omega), us_row (by omega)]; exact h4 i hi
    · rw [hn _ (by omega), us_row (by omega)]; exact h5
    · rw [hn _ (by omega), us_row (by omega)]; exact h6
theorem rr_clr (hW : WFs s) (h : RR f s) {m : Nat} (hm : m < s 1 0) : RR (clr f m) (us s 7 m 0) := by
  have hc : s 1 0 ≤ 5 := hW.1.1
  obtain ⟨sc, ma, r12, r14, r16, r18, r23, r24, r25, rd, st, bk⟩ := id h
  obtain ⟨a0, a1, a2, a3, a4, a5, a6, a7, a8, a9, a10⟩ := sc
  have e : us s 7 m 0 = us s (1 + 6) m 0 := rfl
  have hn : ∀ i, i < 14 + 18 * m ∨ 27 + 18 * m ≤ i → clr f m i = f i := fun i hi => if_neg (by omega)
  refine RR_w hW h (fun i _ _ => hn _ (by omega)) (fun i _ _ => hn _ (by omega)) (fun c j hc => us_row (by omega)) ?_ ?_ ?_ ?_ ?_ ?_
  · rw [hn _ (by omega), us_row (by omega)]; exact a0
  · rw [hn _ (by omega), us_row (by omega)]; exact a8
  · rw [hn _ (by omega), us_row (by omega)]; exact a9
  · rw [hn _ (by omega), us_row (by omega)]; exact a10
  · rw [e, cur_us]; exact rma_clr ma hc hW.1.l hm
  · rw [e, cur_us]; exact Rbk_b (fun i _ => hn _ (by omega)) (fun j => us_row (by omega)) (us_row (by omega)) hW.1.2.2.2.1 bk
theorem clear_ok {m : Nat} (hm : m < 5) : g_X11_clearRoll N 642 (nI m) (setR σ 643 f) = some (setR σ 643 (clr f m)) := by
  unfold g_X11_clearRoll g_X11_clearRoll_0
  rw [k_3]
  refine lp_fu (fun n i (g : Nat → Int32) => g_X11_clearRoll_2 N n 642 (nI m) (nI i) (setR σ 643 g)) (fun i g => g = fun j => if 14 + 18 * m ≤ j ∧ j < 11 + 18 * m + i then nI 0 else f j) (fun r => r = some (setR σ 643 (clr f m))) 3 16 f (by omega) (by omega) ?_ ?_ ?_
  · funext j
    rw [if_neg (by omega)]
  · intro n i g h3 hi hP
    refine Or.inr ⟨ua g (11 + (18 * m + i)) (nI 0), ?_, ?_⟩
    · subst hP
      funext j
      unfold ua
      split
      · rw [if_pos (by omega)]
      · split
        · exact if_pos (by omega)
        · exact if_neg (by omega)
    · simp only [g_X11_clearRoll_2, g_X11_lay, g_X11_lay_0]
      simp (disch := omega) only [k_0, k_1, k_2, k_3, k_4, k_5, k_6, k_7, k_8, k_9, k_10, k_11, k_12, k_13, k_14, k_15, k_16, k_17, k_18, k_19, k_20, k_21, k_22, k_23, k_24, k_25, k_26, k_27, k_28, k_29, k_30, k_31, k_32, k_33, k_34, k_35, k_36, k_37, k_38, k_39, k_40, k_41, k_42, k_43, k_44, k_45, k_46, k_47, k_48, k_49, k_50, k_51, k_52, k_53, k_54, k_55, k_56, k_57, k_58, k_59, k_60, k_61, k_62, k_63, k_64, k_65, k_66, k_67, k_68, k_69, k_70, k_71, k_72, k_73, k_74, k_75, k_76, k_77, k_78, k_79, k_80, k_81, k_82, k_83, k_84, k_85, k_86, k_87, k_88, k_89, k_90, k_91, k_92, k_93, k_94, k_95, k_96, k_97, k_98, k_99, k_100, k_101, k_102, k_103, k_104, k_105, k_106, k_107, k_108, k_109, k_110, k_111, k_112, k_113, k_114, k_115, k_116, k_117, k_118, k_119, k_120, k_121, k_122, k_123, k_124, k_125, k_126, k_127, k_128, k_129, k_130, k_133, k_144, k_145, k_153, k_193, k_203, k_211, k_227, k_255, k_256, k_280, k_300, k_313, k_371, k_433, k_705, k_997, k_999, k_1000, k_4176, k_4547, k_9999, k_10000, k_30557, k_99999, k_1000000, k_1000000000, nI_add, pk_mul, w_sub, w_rem, w_div, w_dv, w_rm, nI_leI, nI_ltI, nI_eq, w_em, w_me, w_lm, w_ml, w_lem, w_mle, Option.bind_some, Option.some.injEq, xI_n, yI_n, xL_n, yL_n, xP_n, xG_n, I_same, I_row, I_col, L_1, Q_1, R_same, R_row, if_pos, if_neg, ite_self, not_true, not_false, decide_true, decide_false, Nat.add_assoc, true_and, and_true, Nat.zero_add, Nat.add_zero, Nat.mul_zero, Nat.mul_one, Nat.one_mul, eq_self, decide_eq_true, decide_eq_false, Bool.true_eq_false, Bool.false_eq_true, ↓reduceIte, Nat.reduceAdd, Nat.reduceMul, Nat.reduceSub, Nat.reduceDiv, Nat.reduceMod, bb_t, bb_f, R_ua]
  · intro n g hP
    simp only [g_X11_clearRoll_2]
    simp (disch := omega) only [k_0, k_1, k_2, k_3, k_4, k_5, k_6, k_7, k_8, k_9, k_10, k_11, k_12, k_13, k_14, k_15, k_16, k_17, k_18, k_19, k_20, k_21, k_22, k_23, k_24, k_25, k_26, k_27, k_28, k_29, k_30, k_31, k_32, k_33, k_34, k_35, k_36, k_37, k_38, k_39, k_40, k_41, k_42, k_43, k_44, k_45, k_46, k_47, k_48, k_49, k_50, k_51, k_52, k_53, k_54, k_55, k_56, k_57, k_58, k_59, k_60, k_61, k_62, k_63, k_64, k_65, k_66, k_67, k_68, k_69, k_70, k_71, k_72, k_73, k_74, k_75, k_76, k_77, k_78, k_79, k_80, k_81, k_82, k_83, k_84, k_85, k_86, k_87, k_88, k_89, k_90, k_91, k_92, k_93, k_94, k_95, k_96, k_97, k_98, k_99, k_100, k_101, k_102, k_103, k_104, k_105, k_106, k_107, k_108, k_109, k_110, k_111, k_112, k_113, k_114, k_115, k_116, k_117, k_118, k_119, k_120, k_121, k_122, k_123, k_124, k_125, k_126, k_127, k_128, k_129, k_130, k_133, k_144, k_145, k_153, k_193, k_203, k_211, k_227, k_255, k_256, k_280, k_300, k_313, k_371, k_433, k_705, k_997, k_999, k_1000, k_4176, k_4547, k_9999, k_10000, k_30557, k_99999, k_1000000, k_1000000000, nI_add, pk_mul, w_sub, w_rem, w_div, w_dv, w_rm, nI_leI, nI_ltI, nI_eq, w_em, w_me, w_lm, w_ml, w_lem, w_mle, Option.bind_some, Option.some.injEq, xI_n, yI_n, xL_n, yL_n, xP_n, xG_n, I_same, I_row, I_col, L_1, Q_1, R_same, R_row, if_pos, if_neg, ite_self, not_true, not_false, decide_true, decide_false, Nat.add_assoc, true_and, and_true, Nat.zero_add, Nat.add_zero, Nat.mul_zero, Nat.mul_one, Nat.one_mul, eq_self, decide_eq_true, decide_eq_false, Bool.true_eq_false, Bool.false_eq_true, ↓reduceIte, Nat.reduceAdd, Nat.reduceMul, Nat.reduceSub, Nat.reduceDiv, Nat.reduceMod, bb_t, bb_f]
    subst hP
    congr 1
    funext j
    unfold clr
    have e : 11 + 18 * m + 16 = 27 + 18 * m := by omega
    rw [e]
theorem keepR (hW : WFs s) (hR : RR (σ.1 643) s) : ∃ g, g_X11_keep N 642 σ = some (setR σ 643 g) ∧ RR g (rem s) := by
  have h := keep_ok (N := N) (σ := σ) (f := σ.1 643) hW.2.2.2.1 (r_3 hR)
  rw [R_id] at h
  exact ⟨_, h, rr_keep hW hR⟩
theorem trn_c (hC : RC 1 σ s) (hW : WFs s) {m v : Nat} (hm : m < s 1 0) (hv : v ≤ 9999) : g_X9_turn N 2 (nI m) (nI v) σ = some (setI (setI σ 7 m (nI ((s 6 m + v) % 10000))) 5 m (nI (s 4 m + 1))) := by
  have hc : s 1 0 ≤ 5 := hW.1.1
  obtain ⟨-, -, t3, -, t5, -⟩ := hW.1.fld m
  have t5 : s 6 m ≤ 9999 := t5
  have t3 : s 4 m ≤ 99 := t3
  unfold g_X9_turn g_X9_turn_0
  simp (disch := omega) only [k_0, k_1, k_2, k_3, k_4, k_5, k_6, k_7, k_8, k_9, k_10, k_11, k_12, k_13, k_14, k_15, k_16, k_17, k_18, k_19, k_20, k_21, k_22, k_23, k_24, k_25, k_26, k_27, k_28, k_29, k_30, k_31, k_32, k_33, k_34, k_35, k_36, k_37, k_38, k_39, k_40, k_41, k_42, k_43, k_44, k_45, k_46, k_47, k_48, k_49, k_50, k_51, k_52, k_53, k_54, k_55, k_56, k_57, k_58, k_59, k_60, k_61, k_62, k_63, k_64, k_65, k_66, k_67, k_68, k_69, k_70, k_71, k_72, k_73, k_74, k_75, k_76, k_77, k_78, k_79, k_80, k_81, k_82, k_83, k_84, k_85, k_86, k_87, k_88, k_89, k_90, k_91, k_92, k_93, k_94, k_95, k_96, k_97, k_98, k_99, k_100, k_101, k_102, k_103, k_104, k_105, k_106, k_107, k_108, k_109, k_110, k_111, k_112, k_113, k_114, k_115, k_116, k_117, k_118, k_119, k_120, k_121, k_122, k_123, k_124, k_125, k_126, k_127, k_128, k_129, k_130, k_133, k_144, k_145, k_153, k_193, k_203, k_211, k_227, k_255, k_256, k_280, k_300, k_313, k_371, k_433, k_705, k_997, k_999, k_1000, k_4176, k_4547, k_9999, k_10000, k_30557, k_99999, k_1000000, k_1000000000, nI_add, pk_mul, w_sub, w_rem, w_div, w_dv, w_rm, nI_leI, nI_ltI, nI_eq, w_em, w_me, w_lm, w_ml, w_lem, w_mle, Option.bind_some, Option.some.injEq, xI_n, yI_n, xL_n, yL_n, xP_n, xG_n, I_same, I_row, I_col, L_1, Q_1, R_same, R_row, if_pos, if_neg, ite_self, not_true, not_false, decide_true, decide_false, Nat.add_assoc, true_and, and_true, Nat.zero_add, Nat.add_zero, Nat.mul_zero, Nat.mul_one, Nat.one_mul, eq_self, decide_eq_true, decide_eq_false, Bool.true_eq_false, Bool.false_eq_true, ↓reduceIte, Nat.reduceAdd, Nat.reduceMul, Nat.reduceSub, Nat.reduceDiv, Nat.reduceMod, bb_t, bb_f, c_6 hC, c_4 hC]
theorem trn_r (hW : WFs s) (hR : RR f s) {m v : Nat} (hm : m < s 1 0) (hv : v ≤ 9999) : g_X11_crankNow N 642 (nI m) (nI v) (setR σ 643 f) = some (setR σ 643 (ua (ua f (11 + (18 * m + 2)) (nI ((s 6 m + v) % 10000))) (11 + 18 * m) (nI (s 4 m + 1)))) := by
  have hc : s 1 0 ≤ 5 := hW.1.1
  obtain ⟨-, -, t3, -, t5, -⟩ := hW.1.fld m
  have t5 : s 6 m ≤ 9999 := t5
  have t3 : s 4 m ≤ 99 := t3
  have hq := q_m (σ := setR σ 643 f) (s := s) (by rw [R_1]; exact hR) hm
  rw [R_1] at hq
  obtain ⟨q0, q1, q2, q3, q4, q5, q6⟩ := hq
  unfold g_X11_crankNow g_X11_crankNow_0 g_X11_get g_X11_get_0 g_X11_lay g_X11_lay_0
  simp (disch := omega) only [k_0, k_1, k_2, k_3, k_4, k_5, k_6, k_7, k_8, k_9, k_10, k_11, k_12, k_13, k_14, k_15, k_16, k_17, k_18, k_19, k_20, k_21, k_22, k_23, k_24, k_25, k_26, k_27, k_28, k_29, k_30, k_31, k_32, k_33, k_34, k_35, k_36, k_37, k_38, k_39, k_40, k_41, k_42, k_43, k_44, k_45, k_46, k_47, k_48, k_49, k_50, k_51, k_52, k_53, k_54, k_55, k_56, k_57, k_58, k_59, k_60, k_61, k_62, k_63, k_64, k_65, k_66, k_67, k_68, k_69, k_70, k_71, k_72, k_73, k_74, k_75, k_76, k_77, k_78, k_79, k_80, k_81, k_82, k_83, k_84, k_85, k_86, k_87, k_88, k_89, k_90, k_91, k_92, k_93, k_94, k_95, k_96, k_97, k_98, k_99, k_100, k_101, k_102, k_103, k_104, k_105, k_106, k_107, k_108, k_109, k_110, k_111, k_112, k_113, k_114, k_115, k_116, k_117, k_118, k_119, k_120, k_121, k_122, k_123, k_124, k_125, k_126, k_127, k_128, k_129, k_130, k_133, k_144, k_145, k_153, k_193, k_203, k_211, k_227, k_255, k_256, k_280, k_300, k_313, k_371, k_433, k_705, k_997, k_999, k_1000, k_4176, k_4547, k_9999, k_10000, k_30557, k_99999, k_1000000, k_1000000000, nI_add, pk_mul, w_sub, w_rem, w_div, w_dv, w_rm, nI_leI, nI_ltI, nI_eq, w_em, w_me, w_lm, w_ml, w_lem, w_mle, Option.bind_some, Option.some.injEq, xI_n, yI_n, xL_n, yL_n, xP_n, xG_n, I_same, I_row, I_col, L_1, Q_1, R_same, R_row, if_pos, if_neg, ite_self, not_true, not_false, decide_true, decide_false, Nat.add_assoc, true_and, and_true, Nat.zero_add, Nat.add_zero, Nat.mul_zero, Nat.mul_one, Nat.one_mul, eq_self, decide_eq_true, decide_eq_false, Bool.true_eq_false, Bool.false_eq_true, ↓reduceIte, Nat.reduceAdd, Nat.reduceMul, Nat.reduceSub, Nat.reduceDiv, Nat.reduceMod, bb_t, bb_f, R_ua, q0, q2, ua_ne]
theorem wf_trn (hW : WFs s) {m v : Nat} (hw : s 4 m < 99) : WFs (trn s m v) := wf_4 (wf_6 hW (by omega)) (by omega)
theorem rr_trn (hW : WFs s) (hR : RR f s) {m v : Nat} (hm : m < s 1 0) : RR (ua (ua f (11 + (18 * m + 2)) (nI ((s 6 m + v) % 10000))) (11 + 18 * m) (nI (s 4 m + 1))) (trn s m v) := rr_f0 (wf_6 hW (by omega)) (rr_f2 hW hR hm) (by rw [us_row (by omega)]; exact hm)
theorem canT (hC : RC 1 σ s) (hW : WFs s) {m : Nat} (hm : m < s 1 0) : g_X9_canTurn N 2 (nI m) σ = some (decide (s 4 m < 99)) := by
  have hc : s 1 0 ≤ 5 := hW.1.1
  have t3 : s 4 m ≤ 99 := (hW.1.fld m).2.2.1
  have hT := hasT (N := N) (c_1_0 hC) hc hm
  unfold g_X9_canTurn g_X9_canTurn_0
  by_cases h : s 4 m < 99 <;> simp (disch := omega) only [k_0, k_1, k_2, k_3, k_4, k_5, k_6, k_7, k_8, k_9, k_10, k_11, k_12, k_13, k_14, k_15, k_16, k_17, k_18, k_19, k_20, k_21, k_22, k_23, k_24, k_25, k_26, k_27, k_28, k_29, k_30, k_31, k_32, k_33, k_34, k_35, k_36, k_37, k_38, k_39, k_40, k_41, k_42, k_43, k_44, k_45, k_46, k_47, k_48, k_49, k_50, k_51, k_52, k_53, k_54, k_55, k_56, k_57, k_58, k_59, k_60, k_61, k_62, k_63, k_64, k_65, k_66, k_67, k_68, k_69, k_70, k_71, k_72, k_73, k_74, k_75, k_76, k_77, k_78, k_79, k_80, k_81, k_82, k_83, k_84, k_85, k_86, k_87, k_88, k_89, k_90, k_91, k_92, k_93, k_94, k_95, k_96, k_97, k_98, k_99, k_100, k_101, k_102, k_103, k_104, k_105, k_106, k_107, k_108, k_109, k_110, k_111, k_112, k_113, k_114, k_115, k_116, k_117, k_118, k_119, k_120, k_121, k_122, k_123, k_124, k_125, k_126, k_127, k_128, k_129, k_130, k_133, k_144, k_145, k_153, k_193, k_203, k_211, k_227, k_255, k_256, k_280, k_300, k_313, k_371, k_433, k_705, k_997, k_999, k_1000, k_4176, k_4547, k_9999, k_10000, k_30557, k_99999, k_1000000, k_1000000000, nI_add, pk_mul, w_sub, w_rem, w_div, w_dv, w_rm, nI_leI, nI_ltI, nI_eq, w_em, w_me, w_lm, w_ml, w_lem, w_mle, Option.bind_some, Option.some.injEq, xI_n, yI_n, xL_n, yL_n, xP_n, xG_n, I_same, I_row, I_col, L_1, Q_1, R_same, R_row, if_pos, if_neg, ite_self, not_true, not_false, decide_true, decide_false, Nat.add_assoc, true_and, and_true, Nat.zero_add, Nat.add_zero, Nat.mul_zero, Nat.mul_one, Nat.one_mul, eq_self, decide_eq_true, decide_eq_false, Bool.true_eq_false, Bool.false_eq_true, ↓reduceIte, Nat.reduceAdd, Nat.reduceMul, Nat.reduceSub, Nat.reduceDiv, Nat.reduceMod, bb_t, bb_f, hT, c_4 hC]
theorem canR (hW : WFs s) (hR : RR (σ.1 643) s) {m : Nat} (hm : m < s 1 0) : g_X11_canCrank N 642 (nI m) σ = some (decide (s 4 m < 99)) := by
  have hc : s 1 0 ≤ 5 := hW.1.1
  have t3 : s 4 m ≤ 99 := (hW.1.fld m).2.2.1
  have hT := isMT (N := N) (r_0 hR) hc hm
  obtain ⟨q0, q1, q2, q3, q4, q5, q6⟩ := q_m hR hm
  unfold g_X11_canCrank g_X11_canCrank_0 g_X11_get g_X11_get_0
  by_cases h : s 4 m < 99 <;> simp (disch := omega) only [k_0, k_1, k_2, k_3, k_4, k_5, k_6, k_7, k_8, k_9, k_10, k_11, k_12, k_13, k_14, k_15, k_16, k_17, k_18, k_19, k_20, k_21, k_22, k_23, k_24, k_25, k_26, k_27, k_28, k_29, k_30, k_31, k_32, k_33, k_34, k_35, k_36, k_37, k_38, k_39, k_40, k_41, k_42, k_43, k_44, k_45, k_46, k_47, k_48, k_49, k_50, k_51, k_52, k_53, k_54, k_55, k_56, k_57, k_58, k_59, k_60, k_61, k_62, k_63, k_64, k_65, k_66, k_67, k_68, k_69, k_70, k_71, k_72, k_73, k_74, k_75, k_76, k_77, k_78, k_79, k_80, k_81, k_82, k_83, k_84, k_85, k_86, k_87, k_88, k_89, k_90, k_91, k_92, k_93, k_94, k_95, k_96, k_97, k_98, k_99, k_100, k_101, k_102, k_103, k_104, k_105, k_106, k_107, k_108, k_109, k_110, k_111, k_112, k_113, k_114, k_115, k_116, k_117, k_118, k_119, k_120, k_121, k_122, k_123, k_124, k_125, k_126, k_127, k_128, k_129, k_130, k_133, k_144, k_145, k_153, k_193, k_203, k_211, k_227, k_255, k_256, k_280, k_300, k_313, k_371, k_433, k_705, k_997, k_999, k_1000, k_4176, k_4547, k_9999, k_10000, k_30557, k_99999, k_1000000, k_1000000000, nI_add, pk_mul, w_sub, w_rem, w_div, w_dv, w_rm, nI_leI, nI_ltI, nI_eq, w_em, w_me, w_lm, w_ml, w_lem, w_mle, Option.bind_some, Option.some.injEq, xI_n, yI_n, xL_n, yL_n, xP_n, xG_n, I_same, I_row, I_col, L_1, Q_1, R_same, R_row, if_pos, if_neg, ite_self, not_true, not_false, decide_true, decide_false, Nat.add_assoc, true_and, and_true, Nat.zero_add, Nat.add_zero, Nat.mul_zero, Nat.mul_one, Nat.one_mul, eq_self, decide_eq_true, decide_eq_false, Bool.true_eq_false, Bool.false_eq_true, ↓reduceIte, Nat.reduceAdd, Nat.reduceMul, Nat.reduceSub, Nat.reduceDiv, Nat.reduceMod, bb_t, bb_f, hT, q0]
theorem crank_ok (hC : RC 1 σ s) (hW : WFs s) (hR : RR (σ.1 643) s) (x y : Int32) : OK1 σ s (g_X10_crank N 0 x y) (g_X11_crank N 642 x y) := by
  have hc : s 1 0 ≤ 5 := hW.1.1
  rcases has9 (N := N) (c_1_0 hC) hc x with ⟨h, hne⟩ | ⟨m, hm, rfl, hT⟩
  · have h1 : g_X9_canTurn N 2 x σ = some false := by
      unfold g_X9_canTurn g_X9_canTurn_0
      simp (disch := omega) only [k_0, k_1, k_2, k_3, k_4, k_5, k_6, k_7, k_8, k_9, k_10, k_11, k_12, k_13, k_14, k_15, k_16, k_17, k_18, k_19, k_20, k_21, k_22, k_23, k_24, k_25, k_26, k_27, k_28, k_29, k_30, k_31, k_32, k_33, k_34, k_35, k_36, k_37, k_38, k_39, k_40, k_41, k_42, k_43, k_44, k_45, k_46, k_47, k_48, k_49, k_50, k_51, k_52, k_53, k_54, k_55, k_56, k_57, k_58, k_59, k_60, k_61, k_62, k_63, k_64, k_65, k_66, k_67, k_68, k_69, k_70, k_71, k_72, k_73, k_74, k_75, k_76, k_77, k_78, k_79, k_80, k_81, k_82, k_83, k_84, k_85, k_86, k_87, k_88, k_89, k_90, k_91, k_92, k_93, k_94, k_95, k_96, k_97, k_98, k_99, k_100, k_101, k_102, k_103, k_104, k_105, k_106, k_107, k_108, k_109, k_110, k_111, k_112, k_113, k_114, k_115, k_116, k_117, k_118, k_119, k_120, k_121, k_122, k_123, k_124, k_125, k_126, k_127, k_128, k_129, k_130, k_133, k_144, k_145, k_153, k_193, k_203, k_211, k_227, k_255, k_256, k_280, k_300, k_313, k_371, k_433, k_705, k_997, k_999, k_1000, k_4176, k_4547, k_9999, k_10000, k_30557, k_99999, k_1000000, k_1000000000, nI_add, pk_mul, w_sub, w_rem, w_div, w_dv, w_rm, nI_leI, nI_ltI, nI_eq, w_em, w_me, w_lm, w_ml, w_lem, w_mle, Option.bind_some, Option.some.injEq, xI_n, yI_n, xL_n, yL_n, xP_n, xG_n, I_same, I_row, I_col, L_1, Q_1, R_same, R_row, if_pos, if_neg, ite_self, not_true, not_false, decide_true, decide_false, Nat.add_assoc, true_and, and_true, Nat.zero_add, Nat.add_zero, Nat.mul_zero, Nat.mul_one, Nat.one_mul, eq_self, decide_eq_true, decide_eq_false, Bool.true_eq_false, Bool.false_eq_true, ↓reduceIte, Nat.reduceAdd, Nat.reduceMul, Nat.reduceSub, Nat.reduceDiv, Nat.reduceMod, bb_t, bb_f, h]
    have h2 : g_X11_canCrank N 642 x σ = some false := by
      unfold g_X11_canCrank g_X11_canCrank_0
      simp (disch := omega) only [k_0, k_1, k_2, k_3, k_4, k_5, k_6, k_7, k_8, k_9, k_10, k_11, k_12, k_13, k_14, k_15, k_16, k_17, k_18, k_19, k_20, k_21, k_22, k_23, k_24, k_25, k_26, k_27, k_28, k_29, k_30, k_31, k_32, k_33, k_34, k_35, k_36, k_37, k_38, k_39, k_40, k_41, k_42, k_43, k_44, k_45, k_46, k_47, k_48, k_49, k_50, k_51, k_52, k_53, k_54, k_55, k_56, k_57, k_58, k_59, k_60, k_61, k_62, k_63, k_64, k_65, k_66, k_67, k_68, k_69, k_70, k_71, k_72, k_73, k_74, k_75, k_76, k_77, k_78, k_79, k_80, k_81, k_82, k_83, k_84, k_85, k_86, k_87, k_88, k_89, k_90, k_91, k_92, k_93, k_94, k_95, k_96, k_97, k_98, k_99, k_100, k_101, k_102, k_103, k_104, k_105, k_106, k_107, k_108, k_109, k_110, k_111, k_112, k_113, k_114, k_115, k_116, k_117, k_118, k_119, k_120, k_121, k_122, k_123, k_124, k_125, k_126, k_127, k_128, k_129, k_130, k_133, k_144, k_145, k_153, k_193, k_203, k_211, k_227, k_255, k_256, k_280, k_300, k_313, k_371, k_433, k_705, k_997, k_999, k_1000, k_4176, k_4547, k_9999, k_10000, k_30557, k_99999, k_1000000, k_1000000000, nI_add, pk_mul, w_sub, w_rem, w_div, w_dv, w_rm, nI_leI, nI_ltI, nI_eq, w_em, w_me, w_lm, w_ml, w_lem, w_mle, Option.bind_some, Option.some.injEq, xI_n, yI_n, xL_n, yL_n, xP_n, xG_n, I_same, I_row, I_col, L_1, Q_1, R_same, R_row, if_pos, if_neg, ite_self, not_true, not_false, decide_true, decide_false, Nat.add_assoc, true_and, and_true, Nat.zero_add, Nat.add_zero, Nat.mul_zero, Nat.mul_one, Nat.one_mul, eq_self, decide_eq_true, decide_eq_false, Bool.true_eq_false, Bool.false_eq_true, ↓reduceIte, Nat.reduceAdd, Nat.reduceMul, Nat.reduceSub, Nat.reduceDiv, Nat.reduceMod, bb_t, bb_f, isMF (N := N) (r_0 hR) hc hne]
    refine same0 (r := -1) hC hW hR ?_ ?_
    · unfold g_X10_crank g_X10_crank_0
      by_cases hy : nI 0 ≤ y ∧ y ≤ nI 9999
      · simp (disch := omega) only [k_0, k_1, k_2, k_3, k_4, k_5, k_6, k_7, k_8, k_9, k_10, k_11, k_12, k_13, k_14, k_15, k_16, k_17, k_18, k_19, k_20, k_21, k_22, k_23, k_24, k_25, k_26, k_27, k_28, k_29, k_30, k_31, k_32, k_33, k_34, k_35, k_36, k_37, k_38, k_39, k_40, k_41, k_42, k_43, k_44, k_45, k_46, k_47, k_48, k_49, k_50, k_51, k_52, k_53, k_54, k_55, k_56, k_57, k_58, k_59, k_60, k_61, k_62, k_63, k_64, k_65, k_66, k_67, k_68, k_69, k_70, k_71, k_72, k_73, k_74, k_75, k_76, k_77, k_78, k_79, k_80, k_81, k_82, k_83, k_84, k_85, k_86, k_87, k_88, k_89, k_90, k_91, k_92, k_93, k_94, k_95, k_96, k_97, k_98, k_99, k_100, k_101, k_102, k_103, k_104, k_105, k_106, k_107, k_108, k_109, k_110, k_111, k_112, k_113, k_114, k_115, k_116, k_117, k_118, k_119, k_120, k_121, k_122, k_123, k_124, k_125, k_126, k_127, k_128, k_129, k_130, k_133, k_144, k_145, k_153, k_193, k_203, k_211, k_227, k_255, k_256, k_280, k_300, k_313, k_371, k_433, k_705, k_997, k_999, k_1000, k_4176, k_4547, k_9999, k_10000, k_30557, k_99999, k_1000000, k_1000000000, nI_add, pk_mul, w_sub, w_rem, w_div, w_dv, w_rm, nI_leI, nI_ltI, nI_eq, w_em, w_me, w_lm, w_ml, w_lem, w_mle, Option.bind_some, Option.some.injEq, xI_n, yI_n, xL_n, yL_n, xP_n, xG_n, I_same, I_row, I_col, L_1, Q_1, R_same, R_row, if_pos, if_neg, ite_self, not_true, not_false, decide_true, decide_false, Nat.add_assoc, true_and, and_true, Nat.zero_add, Nat.add_zero, Nat.mul_zero, Nat.mul_one, Nat.one_mul, eq_self, decide_eq_true, decide_eq_false, Bool.true_eq_false, Bool.false_eq_true, ↓reduceIte, Nat.reduceAdd, Nat.reduceMul, Nat.reduceSub, Nat.reduceDiv, Nat.reduceMod, bb_t, bb_f, h1, wi10, hy]
      · simp (disch := omega) only [k_0, k_1, k_2, k_3, k_4, k_5, k_6, k_7, k_8, k_9, k_10, k_11, k_12, k_13, k_14, k_15, k_16, k_17, k_18, k_19, k_20, k_21, k_22, k_23, k_24, k_25, k_26, k_27, k_28, k_29, k_30, k_31, k_32, k_33, k_34, k_35, k_36, k_37, k_38, k_39, k_40, k_41, k_42, k_43, k_44, k_45, k_46, k_47, k_48, k_49, k_50, k_51, k_52, k_53, k_54, k_55, k_56, k_57, k_58, k_59, k_60, k_61, k_62, k_63, k_64, k_65, k_66, k_67, k_68, k_69, k_70, k_71, k_72, k_73, k_74, k_75, k_76, k_77, k_78, k_79, k_80, k_81, k_82, k_83, k_84, k_85, k_86, k_87, k_88, k_89, k_90, k_91, k_92, k_93, k_94, k_95, k_96, k_97, k_98, k_99, k_100, k_101, k_102, k_103, k_104, k_105, k_106, k_107, k_108, k_109, k_110, k_111, k_112, k_113, k_114, k_115, k_116, k_117, k_118, k_119, k_120, k_121, k_122, k_123, k_124, k_125, k_126, k_127, k_128, k_129, k_130, k_133, k_144, k_145, k_153, k_193, k_203, k_211, k_227, k_255, k_256, k_280, k_300, k_313, k_371, k_433, k_705, k_997, k_999, k_1000, k_4176, k_4547, k_9999, k_10000, k_30557, k_99999, k_1000000, k_1000000000, nI_add, pk_mul, w_sub, w_rem, w_div, w_dv, w_rm, nI_leI, nI_ltI, nI_eq, w_em, w_me, w_lm, w_ml, w_lem, w_mle, Option.bind_some, Option.some.injEq, xI_n, yI_n, xL_n, yL_n, xP_n, xG_n, I_same, I_row, I_col, L_1, Q_1, R_same, R_row, if_pos, if_neg, ite_self, not_true, not_false, decide_true, decide_false, Nat.add_assoc, true_and, and_true, Nat.zero_add, Nat.add_zero, Nat.mul_zero, Nat.mul_one, Nat.one_mul, eq_self, decide_eq_true, decide_eq_false, Bool.true_eq_false, Bool.false_eq_true, ↓reduceIte, Nat.reduceAdd, Nat.reduceMul, Nat.reduceSub, Nat.reduceDiv, Nat.reduceMod, bb_t, bb_f, h1, wi10, in_f hy]
    · unfold g_X11_crank g_X11_crank_0
      simp (disch := omega) only [k_0, k_1, k_2, k_3, k_4, k_5, k_6, k_7, k_8, k_9, k_10, k_11, k_12, k_13, k_14, k_15, k_16, k_17, k_18, k_19, k_20, k_21, k_22, k_23, k_24, k_25, k_26, k_27, k_28, k_29, k_30, k_31, k_32, k_33, k_34, k_35, k_36, k_37, k_38, k_39, k_40, k_41, k_42, k_43, k_44, k_45, k_46, k_47, k_48, k_49, k_50, k_51, k_52, k_53, k_54, k_55, k_56, k_57, k_58, k_59, k_60, k_61, k_62, k_63, k_64, k_65, k_66, k_67, k_68, k_69, k_70, k_71, k_72, k_73, k_74, k_75, k_76, k_77, k_78, k_79, k_80, k_81, k_82, k_83, k_84, k_85, k_86, k_87, k_88, k_89, k_90, k_91, k_92, k_93, k_94, k_95, k_96, k_97, k_98, k_99, k_100, k_101, k_102, k_103, k_104, k_105, k_106, k_107, k_108, k_109, k_110, k_111, k_112, k_113, k_114, k_115, k_116, k_117, k_118, k_119, k_120, k_121, k_122, k_123, k_124, k_125, k_126, k_127, k_128, k_129, k_130, k_133, k_144, k_145, k_153, k_193, k_203, k_211, k_227, k_255, k_256, k_280, k_300, k_313, k_371, k_433, k_705, k_997, k_999, k_1000, k_4176, k_4547, k_9999, k_10000, k_30557, k_99999, k_1000000, k_1000000000, nI_add, pk_mul, w_sub, w_rem, w_div, w_dv, w_rm, nI_leI, nI_ltI, nI_eq, w_em, w_me, w_lm, w_ml, w_lem, w_mle, Option.bind_some, Option.some.injEq, xI_n, yI_n, xL_n, yL_n, xP_n, xG_n, I_same, I_row, I_col, L_1, Q_1, R_same, R_row, if_pos, if_neg, ite_self, not_true, not_false, decide_true, decide_false, Nat.add_assoc, true_and, and_true, Nat.zero_add, Nat.add_zero, Nat.mul_zero, Nat.mul_one, Nat.one_mul, eq_self, decide_eq_true, decide_eq_false, Bool.true_eq_false, Bool.false_eq_true, ↓reduceIte, Nat.reduceAdd, Nat.reduceMul, Nat.reduceSub, Nat.reduceDiv, Nat.reduceMod, bb_t, bb_f, h2]
  rcases argn y (n := 9999) (by omega) with h | ⟨v, hv, rfl⟩
  · refine same0 (r := -1) hC hW hR ?_ ?_
    · unfold g_X10_crank g_X10_crank_0
      simp (disch := omega) only [k_0, k_1, k_2, k_3, k_4, k_5, k_6, k_7, k_8, k_9, k_10, k_11, k_12, k_13, k_14, k_15, k_16, k_17, k_18, k_19, k_20, k_21, k_22, k_23, k_24, k_25, k_26, k_27, k_28, k_29, k_30, k_31, k_32, k_33, k_34, k_35, k_36, k_37, k_38, k_39, k_40, k_41, k_42, k_43, k_44, k_45, k_46, k_47, k_48, k_49, k_50, k_51, k_52, k_53, k_54, k_55, k_56, k_57, k_58, k_59, k_60, k_61, k_62, k_63, k_64, k_65, k_66, k_67, k_68, k_69, k_70, k_71, k_72, k_73, k_74, k_75, k_76, k_77, k_78, k_79, k_80, k_81, k_82, k_83, k_84, k_85, k_86, k_87, k_88, k_89, k_90, k_91, k_92, k_93, k_94, k_95, k_96, k_97, k_98, k_99, k_100, k_101, k_102, k_103, k_104, k_105, k_106, k_107, k_108, k_109, k_110, k_111, k_112, k_113, k_114, k_115, k_116, k_117, k_118, k_119, k_120, k_121, k_122, k_123, k_124, k_125, k_126, k_127, k_128, k_129, k_130, k_133, k_144, k_145, k_153, k_193, k_203, k_211, k_227, k_255, k_256, k_280, k_300, k_313, k_371, k_433, k_705, k_997, k_999, k_1000, k_4176, k_4547, k_9999, k_10000, k_30557, k_99999, k_1000000, k_1000000000, nI_add, pk_mul, w_sub, w_rem, w_div, w_dv, w_rm, nI_leI, nI_ltI, nI_eq, w_em, w_me, w_lm, w_ml, w_lem, w_mle, Option.bind_some, Option.some.injEq, xI_n, yI_n, xL_n, yL_n, xP_n, xG_n, I_same, I_row, I_col, L_1, Q_1, R_same, R_row, if_pos, if_neg, ite_self, not_true, not_false, decide_true, decide_false, Nat.add_assoc, true_and, and_true, Nat.zero_add, Nat.add_zero, Nat.mul_zero, Nat.mul_one, Nat.one_mul, eq_self, decide_eq_true, decide_eq_false, Bool.true_eq_false, Bool.false_eq_true, ↓reduceIte, Nat.reduceAdd, Nat.reduceMul, Nat.reduceSub, Nat.reduceDiv, Nat.reduceMod, bb_t, bb_f, wi10, in_f h]
    · unfold g_X11_crank g_X11_crank_0
      by_cases hw : s 4 m < 99
      · simp (disch := omega) only [k_0, k_1, k_2, k_3, k_4, k_5, k_6, k_7, k_8, k_9, k_10, k_11, k_12, k_13, k_14, k_15, k_16, k_17, k_18, k_19, k_20, k_21, k_22, k_23, k_24, k_25, k_26, k_27, k_28, k_29, k_30, k_31, k_32, k_33, k_34, k_35, k_36, k_37, k_38, k_39, k_40, k_41, k_42, k_43, k_44, k_45, k_46, k_47, k_48, k_49, k_50, k_51, k_52, k_53, k_54, k_55, k_56, k_57, k_58, k_59, k_60, k_61, k_62, k_63, k_64, k_65, k_66, k_67, k_68, k_69, k_70, k_71, k_72, k_73, k_74, k_75, k_76, k_77, k_78, k_79, k_80, k_81, k_82, k_83, k_84, k_85, k_86, k_87, k_88, k_89, k_90, k_91, k_92, k_93, k_94, k_95, k_96, k_97, k_98, k_99, k_100, k_101, k_102, k_103, k_104, k_105, k_106, k_107, k_108, k_109, k_110, k_111, k_112, k_113, k_114, k_115, k_116, k_117, k_118, k_119, k_120, k_121, k_122, k_123, k_124, k_125, k_126, k_127, k_128, k_129, k_130, k_133, k_144, k_145, k_153, k_193, k_203, k_211, k_227, k_255, k_256, k_280, k_300, k_313, k_371, k_433, k_705, k_997, k_999, k_1000, k_4176, k_4547, k_9999, k_10000, k_30557, k_99999, k_1000000, k_1000000000, nI_add, pk_mul, w_sub, w_rem, w_div, w_dv, w_rm, nI_leI, nI_ltI, nI_eq, w_em, w_me, w_lm, w_ml, w_lem, w_mle, Option.bind_some, Option.some.injEq, xI_n, yI_n, xL_n, yL_n, xP_n, xG_n, I_same, I_row, I_col, L_1, Q_1, R_same, R_row, if_pos, if_neg, ite_self, not_true, not_false, decide_true, decide_false, Nat.add_assoc, true_and, and_true, Nat.zero_add, Nat.add_zero, Nat.mul_zero, Nat.mul_one, Nat.one_mul, eq_self, decide_eq_true, decide_eq_false, Bool.true_eq_false, Bool.false_eq_true, ↓reduceIte, Nat.reduceAdd, Nat.reduceMul, Nat.reduceSub, Nat.reduceDiv, Nat.reduceMod, bb_t, bb_f, canR (N := N) hW hR hm, num11, in_f h]
      · simp (disch := omega) only [k_0, k_1, k_2, k_3, k_4, k_5, k_6, k_7, k_8, k_9, k_10, k_11, k_12, k_13, k_14, k_15, k_16, k_17, k_18, k_19, k_20, k_21, k_22, k_23, k_24, k_25, k_26, k_27, k_28, k_29, k_30, k_31, k_32, k_33, k_34, k_35, k_36, k_37, k_38, k_39, k_40, k_41, k_42, k_43, k_44, k_45, k_46, k_47, k_48, k_49, k_50, k_51, k_52, k_53, k_54, k_55, k_56, k_57, k_58, k_59, k_60, k_61, k_62, k_63, k_64, k_65, k_66, k_67, k_68, k_69, k_70, k_71, k_72, k_73, k_74, k_75, k_76, k_77, k_78, k_79, k_80, k_81, k_82, k_83, k_84, k_85, k_86, k_87, k_88, k_89, k_90, k_91, k_92, k_93, k_94, k_95, k_96, k_97, k_98, k_99, k_100, k_101, k_102, k_103, k_104, k_105, k_106, k_107, k_108, k_109, k_110, k_111, k_112, k_113, k_114, k_115, k_116, k_117, k_118, k_119, k_120, k_121, k_122, k_123, k_124, k_125, k_126, k_127, k_128, k_129, k_130, k_133, k_144, k_145, k_153, k_193, k_203, k_211, k_227, k_255, k_256, k_280, k_300, k_313, k_371, k_433, k_705, k_997, k_999, k_1000, k_4176, k_4547, k_9999, k_10000, k_30557, k_99999, k_1000000, k_1000000000, nI_add, pk_mul, w_sub, w_rem, w_div, w_dv, w_rm, nI_leI, nI_ltI, nI_eq, w_em, w_me, w_lm, w_ml, w_lem, w_mle, Option.bind_some, Option.some.injEq, xI_n, yI_n, xL_n, yL_n, xP_n, xG_n, I_same, I_row, I_col, L_1, Q_1, R_same, R_row, if_pos, if_neg, ite_self, not_true, not_false, decide_true, decide_false, Nat.add_assoc, true_and, and_true, Nat.zero_add, Nat.add_zero, Nat.mul_zero, Nat.mul_one, Nat.one_mul, eq_self, decide_eq_true, decide_eq_false, Bool.true_eq_false, Bool.false_eq_true, ↓reduceIte, Nat.reduceAdd, Nat.reduceMul, Nat.reduceSub, Nat.reduceDiv, Nat.reduceMod, bb_t, bb_f, canR (N := N) hW hR hm, num11, in_f h]
  by_cases hw : s 4 m < 99
  · obtain ⟨τ, e1, C1, F1⟩ := rem_c (N := N) hC hW
    have W1 := wf_rem hW
    have r0 : rem s 1 0 = s 1 0 := rem_o (by omega) (by omega)
    have r4 : rem s 4 m = s 4 m := rem_o (by omega) (by omega)
    have m1 : m < rem s 1 0 := by rw [r0]; exact hm
    have e2 := trn_c (N := N) C1 W1 m1 hv
    have F2 : FC σ (setI (setI τ 7 m (nI ((rem s 6 m + v) % 10000))) 5 m (nI (rem s 4 m + 1))) := (F1.set (by omega)).set (by omega)
    have C2 : RC 1 (setI (setI τ 7 m (nI ((rem s 6 m + v) % 10000))) 5 m (nI (rem s 4 m + 1))) (trn (rem s) m v) := (C1.set (k := 6) (by omega) (by omega)).set (k := 4) (by omega) (by omega)
    obtain ⟨g, e3, R1⟩ := keepR (N := N) hW (hR.fc F2)
    have e4 := trn_r (N := N) (σ := setI (setI τ 7 m (nI ((rem s 6 m + v) % 10000))) 5 m (nI (rem s 4 m + 1))) W1 R1 m1 hv
    refine ⟨nI ((rem s 6 m + v) % 10000), trn (rem s) m v, _, setR (setI (setI τ 7 m (nI ((rem s 6 m + v) % 10000))) 5 m (nI (rem s 4 m + 1))) 643 (ua (ua g (11 + (18 * m + 2)) (nI ((rem s 6 m + v) % 10000))) (11 + 18 * m) (nI (rem s 4 m + 1))), ?_, ?_, C2, F2, wf_trn W1 (by omega), ?_, FR.rfl.row (by omega), ?_⟩
    · unfold g_X10_crank g_X10_crank_0
      simp (disch := omega) only [k_0, k_1, k_2, k_3, k_4, k_5, k_6, k_7, k_8, k_9, k_10, k_11, k_12, k_13, k_14, k_15, k_16, k_17, k_18, k_19, k_20, k_21, k_22, k_23, k_24, k_25, k_26, k_27, k_28, k_29, k_30, k_31, k_32, k_33, k_34, k_35, k_36, k_37, k_38, k_39, k_40, k_41, k_42, k_43, k_44, k_45, k_46, k_47, k_48, k_49, k_50, k_51, k_52, k_53, k_54, k_55, k_56, k_57, k_58, k_59, k_60, k_61, k_62, k_63, k_64, k_65, k_66, k_67, k_68, k_69, k_70, k_71, k_72, k_73, k_74, k_75, k_76, k_77, k_78, k_79, k_80, k_81, k_82, k_83, k_84, k_85, k_86, k_87, k_88, k_89, k_90, k_91, k_92, k_93, k_94, k_95, k_96, k_97, k_98, k_99, k_100, k_101, k_102, k_103, k_104, k_105, k_106, k_107, k_108, k_109, k_110, k_111, k_112, k_113, k_114, k_115, k_116, k_117, k_118, k_119, k_120, k_121, k_122, k_123, k_124, k_125, k_126, k_127, k_128, k_129, k_130, k_133, k_144, k_145, k_153, k_193, k_203, k_211, k_227, k_255, k_256, k_280, k_300, k_313, k_371, k_433, k_705, k_997, k_999, k_1000, k_4176, k_4547, k_9999, k_10000, k_30557, k_99999, k_1000000, k_1000000000, nI_add, pk_mul, w_sub, w_rem, w_div, w_dv, w_rm, nI_leI, nI_ltI, nI_eq, w_em, w_me, w_lm, w_ml, w_lem, w_mle, Option.bind_some, Option.some.injEq, xI_n, yI_n, xL_n, yL_n, xP_n, xG_n, I_same, I_row, I_col, L_1, Q_1, R_same, R_row, if_pos, if_neg, ite_self, not_true, not_false, decide_true, decide_false, Nat.add_assoc, true_and, and_true, Nat.zero_add, Nat.add_zero, Nat.mul_zero, Nat.mul_one, Nat.one_mul, eq_self, decide_eq_true, decide_eq_false, Bool.true_eq_false, Bool.false_eq_true, ↓reduceIte, Nat.reduceAdd, Nat.reduceMul, Nat.reduceSub, Nat.reduceDiv, Nat.reduceMod, bb_t, bb_f, wi10, canT (N := N) hC hW hm, e1, e2]
    · unfold g_X11_crank g_X11_crank_0 g_X11_get g_X11_get_0
      simp (disch := omega) only [k_0, k_1, k_2, k_3, k_4, k_5, k_6, k_7, k_8, k_9, k_10, k_11, k_12, k_13, k_14, k_15, k_16, k_17, k_18, k_19, k_20, k_21, k_22, k_23, k_24, k_25, k_26, k_27, k_28, k_29, k_30, k_31, k_32, k_33, k_34, k_35, k_36, k_37, k_38, k_39, k_40, k_41, k_42, k_43, k_44, k_45, k_46, k_47, k_48, k_49, k_50, k_51, k_52, k_53, k_54, k_55, k_56, k_57, k_58, k_59, k_60, k_61, k_62, k_63, k_64, k_65, k_66, k_67, k_68, k_69, k_70, k_71, k_72, k_73, k_74, k_75, k_76, k_77, k_78, k_79, k_80, k_81, k_82, k_83, k_84, k_85, k_86, k_87, k_88, k_89, k_90, k_91, k_92, k_93, k_94, k_95, k_96, k_97, k_98, k_99, k_100, k_101, k_102, k_103, k_104, k_105, k_106, k_107, k_108, k_109, k_110, k_111, k_112, k_113, k_114, k_115, k_116, k_117, k_118, k_119, k_120, k_121, k_122, k_123, k_124, k_125, k_126, k_127, k_128, k_129, k_130, k_133, k_144, k_145, k_153, k_193, k_203, k_211, k_227, k_255, k_256, k_280, k_300, k_313, k_371, k_433, k_705, k_997, k_999, k_1000, k_4176, k_4547, k_9999, k_10000, k_30557, k_99999, k_1000000, k_1000000000, nI_add, pk_mul, w_sub, w_rem, w_div, w_dv, w_rm, nI_leI, nI_ltI, nI_eq, w_em, w_me, w_lm, w_ml, w_lem, w_mle, Option.bind_some, Option.some.injEq, xI_n, yI_n, xL_n, yL_n, xP_n, xG_n, I_same, I_row, I_col, L_1, Q_1, R_same, R_row, if_pos, if_neg, ite_self, not_true, not_false, decide_true, decide_false, Nat.add_assoc, true_and, and_true, Nat.zero_add, Nat.add_zero, Nat.mul_zero, Nat.mul_one, Nat.one_mul, eq_self, decide_eq_true, decide_eq_false, Bool.true_eq_false, Bool.false_eq_true, ↓reduceIte, Nat.reduceAdd, Nat.reduceMul, Nat.reduceSub, Nat.reduceDiv, Nat.reduceMod, bb_t, bb_f, num11, canR (N := N) hW (hR.fc F2) hm, e3, e4, ua_ne, ua_same]
    · rw [R_1]
      exact rr_trn W1 R1 m1
    · unfold trn
      rw [us_row (by omega), us_row (by omega), rem_o (by omega) (by omega)]
  · refine same0 (r := -1) hC hW hR ?_ ?_
    · unfold g_X10_crank g_X10_crank_0
      simp (disch := omega) only [k_0, k_1, k_2, k_3, k_4, k_5, k_6, k_7, k_8, k_9, k_10, k_11, k_12, k_13, k_14, k_15, k_16, k_17, k_18, k_19, k_20, k_21, k_22, k_23, k_24, k_25, k_26, k_27, k_28, k_29, k_30, k_31, k_32, k_33, k_34, k_35, k_36, k_37, k_38, k_39, k_40, k_41, k_42, k_43, k_44, k_45, k_46, k_47, k_48, k_49, k_50, k_51, k_52, k_53, k_54, k_55, k_56, k_57, k_58, k_59, k_60, k_61, k_62, k_63, k_64, k_65, k_66, k_67, k_68, k_69, k_70, k_71, k_72, k_73, k_74, k_75, k_76, k_77, k_78, k_79, k_80, k_81, k_82, k_83, k_84, k_85, k_86, k_87, k_88, k_89, k_90, k_91, k_92, k_93, k_94, k_95, k_96, k_97, k_98, k_99, k_100, k_101, k_102, k_103, k_104, k_105, k_106, k_107, k_108, k_109, k_110, k_111, k_112, k_113, k_114, k_115, k_116, k_117, k_118, k_119, k_120, k_121, k_122, k_123, k_124, k_125, k_126, k_127, k_128, k_129, k_130, k_133, k_144, k_145, k_153, k_193, k_203, k_211, k_227, k_255, k_256, k_280, k_300, k_313, k_371, k_433, k_705, k_997, k_999, k_1000, k_4176, k_4547, k_9999, k_10000, k_30557, k_99999, k_1000000, k_1000000000, nI_add, pk_mul, w_sub, w_rem, w_div, w_dv, w_rm, nI_leI, nI_ltI, nI_eq, w_em, w_me, w_lm, w_ml, w_lem, w_mle, Option.bind_some, Option.some.injEq, xI_n, yI_n, xL_n, yL_n, xP_n, xG_n, I_same, I_row, I_col, L_1, Q_1, R_same, R_row, if_pos, if_neg, ite_self, not_true, not_false, decide_true, decide_false, Nat.add_assoc, true_and, and_true, Nat.zero_add, Nat.add_zero, Nat.mul_zero, Nat.mul_one, Nat.one_mul, eq_self, decide_eq_true, decide_eq_false, Bool.true_eq_false, Bool.false_eq_true, ↓reduceIte, Nat.reduceAdd, Nat.reduceMul, Nat.reduceSub, Nat.reduceDiv, Nat.reduceMod, bb_t, bb_f, wi10, canT (N := N) hC hW hm]
    · unfold g_X11_crank g_X11_crank_0
      simp (disch := omega) only [k_0, k_1, k_2, k_3, k_4, k_5, k_6, k_7, k_8, k_9, k_10, k_11, k_12, k_13, k_14, k_15, k_16, k_17, k_18, k_19, k_20, k_21, k_22, k_23, k_24, k_25, k_26, k_27, k_28, k_29, k_30, k_31, k_32, k_33, k_34, k_35, k_36, k_37, k_38, k_39, k_40, k_41, k_42, k_43, k_44, k_45, k_46, k_47, k_48, k_49, k_50, k_51, k_52, k_53, k_54, k_55, k_56, k_57, k_58, k_59, k_60, k_61, k_62, k_63, k_64, k_65, k_66, k_67, k_68, k_69, k_70, k_71, k_72, k_73, k_74, k_75, k_76, k_77, k_78, k_79, k_80, k_81, k_82, k_83, k_84, k_85, k_86, k_87, k_88, k_89, k_90, k_91, k_92, k_93, k_94, k_95, k_96, k_97, k_98, k_99, k_100, k_101, k_102, k_103, k_104, k_105, k_106, k_107, k_108, k_109, k_110, k_111, k_112, k_113, k_114, k_115, k_116, k_117, k_118, k_119, k_120, k_121, k_122, k_123, k_124, k_125, k_126, k_127, k_128, k_129, k_130, k_133, k_144, k_145, k_153, k_193, k_203, k_211, k_227, k_255, k_256, k_280, k_300, k_313, k_371, k_433, k_705, k_997, k_999, k_1000, k_4176, k_4547, k_9999, k_10000, k_30557, k_99999, k_1000000, k_1000000000, nI_add, pk_mul, w_sub, w_rem, w_div, w_dv, w_rm, nI_leI, nI_ltI, nI_eq, w_em, w_me, w_lm, w_ml, w_lem, w_mle, Option.bind_some, Option.some.injEq, xI_n, yI_n, xL_n, yL_n, xP_n, xG_n, I_same, I_row, I_col, L_1, Q_1, R_same, R_row, if_pos, if_neg, ite_self, not_true, not_false, decide_true, decide_false, Nat.add_assoc, true_and, and_true, Nat.zero_add, Nat.add_zero, Nat.mul_zero, Nat.mul_one, Nat.one_mul, eq_self, decide_eq_true, decide_eq_false, Bool.true_eq_false, Bool.false_eq_true, ↓reduceIte, Nat.reduceAdd, Nat.reduceMul, Nat.reduceSub, Nat.reduceDiv, Nat.reduceMod, bb_t, bb_f, canR (N := N) hW hR hm]
end CRK
