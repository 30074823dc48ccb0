/-! image, back: the whole picture -/
section IMG
variable {N : Mem} {σ τ υ : ST} {s z z' w w' : SS} {A A' : Nat → Int32}
theorem Rm1_i {f f' : Nat → Int32} {m : Nat} (hm : m < 5) (hf : ∀ i, i < 16 → f' i = f i) (hw : ∀ k i, k < 9 → i < wl k → w' k i = w k i) (hl : w 6 m ≤ 12) (h : Rm1 f w m) : Rm1 f' w' m := by
  obtain ⟨h0, h1, h2, h3, h4⟩ := h
  have e6 : w' 6 m = w 6 m := hw 6 m (by omega) hm
  refine ⟨?_, ?_, ?_, ?_, fun i hi => ?_⟩
  · rw [hf _ (by omega), hw 3 m (by omega) hm]; exact h0
  · rw [hf _ (by omega), hw 4 m (by omega) hm]; exact h1
  · rw [hf _ (by omega), hw 5 m (by omega) hm]; exact h2
  · rw [hf _ (by omega), e6]; exact h3
  · rw [e6] at hi
    rw [hf _ (by omega), hw 7 _ (by omega) (show 12 * m + i < 60 by omega)]; exact h4 i hi
theorem Rbk_i {f f' : Nat → Int32} (hf : ∀ i, i < 60 → f' i = f i) (hw : ∀ k i, k < 9 → i < wl k → w' k i = w k i) (hl : w 0 3 ≤ 30) (h : Rbk f w) : Rbk f' w' := by
  intro i hi
  rw [hw 0 3 (by omega) (by decide)] at hi
  rw [hf _ (by omega), hf _ (by omega), hw 8 _ (by omega) (show 4 * i < 120 by omega), hw 8 _ (by omega) (show 4 * i + 1 < 120 by omega), hw 8 _ (by omega) (show 4 * i + 2 < 120 by omega), hw 8 _ (by omega) (show 4 * i + 3 < 120 by omega)]
  exact h i hi
theorem Rma_i (hA : ∀ i, 11 ≤ i → i < 101 → A' i = A i) (hw : ∀ k i, k < 9 → i < wl k → w' k i = w k i) (hW : WFw w) (h : Rma A w) : Rma A' w' := by
  intro m hm
  rw [hw 0 0 (by omega) (by decide)] at hm
  have hm5 : m < 5 := Nat.lt_of_lt_of_le hm hW.1
  obtain ⟨h1, h2, h3⟩ := h m hm
  refine ⟨Rm1_i hm5 (fun i hi => hA _ (by omega) (by omega)) hw (hW.l m) h1, ?_, ?_⟩
  · rw [hA _ (by omega) (by omega), hw 1 m (by omega) hm5]; exact h2
  · rw [hA _ (by omega) (by omega), hw 2 m (by omega) hm5]; exact h3
theorem Rs1_i {f f' : Nat → Int32} (hf : ∀ i, i < 144 → f' i = f i) (hw : ∀ k i, k < 9 → i < wl k → w' k i = w k i) (hW : WFw w) (h : Rs1 f w) : Rs1 f' w' := by
  obtain ⟨h0, h1, h2, h3, h4, h5⟩ := h
  refine ⟨?_, ?_, ?_, ?_, fun m hm => ?_, ?_⟩
  · rw [hf _ (by omega), hw 0 0 (by omega) (by decide)]; exact h0
  · rw [hf _ (by omega), hw 0 1 (by omega) (by decide)]; exact h1
  · rw [hf _ (by omega), hw 0 2 (by omega) (by decide)]; exact h2
  · rw [hf _ (by omega), hw 0 3 (by omega) (by decide)]; exact h3
  · rw [hw 0 0 (by omega) (by decide)] at hm
    have hm5 : m < 5 := Nat.lt_of_lt_of_le hm hW.1
    exact Rm1_i hm5 (fun i hi => hf _ (by omega)) hw (hW.l m) (h4 m hm)
  · exact Rbk_i (fun i hi => hf _ (by omega)) hw hW.2.2.2.1 h5
theorem in_w {k i : Nat} (hk : k < 9) (hi : i < wl k) : inr (1 + k) i := Or.inl (Or.inl ⟨by omega, by omega, by rw [Nat.add_sub_cancel_left]; exact hi⟩)
theorem in_p {p k i : Nat} (hp : p < 30) (hk : k < 9) (hi : i < wl k) : inr (26 + 9 * p + k) i := Or.inl (Or.inr ⟨by omega, by omega, by rw [show (26 + 9 * p + k - 26) % 9 = k by omega]; exact hi⟩)
theorem in_s {k i : Nat} (h : (k = 0 ∧ (i = 2 ∨ i = 3 ∨ i = 5 ∨ i = 6)) ∨ (k = 12 ∧ i < 20) ∨ (k = 14 ∧ i < 12) ∨ (k = 13 ∧ i = 1) ∨ (k = 16 ∧ i < 12) ∨ (k = 15 ∧ i = 1) ∨ (k = 18 ∧ i < 8) ∨ (k = 17 ∧ i = 1) ∨ (k = 20 ∧ i < 8) ∨ (k = 19 ∧ i = 1) ∨ (k = 22 ∧ i < 8) ∨ (k = 21 ∧ i = 1) ∨ (k = 23 ∧ i < 25) ∨ (k = 24 ∧ i < 25) ∨ (k = 25 ∧ i < 8)) : inr k i := Or.inr h
theorem RR_in (hA : ∀ i, i < 4607 → A' i = A i) (hz : ∀ k i, inr k i → z' k i = s k i) (hW : WFs s) (h : RR A s) : RR A' z' := by
  have hw : ∀ k i, k < 9 → i < wl k → cur z' k i = cur s k i := fun k i hk hi => hz _ _ (in_w hk hi)
  have l4 : ∀ i, i < 4 → z' 1 i = s 1 i := fun i hi => hw 0 i (by omega) hi
  obtain ⟨⟨a0, a1, a2, a3, a4, a5, a6, a7, a8, a9, a10⟩, b1, b2, b3, b4, b5, b6, b7, b8, b9, b10, b11⟩ := h
  refine ⟨⟨?_, ?_, ?_, ?_, ?_, ?_, ?_, ?_, ?_, ?_, ?_⟩, ?_, ?_, ?_, ?_, ?_, ?_, ?_, ?_, ?_, ?_, ?_⟩
  · rw [hA _ (by omega), l4 _ (by omega)]; exact a0
  · rw [hA _ (by omega), hz 0 5 (in_s (by omega))]; exact a1
  · rw [hA _ (by omega), hz 0 6 (in_s (by omega))]; exact a2
  · rw [hA _ (by omega), hz 0 3 (in_s (by omega))]; exact a3
  · rw [hA _ (by omega), hz 13 1 (in_s (by omega))]; exact a4
  · rw [hA _ (by omega), hz 15 1 (in_s (by omega))]; exact a5
  · rw [hA _ (by omega), hz 17 1 (in_s (by omega))]; exact a6
  · rw [hA _ (by omega), hz 19 1 (in_s (by omega))]; exact a7
  · rw [hA _ (by omega), l4 _ (by omega)]; exact a8
  · rw [hA _ (by omega), l4 _ (by omega)]; exact a9
  · rw [hA _ (by omega), l4 _ (by omega)]; exact a10
  · exact Rma_i (fun i _ hi => hA i (by omega)) hw hW.1 b1
  · exact Rro_c (fun i _ hi => hA i (by omega)) (fun i hi => hz _ _ (in_s (by omega))) b2
  · exact Rro_c (fun i _ hi => hA i (by omega)) (fun i hi => hz _ _ (in_s (by omega))) b3
  · exact Rro_c (fun i _ hi => hA i (by omega)) (fun i hi => hz _ _ (in_s (by omega))) b4
  · exact Rro_c (fun i _ hi => hA i (by omega)) (fun i hi => hz _ _ (in_s (by omega))) b5
  · exact Rro_c (fun i _ hi => hA i (by omega)) (fun i hi => hz _ _ (in_s (by omega))) b6
  · exact Rro_c (fun i _ hi => hA i (by omega)) (fun i hi => hz _ _ (in_s (by omega))) b7
  · exact Rro_c (fun i _ hi => hA i (by omega)) (fun i hi => hz _ _ (in_s (by omega))) b8
  · intro i hi
    rw [hA _ (by omega), hA _ (by omega), hz 20 i (in_s (by omega)), hz 22 i (in_s (by omega))]
    exact b9 i hi
  · intro j hj
    rw [hz 0 3 (in_s (by omega))] at hj
    have h3 : s 0 3 ≤ 30 := hW.2.2.2.1
    refine Rs1_i (fun i hi => hA _ (by omega)) (fun k i hk hi => ?_) (hW.past j) (b10 j hj)
    unfold past
    rw [hz 0 2 (in_s (by omega))]
    exact hz _ _ (in_p (Nat.mod_lt _ (by omega)) hk hi)
  · exact Rbk_i (fun i hi => hA _ (by omega)) hw hW.1.2.2.2.1 b11
theorem Mix.b (h : Mix s z z') {k i B : Nat} (h1 : s k i ≤ B) (h2 : z k i ≤ B) : z' k i ≤ B := by
  rcases h k i with q | q
  · rw [q]; exact h1
  · rw [q]; exact h2
theorem Mix.wf (h : Mix s z z') (o : Nat) (h1 : WFw (fun k i => s (o + k) i)) (h2 : WFw (fun k i => z (o + k) i)) : WFw (fun k i => z' (o + k) i) := by
  obtain ⟨a0, a1, a2, a3, a4, a5, a6, a7, a8, a9, a10, a11⟩ := h1
  obtain ⟨b0, b1, b2, b3, b4, b5, b6, b7, b8, b9, b10, b11⟩ := h2
  exact ⟨h.b a0 b0, h.b a1 b1, Nat.lt_succ_of_le (h.b (Nat.le_of_lt_succ a2) (Nat.le_of_lt_succ b2)), h.b a3 b3, fun m => h.b (a4 m) (b4 m), fun m => h.b (a5 m) (b5 m), fun m => h.b (a6 m) (b6 m), fun m => h.b (a7 m) (b7 m), fun m => h.b (a8 m) (b8 m), fun m => h.b (a9 m) (b9 m), fun m => h.b (a10 m) (b10 m), fun m => ⟨h.b (a11 m).1 (b11 m).1, h.b (a11 m).2.1 (b11 m).2.1, h.b (a11 m).2.2.1 (b11 m).2.2.1, h.b (a11 m).2.2.2 (b11 m).2.2.2⟩⟩
theorem Mix.wfs (h : Mix s z z') (hz : ∀ k i, inr k i → z' k i = s k i) (h1 : WFs s) (h2 : WFs z) : WFs z' := by
  obtain ⟨a0, a1, a2, a3, a4, a5, a6, a7, a8, a9, a10, a11, a12, a13, a14, a15, a16, a17, a18, a19, a20⟩ := h1
  obtain ⟨b0, b1, b2, b3, b4, b5, b6, b7, b8, b9, b10, b11, b12, b13, b14, b15, b16, b17, b18, b19, b20⟩ := h2
  have e19 : z' 19 1 = s 19 1 := hz _ _ (in_s (by omega))
  have e10 : z' 1 0 = s 1 0 := hz _ _ (in_w (k := 0) (by omega) (by decide))
  refine ⟨h.wf 1 a0 b0, fun p hp => h.wf _ (a1 p hp) (b1 p hp), Nat.lt_succ_of_le (h.b (Nat.le_of_lt_succ a2) (Nat.le_of_lt_succ b2)), h.b a3 b3, h.b a4 b4, ?_, fun i => h.b (a6 i) (b6 i), h.b a7 b7, fun i => h.b (a8 i) (b8 i), h.b a9 b9, fun i => h.b (a10 i) (b10 i), h.b a11 b11, fun i => h.b (a12 i) (b12 i), h.b a13 b13, ?_, ?_, fun i => h.b (a16 i) (b16 i), fun i => h.b (a17 i) (b17 i), fun i => h.b (a18 i) (b18 i), fun i => h.b (a19 i) (b19 i), ?_⟩
  · rw [hz 0 6 (in_s (by omega)), hz 0 5 (in_s (by omega))]; exact a5
  · rw [hz 21 1 (in_s (by omega)), e19]; exact a14
  · intro i hi
    rw [e19] at hi
    rw [hz 20 i (in_s (by omega)), e10]
    exact a15 i hi
  · intro j hj
    rw [hz 0 3 (in_s (by omega))] at hj
    rw [e10]
    refine Nat.le_trans (Nat.le_of_eq ?_) (a20 j hj)
    unfold past
    rw [hz 0 2 (in_s (by omega))]
    exact hz _ _ (in_p (k := 0) (Nat.mod_lt _ (by omega)) (by omega) (by decide))
theorem cop_l {a b : Nat} (hab : a ≠ b) : ∀ d i n f, i + d = 4607 → d < n → ∃ g, g_X11_copy_2 N n 4607 a 4607 b (nI i) (setR υ b f) = some (setR υ b g) ∧ ∀ j, j < 4607 → g j = if i ≤ j then υ.1 a j else f j := by
  intro d
  induction d with
  | zero =>
    intro i n f hi hn
    obtain ⟨n, rfl⟩ : ∃ x, n = x + 1 := ⟨n - 1, by omega⟩
    refine ⟨f, ?_, fun j hj => (if_neg (by omega)).symm⟩
    rw [g_X11_copy_2, if_pos (show (4607 : Int32) ≤ nI i from nI_le (a := 4607) (by omega) (by omega))]
  | succ d ih =>
    intro i n f hi hn
    obtain ⟨n, rfl⟩ : ∃ x, n = x + 1 := ⟨n - 1, by omega⟩
    obtain ⟨g, h1, h2⟩ := ih (i + 1) n (ua f i (υ.1 a i)) (by omega) (by omega)
    refine ⟨g, ?_, fun j hj => ?_⟩
    · have e : (setR υ b f).1 a i = υ.1 a i := R_row hab
      rw [g_X11_copy_2, if_neg (show ¬ (4607 : Int32) ≤ nI i from nI_ge (b := 4607) (by omega) (by omega)), xI_n (by omega) (by omega), bnd, yI_n (by omega) (by omega), bnd, k_1, nI_add, e, R_ua]
      exact h1
    · rw [h2 j hj]
      by_cases c : i + 1 ≤ j
      · rw [if_pos c, if_pos (by omega)]
      · rw [if_neg c]
        by_cases c2 : j = i
        · rw [ua_same c2, if_pos (by omega), c2]
        · rw [ua_ne c2, if_neg (by omega)]
theorem cop_e {a b : Nat} (hab : a ≠ b) : ∃ g, g_X11_copy N 4607 a 4607 b υ = some (setR υ b g) ∧ ∀ j, j < 4607 → g j = υ.1 a j := by
  obtain ⟨g, h1, h2⟩ := cop_l (N := N) (υ := υ) hab 4607 0 fu (υ.1 b) (by omega) (by unfold fu; omega)
  rw [R_id] at h1
  refine ⟨g, ?_, fun j hj => (h2 j hj).trans (if_pos (by omega))⟩
  unfold g_X11_copy g_X11_copy_0
  rw [k_0]
  exact h1
end IMG
