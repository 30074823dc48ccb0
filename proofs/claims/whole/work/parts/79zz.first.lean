/-! the first state keeps the invariant -/
def ruN (i : Nat) : Nat := if i % 2 = 0 then i / 2 + 1 else 11 + 11 * (i / 2)
def st0 : ST := setI (setI σa 643 9 193) 643 2 (-1)
def stI (i : Nat) : ST := match i with
  | 0 => st0
  | i + 1 => setI (setI (stI i) 643 (101 + 2 * i) (nI (i + 1))) 643 (101 + 2 * i + 1) (nI (11 + 11 * i))
def s00 : SS := fun k i => if (k = 1 ∨ (26 ≤ k ∧ (k - 26) % 9 = 0)) ∧ i = 2 then 193 else if k = 12 then (if i < 20 then ruN i else 0) else 0
section FST
variable {N : Mem} {B b k i j : Nat} {σ : ST}
theorem rul_e (n : Nat) : ∀ j, rul n j = if j < 2 * n then nI (ruN j) else 0 := by
  induction n with
  | zero =>
    intro j
    rw [if_neg (by omega)]
    rfl
  | succ n ih =>
    intro j
    show upd (upd (rul n) (n * 2) (nI (n + 1))) (n * 2 + 1) (nI (11 + n * 10 + n)) j = _
    by_cases c : j = n * 2 + 1
    · rw [c, pk_us, if_pos (by omega)]
      unfold ruN
      rw [if_neg (by omega)]
      congr 1
      omega
    · rw [pk_un c]
      by_cases c2 : j = n * 2
      · rw [c2, pk_us, if_pos (by omega)]
        unfold ruN
        rw [if_pos (by omega)]
        congr 1
        omega
      · rw [pk_un c2, ih]
        by_cases c3 : j < 2 * n
        · rw [if_pos c3, if_pos (by omega)]
        · rw [if_neg c3, if_neg (by omega)]
theorem ruN_b (h : i < 20) : ruN i ≤ 110 := by
  unfold ruN
  split
  · omega
  · omega
theorem stI_o (n : Nat) : (∀ a j, a ≠ 643 → (stI n).1 a j = Ra a j) ∧ (stI n).2 = σa.2 := by
  induction n with
  | zero => exact ⟨fun a j h => (I_row h).trans (I_row h), rfl⟩
  | succ n ih => exact ⟨fun a j h => (I_row h).trans ((I_row h).trans (ih.1 a j h)), ih.2⟩
theorem stI_r (n : Nat) : ∀ j, (stI n).1 643 j = if 101 ≤ j ∧ j < 101 + 2 * n then nI (ruN (j - 101)) else if j = 2 then -1 else if j = 9 then 193 else 0 := by
  induction n with
  | zero =>
    intro j
    rw [if_neg (by omega)]
    show (if 643 = 643 ∧ j = 2 then (-1 : Int32) else if 643 = 643 ∧ j = 9 then 193 else Ra 643 j) = _
    have ez : Ra 643 j = 0 := by rw [Ra_z (by omega) (by omega)]
    rw [ez]
    by_cases c : j = 2
    · rw [if_pos ⟨rfl, c⟩, if_pos c]
    · rw [if_neg (fun y => c y.2), if_neg c]
      by_cases c2 : j = 9
      · rw [if_pos ⟨rfl, c2⟩, if_pos c2]
      · rw [if_neg (fun y => c2 y.2), if_neg c2]
  | succ n ih =>
    intro j
    show (setI (setI (stI n) 643 (101 + 2 * n) (nI (n + 1))) 643 (101 + 2 * n + 1) (nI (11 + 11 * n))).1 643 j = _
    by_cases c : j = 101 + 2 * n + 1
    · rw [I_same rfl c, if_pos (by omega)]
      unfold ruN
      rw [if_neg (by omega)]
      congr 1
      omega
    · rw [I_col c]
      by_cases c2 : j = 101 + 2 * n
      · rw [I_same rfl c2, if_pos (by omega)]
        unfold ruN
        rw [if_pos (by omega)]
        congr 1
        omega
      · rw [I_col c2, ih]
        by_cases c3 : 101 ≤ j ∧ j < 101 + 2 * n
        · rw [if_pos c3, if_pos (by omega)]
        · rw [if_neg c3, if_neg (show ¬ (101 ≤ j ∧ j < 101 + 2 * (n + 1)) by omega)]
theorem x11_l (hN : HN N B) : ∃ g, (∀ j, j < 4607 → g j = (stI 10).1 643 j) ∧ ∀ d i n, i + d = 10 → d < n → f_X11_init_204 n (B + 642) (nI i) (put N B (stI i)) = some (put N B (setR (stI 10) 644 g)) := by
  have C := isC_11_at
  obtain ⟨g, g1, g2⟩ := cop_e (N := N) (υ := stI 10) (a := 643) (b := 644) (by omega)
  refine ⟨g, g2, fun d => ?_⟩
  induction d with
  | zero =>
    intro i n h1 h2
    obtain ⟨n, rfl⟩ : ∃ e, n = e + 1 := ⟨n - 1, by omega⟩
    obtain rfl : i = 10 := by omega
    have ec : f_X11_copy (B + (642 + 1)) (B + (642 + 2)) (put N B (stI 10)) = some (put N B (setR (stI 10) 644 g)) := by
      rw [l_X11_copy hN (sh_11_0 C) (sh_11_1 C)]
      show (g_X11_copy N 4607 643 4607 644 (stI 10)).map (put N B) = _
      rw [g1]
      rfl
    rw [f_X11_init_204, if_pos (by decide), gR_11_0 C, bnd, gR_11_1 C, bnd, ec, bnd]
  | succ d ih =>
    intro i n h1 h2
    obtain ⟨n, rfl⟩ : ∃ e, n = e + 1 := ⟨n - 1, by omega⟩
    have w1 : wI (put N B (stI i)) (B + (642 + 1)) (nI (101 + 2 * i)) (nI (i + 1)) = some (put N B (setI (stI i) 643 (101 + 2 * i) (nI (i + 1)))) := by
      rw [wI_put (sh_11_0 C), yI_n (by omega) (by omega)]
      rfl
    have w2 : wI (put N B (setI (stI i) 643 (101 + 2 * i) (nI (i + 1)))) (B + (642 + 1)) (nI (101 + 2 * i + 1)) (nI (11 + 11 * i)) = some (put N B (stI (i + 1))) := by
      rw [wI_put (sh_11_0 C), yI_n (by omega) (by omega)]
      rfl
    rw [f_X11_init_204, show (10 : Int32) = nI 10 from rfl, if_neg (nI_ge (by omega) (by omega)), gR_11_0 C, bnd, show (2 : Int32) = nI 2 from rfl, show (101 : Int32) = nI 101 from rfl, show (11 : Int32) = nI 11 from rfl, pk_mul, pk_mul, nI_add, nI_add, nI_1, nI_1, w1, bnd, gR_11_0 C, bnd, w2, bnd]
    exact ih (i + 1) n (by omega) (by omega)
theorem x11_e (hN : HN N B) : ∃ g, (∀ j, j < 4607 → g j = (stI 10).1 643 j) ∧ x11t (B + 642) (put N B σa) = some (put N B (setR (stI 10) 644 g)) := by
  have C := isC_11_at
  obtain ⟨g, g1, g2⟩ := x11_l (N := N) hN
  refine ⟨g, g1, ?_⟩
  have w1 : wI (put N B σa) (B + (642 + 1)) (nI 9) 193 = some (put N B (setI σa 643 9 193)) := by
    rw [wI_put (sh_11_0 C), yI_n (by omega) (by omega)]
    rfl
  have w2 : wI (put N B (setI σa 643 9 193)) (B + (642 + 1)) (nI 2) (-1) = some (put N B (stI 0)) := by
    rw [wI_put (sh_11_0 C), yI_n (by omega) (by omega)]
    rfl
  unfold x11t
  rw [show (9 : Int32) = nI 9 from rfl, show (2 : Int32) = nI 2 from rfl, gR_11_0 C, bnd, w1, bnd, gR_11_0 C, bnd, w2, bnd, show (0 : Int32) = nI 0 from rfl]
  exact g2 10 0 fu (by omega) (by unfold fu; omega)
theorem s00_z (h : ¬ (k = 1 ∨ (26 ≤ k ∧ (k - 26) % 9 = 0))) (h2 : k ≠ 12) (i : Nat) : s00 k i = 0 := by
  unfold s00
  rw [if_neg (fun y => h y.1), if_neg h2]
theorem s00_w (h : k = 1 ∨ (26 ≤ k ∧ (k - 26) % 9 = 0)) (i : Nat) : s00 k i = if i = 2 then 193 else 0 := by
  unfold s00
  by_cases c : i = 2
  · rw [if_pos ⟨h, c⟩, if_pos c]
  · rw [if_neg (fun y => c y.2), if_neg (by omega), if_neg c]
theorem wf_w (w : SS) (h0 : ∀ i, w 0 i = if i = 2 then 193 else 0) (h : ∀ k i, 1 ≤ k → k < 9 → w k i = 0) : WFw w := by
  refine ⟨?_, ?_, ?_, ?_, fun m => ?_, fun m => ?_, fun m => ?_, fun m => ?_, fun m => ?_, fun m => ?_, fun m => ?_, fun m => ⟨?_, ?_, ?_, ?_⟩⟩
  · rw [h0, if_neg (by omega)]; omega
  · rw [h0, if_neg (by omega)]; omega
  · rw [h0, if_pos rfl]; omega
  · rw [h0, if_neg (by omega)]; omega
  all_goals rw [h _ _ (by omega) (by omega)]; omega
theorem wf_0 : WFs s00 := by
  have z0 : ∀ i, s00 0 i = 0 := fun i => s00_z (by omega) (by omega) i
  refine ⟨wf_w _ (fun i => s00_w (by omega) i) (fun k i h1 h2 => s00_z (by omega) (by omega) i), fun p hp => wf_w _ (fun i => s00_w (by omega) i) (fun k i h1 h2 => s00_z (by omega) (by omega) i), ?_, ?_, ?_, ?_, fun i => ?_, ?_, fun i => ?_, ?_, fun i => ?_, ?_, fun i => ?_, ?_, ?_, fun i hi => ?_, fun i => ?_, fun i => ?_, fun i => ?_, fun i => ?_, fun j hj => ?_⟩
  · rw [z0]; omega
  · rw [z0]; omega
  · rw [z0]; omega
  · rw [z0, z0]; omega
  · unfold s00
    rw [if_neg (by omega), if_pos rfl]
    by_cases c : i < 20
    · rw [if_pos c]; exact ruN_b c
    · rw [if_neg c]; omega
  · rw [s00_z (by omega) (by omega)]; omega
  · rw [s00_z (by omega) (by omega)]; omega
  · rw [s00_z (by omega) (by omega)]; omega
  · rw [s00_z (by omega) (by omega)]; omega
  · rw [s00_z (by omega) (by omega)]; omega
  · rw [s00_z (by omega) (by omega)]; omega
  · rw [s00_z (by omega) (by omega)]; omega
  · rw [s00_z (by omega) (by omega), s00_z (by omega) (by omega)]
  · rw [s00_z (by omega) (by omega)] at hi; omega
  · rw [s00_z (by omega) (by omega)]; omega
  · rw [s00_z (by omega) (by omega)]; omega
  · rw [s00_z (by omega) (by omega)]; omega
  · rw [s00_z (by omega) (by omega)]; omega
  · rw [z0] at hj; omega
theorem rc_0 (hb : b = 1 ∨ b = 297) (h : ∀ a j, a < 593 → σ.1 a j = Ra a j) : RC b σ s00 := by
  refine ⟨fun k i hk h6 => ?_, ?_⟩
  · rw [h _ _ (by omega)]
    by_cases c : k = 1 ∨ (26 ≤ k ∧ (k - 26) % 9 = 0)
    · rw [Ra_w (by omega), s00_w c]
      by_cases c2 : i = 2
      · rw [if_pos c2, if_pos c2]; rfl
      · rw [if_neg c2, if_neg c2]; rfl
    · by_cases c2 : k = 12
      · subst c2
        unfold Ra s00
        rw [if_neg (by omega), if_neg (by omega), if_pos (by omega), if_neg (by omega), if_pos rfl, rul_e]
        by_cases c3 : i < 20
        · rw [if_pos (by omega), if_pos c3]
        · rw [if_neg (by omega), if_neg c3]; rfl
      · rw [s00_z c c2]
        unfold Ra
        rw [if_neg (by omega), if_neg (by omega), if_neg (by omega), if_neg (by omega), if_neg (by omega), if_neg (by omega)]
        rfl
  · rw [h _ _ (by omega), s00_z (by omega) (by omega)]
    unfold Ra
    rw [if_neg (by omega), if_pos (by omega)]
    rfl
theorem rr_0 {A : Nat → Int32} (h : ∀ j, j < 4607 → A j = (stI 10).1 643 j) : RR A s00 := by
  have z0 : ∀ i, s00 0 i = 0 := fun i => s00_z (by omega) (by omega) i
  have az : ∀ j, j < 4607 → ¬ (101 ≤ j ∧ j < 121) → j ≠ 2 → j ≠ 9 → A j = nI 0 := by
    intro j h1 h2 h3 h4
    rw [h j h1, stI_r, if_neg (by omega), if_neg h3, if_neg h4]
    rfl
  have sz : ∀ k i, k ≠ 1 → k ≠ 12 → k < 26 → s00 k i = 0 := fun k i h1 h2 h3 => s00_z (by omega) h2 i
  refine ⟨⟨?_, ?_, ?_, ?_, ?_, ?_, ?_, ?_, ?_, ?_, ?_⟩, fun m hm => ?_, fun i hi => ?_, fun i hi => ?_, fun i hi => ?_, fun i hi => ?_, fun i hi => ?_, fun i hi => ?_, fun i hi => ?_, fun i hi => ⟨?_, ?_⟩, fun j hj => ?_, fun i hi => ?_⟩
  · rw [az _ (by omega) (by omega) (by omega) (by omega), s00_w (by omega), if_neg (by omega)]
  · rw [az _ (by omega) (by omega) (by omega) (by omega), z0]
  · rw [h _ (by omega), stI_r, if_neg (by omega), if_pos rfl, z0]
    rfl
  · rw [az _ (by omega) (by omega) (by omega) (by omega), z0]
  · rw [az _ (by omega) (by omega) (by omega) (by omega), sz _ _ (by omega) (by omega) (by omega)]
  · rw [az _ (by omega) (by omega) (by omega) (by omega), sz _ _ (by omega) (by omega) (by omega)]
  · rw [az _ (by omega) (by omega) (by omega) (by omega), sz _ _ (by omega) (by omega) (by omega)]
  · rw [az _ (by omega) (by omega) (by omega) (by omega), sz _ _ (by omega) (by omega) (by omega)]
  · rw [az _ (by omega) (by omega) (by omega) (by omega), s00_w (by omega), if_neg (by omega)]
  · rw [h _ (by omega), stI_r, if_neg (by omega), if_neg (by omega), if_pos rfl, s00_w (by omega), if_pos rfl]
    rfl
  · rw [az _ (by omega) (by omega) (by omega) (by omega), s00_w (by omega), if_neg (by omega)]
  · have e : cur s00 0 0 = 0 := by
      show s00 1 0 = 0
      rw [s00_w (by omega), if_neg (by omega)]
    rw [e] at hm
    omega
  · rw [h _ (by omega), stI_r, if_pos (by omega), Nat.add_sub_cancel_left]
    unfold s00
    rw [if_neg (by omega), if_pos rfl, if_pos hi]
  · rw [az _ (by omega) (by omega) (by omega) (by omega), sz _ _ (by omega) (by omega) (by omega)]
  · rw [az _ (by omega) (by omega) (by omega) (by omega), sz _ _ (by omega) (by omega) (by omega)]
  · rw [az _ (by omega) (by omega) (by omega) (by omega), sz _ _ (by omega) (by omega) (by omega)]
  · rw [az _ (by omega) (by omega) (by omega) (by omega), sz _ _ (by omega) (by omega) (by omega)]
  · rw [az _ (by omega) (by omega) (by omega) (by omega), sz _ _ (by omega) (by omega) (by omega)]
  · rw [az _ (by omega) (by omega) (by omega) (by omega), sz _ _ (by omega) (by omega) (by omega)]
  · rw [az _ (by omega) (by omega) (by omega) (by omega), sz _ _ (by omega) (by omega) (by omega)]
  · rw [az _ (by omega) (by omega) (by omega) (by omega), sz _ _ (by omega) (by omega) (by omega)]
  · rw [z0] at hj
    omega
  · have e : cur s00 0 3 = 0 := by
      show s00 1 3 = 0
      rw [s00_w (by omega), if_neg (by omega)]
    rw [e] at hi
    omega
theorem inv_0 {g : Nat → Int32} (hg : ∀ j, j < 4607 → g j = (stI 10).1 643 j) : Inv N (setR (stI 10) 644 g) s00 s00 := by
  obtain ⟨o1, o2⟩ := stI_o 10
  have rw0 : ∀ a j, a ≠ 643 → a ≠ 644 → (setR (stI 10) 644 g).1 a j = Ra a j := fun a j h1 h2 => (R_row h2).trans (o1 a j h1)
  have e43 : (setR (stI 10) 644 g).1 643 = (stI 10).1 643 := funext fun j => R_row (by omega)
  have e44 : (setR (stI 10) 644 g).1 644 = g := funext fun j => R_same rfl
  have q : (setR (stI 10) 644 g).2 = σa.2 := o2
  have rz : ∀ a j, a ≠ 643 → a ≠ 644 → ¬ wldP a → a ≠ 1 → a ≠ 297 → a ≠ 13 → a ≠ 309 → a ≠ 595 → a ≠ 642 → (setR (stI 10) 644 g).1 a j = 0 := fun a j h1 h2 h3 h4 h5 h6 h7 h8 h9 => by
    rw [rw0 a j h1 h2, Ra_z h3 ⟨h4, h5, h6, h7, h8, h9⟩]
  have r595 : ∀ j, j = 1 ∨ j = 2 → (setR (stI 10) 644 g).1 595 j = -1 := fun j hj => by
    rw [rw0 _ _ (by omega) (by omega)]
    unfold Ra
    rw [if_neg (by omega), if_neg (by omega), if_neg (by omega), if_pos ⟨rfl, hj⟩]
  have r642 : ∀ j, j = 5 ∨ j = 6 → (setR (stI 10) 644 g).1 642 j = -1 := fun j hj => by
    rw [rw0 _ _ (by omega) (by omega)]
    unfold Ra
    rw [if_neg (by omega), if_neg (by omega), if_neg (by omega), if_neg (by omega), if_pos ⟨rfl, hj⟩]
  refine ⟨⟨rc_0 (Or.inl rfl) (fun a j ha => rw0 a j (by omega) (by omega)), wf_0, by rw [e43]; exact rr_0 (fun _ _ => rfl)⟩, ⟨rc_0 (Or.inr rfl) (fun a j ha => rw0 a j (by omega) (by omega)), wf_0, by rw [e44]; exact rr_0 hg⟩, ⟨⟨0, by omega, rz _ _ (by omega) (by omega) (by omega) (by omega) (by omega) (by omega) (by omega) (by omega) (by omega), ?_, fun i hi => by omega⟩, ⟨?_, ?_⟩, ?_, ⟨fun k i => if k = 0 ∧ i = 2 then 193 else 0, ?_, ?_⟩⟩, fun t v ht hv => ?_, fun t v ht hv => ?_, Nat.le_refl _, fun t ht => ?_, fun t ht => ?_⟩
  · rw [rw0 _ _ (by omega) (by omega)]
    unfold Ra
    rw [if_neg (by omega), if_neg (by omega), if_neg (by omega), if_neg (by omega), if_neg (by omega), if_neg (by omega)]
    rfl
  · rw [r595 1 (by omega), r642 5 (by omega)]
  · rw [r595 2 (by omega), r642 6 (by omega)]
  · rw [rw0 _ _ (by omega) (by omega)]
    unfold Ra
    rw [if_neg (by omega), if_neg (by omega), if_neg (by omega), if_neg (by omega), if_neg (by omega), if_pos ⟨rfl, rfl⟩]
    rfl
  · refine wf_w _ (fun i => ?_) (fun k i h1 h2 => if_neg (by omega))
    (try dsimp only)
    by_cases c : i = 2
    · rw [if_pos ⟨rfl, c⟩, if_pos c]
    · rw [if_neg (fun y => c y.2), if_neg c]
  · intro k i hk
    rw [rw0 _ _ (by omega) (by omega)]
    (try dsimp only)
    by_cases c : k = 0
    · subst c
      rw [Ra_w (by omega)]
      by_cases c2 : i = 2
      · rw [if_pos c2, if_pos ⟨rfl, c2⟩]; rfl
      · rw [if_neg c2, if_neg (fun y => c2 y.2)]; rfl
    · rw [if_neg (fun y => c y.1), Ra_z (by omega) (by omega)]
      rfl
  · rw [q] at hv
    cases hv
  · rw [q] at hv
    cases hv
  · rw [q]
    rfl
  · rw [s00_z (by omega) (by omega)] at ht
    omega
end FST
