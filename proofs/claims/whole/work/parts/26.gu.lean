noncomputable def g_X2_readClause_119 (N : Mem) (x0 : Nat) (x2 : Bool) (σ : ST) : Option (Bool × ST) :=
  (some (setI σ x0 6 ((σ.1 x0 6) + 1))).bind fun r1 =>
  if x2 = false then
  (some (false, r1))
  else
  ((g_X2_expect N x0 38 r1).bind fun r2 =>
  if r2.1 = false then
  (some (false, r2.2))
  else
  (some (true, r2.2)))
set_option maxHeartbeats 4000000 in
theorem l_X2_readClause_119 {N : Mem} {B : Nat} (hN : HN N B) : ∀ (x0 : Nat) (x2 : Bool) (σ : ST), isC 2 x0 → f_X2_readClause_119 (B + x0) x2 (put N B σ) = (g_X2_readClause_119 N x0 x2 σ).bind (fun q => some (q.1, put N B q.2)) := by
  intro x0 x2 σ hx0
  unfold f_X2_readClause_119 g_X2_readClause_119
  refine lg (gI_2_6 hx0) ?_
  refine lp (pF_2_6 hx0) (fun r1 => ?_)
  refine li (fun _ => ?_) (fun _ => ?_)
  · rfl
  · refine lc (l_X2_expect hN hx0) (fun r2 => ?_)
    dsimp only
    refine li (fun _ => ?_) (fun _ => ?_)
    · rfl
    · rfl
noncomputable def g_X2_readClause_40 (N : Mem) (x0 : Nat) (x1 : Int32) (σ : ST) : Option (Bool × ST) :=
  if (σ.1 x0 6) < 24 then
  ((g_X7_advance N 593 σ).bind fun r3 =>
  (yI 72 r3 (x0 + 5) ((r3.1 x0 6) * 3) x1).bind fun r4 =>
  if 3 ≤ x1 then
  ((g_X2_readOrder N x0 x1 r4).bind fun r5 =>
  g_X2_readClause_119 N x0 r5.1 r5.2)
  else
  ((some (setI r4 x0 3 x1)).bind fun r6 =>
  (yI 3 r6 (x0 + 3) x1 (r6.1 x0 5)).bind fun r7 =>
  (g_X2_readSum N x0 r7).bind fun r8 =>
  (yI 3 r8.2 (x0 + 4) x1 (r8.2.1 x0 5)).bind fun r9 =>
  g_X2_readClause_119 N x0 r8.1 r9))
  else
  ((g_X2_refuse N x0 6 σ).bind fun r10 =>
  some (r10.1, r10.2))
set_option maxHeartbeats 4000000 in
theorem l_X2_readClause_40 {N : Mem} {B : Nat} (hN : HN N B) : ∀ (x0 : Nat) (x1 : Int32) (σ : ST), isC 2 x0 → f_X2_readClause_40 (B + x0) x1 (put N B σ) = (g_X2_readClause_40 N x0 x1 σ).bind (fun q => some (q.1, put N B q.2)) := by
  intro x0 x1 σ hx0
  unfold f_X2_readClause_40 g_X2_readClause_40
  refine lg (gI_2_6 hx0) ?_
  refine li (fun _ => ?_) (fun _ => ?_)
  · refine lg (gR_2_0 hx0) ?_
    refine lm (l_X7_advance hN (sh_2_0 hx0)) (fun r3 => ?_)
    refine lg (gR_2_11 hx0) ?_
    refine lg (gI_2_6 hx0) ?_
    refine lm (wI_put (sh_2_11 hx0)) (fun r4 => ?_)
    refine li (fun _ => ?_) (fun _ => ?_)
    · refine lc (l_X2_readOrder hN hx0) (fun r5 => ?_)
      dsimp only
      exact l_X2_readClause_119 hN  _ _ _ hx0
    · refine lp (pF_2_3 hx0) (fun r6 => ?_)
      refine lg (gR_2_9 hx0) ?_
      refine lg (gI_2_5 hx0) ?_
      refine lm (wI_put (sh_2_9 hx0)) (fun r7 => ?_)
      refine lc (l_X2_readSum hN hx0) (fun r8 => ?_)
      dsimp only
      refine lg (gR_2_10 hx0) ?_
      refine lg (gI_2_5 hx0) ?_
      refine lm (wI_put (sh_2_10 hx0)) (fun r9 => ?_)
      exact l_X2_readClause_119 hN  _ _ _ hx0
  · refine lc (l_X2_refuse hN hx0) (fun r10 => ?_)
    dsimp only
    rfl
noncomputable def g_X2_readClause_0 (N : Mem) (x0 : Nat) (σ : ST) : Option (Bool × ST) :=
  if (σ.1 593 2) ≤ 9 then
  (if 3 ≤ (σ.1 593 2) then
  (g_X2_readClause_40 N x0 (σ.1 593 2) σ)
  else
  ((xI 3 σ (x0 + 3) (σ.1 593 2)).bind fun v11 =>
  if v11 < 0 then
  (g_X2_readClause_40 N x0 (σ.1 593 2) σ)
  else
  ((g_X2_refuse N x0 4 σ).bind fun r12 =>
  some (r12.1, r12.2))))
  else
  ((g_X2_refuse N x0 1 σ).bind fun r13 =>
  some (r13.1, r13.2))
set_option maxHeartbeats 4000000 in
theorem l_X2_readClause_0 {N : Mem} {B : Nat} (hN : HN N B) : ∀ (x0 : Nat) (σ : ST), isC 2 x0 → f_X2_readClause_0 (B + x0) (put N B σ) = (g_X2_readClause_0 N x0 σ).bind (fun q => some (q.1, put N B q.2)) := by
  intro x0 σ hx0
  unfold f_X2_readClause_0 g_X2_readClause_0
  refine lg (gR_2_0 hx0) ?_
  refine lg (gI_7_2 (sh_2_0 hx0)) ?_
  refine li (fun _ => ?_) (fun _ => ?_)
  · refine li (fun _ => ?_) (fun _ => ?_)
    · exact l_X2_readClause_40 hN  _ _ _ hx0
    · refine lg (gR_2_9 hx0) ?_
      refine lb (rI_put (sh_2_9 hx0)) (fun v11 => ?_)
      refine li (fun _ => ?_) (fun _ => ?_)
      · exact l_X2_readClause_40 hN  _ _ _ hx0
      · refine lc (l_X2_refuse hN hx0) (fun r12 => ?_)
        dsimp only
        rfl
  · refine lc (l_X2_refuse hN hx0) (fun r13 => ?_)
    dsimp only
    rfl
noncomputable def g_X2_readClause (N : Mem) (x0 : Nat) (σ : ST) : Option (Bool × ST) := g_X2_readClause_0 N x0 σ
theorem l_X2_readClause {N : Mem} {B : Nat} (hN : HN N B) {x0 : Nat} {σ : ST} (hx0 : isC 2 x0) : f_X2_readClause (B + x0) (put N B σ) = (g_X2_readClause N x0 σ).bind (fun q => some (q.1, put N B q.2)) := by
  unfold f_X2_readClause g_X2_readClause
  rw [if_pos (isOb_put hx0)]
  exact l_X2_readClause_0 hN _ _ hx0
noncomputable def g_X2_read_52 (N : Mem) (n0 : Nat) (x0 : Nat) (x1 : Bool) (x2 : Int32) (σ : ST) : Option (Bool × ST) :=
  match n0 with
  | 0 => none
  | n + 1 =>
    if 300 ≤ x2 then
    (some (x1, σ))
    else
    (if x1 = false then
    (some (x1, σ))
    else
    (if (σ.1 593 2) = 41 then
    (some (x1, σ))
    else
    ((g_X2_readClause N x0 σ).bind fun r1 =>
    g_X2_read_52 N n x0 r1.1 (x2 + 1) r1.2)))
set_option maxHeartbeats 4000000 in
theorem l_X2_read_52 {N : Mem} {B : Nat} (hN : HN N B) : ∀ (n : Nat) (x0 : Nat) (x1 : Bool) (x2 : Int32) (σ : ST), isC 2 x0 → f_X2_read_52 n (B + x0) x1 x2 (put N B σ) = (g_X2_read_52 N n x0 x1 x2 σ).bind (fun q => some (q.1, put N B q.2)) := by
  intro n
  induction n with
  | zero =>
    intro x0 x1 x2 σ hx0
    rfl
  | succ n ih =>
    intro x0 x1 x2 σ hx0
    unfold f_X2_read_52 g_X2_read_52
    refine li (fun _ => ?_) (fun _ => ?_)
    · rfl
    · refine li (fun _ => ?_) (fun _ => ?_)
      · rfl
      · refine lg (gR_2_0 hx0) ?_
        refine lg (gI_7_2 (sh_2_0 hx0)) ?_
        refine li (fun _ => ?_) (fun _ => ?_)
        · rfl
        · refine lc (l_X2_readClause hN hx0) (fun r1 => ?_)
          dsimp only
          exact ih _ _ _ _ hx0
noncomputable def g_X2_read_0 (N : Mem) (x0 : Nat) (σ : ST) : Option (Bool × ST) :=
  (some (setI σ x0 1 0)).bind fun r2 =>
  (some (setI r2 x0 2 (-1))).bind fun r3 =>
  (some (setI r3 x0 4 0)).bind fun r4 =>
  (some (setI r4 x0 5 0)).bind fun r5 =>
  (some (setI r5 x0 6 0)).bind fun r6 =>
  (g_fill 3 (x0 + 3) (-1) r6).bind fun r7 =>
  (g_fill 3 (x0 + 4) (-1) r7).bind fun r8 =>
  (g_X7_rewind N 593 r8).bind fun r9 =>
  g_X2_read_52 N fu x0 true 0 r9
set_option maxHeartbeats 4000000 in
theorem l_X2_read_0 {N : Mem} {B : Nat} (hN : HN N B) : ∀ (x0 : Nat) (σ : ST), isC 2 x0 → f_X2_read_0 (B + x0) (put N B σ) = (g_X2_read_0 N x0 σ).bind (fun q => some (q.1, put N B q.2)) := by
  intro x0 σ hx0
  unfold f_X2_read_0 g_X2_read_0
  refine lp (pF_2_1 hx0) (fun r2 => ?_)
  refine lp (pF_2_2 hx0) (fun r3 => ?_)
  refine lp (pF_2_4 hx0) (fun r4 => ?_)
  refine lp (pF_2_5 hx0) (fun r5 => ?_)
  refine lp (pF_2_6 hx0) (fun r6 => ?_)
  refine lg (gR_2_9 hx0) ?_
  refine lm (l_fill (sh_2_9 hx0)) (fun r7 => ?_)
  refine lg (gR_2_10 hx0) ?_
  refine lm (l_fill (sh_2_10 hx0)) (fun r8 => ?_)
  refine lg (gR_2_0 hx0) ?_
  refine lm (l_X7_rewind hN (sh_2_0 hx0)) (fun r9 => ?_)
  exact l_X2_read_52 hN  _ _ _ _ _ hx0
noncomputable def g_X2_read (N : Mem) (x0 : Nat) (σ : ST) : Option (Bool × ST) := g_X2_read_0 N x0 σ
theorem l_X2_read {N : Mem} {B : Nat} (hN : HN N B) {x0 : Nat} {σ : ST} (hx0 : isC 2 x0) : f_X2_read (B + x0) (put N B σ) = (g_X2_read N x0 σ).bind (fun q => some (q.1, put N B q.2)) := by
  unfold f_X2_read g_X2_read
  rw [if_pos (isOb_put hx0)]
  exact l_X2_read_0 hN _ _ hx0
