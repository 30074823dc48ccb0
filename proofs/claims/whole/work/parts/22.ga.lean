noncomputable def g_X0_pop_0 (N : Mem) (x0 : Nat) (σ : ST) : Option (Int32 × ST) :=
  (f_X10_within (σ.1 x0 1) 1 (Int32.ofNat 300)).bind fun v1 =>
  if v1 = true then
  ((some (setI σ x0 1 ((σ.1 x0 1) - 1))).bind fun r2 =>
  (xI 300 r2 (x0 + 1) (r2.1 x0 1)).bind fun v3 =>
  some (v3, r2))
  else
  (some (0, σ))
set_option maxHeartbeats 4000000 in
theorem l_X0_pop_0 {N : Mem} {B : Nat} (hN : HN N B) : ∀ (x0 : Nat) (σ : ST), isC 0 x0 → f_X0_pop_0 (B + x0) (put N B σ) = (g_X0_pop_0 N x0 σ).bind (fun q => some (q.1, put N B q.2)) := by
  intro x0 σ hx0
  unfold f_X0_pop_0 g_X0_pop_0
  refine lg (gI_0_1 hx0) ?_
  refine lg (gR_0_0 hx0) ?_
  refine lg (lnA_put (sh_0_0 hx0)) ?_
  refine lb (rfl) (fun v1 => ?_)
  refine li (fun _ => ?_) (fun _ => ?_)
  · refine lg (gI_0_1 hx0) ?_
    refine lp (pF_0_1 hx0) (fun r2 => ?_)
    refine lg (gR_0_0 hx0) ?_
    refine lg (gI_0_1 hx0) ?_
    refine lb (rI_put (sh_0_0 hx0)) (fun v3 => ?_)
    rfl
  · rfl
noncomputable def g_X0_pop (N : Mem) (x0 : Nat) (σ : ST) : Option (Int32 × ST) := g_X0_pop_0 N x0 σ
theorem l_X0_pop {N : Mem} {B : Nat} (hN : HN N B) {x0 : Nat} {σ : ST} (hx0 : isC 0 x0) : f_X0_pop (B + x0) (put N B σ) = (g_X0_pop N x0 σ).bind (fun q => some (q.1, put N B q.2)) := by
  unfold f_X0_pop g_X0_pop
  rw [if_pos (isOb_put hx0)]
  exact l_X0_pop_0 hN _ _ hx0
noncomputable def g_X0_push_0 (N : Mem) (x0 : Nat) (x1 : Int32) (σ : ST) : Option (ST) :=
  (f_X10_within (σ.1 x0 1) 0 ((Int32.ofNat 300) - 1)).bind fun v1 =>
  if v1 = false then
  (some σ)
  else
  ((yI 300 σ (x0 + 1) (σ.1 x0 1) x1).bind fun r2 =>
  (some (setI r2 x0 1 ((r2.1 x0 1) + 1))).bind fun r3 =>
  some r3)
set_option maxHeartbeats 4000000 in
theorem l_X0_push_0 {N : Mem} {B : Nat} (hN : HN N B) : ∀ (x0 : Nat) (x1 : Int32) (σ : ST), isC 0 x0 → f_X0_push_0 (B + x0) x1 (put N B σ) = (g_X0_push_0 N x0 x1 σ).bind (fun q => some (put N B q)) := by
  intro x0 x1 σ hx0
  unfold f_X0_push_0 g_X0_push_0
  refine lg (gI_0_1 hx0) ?_
  refine lg (gR_0_0 hx0) ?_
  refine lg (lnA_put (sh_0_0 hx0)) ?_
  refine lb (rfl) (fun v1 => ?_)
  refine li (fun _ => ?_) (fun _ => ?_)
  · rfl
  · refine lg (gR_0_0 hx0) ?_
    refine lg (gI_0_1 hx0) ?_
    refine lm (wI_put (sh_0_0 hx0)) (fun r2 => ?_)
    refine lg (gI_0_1 hx0) ?_
    refine lp (pF_0_1 hx0) (fun r3 => ?_)
    rfl
noncomputable def g_X0_push (N : Mem) (x0 : Nat) (x1 : Int32) (σ : ST) : Option (ST) := g_X0_push_0 N x0 x1 σ
theorem l_X0_push {N : Mem} {B : Nat} (hN : HN N B) {x0 : Nat} {x1 : Int32} {σ : ST} (hx0 : isC 0 x0) : f_X0_push (B + x0) x1 (put N B σ) = (g_X0_push N x0 x1 σ).map (put N B) := by
  unfold f_X0_push g_X0_push
  rw [if_pos (isOb_put hx0)]
  exact lmap (l_X0_push_0 hN _ _ _ hx0)
noncomputable def g_X0_named_0 (N : Mem) (x0 : Int32) (x1 : Nat) (x2 : Int32) (σ : ST) : Option (Int32) :=
  if x0 = 8 then
  ((xI 5 σ (x1 + 4) x2).bind fun v1 =>
  some v1)
  else
  (if x0 = 9 then
  (some (σ.1 x1 1))
  else
  (if x0 = 10 then
  ((xI 5 σ (x1 + 1) x2).bind fun v2 =>
  some v2)
  else
  (if x0 = 11 then
  ((xI 5 σ (x1 + 3) x2).bind fun v3 =>
  some v3)
  else
  (if x0 = 12 then
  ((xI 5 σ (x1 + 5) x2).bind fun v4 =>
  some v4)
  else
  (if x0 = 13 then
  (some x2)
  else
  (if x0 = 14 then
  ((xI 5 σ (x1 + 6) x2).bind fun v5 =>
  some v5)
  else
  (if x0 = 15 then
  ((xI 5 σ (x1 + 6) x2).bind fun v6 =>
  (xI 5 σ (x1 + 5) x2).bind fun v7 =>
  (f_X10_digitCount v7).bind fun v8 =>
  if v6 = v8 then
  (some 1)
  else
  (some 0))
  else
  (some 0))))))))
set_option maxHeartbeats 4000000 in
theorem l_X0_named_0 {N : Mem} {B : Nat} (hN : HN N B) : ∀ (x0 : Int32) (x1 : Nat) (x2 : Int32) (σ : ST), isC 9 x1 → f_X0_named_0 x0 (B + x1) x2 (put N B σ) = (g_X0_named_0 N x0 x1 x2 σ).bind some := by
  intro x0 x1 x2 σ hx1
  unfold f_X0_named_0 g_X0_named_0
  refine li (fun _ => ?_) (fun _ => ?_)
  · refine lg (gR_9_7 hx1) ?_
    refine lb (rI_put (sh_9_7 hx1)) (fun v1 => ?_)
    rfl
  refine li (fun _ => ?_) (fun _ => ?_)
  · refine lg (gI_9_1 hx1) ?_
    rfl
  refine li (fun _ => ?_) (fun _ => ?_)
  · refine lg (gR_9_4 hx1) ?_
    refine lb (rI_put (sh_9_4 hx1)) (fun v2 => ?_)
    rfl
  refine li (fun _ => ?_) (fun _ => ?_)
  · refine lg (gR_9_6 hx1) ?_
    refine lb (rI_put (sh_9_6 hx1)) (fun v3 => ?_)
    rfl
  refine li (fun _ => ?_) (fun _ => ?_)
  · refine lg (gR_9_8 hx1) ?_
    refine lb (rI_put (sh_9_8 hx1)) (fun v4 => ?_)
    rfl
  refine li (fun _ => ?_) (fun _ => ?_)
  · rfl
  refine li (fun _ => ?_) (fun _ => ?_)
  · refine lg (gR_9_9 hx1) ?_
    refine lb (rI_put (sh_9_9 hx1)) (fun v5 => ?_)
    rfl
  refine li (fun _ => ?_) (fun _ => ?_)
  · refine lg (gR_9_9 hx1) ?_
    refine lb (rI_put (sh_9_9 hx1)) (fun v6 => ?_)
    refine lg (gR_9_8 hx1) ?_
    refine lb (rI_put (sh_9_8 hx1)) (fun v7 => ?_)
    refine lb (rfl) (fun v8 => ?_)
    refine li (fun _ => ?_) (fun _ => ?_)
    · rfl
    · rfl
  rfl
noncomputable def g_X0_named (N : Mem) (x0 : Int32) (x1 : Nat) (x2 : Int32) (σ : ST) : Option (Int32) := g_X0_named_0 N x0 x1 x2 σ
theorem l_X0_named {N : Mem} {B : Nat} (hN : HN N B) {x0 : Int32} {x1 : Nat} {x2 : Int32} {σ : ST} (hx1 : isC 9 x1) : f_X0_named x0 (B + x1) x2 (put N B σ) = g_X0_named N x0 x1 x2 σ := by
  unfold f_X0_named g_X0_named
  exact lsm (l_X0_named_0 hN _ _ _ _ hx1)
noncomputable def g_X9_has_0 (N : Mem) (x0 : Nat) (x1 : Int32) (σ : ST) : Option (Bool) :=
  if x1 < 0 then
  (some false)
  else
  (if (σ.1 x0 0) ≤ x1 then
  (some false)
  else
  (if 5 ≤ x1 then
  (some false)
  else
  (some true)))
set_option maxHeartbeats 4000000 in
theorem l_X9_has_0 {N : Mem} {B : Nat} (hN : HN N B) : ∀ (x0 : Nat) (x1 : Int32) (σ : ST), isC 9 x0 → f_X9_has_0 (B + x0) x1 (put N B σ) = (g_X9_has_0 N x0 x1 σ).bind some := by
  intro x0 x1 σ hx0
  unfold f_X9_has_0 g_X9_has_0
  refine li (fun _ => ?_) (fun _ => ?_)
  · rfl
  · refine lg (gI_9_0 hx0) ?_
    refine li (fun _ => ?_) (fun _ => ?_)
    · rfl
    · refine li (fun _ => ?_) (fun _ => ?_)
      · rfl
      · rfl
noncomputable def g_X9_has (N : Mem) (x0 : Nat) (x1 : Int32) (σ : ST) : Option (Bool) := g_X9_has_0 N x0 x1 σ
theorem l_X9_has {N : Mem} {B : Nat} (hN : HN N B) {x0 : Nat} {x1 : Int32} {σ : ST} (hx0 : isC 9 x0) : f_X9_has (B + x0) x1 (put N B σ) = g_X9_has N x0 x1 σ := by
  unfold f_X9_has g_X9_has
  rw [if_pos (isOb_put hx0)]
  exact lsm (l_X9_has_0 hN _ _ _ hx0)
noncomputable def g_X0_ofOne_0 (N : Mem) (x0 : Int32) (x1 : Int32) (x2 : Nat) (σ : ST) : Option (Int32) :=
  if x0 = 19 then
  ((g_X9_has N x2 x1 σ).bind fun v1 =>
  if v1 = false then
  (some 0)
  else
  ((xI 5 σ (x2 + 5) x1).bind fun v2 =>
  some v2))
  else
  (if x0 = 26 then
  (if x1 = 0 then
  (some 1)
  else
  (some 0))
  else
  (if x0 = 43 then
  (some (-x1))
  else
  ((f_X0_crossSum (jabs x1)).bind fun v3 =>
  some v3)))
set_option maxHeartbeats 4000000 in
theorem l_X0_ofOne_0 {N : Mem} {B : Nat} (hN : HN N B) : ∀ (x0 : Int32) (x1 : Int32) (x2 : Nat) (σ : ST), isC 9 x2 → f_X0_ofOne_0 x0 x1 (B + x2) (put N B σ) = (g_X0_ofOne_0 N x0 x1 x2 σ).bind some := by
  intro x0 x1 x2 σ hx2
  unfold f_X0_ofOne_0 g_X0_ofOne_0
  refine li (fun _ => ?_) (fun _ => ?_)
  · refine lb (l_X9_has hN hx2) (fun v1 => ?_)
    refine li (fun _ => ?_) (fun _ => ?_)
    · rfl
    · refine lg (gR_9_8 hx2) ?_
      refine lb (rI_put (sh_9_8 hx2)) (fun v2 => ?_)
      rfl
  refine li (fun _ => ?_) (fun _ => ?_)
  · refine li (fun _ => ?_) (fun _ => ?_)
    · rfl
    · rfl
  refine li (fun _ => ?_) (fun _ => ?_)
  · rfl
  refine lb (rfl) (fun v3 => ?_)
  rfl
noncomputable def g_X0_ofOne (N : Mem) (x0 : Int32) (x1 : Int32) (x2 : Nat) (σ : ST) : Option (Int32) := g_X0_ofOne_0 N x0 x1 x2 σ
theorem l_X0_ofOne {N : Mem} {B : Nat} (hN : HN N B) {x0 : Int32} {x1 : Int32} {x2 : Nat} {σ : ST} (hx2 : isC 9 x2) : f_X0_ofOne x0 x1 (B + x2) (put N B σ) = g_X0_ofOne N x0 x1 x2 σ := by
  unfold f_X0_ofOne g_X0_ofOne
  exact lsm (l_X0_ofOne_0 hN _ _ _ _ hx2)
noncomputable def g_X0_asked_178 (N : Mem) (k33 : Nat → Option Nat → Nat → Int32 → Int32 → Int32 → ST → Option (Int32 × ST)) (x0 : Nat) (x1 : Option Nat) (x3 : Nat) (x4 : Int32) (x5 : Int32) (x6 : Int32) (x7 : Int32) (σ : ST) : Option (Int32 × ST) :=
  (g_X0_pop N x0 σ).bind fun r1 =>
  (g_X0_ofOne N x7 r1.1 x3 r1.2).bind fun v2 =>
  (g_X0_push N x0 v2 r1.2).bind fun r3 =>
  k33 x0 x1 x3 x4 x5 (x6 + 1) r3
set_option maxHeartbeats 4000000 in
theorem l_X0_asked_178 {N : Mem} {B : Nat} (hN : HN N B) {fk33 : Nat → Option Nat → Nat → Int32 → Int32 → Int32 → Mem → Option (Int32 × Mem)} {k33 : Nat → Option Nat → Nat → Int32 → Int32 → Int32 → ST → Option (Int32 × ST)} (hk33 : ∀ (x0 : Nat) (x1 : Option Nat) (x3 : Nat) (x4 : Int32) (x5 : Int32) (x6 : Int32) (σ : ST), isC 0 x0 → isC 9 x3 → fk33 (B + x0) x1 (B + x3) x4 x5 x6 (put N B σ) = (k33 x0 x1 x3 x4 x5 x6 σ).bind (fun q => some (q.1, put N B q.2))) : ∀ (x0 : Nat) (x1 : Option Nat) (x3 : Nat) (x4 : Int32) (x5 : Int32) (x6 : Int32) (x7 : Int32) (σ : ST), isC 0 x0 → isC 9 x3 → f_X0_asked_178 fk33 (B + x0) x1 (B + x3) x4 x5 x6 x7 (put N B σ) = (g_X0_asked_178 N k33 x0 x1 x3 x4 x5 x6 x7 σ).bind (fun q => some (q.1, put N B q.2)) := by
  intro x0 x1 x3 x4 x5 x6 x7 σ hx0 hx3
  unfold f_X0_asked_178 g_X0_asked_178
  refine lc (l_X0_pop hN hx0) (fun r1 => ?_)
  dsimp only
  refine lb (l_X0_ofOne hN hx3) (fun v2 => ?_)
  refine lm (l_X0_push hN hx0) (fun r3 => ?_)
  exact hk33 _ _ _ _ _ _ _ hx0 hx3
noncomputable def g_X0_asked_33 (N : Mem) (n0 : Nat) (x0 : Nat) (x1 : Option Nat) (x3 : Nat) (x4 : Int32) (x5 : Int32) (x6 : Int32) (σ : ST) : Option (Int32 × ST) :=
  match n0 with
  | 0 => none
  | n + 1 =>
    if x5 ≤ x6 then
    ((g_X0_pop N x0 σ).bind fun r4 =>
    some (r4.1, r4.2))
    else
    ((x1).bind fun t5 =>
    (gR N 8 t5 0).bind fun u6 =>
    (rI N u6 x6).bind fun v7 =>
    (gR N 8 t5 1).bind fun u8 =>
    (rI N u8 x6).bind fun v9 =>
    if v7 = 21 then
    ((g_X0_pop N x0 σ).bind fun r17 =>
    if r17.1 = 0 then
    (g_X0_asked_33 N n x0 (some t5) x3 x4 x5 ((jmax x6 (v9 - 1)) + 1) r17.2)
    else
    (g_X0_asked_33 N n x0 (some t5) x3 x4 x5 (x6 + 1) r17.2))
    else
    (if v7 = 22 then
    (g_X0_asked_33 N n x0 (some t5) x3 x4 x5 ((jmax x6 (v9 - 1)) + 1) σ)
    else
    (if v7 = 27 then
    ((g_X0_push N x0 v9 σ).bind fun r16 =>
    g_X0_asked_33 N n x0 (some t5) x3 x4 x5 (x6 + 1) r16)
    else
    (if 15 < v7 then
    (if v7 = 18 then
    (g_X0_asked_178 N (g_X0_asked_33 N n) x0 (some t5) x3 x4 x5 x6 v7 σ)
    else
    (if v7 = 19 then
    (g_X0_asked_178 N (g_X0_asked_33 N n) x0 (some t5) x3 x4 x5 x6 v7 σ)
    else
    (if v7 = 26 then
    (g_X0_asked_178 N (g_X0_asked_33 N n) x0 (some t5) x3 x4 x5 x6 v7 σ)
    else
    (if v7 = 43 then
    (g_X0_asked_178 N (g_X0_asked_33 N n) x0 (some t5) x3 x4 x5 x6 v7 σ)
    else
    ((g_X0_pop N x0 σ).bind fun r10 =>
    (g_X0_pop N x0 r10.2).bind fun r11 =>
    (f_X0_ofTwo v7 r11.1 r10.1).bind fun v12 =>
    (g_X0_push N x0 v12 r11.2).bind fun r13 =>
    g_X0_asked_33 N n x0 (some t5) x3 x4 x5 (x6 + 1) r13)))))
    else
    ((g_X0_named N v7 x3 x4 σ).bind fun v14 =>
    (g_X0_push N x0 v14 σ).bind fun r15 =>
    g_X0_asked_33 N n x0 (some t5) x3 x4 x5 (x6 + 1) r15)))))
set_option maxHeartbeats 4000000 in
theorem l_X0_asked_33 {N : Mem} {B : Nat} (hN : HN N B) : ∀ (n : Nat) (x0 : Nat) (x1 : Option Nat) (x3 : Nat) (x4 : Int32) (x5 : Int32) (x6 : Int32) (σ : ST), isC 0 x0 → isC 9 x3 → f_X0_asked_33 n (B + x0) x1 (B + x3) x4 x5 x6 (put N B σ) = (g_X0_asked_33 N n x0 x1 x3 x4 x5 x6 σ).bind (fun q => some (q.1, put N B q.2)) := by
  intro n
  induction n with
  | zero =>
    intro x0 x1 x3 x4 x5 x6 σ hx0 hx3
    rfl
  | succ n ih =>
    intro x0 x1 x3 x4 x5 x6 σ hx0 hx3
    unfold f_X0_asked_33 g_X0_asked_33
    refine li (fun _ => ?_) (fun _ => ?_)
    · refine lc (l_X0_pop hN hx0) (fun r4 => ?_)
      dsimp only
      rfl
    · refine lb (rfl) (fun t5 => ?_)
      refine lbe (gR_out hN) (fun u6 eu6 => ?_)
      refine lb (rI_out (hN.2 _ _ _ eu6)) (fun v7 => ?_)
      refine lbe (gR_out hN) (fun u8 eu8 => ?_)
      refine lb (rI_out (hN.2 _ _ _ eu8)) (fun v9 => ?_)
      refine li (fun _ => ?_) (fun _ => ?_)
      · refine lc (l_X0_pop hN hx0) (fun r17 => ?_)
        dsimp only
        refine li (fun _ => ?_) (fun _ => ?_)
        · exact ih _ _ _ _ _ _ _ hx0 hx3
        · exact ih _ _ _ _ _ _ _ hx0 hx3
      · refine li (fun _ => ?_) (fun _ => ?_)
        · exact ih _ _ _ _ _ _ _ hx0 hx3
        · refine li (fun _ => ?_) (fun _ => ?_)
          · refine lm (l_X0_push hN hx0) (fun r16 => ?_)
            exact ih _ _ _ _ _ _ _ hx0 hx3
          · refine li (fun _ => ?_) (fun _ => ?_)
            · refine li (fun _ => ?_) (fun _ => ?_)
              · exact l_X0_asked_178 hN ih _ _ _ _ _ _ _ _ hx0 hx3
              · refine li (fun _ => ?_) (fun _ => ?_)
                · exact l_X0_asked_178 hN ih _ _ _ _ _ _ _ _ hx0 hx3
                · refine li (fun _ => ?_) (fun _ => ?_)
                  · exact l_X0_asked_178 hN ih _ _ _ _ _ _ _ _ hx0 hx3
                  · refine li (fun _ => ?_) (fun _ => ?_)
                    · exact l_X0_asked_178 hN ih _ _ _ _ _ _ _ _ hx0 hx3
                    · refine lc (l_X0_pop hN hx0) (fun r10 => ?_)
                      dsimp only
                      refine lc (l_X0_pop hN hx0) (fun r11 => ?_)
                      dsimp only
                      refine lb (rfl) (fun v12 => ?_)
                      refine lm (l_X0_push hN hx0) (fun r13 => ?_)
                      exact ih _ _ _ _ _ _ _ hx0 hx3
            · refine lb (l_X0_named hN hx3) (fun v14 => ?_)
              refine lm (l_X0_push hN hx0) (fun r15 => ?_)
              exact ih _ _ _ _ _ _ _ hx0 hx3
noncomputable def g_X0_asked_0 (N : Mem) (x0 : Nat) (x1 : Option Nat) (x2 : Int32) (x3 : Nat) (x4 : Int32) (σ : ST) : Option (Int32 × ST) :=
  (some (setI σ x0 1 0)).bind fun r18 =>
  (x1).bind fun t19 =>
  (gR N 8 t19 3).bind fun u20 =>
  (rI N u20 x2).bind fun v21 =>
  (gR N 8 t19 0).bind fun u22 =>
  (lnA N u22).bind fun v23 =>
  (gR N 8 t19 2).bind fun u24 =>
  (rI N u24 x2).bind fun v25 =>
  g_X0_asked_33 N fu x0 (some t19) x3 x4 (jmin v21 v23) (jmax 0 v25) r18
set_option maxHeartbeats 4000000 in
theorem l_X0_asked_0 {N : Mem} {B : Nat} (hN : HN N B) : ∀ (x0 : Nat) (x1 : Option Nat) (x2 : Int32) (x3 : Nat) (x4 : Int32) (σ : ST), isC 0 x0 → isC 9 x3 → f_X0_asked_0 (B + x0) x1 x2 (B + x3) x4 (put N B σ) = (g_X0_asked_0 N x0 x1 x2 x3 x4 σ).bind (fun q => some (q.1, put N B q.2)) := by
  intro x0 x1 x2 x3 x4 σ hx0 hx3
  unfold f_X0_asked_0 g_X0_asked_0
  refine lp (pF_0_1 hx0) (fun r18 => ?_)
  refine lb (rfl) (fun t19 => ?_)
  refine lbe (gR_out hN) (fun u20 eu20 => ?_)
  refine lb (rI_out (hN.2 _ _ _ eu20)) (fun v21 => ?_)
  refine lbe (gR_out hN) (fun u22 eu22 => ?_)
  refine lb (lnA_out (hN.2 _ _ _ eu22)) (fun v23 => ?_)
  refine lbe (gR_out hN) (fun u24 eu24 => ?_)
  refine lb (rI_out (hN.2 _ _ _ eu24)) (fun v25 => ?_)
  exact l_X0_asked_33 hN  _ _ _ _ _ _ _ _ hx0 hx3
noncomputable def g_X0_asked (N : Mem) (x0 : Nat) (x1 : Option Nat) (x2 : Int32) (x3 : Nat) (x4 : Int32) (σ : ST) : Option (Int32 × ST) := g_X0_asked_0 N x0 x1 x2 x3 x4 σ
theorem l_X0_asked {N : Mem} {B : Nat} (hN : HN N B) {x0 : Nat} {x1 : Option Nat} {x2 : Int32} {x3 : Nat} {x4 : Int32} {σ : ST} (hx0 : isC 0 x0) (hx3 : isC 9 x3) : f_X0_asked (B + x0) x1 x2 (B + x3) x4 (put N B σ) = (g_X0_asked N x0 x1 x2 x3 x4 σ).bind (fun q => some (q.1, put N B q.2)) := by
  unfold f_X0_asked g_X0_asked
  rw [if_pos (isOb_put hx0)]
  exact l_X0_asked_0 hN _ _ _ _ _ _ hx0 hx3
noncomputable def g_X0_loose_0 (N : Mem) (x0 : Nat) (x1 : Option Nat) (x2 : Nat) (x3 : Int32) (σ : ST) : Option (Int32 × ST) :=
  (xI 5 σ (x2 + 4) x3).bind fun v1 =>
  (xI 5 σ (x2 + 1) x3).bind fun v2 =>
  if x1 = none then
  (some ((jmax 0 (jmin 10 (v1 - (v2 / 3)))), σ))
  else
  ((x1).bind fun t3 =>
  (f_X8_hasLaw t3 0 N).bind fun v4 =>
  if v4 = false then
  (some ((jmax 0 (jmin 10 (v1 - (v2 / 3)))), σ))
  else
  ((g_X0_asked N x0 (some t3) 0 x2 x3 σ).bind fun r5 =>
  some ((jmax 0 (jmin 10 r5.1)), r5.2)))
set_option maxHeartbeats 4000000 in
theorem l_X0_loose_0 {N : Mem} {B : Nat} (hN : HN N B) : ∀ (x0 : Nat) (x1 : Option Nat) (x2 : Nat) (x3 : Int32) (σ : ST), isC 0 x0 → isC 9 x2 → f_X0_loose_0 (B + x0) x1 (B + x2) x3 (put N B σ) = (g_X0_loose_0 N x0 x1 x2 x3 σ).bind (fun q => some (q.1, put N B q.2)) := by
  intro x0 x1 x2 x3 σ hx0 hx2
  unfold f_X0_loose_0 g_X0_loose_0
  refine lg (gR_9_7 hx2) ?_
  refine lb (rI_put (sh_9_7 hx2)) (fun v1 => ?_)
  refine lg (gR_9_4 hx2) ?_
  refine lb (rI_put (sh_9_4 hx2)) (fun v2 => ?_)
  refine li (fun _ => ?_) (fun _ => ?_)
  · rfl
  · refine lb (rfl) (fun t3 => ?_)
    refine lb (l_X8_hasLaw hN) (fun v4 => ?_)
    refine li (fun _ => ?_) (fun _ => ?_)
    · rfl
    · refine lc (l_X0_asked hN hx0 hx2) (fun r5 => ?_)
      dsimp only
      rfl
noncomputable def g_X0_loose (N : Mem) (x0 : Nat) (x1 : Option Nat) (x2 : Nat) (x3 : Int32) (σ : ST) : Option (Int32 × ST) := g_X0_loose_0 N x0 x1 x2 x3 σ
theorem l_X0_loose {N : Mem} {B : Nat} (hN : HN N B) {x0 : Nat} {x1 : Option Nat} {x2 : Nat} {x3 : Int32} {σ : ST} (hx0 : isC 0 x0) (hx2 : isC 9 x2) : f_X0_loose (B + x0) x1 (B + x2) x3 (put N B σ) = (g_X0_loose N x0 x1 x2 x3 σ).bind (fun q => some (q.1, put N B q.2)) := by
  unfold f_X0_loose g_X0_loose
  rw [if_pos (isOb_put hx0)]
  exact l_X0_loose_0 hN _ _ _ _ _ hx0 hx2
noncomputable def g_X0_believes_0 (N : Mem) (x0 : Nat) (x1 : Option Nat) (x2 : Nat) (x3 : Int32) (σ : ST) : Option (Int32 × ST) :=
  if x1 = none then
  (some ((jmax 0 (jmin 10 2)), σ))
  else
  ((x1).bind fun t1 =>
  (f_X8_hasLaw t1 1 N).bind fun v2 =>
  if v2 = false then
  (some ((jmax 0 (jmin 10 2)), σ))
  else
  ((g_X0_asked N x0 (some t1) 1 x2 x3 σ).bind fun r3 =>
  some ((jmax 0 (jmin 10 r3.1)), r3.2)))
set_option maxHeartbeats 4000000 in
theorem l_X0_believes_0 {N : Mem} {B : Nat} (hN : HN N B) : ∀ (x0 : Nat) (x1 : Option Nat) (x2 : Nat) (x3 : Int32) (σ : ST), isC 0 x0 → isC 9 x2 → f_X0_believes_0 (B + x0) x1 (B + x2) x3 (put N B σ) = (g_X0_believes_0 N x0 x1 x2 x3 σ).bind (fun q => some (q.1, put N B q.2)) := by
  intro x0 x1 x2 x3 σ hx0 hx2
  unfold f_X0_believes_0 g_X0_believes_0
  refine li (fun _ => ?_) (fun _ => ?_)
  · rfl
  · refine lb (rfl) (fun t1 => ?_)
    refine lb (l_X8_hasLaw hN) (fun v2 => ?_)
    refine li (fun _ => ?_) (fun _ => ?_)
    · rfl
    · refine lc (l_X0_asked hN hx0 hx2) (fun r3 => ?_)
      dsimp only
      rfl
noncomputable def g_X0_believes (N : Mem) (x0 : Nat) (x1 : Option Nat) (x2 : Nat) (x3 : Int32) (σ : ST) : Option (Int32 × ST) := g_X0_believes_0 N x0 x1 x2 x3 σ
theorem l_X0_believes {N : Mem} {B : Nat} (hN : HN N B) {x0 : Nat} {x1 : Option Nat} {x2 : Nat} {x3 : Int32} {σ : ST} (hx0 : isC 0 x0) (hx2 : isC 9 x2) : f_X0_believes (B + x0) x1 (B + x2) x3 (put N B σ) = (g_X0_believes N x0 x1 x2 x3 σ).bind (fun q => some (q.1, put N B q.2)) := by
  unfold f_X0_believes g_X0_believes
  rw [if_pos (isOb_put hx0)]
  exact l_X0_believes_0 hN _ _ _ _ _ hx0 hx2
noncomputable def g_X0_wears_14 (N : Mem) (x0 : Nat) (x1 : Option Nat) (x2 : Nat) (x3 : Int32) (s0 : Bool) (σ : ST) : Option (Int32 × ST) :=
  if x1 = none then
  (some ((jmax 0 (jmin 9 (jz s0))), σ))
  else
  ((x1).bind fun t1 =>
  (f_X8_hasLaw t1 2 N).bind fun v2 =>
  if v2 = false then
  (some ((jmax 0 (jmin 9 (jz s0))), σ))
  else
  ((g_X0_asked N x0 (some t1) 2 x2 x3 σ).bind fun r3 =>
  some ((jmax 0 (jmin 9 r3.1)), r3.2)))
set_option maxHeartbeats 4000000 in
theorem l_X0_wears_14 {N : Mem} {B : Nat} (hN : HN N B) : ∀ (x0 : Nat) (x1 : Option Nat) (x2 : Nat) (x3 : Int32) (s0 : Bool) (σ : ST), isC 0 x0 → isC 9 x2 → f_X0_wears_14 (B + x0) x1 (B + x2) x3 s0 (put N B σ) = (g_X0_wears_14 N x0 x1 x2 x3 s0 σ).bind (fun q => some (q.1, put N B q.2)) := by
  intro x0 x1 x2 x3 s0 σ hx0 hx2
  unfold f_X0_wears_14 g_X0_wears_14
  refine li (fun _ => ?_) (fun _ => ?_)
  · rfl
  · refine lb (rfl) (fun t1 => ?_)
    refine lb (l_X8_hasLaw hN) (fun v2 => ?_)
    refine li (fun _ => ?_) (fun _ => ?_)
    · rfl
    · refine lc (l_X0_asked hN hx0 hx2) (fun r3 => ?_)
      dsimp only
      rfl
noncomputable def g_X0_wears_0 (N : Mem) (x0 : Nat) (x1 : Option Nat) (x2 : Nat) (x3 : Int32) (σ : ST) : Option (Int32 × ST) :=
  (xI 5 σ (x2 + 4) x3).bind fun v4 =>
  if v4 = 0 then
  (g_X0_wears_14 N x0 x1 x2 x3 true σ)
  else
  (g_X0_wears_14 N x0 x1 x2 x3 false σ)
set_option maxHeartbeats 4000000 in
theorem l_X0_wears_0 {N : Mem} {B : Nat} (hN : HN N B) : ∀ (x0 : Nat) (x1 : Option Nat) (x2 : Nat) (x3 : Int32) (σ : ST), isC 0 x0 → isC 9 x2 → f_X0_wears_0 (B + x0) x1 (B + x2) x3 (put N B σ) = (g_X0_wears_0 N x0 x1 x2 x3 σ).bind (fun q => some (q.1, put N B q.2)) := by
  intro x0 x1 x2 x3 σ hx0 hx2
  unfold f_X0_wears_0 g_X0_wears_0
  refine lg (gR_9_7 hx2) ?_
  refine lb (rI_put (sh_9_7 hx2)) (fun v4 => ?_)
  refine li (fun _ => ?_) (fun _ => ?_)
  · exact l_X0_wears_14 hN  _ _ _ _ _ _ hx0 hx2
  · exact l_X0_wears_14 hN  _ _ _ _ _ _ hx0 hx2
noncomputable def g_X0_wears (N : Mem) (x0 : Nat) (x1 : Option Nat) (x2 : Nat) (x3 : Int32) (σ : ST) : Option (Int32 × ST) := g_X0_wears_0 N x0 x1 x2 x3 σ
theorem l_X0_wears {N : Mem} {B : Nat} (hN : HN N B) {x0 : Nat} {x1 : Option Nat} {x2 : Nat} {x3 : Int32} {σ : ST} (hx0 : isC 0 x0) (hx2 : isC 9 x2) : f_X0_wears (B + x0) x1 (B + x2) x3 (put N B σ) = (g_X0_wears N x0 x1 x2 x3 σ).bind (fun q => some (q.1, put N B q.2)) := by
  unfold f_X0_wears g_X0_wears
  rw [if_pos (isOb_put hx0)]
  exact l_X0_wears_0 hN _ _ _ _ _ hx0 hx2
noncomputable def g_X9_renewX_0 (N : Mem) (x0 : Nat) (σ : ST) : Option (ST) :=
  (some (setI σ x0 2 (jrem (((σ.1 x0 2) * 433) + 313) 30557))).bind fun r1 =>
  some r1
set_option maxHeartbeats 4000000 in
theorem l_X9_renewX_0 {N : Mem} {B : Nat} (hN : HN N B) : ∀ (x0 : Nat) (σ : ST), isC 9 x0 → f_X9_renewX_0 (B + x0) (put N B σ) = (g_X9_renewX_0 N x0 σ).bind (fun q => some (put N B q)) := by
  intro x0 σ hx0
  unfold f_X9_renewX_0 g_X9_renewX_0
  refine lg (gI_9_2 hx0) ?_
  refine lp (pF_9_2 hx0) (fun r1 => ?_)
  rfl
noncomputable def g_X9_renewX (N : Mem) (x0 : Nat) (σ : ST) : Option (ST) := g_X9_renewX_0 N x0 σ
theorem l_X9_renewX {N : Mem} {B : Nat} (hN : HN N B) {x0 : Nat} {σ : ST} (hx0 : isC 9 x0) : f_X9_renewX (B + x0) (put N B σ) = (g_X9_renewX N x0 σ).map (put N B) := by
  unfold f_X9_renewX g_X9_renewX
  rw [if_pos (isOb_put hx0)]
  exact lmap (l_X9_renewX_0 hN _ _ hx0)
noncomputable def g_X9_draw_0 (N : Mem) (x0 : Nat) (σ : ST) : Option (Int32 × ST) :=
  (g_X9_renewX N x0 σ).bind fun r1 =>
  some ((jrem (σ.1 x0 2) 10), r1)
set_option maxHeartbeats 4000000 in
theorem l_X9_draw_0 {N : Mem} {B : Nat} (hN : HN N B) : ∀ (x0 : Nat) (σ : ST), isC 9 x0 → f_X9_draw_0 (B + x0) (put N B σ) = (g_X9_draw_0 N x0 σ).bind (fun q => some (q.1, put N B q.2)) := by
  intro x0 σ hx0
  unfold f_X9_draw_0 g_X9_draw_0
  refine lg (gI_9_2 hx0) ?_
  refine lm (l_X9_renewX hN hx0) (fun r1 => ?_)
  rfl
noncomputable def g_X9_draw (N : Mem) (x0 : Nat) (σ : ST) : Option (Int32 × ST) := g_X9_draw_0 N x0 σ
theorem l_X9_draw {N : Mem} {B : Nat} (hN : HN N B) {x0 : Nat} {σ : ST} (hx0 : isC 9 x0) : f_X9_draw (B + x0) (put N B σ) = (g_X9_draw N x0 σ).bind (fun q => some (q.1, put N B q.2)) := by
  unfold f_X9_draw g_X9_draw
  rw [if_pos (isOb_put hx0)]
  exact l_X9_draw_0 hN _ _ hx0
noncomputable def g_X9_printDigit_0 (N : Mem) (x0 : Nat) (x1 : Int32) (x2 : Int32) (σ : ST) : Option (ST) :=
  (xI 5 σ (x0 + 6) x1).bind fun v1 =>
  (f_X10_within v1 0 11).bind fun v2 =>
  if v2 = false then
  (some σ)
  else
  ((yI 60 σ (x0 + 7) ((x1 * 12) + v1) x2).bind fun r3 =>
  (yI 5 r3 (x0 + 6) x1 (v1 + 1)).bind fun r4 =>
  some r4)
set_option maxHeartbeats 4000000 in
theorem l_X9_printDigit_0 {N : Mem} {B : Nat} (hN : HN N B) : ∀ (x0 : Nat) (x1 : Int32) (x2 : Int32) (σ : ST), isC 9 x0 → f_X9_printDigit_0 (B + x0) x1 x2 (put N B σ) = (g_X9_printDigit_0 N x0 x1 x2 σ).bind (fun q => some (put N B q)) := by
  intro x0 x1 x2 σ hx0
  unfold f_X9_printDigit_0 g_X9_printDigit_0
  refine lg (gR_9_9 hx0) ?_
  refine lb (rI_put (sh_9_9 hx0)) (fun v1 => ?_)
  refine lb (rfl) (fun v2 => ?_)
  refine li (fun _ => ?_) (fun _ => ?_)
  · rfl
  · refine lg (gR_9_10 hx0) ?_
    refine lm (wI_put (sh_9_10 hx0)) (fun r3 => ?_)
    refine lg (gR_9_9 hx0) ?_
    refine lm (wI_put (sh_9_9 hx0)) (fun r4 => ?_)
    rfl
noncomputable def g_X9_printDigit (N : Mem) (x0 : Nat) (x1 : Int32) (x2 : Int32) (σ : ST) : Option (ST) := g_X9_printDigit_0 N x0 x1 x2 σ
theorem l_X9_printDigit {N : Mem} {B : Nat} (hN : HN N B) {x0 : Nat} {x1 : Int32} {x2 : Int32} {σ : ST} (hx0 : isC 9 x0) : f_X9_printDigit (B + x0) x1 x2 (put N B σ) = (g_X9_printDigit N x0 x1 x2 σ).map (put N B) := by
  unfold f_X9_printDigit g_X9_printDigit
  rw [if_pos (isOb_put hx0)]
  exact lmap (l_X9_printDigit_0 hN _ _ _ _ hx0)
noncomputable def g_X9_printWord_0 (N : Mem) (x0 : Nat) (x1 : Int32) (x2 : Int32) (σ : ST) : Option (ST) :=
  if x2 < 11 then
  (if x2 ≤ 0 then
  (some σ)
  else
  ((g_X9_printDigit N x0 x1 (x2 - 1) σ).bind fun r1 =>
  some r1))
  else
  ((g_X9_printDigit N x0 x1 ((x2 - 11) / 10) σ).bind fun r2 =>
  (g_X9_printDigit N x0 x1 (jrem (x2 - 11) 10) r2).bind fun r3 =>
  some r3)
set_option maxHeartbeats 4000000 in
theorem l_X9_printWord_0 {N : Mem} {B : Nat} (hN : HN N B) : ∀ (x0 : Nat) (x1 : Int32) (x2 : Int32) (σ : ST), isC 9 x0 → f_X9_printWord_0 (B + x0) x1 x2 (put N B σ) = (g_X9_printWord_0 N x0 x1 x2 σ).bind (fun q => some (put N B q)) := by
  intro x0 x1 x2 σ hx0
  unfold f_X9_printWord_0 g_X9_printWord_0
  refine li (fun _ => ?_) (fun _ => ?_)
  · refine li (fun _ => ?_) (fun _ => ?_)
    · rfl
    · refine lm (l_X9_printDigit hN hx0) (fun r1 => ?_)
      rfl
  · refine lm (l_X9_printDigit hN hx0) (fun r2 => ?_)
    refine lm (l_X9_printDigit hN hx0) (fun r3 => ?_)
    rfl
noncomputable def g_X9_printWord (N : Mem) (x0 : Nat) (x1 : Int32) (x2 : Int32) (σ : ST) : Option (ST) := g_X9_printWord_0 N x0 x1 x2 σ
theorem l_X9_printWord {N : Mem} {B : Nat} (hN : HN N B) {x0 : Nat} {x1 : Int32} {x2 : Int32} {σ : ST} (hx0 : isC 9 x0) : f_X9_printWord (B + x0) x1 x2 (put N B σ) = (g_X9_printWord N x0 x1 x2 σ).map (put N B) := by
  unfold f_X9_printWord g_X9_printWord
  rw [if_pos (isOb_put hx0)]
  exact lmap (l_X9_printWord_0 hN _ _ _ _ hx0)
noncomputable def g_X0_printRoll_52 (N : Mem) (k25 : Nat → Int32 → Nat → Nat → Int32 → Int32 → Int32 → Int32 → ST → Option (ST)) (x0 : Nat) (x1 : Int32) (nx2 : Nat) (x2 : Nat) (x3 : Int32) (x4 : Int32) (x5 : Int32) (x6 : Int32) (s0 : Bool) (s1 : Int32) (σ : ST) : Option (ST) :=
  (f_X10_ruleIndex s1 s0).bind fun v1 =>
  (f_X10_within v1 0 ((Int32.ofNat nx2) - 1)).bind fun v2 =>
  if v2 = false then
  (k25 x0 x1 nx2 x2 x3 x4 x5 (x6 + 1) σ)
  else
  ((xI nx2 σ x2 v1).bind fun v3 =>
  (g_X9_printWord N x0 x1 v3 σ).bind fun r4 =>
  k25 x0 x1 nx2 x2 x3 x4 x5 (x6 + 1) r4)
set_option maxHeartbeats 4000000 in
theorem l_X0_printRoll_52 {N : Mem} {B : Nat} (hN : HN N B) {fk25 : Nat → Int32 → Nat → Int32 → Int32 → Int32 → Int32 → Mem → Option (Mem)} {k25 : Nat → Int32 → Nat → Nat → Int32 → Int32 → Int32 → Int32 → ST → Option (ST)} (hk25 : ∀ (x0 : Nat) (x1 : Int32) (nx2 : Nat) (x2 : Nat) (x3 : Int32) (x4 : Int32) (x5 : Int32) (x6 : Int32) (σ : ST), isC 9 x0 → isA nx2 x2 → fk25 (B + x0) x1 (B + x2) x3 x4 x5 x6 (put N B σ) = (k25 x0 x1 nx2 x2 x3 x4 x5 x6 σ).bind (fun q => some (put N B q))) : ∀ (x0 : Nat) (x1 : Int32) (nx2 : Nat) (x2 : Nat) (x3 : Int32) (x4 : Int32) (x5 : Int32) (x6 : Int32) (s0 : Bool) (s1 : Int32) (σ : ST), isC 9 x0 → isA nx2 x2 → f_X0_printRoll_52 fk25 (B + x0) x1 (B + x2) x3 x4 x5 x6 s0 s1 (put N B σ) = (g_X0_printRoll_52 N k25 x0 x1 nx2 x2 x3 x4 x5 x6 s0 s1 σ).bind (fun q => some (put N B q)) := by
  intro x0 x1 nx2 x2 x3 x4 x5 x6 s0 s1 σ hx0 hx2
  unfold f_X0_printRoll_52 g_X0_printRoll_52
  refine lb (rfl) (fun v1 => ?_)
  refine lg (lnA_put hx2) ?_
  refine lb (rfl) (fun v2 => ?_)
  refine li (fun _ => ?_) (fun _ => ?_)
  · exact hk25 _ _ _ _ _ _ _ _ _ hx0 hx2
  · refine lb (rI_put hx2) (fun v3 => ?_)
    refine lm (l_X9_printWord hN hx0) (fun r4 => ?_)
    exact hk25 _ _ _ _ _ _ _ _ _ hx0 hx2
noncomputable def g_X0_printRoll_25 (N : Mem) (n0 : Nat) (x0 : Nat) (x1 : Int32) (nx2 : Nat) (x2 : Nat) (x3 : Int32) (x4 : Int32) (x5 : Int32) (x6 : Int32) (σ : ST) : Option (ST) :=
  match n0 with
  | 0 => none
  | n + 1 =>
    if x5 ≤ x6 then
    (some σ)
    else
    ((f_X10_digitAt x4 x6).bind fun v5 =>
    (g_X9_draw N x0 σ).bind fun r6 =>
    if x3 ≤ r6.1 then
    (g_X0_printRoll_52 N (g_X0_printRoll_25 N n) x0 x1 nx2 x2 x3 x4 x5 x6 false v5 r6.2)
    else
    (g_X0_printRoll_52 N (g_X0_printRoll_25 N n) x0 x1 nx2 x2 x3 x4 x5 x6 true v5 r6.2))
set_option maxHeartbeats 4000000 in
theorem l_X0_printRoll_25 {N : Mem} {B : Nat} (hN : HN N B) : ∀ (n : Nat) (x0 : Nat) (x1 : Int32) (nx2 : Nat) (x2 : Nat) (x3 : Int32) (x4 : Int32) (x5 : Int32) (x6 : Int32) (σ : ST), isC 9 x0 → isA nx2 x2 → f_X0_printRoll_25 n (B + x0) x1 (B + x2) x3 x4 x5 x6 (put N B σ) = (g_X0_printRoll_25 N n x0 x1 nx2 x2 x3 x4 x5 x6 σ).bind (fun q => some (put N B q)) := by
  intro n
  induction n with
  | zero =>
    intro x0 x1 nx2 x2 x3 x4 x5 x6 σ hx0 hx2
    rfl
  | succ n ih =>
    intro x0 x1 nx2 x2 x3 x4 x5 x6 σ hx0 hx2
    unfold f_X0_printRoll_25 g_X0_printRoll_25
    refine li (fun _ => ?_) (fun _ => ?_)
    · rfl
    · refine lb (rfl) (fun v5 => ?_)
      refine lc (l_X9_draw hN hx0) (fun r6 => ?_)
      dsimp only
      refine li (fun _ => ?_) (fun _ => ?_)
      · exact l_X0_printRoll_52 hN ih _ _ _ _ _ _ _ _ _ _ _ hx0 hx2
      · exact l_X0_printRoll_52 hN ih _ _ _ _ _ _ _ _ _ _ _ hx0 hx2
noncomputable def g_X0_printRoll_0 (N : Mem) (x0 : Nat) (x1 : Int32) (nx2 : Nat) (x2 : Nat) (x3 : Int32) (σ : ST) : Option (ST) :=
  (yI 5 σ (x0 + 6) x1 0).bind fun r7 =>
  (xI 5 r7 (x0 + 5) x1).bind fun v8 =>
  (f_X10_digitCount v8).bind fun v9 =>
  g_X0_printRoll_25 N fu x0 x1 nx2 x2 x3 v8 v9 0 r7
set_option maxHeartbeats 4000000 in
theorem l_X0_printRoll_0 {N : Mem} {B : Nat} (hN : HN N B) : ∀ (x0 : Nat) (x1 : Int32) (nx2 : Nat) (x2 : Nat) (x3 : Int32) (σ : ST), isC 9 x0 → isA nx2 x2 → f_X0_printRoll_0 (B + x0) x1 (B + x2) x3 (put N B σ) = (g_X0_printRoll_0 N x0 x1 nx2 x2 x3 σ).bind (fun q => some (put N B q)) := by
  intro x0 x1 nx2 x2 x3 σ hx0 hx2
  unfold f_X0_printRoll_0 g_X0_printRoll_0
  refine lg (gR_9_9 hx0) ?_
  refine lm (wI_put (sh_9_9 hx0)) (fun r7 => ?_)
  refine lg (gR_9_8 hx0) ?_
  refine lb (rI_put (sh_9_8 hx0)) (fun v8 => ?_)
  refine lb (rfl) (fun v9 => ?_)
  exact l_X0_printRoll_25 hN  _ _ _ _ _ _ _ _ _ _ hx0 hx2
noncomputable def g_X0_printRoll (N : Mem) (x0 : Nat) (x1 : Int32) (nx2 : Nat) (x2 : Nat) (x3 : Int32) (σ : ST) : Option (ST) := g_X0_printRoll_0 N x0 x1 nx2 x2 x3 σ
theorem l_X0_printRoll {N : Mem} {B : Nat} (hN : HN N B) {x0 : Nat} {x1 : Int32} {nx2 : Nat} {x2 : Nat} {x3 : Int32} {σ : ST} (hx0 : isC 9 x0) (hx2 : isA nx2 x2) : f_X0_printRoll (B + x0) x1 (B + x2) x3 (put N B σ) = (g_X0_printRoll N x0 x1 nx2 x2 x3 σ).map (put N B) := by
  unfold f_X0_printRoll g_X0_printRoll
  exact lmap (l_X0_printRoll_0 hN _ _ _ _ _ _ hx0 hx2)
noncomputable def g_X9_rollDigit_0 (N : Mem) (x0 : Nat) (x1 : Int32) (x2 : Int32) (σ : ST) : Option (Int32) :=
  (g_X9_has N x0 x1 σ).bind fun v1 =>
  if v1 = false then
  (some (-1))
  else
  ((xI 5 σ (x0 + 6) x1).bind fun v2 =>
  (f_X10_within x2 0 (v2 - 1)).bind fun v3 =>
  if v3 = false then
  (some (-1))
  else
  (if x2 < 12 then
  ((xI 60 σ (x0 + 7) ((x1 * 12) + x2)).bind fun v4 =>
  some v4)
  else
  (some (-1))))
set_option maxHeartbeats 4000000 in
theorem l_X9_rollDigit_0 {N : Mem} {B : Nat} (hN : HN N B) : ∀ (x0 : Nat) (x1 : Int32) (x2 : Int32) (σ : ST), isC 9 x0 → f_X9_rollDigit_0 (B + x0) x1 x2 (put N B σ) = (g_X9_rollDigit_0 N x0 x1 x2 σ).bind some := by
  intro x0 x1 x2 σ hx0
  unfold f_X9_rollDigit_0 g_X9_rollDigit_0
  refine lb (l_X9_has hN hx0) (fun v1 => ?_)
  refine li (fun _ => ?_) (fun _ => ?_)
  · rfl
  · refine lg (gR_9_9 hx0) ?_
    refine lb (rI_put (sh_9_9 hx0)) (fun v2 => ?_)
    refine lb (rfl) (fun v3 => ?_)
    refine li (fun _ => ?_) (fun _ => ?_)
    · rfl
    · refine li (fun _ => ?_) (fun _ => ?_)
      · refine lg (gR_9_10 hx0) ?_
        refine lb (rI_put (sh_9_10 hx0)) (fun v4 => ?_)
        rfl
      · rfl
noncomputable def g_X9_rollDigit (N : Mem) (x0 : Nat) (x1 : Int32) (x2 : Int32) (σ : ST) : Option (Int32) := g_X9_rollDigit_0 N x0 x1 x2 σ
theorem l_X9_rollDigit {N : Mem} {B : Nat} (hN : HN N B) {x0 : Nat} {x1 : Int32} {x2 : Int32} {σ : ST} (hx0 : isC 9 x0) : f_X9_rollDigit (B + x0) x1 x2 (put N B σ) = g_X9_rollDigit N x0 x1 x2 σ := by
  unfold f_X9_rollDigit g_X9_rollDigit
  rw [if_pos (isOb_put hx0)]
  exact lsm (l_X9_rollDigit_0 hN _ _ _ _ hx0)
noncomputable def g_X9_rollNumber_15 (N : Mem) (n0 : Nat) (x0 : Nat) (x1 : Int32) (x2 : Int32) (x3 : Int32) (σ : ST) : Option (Int32) :=
  match n0 with
  | 0 => none
  | n + 1 =>
    (xI 5 σ (x0 + 6) x1).bind fun v1 =>
    if v1 ≤ x3 then
    (some x2)
    else
    ((g_X9_rollDigit N x0 x1 x3 σ).bind fun v2 =>
    g_X9_rollNumber_15 N n x0 x1 ((x2 * 10) + v2) (x3 + 1) σ)
set_option maxHeartbeats 4000000 in
theorem l_X9_rollNumber_15 {N : Mem} {B : Nat} (hN : HN N B) : ∀ (n : Nat) (x0 : Nat) (x1 : Int32) (x2 : Int32) (x3 : Int32) (σ : ST), isC 9 x0 → f_X9_rollNumber_15 n (B + x0) x1 x2 x3 (put N B σ) = (g_X9_rollNumber_15 N n x0 x1 x2 x3 σ).bind some := by
  intro n
  induction n with
  | zero =>
    intro x0 x1 x2 x3 σ hx0
    rfl
  | succ n ih =>
    intro x0 x1 x2 x3 σ hx0
    unfold f_X9_rollNumber_15 g_X9_rollNumber_15
    refine lg (gR_9_9 hx0) ?_
    refine lb (rI_put (sh_9_9 hx0)) (fun v1 => ?_)
    refine li (fun _ => ?_) (fun _ => ?_)
    · rfl
    · refine lb (l_X9_rollDigit hN hx0) (fun v2 => ?_)
      exact ih _ _ _ _ _ hx0
noncomputable def g_X9_rollNumber_0 (N : Mem) (x0 : Nat) (x1 : Int32) (σ : ST) : Option (Int32) :=
  (xI 5 σ (x0 + 6) x1).bind fun v3 =>
  g_X9_rollNumber_15 N fu x0 x1 0 (jmax 0 (v3 - 4)) σ
set_option maxHeartbeats 4000000 in
theorem l_X9_rollNumber_0 {N : Mem} {B : Nat} (hN : HN N B) : ∀ (x0 : Nat) (x1 : Int32) (σ : ST), isC 9 x0 → f_X9_rollNumber_0 (B + x0) x1 (put N B σ) = (g_X9_rollNumber_0 N x0 x1 σ).bind some := by
  intro x0 x1 σ hx0
  unfold f_X9_rollNumber_0 g_X9_rollNumber_0
  refine lg (gR_9_9 hx0) ?_
  refine lb (rI_put (sh_9_9 hx0)) (fun v3 => ?_)
  exact l_X9_rollNumber_15 hN  _ _ _ _ _ _ hx0
noncomputable def g_X9_rollNumber (N : Mem) (x0 : Nat) (x1 : Int32) (σ : ST) : Option (Int32) := g_X9_rollNumber_0 N x0 x1 σ
theorem l_X9_rollNumber {N : Mem} {B : Nat} (hN : HN N B) {x0 : Nat} {x1 : Int32} {σ : ST} (hx0 : isC 9 x0) : f_X9_rollNumber (B + x0) x1 (put N B σ) = g_X9_rollNumber N x0 x1 σ := by
  unfold f_X9_rollNumber g_X9_rollNumber
  rw [if_pos (isOb_put hx0)]
  exact lsm (l_X9_rollNumber_0 hN _ _ _ hx0)
noncomputable def g_X9_believe_36 (N : Mem) (x0 : Nat) (x1 : Int32) (x2 : Int32) (σ : ST) : Option (ST) :=
  (yI 120 σ (x0 + 8) ((σ.1 x0 3) * 4) (σ.1 x0 1)).bind fun r1 =>
  (yI 120 r1 (x0 + 8) (((σ.1 x0 3) * 4) + 1) x1).bind fun r2 =>
  (xI 5 r2 (x0 + 5) x1).bind fun v3 =>
  (yI 120 r2 (x0 + 8) (((σ.1 x0 3) * 4) + 2) v3).bind fun r4 =>
  (yI 120 r4 (x0 + 8) (((σ.1 x0 3) * 4) + 3) x2).bind fun r5 =>
  (some (setI r5 x0 3 ((r5.1 x0 3) + 1))).bind fun r6 =>
  (yI 5 r6 (x0 + 5) x1 x2).bind fun r7 =>
  some r7
set_option maxHeartbeats 4000000 in
theorem l_X9_believe_36 {N : Mem} {B : Nat} (hN : HN N B) : ∀ (x0 : Nat) (x1 : Int32) (x2 : Int32) (σ : ST), isC 9 x0 → f_X9_believe_36 (B + x0) x1 x2 (put N B σ) = (g_X9_believe_36 N x0 x1 x2 σ).bind (fun q => some (put N B q)) := by
  intro x0 x1 x2 σ hx0
  unfold f_X9_believe_36 g_X9_believe_36
  refine lg (gI_9_3 hx0) ?_
  refine lg (gR_9_11 hx0) ?_
  refine lg (gI_9_1 hx0) ?_
  refine lm (wI_put (sh_9_11 hx0)) (fun r1 => ?_)
  refine lg (gR_9_11 hx0) ?_
  refine lm (wI_put (sh_9_11 hx0)) (fun r2 => ?_)
  refine lg (gR_9_11 hx0) ?_
  refine lg (gR_9_8 hx0) ?_
  refine lb (rI_put (sh_9_8 hx0)) (fun v3 => ?_)
  refine lm (wI_put (sh_9_11 hx0)) (fun r4 => ?_)
  refine lg (gR_9_11 hx0) ?_
  refine lm (wI_put (sh_9_11 hx0)) (fun r5 => ?_)
  refine lg (gI_9_3 hx0) ?_
  refine lp (pF_9_3 hx0) (fun r6 => ?_)
  refine lg (gR_9_8 hx0) ?_
  refine lm (wI_put (sh_9_8 hx0)) (fun r7 => ?_)
  rfl
noncomputable def g_X9_believe_0 (N : Mem) (x0 : Nat) (x1 : Int32) (σ : ST) : Option (ST) :=
  (g_X9_rollNumber N x0 x1 σ).bind fun v8 =>
  if (σ.1 x0 3) < 30 then
  (g_X9_believe_36 N x0 x1 v8 σ)
  else
  ((zC 120 120 σ (x0 + 8) 4 (x0 + 8) 0 116).bind fun r9 =>
  (some (setI r9 x0 3 29)).bind fun r10 =>
  g_X9_believe_36 N x0 x1 v8 r10)
set_option maxHeartbeats 4000000 in
theorem l_X9_believe_0 {N : Mem} {B : Nat} (hN : HN N B) : ∀ (x0 : Nat) (x1 : Int32) (σ : ST), isC 9 x0 → f_X9_believe_0 (B + x0) x1 (put N B σ) = (g_X9_believe_0 N x0 x1 σ).bind (fun q => some (put N B q)) := by
  intro x0 x1 σ hx0
  unfold f_X9_believe_0 g_X9_believe_0
  refine lb (l_X9_rollNumber hN hx0) (fun v8 => ?_)
  refine lg (gI_9_3 hx0) ?_
  refine li (fun _ => ?_) (fun _ => ?_)
  · exact l_X9_believe_36 hN  _ _ _ _ hx0
  · refine lg (gR_9_11 hx0) ?_
    refine lg (gR_9_11 hx0) ?_
    refine lm (cpI_put (sh_9_11 hx0) (sh_9_11 hx0)) (fun r9 => ?_)
    refine lp (pF_9_3 hx0) (fun r10 => ?_)
    exact l_X9_believe_36 hN  _ _ _ _ hx0
noncomputable def g_X9_believe (N : Mem) (x0 : Nat) (x1 : Int32) (σ : ST) : Option (ST) := g_X9_believe_0 N x0 x1 σ
theorem l_X9_believe {N : Mem} {B : Nat} (hN : HN N B) {x0 : Nat} {x1 : Int32} {σ : ST} (hx0 : isC 9 x0) : f_X9_believe (B + x0) x1 (put N B σ) = (g_X9_believe N x0 x1 σ).map (put N B) := by
  unfold f_X9_believe g_X9_believe
  rw [if_pos (isOb_put hx0)]
  exact lmap (l_X9_believe_0 hN _ _ _ hx0)
noncomputable def g_X0_pass_60 (N : Mem) (k6 : Nat → Nat → Nat → Nat → Option Nat → Int32 → Int32 → ST → Option (Int32 × ST)) (x0 : Nat) (x1 : Nat) (nx2 : Nat) (x2 : Nat) (x3 : Option Nat) (x4 : Int32) (x5 : Int32) (σ : ST) : Option (Int32 × ST) :=
  (xI 5 σ (x1 + 3) x5).bind fun v1 =>
  (g_X0_wears N x0 x3 x1 x5 σ).bind fun r2 =>
  (yI 5 r2.2 (x1 + 3) x5 (jmin 99 (v1 + r2.1))).bind fun r3 =>
  (xI 5 r3 (x1 + 4) x5).bind fun v4 =>
  (yI 5 r3 (x1 + 4) x5 (jmax 0 (v4 - 1))).bind fun r5 =>
  k6 x0 x1 nx2 x2 x3 x4 (x5 + 1) r5
set_option maxHeartbeats 4000000 in
theorem l_X0_pass_60 {N : Mem} {B : Nat} (hN : HN N B) {fk6 : Nat → Nat → Nat → Option Nat → Int32 → Int32 → Mem → Option (Int32 × Mem)} {k6 : Nat → Nat → Nat → Nat → Option Nat → Int32 → Int32 → ST → Option (Int32 × ST)} (hk6 : ∀ (x0 : Nat) (x1 : Nat) (nx2 : Nat) (x2 : Nat) (x3 : Option Nat) (x4 : Int32) (x5 : Int32) (σ : ST), isC 0 x0 → isC 9 x1 → isA nx2 x2 → fk6 (B + x0) (B + x1) (B + x2) x3 x4 x5 (put N B σ) = (k6 x0 x1 nx2 x2 x3 x4 x5 σ).bind (fun q => some (q.1, put N B q.2))) : ∀ (x0 : Nat) (x1 : Nat) (nx2 : Nat) (x2 : Nat) (x3 : Option Nat) (x4 : Int32) (x5 : Int32) (σ : ST), isC 0 x0 → isC 9 x1 → isA nx2 x2 → f_X0_pass_60 fk6 (B + x0) (B + x1) (B + x2) x3 x4 x5 (put N B σ) = (g_X0_pass_60 N k6 x0 x1 nx2 x2 x3 x4 x5 σ).bind (fun q => some (q.1, put N B q.2)) := by
  intro x0 x1 nx2 x2 x3 x4 x5 σ hx0 hx1 hx2
  unfold f_X0_pass_60 g_X0_pass_60
  refine lg (gR_9_6 hx1) ?_
  refine lg (gR_9_6 hx1) ?_
  refine lb (rI_put (sh_9_6 hx1)) (fun v1 => ?_)
  refine lc (l_X0_wears hN hx0 hx1) (fun r2 => ?_)
  dsimp only
  refine lm (wI_put (sh_9_6 hx1)) (fun r3 => ?_)
  refine lg (gR_9_7 hx1) ?_
  refine lg (gR_9_7 hx1) ?_
  refine lb (rI_put (sh_9_7 hx1)) (fun v4 => ?_)
  refine lm (wI_put (sh_9_7 hx1)) (fun r5 => ?_)
  exact hk6 _ _ _ _ _ _ _ _ hx0 hx1 hx2
noncomputable def g_X0_pass_114 (N : Mem) (x1 : Nat) (x4 : Int32) (σ : ST) : Option (Int32 × ST) :=
  (some (setI σ x1 1 ((σ.1 x1 1) + 1))).bind fun r6 =>
  some (x4, r6)
set_option maxHeartbeats 4000000 in
theorem l_X0_pass_114 {N : Mem} {B : Nat} (hN : HN N B) : ∀ (x1 : Nat) (x4 : Int32) (σ : ST), isC 9 x1 → f_X0_pass_114 (B + x1) x4 (put N B σ) = (g_X0_pass_114 N x1 x4 σ).bind (fun q => some (q.1, put N B q.2)) := by
  intro x1 x4 σ hx1
  unfold f_X0_pass_114 g_X0_pass_114
  refine lg (gI_9_1 hx1) ?_
  refine lp (pF_9_1 hx1) (fun r6 => ?_)
  rfl
noncomputable def g_X0_pass_6 (N : Mem) (n0 : Nat) (x0 : Nat) (x1 : Nat) (nx2 : Nat) (x2 : Nat) (x3 : Option Nat) (x4 : Int32) (x5 : Int32) (σ : ST) : Option (Int32 × ST) :=
  match n0 with
  | 0 => none
  | n + 1 =>
    if (σ.1 x1 0) ≤ x5 then
    (g_X0_pass_114 N x1 x4 σ)
    else
    (if 5 ≤ x5 then
    (g_X0_pass_114 N x1 x4 σ)
    else
    ((g_X0_loose N x0 x3 x1 x5 σ).bind fun r7 =>
    (g_X0_printRoll N x1 x5 nx2 x2 r7.1 r7.2).bind fun r8 =>
    (g_X9_draw N x1 r8).bind fun r9 =>
    (g_X0_believes N x0 x3 x1 x5 r9.2).bind fun r10 =>
    if r10.1 ≤ r9.1 then
    (g_X0_pass_60 N (g_X0_pass_6 N n) x0 x1 nx2 x2 x3 x4 x5 r10.2)
    else
    ((g_X9_believe N x1 x5 r10.2).bind fun r11 =>
    g_X0_pass_60 N (g_X0_pass_6 N n) x0 x1 nx2 x2 x3 (x4 + 1) x5 r11)))
set_option maxHeartbeats 4000000 in
theorem l_X0_pass_6 {N : Mem} {B : Nat} (hN : HN N B) : ∀ (n : Nat) (x0 : Nat) (x1 : Nat) (nx2 : Nat) (x2 : Nat) (x3 : Option Nat) (x4 : Int32) (x5 : Int32) (σ : ST), isC 0 x0 → isC 9 x1 → isA nx2 x2 → f_X0_pass_6 n (B + x0) (B + x1) (B + x2) x3 x4 x5 (put N B σ) = (g_X0_pass_6 N n x0 x1 nx2 x2 x3 x4 x5 σ).bind (fun q => some (q.1, put N B q.2)) := by
  intro n
  induction n with
  | zero =>
    intro x0 x1 nx2 x2 x3 x4 x5 σ hx0 hx1 hx2
    rfl
  | succ n ih =>
    intro x0 x1 nx2 x2 x3 x4 x5 σ hx0 hx1 hx2
    unfold f_X0_pass_6 g_X0_pass_6
    refine lg (gI_9_0 hx1) ?_
    refine li (fun _ => ?_) (fun _ => ?_)
    · exact l_X0_pass_114 hN  _ _ _ hx1
    · refine li (fun _ => ?_) (fun _ => ?_)
      · exact l_X0_pass_114 hN  _ _ _ hx1
      · refine lc (l_X0_loose hN hx0 hx1) (fun r7 => ?_)
        dsimp only
        refine lm (l_X0_printRoll hN hx1 hx2) (fun r8 => ?_)
        refine lc (l_X9_draw hN hx1) (fun r9 => ?_)
        dsimp only
        refine lc (l_X0_believes hN hx0 hx1) (fun r10 => ?_)
        dsimp only
        refine li (fun _ => ?_) (fun _ => ?_)
        · exact l_X0_pass_60 hN ih _ _ _ _ _ _ _ _ hx0 hx1 hx2
        · refine lm (l_X9_believe hN hx1) (fun r11 => ?_)
          exact l_X0_pass_60 hN ih _ _ _ _ _ _ _ _ hx0 hx1 hx2
noncomputable def g_X0_pass_0 (N : Mem) (x0 : Nat) (x1 : Nat) (nx2 : Nat) (x2 : Nat) (x3 : Option Nat) (σ : ST) : Option (Int32 × ST) :=
  g_X0_pass_6 N fu x0 x1 nx2 x2 x3 0 0 σ
set_option maxHeartbeats 4000000 in
theorem l_X0_pass_0 {N : Mem} {B : Nat} (hN : HN N B) : ∀ (x0 : Nat) (x1 : Nat) (nx2 : Nat) (x2 : Nat) (x3 : Option Nat) (σ : ST), isC 0 x0 → isC 9 x1 → isA nx2 x2 → f_X0_pass_0 (B + x0) (B + x1) (B + x2) x3 (put N B σ) = (g_X0_pass_0 N x0 x1 nx2 x2 x3 σ).bind (fun q => some (q.1, put N B q.2)) := by
  intro x0 x1 nx2 x2 x3 σ hx0 hx1 hx2
  unfold f_X0_pass_0 g_X0_pass_0
  exact l_X0_pass_6 hN  _ _ _ _ _ _ _ _ _ hx0 hx1 hx2
noncomputable def g_X0_pass (N : Mem) (x0 : Nat) (x1 : Nat) (nx2 : Nat) (x2 : Nat) (x3 : Option Nat) (σ : ST) : Option (Int32 × ST) := g_X0_pass_0 N x0 x1 nx2 x2 x3 σ
theorem l_X0_pass {N : Mem} {B : Nat} (hN : HN N B) {x0 : Nat} {x1 : Nat} {nx2 : Nat} {x2 : Nat} {x3 : Option Nat} {σ : ST} (hx0 : isC 0 x0) (hx1 : isC 9 x1) (hx2 : isA nx2 x2) : f_X0_pass (B + x0) (B + x1) (B + x2) x3 (put N B σ) = (g_X0_pass N x0 x1 nx2 x2 x3 σ).bind (fun q => some (q.1, put N B q.2)) := by
  unfold f_X0_pass g_X0_pass
  rw [if_pos (isOb_put hx0)]
  exact l_X0_pass_0 hN _ _ _ _ _ _ hx0 hx1 hx2
noncomputable def g_X1_prefers_0 (N : Mem) (nx0 : Nat) (x0 : Nat) (x1 : Int32) (x2 : Int32) (x3 : Int32) (σ : ST) : Option (Bool) :=
  (xI nx0 σ x0 ((x1 * 5) + x2)).bind fun v1 =>
  (xI nx0 σ x0 ((x1 * 5) + x3)).bind fun v2 =>
  if v1 < v2 then
  (some true)
  else
  (if v1 = v2 then
  (if x3 ≤ x2 then
  (some false)
  else
  (some true))
  else
  (some false))
set_option maxHeartbeats 4000000 in
theorem l_X1_prefers_0 {N : Mem} {B : Nat} (hN : HN N B) : ∀ (nx0 : Nat) (x0 : Nat) (x1 : Int32) (x2 : Int32) (x3 : Int32) (σ : ST), isA nx0 x0 → f_X1_prefers_0 (B + x0) x1 x2 x3 (put N B σ) = (g_X1_prefers_0 N nx0 x0 x1 x2 x3 σ).bind some := by
  intro nx0 x0 x1 x2 x3 σ hx0
  unfold f_X1_prefers_0 g_X1_prefers_0
  refine lb (rI_put hx0) (fun v1 => ?_)
  refine lb (rI_put hx0) (fun v2 => ?_)
  refine li (fun _ => ?_) (fun _ => ?_)
  · rfl
  · refine li (fun _ => ?_) (fun _ => ?_)
    · refine li (fun _ => ?_) (fun _ => ?_)
      · rfl
      · rfl
    · rfl
noncomputable def g_X1_prefers (N : Mem) (nx0 : Nat) (x0 : Nat) (x1 : Int32) (x2 : Int32) (x3 : Int32) (σ : ST) : Option (Bool) := g_X1_prefers_0 N nx0 x0 x1 x2 x3 σ
theorem l_X1_prefers {N : Mem} {B : Nat} (hN : HN N B) {nx0 : Nat} {x0 : Nat} {x1 : Int32} {x2 : Int32} {x3 : Int32} {σ : ST} (hx0 : isA nx0 x0) : f_X1_prefers (B + x0) x1 x2 x3 (put N B σ) = g_X1_prefers N nx0 x0 x1 x2 x3 σ := by
  unfold f_X1_prefers g_X1_prefers
  exact lsm (l_X1_prefers_0 hN _ _ _ _ _ _ hx0)
noncomputable def g_X1_lowestFree_2 (N : Mem) (n0 : Nat) (x0 : Nat) (x1 : Int32) (σ : ST) : Option (Int32) :=
  match n0 with
  | 0 => none
  | n + 1 =>
    if 5 ≤ x1 then
    (some (-1))
    else
    ((xI 5 σ (x0 + 1) x1).bind fun v1 =>
    if 0 ≤ v1 then
    (g_X1_lowestFree_2 N n x0 (x1 + 1) σ)
    else
    (some x1))
set_option maxHeartbeats 4000000 in
theorem l_X1_lowestFree_2 {N : Mem} {B : Nat} (hN : HN N B) : ∀ (n : Nat) (x0 : Nat) (x1 : Int32) (σ : ST), isC 1 x0 → f_X1_lowestFree_2 n (B + x0) x1 (put N B σ) = (g_X1_lowestFree_2 N n x0 x1 σ).bind some := by
  intro n
  induction n with
  | zero =>
    intro x0 x1 σ hx0
    rfl
  | succ n ih =>
    intro x0 x1 σ hx0
    unfold f_X1_lowestFree_2 g_X1_lowestFree_2
    refine li (fun _ => ?_) (fun _ => ?_)
    · rfl
    · refine lg (gR_1_0 hx0) ?_
      refine lb (rI_put (sh_1_0 hx0)) (fun v1 => ?_)
      refine li (fun _ => ?_) (fun _ => ?_)
      · exact ih _ _ _ hx0
      · rfl
noncomputable def g_X1_lowestFree_0 (N : Mem) (x0 : Nat) (σ : ST) : Option (Int32) :=
  g_X1_lowestFree_2 N fu x0 0 σ
set_option maxHeartbeats 4000000 in
theorem l_X1_lowestFree_0 {N : Mem} {B : Nat} (hN : HN N B) : ∀ (x0 : Nat) (σ : ST), isC 1 x0 → f_X1_lowestFree_0 (B + x0) (put N B σ) = (g_X1_lowestFree_0 N x0 σ).bind some := by
  intro x0 σ hx0
  unfold f_X1_lowestFree_0 g_X1_lowestFree_0
  exact l_X1_lowestFree_2 hN  _ _ _ _ hx0
noncomputable def g_X1_lowestFree (N : Mem) (x0 : Nat) (σ : ST) : Option (Int32) := g_X1_lowestFree_0 N x0 σ
theorem l_X1_lowestFree {N : Mem} {B : Nat} (hN : HN N B) {x0 : Nat} {σ : ST} (hx0 : isC 1 x0) : f_X1_lowestFree (B + x0) (put N B σ) = g_X1_lowestFree N x0 σ := by
  unfold f_X1_lowestFree g_X1_lowestFree
  rw [if_pos (isOb_put hx0)]
  exact lsm (l_X1_lowestFree_0 hN _ _ hx0)
noncomputable def g_X1_bestUnasked_30 (N : Mem) (k5 : Nat → Nat → Nat → Int32 → Int32 → Int32 → ST → Option (Int32)) (x0 : Nat) (nx1 : Nat) (x1 : Nat) (x2 : Int32) (x3 : Int32) (x4 : Int32) (s0 : Bool) (σ : ST) : Option (Int32) :=
  if s0 = false then
  (k5 x0 nx1 x1 x2 x3 (x4 + 1) σ)
  else
  (if x3 < 0 then
  (k5 x0 nx1 x1 x2 x4 (x4 + 1) σ)
  else
  ((g_X1_prefers N nx1 x1 x2 x4 x3 σ).bind fun v1 =>
  if v1 = false then
  (k5 x0 nx1 x1 x2 x3 (x4 + 1) σ)
  else
  (k5 x0 nx1 x1 x2 x4 (x4 + 1) σ)))
set_option maxHeartbeats 4000000 in
theorem l_X1_bestUnasked_30 {N : Mem} {B : Nat} (hN : HN N B) {fk5 : Nat → Nat → Int32 → Int32 → Int32 → Mem → Option (Int32)} {k5 : Nat → Nat → Nat → Int32 → Int32 → Int32 → ST → Option (Int32)} (hk5 : ∀ (x0 : Nat) (nx1 : Nat) (x1 : Nat) (x2 : Int32) (x3 : Int32) (x4 : Int32) (σ : ST), isC 1 x0 → isA nx1 x1 → fk5 (B + x0) (B + x1) x2 x3 x4 (put N B σ) = (k5 x0 nx1 x1 x2 x3 x4 σ).bind some) : ∀ (x0 : Nat) (nx1 : Nat) (x1 : Nat) (x2 : Int32) (x3 : Int32) (x4 : Int32) (s0 : Bool) (σ : ST), isC 1 x0 → isA nx1 x1 → f_X1_bestUnasked_30 fk5 (B + x0) (B + x1) x2 x3 x4 s0 (put N B σ) = (g_X1_bestUnasked_30 N k5 x0 nx1 x1 x2 x3 x4 s0 σ).bind some := by
  intro x0 nx1 x1 x2 x3 x4 s0 σ hx0 hx1
  unfold f_X1_bestUnasked_30 g_X1_bestUnasked_30
  refine li (fun _ => ?_) (fun _ => ?_)
  · exact hk5 _ _ _ _ _ _ _ hx0 hx1
  · refine li (fun _ => ?_) (fun _ => ?_)
    · exact hk5 _ _ _ _ _ _ _ hx0 hx1
    · refine lb (l_X1_prefers hN hx1) (fun v1 => ?_)
      refine li (fun _ => ?_) (fun _ => ?_)
      · exact hk5 _ _ _ _ _ _ _ hx0 hx1
      · exact hk5 _ _ _ _ _ _ _ hx0 hx1
noncomputable def g_X1_bestUnasked_5 (N : Mem) (n0 : Nat) (x0 : Nat) (nx1 : Nat) (x1 : Nat) (x2 : Int32) (x3 : Int32) (x4 : Int32) (σ : ST) : Option (Int32) :=
  match n0 with
  | 0 => none
  | n + 1 =>
    if 5 ≤ x4 then
    (some x3)
    else
    ((xI 5 σ (x0 + 3) x2).bind fun v2 =>
    if ((jshr v2 x4) &&& 1) = 0 then
    (g_X1_bestUnasked_30 N (g_X1_bestUnasked_5 N n) x0 nx1 x1 x2 x3 x4 true σ)
    else
    (g_X1_bestUnasked_30 N (g_X1_bestUnasked_5 N n) x0 nx1 x1 x2 x3 x4 false σ))
set_option maxHeartbeats 4000000 in
theorem l_X1_bestUnasked_5 {N : Mem} {B : Nat} (hN : HN N B) : ∀ (n : Nat) (x0 : Nat) (nx1 : Nat) (x1 : Nat) (x2 : Int32) (x3 : Int32) (x4 : Int32) (σ : ST), isC 1 x0 → isA nx1 x1 → f_X1_bestUnasked_5 n (B + x0) (B + x1) x2 x3 x4 (put N B σ) = (g_X1_bestUnasked_5 N n x0 nx1 x1 x2 x3 x4 σ).bind some := by
  intro n
  induction n with
  | zero =>
    intro x0 nx1 x1 x2 x3 x4 σ hx0 hx1
    rfl
  | succ n ih =>
    intro x0 nx1 x1 x2 x3 x4 σ hx0 hx1
    unfold f_X1_bestUnasked_5 g_X1_bestUnasked_5
    refine li (fun _ => ?_) (fun _ => ?_)
    · rfl
    · refine lg (gR_1_2 hx0) ?_
      refine lb (rI_put (sh_1_2 hx0)) (fun v2 => ?_)
      refine li (fun _ => ?_) (fun _ => ?_)
      · exact l_X1_bestUnasked_30 hN ih _ _ _ _ _ _ _ _ hx0 hx1
      · exact l_X1_bestUnasked_30 hN ih _ _ _ _ _ _ _ _ hx0 hx1
noncomputable def g_X1_bestUnasked_0 (N : Mem) (x0 : Nat) (nx1 : Nat) (x1 : Nat) (x2 : Int32) (σ : ST) : Option (Int32) :=
  g_X1_bestUnasked_5 N fu x0 nx1 x1 x2 (-1) 0 σ
set_option maxHeartbeats 4000000 in
theorem l_X1_bestUnasked_0 {N : Mem} {B : Nat} (hN : HN N B) : ∀ (x0 : Nat) (nx1 : Nat) (x1 : Nat) (x2 : Int32) (σ : ST), isC 1 x0 → isA nx1 x1 → f_X1_bestUnasked_0 (B + x0) (B + x1) x2 (put N B σ) = (g_X1_bestUnasked_0 N x0 nx1 x1 x2 σ).bind some := by
  intro x0 nx1 x1 x2 σ hx0 hx1
  unfold f_X1_bestUnasked_0 g_X1_bestUnasked_0
  exact l_X1_bestUnasked_5 hN  _ _ _ _ _ _ _ _ hx0 hx1
noncomputable def g_X1_bestUnasked (N : Mem) (x0 : Nat) (nx1 : Nat) (x1 : Nat) (x2 : Int32) (σ : ST) : Option (Int32) := g_X1_bestUnasked_0 N x0 nx1 x1 x2 σ
theorem l_X1_bestUnasked {N : Mem} {B : Nat} (hN : HN N B) {x0 : Nat} {nx1 : Nat} {x1 : Nat} {x2 : Int32} {σ : ST} (hx0 : isC 1 x0) (hx1 : isA nx1 x1) : f_X1_bestUnasked (B + x0) (B + x1) x2 (put N B σ) = g_X1_bestUnasked N x0 nx1 x1 x2 σ := by
  unfold f_X1_bestUnasked g_X1_bestUnasked
  rw [if_pos (isOb_put hx0)]
  exact lsm (l_X1_bestUnasked_0 hN _ _ _ _ _ hx0 hx1)
noncomputable def g_X1_pairAll_116 (N : Mem) (k26 : Nat → Nat → Nat → Nat → Nat → Int32 → ST → Option (ST)) (x0 : Nat) (nx1 : Nat) (x1 : Nat) (nx2 : Nat) (x2 : Nat) (x3 : Int32) (x4 : Int32) (x5 : Int32) (σ : ST) : Option (ST) :=
  (yI 5 σ (x0 + 2) x5 x4).bind fun r1 =>
  (yI 5 r1 (x0 + 1) x4 x5).bind fun r2 =>
  k26 x0 nx1 x1 nx2 x2 (x3 + 1) r2
set_option maxHeartbeats 4000000 in
theorem l_X1_pairAll_116 {N : Mem} {B : Nat} (hN : HN N B) {fk26 : Nat → Nat → Nat → Int32 → Mem → Option (Mem)} {k26 : Nat → Nat → Nat → Nat → Nat → Int32 → ST → Option (ST)} (hk26 : ∀ (x0 : Nat) (nx1 : Nat) (x1 : Nat) (nx2 : Nat) (x2 : Nat) (x3 : Int32) (σ : ST), isC 1 x0 → isA nx1 x1 → isA nx2 x2 → fk26 (B + x0) (B + x1) (B + x2) x3 (put N B σ) = (k26 x0 nx1 x1 nx2 x2 x3 σ).bind (fun q => some (put N B q))) : ∀ (x0 : Nat) (nx1 : Nat) (x1 : Nat) (nx2 : Nat) (x2 : Nat) (x3 : Int32) (x4 : Int32) (x5 : Int32) (σ : ST), isC 1 x0 → isA nx1 x1 → isA nx2 x2 → f_X1_pairAll_116 fk26 (B + x0) (B + x1) (B + x2) x3 x4 x5 (put N B σ) = (g_X1_pairAll_116 N k26 x0 nx1 x1 nx2 x2 x3 x4 x5 σ).bind (fun q => some (put N B q)) := by
  intro x0 nx1 x1 nx2 x2 x3 x4 x5 σ hx0 hx1 hx2
  unfold f_X1_pairAll_116 g_X1_pairAll_116
  refine lg (gR_1_1 hx0) ?_
  refine lm (wI_put (sh_1_1 hx0)) (fun r1 => ?_)
  refine lg (gR_1_0 hx0) ?_
  refine lm (wI_put (sh_1_0 hx0)) (fun r2 => ?_)
  exact hk26 _ _ _ _ _ _ _ hx0 hx1 hx2
noncomputable def g_X1_pairAll_103 (N : Mem) (k26 : Nat → Nat → Nat → Nat → Nat → Int32 → ST → Option (ST)) (x0 : Nat) (nx1 : Nat) (x1 : Nat) (nx2 : Nat) (x2 : Nat) (x3 : Int32) (x4 : Int32) (x5 : Int32) (x6 : Int32) (σ : ST) : Option (ST) :=
  if x6 < 0 then
  (g_X1_pairAll_116 N k26 x0 nx1 x1 nx2 x2 x3 x4 x5 σ)
  else
  ((yI 5 σ (x0 + 1) x6 (-1)).bind fun r3 =>
  g_X1_pairAll_116 N k26 x0 nx1 x1 nx2 x2 x3 x4 x5 r3)
set_option maxHeartbeats 4000000 in
theorem l_X1_pairAll_103 {N : Mem} {B : Nat} (hN : HN N B) {fk26 : Nat → Nat → Nat → Int32 → Mem → Option (Mem)} {k26 : Nat → Nat → Nat → Nat → Nat → Int32 → ST → Option (ST)} (hk26 : ∀ (x0 : Nat) (nx1 : Nat) (x1 : Nat) (nx2 : Nat) (x2 : Nat) (x3 : Int32) (σ : ST), isC 1 x0 → isA nx1 x1 → isA nx2 x2 → fk26 (B + x0) (B + x1) (B + x2) x3 (put N B σ) = (k26 x0 nx1 x1 nx2 x2 x3 σ).bind (fun q => some (put N B q))) : ∀ (x0 : Nat) (nx1 : Nat) (x1 : Nat) (nx2 : Nat) (x2 : Nat) (x3 : Int32) (x4 : Int32) (x5 : Int32) (x6 : Int32) (σ : ST), isC 1 x0 → isA nx1 x1 → isA nx2 x2 → f_X1_pairAll_103 fk26 (B + x0) (B + x1) (B + x2) x3 x4 x5 x6 (put N B σ) = (g_X1_pairAll_103 N k26 x0 nx1 x1 nx2 x2 x3 x4 x5 x6 σ).bind (fun q => some (put N B q)) := by
  intro x0 nx1 x1 nx2 x2 x3 x4 x5 x6 σ hx0 hx1 hx2
  unfold f_X1_pairAll_103 g_X1_pairAll_103
  refine li (fun _ => ?_) (fun _ => ?_)
  · exact l_X1_pairAll_116 hN hk26 _ _ _ _ _ _ _ _ _ hx0 hx1 hx2
  · refine lg (gR_1_0 hx0) ?_
    refine lm (wI_put (sh_1_0 hx0)) (fun r3 => ?_)
    exact l_X1_pairAll_116 hN hk26 _ _ _ _ _ _ _ _ _ hx0 hx1 hx2
noncomputable def g_X1_pairAll_54 (N : Mem) (k26 : Nat → Nat → Nat → Nat → Nat → Int32 → ST → Option (ST)) (x0 : Nat) (nx1 : Nat) (x1 : Nat) (nx2 : Nat) (x2 : Nat) (x3 : Int32) (x4 : Int32) (s0 : Int32) (σ : ST) : Option (ST) :=
  if 0 ≤ s0 then
  ((xI 5 σ (x0 + 3) x4).bind fun v4 =>
  (yI 5 σ (x0 + 3) x4 (v4 ||| (jshl 1 s0))).bind fun r5 =>
  (xI 5 r5 (x0 + 2) s0).bind fun v6 =>
  if v6 < 0 then
  (g_X1_pairAll_103 N k26 x0 nx1 x1 nx2 x2 x3 x4 s0 v6 r5)
  else
  ((g_X1_prefers N nx2 x2 s0 x4 v6 r5).bind fun v7 =>
  if v7 = false then
  (k26 x0 nx1 x1 nx2 x2 (x3 + 1) r5)
  else
  (g_X1_pairAll_103 N k26 x0 nx1 x1 nx2 x2 x3 x4 s0 v6 r5)))
  else
  (some σ)
set_option maxHeartbeats 4000000 in
theorem l_X1_pairAll_54 {N : Mem} {B : Nat} (hN : HN N B) {fk26 : Nat → Nat → Nat → Int32 → Mem → Option (Mem)} {k26 : Nat → Nat → Nat → Nat → Nat → Int32 → ST → Option (ST)} (hk26 : ∀ (x0 : Nat) (nx1 : Nat) (x1 : Nat) (nx2 : Nat) (x2 : Nat) (x3 : Int32) (σ : ST), isC 1 x0 → isA nx1 x1 → isA nx2 x2 → fk26 (B + x0) (B + x1) (B + x2) x3 (put N B σ) = (k26 x0 nx1 x1 nx2 x2 x3 σ).bind (fun q => some (put N B q))) : ∀ (x0 : Nat) (nx1 : Nat) (x1 : Nat) (nx2 : Nat) (x2 : Nat) (x3 : Int32) (x4 : Int32) (s0 : Int32) (σ : ST), isC 1 x0 → isA nx1 x1 → isA nx2 x2 → f_X1_pairAll_54 fk26 (B + x0) (B + x1) (B + x2) x3 x4 s0 (put N B σ) = (g_X1_pairAll_54 N k26 x0 nx1 x1 nx2 x2 x3 x4 s0 σ).bind (fun q => some (put N B q)) := by
  intro x0 nx1 x1 nx2 x2 x3 x4 s0 σ hx0 hx1 hx2
  unfold f_X1_pairAll_54 g_X1_pairAll_54
  refine li (fun _ => ?_) (fun _ => ?_)
  · refine lg (gR_1_2 hx0) ?_
    refine lb (rI_put (sh_1_2 hx0)) (fun v4 => ?_)
    refine lm (wI_put (sh_1_2 hx0)) (fun r5 => ?_)
    refine lg (gR_1_1 hx0) ?_
    refine lb (rI_put (sh_1_1 hx0)) (fun v6 => ?_)
    refine li (fun _ => ?_) (fun _ => ?_)
    · exact l_X1_pairAll_103 hN hk26 _ _ _ _ _ _ _ _ _ _ hx0 hx1 hx2
    · refine lb (l_X1_prefers hN hx2) (fun v7 => ?_)
      refine li (fun _ => ?_) (fun _ => ?_)
      · exact hk26 _ _ _ _ _ _ _ hx0 hx1 hx2
      · exact l_X1_pairAll_103 hN hk26 _ _ _ _ _ _ _ _ _ _ hx0 hx1 hx2
  · rfl
noncomputable def g_X1_pairAll_26 (N : Mem) (n0 : Nat) (x0 : Nat) (nx1 : Nat) (x1 : Nat) (nx2 : Nat) (x2 : Nat) (x3 : Int32) (σ : ST) : Option (ST) :=
  match n0 with
  | 0 => none
  | n + 1 =>
    if 25 ≤ x3 then
    (some σ)
    else
    ((g_X1_lowestFree N x0 σ).bind fun v8 =>
    if 0 ≤ v8 then
    ((g_X1_bestUnasked N x0 nx1 x1 v8 σ).bind fun v9 =>
    g_X1_pairAll_54 N (g_X1_pairAll_26 N n) x0 nx1 x1 nx2 x2 x3 v8 v9 σ)
    else
    (g_X1_pairAll_54 N (g_X1_pairAll_26 N n) x0 nx1 x1 nx2 x2 x3 v8 (-1) σ))
set_option maxHeartbeats 4000000 in
theorem l_X1_pairAll_26 {N : Mem} {B : Nat} (hN : HN N B) : ∀ (n : Nat) (x0 : Nat) (nx1 : Nat) (x1 : Nat) (nx2 : Nat) (x2 : Nat) (x3 : Int32) (σ : ST), isC 1 x0 → isA nx1 x1 → isA nx2 x2 → f_X1_pairAll_26 n (B + x0) (B + x1) (B + x2) x3 (put N B σ) = (g_X1_pairAll_26 N n x0 nx1 x1 nx2 x2 x3 σ).bind (fun q => some (put N B q)) := by
  intro n
  induction n with
  | zero =>
    intro x0 nx1 x1 nx2 x2 x3 σ hx0 hx1 hx2
    rfl
  | succ n ih =>
    intro x0 nx1 x1 nx2 x2 x3 σ hx0 hx1 hx2
    unfold f_X1_pairAll_26 g_X1_pairAll_26
    refine li (fun _ => ?_) (fun _ => ?_)
    · rfl
    · refine lb (l_X1_lowestFree hN hx0) (fun v8 => ?_)
      refine li (fun _ => ?_) (fun _ => ?_)
      · refine lb (l_X1_bestUnasked hN hx0 hx1) (fun v9 => ?_)
        exact l_X1_pairAll_54 hN ih _ _ _ _ _ _ _ _ _ hx0 hx1 hx2
      · exact l_X1_pairAll_54 hN ih _ _ _ _ _ _ _ _ _ hx0 hx1 hx2
noncomputable def g_X1_pairAll_0 (N : Mem) (x0 : Nat) (nx1 : Nat) (x1 : Nat) (nx2 : Nat) (x2 : Nat) (σ : ST) : Option (ST) :=
  (g_fill 5 (x0 + 1) (-1) σ).bind fun r10 =>
  (g_fill 5 (x0 + 2) (-1) r10).bind fun r11 =>
  (g_fill 5 (x0 + 3) 0 r11).bind fun r12 =>
  g_X1_pairAll_26 N fu x0 nx1 x1 nx2 x2 0 r12
set_option maxHeartbeats 4000000 in
theorem l_X1_pairAll_0 {N : Mem} {B : Nat} (hN : HN N B) : ∀ (x0 : Nat) (nx1 : Nat) (x1 : Nat) (nx2 : Nat) (x2 : Nat) (σ : ST), isC 1 x0 → isA nx1 x1 → isA nx2 x2 → f_X1_pairAll_0 (B + x0) (B + x1) (B + x2) (put N B σ) = (g_X1_pairAll_0 N x0 nx1 x1 nx2 x2 σ).bind (fun q => some (put N B q)) := by
  intro x0 nx1 x1 nx2 x2 σ hx0 hx1 hx2
  unfold f_X1_pairAll_0 g_X1_pairAll_0
  refine lg (gR_1_0 hx0) ?_
  refine lm (l_fill (sh_1_0 hx0)) (fun r10 => ?_)
  refine lg (gR_1_1 hx0) ?_
  refine lm (l_fill (sh_1_1 hx0)) (fun r11 => ?_)
  refine lg (gR_1_2 hx0) ?_
  refine lm (l_fill (sh_1_2 hx0)) (fun r12 => ?_)
  exact l_X1_pairAll_26 hN  _ _ _ _ _ _ _ _ hx0 hx1 hx2
noncomputable def g_X1_pairAll (N : Mem) (x0 : Nat) (nx1 : Nat) (x1 : Nat) (nx2 : Nat) (x2 : Nat) (σ : ST) : Option (ST) := g_X1_pairAll_0 N x0 nx1 x1 nx2 x2 σ
theorem l_X1_pairAll {N : Mem} {B : Nat} (hN : HN N B) {x0 : Nat} {nx1 : Nat} {x1 : Nat} {nx2 : Nat} {x2 : Nat} {σ : ST} (hx0 : isC 1 x0) (hx1 : isA nx1 x1) (hx2 : isA nx2 x2) : f_X1_pairAll (B + x0) (B + x1) (B + x2) (put N B σ) = (g_X1_pairAll N x0 nx1 x1 nx2 x2 σ).map (put N B) := by
  unfold f_X1_pairAll g_X1_pairAll
  rw [if_pos (isOb_put hx0)]
  exact lmap (l_X1_pairAll_0 hN _ _ _ _ _ _ hx0 hx1 hx2)
noncomputable def g_X7_byteAt_0 (N : Mem) (x0 : Nat) (x1 : Int32) (σ : ST) : Option (Int32) :=
  if x1 < 0 then
  (some (-1))
  else
  (if (σ.1 x0 1) ≤ x1 then
  (some (-1))
  else
  (if 300 ≤ x1 then
  (some (-1))
  else
  ((xI 300 σ (x0 + 1) x1).bind fun v1 =>
  some v1)))
set_option maxHeartbeats 4000000 in
theorem l_X7_byteAt_0 {N : Mem} {B : Nat} (hN : HN N B) : ∀ (x0 : Nat) (x1 : Int32) (σ : ST), isC 7 x0 → f_X7_byteAt_0 (B + x0) x1 (put N B σ) = (g_X7_byteAt_0 N x0 x1 σ).bind some := by
  intro x0 x1 σ hx0
  unfold f_X7_byteAt_0 g_X7_byteAt_0
  refine li (fun _ => ?_) (fun _ => ?_)
  · rfl
  · refine lg (gI_7_1 hx0) ?_
    refine li (fun _ => ?_) (fun _ => ?_)
    · rfl
    · refine li (fun _ => ?_) (fun _ => ?_)
      · rfl
      · refine lg (gR_7_0 hx0) ?_
        refine lb (rI_put (sh_7_0 hx0)) (fun v1 => ?_)
        rfl
noncomputable def g_X7_byteAt (N : Mem) (x0 : Nat) (x1 : Int32) (σ : ST) : Option (Int32) := g_X7_byteAt_0 N x0 x1 σ
theorem l_X7_byteAt {N : Mem} {B : Nat} (hN : HN N B) {x0 : Nat} {x1 : Int32} {σ : ST} (hx0 : isC 7 x0) : f_X7_byteAt (B + x0) x1 (put N B σ) = g_X7_byteAt N x0 x1 σ := by
  unfold f_X7_byteAt g_X7_byteAt
  rw [if_pos (isOb_put hx0)]
  exact lsm (l_X7_byteAt_0 hN _ _ _ hx0)
noncomputable def g_X7_scanWord_53 (N : Mem) (n0 : Nat) (x0 : Nat) (x1 : Int32) (x2 : Int32) (x3 : Int32) (σ : ST) : Option (ST) :=
  match n0 with
  | 0 => none
  | n + 1 =>
    (f_J0_length_8abf5 0).bind fun v1 =>
    if v1 ≤ x3 then
    (some σ)
    else
    ((f_J0_charAt_5068e 0 x3).bind fun v2 =>
    if v2 = 32 then
    (if x2 = (σ.1 x0 5) then
    ((some (setI σ x0 2 x1)).bind fun r3 =>
    some r3)
    else
    (g_X7_scanWord_53 N n x0 (x1 + 1) (σ.1 x0 4) (x3 + 1) σ))
    else
    (if x2 < 0 then
    (g_X7_scanWord_53 N n x0 x1 (-1) (x3 + 1) σ)
    else
    (if (σ.1 x0 5) ≤ x2 then
    (g_X7_scanWord_53 N n x0 x1 (-1) (x3 + 1) σ)
    else
    ((g_X7_byteAt N x0 x2 σ).bind fun v4 =>
    if v4 = v2 then
    (g_X7_scanWord_53 N n x0 x1 (x2 + 1) (x3 + 1) σ)
    else
    (g_X7_scanWord_53 N n x0 x1 (-1) (x3 + 1) σ)))))
set_option maxHeartbeats 4000000 in
theorem l_X7_scanWord_53 {N : Mem} {B : Nat} (hN : HN N B) : ∀ (n : Nat) (x0 : Nat) (x1 : Int32) (x2 : Int32) (x3 : Int32) (σ : ST), isC 7 x0 → f_X7_scanWord_53 n (B + x0) x1 x2 x3 (put N B σ) = (g_X7_scanWord_53 N n x0 x1 x2 x3 σ).bind (fun q => some (put N B q)) := by
  intro n
  induction n with
  | zero =>
    intro x0 x1 x2 x3 σ hx0
    rfl
  | succ n ih =>
    intro x0 x1 x2 x3 σ hx0
    unfold f_X7_scanWord_53 g_X7_scanWord_53
    refine lb (rfl) (fun v1 => ?_)
    refine li (fun _ => ?_) (fun _ => ?_)
    · rfl
    · refine lb (rfl) (fun v2 => ?_)
      refine li (fun _ => ?_) (fun _ => ?_)
      · refine lg (gI_7_5 hx0) ?_
        refine li (fun _ => ?_) (fun _ => ?_)
        · refine lp (pF_7_2 hx0) (fun r3 => ?_)
          rfl
        · refine lg (gI_7_4 hx0) ?_
          exact ih _ _ _ _ _ hx0
      · refine li (fun _ => ?_) (fun _ => ?_)
        · exact ih _ _ _ _ _ hx0
        · refine lg (gI_7_5 hx0) ?_
          refine li (fun _ => ?_) (fun _ => ?_)
          · exact ih _ _ _ _ _ hx0
          · refine lb (l_X7_byteAt hN hx0) (fun v4 => ?_)
            refine li (fun _ => ?_) (fun _ => ?_)
            · exact ih _ _ _ _ _ hx0
            · exact ih _ _ _ _ _ hx0
noncomputable def g_X7_scanWord_38 (N : Mem) (x0 : Nat) (σ : ST) : Option (ST) :=
  (some (setI σ x0 2 42)).bind fun r5 =>
  g_X7_scanWord_53 N fu x0 0 (r5.1 x0 4) 0 r5
set_option maxHeartbeats 4000000 in
theorem l_X7_scanWord_38 {N : Mem} {B : Nat} (hN : HN N B) : ∀ (x0 : Nat) (σ : ST), isC 7 x0 → f_X7_scanWord_38 (B + x0) (put N B σ) = (g_X7_scanWord_38 N x0 σ).bind (fun q => some (put N B q)) := by
  intro x0 σ hx0
  unfold f_X7_scanWord_38 g_X7_scanWord_38
  refine lp (pF_7_2 hx0) (fun r5 => ?_)
  refine lg (gI_7_4 hx0) ?_
  exact l_X7_scanWord_53 hN  _ _ _ _ _ _ hx0
noncomputable def g_X7_scanWord_0 (N : Mem) (n0 : Nat) (x0 : Nat) (σ : ST) : Option (ST) :=
  match n0 with
  | 0 => none
  | n + 1 =>
    if (σ.1 x0 1) ≤ (σ.1 x0 5) then
    (g_X7_scanWord_38 N x0 σ)
    else
    ((g_X7_byteAt N x0 (σ.1 x0 5) σ).bind fun v6 =>
    (f_X7_isLetter v6).bind fun v7 =>
    if v7 = false then
    (g_X7_scanWord_38 N x0 σ)
    else
    ((some (setI σ x0 5 ((σ.1 x0 5) + 1))).bind fun r8 =>
    g_X7_scanWord_0 N n x0 r8))
set_option maxHeartbeats 4000000 in
theorem l_X7_scanWord_0 {N : Mem} {B : Nat} (hN : HN N B) : ∀ (n : Nat) (x0 : Nat) (σ : ST), isC 7 x0 → f_X7_scanWord_0 n (B + x0) (put N B σ) = (g_X7_scanWord_0 N n x0 σ).bind (fun q => some (put N B q)) := by
  intro n
  induction n with
  | zero =>
    intro x0 σ hx0
    rfl
  | succ n ih =>
    intro x0 σ hx0
    unfold f_X7_scanWord_0 g_X7_scanWord_0
    refine lg (gI_7_5 hx0) ?_
    refine lg (gI_7_1 hx0) ?_
    refine li (fun _ => ?_) (fun _ => ?_)
    · exact l_X7_scanWord_38 hN  _ _ hx0
    · refine lg (gI_7_5 hx0) ?_
      refine lb (l_X7_byteAt hN hx0) (fun v6 => ?_)
      refine lb (rfl) (fun v7 => ?_)
      refine li (fun _ => ?_) (fun _ => ?_)
      · exact l_X7_scanWord_38 hN  _ _ hx0
      · refine lg (gI_7_5 hx0) ?_
        refine lp (pF_7_5 hx0) (fun r8 => ?_)
        exact ih _ _ hx0
noncomputable def g_X7_scanWord (N : Mem) (x0 : Nat) (σ : ST) : Option (ST) := g_X7_scanWord_0 N fu x0 σ
theorem l_X7_scanWord {N : Mem} {B : Nat} (hN : HN N B) {x0 : Nat} {σ : ST} (hx0 : isC 7 x0) : f_X7_scanWord (B + x0) (put N B σ) = (g_X7_scanWord N x0 σ).map (put N B) := by
  unfold f_X7_scanWord g_X7_scanWord
  rw [if_pos (isOb_put hx0)]
  exact lmap (l_X7_scanWord_0 hN _ _ _ hx0)
noncomputable def g_X7_scanNumber_21 (N : Mem) (n0 : Nat) (x0 : Nat) (σ : ST) : Option (ST) :=
  match n0 with
  | 0 => none
  | n + 1 =>
    if (σ.1 x0 1) ≤ (σ.1 x0 5) then
    (some σ)
    else
    ((g_X7_byteAt N x0 (σ.1 x0 5) σ).bind fun v1 =>
    (f_X7_isDigit v1).bind fun v2 =>
    if v2 = false then
    (some σ)
    else
    ((g_X7_byteAt N x0 (σ.1 x0 5) σ).bind fun v3 =>
    (some (setI σ x0 3 (jmin ((((σ.1 x0 3) * 10) + v3) - 48) 10000))).bind fun r4 =>
    (some (setI r4 x0 5 ((r4.1 x0 5) + 1))).bind fun r5 =>
    g_X7_scanNumber_21 N n x0 r5))
set_option maxHeartbeats 4000000 in
theorem l_X7_scanNumber_21 {N : Mem} {B : Nat} (hN : HN N B) : ∀ (n : Nat) (x0 : Nat) (σ : ST), isC 7 x0 → f_X7_scanNumber_21 n (B + x0) (put N B σ) = (g_X7_scanNumber_21 N n x0 σ).bind (fun q => some (put N B q)) := by
  intro n
  induction n with
  | zero =>
    intro x0 σ hx0
    rfl
  | succ n ih =>
    intro x0 σ hx0
    unfold f_X7_scanNumber_21 g_X7_scanNumber_21
    refine lg (gI_7_5 hx0) ?_
    refine lg (gI_7_1 hx0) ?_
    refine li (fun _ => ?_) (fun _ => ?_)
    · rfl
    · refine lg (gI_7_5 hx0) ?_
      refine lb (l_X7_byteAt hN hx0) (fun v1 => ?_)
      refine lb (rfl) (fun v2 => ?_)
      refine li (fun _ => ?_) (fun _ => ?_)
      · rfl
      · refine lg (gI_7_3 hx0) ?_
        refine lg (gI_7_5 hx0) ?_
        refine lb (l_X7_byteAt hN hx0) (fun v3 => ?_)
        refine lp (pF_7_3 hx0) (fun r4 => ?_)
        refine lg (gI_7_5 hx0) ?_
        refine lp (pF_7_5 hx0) (fun r5 => ?_)
        exact ih _ _ hx0
noncomputable def g_X7_scanNumber_0 (N : Mem) (x0 : Nat) (σ : ST) : Option (ST) :=
  (some (setI σ x0 2 27)).bind fun r6 =>
  (g_X7_byteAt N x0 (r6.1 x0 4) r6).bind fun v7 =>
  (some (setI r6 x0 3 (v7 - 48))).bind fun r8 =>
  g_X7_scanNumber_21 N fu x0 r8
set_option maxHeartbeats 4000000 in
theorem l_X7_scanNumber_0 {N : Mem} {B : Nat} (hN : HN N B) : ∀ (x0 : Nat) (σ : ST), isC 7 x0 → f_X7_scanNumber_0 (B + x0) (put N B σ) = (g_X7_scanNumber_0 N x0 σ).bind (fun q => some (put N B q)) := by
  intro x0 σ hx0
  unfold f_X7_scanNumber_0 g_X7_scanNumber_0
  refine lp (pF_7_2 hx0) (fun r6 => ?_)
  refine lg (gI_7_4 hx0) ?_
  refine lb (l_X7_byteAt hN hx0) (fun v7 => ?_)
  refine lp (pF_7_3 hx0) (fun r8 => ?_)
  exact l_X7_scanNumber_21 hN  _ _ _ hx0
noncomputable def g_X7_scanNumber (N : Mem) (x0 : Nat) (σ : ST) : Option (ST) := g_X7_scanNumber_0 N x0 σ
theorem l_X7_scanNumber {N : Mem} {B : Nat} (hN : HN N B) {x0 : Nat} {σ : ST} (hx0 : isC 7 x0) : f_X7_scanNumber (B + x0) (put N B σ) = (g_X7_scanNumber N x0 σ).map (put N B) := by
  unfold f_X7_scanNumber g_X7_scanNumber
  rw [if_pos (isOb_put hx0)]
  exact lmap (l_X7_scanNumber_0 hN _ _ hx0)
noncomputable def g_X7_scanSymbol_83 (N : Mem) (x0 : Nat) (s0 : Int32) (s1 : Nat) (σ : ST) : Option (ST) :=
  (some (setI σ s1 2 s0)).bind fun r1 =>
  (some (setI r1 x0 5 ((r1.1 x0 5) + 1))).bind fun r2 =>
  some r2
set_option maxHeartbeats 4000000 in
theorem l_X7_scanSymbol_83 {N : Mem} {B : Nat} (hN : HN N B) : ∀ (x0 : Nat) (s0 : Int32) (s1 : Nat) (σ : ST), isC 7 x0 → isC 7 s1 → f_X7_scanSymbol_83 (B + x0) s0 (B + s1) (put N B σ) = (g_X7_scanSymbol_83 N x0 s0 s1 σ).bind (fun q => some (put N B q)) := by
  intro x0 s0 s1 σ hx0 hs1
  unfold f_X7_scanSymbol_83 g_X7_scanSymbol_83
  refine lp (pF_7_2 hs1) (fun r1 => ?_)
  refine lg (gI_7_5 hx0) ?_
  refine lp (pF_7_5 hx0) (fun r2 => ?_)
  rfl
noncomputable def g_X7_scanSymbol_42 (N : Mem) (x0 : Nat) (σ : ST) : Option (ST) :=
  if (σ.1 x0 1) ≤ (σ.1 x0 5) then
  (some σ)
  else
  ((g_X7_byteAt N x0 (σ.1 x0 5) σ).bind fun v3 =>
  if v3 = 61 then
  (if (σ.1 x0 2) = 28 then
  (g_X7_scanSymbol_83 N x0 39 x0 σ)
  else
  (g_X7_scanSymbol_83 N x0 40 x0 σ))
  else
  (some σ))
set_option maxHeartbeats 4000000 in
theorem l_X7_scanSymbol_42 {N : Mem} {B : Nat} (hN : HN N B) : ∀ (x0 : Nat) (σ : ST), isC 7 x0 → f_X7_scanSymbol_42 (B + x0) (put N B σ) = (g_X7_scanSymbol_42 N x0 σ).bind (fun q => some (put N B q)) := by
  intro x0 σ hx0
  unfold f_X7_scanSymbol_42 g_X7_scanSymbol_42
  refine lg (gI_7_5 hx0) ?_
  refine lg (gI_7_1 hx0) ?_
  refine li (fun _ => ?_) (fun _ => ?_)
  · rfl
  · refine lg (gI_7_5 hx0) ?_
    refine lb (l_X7_byteAt hN hx0) (fun v3 => ?_)
    refine li (fun _ => ?_) (fun _ => ?_)
    · refine lg (gI_7_2 hx0) ?_
      refine li (fun _ => ?_) (fun _ => ?_)
      · exact l_X7_scanSymbol_83 hN  _ _ _ _ hx0 hx0
      · exact l_X7_scanSymbol_83 hN  _ _ _ _ hx0 hx0
    · rfl
noncomputable def g_X7_scanSymbol_21 (N : Mem) (x0 : Nat) (s0 : Int32) (s1 : Nat) (σ : ST) : Option (ST) :=
  (some (setI σ s1 2 s0)).bind fun r4 =>
  if (r4.1 x0 2) = 28 then
  (g_X7_scanSymbol_42 N x0 r4)
  else
  (if (r4.1 x0 2) = 29 then
  (g_X7_scanSymbol_42 N x0 r4)
  else
  (some r4))
set_option maxHeartbeats 4000000 in
theorem l_X7_scanSymbol_21 {N : Mem} {B : Nat} (hN : HN N B) : ∀ (x0 : Nat) (s0 : Int32) (s1 : Nat) (σ : ST), isC 7 x0 → isC 7 s1 → f_X7_scanSymbol_21 (B + x0) s0 (B + s1) (put N B σ) = (g_X7_scanSymbol_21 N x0 s0 s1 σ).bind (fun q => some (put N B q)) := by
  intro x0 s0 s1 σ hx0 hs1
  unfold f_X7_scanSymbol_21 g_X7_scanSymbol_21
  refine lp (pF_7_2 hs1) (fun r4 => ?_)
  refine lg (gI_7_2 hx0) ?_
  refine li (fun _ => ?_) (fun _ => ?_)
  · exact l_X7_scanSymbol_42 hN  _ _ hx0
  · refine lg (gI_7_2 hx0) ?_
    refine li (fun _ => ?_) (fun _ => ?_)
    · exact l_X7_scanSymbol_42 hN  _ _ hx0
    · rfl
noncomputable def g_X7_scanSymbol_0 (N : Mem) (x0 : Nat) (x1 : Int32) (σ : ST) : Option (ST) :=
  (f_J0_indexOf_0f7a4 1 x1).bind fun v5 =>
  if 0 ≤ v5 then
  (g_X7_scanSymbol_21 N x0 (28 + v5) x0 σ)
  else
  (g_X7_scanSymbol_21 N x0 42 x0 σ)
set_option maxHeartbeats 4000000 in
theorem l_X7_scanSymbol_0 {N : Mem} {B : Nat} (hN : HN N B) : ∀ (x0 : Nat) (x1 : Int32) (σ : ST), isC 7 x0 → f_X7_scanSymbol_0 (B + x0) x1 (put N B σ) = (g_X7_scanSymbol_0 N x0 x1 σ).bind (fun q => some (put N B q)) := by
  intro x0 x1 σ hx0
  unfold f_X7_scanSymbol_0 g_X7_scanSymbol_0
  refine lb (rfl) (fun v5 => ?_)
  refine li (fun _ => ?_) (fun _ => ?_)
  · exact l_X7_scanSymbol_21 hN  _ _ _ _ hx0 hx0
  · exact l_X7_scanSymbol_21 hN  _ _ _ _ hx0 hx0
noncomputable def g_X7_scanSymbol (N : Mem) (x0 : Nat) (x1 : Int32) (σ : ST) : Option (ST) := g_X7_scanSymbol_0 N x0 x1 σ
theorem l_X7_scanSymbol {N : Mem} {B : Nat} (hN : HN N B) {x0 : Nat} {x1 : Int32} {σ : ST} (hx0 : isC 7 x0) : f_X7_scanSymbol (B + x0) x1 (put N B σ) = (g_X7_scanSymbol N x0 x1 σ).map (put N B) := by
  unfold f_X7_scanSymbol g_X7_scanSymbol
  rw [if_pos (isOb_put hx0)]
  exact lmap (l_X7_scanSymbol_0 hN _ _ _ hx0)
noncomputable def g_X7_advance_45 (N : Mem) (k8 : Nat → ST → Option (ST)) (x0 : Nat) (σ : ST) : Option (ST) :=
  (some (setI σ x0 4 ((σ.1 x0 4) + 1))).bind fun r1 =>
  k8 x0 r1
set_option maxHeartbeats 4000000 in
theorem l_X7_advance_45 {N : Mem} {B : Nat} (hN : HN N B) {fk8 : Nat → Mem → Option (Mem)} {k8 : Nat → ST → Option (ST)} (hk8 : ∀ (x0 : Nat) (σ : ST), isC 7 x0 → fk8 (B + x0) (put N B σ) = (k8 x0 σ).bind (fun q => some (put N B q))) : ∀ (x0 : Nat) (σ : ST), isC 7 x0 → f_X7_advance_45 fk8 (B + x0) (put N B σ) = (g_X7_advance_45 N k8 x0 σ).bind (fun q => some (put N B q)) := by
  intro x0 σ hx0
  unfold f_X7_advance_45 g_X7_advance_45
  refine lg (gI_7_4 hx0) ?_
  refine lp (pF_7_4 hx0) (fun r1 => ?_)
  exact hk8 _ _ hx0
noncomputable def g_X7_advance_58 (N : Mem) (x0 : Nat) (σ : ST) : Option (ST) :=
  (some (setI σ x0 5 ((σ.1 x0 4) + 1))).bind fun r2 =>
  (g_X7_byteAt N x0 (r2.1 x0 4) r2).bind fun v3 =>
  if (r2.1 x0 4) < (r2.1 x0 1) then
  ((f_X7_isLetter v3).bind fun v4 =>
  if v4 = false then
  ((f_X7_isDigit v3).bind fun v5 =>
  if v5 = false then
  ((g_X7_scanSymbol N x0 ((Int32.toUInt32 v3 % 65536).toInt32) r2).bind fun r6 =>
  some r6)
  else
  ((g_X7_scanNumber N x0 r2).bind fun r7 =>
  some r7))
  else
  ((g_X7_scanWord N x0 r2).bind fun r8 =>
  some r8))
  else
  ((some (setI r2 x0 5 (r2.1 x0 1))).bind fun r9 =>
  (some (setI r9 x0 2 41)).bind fun r10 =>
  some r10)
set_option maxHeartbeats 4000000 in
theorem l_X7_advance_58 {N : Mem} {B : Nat} (hN : HN N B) : ∀ (x0 : Nat) (σ : ST), isC 7 x0 → f_X7_advance_58 (B + x0) (put N B σ) = (g_X7_advance_58 N x0 σ).bind (fun q => some (put N B q)) := by
  intro x0 σ hx0
  unfold f_X7_advance_58 g_X7_advance_58
  refine lg (gI_7_4 hx0) ?_
  refine lp (pF_7_5 hx0) (fun r2 => ?_)
  refine lg (gI_7_4 hx0) ?_
  refine lb (l_X7_byteAt hN hx0) (fun v3 => ?_)
  refine lg (gI_7_4 hx0) ?_
  refine lg (gI_7_1 hx0) ?_
  refine li (fun _ => ?_) (fun _ => ?_)
  · refine lb (rfl) (fun v4 => ?_)
    refine li (fun _ => ?_) (fun _ => ?_)
    · refine lb (rfl) (fun v5 => ?_)
      refine li (fun _ => ?_) (fun _ => ?_)
      · refine lm (l_X7_scanSymbol hN hx0) (fun r6 => ?_)
        rfl
      · refine lm (l_X7_scanNumber hN hx0) (fun r7 => ?_)
        rfl
    · refine lm (l_X7_scanWord hN hx0) (fun r8 => ?_)
      rfl
  · refine lg (gI_7_1 hx0) ?_
    refine lp (pF_7_5 hx0) (fun r9 => ?_)
    refine lp (pF_7_2 hx0) (fun r10 => ?_)
    rfl
noncomputable def g_X7_advance_8 (N : Mem) (n0 : Nat) (x0 : Nat) (σ : ST) : Option (ST) :=
  match n0 with
  | 0 => none
  | n + 1 =>
    if (σ.1 x0 1) ≤ (σ.1 x0 4) then
    (g_X7_advance_58 N x0 σ)
    else
    ((g_X7_byteAt N x0 (σ.1 x0 4) σ).bind fun v11 =>
    if v11 = 32 then
    (g_X7_advance_45 N (g_X7_advance_8 N n) x0 σ)
    else
    ((g_X7_byteAt N x0 (σ.1 x0 4) σ).bind fun v12 =>
    if v12 = 10 then
    (g_X7_advance_45 N (g_X7_advance_8 N n) x0 σ)
    else
    (g_X7_advance_58 N x0 σ)))
set_option maxHeartbeats 4000000 in
theorem l_X7_advance_8 {N : Mem} {B : Nat} (hN : HN N B) : ∀ (n : Nat) (x0 : Nat) (σ : ST), isC 7 x0 → f_X7_advance_8 n (B + x0) (put N B σ) = (g_X7_advance_8 N n x0 σ).bind (fun q => some (put N B q)) := by
  intro n
  induction n with
  | zero =>
    intro x0 σ hx0
    rfl
  | succ n ih =>
    intro x0 σ hx0
    unfold f_X7_advance_8 g_X7_advance_8
    refine lg (gI_7_4 hx0) ?_
    refine lg (gI_7_1 hx0) ?_
    refine li (fun _ => ?_) (fun _ => ?_)
    · exact l_X7_advance_58 hN  _ _ hx0
    · refine lg (gI_7_4 hx0) ?_
      refine lb (l_X7_byteAt hN hx0) (fun v11 => ?_)
      refine li (fun _ => ?_) (fun _ => ?_)
      · exact l_X7_advance_45 hN ih _ _ hx0
      · refine lg (gI_7_4 hx0) ?_
        refine lb (l_X7_byteAt hN hx0) (fun v12 => ?_)
        refine li (fun _ => ?_) (fun _ => ?_)
        · exact l_X7_advance_45 hN ih _ _ hx0
        · exact l_X7_advance_58 hN  _ _ hx0
noncomputable def g_X7_advance_0 (N : Mem) (x0 : Nat) (σ : ST) : Option (ST) :=
  (some (setI σ x0 4 (σ.1 x0 5))).bind fun r13 =>
  g_X7_advance_8 N fu x0 r13
set_option maxHeartbeats 4000000 in
theorem l_X7_advance_0 {N : Mem} {B : Nat} (hN : HN N B) : ∀ (x0 : Nat) (σ : ST), isC 7 x0 → f_X7_advance_0 (B + x0) (put N B σ) = (g_X7_advance_0 N x0 σ).bind (fun q => some (put N B q)) := by
  intro x0 σ hx0
  unfold f_X7_advance_0 g_X7_advance_0
  refine lg (gI_7_5 hx0) ?_
  refine lp (pF_7_4 hx0) (fun r13 => ?_)
  exact l_X7_advance_8 hN  _ _ _ hx0
noncomputable def g_X7_advance (N : Mem) (x0 : Nat) (σ : ST) : Option (ST) := g_X7_advance_0 N x0 σ
theorem l_X7_advance {N : Mem} {B : Nat} (hN : HN N B) {x0 : Nat} {σ : ST} (hx0 : isC 7 x0) : f_X7_advance (B + x0) (put N B σ) = (g_X7_advance N x0 σ).map (put N B) := by
  unfold f_X7_advance g_X7_advance
  rw [if_pos (isOb_put hx0)]
  exact lmap (l_X7_advance_0 hN _ _ hx0)
noncomputable def g_X7_rewind_0 (N : Mem) (x0 : Nat) (σ : ST) : Option (ST) :=
  (some (setI σ x0 5 0)).bind fun r1 =>
  (g_X7_advance N x0 r1).bind fun r2 =>
  some r2
set_option maxHeartbeats 4000000 in
theorem l_X7_rewind_0 {N : Mem} {B : Nat} (hN : HN N B) : ∀ (x0 : Nat) (σ : ST), isC 7 x0 → f_X7_rewind_0 (B + x0) (put N B σ) = (g_X7_rewind_0 N x0 σ).bind (fun q => some (put N B q)) := by
  intro x0 σ hx0
  unfold f_X7_rewind_0 g_X7_rewind_0
  refine lp (pF_7_5 hx0) (fun r1 => ?_)
  refine lm (l_X7_advance hN hx0) (fun r2 => ?_)
  rfl
noncomputable def g_X7_rewind (N : Mem) (x0 : Nat) (σ : ST) : Option (ST) := g_X7_rewind_0 N x0 σ
theorem l_X7_rewind {N : Mem} {B : Nat} (hN : HN N B) {x0 : Nat} {σ : ST} (hx0 : isC 7 x0) : f_X7_rewind (B + x0) (put N B σ) = (g_X7_rewind N x0 σ).map (put N B) := by
  unfold f_X7_rewind g_X7_rewind
  rw [if_pos (isOb_put hx0)]
  exact lmap (l_X7_rewind_0 hN _ _ hx0)
noncomputable def g_X2_refuse_0 (N : Mem) (x0 : Nat) (x1 : Int32) (σ : ST) : Option (Bool × ST) :=
  (some (setI σ x0 1 x1)).bind fun r1 =>
  (some (setI r1 x0 2 (r1.1 593 4))).bind fun r2 =>
  some (false, r2)
set_option maxHeartbeats 4000000 in
theorem l_X2_refuse_0 {N : Mem} {B : Nat} (hN : HN N B) : ∀ (x0 : Nat) (x1 : Int32) (σ : ST), isC 2 x0 → f_X2_refuse_0 (B + x0) x1 (put N B σ) = (g_X2_refuse_0 N x0 x1 σ).bind (fun q => some (q.1, put N B q.2)) := by
  intro x0 x1 σ hx0
  unfold f_X2_refuse_0 g_X2_refuse_0
  refine lp (pF_2_1 hx0) (fun r1 => ?_)
  refine lg (gR_2_0 hx0) ?_
  refine lg (gI_7_4 (sh_2_0 hx0)) ?_
  refine lp (pF_2_2 hx0) (fun r2 => ?_)
  rfl
noncomputable def g_X2_refuse (N : Mem) (x0 : Nat) (x1 : Int32) (σ : ST) : Option (Bool × ST) := g_X2_refuse_0 N x0 x1 σ
theorem l_X2_refuse {N : Mem} {B : Nat} (hN : HN N B) {x0 : Nat} {x1 : Int32} {σ : ST} (hx0 : isC 2 x0) : f_X2_refuse (B + x0) x1 (put N B σ) = (g_X2_refuse N x0 x1 σ).bind (fun q => some (q.1, put N B q.2)) := by
  unfold f_X2_refuse g_X2_refuse
  rw [if_pos (isOb_put hx0)]
  exact l_X2_refuse_0 hN _ _ _ hx0
noncomputable def g_X2_order_0 (N : Mem) (x0 : Nat) (x1 : Int32) (x2 : Int32) (σ : ST) : Option (Int32 × ST) :=
  (f_X10_within (σ.1 x0 5) 0 299).bind fun v1 =>
  if v1 = true then
  ((yI 300 σ (x0 + 1) (σ.1 x0 5) x1).bind fun r2 =>
  (yI 300 r2 (x0 + 2) (r2.1 x0 5) x2).bind fun r3 =>
  (some (setI r3 x0 5 ((r3.1 x0 5) + 1))).bind fun r4 =>
  some (((r4.1 x0 5) - 1), r4))
  else
  (some ((-1), σ))
set_option maxHeartbeats 4000000 in
theorem l_X2_order_0 {N : Mem} {B : Nat} (hN : HN N B) : ∀ (x0 : Nat) (x1 : Int32) (x2 : Int32) (σ : ST), isC 2 x0 → f_X2_order_0 (B + x0) x1 x2 (put N B σ) = (g_X2_order_0 N x0 x1 x2 σ).bind (fun q => some (q.1, put N B q.2)) := by
  intro x0 x1 x2 σ hx0
  unfold f_X2_order_0 g_X2_order_0
  refine lg (gI_2_5 hx0) ?_
  refine lb (rfl) (fun v1 => ?_)
  refine li (fun _ => ?_) (fun _ => ?_)
  · refine lg (gR_2_7 hx0) ?_
    refine lg (gI_2_5 hx0) ?_
    refine lm (wI_put (sh_2_7 hx0)) (fun r2 => ?_)
    refine lg (gR_2_8 hx0) ?_
    refine lg (gI_2_5 hx0) ?_
    refine lm (wI_put (sh_2_8 hx0)) (fun r3 => ?_)
    refine lg (gI_2_5 hx0) ?_
    refine lp (pF_2_5 hx0) (fun r4 => ?_)
    refine lg (gI_2_5 hx0) ?_
    rfl
  · rfl
noncomputable def g_X2_order (N : Mem) (x0 : Nat) (x1 : Int32) (x2 : Int32) (σ : ST) : Option (Int32 × ST) := g_X2_order_0 N x0 x1 x2 σ
theorem l_X2_order {N : Mem} {B : Nat} (hN : HN N B) {x0 : Nat} {x1 : Int32} {x2 : Int32} {σ : ST} (hx0 : isC 2 x0) : f_X2_order (B + x0) x1 x2 (put N B σ) = (g_X2_order N x0 x1 x2 σ).bind (fun q => some (q.1, put N B q.2)) := by
  unfold f_X2_order g_X2_order
  rw [if_pos (isOb_put hx0)]
  exact l_X2_order_0 hN _ _ _ _ hx0
noncomputable def g_X2_readPart_0 (N : Mem) (x0 : Nat) (x1 : Int32) (x2 : Int32) (x3 : Int32) (σ : ST) : Option (Bool × ST) :=
  if (σ.1 593 2) = 27 then
  ((f_X10_within (σ.1 593 3) x2 x3).bind fun v1 =>
  if v1 = true then
  ((yI 72 σ (x0 + 5) (((σ.1 x0 6) * 3) + x1) (σ.1 593 3)).bind fun r2 =>
  (g_X7_advance N 593 r2).bind fun r3 =>
  some (true, r3))
  else
  ((g_X2_refuse N x0 2 σ).bind fun r4 =>
  some (r4.1, r4.2)))
  else
  ((g_X2_refuse N x0 1 σ).bind fun r5 =>
  some (r5.1, r5.2))
set_option maxHeartbeats 4000000 in
theorem l_X2_readPart_0 {N : Mem} {B : Nat} (hN : HN N B) : ∀ (x0 : Nat) (x1 : Int32) (x2 : Int32) (x3 : Int32) (σ : ST), isC 2 x0 → f_X2_readPart_0 (B + x0) x1 x2 x3 (put N B σ) = (g_X2_readPart_0 N x0 x1 x2 x3 σ).bind (fun q => some (q.1, put N B q.2)) := by
  intro x0 x1 x2 x3 σ hx0
  unfold f_X2_readPart_0 g_X2_readPart_0
  refine lg (gR_2_0 hx0) ?_
  refine lg (gI_7_2 (sh_2_0 hx0)) ?_
  refine li (fun _ => ?_) (fun _ => ?_)
  · refine lg (gR_2_0 hx0) ?_
    refine lg (gI_7_3 (sh_2_0 hx0)) ?_
    refine lb (rfl) (fun v1 => ?_)
    refine li (fun _ => ?_) (fun _ => ?_)
    · refine lg (gR_2_11 hx0) ?_
      refine lg (gI_2_6 hx0) ?_
      refine lg (gR_2_0 hx0) ?_
      refine lg (gI_7_3 (sh_2_0 hx0)) ?_
      refine lm (wI_put (sh_2_11 hx0)) (fun r2 => ?_)
      refine lg (gR_2_0 hx0) ?_
      refine lm (l_X7_advance hN (sh_2_0 hx0)) (fun r3 => ?_)
      rfl
    · refine lc (l_X2_refuse hN hx0) (fun r4 => ?_)
      dsimp only
      rfl
  · refine lc (l_X2_refuse hN hx0) (fun r5 => ?_)
    dsimp only
    rfl
noncomputable def g_X2_readPart (N : Mem) (x0 : Nat) (x1 : Int32) (x2 : Int32) (x3 : Int32) (σ : ST) : Option (Bool × ST) := g_X2_readPart_0 N x0 x1 x2 x3 σ
theorem l_X2_readPart {N : Mem} {B : Nat} (hN : HN N B) {x0 : Nat} {x1 : Int32} {x2 : Int32} {x3 : Int32} {σ : ST} (hx0 : isC 2 x0) : f_X2_readPart (B + x0) x1 x2 x3 (put N B σ) = (g_X2_readPart N x0 x1 x2 x3 σ).bind (fun q => some (q.1, put N B q.2)) := by
  unfold f_X2_readPart g_X2_readPart
  rw [if_pos (isOb_put hx0)]
  exact l_X2_readPart_0 hN _ _ _ _ _ hx0
noncomputable def g_X2_expect_0 (N : Mem) (x0 : Nat) (x1 : Int32) (σ : ST) : Option (Bool × ST) :=
  if (σ.1 593 2) = x1 then
  ((g_X7_advance N 593 σ).bind fun r1 =>
  some (true, r1))
  else
  ((g_X2_refuse N x0 1 σ).bind fun r2 =>
  some (r2.1, r2.2))
set_option maxHeartbeats 4000000 in
theorem l_X2_expect_0 {N : Mem} {B : Nat} (hN : HN N B) : ∀ (x0 : Nat) (x1 : Int32) (σ : ST), isC 2 x0 → f_X2_expect_0 (B + x0) x1 (put N B σ) = (g_X2_expect_0 N x0 x1 σ).bind (fun q => some (q.1, put N B q.2)) := by
  intro x0 x1 σ hx0
  unfold f_X2_expect_0 g_X2_expect_0
  refine lg (gR_2_0 hx0) ?_
  refine lg (gI_7_2 (sh_2_0 hx0)) ?_
  refine li (fun _ => ?_) (fun _ => ?_)
  · refine lg (gR_2_0 hx0) ?_
    refine lm (l_X7_advance hN (sh_2_0 hx0)) (fun r1 => ?_)
    rfl
  · refine lc (l_X2_refuse hN hx0) (fun r2 => ?_)
    dsimp only
    rfl
noncomputable def g_X2_expect (N : Mem) (x0 : Nat) (x1 : Int32) (σ : ST) : Option (Bool × ST) := g_X2_expect_0 N x0 x1 σ
theorem l_X2_expect {N : Mem} {B : Nat} (hN : HN N B) {x0 : Nat} {x1 : Int32} {σ : ST} (hx0 : isC 2 x0) : f_X2_expect (B + x0) x1 (put N B σ) = (g_X2_expect N x0 x1 σ).bind (fun q => some (q.1, put N B q.2)) := by
  unfold f_X2_expect g_X2_expect
  rw [if_pos (isOb_put hx0)]
  exact l_X2_expect_0 hN _ _ _ hx0
noncomputable def g_X2_readOrder_0 (N : Mem) (x0 : Nat) (x1 : Int32) (σ : ST) : Option (Bool × ST) :=
  if x1 = 3 then
  ((g_X2_readPart N x0 1 0 9 σ).bind fun r1 =>
  if r1.1 = false then
  (some (false, r1.2))
  else
  ((g_X2_expect N x0 11 r1.2).bind fun r2 =>
  if r2.1 = false then
  (some (false, r2.2))
  else
  ((g_X2_readPart N x0 2 0 99 r2.2).bind fun r3 =>
  if r3.1 = false then
  (some (false, r3.2))
  else
  (some (true, r3.2)))))
  else
  (if x1 = 6 then
  ((g_X2_readPart N x0 1 0 9999 σ).bind fun r4 =>
  if r4.1 = false then
  (some (false, r4.2))
  else
  ((g_X2_expect N x0 17 r4.2).bind fun r5 =>
  if r5.1 = false then
  (some (false, r5.2))
  else
  ((g_X2_readPart N x0 2 0 4 r5.2).bind fun r6 =>
  if r6.1 = false then
  (some (false, r6.2))
  else
  (some (true, r6.2)))))
  else
  (if x1 = 7 then
  ((g_X2_readPart N x0 1 0 4 σ).bind fun r7 =>
  some (r7.1, r7.2))
  else
  (if x1 = 8 then
  ((g_X2_readPart N x0 1 0 4 σ).bind fun r8 =>
  if r8.1 = false then
  (some (false, r8.2))
  else
  ((g_X2_expect N x0 17 r8.2).bind fun r9 =>
  if r9.1 = false then
  (some (false, r9.2))
  else
  ((g_X2_readPart N x0 2 0 9 r9.2).bind fun r10 =>
  if r10.1 = false then
  (some (false, r10.2))
  else
  (some (true, r10.2)))))
  else
  (if x1 = 9 then
  ((g_X2_readPart N x0 1 1 60 σ).bind fun r11 =>
  some (r11.1, r11.2))
  else
  ((g_X2_readPart N x0 1 0 9 σ).bind fun r12 =>
  if r12.1 = false then
  (some (false, r12.2))
  else
  ((g_X2_expect N x0 16 r12.2).bind fun r13 =>
  if r13.1 = false then
  (some (false, r13.2))
  else
  ((g_X2_readPart N x0 2 0 110 r13.2).bind fun r14 =>
  if r14.1 = false then
  (some (false, r14.2))
  else
  (some (true, r14.2)))))))))
set_option maxHeartbeats 4000000 in
theorem l_X2_readOrder_0 {N : Mem} {B : Nat} (hN : HN N B) : ∀ (x0 : Nat) (x1 : Int32) (σ : ST), isC 2 x0 → f_X2_readOrder_0 (B + x0) x1 (put N B σ) = (g_X2_readOrder_0 N x0 x1 σ).bind (fun q => some (q.1, put N B q.2)) := by
  intro x0 x1 σ hx0
  unfold f_X2_readOrder_0 g_X2_readOrder_0
  refine li (fun _ => ?_) (fun _ => ?_)
  · refine lc (l_X2_readPart hN hx0) (fun r1 => ?_)
    dsimp only
    refine li (fun _ => ?_) (fun _ => ?_)
    · rfl
    · refine lc (l_X2_expect hN hx0) (fun r2 => ?_)
      dsimp only
      refine li (fun _ => ?_) (fun _ => ?_)
      · rfl
      · refine lc (l_X2_readPart hN hx0) (fun r3 => ?_)
        dsimp only
        refine li (fun _ => ?_) (fun _ => ?_)
        · rfl
        · rfl
  refine li (fun _ => ?_) (fun _ => ?_)
  · refine lc (l_X2_readPart hN hx0) (fun r4 => ?_)
    dsimp only
    refine li (fun _ => ?_) (fun _ => ?_)
    · rfl
    · refine lc (l_X2_expect hN hx0) (fun r5 => ?_)
      dsimp only
      refine li (fun _ => ?_) (fun _ => ?_)
      · rfl
      · refine lc (l_X2_readPart hN hx0) (fun r6 => ?_)
        dsimp only
        refine li (fun _ => ?_) (fun _ => ?_)
        · rfl
        · rfl
  refine li (fun _ => ?_) (fun _ => ?_)
  · refine lc (l_X2_readPart hN hx0) (fun r7 => ?_)
    dsimp only
    rfl
  refine li (fun _ => ?_) (fun _ => ?_)
  · refine lc (l_X2_readPart hN hx0) (fun r8 => ?_)
    dsimp only
    refine li (fun _ => ?_) (fun _ => ?_)
    · rfl
    · refine lc (l_X2_expect hN hx0) (fun r9 => ?_)
      dsimp only
      refine li (fun _ => ?_) (fun _ => ?_)
      · rfl
      · refine lc (l_X2_readPart hN hx0) (fun r10 => ?_)
        dsimp only
        refine li (fun _ => ?_) (fun _ => ?_)
        · rfl
        · rfl
  refine li (fun _ => ?_) (fun _ => ?_)
  · refine lc (l_X2_readPart hN hx0) (fun r11 => ?_)
    dsimp only
    rfl
  refine lc (l_X2_readPart hN hx0) (fun r12 => ?_)
  dsimp only
  refine li (fun _ => ?_) (fun _ => ?_)
  · rfl
  · refine lc (l_X2_expect hN hx0) (fun r13 => ?_)
    dsimp only
    refine li (fun _ => ?_) (fun _ => ?_)
    · rfl
    · refine lc (l_X2_readPart hN hx0) (fun r14 => ?_)
      dsimp only
      refine li (fun _ => ?_) (fun _ => ?_)
      · rfl
      · rfl
noncomputable def g_X2_readOrder (N : Mem) (x0 : Nat) (x1 : Int32) (σ : ST) : Option (Bool × ST) := g_X2_readOrder_0 N x0 x1 σ
theorem l_X2_readOrder {N : Mem} {B : Nat} (hN : HN N B) {x0 : Nat} {x1 : Int32} {σ : ST} (hx0 : isC 2 x0) : f_X2_readOrder (B + x0) x1 (put N B σ) = (g_X2_readOrder N x0 x1 σ).bind (fun q => some (q.1, put N B q.2)) := by
  unfold f_X2_readOrder g_X2_readOrder
  rw [if_pos (isOb_put hx0)]
  exact l_X2_readOrder_0 hN _ _ _ hx0
noncomputable def g_X2_readNumber_0 (N : Mem) (x0 : Nat) (σ : ST) : Option (Bool × ST) :=
  if (σ.1 593 3) ≤ 9999 then
  ((g_X2_order N x0 27 (σ.1 593 3) σ).bind fun r1 =>
  (g_X7_advance N 593 r1.2).bind fun r2 =>
  some (true, r2))
  else
  ((g_X2_refuse N x0 2 σ).bind fun r3 =>
  some (r3.1, r3.2))
set_option maxHeartbeats 4000000 in
theorem l_X2_readNumber_0 {N : Mem} {B : Nat} (hN : HN N B) : ∀ (x0 : Nat) (σ : ST), isC 2 x0 → f_X2_readNumber_0 (B + x0) (put N B σ) = (g_X2_readNumber_0 N x0 σ).bind (fun q => some (q.1, put N B q.2)) := by
  intro x0 σ hx0
  unfold f_X2_readNumber_0 g_X2_readNumber_0
  refine lg (gR_2_0 hx0) ?_
  refine lg (gI_7_3 (sh_2_0 hx0)) ?_
  refine li (fun _ => ?_) (fun _ => ?_)
  · refine lg (gR_2_0 hx0) ?_
    refine lg (gI_7_3 (sh_2_0 hx0)) ?_
    refine lc (l_X2_order hN hx0) (fun r1 => ?_)
    dsimp only
    refine lg (gR_2_0 hx0) ?_
    refine lm (l_X7_advance hN (sh_2_0 hx0)) (fun r2 => ?_)
    rfl
  · refine lc (l_X2_refuse hN hx0) (fun r3 => ?_)
    dsimp only
    rfl
noncomputable def g_X2_readNumber (N : Mem) (x0 : Nat) (σ : ST) : Option (Bool × ST) := g_X2_readNumber_0 N x0 σ
theorem l_X2_readNumber {N : Mem} {B : Nat} (hN : HN N B) {x0 : Nat} {σ : ST} (hx0 : isC 2 x0) : f_X2_readNumber (B + x0) (put N B σ) = (g_X2_readNumber N x0 σ).bind (fun q => some (q.1, put N B q.2)) := by
  unfold f_X2_readNumber g_X2_readNumber
  rw [if_pos (isOb_put hx0)]
  exact l_X2_readNumber_0 hN _ _ hx0
noncomputable def g_X2_readName_33 (N : Mem) (x0 : Nat) (x1 : Int32) (σ : ST) : Option (Bool × ST) :=
  (g_X2_order N x0 x1 0 σ).bind fun r1 =>
  (g_X7_advance N 593 r1.2).bind fun r2 =>
  some (true, r2)
set_option maxHeartbeats 4000000 in
theorem l_X2_readName_33 {N : Mem} {B : Nat} (hN : HN N B) : ∀ (x0 : Nat) (x1 : Int32) (σ : ST), isC 2 x0 → f_X2_readName_33 (B + x0) x1 (put N B σ) = (g_X2_readName_33 N x0 x1 σ).bind (fun q => some (q.1, put N B q.2)) := by
  intro x0 x1 σ hx0
  unfold f_X2_readName_33 g_X2_readName_33
  refine lc (l_X2_order hN hx0) (fun r1 => ?_)
  dsimp only
  refine lg (gR_2_0 hx0) ?_
  refine lm (l_X7_advance hN (sh_2_0 hx0)) (fun r2 => ?_)
  rfl
noncomputable def g_X2_readName_13 (N : Mem) (x0 : Nat) (x1 : Int32) (σ : ST) : Option (Bool × ST) :=
  if x1 = 15 then
  (if (σ.1 x0 3) = 1 then
  (g_X2_readName_33 N x0 x1 σ)
  else
  ((g_X2_refuse N x0 5 σ).bind fun r3 =>
  some (r3.1, r3.2)))
  else
  (g_X2_readName_33 N x0 x1 σ)
set_option maxHeartbeats 4000000 in
theorem l_X2_readName_13 {N : Mem} {B : Nat} (hN : HN N B) : ∀ (x0 : Nat) (x1 : Int32) (σ : ST), isC 2 x0 → f_X2_readName_13 (B + x0) x1 (put N B σ) = (g_X2_readName_13 N x0 x1 σ).bind (fun q => some (q.1, put N B q.2)) := by
  intro x0 x1 σ hx0
  unfold f_X2_readName_13 g_X2_readName_13
  refine li (fun _ => ?_) (fun _ => ?_)
  · refine lg (gI_2_3 hx0) ?_
    refine li (fun _ => ?_) (fun _ => ?_)
    · exact l_X2_readName_33 hN  _ _ _ hx0
    · refine lc (l_X2_refuse hN hx0) (fun r3 => ?_)
      dsimp only
      rfl
  · exact l_X2_readName_33 hN  _ _ _ hx0
noncomputable def g_X2_readName_0 (N : Mem) (x0 : Nat) (x1 : Int32) (σ : ST) : Option (Bool × ST) :=
  if x1 = 14 then
  (if (σ.1 x0 3) = 0 then
  ((g_X2_refuse N x0 5 σ).bind fun r4 =>
  some (r4.1, r4.2))
  else
  (g_X2_readName_13 N x0 x1 σ))
  else
  (g_X2_readName_13 N x0 x1 σ)
set_option maxHeartbeats 4000000 in
theorem l_X2_readName_0 {N : Mem} {B : Nat} (hN : HN N B) : ∀ (x0 : Nat) (x1 : Int32) (σ : ST), isC 2 x0 → f_X2_readName_0 (B + x0) x1 (put N B σ) = (g_X2_readName_0 N x0 x1 σ).bind (fun q => some (q.1, put N B q.2)) := by
  intro x0 x1 σ hx0
  unfold f_X2_readName_0 g_X2_readName_0
  refine li (fun _ => ?_) (fun _ => ?_)
  · refine lg (gI_2_3 hx0) ?_
    refine li (fun _ => ?_) (fun _ => ?_)
    · refine lc (l_X2_refuse hN hx0) (fun r4 => ?_)
      dsimp only
      rfl
    · exact l_X2_readName_13 hN  _ _ _ hx0
  · exact l_X2_readName_13 hN  _ _ _ hx0
noncomputable def g_X2_readName (N : Mem) (x0 : Nat) (x1 : Int32) (σ : ST) : Option (Bool × ST) := g_X2_readName_0 N x0 x1 σ
theorem l_X2_readName {N : Mem} {B : Nat} (hN : HN N B) {x0 : Nat} {x1 : Int32} {σ : ST} (hx0 : isC 2 x0) : f_X2_readName (B + x0) x1 (put N B σ) = (g_X2_readName N x0 x1 σ).bind (fun q => some (q.1, put N B q.2)) := by
  unfold f_X2_readName g_X2_readName
  rw [if_pos (isOb_put hx0)]
  exact l_X2_readName_0 hN _ _ _ hx0
noncomputable def g_X2_aim_0 (N : Mem) (x0 : Nat) (x1 : Int32) (σ : ST) : Option (ST) :=
  (f_X10_within x1 0 299).bind fun v1 =>
  if v1 = false then
  (some σ)
  else
  ((yI 300 σ (x0 + 2) x1 (σ.1 x0 5)).bind fun r2 =>
  some r2)
set_option maxHeartbeats 4000000 in
theorem l_X2_aim_0 {N : Mem} {B : Nat} (hN : HN N B) : ∀ (x0 : Nat) (x1 : Int32) (σ : ST), isC 2 x0 → f_X2_aim_0 (B + x0) x1 (put N B σ) = (g_X2_aim_0 N x0 x1 σ).bind (fun q => some (put N B q)) := by
  intro x0 x1 σ hx0
  unfold f_X2_aim_0 g_X2_aim_0
  refine lb (rfl) (fun v1 => ?_)
  refine li (fun _ => ?_) (fun _ => ?_)
  · rfl
  · refine lg (gR_2_8 hx0) ?_
    refine lg (gI_2_5 hx0) ?_
    refine lm (wI_put (sh_2_8 hx0)) (fun r2 => ?_)
    rfl
noncomputable def g_X2_aim (N : Mem) (x0 : Nat) (x1 : Int32) (σ : ST) : Option (ST) := g_X2_aim_0 N x0 x1 σ
theorem l_X2_aim {N : Mem} {B : Nat} (hN : HN N B) {x0 : Nat} {x1 : Int32} {σ : ST} (hx0 : isC 2 x0) : f_X2_aim (B + x0) x1 (put N B σ) = (g_X2_aim N x0 x1 σ).map (put N B) := by
  unfold f_X2_aim g_X2_aim
  rw [if_pos (isOb_put hx0)]
  exact lmap (l_X2_aim_0 hN _ _ _ hx0)
noncomputable def g_X3_has_0 (N : Mem) (x0 : Nat) (x1 : Int32) (σ : ST) : Option (Bool) :=
  if x1 < 0 then
  (some false)
  else
  (if (σ.1 x0 1) ≤ x1 then
  (some false)
  else
  (if (Int32.ofNat (shN (x0 + 1))) ≤ x1 then
  (some false)
  else
  (some true)))
set_option maxHeartbeats 4000000 in
theorem l_X3_has_0 {N : Mem} {B : Nat} (hN : HN N B) : ∀ (x0 : Nat) (x1 : Int32) (σ : ST), isC 3 x0 → f_X3_has_0 (B + x0) x1 (put N B σ) = (g_X3_has_0 N x0 x1 σ).bind some := by
  intro x0 x1 σ hx0
  unfold f_X3_has_0 g_X3_has_0
  refine li (fun _ => ?_) (fun _ => ?_)
  · rfl
  · refine lg (gI_3_1 hx0) ?_
    refine li (fun _ => ?_) (fun _ => ?_)
    · rfl
    · refine lg (gR_3_0 hx0) ?_
      refine lg (lnA_put (sh_3_0 hx0)) ?_
      refine li (fun _ => ?_) (fun _ => ?_)
      · rfl
      · rfl
noncomputable def g_X3_has (N : Mem) (x0 : Nat) (x1 : Int32) (σ : ST) : Option (Bool) := g_X3_has_0 N x0 x1 σ
theorem l_X3_has {N : Mem} {B : Nat} (hN : HN N B) {x0 : Nat} {x1 : Int32} {σ : ST} (hx0 : isC 3 x0) : f_X3_has (B + x0) x1 (put N B σ) = g_X3_has N x0 x1 σ := by
  unfold f_X3_has g_X3_has
  rw [if_pos (isOb_put hx0)]
  exact lsm (l_X3_has_0 hN _ _ _ hx0)
noncomputable def g_X3_get_0 (N : Mem) (x0 : Nat) (x1 : Int32) (σ : ST) : Option (Int32) :=
  (g_X3_has N x0 x1 σ).bind fun v1 =>
  if v1 = false then
  (some 0)
  else
  ((xI (shN (x0 + 1)) σ (x0 + 1) x1).bind fun v2 =>
  some v2)
set_option maxHeartbeats 4000000 in
theorem l_X3_get_0 {N : Mem} {B : Nat} (hN : HN N B) : ∀ (x0 : Nat) (x1 : Int32) (σ : ST), isC 3 x0 → f_X3_get_0 (B + x0) x1 (put N B σ) = (g_X3_get_0 N x0 x1 σ).bind some := by
  intro x0 x1 σ hx0
  unfold f_X3_get_0 g_X3_get_0
  refine lb (l_X3_has hN hx0) (fun v1 => ?_)
  refine li (fun _ => ?_) (fun _ => ?_)
  · rfl
  · refine lg (gR_3_0 hx0) ?_
    refine lb (rI_put (sh_3_0 hx0)) (fun v2 => ?_)
    rfl
noncomputable def g_X3_get (N : Mem) (x0 : Nat) (x1 : Int32) (σ : ST) : Option (Int32) := g_X3_get_0 N x0 x1 σ
theorem l_X3_get {N : Mem} {B : Nat} (hN : HN N B) {x0 : Nat} {x1 : Int32} {σ : ST} (hx0 : isC 3 x0) : f_X3_get (B + x0) x1 (put N B σ) = g_X3_get N x0 x1 σ := by
  unfold f_X3_get g_X3_get
  rw [if_pos (isOb_put hx0)]
  exact lsm (l_X3_get_0 hN _ _ _ hx0)
noncomputable def g_X3_append_0 (N : Mem) (x0 : Nat) (x1 : Int32) (σ : ST) : Option (Bool × ST) :=
  (f_X10_within (σ.1 x0 1) 0 ((Int32.ofNat (shN (x0 + 1))) - 1)).bind fun v1 =>
  if v1 = true then
  ((yI (shN (x0 + 1)) σ (x0 + 1) (σ.1 x0 1) x1).bind fun r2 =>
  (some (setI r2 x0 1 ((r2.1 x0 1) + 1))).bind fun r3 =>
  some (true, r3))
  else
  (some (false, σ))
set_option maxHeartbeats 4000000 in
theorem l_X3_append_0 {N : Mem} {B : Nat} (hN : HN N B) : ∀ (x0 : Nat) (x1 : Int32) (σ : ST), isC 3 x0 → f_X3_append_0 (B + x0) x1 (put N B σ) = (g_X3_append_0 N x0 x1 σ).bind (fun q => some (q.1, put N B q.2)) := by
  intro x0 x1 σ hx0
  unfold f_X3_append_0 g_X3_append_0
  refine lg (gI_3_1 hx0) ?_
  refine lg (gR_3_0 hx0) ?_
  refine lg (lnA_put (sh_3_0 hx0)) ?_
  refine lb (rfl) (fun v1 => ?_)
  refine li (fun _ => ?_) (fun _ => ?_)
  · refine lg (gR_3_0 hx0) ?_
    refine lg (gI_3_1 hx0) ?_
    refine lm (wI_put (sh_3_0 hx0)) (fun r2 => ?_)
    refine lg (gI_3_1 hx0) ?_
    refine lp (pF_3_1 hx0) (fun r3 => ?_)
    rfl
  · rfl
noncomputable def g_X3_append (N : Mem) (x0 : Nat) (x1 : Int32) (σ : ST) : Option (Bool × ST) := g_X3_append_0 N x0 x1 σ
theorem l_X3_append {N : Mem} {B : Nat} (hN : HN N B) {x0 : Nat} {x1 : Int32} {σ : ST} (hx0 : isC 3 x0) : f_X3_append (B + x0) x1 (put N B σ) = (g_X3_append N x0 x1 σ).bind (fun q => some (q.1, put N B q.2)) := by
  unfold f_X3_append g_X3_append
  rw [if_pos (isOb_put hx0)]
  exact l_X3_append_0 hN _ _ _ hx0
noncomputable def g_X3_copyFrom_0 (N : Mem) (x0 : Nat) (x1 : Nat) (σ : ST) : Option (ST) :=
  (zC (shN (x1 + 1)) (shN (x0 + 1)) σ (x1 + 1) 0 (x0 + 1) 0 (jmin (Int32.ofNat (shN (x0 + 1))) (Int32.ofNat (shN (x1 + 1))))).bind fun r1 =>
  (some (setI r1 x0 1 (jmin (r1.1 x1 1) (Int32.ofNat (shN (x0 + 1)))))).bind fun r2 =>
  some r2
set_option maxHeartbeats 4000000 in
theorem l_X3_copyFrom_0 {N : Mem} {B : Nat} (hN : HN N B) : ∀ (x0 : Nat) (x1 : Nat) (σ : ST), isC 3 x0 → isC 3 x1 → f_X3_copyFrom_0 (B + x0) (B + x1) (put N B σ) = (g_X3_copyFrom_0 N x0 x1 σ).bind (fun q => some (put N B q)) := by
  intro x0 x1 σ hx0 hx1
  unfold f_X3_copyFrom_0 g_X3_copyFrom_0
  refine lg (gR_3_0 hx1) ?_
  refine lg (gR_3_0 hx0) ?_
  refine lg (gR_3_0 hx0) ?_
  refine lg (lnA_put (sh_3_0 hx0)) ?_
  refine lg (gR_3_0 hx1) ?_
  refine lg (lnA_put (sh_3_0 hx1)) ?_
  refine lm (cpI_put (sh_3_0 hx1) (sh_3_0 hx0)) (fun r1 => ?_)
  refine lg (gI_3_1 hx1) ?_
  refine lg (gR_3_0 hx0) ?_
  refine lg (lnA_put (sh_3_0 hx0)) ?_
  refine lp (pF_3_1 hx0) (fun r2 => ?_)
  rfl
noncomputable def g_X3_copyFrom (N : Mem) (x0 : Nat) (x1 : Nat) (σ : ST) : Option (ST) := g_X3_copyFrom_0 N x0 x1 σ
theorem l_X3_copyFrom {N : Mem} {B : Nat} (hN : HN N B) {x0 : Nat} {x1 : Nat} {σ : ST} (hx0 : isC 3 x0) (hx1 : isC 3 x1) : f_X3_copyFrom (B + x0) (B + x1) (put N B σ) = (g_X3_copyFrom N x0 x1 σ).map (put N B) := by
  unfold f_X3_copyFrom g_X3_copyFrom
  rw [if_pos (isOb_put hx0)]
  exact lmap (l_X3_copyFrom_0 hN _ _ _ hx0 hx1)
noncomputable def g_X4_theText_0 (N : Mem) (x0 : Nat) (σ : ST) : Option (Option Nat) :=
  if (σ.1 x0 6) < 0 then
  (some none)
  else
  (if (σ.1 x0 5) ≤ (σ.1 x0 6) then
  (some none)
  else
  (if 4 ≤ (σ.1 x0 6) then
  (some none)
  else
  ((xQ σ (x0 + 11) (σ.1 x0 6)).bind fun o1 =>
  some o1)))
set_option maxHeartbeats 4000000 in
theorem l_X4_theText_0 {N : Mem} {B : Nat} (hN : HN N B) : ∀ (x0 : Nat) (σ : ST), isC 4 x0 → f_X4_theText_0 (B + x0) (put N B σ) = (g_X4_theText_0 N x0 σ).bind some := by
  intro x0 σ hx0
  unfold f_X4_theText_0 g_X4_theText_0
  refine lg (gI_4_6 hx0) ?_
  refine li (fun _ => ?_) (fun _ => ?_)
  · rfl
  · refine lg (gI_4_6 hx0) ?_
    refine lg (gI_4_5 hx0) ?_
    refine li (fun _ => ?_) (fun _ => ?_)
    · rfl
    · refine lg (gI_4_6 hx0) ?_
      refine li (fun _ => ?_) (fun _ => ?_)
      · rfl
      · refine lg (gR_4_4 hx0) ?_
        refine lg (gI_4_6 hx0) ?_
        refine lb (rQ_put (sh_4_4 hx0)) (fun o1 => ?_)
        rfl
noncomputable def g_X4_theText (N : Mem) (x0 : Nat) (σ : ST) : Option (Option Nat) := g_X4_theText_0 N x0 σ
theorem l_X4_theText {N : Mem} {B : Nat} (hN : HN N B) {x0 : Nat} {σ : ST} (hx0 : isC 4 x0) : f_X4_theText (B + x0) (put N B σ) = g_X4_theText N x0 σ := by
  unfold f_X4_theText g_X4_theText
  rw [if_pos (isOb_put hx0)]
  exact lsm (l_X4_theText_0 hN _ _ hx0)
noncomputable def g_X9_copyChanging_0 (N : Mem) (x0 : Nat) (x1 : Nat) (σ : ST) : Option (ST) :=
  (some (setI σ x0 1 (σ.1 x1 1))).bind fun r1 =>
  (some (setI r1 x0 2 (r1.1 x1 2))).bind fun r2 =>
  (some (setI r2 x0 3 (r2.1 x1 3))).bind fun r3 =>
  (zC 5 5 r3 (x1 + 3) 0 (x0 + 3) 0 5).bind fun r4 =>
  (zC 5 5 r4 (x1 + 4) 0 (x0 + 4) 0 5).bind fun r5 =>
  (zC 5 5 r5 (x1 + 5) 0 (x0 + 5) 0 5).bind fun r6 =>
  (zC 5 5 r6 (x1 + 6) 0 (x0 + 6) 0 5).bind fun r7 =>
  (zC 60 60 r7 (x1 + 7) 0 (x0 + 7) 0 (Int32.ofNat 60)).bind fun r8 =>
  (zC 120 120 r8 (x1 + 8) 0 (x0 + 8) 0 (Int32.ofNat 120)).bind fun r9 =>
  some r9
set_option maxHeartbeats 4000000 in
theorem l_X9_copyChanging_0 {N : Mem} {B : Nat} (hN : HN N B) : ∀ (x0 : Nat) (x1 : Nat) (σ : ST), isC 9 x0 → isC 9 x1 → f_X9_copyChanging_0 (B + x0) (B + x1) (put N B σ) = (g_X9_copyChanging_0 N x0 x1 σ).bind (fun q => some (put N B q)) := by
  intro x0 x1 σ hx0 hx1
  unfold f_X9_copyChanging_0 g_X9_copyChanging_0
  refine lg (gI_9_1 hx1) ?_
  refine lp (pF_9_1 hx0) (fun r1 => ?_)
  refine lg (gI_9_2 hx1) ?_
  refine lp (pF_9_2 hx0) (fun r2 => ?_)
  refine lg (gI_9_3 hx1) ?_
  refine lp (pF_9_3 hx0) (fun r3 => ?_)
  refine lg (gR_9_6 hx1) ?_
  refine lg (gR_9_6 hx0) ?_
  refine lm (cpI_put (sh_9_6 hx1) (sh_9_6 hx0)) (fun r4 => ?_)
  refine lg (gR_9_7 hx1) ?_
  refine lg (gR_9_7 hx0) ?_
  refine lm (cpI_put (sh_9_7 hx1) (sh_9_7 hx0)) (fun r5 => ?_)
  refine lg (gR_9_8 hx1) ?_
  refine lg (gR_9_8 hx0) ?_
  refine lm (cpI_put (sh_9_8 hx1) (sh_9_8 hx0)) (fun r6 => ?_)
  refine lg (gR_9_9 hx1) ?_
  refine lg (gR_9_9 hx0) ?_
  refine lm (cpI_put (sh_9_9 hx1) (sh_9_9 hx0)) (fun r7 => ?_)
  refine lg (gR_9_10 hx1) ?_
  refine lg (gR_9_10 hx0) ?_
  refine lg (gR_9_10 hx0) ?_
  refine lg (lnA_put (sh_9_10 hx0)) ?_
  refine lm (cpI_put (sh_9_10 hx1) (sh_9_10 hx0)) (fun r8 => ?_)
  refine lg (gR_9_11 hx1) ?_
  refine lg (gR_9_11 hx0) ?_
  refine lg (gR_9_11 hx0) ?_
  refine lg (lnA_put (sh_9_11 hx0)) ?_
  refine lm (cpI_put (sh_9_11 hx1) (sh_9_11 hx0)) (fun r9 => ?_)
  rfl
noncomputable def g_X9_copyChanging (N : Mem) (x0 : Nat) (x1 : Nat) (σ : ST) : Option (ST) := g_X9_copyChanging_0 N x0 x1 σ
theorem l_X9_copyChanging {N : Mem} {B : Nat} (hN : HN N B) {x0 : Nat} {x1 : Nat} {σ : ST} (hx0 : isC 9 x0) (hx1 : isC 9 x1) : f_X9_copyChanging (B + x0) (B + x1) (put N B σ) = (g_X9_copyChanging N x0 x1 σ).map (put N B) := by
  unfold f_X9_copyChanging g_X9_copyChanging
  rw [if_pos (isOb_put hx0)]
  exact lmap (l_X9_copyChanging_0 hN _ _ _ hx0 hx1)
noncomputable def g_X9_copyFrom_0 (N : Mem) (x0 : Nat) (x1 : Nat) (σ : ST) : Option (ST) :=
  (some (setI σ x0 0 (σ.1 x1 0))).bind fun r1 =>
  (zC 5 5 r1 (x1 + 1) 0 (x0 + 1) 0 5).bind fun r2 =>
  (zC 5 5 r2 (x1 + 2) 0 (x0 + 2) 0 5).bind fun r3 =>
  (g_X9_copyChanging N x0 x1 r3).bind fun r4 =>
  some r4
set_option maxHeartbeats 4000000 in
theorem l_X9_copyFrom_0 {N : Mem} {B : Nat} (hN : HN N B) : ∀ (x0 : Nat) (x1 : Nat) (σ : ST), isC 9 x0 → isC 9 x1 → f_X9_copyFrom_0 (B + x0) (B + x1) (put N B σ) = (g_X9_copyFrom_0 N x0 x1 σ).bind (fun q => some (put N B q)) := by
  intro x0 x1 σ hx0 hx1
  unfold f_X9_copyFrom_0 g_X9_copyFrom_0
  refine lg (gI_9_0 hx1) ?_
  refine lp (pF_9_0 hx0) (fun r1 => ?_)
  refine lg (gR_9_4 hx1) ?_
  refine lg (gR_9_4 hx0) ?_
  refine lm (cpI_put (sh_9_4 hx1) (sh_9_4 hx0)) (fun r2 => ?_)
  refine lg (gR_9_5 hx1) ?_
  refine lg (gR_9_5 hx0) ?_
  refine lm (cpI_put (sh_9_5 hx1) (sh_9_5 hx0)) (fun r3 => ?_)
  refine lm (l_X9_copyChanging hN hx0 hx1) (fun r4 => ?_)
  rfl
noncomputable def g_X9_copyFrom (N : Mem) (x0 : Nat) (x1 : Nat) (σ : ST) : Option (ST) := g_X9_copyFrom_0 N x0 x1 σ
theorem l_X9_copyFrom {N : Mem} {B : Nat} (hN : HN N B) {x0 : Nat} {x1 : Nat} {σ : ST} (hx0 : isC 9 x0) (hx1 : isC 9 x1) : f_X9_copyFrom (B + x0) (B + x1) (put N B σ) = (g_X9_copyFrom N x0 x1 σ).map (put N B) := by
  unfold f_X9_copyFrom g_X9_copyFrom
  rw [if_pos (isOb_put hx0)]
  exact lmap (l_X9_copyFrom_0 hN _ _ _ hx0 hx1)
noncomputable def g_X4_remember_0 (N : Mem) (x0 : Nat) (σ : ST) : Option (ST) :=
  (xP (x0 + 10) (jrem ((σ.1 x0 2) + (σ.1 x0 3)) 30)).bind fun w1 =>
  (g_X9_copyFrom N w1 (x0 + 1) σ).bind fun r2 =>
  if 30 ≤ (r2.1 x0 3) then
  ((some (setI r2 x0 2 (jrem ((r2.1 x0 2) + 1) 30))).bind fun r3 =>
  some r3)
  else
  ((some (setI r2 x0 3 ((r2.1 x0 3) + 1))).bind fun r4 =>
  some r4)
set_option maxHeartbeats 4000000 in
theorem l_X4_remember_0 {N : Mem} {B : Nat} (hN : HN N B) : ∀ (x0 : Nat) (σ : ST), isC 4 x0 → f_X4_remember_0 (B + x0) (put N B σ) = (g_X4_remember_0 N x0 σ).bind (fun q => some (put N B q)) := by
  intro x0 σ hx0
  unfold f_X4_remember_0 g_X4_remember_0
  refine lg (gR_4_1 hx0) ?_
  refine lg (gI_4_2 hx0) ?_
  refine lg (gI_4_3 hx0) ?_
  refine lr (rP_put (sh_4_1 hx0)) (fun w1 ew1 => ?_)
  refine lg (gR_4_0 hx0) ?_
  refine lm (l_X9_copyFrom hN (xP_C (sh_4_1 hx0) ew1) (sh_4_0 hx0)) (fun r2 => ?_)
  refine lg (gI_4_3 hx0) ?_
  refine li (fun _ => ?_) (fun _ => ?_)
  · refine lg (gI_4_2 hx0) ?_
    refine lp (pF_4_2 hx0) (fun r3 => ?_)
    rfl
  · refine lg (gI_4_3 hx0) ?_
    refine lp (pF_4_3 hx0) (fun r4 => ?_)
    rfl
noncomputable def g_X4_remember (N : Mem) (x0 : Nat) (σ : ST) : Option (ST) := g_X4_remember_0 N x0 σ
theorem l_X4_remember {N : Mem} {B : Nat} (hN : HN N B) {x0 : Nat} {σ : ST} (hx0 : isC 4 x0) : f_X4_remember (B + x0) (put N B σ) = (g_X4_remember N x0 σ).map (put N B) := by
  unfold f_X4_remember g_X4_remember
  rw [if_pos (isOb_put hx0)]
  exact lmap (l_X4_remember_0 hN _ _ hx0)
noncomputable def g_X9_setAsTold_0 (N : Mem) (x0 : Nat) (x1 : Int32) (σ : ST) : Option (ST) :=
  (xI 5 σ (x0 + 2) x1).bind fun v1 =>
  (yI 5 σ (x0 + 3) x1 v1).bind fun r2 =>
  (yI 5 r2 (x0 + 4) x1 0).bind fun r3 =>
  (yI 5 r3 (x0 + 5) x1 0).bind fun r4 =>
  (yI 5 r4 (x0 + 6) x1 0).bind fun r5 =>
  some r5
set_option maxHeartbeats 4000000 in
theorem l_X9_setAsTold_0 {N : Mem} {B : Nat} (hN : HN N B) : ∀ (x0 : Nat) (x1 : Int32) (σ : ST), isC 9 x0 → f_X9_setAsTold_0 (B + x0) x1 (put N B σ) = (g_X9_setAsTold_0 N x0 x1 σ).bind (fun q => some (put N B q)) := by
  intro x0 x1 σ hx0
  unfold f_X9_setAsTold_0 g_X9_setAsTold_0
  refine lg (gR_9_6 hx0) ?_
  refine lg (gR_9_5 hx0) ?_
  refine lb (rI_put (sh_9_5 hx0)) (fun v1 => ?_)
  refine lm (wI_put (sh_9_6 hx0)) (fun r2 => ?_)
  refine lg (gR_9_7 hx0) ?_
  refine lm (wI_put (sh_9_7 hx0)) (fun r3 => ?_)
  refine lg (gR_9_8 hx0) ?_
  refine lm (wI_put (sh_9_8 hx0)) (fun r4 => ?_)
  refine lg (gR_9_9 hx0) ?_
  refine lm (wI_put (sh_9_9 hx0)) (fun r5 => ?_)
  rfl
noncomputable def g_X9_setAsTold (N : Mem) (x0 : Nat) (x1 : Int32) (σ : ST) : Option (ST) := g_X9_setAsTold_0 N x0 x1 σ
theorem l_X9_setAsTold {N : Mem} {B : Nat} (hN : HN N B) {x0 : Nat} {x1 : Int32} {σ : ST} (hx0 : isC 9 x0) : f_X9_setAsTold (B + x0) x1 (put N B σ) = (g_X9_setAsTold N x0 x1 σ).map (put N B) := by
  unfold f_X9_setAsTold g_X9_setAsTold
  rw [if_pos (isOb_put hx0)]
  exact lmap (l_X9_setAsTold_0 hN _ _ _ hx0)
noncomputable def g_X9_goBackTo_10 (N : Mem) (n0 : Nat) (x0 : Nat) (x2 : Int32) (σ : ST) : Option (ST) :=
  match n0 with
  | 0 => none
  | n + 1 =>
    if (σ.1 x0 0) ≤ x2 then
    (some σ)
    else
    ((g_X9_setAsTold N x0 x2 σ).bind fun r1 =>
    g_X9_goBackTo_10 N n x0 (x2 + 1) r1)
set_option maxHeartbeats 4000000 in
theorem l_X9_goBackTo_10 {N : Mem} {B : Nat} (hN : HN N B) : ∀ (n : Nat) (x0 : Nat) (x2 : Int32) (σ : ST), isC 9 x0 → f_X9_goBackTo_10 n (B + x0) x2 (put N B σ) = (g_X9_goBackTo_10 N n x0 x2 σ).bind (fun q => some (put N B q)) := by
  intro n
  induction n with
  | zero =>
    intro x0 x2 σ hx0
    rfl
  | succ n ih =>
    intro x0 x2 σ hx0
    unfold f_X9_goBackTo_10 g_X9_goBackTo_10
    refine lg (gI_9_0 hx0) ?_
    refine li (fun _ => ?_) (fun _ => ?_)
    · rfl
    · refine lm (l_X9_setAsTold hN hx0) (fun r1 => ?_)
      exact ih _ _ _ hx0
noncomputable def g_X9_goBackTo_0 (N : Mem) (x0 : Nat) (x1 : Nat) (σ : ST) : Option (ST) :=
  (g_X9_copyChanging N x0 x1 σ).bind fun r2 =>
  g_X9_goBackTo_10 N fu x0 (r2.1 x1 0) r2
set_option maxHeartbeats 4000000 in
theorem l_X9_goBackTo_0 {N : Mem} {B : Nat} (hN : HN N B) : ∀ (x0 : Nat) (x1 : Nat) (σ : ST), isC 9 x0 → isC 9 x1 → f_X9_goBackTo_0 (B + x0) (B + x1) (put N B σ) = (g_X9_goBackTo_0 N x0 x1 σ).bind (fun q => some (put N B q)) := by
  intro x0 x1 σ hx0 hx1
  unfold f_X9_goBackTo_0 g_X9_goBackTo_0
  refine lm (l_X9_copyChanging hN hx0 hx1) (fun r2 => ?_)
  refine lg (gI_9_0 hx1) ?_
  exact l_X9_goBackTo_10 hN  _ _ _ _ hx0
noncomputable def g_X9_goBackTo (N : Mem) (x0 : Nat) (x1 : Nat) (σ : ST) : Option (ST) := g_X9_goBackTo_0 N x0 x1 σ
theorem l_X9_goBackTo {N : Mem} {B : Nat} (hN : HN N B) {x0 : Nat} {x1 : Nat} {σ : ST} (hx0 : isC 9 x0) (hx1 : isC 9 x1) : f_X9_goBackTo (B + x0) (B + x1) (put N B σ) = (g_X9_goBackTo N x0 x1 σ).map (put N B) := by
  unfold f_X9_goBackTo g_X9_goBackTo
  rw [if_pos (isOb_put hx0)]
  exact lmap (l_X9_goBackTo_0 hN _ _ _ hx0 hx1)
noncomputable def g_X4_takeBack_0 (N : Mem) (x0 : Nat) (σ : ST) : Option (Bool × ST) :=
  if 0 < (σ.1 x0 3) then
  ((some (setI σ x0 3 ((σ.1 x0 3) - 1))).bind fun r1 =>
  (xP (x0 + 10) (jrem ((r1.1 x0 2) + (r1.1 x0 3)) 30)).bind fun w2 =>
  (g_X9_goBackTo N (x0 + 1) w2 r1).bind fun r3 =>
  some (true, r3))
  else
  (some (false, σ))
set_option maxHeartbeats 4000000 in
theorem l_X4_takeBack_0 {N : Mem} {B : Nat} (hN : HN N B) : ∀ (x0 : Nat) (σ : ST), isC 4 x0 → f_X4_takeBack_0 (B + x0) (put N B σ) = (g_X4_takeBack_0 N x0 σ).bind (fun q => some (q.1, put N B q.2)) := by
  intro x0 σ hx0
  unfold f_X4_takeBack_0 g_X4_takeBack_0
  refine lg (gI_4_3 hx0) ?_
  refine li (fun _ => ?_) (fun _ => ?_)
  · refine lg (gI_4_3 hx0) ?_
    refine lp (pF_4_3 hx0) (fun r1 => ?_)
    refine lg (gR_4_0 hx0) ?_
    refine lg (gR_4_1 hx0) ?_
    refine lg (gI_4_2 hx0) ?_
    refine lg (gI_4_3 hx0) ?_
    refine lr (rP_put (sh_4_1 hx0)) (fun w2 ew2 => ?_)
    refine lm (l_X9_goBackTo hN (sh_4_0 hx0) (xP_C (sh_4_1 hx0) ew2)) (fun r3 => ?_)
    rfl
  · rfl
noncomputable def g_X4_takeBack (N : Mem) (x0 : Nat) (σ : ST) : Option (Bool × ST) := g_X4_takeBack_0 N x0 σ
theorem l_X4_takeBack {N : Mem} {B : Nat} (hN : HN N B) {x0 : Nat} {σ : ST} (hx0 : isC 4 x0) : f_X4_takeBack (B + x0) (put N B σ) = (g_X4_takeBack N x0 σ).bind (fun q => some (q.1, put N B q.2)) := by
  unfold f_X4_takeBack g_X4_takeBack
  rw [if_pos (isOb_put hx0)]
  exact l_X4_takeBack_0 hN _ _ hx0
noncomputable def g_X4_copyFrom_58 (N : Mem) (n0 : Nat) (x0 : Nat) (x1 : Nat) (x2 : Int32) (σ : ST) : Option (ST) :=
  match n0 with
  | 0 => none
  | n + 1 =>
    if 4 ≤ x2 then
    ((some (setI σ x0 5 (σ.1 x1 5))).bind fun r1 =>
    (some (setI r1 x0 6 (r1.1 x1 6))).bind fun r2 =>
    (zC 20 20 r2 (x1 + 12) 0 (x0 + 12) 0 (Int32.ofNat 20)).bind fun r3 =>
    (g_X3_copyFrom N (x0 + 13) (x1 + 13) r3).bind fun r4 =>
    (g_X3_copyFrom N (x0 + 15) (x1 + 15) r4).bind fun r5 =>
    (g_X3_copyFrom N (x0 + 17) (x1 + 17) r5).bind fun r6 =>
    (g_X3_copyFrom N (x0 + 19) (x1 + 19) r6).bind fun r7 =>
    (g_X3_copyFrom N (x0 + 21) (x1 + 21) r7).bind fun r8 =>
    (zC 25 25 r8 (x1 + 23) 0 (x0 + 23) 0 (Int32.ofNat 25)).bind fun r9 =>
    (zC 25 25 r9 (x1 + 24) 0 (x0 + 24) 0 (Int32.ofNat 25)).bind fun r10 =>
    (zC 8 8 r10 (x1 + 25) 0 (x0 + 25) 0 (Int32.ofNat 8)).bind fun r11 =>
    some r11)
    else
    ((xQ σ (x1 + 11) x2).bind fun o12 =>
    (yQ N σ (x0 + 11) x2 o12).bind fun r13 =>
    g_X4_copyFrom_58 N n x0 x1 (x2 + 1) r13)
set_option maxHeartbeats 4000000 in
theorem l_X4_copyFrom_58 {N : Mem} {B : Nat} (hN : HN N B) : ∀ (n : Nat) (x0 : Nat) (x1 : Nat) (x2 : Int32) (σ : ST), isC 4 x0 → isC 4 x1 → f_X4_copyFrom_58 n (B + x0) (B + x1) x2 (put N B σ) = (g_X4_copyFrom_58 N n x0 x1 x2 σ).bind (fun q => some (put N B q)) := by
  intro n
  induction n with
  | zero =>
    intro x0 x1 x2 σ hx0 hx1
    rfl
  | succ n ih =>
    intro x0 x1 x2 σ hx0 hx1
    unfold f_X4_copyFrom_58 g_X4_copyFrom_58
    refine li (fun _ => ?_) (fun _ => ?_)
    · refine lg (gI_4_5 hx1) ?_
      refine lp (pF_4_5 hx0) (fun r1 => ?_)
      refine lg (gI_4_6 hx1) ?_
      refine lp (pF_4_6 hx0) (fun r2 => ?_)
      refine lg (gR_4_7 hx1) ?_
      refine lg (gR_4_7 hx0) ?_
      refine lg (gR_4_7 hx0) ?_
      refine lg (lnA_put (sh_4_7 hx0)) ?_
      refine lm (cpI_put (sh_4_7 hx1) (sh_4_7 hx0)) (fun r3 => ?_)
      refine lg (gR_4_8 hx0) ?_
      refine lg (gR_4_8 hx1) ?_
      refine lm (l_X3_copyFrom hN (sh_4_8 hx0) (sh_4_8 hx1)) (fun r4 => ?_)
      refine lg (gR_4_9 hx0) ?_
      refine lg (gR_4_9 hx1) ?_
      refine lm (l_X3_copyFrom hN (sh_4_9 hx0) (sh_4_9 hx1)) (fun r5 => ?_)
      refine lg (gR_4_10 hx0) ?_
      refine lg (gR_4_10 hx1) ?_
      refine lm (l_X3_copyFrom hN (sh_4_10 hx0) (sh_4_10 hx1)) (fun r6 => ?_)
      refine lg (gR_4_11 hx0) ?_
      refine lg (gR_4_11 hx1) ?_
      refine lm (l_X3_copyFrom hN (sh_4_11 hx0) (sh_4_11 hx1)) (fun r7 => ?_)
      refine lg (gR_4_12 hx0) ?_
      refine lg (gR_4_12 hx1) ?_
      refine lm (l_X3_copyFrom hN (sh_4_12 hx0) (sh_4_12 hx1)) (fun r8 => ?_)
      refine lg (gR_4_13 hx1) ?_
      refine lg (gR_4_13 hx0) ?_
      refine lg (gR_4_13 hx0) ?_
      refine lg (lnA_put (sh_4_13 hx0)) ?_
      refine lm (cpI_put (sh_4_13 hx1) (sh_4_13 hx0)) (fun r9 => ?_)
      refine lg (gR_4_14 hx1) ?_
      refine lg (gR_4_14 hx0) ?_
      refine lg (gR_4_14 hx0) ?_
      refine lg (lnA_put (sh_4_14 hx0)) ?_
      refine lm (cpI_put (sh_4_14 hx1) (sh_4_14 hx0)) (fun r10 => ?_)
      refine lg (gR_4_15 hx1) ?_
      refine lg (gR_4_15 hx0) ?_
      refine lg (gR_4_15 hx0) ?_
      refine lg (lnA_put (sh_4_15 hx0)) ?_
      refine lm (cpI_put (sh_4_15 hx1) (sh_4_15 hx0)) (fun r11 => ?_)
      rfl
    · refine lg (gR_4_4 hx0) ?_
      refine lg (gR_4_4 hx1) ?_
      refine lb (rQ_put (sh_4_4 hx1)) (fun o12 => ?_)
      refine lm (wQ_put hN (sh_4_4 hx0)) (fun r13 => ?_)
      exact ih _ _ _ _ hx0 hx1
noncomputable def g_X4_copyFrom_13 (N : Mem) (n0 : Nat) (x0 : Nat) (x1 : Nat) (x2 : Int32) (σ : ST) : Option (ST) :=
  match n0 with
  | 0 => none
  | n + 1 =>
    if 30 ≤ x2 then
    ((some (setI σ x0 2 (σ.1 x1 2))).bind fun r14 =>
    (some (setI r14 x0 3 (r14.1 x1 3))).bind fun r15 =>
    g_X4_copyFrom_58 N fu x0 x1 0 r15)
    else
    ((xP (x0 + 10) x2).bind fun w16 =>
    (xP (x1 + 10) x2).bind fun w17 =>
    (g_X9_copyFrom N w16 w17 σ).bind fun r18 =>
    g_X4_copyFrom_13 N n x0 x1 (x2 + 1) r18)
set_option maxHeartbeats 4000000 in
theorem l_X4_copyFrom_13 {N : Mem} {B : Nat} (hN : HN N B) : ∀ (n : Nat) (x0 : Nat) (x1 : Nat) (x2 : Int32) (σ : ST), isC 4 x0 → isC 4 x1 → f_X4_copyFrom_13 n (B + x0) (B + x1) x2 (put N B σ) = (g_X4_copyFrom_13 N n x0 x1 x2 σ).bind (fun q => some (put N B q)) := by
  intro n
  induction n with
  | zero =>
    intro x0 x1 x2 σ hx0 hx1
    rfl
  | succ n ih =>
    intro x0 x1 x2 σ hx0 hx1
    unfold f_X4_copyFrom_13 g_X4_copyFrom_13
    refine li (fun _ => ?_) (fun _ => ?_)
    · refine lg (gI_4_2 hx1) ?_
      refine lp (pF_4_2 hx0) (fun r14 => ?_)
      refine lg (gI_4_3 hx1) ?_
      refine lp (pF_4_3 hx0) (fun r15 => ?_)
      exact l_X4_copyFrom_58 hN  _ _ _ _ _ hx0 hx1
    · refine lg (gR_4_1 hx0) ?_
      refine lr (rP_put (sh_4_1 hx0)) (fun w16 ew16 => ?_)
      refine lg (gR_4_1 hx1) ?_
      refine lr (rP_put (sh_4_1 hx1)) (fun w17 ew17 => ?_)
      refine lm (l_X9_copyFrom hN (xP_C (sh_4_1 hx0) ew16) (xP_C (sh_4_1 hx1) ew17)) (fun r18 => ?_)
      exact ih _ _ _ _ hx0 hx1
noncomputable def g_X4_copyFrom_0 (N : Mem) (x0 : Nat) (x1 : Nat) (σ : ST) : Option (ST) :=
  (g_X9_copyFrom N (x0 + 1) (x1 + 1) σ).bind fun r19 =>
  g_X4_copyFrom_13 N fu x0 x1 0 r19
set_option maxHeartbeats 4000000 in
theorem l_X4_copyFrom_0 {N : Mem} {B : Nat} (hN : HN N B) : ∀ (x0 : Nat) (x1 : Nat) (σ : ST), isC 4 x0 → isC 4 x1 → f_X4_copyFrom_0 (B + x0) (B + x1) (put N B σ) = (g_X4_copyFrom_0 N x0 x1 σ).bind (fun q => some (put N B q)) := by
  intro x0 x1 σ hx0 hx1
  unfold f_X4_copyFrom_0 g_X4_copyFrom_0
  refine lg (gR_4_0 hx0) ?_
  refine lg (gR_4_0 hx1) ?_
  refine lm (l_X9_copyFrom hN (sh_4_0 hx0) (sh_4_0 hx1)) (fun r19 => ?_)
  exact l_X4_copyFrom_13 hN  _ _ _ _ _ hx0 hx1
noncomputable def g_X4_copyFrom (N : Mem) (x0 : Nat) (x1 : Nat) (σ : ST) : Option (ST) := g_X4_copyFrom_0 N x0 x1 σ
theorem l_X4_copyFrom {N : Mem} {B : Nat} (hN : HN N B) {x0 : Nat} {x1 : Nat} {σ : ST} (hx0 : isC 4 x0) (hx1 : isC 4 x1) : f_X4_copyFrom (B + x0) (B + x1) (put N B σ) = (g_X4_copyFrom N x0 x1 σ).map (put N B) := by
  unfold f_X4_copyFrom g_X4_copyFrom
  rw [if_pos (isOb_put hx0)]
  exact lmap (l_X4_copyFrom_0 hN _ _ _ hx0 hx1)
noncomputable def g_X5_plan_140 (N : Mem) (k12 : Nat → Nat → Nat → Int32 → Int32 → Int32 → ST → Option (ST)) (k27 : Nat → Nat → Nat → Int32 → Int32 → Int32 → Int32 → Int32 → Int32 → ST → Option (ST)) (x0 : Nat) (nx1 : Nat) (x1 : Nat) (x2 : Int32) (x3 : Int32) (x4 : Int32) (x5 : Int32) (x6 : Int32) (x7 : Int32) (x8 : Int32) (σ : ST) : Option (ST) :=
  (yI 9 σ (x0 + 1) x4 x8).bind fun r1 =>
  (yI 8 r1 (x0 + 2) x4 x5).bind fun r2 =>
  (yI 8 r2 (x0 + 3) x4 (x7 + 1)).bind fun r3 =>
  k27 x0 nx1 x1 x2 x3 x4 x5 x6 (x7 + 1) r3
set_option maxHeartbeats 4000000 in
theorem l_X5_plan_140 {N : Mem} {B : Nat} (hN : HN N B) {fk12 : Nat → Nat → Int32 → Int32 → Int32 → Mem → Option (Mem)} {k12 : Nat → Nat → Nat → Int32 → Int32 → Int32 → ST → Option (ST)} (hk12 : ∀ (x0 : Nat) (nx1 : Nat) (x1 : Nat) (x2 : Int32) (x3 : Int32) (x4 : Int32) (σ : ST), isC 5 x0 → isA nx1 x1 → fk12 (B + x0) (B + x1) x2 x3 x4 (put N B σ) = (k12 x0 nx1 x1 x2 x3 x4 σ).bind (fun q => some (put N B q))) {fk27 : Nat → Nat → Int32 → Int32 → Int32 → Int32 → Int32 → Int32 → Mem → Option (Mem)} {k27 : Nat → Nat → Nat → Int32 → Int32 → Int32 → Int32 → Int32 → Int32 → ST → Option (ST)} (hk27 : ∀ (x0 : Nat) (nx1 : Nat) (x1 : Nat) (x2 : Int32) (x3 : Int32) (x4 : Int32) (x5 : Int32) (x6 : Int32) (x7 : Int32) (σ : ST), isC 5 x0 → isA nx1 x1 → fk27 (B + x0) (B + x1) x2 x3 x4 x5 x6 x7 (put N B σ) = (k27 x0 nx1 x1 x2 x3 x4 x5 x6 x7 σ).bind (fun q => some (put N B q))) : ∀ (x0 : Nat) (nx1 : Nat) (x1 : Nat) (x2 : Int32) (x3 : Int32) (x4 : Int32) (x5 : Int32) (x6 : Int32) (x7 : Int32) (x8 : Int32) (σ : ST), isC 5 x0 → isA nx1 x1 → f_X5_plan_140 fk12 fk27 (B + x0) (B + x1) x2 x3 x4 x5 x6 x7 x8 (put N B σ) = (g_X5_plan_140 N k12 k27 x0 nx1 x1 x2 x3 x4 x5 x6 x7 x8 σ).bind (fun q => some (put N B q)) := by
  intro x0 nx1 x1 x2 x3 x4 x5 x6 x7 x8 σ hx0 hx1
  unfold f_X5_plan_140 g_X5_plan_140
  refine lg (gR_5_0 hx0) ?_
  refine lm (wI_put (sh_5_0 hx0)) (fun r1 => ?_)
  refine lg (gR_5_1 hx0) ?_
  refine lm (wI_put (sh_5_1 hx0)) (fun r2 => ?_)
  refine lg (gR_5_2 hx0) ?_
  refine lm (wI_put (sh_5_2 hx0)) (fun r3 => ?_)
  exact hk27 _ _ _ _ _ _ _ _ _ _ hx0 hx1
noncomputable def g_X5_plan_109 (N : Mem) (k12 : Nat → Nat → Nat → Int32 → Int32 → Int32 → ST → Option (ST)) (k27 : Nat → Nat → Nat → Int32 → Int32 → Int32 → Int32 → Int32 → Int32 → ST → Option (ST)) (x0 : Nat) (nx1 : Nat) (x1 : Nat) (x2 : Int32) (x3 : Int32) (x4 : Int32) (x5 : Int32) (x6 : Int32) (x7 : Int32) (x8 : Int32) (s0 : Bool) (σ : ST) : Option (ST) :=
  if s0 = true then
  (g_X5_plan_140 N k12 k27 x0 nx1 x1 x2 x3 x4 x5 x6 x7 x8 σ)
  else
  ((xI 9 σ (x0 + 1) x4).bind fun v4 =>
  if x8 = v4 then
  ((xI 8 σ (x0 + 2) x4).bind fun v5 =>
  if x5 ≤ v5 then
  (k27 x0 nx1 x1 x2 x3 x4 x5 x6 (x7 + 1) σ)
  else
  (g_X5_plan_140 N k12 k27 x0 nx1 x1 x2 x3 x4 x5 x6 x7 x8 σ))
  else
  (k27 x0 nx1 x1 x2 x3 x4 x5 x6 (x7 + 1) σ))
set_option maxHeartbeats 4000000 in
theorem l_X5_plan_109 {N : Mem} {B : Nat} (hN : HN N B) {fk12 : Nat → Nat → Int32 → Int32 → Int32 → Mem → Option (Mem)} {k12 : Nat → Nat → Nat → Int32 → Int32 → Int32 → ST → Option (ST)} (hk12 : ∀ (x0 : Nat) (nx1 : Nat) (x1 : Nat) (x2 : Int32) (x3 : Int32) (x4 : Int32) (σ : ST), isC 5 x0 → isA nx1 x1 → fk12 (B + x0) (B + x1) x2 x3 x4 (put N B σ) = (k12 x0 nx1 x1 x2 x3 x4 σ).bind (fun q => some (put N B q))) {fk27 : Nat → Nat → Int32 → Int32 → Int32 → Int32 → Int32 → Int32 → Mem → Option (Mem)} {k27 : Nat → Nat → Nat → Int32 → Int32 → Int32 → Int32 → Int32 → Int32 → ST → Option (ST)} (hk27 : ∀ (x0 : Nat) (nx1 : Nat) (x1 : Nat) (x2 : Int32) (x3 : Int32) (x4 : Int32) (x5 : Int32) (x6 : Int32) (x7 : Int32) (σ : ST), isC 5 x0 → isA nx1 x1 → fk27 (B + x0) (B + x1) x2 x3 x4 x5 x6 x7 (put N B σ) = (k27 x0 nx1 x1 x2 x3 x4 x5 x6 x7 σ).bind (fun q => some (put N B q))) : ∀ (x0 : Nat) (nx1 : Nat) (x1 : Nat) (x2 : Int32) (x3 : Int32) (x4 : Int32) (x5 : Int32) (x6 : Int32) (x7 : Int32) (x8 : Int32) (s0 : Bool) (σ : ST), isC 5 x0 → isA nx1 x1 → f_X5_plan_109 fk12 fk27 (B + x0) (B + x1) x2 x3 x4 x5 x6 x7 x8 s0 (put N B σ) = (g_X5_plan_109 N k12 k27 x0 nx1 x1 x2 x3 x4 x5 x6 x7 x8 s0 σ).bind (fun q => some (put N B q)) := by
  intro x0 nx1 x1 x2 x3 x4 x5 x6 x7 x8 s0 σ hx0 hx1
  unfold f_X5_plan_109 g_X5_plan_109
  refine li (fun _ => ?_) (fun _ => ?_)
  · exact l_X5_plan_140 hN hk12 hk27 _ _ _ _ _ _ _ _ _ _ _ hx0 hx1
  · refine lg (gR_5_0 hx0) ?_
    refine lb (rI_put (sh_5_0 hx0)) (fun v4 => ?_)
    refine li (fun _ => ?_) (fun _ => ?_)
    · refine lg (gR_5_1 hx0) ?_
      refine lb (rI_put (sh_5_1 hx0)) (fun v5 => ?_)
      refine li (fun _ => ?_) (fun _ => ?_)
      · exact hk27 _ _ _ _ _ _ _ _ _ _ hx0 hx1
      · exact l_X5_plan_140 hN hk12 hk27 _ _ _ _ _ _ _ _ _ _ _ hx0 hx1
    · exact hk27 _ _ _ _ _ _ _ _ _ _ hx0 hx1
noncomputable def g_X5_plan_104 (N : Mem) (k12 : Nat → Nat → Nat → Int32 → Int32 → Int32 → ST → Option (ST)) (k27 : Nat → Nat → Nat → Int32 → Int32 → Int32 → Int32 → Int32 → Int32 → ST → Option (ST)) (x0 : Nat) (nx1 : Nat) (x1 : Nat) (x2 : Int32) (x3 : Int32) (x4 : Int32) (x5 : Int32) (x6 : Int32) (x7 : Int32) (x8 : Int32) (σ : ST) : Option (ST) :=
  g_X5_plan_109 N k12 k27 x0 nx1 x1 x2 x3 x4 x5 x6 x7 x8 true σ
set_option maxHeartbeats 4000000 in
theorem l_X5_plan_104 {N : Mem} {B : Nat} (hN : HN N B) {fk12 : Nat → Nat → Int32 → Int32 → Int32 → Mem → Option (Mem)} {k12 : Nat → Nat → Nat → Int32 → Int32 → Int32 → ST → Option (ST)} (hk12 : ∀ (x0 : Nat) (nx1 : Nat) (x1 : Nat) (x2 : Int32) (x3 : Int32) (x4 : Int32) (σ : ST), isC 5 x0 → isA nx1 x1 → fk12 (B + x0) (B + x1) x2 x3 x4 (put N B σ) = (k12 x0 nx1 x1 x2 x3 x4 σ).bind (fun q => some (put N B q))) {fk27 : Nat → Nat → Int32 → Int32 → Int32 → Int32 → Int32 → Int32 → Mem → Option (Mem)} {k27 : Nat → Nat → Nat → Int32 → Int32 → Int32 → Int32 → Int32 → Int32 → ST → Option (ST)} (hk27 : ∀ (x0 : Nat) (nx1 : Nat) (x1 : Nat) (x2 : Int32) (x3 : Int32) (x4 : Int32) (x5 : Int32) (x6 : Int32) (x7 : Int32) (σ : ST), isC 5 x0 → isA nx1 x1 → fk27 (B + x0) (B + x1) x2 x3 x4 x5 x6 x7 (put N B σ) = (k27 x0 nx1 x1 x2 x3 x4 x5 x6 x7 σ).bind (fun q => some (put N B q))) : ∀ (x0 : Nat) (nx1 : Nat) (x1 : Nat) (x2 : Int32) (x3 : Int32) (x4 : Int32) (x5 : Int32) (x6 : Int32) (x7 : Int32) (x8 : Int32) (σ : ST), isC 5 x0 → isA nx1 x1 → f_X5_plan_104 fk12 fk27 (B + x0) (B + x1) x2 x3 x4 x5 x6 x7 x8 (put N B σ) = (g_X5_plan_104 N k12 k27 x0 nx1 x1 x2 x3 x4 x5 x6 x7 x8 σ).bind (fun q => some (put N B q)) := by
  intro x0 nx1 x1 x2 x3 x4 x5 x6 x7 x8 σ hx0 hx1
  unfold f_X5_plan_104 g_X5_plan_104
  exact l_X5_plan_109 hN hk12 hk27 _ _ _ _ _ _ _ _ _ _ _ _ hx0 hx1
noncomputable def g_X5_plan_70 (N : Mem) (k12 : Nat → Nat → Nat → Int32 → Int32 → Int32 → ST → Option (ST)) (k27 : Nat → Nat → Nat → Int32 → Int32 → Int32 → Int32 → Int32 → Int32 → ST → Option (ST)) (x0 : Nat) (nx1 : Nat) (x1 : Nat) (x2 : Int32) (x3 : Int32) (x4 : Int32) (x5 : Int32) (x6 : Int32) (x7 : Int32) (s0 : Int32) (σ : ST) : Option (ST) :=
  (xI 9 σ (x0 + 1) (x7 + 1)).bind fun v6 =>
  if x7 = x4 then
  (g_X5_plan_104 N k12 k27 x0 nx1 x1 x2 x3 x4 x5 x6 x7 ((s0 + x6) + v6) σ)
  else
  ((xI 9 σ (x0 + 1) x4).bind fun v7 =>
  if v7 ≤ ((s0 + x6) + v6) then
  (g_X5_plan_109 N k12 k27 x0 nx1 x1 x2 x3 x4 x5 x6 x7 ((s0 + x6) + v6) false σ)
  else
  (g_X5_plan_104 N k12 k27 x0 nx1 x1 x2 x3 x4 x5 x6 x7 ((s0 + x6) + v6) σ))
set_option maxHeartbeats 4000000 in
theorem l_X5_plan_70 {N : Mem} {B : Nat} (hN : HN N B) {fk12 : Nat → Nat → Int32 → Int32 → Int32 → Mem → Option (Mem)} {k12 : Nat → Nat → Nat → Int32 → Int32 → Int32 → ST → Option (ST)} (hk12 : ∀ (x0 : Nat) (nx1 : Nat) (x1 : Nat) (x2 : Int32) (x3 : Int32) (x4 : Int32) (σ : ST), isC 5 x0 → isA nx1 x1 → fk12 (B + x0) (B + x1) x2 x3 x4 (put N B σ) = (k12 x0 nx1 x1 x2 x3 x4 σ).bind (fun q => some (put N B q))) {fk27 : Nat → Nat → Int32 → Int32 → Int32 → Int32 → Int32 → Int32 → Mem → Option (Mem)} {k27 : Nat → Nat → Nat → Int32 → Int32 → Int32 → Int32 → Int32 → Int32 → ST → Option (ST)} (hk27 : ∀ (x0 : Nat) (nx1 : Nat) (x1 : Nat) (x2 : Int32) (x3 : Int32) (x4 : Int32) (x5 : Int32) (x6 : Int32) (x7 : Int32) (σ : ST), isC 5 x0 → isA nx1 x1 → fk27 (B + x0) (B + x1) x2 x3 x4 x5 x6 x7 (put N B σ) = (k27 x0 nx1 x1 x2 x3 x4 x5 x6 x7 σ).bind (fun q => some (put N B q))) : ∀ (x0 : Nat) (nx1 : Nat) (x1 : Nat) (x2 : Int32) (x3 : Int32) (x4 : Int32) (x5 : Int32) (x6 : Int32) (x7 : Int32) (s0 : Int32) (σ : ST), isC 5 x0 → isA nx1 x1 → f_X5_plan_70 fk12 fk27 (B + x0) (B + x1) x2 x3 x4 x5 x6 x7 s0 (put N B σ) = (g_X5_plan_70 N k12 k27 x0 nx1 x1 x2 x3 x4 x5 x6 x7 s0 σ).bind (fun q => some (put N B q)) := by
  intro x0 nx1 x1 x2 x3 x4 x5 x6 x7 s0 σ hx0 hx1
  unfold f_X5_plan_70 g_X5_plan_70
  refine lg (gR_5_0 hx0) ?_
  refine lb (rI_put (sh_5_0 hx0)) (fun v6 => ?_)
  refine li (fun _ => ?_) (fun _ => ?_)
  · exact l_X5_plan_104 hN hk12 hk27 _ _ _ _ _ _ _ _ _ _ _ hx0 hx1
  · refine lg (gR_5_0 hx0) ?_
    refine lb (rI_put (sh_5_0 hx0)) (fun v7 => ?_)
    refine li (fun _ => ?_) (fun _ => ?_)
    · exact l_X5_plan_109 hN hk12 hk27 _ _ _ _ _ _ _ _ _ _ _ _ hx0 hx1
    · exact l_X5_plan_104 hN hk12 hk27 _ _ _ _ _ _ _ _ _ _ _ hx0 hx1
noncomputable def g_X5_plan_27 (N : Mem) (n0 : Nat) (k12 : Nat → Nat → Nat → Int32 → Int32 → Int32 → ST → Option (ST)) (x0 : Nat) (nx1 : Nat) (x1 : Nat) (x2 : Int32) (x3 : Int32) (x4 : Int32) (x5 : Int32) (x6 : Int32) (x7 : Int32) (σ : ST) : Option (ST) :=
  match n0 with
  | 0 => none
  | n + 1 =>
    if 8 ≤ x7 then
    (k12 x0 nx1 x1 x2 x3 (x4 + (-1)) σ)
    else
    ((xI nx1 σ x1 x7).bind fun v8 =>
    (xI nx1 σ x1 x7).bind fun v9 =>
    if (x5 + v8) ≤ 0 then
    (g_X5_plan_70 N k12 (g_X5_plan_27 N n k12) x0 nx1 x1 x2 x3 x4 (x5 + v8) (x6 + ((v9 * (x7 - x4)) * x3)) x7 0 σ)
    else
    (g_X5_plan_70 N k12 (g_X5_plan_27 N n k12) x0 nx1 x1 x2 x3 x4 (x5 + v8) (x6 + ((v9 * (x7 - x4)) * x3)) x7 x2 σ))
set_option maxHeartbeats 4000000 in
theorem l_X5_plan_27 {N : Mem} {B : Nat} (hN : HN N B) {fk12 : Nat → Nat → Int32 → Int32 → Int32 → Mem → Option (Mem)} {k12 : Nat → Nat → Nat → Int32 → Int32 → Int32 → ST → Option (ST)} (hk12 : ∀ (x0 : Nat) (nx1 : Nat) (x1 : Nat) (x2 : Int32) (x3 : Int32) (x4 : Int32) (σ : ST), isC 5 x0 → isA nx1 x1 → fk12 (B + x0) (B + x1) x2 x3 x4 (put N B σ) = (k12 x0 nx1 x1 x2 x3 x4 σ).bind (fun q => some (put N B q))) : ∀ (n : Nat) (x0 : Nat) (nx1 : Nat) (x1 : Nat) (x2 : Int32) (x3 : Int32) (x4 : Int32) (x5 : Int32) (x6 : Int32) (x7 : Int32) (σ : ST), isC 5 x0 → isA nx1 x1 → f_X5_plan_27 n fk12 (B + x0) (B + x1) x2 x3 x4 x5 x6 x7 (put N B σ) = (g_X5_plan_27 N n k12 x0 nx1 x1 x2 x3 x4 x5 x6 x7 σ).bind (fun q => some (put N B q)) := by
  intro n
  induction n with
  | zero =>
    intro x0 nx1 x1 x2 x3 x4 x5 x6 x7 σ hx0 hx1
    rfl
  | succ n ih =>
    intro x0 nx1 x1 x2 x3 x4 x5 x6 x7 σ hx0 hx1
    unfold f_X5_plan_27 g_X5_plan_27
    refine li (fun _ => ?_) (fun _ => ?_)
    · exact hk12 _ _ _ _ _ _ _ hx0 hx1
    · refine lb (rI_put hx1) (fun v8 => ?_)
      refine lb (rI_put hx1) (fun v9 => ?_)
      refine li (fun _ => ?_) (fun _ => ?_)
      · exact l_X5_plan_70 hN hk12 ih _ _ _ _ _ _ _ _ _ _ _ hx0 hx1
      · exact l_X5_plan_70 hN hk12 ih _ _ _ _ _ _ _ _ _ _ _ hx0 hx1
noncomputable def g_X5_plan_197 (N : Mem) (n0 : Nat) (k184 : Nat → Int32 → ST → Option (ST)) (x0 : Nat) (x4 : Int32) (x5 : Int32) (σ : ST) : Option (ST) :=
  match n0 with
  | 0 => none
  | n + 1 =>
    (xI 8 σ (x0 + 3) x4).bind fun v10 =>
    if v10 ≤ x5 then
    (k184 x0 (x4 + 1) σ)
    else
    (if 8 ≤ x5 then
    (k184 x0 (x4 + 1) σ)
    else
    ((yI 8 σ (x0 + 2) x5 0).bind fun r11 =>
    (yI 8 r11 (x0 + 3) x5 0).bind fun r12 =>
    g_X5_plan_197 N n k184 x0 x4 (x5 + 1) r12))
set_option maxHeartbeats 4000000 in
theorem l_X5_plan_197 {N : Mem} {B : Nat} (hN : HN N B) {fk184 : Nat → Int32 → Mem → Option (Mem)} {k184 : Nat → Int32 → ST → Option (ST)} (hk184 : ∀ (x0 : Nat) (x4 : Int32) (σ : ST), isC 5 x0 → fk184 (B + x0) x4 (put N B σ) = (k184 x0 x4 σ).bind (fun q => some (put N B q))) : ∀ (n : Nat) (x0 : Nat) (x4 : Int32) (x5 : Int32) (σ : ST), isC 5 x0 → f_X5_plan_197 n fk184 (B + x0) x4 x5 (put N B σ) = (g_X5_plan_197 N n k184 x0 x4 x5 σ).bind (fun q => some (put N B q)) := by
  intro n
  induction n with
  | zero =>
    intro x0 x4 x5 σ hx0
    rfl
  | succ n ih =>
    intro x0 x4 x5 σ hx0
    unfold f_X5_plan_197 g_X5_plan_197
    refine lg (gR_5_2 hx0) ?_
    refine lb (rI_put (sh_5_2 hx0)) (fun v10 => ?_)
    refine li (fun _ => ?_) (fun _ => ?_)
    · exact hk184 _ _ _ hx0
    · refine li (fun _ => ?_) (fun _ => ?_)
      · exact hk184 _ _ _ hx0
      · refine lg (gR_5_1 hx0) ?_
        refine lm (wI_put (sh_5_1 hx0)) (fun r11 => ?_)
        refine lg (gR_5_2 hx0) ?_
        refine lm (wI_put (sh_5_2 hx0)) (fun r12 => ?_)
        exact ih _ _ _ _ hx0
noncomputable def g_X5_plan_184 (N : Mem) (n0 : Nat) (x0 : Nat) (x4 : Int32) (σ : ST) : Option (ST) :=
  match n0 with
  | 0 => none
  | n + 1 =>
    if 8 ≤ x4 then
    (some σ)
    else
    (g_X5_plan_197 N fu (g_X5_plan_184 N n) x0 x4 (x4 + 1) σ)
set_option maxHeartbeats 4000000 in
theorem l_X5_plan_184 {N : Mem} {B : Nat} (hN : HN N B) : ∀ (n : Nat) (x0 : Nat) (x4 : Int32) (σ : ST), isC 5 x0 → f_X5_plan_184 n (B + x0) x4 (put N B σ) = (g_X5_plan_184 N n x0 x4 σ).bind (fun q => some (put N B q)) := by
  intro n
  induction n with
  | zero =>
    intro x0 x4 σ hx0
    rfl
  | succ n ih =>
    intro x0 x4 σ hx0
    unfold f_X5_plan_184 g_X5_plan_184
    refine li (fun _ => ?_) (fun _ => ?_)
    · rfl
    · exact l_X5_plan_197 hN ih _ _ _ _ _ hx0
noncomputable def g_X5_plan_12 (N : Mem) (n0 : Nat) (x0 : Nat) (nx1 : Nat) (x1 : Nat) (x2 : Int32) (x3 : Int32) (x4 : Int32) (σ : ST) : Option (ST) :=
  match n0 with
  | 0 => none
  | n + 1 =>
    if x4 < 0 then
    (g_X5_plan_184 N fu x0 0 σ)
    else
    (g_X5_plan_27 N fu (g_X5_plan_12 N n) x0 nx1 x1 x2 x3 x4 0 0 x4 σ)
set_option maxHeartbeats 4000000 in
theorem l_X5_plan_12 {N : Mem} {B : Nat} (hN : HN N B) : ∀ (n : Nat) (x0 : Nat) (nx1 : Nat) (x1 : Nat) (x2 : Int32) (x3 : Int32) (x4 : Int32) (σ : ST), isC 5 x0 → isA nx1 x1 → f_X5_plan_12 n (B + x0) (B + x1) x2 x3 x4 (put N B σ) = (g_X5_plan_12 N n x0 nx1 x1 x2 x3 x4 σ).bind (fun q => some (put N B q)) := by
  intro n
  induction n with
  | zero =>
    intro x0 nx1 x1 x2 x3 x4 σ hx0 hx1
    rfl
  | succ n ih =>
    intro x0 nx1 x1 x2 x3 x4 σ hx0 hx1
    unfold f_X5_plan_12 g_X5_plan_12
    refine li (fun _ => ?_) (fun _ => ?_)
    · exact l_X5_plan_184 hN  _ _ _ _ hx0
    · exact l_X5_plan_27 hN ih _ _ _ _ _ _ _ _ _ _ _ hx0 hx1
noncomputable def g_X5_plan_0 (N : Mem) (x0 : Nat) (nx1 : Nat) (x1 : Nat) (x2 : Int32) (x3 : Int32) (σ : ST) : Option (ST) :=
  (yI 9 σ (x0 + 1) 8 0).bind fun r13 =>
  g_X5_plan_12 N fu x0 nx1 x1 x2 x3 7 r13
set_option maxHeartbeats 4000000 in
theorem l_X5_plan_0 {N : Mem} {B : Nat} (hN : HN N B) : ∀ (x0 : Nat) (nx1 : Nat) (x1 : Nat) (x2 : Int32) (x3 : Int32) (σ : ST), isC 5 x0 → isA nx1 x1 → f_X5_plan_0 (B + x0) (B + x1) x2 x3 (put N B σ) = (g_X5_plan_0 N x0 nx1 x1 x2 x3 σ).bind (fun q => some (put N B q)) := by
  intro x0 nx1 x1 x2 x3 σ hx0 hx1
  unfold f_X5_plan_0 g_X5_plan_0
  refine lg (gR_5_0 hx0) ?_
  refine lm (wI_put (sh_5_0 hx0)) (fun r13 => ?_)
  exact l_X5_plan_12 hN  _ _ _ _ _ _ _ _ hx0 hx1
noncomputable def g_X5_plan (N : Mem) (x0 : Nat) (nx1 : Nat) (x1 : Nat) (x2 : Int32) (x3 : Int32) (σ : ST) : Option (ST) := g_X5_plan_0 N x0 nx1 x1 x2 x3 σ
theorem l_X5_plan {N : Mem} {B : Nat} (hN : HN N B) {x0 : Nat} {nx1 : Nat} {x1 : Nat} {x2 : Int32} {x3 : Int32} {σ : ST} (hx0 : isC 5 x0) (hx1 : isA nx1 x1) : f_X5_plan (B + x0) (B + x1) x2 x3 (put N B σ) = (g_X5_plan N x0 nx1 x1 x2 x3 σ).map (put N B) := by
  unfold f_X5_plan g_X5_plan
  rw [if_pos (isOb_put hx0)]
  exact lmap (l_X5_plan_0 hN _ _ _ _ _ _ hx0 hx1)
noncomputable def g_X6_behind_77 (N : Mem) (x1 : Int32) (s0 : Bool) (σ : ST) : Option (Int32) :=
  if s0 = false then
  (some (-1))
  else
  (some (x1 + 2))
set_option maxHeartbeats 4000000 in
theorem l_X6_behind_77 {N : Mem} {B : Nat} (hN : HN N B) : ∀ (x1 : Int32) (s0 : Bool) (σ : ST), f_X6_behind_77 x1 s0 (put N B σ) = (g_X6_behind_77 N x1 s0 σ).bind some := by
  intro x1 s0 σ 
  unfold f_X6_behind_77 g_X6_behind_77
  refine li (fun _ => ?_) (fun _ => ?_)
  · rfl
  · rfl
noncomputable def g_X6_behind_76 (N : Mem) (x1 : Int32) (σ : ST) : Option (Int32) :=
  g_X6_behind_77 N x1 false σ
set_option maxHeartbeats 4000000 in
theorem l_X6_behind_76 {N : Mem} {B : Nat} (hN : HN N B) : ∀ (x1 : Int32) (σ : ST), f_X6_behind_76 x1 (put N B σ) = (g_X6_behind_76 N x1 σ).bind some := by
  intro x1 σ 
  unfold f_X6_behind_76 g_X6_behind_76
  exact l_X6_behind_77 hN  _ _ _ 
noncomputable def g_X6_behind_0 (N : Mem) (x0 : Nat) (x1 : Int32) (x2 : Int32) (σ : ST) : Option (Int32) :=
  if 0 < x2 then
  (if 11 ≤ x2 then
  ((g_X3_has N x0 (x1 + 1) σ).bind fun v1 =>
  if v1 = false then
  (g_X6_behind_76 N x1 σ)
  else
  ((g_X3_get N x0 x1 σ).bind fun v2 =>
  (g_X3_get N x0 (x1 + 1) σ).bind fun v3 =>
  if ((v2 * 10) + v3) = (x2 - 11) then
  (g_X6_behind_77 N x1 true σ)
  else
  (g_X6_behind_76 N x1 σ)))
  else
  ((g_X3_has N x0 x1 σ).bind fun v4 =>
  if v4 = false then
  (some (-1))
  else
  ((g_X3_get N x0 x1 σ).bind fun v5 =>
  if v5 = (x2 - 1) then
  (some (x1 + 1))
  else
  (some (-1)))))
  else
  (some x1)
set_option maxHeartbeats 4000000 in
theorem l_X6_behind_0 {N : Mem} {B : Nat} (hN : HN N B) : ∀ (x0 : Nat) (x1 : Int32) (x2 : Int32) (σ : ST), isC 3 x0 → f_X6_behind_0 (B + x0) x1 x2 (put N B σ) = (g_X6_behind_0 N x0 x1 x2 σ).bind some := by
  intro x0 x1 x2 σ hx0
  unfold f_X6_behind_0 g_X6_behind_0
  refine li (fun _ => ?_) (fun _ => ?_)
  · refine li (fun _ => ?_) (fun _ => ?_)
    · refine lb (l_X3_has hN hx0) (fun v1 => ?_)
      refine li (fun _ => ?_) (fun _ => ?_)
      · exact l_X6_behind_76 hN  _ _
      · refine lb (l_X3_get hN hx0) (fun v2 => ?_)
        refine lb (l_X3_get hN hx0) (fun v3 => ?_)
        refine li (fun _ => ?_) (fun _ => ?_)
        · exact l_X6_behind_77 hN  _ _ _
        · exact l_X6_behind_76 hN  _ _
    · refine lb (l_X3_has hN hx0) (fun v4 => ?_)
      refine li (fun _ => ?_) (fun _ => ?_)
      · rfl
      · refine lb (l_X3_get hN hx0) (fun v5 => ?_)
        refine li (fun _ => ?_) (fun _ => ?_)
        · rfl
        · rfl
  · rfl
noncomputable def g_X6_behind (N : Mem) (x0 : Nat) (x1 : Int32) (x2 : Int32) (σ : ST) : Option (Int32) := g_X6_behind_0 N x0 x1 x2 σ
theorem l_X6_behind {N : Mem} {B : Nat} (hN : HN N B) {x0 : Nat} {x1 : Int32} {x2 : Int32} {σ : ST} (hx0 : isC 3 x0) : f_X6_behind (B + x0) x1 x2 (put N B σ) = g_X6_behind N x0 x1 x2 σ := by
  unfold f_X6_behind g_X6_behind
  exact lsm (l_X6_behind_0 hN _ _ _ _ hx0)
noncomputable def g_X6_spread_0 (N : Mem) (x0 : Nat) (x1 : Int32) (x2 : Int32) (x3 : Int32) (σ : ST) : Option (ST) :=
  (f_X10_within x2 0 12).bind fun v1 =>
  if v1 = false then
  (some σ)
  else
  ((xI 13 σ (x0 + 4) x2).bind fun v2 =>
  (xI 13 σ (x0 + 3) x1).bind fun v3 =>
  (yI 13 σ (x0 + 4) x2 (v2 + (v3 * x3))).bind fun r4 =>
  some r4)
set_option maxHeartbeats 4000000 in
theorem l_X6_spread_0 {N : Mem} {B : Nat} (hN : HN N B) : ∀ (x0 : Nat) (x1 : Int32) (x2 : Int32) (x3 : Int32) (σ : ST), isC 6 x0 → f_X6_spread_0 (B + x0) x1 x2 x3 (put N B σ) = (g_X6_spread_0 N x0 x1 x2 x3 σ).bind (fun q => some (put N B q)) := by
  intro x0 x1 x2 x3 σ hx0
  unfold f_X6_spread_0 g_X6_spread_0
  refine lb (rfl) (fun v1 => ?_)
  refine li (fun _ => ?_) (fun _ => ?_)
  · rfl
  · refine lg (gR_6_2 hx0) ?_
    refine lb (rI_put (sh_6_2 hx0)) (fun v2 => ?_)
    refine lg (gR_6_1 hx0) ?_
    refine lb (rI_put (sh_6_1 hx0)) (fun v3 => ?_)
    refine lm (wI_put (sh_6_2 hx0)) (fun r4 => ?_)
    rfl
noncomputable def g_X6_spread (N : Mem) (x0 : Nat) (x1 : Int32) (x2 : Int32) (x3 : Int32) (σ : ST) : Option (ST) := g_X6_spread_0 N x0 x1 x2 x3 σ
theorem l_X6_spread {N : Mem} {B : Nat} (hN : HN N B) {x0 : Nat} {x1 : Int32} {x2 : Int32} {x3 : Int32} {σ : ST} (hx0 : isC 6 x0) : f_X6_spread (B + x0) x1 x2 x3 (put N B σ) = (g_X6_spread N x0 x1 x2 x3 σ).map (put N B) := by
  unfold f_X6_spread g_X6_spread
  rw [if_pos (isOb_put hx0)]
  exact lmap (l_X6_spread_0 hN _ _ _ _ _ hx0)
noncomputable def g_X6_weigh_114 (N : Mem) (k24 : Nat → Int32 → Nat → Nat → Nat → Int32 → Int32 → Int32 → Int32 → ST → Option (Int32 × ST)) (x0 : Nat) (x1 : Int32) (x2 : Nat) (nx3 : Nat) (x3 : Nat) (x4 : Int32) (x5 : Int32) (x6 : Int32) (x7 : Int32) (σ : ST) : Option (Int32 × ST) :=
  (zC 13 13 σ (x0 + 4) 0 (x0 + 3) 0 (Int32.ofNat 13)).bind fun r1 =>
  k24 x0 x1 x2 nx3 x3 x4 x5 x6 (x7 + 1) r1
set_option maxHeartbeats 4000000 in
theorem l_X6_weigh_114 {N : Mem} {B : Nat} (hN : HN N B) {fk24 : Nat → Int32 → Nat → Nat → Int32 → Int32 → Int32 → Int32 → Mem → Option (Int32 × Mem)} {k24 : Nat → Int32 → Nat → Nat → Nat → Int32 → Int32 → Int32 → Int32 → ST → Option (Int32 × ST)} (hk24 : ∀ (x0 : Nat) (x1 : Int32) (x2 : Nat) (nx3 : Nat) (x3 : Nat) (x4 : Int32) (x5 : Int32) (x6 : Int32) (x7 : Int32) (σ : ST), isC 6 x0 → isC 3 x2 → isA nx3 x3 → fk24 (B + x0) x1 (B + x2) (B + x3) x4 x5 x6 x7 (put N B σ) = (k24 x0 x1 x2 nx3 x3 x4 x5 x6 x7 σ).bind (fun q => some (q.1, put N B q.2))) : ∀ (x0 : Nat) (x1 : Int32) (x2 : Nat) (nx3 : Nat) (x3 : Nat) (x4 : Int32) (x5 : Int32) (x6 : Int32) (x7 : Int32) (σ : ST), isC 6 x0 → isC 3 x2 → isA nx3 x3 → f_X6_weigh_114 fk24 (B + x0) x1 (B + x2) (B + x3) x4 x5 x6 x7 (put N B σ) = (g_X6_weigh_114 N k24 x0 x1 x2 nx3 x3 x4 x5 x6 x7 σ).bind (fun q => some (q.1, put N B q.2)) := by
  intro x0 x1 x2 nx3 x3 x4 x5 x6 x7 σ hx0 hx2 hx3
  unfold f_X6_weigh_114 g_X6_weigh_114
  refine lg (gR_6_2 hx0) ?_
  refine lg (gR_6_1 hx0) ?_
  refine lg (gR_6_1 hx0) ?_
  refine lg (lnA_put (sh_6_1 hx0)) ?_
  refine lm (cpI_put (sh_6_2 hx0) (sh_6_1 hx0)) (fun r1 => ?_)
  exact hk24 _ _ _ _ _ _ _ _ _ _ hx0 hx2 hx3
noncomputable def g_X6_weigh_54 (N : Mem) (n0 : Nat) (k24 : Nat → Int32 → Nat → Nat → Nat → Int32 → Int32 → Int32 → Int32 → ST → Option (Int32 × ST)) (x0 : Nat) (x1 : Int32) (x2 : Nat) (nx3 : Nat) (x3 : Nat) (x4 : Int32) (x5 : Int32) (x6 : Int32) (x7 : Int32) (x8 : Int32) (x9 : Int32) (σ : ST) : Option (Int32 × ST) :=
  match n0 with
  | 0 => none
  | n + 1 =>
    if (σ.1 x2 1) < x9 then
    (g_X6_weigh_114 N k24 x0 x1 x2 nx3 x3 x4 x5 x6 x7 σ)
    else
    (if 12 < x9 then
    (g_X6_weigh_114 N k24 x0 x1 x2 nx3 x3 x4 x5 x6 x7 σ)
    else
    ((xI nx3 σ x3 x8).bind fun v2 =>
    (g_X6_behind N x2 x9 v2 σ).bind fun v3 =>
    (g_X6_spread N x0 x9 v3 x4 σ).bind fun r4 =>
    (xI nx3 r4 x3 (x8 + 1)).bind fun v5 =>
    (g_X6_behind N x2 x9 v5 r4).bind fun v6 =>
    (g_X6_spread N x0 x9 v6 x5 r4).bind fun r7 =>
    g_X6_weigh_54 N n k24 x0 x1 x2 nx3 x3 x4 x5 x6 x7 x8 (x9 + 1) r7))
set_option maxHeartbeats 4000000 in
theorem l_X6_weigh_54 {N : Mem} {B : Nat} (hN : HN N B) {fk24 : Nat → Int32 → Nat → Nat → Int32 → Int32 → Int32 → Int32 → Mem → Option (Int32 × Mem)} {k24 : Nat → Int32 → Nat → Nat → Nat → Int32 → Int32 → Int32 → Int32 → ST → Option (Int32 × ST)} (hk24 : ∀ (x0 : Nat) (x1 : Int32) (x2 : Nat) (nx3 : Nat) (x3 : Nat) (x4 : Int32) (x5 : Int32) (x6 : Int32) (x7 : Int32) (σ : ST), isC 6 x0 → isC 3 x2 → isA nx3 x3 → fk24 (B + x0) x1 (B + x2) (B + x3) x4 x5 x6 x7 (put N B σ) = (k24 x0 x1 x2 nx3 x3 x4 x5 x6 x7 σ).bind (fun q => some (q.1, put N B q.2))) : ∀ (n : Nat) (x0 : Nat) (x1 : Int32) (x2 : Nat) (nx3 : Nat) (x3 : Nat) (x4 : Int32) (x5 : Int32) (x6 : Int32) (x7 : Int32) (x8 : Int32) (x9 : Int32) (σ : ST), isC 6 x0 → isC 3 x2 → isA nx3 x3 → f_X6_weigh_54 n fk24 (B + x0) x1 (B + x2) (B + x3) x4 x5 x6 x7 x8 x9 (put N B σ) = (g_X6_weigh_54 N n k24 x0 x1 x2 nx3 x3 x4 x5 x6 x7 x8 x9 σ).bind (fun q => some (q.1, put N B q.2)) := by
  intro n
  induction n with
  | zero =>
    intro x0 x1 x2 nx3 x3 x4 x5 x6 x7 x8 x9 σ hx0 hx2 hx3
    rfl
  | succ n ih =>
    intro x0 x1 x2 nx3 x3 x4 x5 x6 x7 x8 x9 σ hx0 hx2 hx3
    unfold f_X6_weigh_54 g_X6_weigh_54
    refine lg (gI_3_1 hx2) ?_
    refine li (fun _ => ?_) (fun _ => ?_)
    · exact l_X6_weigh_114 hN hk24 _ _ _ _ _ _ _ _ _ _ hx0 hx2 hx3
    · refine li (fun _ => ?_) (fun _ => ?_)
      · exact l_X6_weigh_114 hN hk24 _ _ _ _ _ _ _ _ _ _ hx0 hx2 hx3
      · refine lb (rI_put hx3) (fun v2 => ?_)
        refine lb (l_X6_behind hN hx2) (fun v3 => ?_)
        refine lm (l_X6_spread hN hx0) (fun r4 => ?_)
        refine lb (rI_put hx3) (fun v5 => ?_)
        refine lb (l_X6_behind hN hx2) (fun v6 => ?_)
        refine lm (l_X6_spread hN hx0) (fun r7 => ?_)
        exact ih _ _ _ _ _ _ _ _ _ _ _ _ hx0 hx2 hx3
noncomputable def g_X6_weigh_24 (N : Mem) (n0 : Nat) (x0 : Nat) (x1 : Int32) (x2 : Nat) (nx3 : Nat) (x3 : Nat) (x4 : Int32) (x5 : Int32) (x6 : Int32) (x7 : Int32) (σ : ST) : Option (Int32 × ST) :=
  match n0 with
  | 0 => none
  | n + 1 =>
    if x6 ≤ x7 then
    ((f_X10_within (σ.1 x2 1) 0 12).bind fun v8 =>
    if v8 = false then
    (some (0, σ))
    else
    ((xI 13 σ (x0 + 3) (σ.1 x2 1)).bind fun v9 =>
    some (v9, σ)))
    else
    ((f_X10_digitAt x1 x7).bind fun v10 =>
    (f_X10_ruleIndex v10 false).bind fun v11 =>
    (g_fill 13 (x0 + 4) 0 σ).bind fun r12 =>
    g_X6_weigh_54 N fu (g_X6_weigh_24 N n) x0 x1 x2 nx3 x3 x4 x5 x6 x7 v11 0 r12)
set_option maxHeartbeats 4000000 in
theorem l_X6_weigh_24 {N : Mem} {B : Nat} (hN : HN N B) : ∀ (n : Nat) (x0 : Nat) (x1 : Int32) (x2 : Nat) (nx3 : Nat) (x3 : Nat) (x4 : Int32) (x5 : Int32) (x6 : Int32) (x7 : Int32) (σ : ST), isC 6 x0 → isC 3 x2 → isA nx3 x3 → f_X6_weigh_24 n (B + x0) x1 (B + x2) (B + x3) x4 x5 x6 x7 (put N B σ) = (g_X6_weigh_24 N n x0 x1 x2 nx3 x3 x4 x5 x6 x7 σ).bind (fun q => some (q.1, put N B q.2)) := by
  intro n
  induction n with
  | zero =>
    intro x0 x1 x2 nx3 x3 x4 x5 x6 x7 σ hx0 hx2 hx3
    rfl
  | succ n ih =>
    intro x0 x1 x2 nx3 x3 x4 x5 x6 x7 σ hx0 hx2 hx3
    unfold f_X6_weigh_24 g_X6_weigh_24
    refine li (fun _ => ?_) (fun _ => ?_)
    · refine lg (gI_3_1 hx2) ?_
      refine lb (rfl) (fun v8 => ?_)
      refine li (fun _ => ?_) (fun _ => ?_)
      · rfl
      · refine lg (gR_6_1 hx0) ?_
        refine lg (gI_3_1 hx2) ?_
        refine lb (rI_put (sh_6_1 hx0)) (fun v9 => ?_)
        rfl
    · refine lb (rfl) (fun v10 => ?_)
      refine lb (rfl) (fun v11 => ?_)
      refine lg (gR_6_2 hx0) ?_
      refine lm (l_fill (sh_6_2 hx0)) (fun r12 => ?_)
      exact l_X6_weigh_54 hN ih _ _ _ _ _ _ _ _ _ _ _ _ _ hx0 hx2 hx3
noncomputable def g_X6_weigh_0 (N : Mem) (x0 : Nat) (x1 : Int32) (x2 : Nat) (nx3 : Nat) (x3 : Nat) (x4 : Int32) (x5 : Int32) (σ : ST) : Option (Int32 × ST) :=
  (g_fill 13 (x0 + 3) 0 σ).bind fun r13 =>
  (yI 13 r13 (x0 + 3) 0 1).bind fun r14 =>
  (f_X10_digitCount x1).bind fun v15 =>
  g_X6_weigh_24 N fu x0 x1 x2 nx3 x3 x4 x5 v15 0 r14
set_option maxHeartbeats 4000000 in
theorem l_X6_weigh_0 {N : Mem} {B : Nat} (hN : HN N B) : ∀ (x0 : Nat) (x1 : Int32) (x2 : Nat) (nx3 : Nat) (x3 : Nat) (x4 : Int32) (x5 : Int32) (σ : ST), isC 6 x0 → isC 3 x2 → isA nx3 x3 → f_X6_weigh_0 (B + x0) x1 (B + x2) (B + x3) x4 x5 (put N B σ) = (g_X6_weigh_0 N x0 x1 x2 nx3 x3 x4 x5 σ).bind (fun q => some (q.1, put N B q.2)) := by
  intro x0 x1 x2 nx3 x3 x4 x5 σ hx0 hx2 hx3
  unfold f_X6_weigh_0 g_X6_weigh_0
  refine lg (gR_6_1 hx0) ?_
  refine lm (l_fill (sh_6_1 hx0)) (fun r13 => ?_)
  refine lg (gR_6_1 hx0) ?_
  refine lm (wI_put (sh_6_1 hx0)) (fun r14 => ?_)
  refine lb (rfl) (fun v15 => ?_)
  exact l_X6_weigh_24 hN  _ _ _ _ _ _ _ _ _ _ _ hx0 hx2 hx3
noncomputable def g_X6_weigh (N : Mem) (x0 : Nat) (x1 : Int32) (x2 : Nat) (nx3 : Nat) (x3 : Nat) (x4 : Int32) (x5 : Int32) (σ : ST) : Option (Int32 × ST) := g_X6_weigh_0 N x0 x1 x2 nx3 x3 x4 x5 σ
theorem l_X6_weigh {N : Mem} {B : Nat} (hN : HN N B) {x0 : Nat} {x1 : Int32} {x2 : Nat} {nx3 : Nat} {x3 : Nat} {x4 : Int32} {x5 : Int32} {σ : ST} (hx0 : isC 6 x0) (hx2 : isC 3 x2) (hx3 : isA nx3 x3) : f_X6_weigh (B + x0) x1 (B + x2) (B + x3) x4 x5 (put N B σ) = (g_X6_weigh N x0 x1 x2 nx3 x3 x4 x5 σ).bind (fun q => some (q.1, put N B q.2)) := by
  unfold f_X6_weigh g_X6_weigh
  rw [if_pos (isOb_put hx0)]
  exact l_X6_weigh_0 hN _ _ _ _ _ _ _ _ hx0 hx2 hx3
noncomputable def g_X6_chance_22 (N : Mem) (n0 : Nat) (x5 : Int32) (x6 : Int32) (σ : ST) : Option (Int32 × ST) :=
  match n0 with
  | 0 => none
  | n + 1 =>
    if 4 ≤ x6 then
    (some (x5, σ))
    else
    (g_X6_chance_22 N n (x5 * 10) (x6 + 1) σ)
set_option maxHeartbeats 4000000 in
theorem l_X6_chance_22 {N : Mem} {B : Nat} (hN : HN N B) : ∀ (n : Nat) (x5 : Int32) (x6 : Int32) (σ : ST), f_X6_chance_22 n x5 x6 (put N B σ) = (g_X6_chance_22 N n x5 x6 σ).bind (fun q => some (q.1, put N B q.2)) := by
  intro n
  induction n with
  | zero =>
    intro x5 x6 σ 
    rfl
  | succ n ih =>
    intro x5 x6 σ 
    unfold f_X6_chance_22 g_X6_chance_22
    refine li (fun _ => ?_) (fun _ => ?_)
    · rfl
    · exact ih _ _ _
noncomputable def g_X6_chance_0 (N : Mem) (x0 : Nat) (x1 : Int32) (x2 : Nat) (nx3 : Nat) (x3 : Nat) (x4 : Int32) (σ : ST) : Option (Int32 × ST) :=
  (g_X6_weigh N x0 x1 x2 nx3 x3 (10 - x4) x4 σ).bind fun r1 =>
  (f_X10_digitCount x1).bind fun v2 =>
  g_X6_chance_22 N fu r1.1 v2 r1.2
set_option maxHeartbeats 4000000 in
theorem l_X6_chance_0 {N : Mem} {B : Nat} (hN : HN N B) : ∀ (x0 : Nat) (x1 : Int32) (x2 : Nat) (nx3 : Nat) (x3 : Nat) (x4 : Int32) (σ : ST), isC 6 x0 → isC 3 x2 → isA nx3 x3 → f_X6_chance_0 (B + x0) x1 (B + x2) (B + x3) x4 (put N B σ) = (g_X6_chance_0 N x0 x1 x2 nx3 x3 x4 σ).bind (fun q => some (q.1, put N B q.2)) := by
  intro x0 x1 x2 nx3 x3 x4 σ hx0 hx2 hx3
  unfold f_X6_chance_0 g_X6_chance_0
  refine lc (l_X6_weigh hN hx0 hx2 hx3) (fun r1 => ?_)
  dsimp only
  refine lb (rfl) (fun v2 => ?_)
  exact l_X6_chance_22 hN  _ _ _ _ 
noncomputable def g_X6_chance (N : Mem) (x0 : Nat) (x1 : Int32) (x2 : Nat) (nx3 : Nat) (x3 : Nat) (x4 : Int32) (σ : ST) : Option (Int32 × ST) := g_X6_chance_0 N x0 x1 x2 nx3 x3 x4 σ
theorem l_X6_chance {N : Mem} {B : Nat} (hN : HN N B) {x0 : Nat} {x1 : Int32} {x2 : Nat} {nx3 : Nat} {x3 : Nat} {x4 : Int32} {σ : ST} (hx0 : isC 6 x0) (hx2 : isC 3 x2) (hx3 : isA nx3 x3) : f_X6_chance (B + x0) x1 (B + x2) (B + x3) x4 (put N B σ) = (g_X6_chance N x0 x1 x2 nx3 x3 x4 σ).bind (fun q => some (q.1, put N B q.2)) := by
  unfold f_X6_chance g_X6_chance
  rw [if_pos (isOb_put hx0)]
  exact l_X6_chance_0 hN _ _ _ _ _ _ _ hx0 hx2 hx3
noncomputable def g_X6_onwardFrom_44 (N : Mem) (x6 : Int32) (s0 : Int32) (σ : ST) : Option (Int32) :=
  if 0 ≤ x6 then
  (some (s0 ||| (jshl 1 x6)))
  else
  (some (s0 ||| 0))
set_option maxHeartbeats 4000000 in
theorem l_X6_onwardFrom_44 {N : Mem} {B : Nat} (hN : HN N B) : ∀ (x6 : Int32) (s0 : Int32) (σ : ST), f_X6_onwardFrom_44 x6 s0 (put N B σ) = (g_X6_onwardFrom_44 N x6 s0 σ).bind some := by
  intro x6 s0 σ 
  unfold f_X6_onwardFrom_44 g_X6_onwardFrom_44
  refine li (fun _ => ?_) (fun _ => ?_)
  · rfl
  · rfl
noncomputable def g_X6_onwardFrom_0 (N : Mem) (x0 : Int32) (x1 : Int32) (x2 : Nat) (nx3 : Nat) (x3 : Nat) (σ : ST) : Option (Int32) :=
  (f_X10_ruleIndex x1 false).bind fun v1 =>
  (xI nx3 σ x3 v1).bind fun v2 =>
  (g_X6_behind N x2 x0 v2 σ).bind fun v3 =>
  (xI nx3 σ x3 (v1 + 1)).bind fun v4 =>
  (g_X6_behind N x2 x0 v4 σ).bind fun v5 =>
  if 0 ≤ v3 then
  (g_X6_onwardFrom_44 N v5 (jshl 1 v3) σ)
  else
  (g_X6_onwardFrom_44 N v5 0 σ)
set_option maxHeartbeats 4000000 in
theorem l_X6_onwardFrom_0 {N : Mem} {B : Nat} (hN : HN N B) : ∀ (x0 : Int32) (x1 : Int32) (x2 : Nat) (nx3 : Nat) (x3 : Nat) (σ : ST), isC 3 x2 → isA nx3 x3 → f_X6_onwardFrom_0 x0 x1 (B + x2) (B + x3) (put N B σ) = (g_X6_onwardFrom_0 N x0 x1 x2 nx3 x3 σ).bind some := by
  intro x0 x1 x2 nx3 x3 σ hx2 hx3
  unfold f_X6_onwardFrom_0 g_X6_onwardFrom_0
  refine lb (rfl) (fun v1 => ?_)
  refine lb (rI_put hx3) (fun v2 => ?_)
  refine lb (l_X6_behind hN hx2) (fun v3 => ?_)
  refine lb (rI_put hx3) (fun v4 => ?_)
  refine lb (l_X6_behind hN hx2) (fun v5 => ?_)
  refine li (fun _ => ?_) (fun _ => ?_)
  · exact l_X6_onwardFrom_44 hN  _ _ _
  · exact l_X6_onwardFrom_44 hN  _ _ _
noncomputable def g_X6_onwardFrom (N : Mem) (x0 : Int32) (x1 : Int32) (x2 : Nat) (nx3 : Nat) (x3 : Nat) (σ : ST) : Option (Int32) := g_X6_onwardFrom_0 N x0 x1 x2 nx3 x3 σ
theorem l_X6_onwardFrom {N : Mem} {B : Nat} (hN : HN N B) {x0 : Int32} {x1 : Int32} {x2 : Nat} {nx3 : Nat} {x3 : Nat} {σ : ST} (hx2 : isC 3 x2) (hx3 : isA nx3 x3) : f_X6_onwardFrom x0 x1 (B + x2) (B + x3) (put N B σ) = g_X6_onwardFrom N x0 x1 x2 nx3 x3 σ := by
  unfold f_X6_onwardFrom g_X6_onwardFrom
  exact lsm (l_X6_onwardFrom_0 hN _ _ _ _ _ _ hx2 hx3)
noncomputable def g_X6_placesInto_17 (N : Mem) (n0 : Nat) (k5 : Int32 → Nat → Nat → Nat → Int32 → Int32 → ST → Option (Int32)) (x0 : Int32) (x1 : Nat) (nx2 : Nat) (x2 : Nat) (x3 : Int32) (x4 : Int32) (x5 : Int32) (σ : ST) : Option (Int32) :=
  match n0 with
  | 0 => none
  | n + 1 =>
    if 10 ≤ x5 then
    (k5 x0 x1 nx2 x2 x3 (x4 + 1) σ)
    else
    ((g_X6_onwardFrom N x4 x5 x1 nx2 x2 σ).bind fun v1 =>
    if (v1 &&& x0) = 0 then
    (g_X6_placesInto_17 N n k5 x0 x1 nx2 x2 x3 x4 (x5 + 1) σ)
    else
    (g_X6_placesInto_17 N n k5 x0 x1 nx2 x2 (x3 ||| (jshl 1 x4)) x4 (x5 + 1) σ))
set_option maxHeartbeats 4000000 in
theorem l_X6_placesInto_17 {N : Mem} {B : Nat} (hN : HN N B) {fk5 : Int32 → Nat → Nat → Int32 → Int32 → Mem → Option (Int32)} {k5 : Int32 → Nat → Nat → Nat → Int32 → Int32 → ST → Option (Int32)} (hk5 : ∀ (x0 : Int32) (x1 : Nat) (nx2 : Nat) (x2 : Nat) (x3 : Int32) (x4 : Int32) (σ : ST), isC 3 x1 → isA nx2 x2 → fk5 x0 (B + x1) (B + x2) x3 x4 (put N B σ) = (k5 x0 x1 nx2 x2 x3 x4 σ).bind some) : ∀ (n : Nat) (x0 : Int32) (x1 : Nat) (nx2 : Nat) (x2 : Nat) (x3 : Int32) (x4 : Int32) (x5 : Int32) (σ : ST), isC 3 x1 → isA nx2 x2 → f_X6_placesInto_17 n fk5 x0 (B + x1) (B + x2) x3 x4 x5 (put N B σ) = (g_X6_placesInto_17 N n k5 x0 x1 nx2 x2 x3 x4 x5 σ).bind some := by
  intro n
  induction n with
  | zero =>
    intro x0 x1 nx2 x2 x3 x4 x5 σ hx1 hx2
    rfl
  | succ n ih =>
    intro x0 x1 nx2 x2 x3 x4 x5 σ hx1 hx2
    unfold f_X6_placesInto_17 g_X6_placesInto_17
    refine li (fun _ => ?_) (fun _ => ?_)
    · exact hk5 _ _ _ _ _ _ _ hx1 hx2
    · refine lb (l_X6_onwardFrom hN hx1 hx2) (fun v1 => ?_)
      refine li (fun _ => ?_) (fun _ => ?_)
      · exact ih _ _ _ _ _ _ _ _ hx1 hx2
      · exact ih _ _ _ _ _ _ _ _ hx1 hx2
noncomputable def g_X6_placesInto_5 (N : Mem) (n0 : Nat) (x0 : Int32) (x1 : Nat) (nx2 : Nat) (x2 : Nat) (x3 : Int32) (x4 : Int32) (σ : ST) : Option (Int32) :=
  match n0 with
  | 0 => none
  | n + 1 =>
    if (σ.1 x1 1) < x4 then
    (some x3)
    else
    (g_X6_placesInto_17 N fu (g_X6_placesInto_5 N n) x0 x1 nx2 x2 x3 x4 0 σ)
set_option maxHeartbeats 4000000 in
theorem l_X6_placesInto_5 {N : Mem} {B : Nat} (hN : HN N B) : ∀ (n : Nat) (x0 : Int32) (x1 : Nat) (nx2 : Nat) (x2 : Nat) (x3 : Int32) (x4 : Int32) (σ : ST), isC 3 x1 → isA nx2 x2 → f_X6_placesInto_5 n x0 (B + x1) (B + x2) x3 x4 (put N B σ) = (g_X6_placesInto_5 N n x0 x1 nx2 x2 x3 x4 σ).bind some := by
  intro n
  induction n with
  | zero =>
    intro x0 x1 nx2 x2 x3 x4 σ hx1 hx2
    rfl
  | succ n ih =>
    intro x0 x1 nx2 x2 x3 x4 σ hx1 hx2
    unfold f_X6_placesInto_5 g_X6_placesInto_5
    refine lg (gI_3_1 hx1) ?_
    refine li (fun _ => ?_) (fun _ => ?_)
    · rfl
    · exact l_X6_placesInto_17 hN ih _ _ _ _ _ _ _ _ _ hx1 hx2
noncomputable def g_X6_placesInto_0 (N : Mem) (x0 : Int32) (x1 : Nat) (nx2 : Nat) (x2 : Nat) (σ : ST) : Option (Int32) :=
  g_X6_placesInto_5 N fu x0 x1 nx2 x2 0 0 σ
set_option maxHeartbeats 4000000 in
theorem l_X6_placesInto_0 {N : Mem} {B : Nat} (hN : HN N B) : ∀ (x0 : Int32) (x1 : Nat) (nx2 : Nat) (x2 : Nat) (σ : ST), isC 3 x1 → isA nx2 x2 → f_X6_placesInto_0 x0 (B + x1) (B + x2) (put N B σ) = (g_X6_placesInto_0 N x0 x1 nx2 x2 σ).bind some := by
  intro x0 x1 nx2 x2 σ hx1 hx2
  unfold f_X6_placesInto_0 g_X6_placesInto_0
  exact l_X6_placesInto_5 hN  _ _ _ _ _ _ _ _ hx1 hx2
noncomputable def g_X6_placesInto (N : Mem) (x0 : Int32) (x1 : Nat) (nx2 : Nat) (x2 : Nat) (σ : ST) : Option (Int32) := g_X6_placesInto_0 N x0 x1 nx2 x2 σ
theorem l_X6_placesInto {N : Mem} {B : Nat} (hN : HN N B) {x0 : Int32} {x1 : Nat} {nx2 : Nat} {x2 : Nat} {σ : ST} (hx1 : isC 3 x1) (hx2 : isA nx2 x2) : f_X6_placesInto x0 (B + x1) (B + x2) (put N B σ) = g_X6_placesInto N x0 x1 nx2 x2 σ := by
  unfold f_X6_placesInto g_X6_placesInto
  exact lsm (l_X6_placesInto_0 hN _ _ _ _ _ hx1 hx2)
noncomputable def g_X6_onward_6 (N : Mem) (n0 : Nat) (x0 : Int32) (x1 : Int32) (x2 : Nat) (nx3 : Nat) (x3 : Nat) (x4 : Int32) (x5 : Int32) (σ : ST) : Option (Int32) :=
  match n0 with
  | 0 => none
  | n + 1 =>
    if (σ.1 x2 1) < x5 then
    (some x4)
    else
    (if ((jshr x0 x5) &&& 1) = 1 then
    ((g_X6_onwardFrom N x5 x1 x2 nx3 x3 σ).bind fun v1 =>
    g_X6_onward_6 N n x0 x1 x2 nx3 x3 (x4 ||| v1) (x5 + 1) σ)
    else
    (g_X6_onward_6 N n x0 x1 x2 nx3 x3 x4 (x5 + 1) σ))
set_option maxHeartbeats 4000000 in
theorem l_X6_onward_6 {N : Mem} {B : Nat} (hN : HN N B) : ∀ (n : Nat) (x0 : Int32) (x1 : Int32) (x2 : Nat) (nx3 : Nat) (x3 : Nat) (x4 : Int32) (x5 : Int32) (σ : ST), isC 3 x2 → isA nx3 x3 → f_X6_onward_6 n x0 x1 (B + x2) (B + x3) x4 x5 (put N B σ) = (g_X6_onward_6 N n x0 x1 x2 nx3 x3 x4 x5 σ).bind some := by
  intro n
  induction n with
  | zero =>
    intro x0 x1 x2 nx3 x3 x4 x5 σ hx2 hx3
    rfl
  | succ n ih =>
    intro x0 x1 x2 nx3 x3 x4 x5 σ hx2 hx3
    unfold f_X6_onward_6 g_X6_onward_6
    refine lg (gI_3_1 hx2) ?_
    refine li (fun _ => ?_) (fun _ => ?_)
    · rfl
    · refine li (fun _ => ?_) (fun _ => ?_)
      · refine lb (l_X6_onwardFrom hN hx2 hx3) (fun v1 => ?_)
        exact ih _ _ _ _ _ _ _ _ hx2 hx3
      · exact ih _ _ _ _ _ _ _ _ hx2 hx3
noncomputable def g_X6_onward_0 (N : Mem) (x0 : Int32) (x1 : Int32) (x2 : Nat) (nx3 : Nat) (x3 : Nat) (σ : ST) : Option (Int32) :=
  g_X6_onward_6 N fu x0 x1 x2 nx3 x3 0 0 σ
set_option maxHeartbeats 4000000 in
theorem l_X6_onward_0 {N : Mem} {B : Nat} (hN : HN N B) : ∀ (x0 : Int32) (x1 : Int32) (x2 : Nat) (nx3 : Nat) (x3 : Nat) (σ : ST), isC 3 x2 → isA nx3 x3 → f_X6_onward_0 x0 x1 (B + x2) (B + x3) (put N B σ) = (g_X6_onward_0 N x0 x1 x2 nx3 x3 σ).bind some := by
  intro x0 x1 x2 nx3 x3 σ hx2 hx3
  unfold f_X6_onward_0 g_X6_onward_0
  exact l_X6_onward_6 hN  _ _ _ _ _ _ _ _ _ hx2 hx3
noncomputable def g_X6_onward (N : Mem) (x0 : Int32) (x1 : Int32) (x2 : Nat) (nx3 : Nat) (x3 : Nat) (σ : ST) : Option (Int32) := g_X6_onward_0 N x0 x1 x2 nx3 x3 σ
theorem l_X6_onward {N : Mem} {B : Nat} (hN : HN N B) {x0 : Int32} {x1 : Int32} {x2 : Nat} {nx3 : Nat} {x3 : Nat} {σ : ST} (hx2 : isC 3 x2) (hx3 : isA nx3 x3) : f_X6_onward x0 x1 (B + x2) (B + x3) (put N B σ) = g_X6_onward N x0 x1 x2 nx3 x3 σ := by
  unfold f_X6_onward g_X6_onward
  exact lsm (l_X6_onward_0 hN _ _ _ _ _ _ hx2 hx3)
noncomputable def g_X6_fewest_128 (N : Mem) (k87 : Nat → Nat → Nat → Nat → Int32 → Int32 → ST → Option (ST)) (x0 : Nat) (x1 : Nat) (nx2 : Nat) (x2 : Nat) (x4 : Int32) (x5 : Int32) (x6 : Int32) (σ : ST) : Option (ST) :=
  (g_X6_onward N x4 x6 x1 nx2 x2 σ).bind fun v1 =>
  (xI 13 σ (x0 + 5) x5).bind fun v2 =>
  (g_X3_append N (x0 + 1) x6 σ).bind fun r3 =>
  k87 x0 x1 nx2 x2 (v1 &&& v2) (x5 + (-1)) r3.2
set_option maxHeartbeats 4000000 in
theorem l_X6_fewest_128 {N : Mem} {B : Nat} (hN : HN N B) {fk87 : Nat → Nat → Nat → Int32 → Int32 → Mem → Option (Mem)} {k87 : Nat → Nat → Nat → Nat → Int32 → Int32 → ST → Option (ST)} (hk87 : ∀ (x0 : Nat) (x1 : Nat) (nx2 : Nat) (x2 : Nat) (x4 : Int32) (x5 : Int32) (σ : ST), isC 6 x0 → isC 3 x1 → isA nx2 x2 → fk87 (B + x0) (B + x1) (B + x2) x4 x5 (put N B σ) = (k87 x0 x1 nx2 x2 x4 x5 σ).bind (fun q => some (put N B q))) : ∀ (x0 : Nat) (x1 : Nat) (nx2 : Nat) (x2 : Nat) (x4 : Int32) (x5 : Int32) (x6 : Int32) (σ : ST), isC 6 x0 → isC 3 x1 → isA nx2 x2 → f_X6_fewest_128 fk87 (B + x0) (B + x1) (B + x2) x4 x5 x6 (put N B σ) = (g_X6_fewest_128 N k87 x0 x1 nx2 x2 x4 x5 x6 σ).bind (fun q => some (put N B q)) := by
  intro x0 x1 nx2 x2 x4 x5 x6 σ hx0 hx1 hx2
  unfold f_X6_fewest_128 g_X6_fewest_128
  refine lb (l_X6_onward hN hx1 hx2) (fun v1 => ?_)
  refine lg (gR_6_3 hx0) ?_
  refine lb (rI_put (sh_6_3 hx0)) (fun v2 => ?_)
  refine lg (gR_6_0 hx0) ?_
  refine lc (l_X3_append hN (sh_6_0 hx0)) (fun r3 => ?_)
  dsimp only
  exact hk87 _ _ _ _ _ _ _ hx0 hx1 hx2
noncomputable def g_X6_fewest_95 (N : Mem) (n0 : Nat) (k87 : Nat → Nat → Nat → Nat → Int32 → Int32 → ST → Option (ST)) (x0 : Nat) (x1 : Nat) (nx2 : Nat) (x2 : Nat) (x4 : Int32) (x5 : Int32) (x6 : Int32) (σ : ST) : Option (ST) :=
  match n0 with
  | 0 => none
  | n + 1 =>
    if 9 ≤ x6 then
    (g_X6_fewest_128 N k87 x0 x1 nx2 x2 x4 x5 x6 σ)
    else
    ((g_X6_onward N x4 x6 x1 nx2 x2 σ).bind fun v4 =>
    (xI 13 σ (x0 + 5) x5).bind fun v5 =>
    if (v4 &&& v5) = 0 then
    (g_X6_fewest_95 N n k87 x0 x1 nx2 x2 x4 x5 (x6 + 1) σ)
    else
    (g_X6_fewest_128 N k87 x0 x1 nx2 x2 x4 x5 x6 σ))
set_option maxHeartbeats 4000000 in
theorem l_X6_fewest_95 {N : Mem} {B : Nat} (hN : HN N B) {fk87 : Nat → Nat → Nat → Int32 → Int32 → Mem → Option (Mem)} {k87 : Nat → Nat → Nat → Nat → Int32 → Int32 → ST → Option (ST)} (hk87 : ∀ (x0 : Nat) (x1 : Nat) (nx2 : Nat) (x2 : Nat) (x4 : Int32) (x5 : Int32) (σ : ST), isC 6 x0 → isC 3 x1 → isA nx2 x2 → fk87 (B + x0) (B + x1) (B + x2) x4 x5 (put N B σ) = (k87 x0 x1 nx2 x2 x4 x5 σ).bind (fun q => some (put N B q))) : ∀ (n : Nat) (x0 : Nat) (x1 : Nat) (nx2 : Nat) (x2 : Nat) (x4 : Int32) (x5 : Int32) (x6 : Int32) (σ : ST), isC 6 x0 → isC 3 x1 → isA nx2 x2 → f_X6_fewest_95 n fk87 (B + x0) (B + x1) (B + x2) x4 x5 x6 (put N B σ) = (g_X6_fewest_95 N n k87 x0 x1 nx2 x2 x4 x5 x6 σ).bind (fun q => some (put N B q)) := by
  intro n
  induction n with
  | zero =>
    intro x0 x1 nx2 x2 x4 x5 x6 σ hx0 hx1 hx2
    rfl
  | succ n ih =>
    intro x0 x1 nx2 x2 x4 x5 x6 σ hx0 hx1 hx2
    unfold f_X6_fewest_95 g_X6_fewest_95
    refine li (fun _ => ?_) (fun _ => ?_)
    · exact l_X6_fewest_128 hN hk87 _ _ _ _ _ _ _ _ hx0 hx1 hx2
    · refine lb (l_X6_onward hN hx1 hx2) (fun v4 => ?_)
      refine lg (gR_6_3 hx0) ?_
      refine lb (rI_put (sh_6_3 hx0)) (fun v5 => ?_)
      refine li (fun _ => ?_) (fun _ => ?_)
      · exact ih _ _ _ _ _ _ _ _ hx0 hx1 hx2
      · exact l_X6_fewest_128 hN hk87 _ _ _ _ _ _ _ _ hx0 hx1 hx2
noncomputable def g_X6_fewest_87 (N : Mem) (n0 : Nat) (x0 : Nat) (x1 : Nat) (nx2 : Nat) (x2 : Nat) (x4 : Int32) (x5 : Int32) (σ : ST) : Option (ST) :=
  match n0 with
  | 0 => none
  | n + 1 =>
    if x5 < 0 then
    (some σ)
    else
    (g_X6_fewest_95 N fu (g_X6_fewest_87 N n) x0 x1 nx2 x2 x4 x5 0 σ)
set_option maxHeartbeats 4000000 in
theorem l_X6_fewest_87 {N : Mem} {B : Nat} (hN : HN N B) : ∀ (n : Nat) (x0 : Nat) (x1 : Nat) (nx2 : Nat) (x2 : Nat) (x4 : Int32) (x5 : Int32) (σ : ST), isC 6 x0 → isC 3 x1 → isA nx2 x2 → f_X6_fewest_87 n (B + x0) (B + x1) (B + x2) x4 x5 (put N B σ) = (g_X6_fewest_87 N n x0 x1 nx2 x2 x4 x5 σ).bind (fun q => some (put N B q)) := by
  intro n
  induction n with
  | zero =>
    intro x0 x1 nx2 x2 x4 x5 σ hx0 hx1 hx2
    rfl
  | succ n ih =>
    intro x0 x1 nx2 x2 x4 x5 σ hx0 hx1 hx2
    unfold f_X6_fewest_87 g_X6_fewest_87
    refine li (fun _ => ?_) (fun _ => ?_)
    · rfl
    · exact l_X6_fewest_95 hN ih _ _ _ _ _ _ _ _ _ hx0 hx1 hx2
noncomputable def g_X6_fewest_79 (N : Mem) (x0 : Nat) (x1 : Nat) (nx2 : Nat) (x2 : Nat) (x3 : Int32) (σ : ST) : Option (ST) :=
  g_X6_fewest_87 N fu x0 x1 nx2 x2 1 (x3 - 1) σ
set_option maxHeartbeats 4000000 in
theorem l_X6_fewest_79 {N : Mem} {B : Nat} (hN : HN N B) : ∀ (x0 : Nat) (x1 : Nat) (nx2 : Nat) (x2 : Nat) (x3 : Int32) (σ : ST), isC 6 x0 → isC 3 x1 → isA nx2 x2 → f_X6_fewest_79 (B + x0) (B + x1) (B + x2) x3 (put N B σ) = (g_X6_fewest_79 N x0 x1 nx2 x2 x3 σ).bind (fun q => some (put N B q)) := by
  intro x0 x1 nx2 x2 x3 σ hx0 hx1 hx2
  unfold f_X6_fewest_79 g_X6_fewest_79
  exact l_X6_fewest_87 hN  _ _ _ _ _ _ _ _ hx0 hx1 hx2
noncomputable def g_X6_fewest_25 (N : Mem) (n0 : Nat) (x0 : Nat) (x1 : Nat) (nx2 : Nat) (x2 : Nat) (x3 : Int32) (x4 : Int32) (σ : ST) : Option (ST) :=
  match n0 with
  | 0 => none
  | n + 1 =>
    if 12 < x4 then
    (g_X6_fewest_79 N x0 x1 nx2 x2 x3 σ)
    else
    (if x3 = 0 then
    ((xI 13 σ (x0 + 5) (x4 - 1)).bind fun v6 =>
    (g_X6_placesInto N v6 x1 nx2 x2 σ).bind fun v7 =>
    (yI 13 σ (x0 + 5) x4 v7).bind fun r8 =>
    (xI 13 r8 (x0 + 5) x4).bind fun v9 =>
    if (v9 &&& 1) = 1 then
    (g_X6_fewest_25 N n x0 x1 nx2 x2 x4 (x4 + 1) r8)
    else
    (g_X6_fewest_25 N n x0 x1 nx2 x2 x3 (x4 + 1) r8))
    else
    (g_X6_fewest_79 N x0 x1 nx2 x2 x3 σ))
set_option maxHeartbeats 4000000 in
theorem l_X6_fewest_25 {N : Mem} {B : Nat} (hN : HN N B) : ∀ (n : Nat) (x0 : Nat) (x1 : Nat) (nx2 : Nat) (x2 : Nat) (x3 : Int32) (x4 : Int32) (σ : ST), isC 6 x0 → isC 3 x1 → isA nx2 x2 → f_X6_fewest_25 n (B + x0) (B + x1) (B + x2) x3 x4 (put N B σ) = (g_X6_fewest_25 N n x0 x1 nx2 x2 x3 x4 σ).bind (fun q => some (put N B q)) := by
  intro n
  induction n with
  | zero =>
    intro x0 x1 nx2 x2 x3 x4 σ hx0 hx1 hx2
    rfl
  | succ n ih =>
    intro x0 x1 nx2 x2 x3 x4 σ hx0 hx1 hx2
    unfold f_X6_fewest_25 g_X6_fewest_25
    refine li (fun _ => ?_) (fun _ => ?_)
    · exact l_X6_fewest_79 hN  _ _ _ _ _ _ hx0 hx1 hx2
    · refine li (fun _ => ?_) (fun _ => ?_)
      · refine lg (gR_6_3 hx0) ?_
        refine lg (gR_6_3 hx0) ?_
        refine lb (rI_put (sh_6_3 hx0)) (fun v6 => ?_)
        refine lb (l_X6_placesInto hN hx1 hx2) (fun v7 => ?_)
        refine lm (wI_put (sh_6_3 hx0)) (fun r8 => ?_)
        refine lg (gR_6_3 hx0) ?_
        refine lb (rI_put (sh_6_3 hx0)) (fun v9 => ?_)
        refine li (fun _ => ?_) (fun _ => ?_)
        · exact ih _ _ _ _ _ _ _ hx0 hx1 hx2
        · exact ih _ _ _ _ _ _ _ hx0 hx1 hx2
      · exact l_X6_fewest_79 hN  _ _ _ _ _ _ hx0 hx1 hx2
noncomputable def g_X6_fewest_0 (N : Mem) (x0 : Nat) (x1 : Nat) (nx2 : Nat) (x2 : Nat) (σ : ST) : Option (ST) :=
  (some (setI σ (x0 + 1) 1 0)).bind fun r10 =>
  (yI 13 r10 (x0 + 5) 0 (jshl 1 (r10.1 x1 1))).bind fun r11 =>
  g_X6_fewest_25 N fu x0 x1 nx2 x2 0 1 r11
set_option maxHeartbeats 4000000 in
theorem l_X6_fewest_0 {N : Mem} {B : Nat} (hN : HN N B) : ∀ (x0 : Nat) (x1 : Nat) (nx2 : Nat) (x2 : Nat) (σ : ST), isC 6 x0 → isC 3 x1 → isA nx2 x2 → f_X6_fewest_0 (B + x0) (B + x1) (B + x2) (put N B σ) = (g_X6_fewest_0 N x0 x1 nx2 x2 σ).bind (fun q => some (put N B q)) := by
  intro x0 x1 nx2 x2 σ hx0 hx1 hx2
  unfold f_X6_fewest_0 g_X6_fewest_0
  refine lg (gR_6_0 hx0) ?_
  refine lp (pF_3_1 (sh_6_0 hx0)) (fun r10 => ?_)
  refine lg (gR_6_3 hx0) ?_
  refine lg (gI_3_1 hx1) ?_
  refine lm (wI_put (sh_6_3 hx0)) (fun r11 => ?_)
  exact l_X6_fewest_25 hN  _ _ _ _ _ _ _ _ hx0 hx1 hx2
noncomputable def g_X6_fewest (N : Mem) (x0 : Nat) (x1 : Nat) (nx2 : Nat) (x2 : Nat) (σ : ST) : Option (ST) := g_X6_fewest_0 N x0 x1 nx2 x2 σ
theorem l_X6_fewest {N : Mem} {B : Nat} (hN : HN N B) {x0 : Nat} {x1 : Nat} {nx2 : Nat} {x2 : Nat} {σ : ST} (hx0 : isC 6 x0) (hx1 : isC 3 x1) (hx2 : isA nx2 x2) : f_X6_fewest (B + x0) (B + x1) (B + x2) (put N B σ) = (g_X6_fewest N x0 x1 nx2 x2 σ).map (put N B) := by
  unfold f_X6_fewest g_X6_fewest
  rw [if_pos (isOb_put hx0)]
  exact lmap (l_X6_fewest_0 hN _ _ _ _ _ hx0 hx1 hx2)
noncomputable def g_X6_woven_146 (N : Mem) (k29 : Nat → Int32 → Int32 → Nat → Int32 → Int32 → Int32 → ST → Option (Int32 × ST)) (k39 : Nat → Int32 → Int32 → Nat → Int32 → Int32 → Int32 → Int32 → ST → Option (Int32 × ST)) (x0 : Nat) (x1 : Int32) (x2 : Int32) (x3 : Nat) (x4 : Int32) (x5 : Int32) (x6 : Int32) (x7 : Int32) (x8 : Int32) (σ : ST) : Option (Int32 × ST) :=
  (xG (x0 + 6) x6).bind fun w1 =>
  (yI 13 σ w1 x7 x8).bind fun r2 =>
  k39 x0 x1 x2 x3 x4 x5 x6 (x7 + 1) r2
set_option maxHeartbeats 4000000 in
theorem l_X6_woven_146 {N : Mem} {B : Nat} (hN : HN N B) {fk29 : Nat → Int32 → Int32 → Nat → Int32 → Int32 → Int32 → Mem → Option (Int32 × Mem)} {k29 : Nat → Int32 → Int32 → Nat → Int32 → Int32 → Int32 → ST → Option (Int32 × ST)} (hk29 : ∀ (x0 : Nat) (x1 : Int32) (x2 : Int32) (x3 : Nat) (x4 : Int32) (x5 : Int32) (x6 : Int32) (σ : ST), isC 6 x0 → isC 3 x3 → fk29 (B + x0) x1 x2 (B + x3) x4 x5 x6 (put N B σ) = (k29 x0 x1 x2 x3 x4 x5 x6 σ).bind (fun q => some (q.1, put N B q.2))) {fk39 : Nat → Int32 → Int32 → Nat → Int32 → Int32 → Int32 → Int32 → Mem → Option (Int32 × Mem)} {k39 : Nat → Int32 → Int32 → Nat → Int32 → Int32 → Int32 → Int32 → ST → Option (Int32 × ST)} (hk39 : ∀ (x0 : Nat) (x1 : Int32) (x2 : Int32) (x3 : Nat) (x4 : Int32) (x5 : Int32) (x6 : Int32) (x7 : Int32) (σ : ST), isC 6 x0 → isC 3 x3 → fk39 (B + x0) x1 x2 (B + x3) x4 x5 x6 x7 (put N B σ) = (k39 x0 x1 x2 x3 x4 x5 x6 x7 σ).bind (fun q => some (q.1, put N B q.2))) : ∀ (x0 : Nat) (x1 : Int32) (x2 : Int32) (x3 : Nat) (x4 : Int32) (x5 : Int32) (x6 : Int32) (x7 : Int32) (x8 : Int32) (σ : ST), isC 6 x0 → isC 3 x3 → f_X6_woven_146 fk29 fk39 (B + x0) x1 x2 (B + x3) x4 x5 x6 x7 x8 (put N B σ) = (g_X6_woven_146 N k29 k39 x0 x1 x2 x3 x4 x5 x6 x7 x8 σ).bind (fun q => some (q.1, put N B q.2)) := by
  intro x0 x1 x2 x3 x4 x5 x6 x7 x8 σ hx0 hx3
  unfold f_X6_woven_146 g_X6_woven_146
  refine lg (gR_6_4 hx0) ?_
  refine lr (rG_put (sh_6_4 hx0)) (fun w1 ew1 => ?_)
  refine lm (wI_put (xG_A (sh_6_4 hx0) ew1)) (fun r2 => ?_)
  exact hk39 _ _ _ _ _ _ _ _ _ hx0 hx3
noncomputable def g_X6_woven_111 (N : Mem) (k29 : Nat → Int32 → Int32 → Nat → Int32 → Int32 → Int32 → ST → Option (Int32 × ST)) (k39 : Nat → Int32 → Int32 → Nat → Int32 → Int32 → Int32 → Int32 → ST → Option (Int32 × ST)) (x0 : Nat) (x1 : Int32) (x2 : Int32) (x3 : Nat) (x4 : Int32) (x5 : Int32) (x6 : Int32) (x7 : Int32) (x8 : Int32) (x9 : Int32) (σ : ST) : Option (Int32 × ST) :=
  if x7 ≤ 0 then
  (g_X6_woven_146 N k29 k39 x0 x1 x2 x3 x4 x5 x6 x7 x8 σ)
  else
  ((f_X10_digitAt x2 (x7 - 1)).bind fun v3 =>
  if v3 = x9 then
  ((xG (x0 + 6) x6).bind fun w4 =>
  (xI 13 σ w4 (x7 - 1)).bind fun v5 =>
  g_X6_woven_146 N k29 k39 x0 x1 x2 x3 x4 x5 x6 x7 (x8 + v5) σ)
  else
  (g_X6_woven_146 N k29 k39 x0 x1 x2 x3 x4 x5 x6 x7 x8 σ))
set_option maxHeartbeats 4000000 in
theorem l_X6_woven_111 {N : Mem} {B : Nat} (hN : HN N B) {fk29 : Nat → Int32 → Int32 → Nat → Int32 → Int32 → Int32 → Mem → Option (Int32 × Mem)} {k29 : Nat → Int32 → Int32 → Nat → Int32 → Int32 → Int32 → ST → Option (Int32 × ST)} (hk29 : ∀ (x0 : Nat) (x1 : Int32) (x2 : Int32) (x3 : Nat) (x4 : Int32) (x5 : Int32) (x6 : Int32) (σ : ST), isC 6 x0 → isC 3 x3 → fk29 (B + x0) x1 x2 (B + x3) x4 x5 x6 (put N B σ) = (k29 x0 x1 x2 x3 x4 x5 x6 σ).bind (fun q => some (q.1, put N B q.2))) {fk39 : Nat → Int32 → Int32 → Nat → Int32 → Int32 → Int32 → Int32 → Mem → Option (Int32 × Mem)} {k39 : Nat → Int32 → Int32 → Nat → Int32 → Int32 → Int32 → Int32 → ST → Option (Int32 × ST)} (hk39 : ∀ (x0 : Nat) (x1 : Int32) (x2 : Int32) (x3 : Nat) (x4 : Int32) (x5 : Int32) (x6 : Int32) (x7 : Int32) (σ : ST), isC 6 x0 → isC 3 x3 → fk39 (B + x0) x1 x2 (B + x3) x4 x5 x6 x7 (put N B σ) = (k39 x0 x1 x2 x3 x4 x5 x6 x7 σ).bind (fun q => some (q.1, put N B q.2))) : ∀ (x0 : Nat) (x1 : Int32) (x2 : Int32) (x3 : Nat) (x4 : Int32) (x5 : Int32) (x6 : Int32) (x7 : Int32) (x8 : Int32) (x9 : Int32) (σ : ST), isC 6 x0 → isC 3 x3 → f_X6_woven_111 fk29 fk39 (B + x0) x1 x2 (B + x3) x4 x5 x6 x7 x8 x9 (put N B σ) = (g_X6_woven_111 N k29 k39 x0 x1 x2 x3 x4 x5 x6 x7 x8 x9 σ).bind (fun q => some (q.1, put N B q.2)) := by
  intro x0 x1 x2 x3 x4 x5 x6 x7 x8 x9 σ hx0 hx3
  unfold f_X6_woven_111 g_X6_woven_111
  refine li (fun _ => ?_) (fun _ => ?_)
  · exact l_X6_woven_146 hN hk29 hk39 _ _ _ _ _ _ _ _ _ _ hx0 hx3
  · refine lb (rfl) (fun v3 => ?_)
    refine li (fun _ => ?_) (fun _ => ?_)
    · refine lg (gR_6_4 hx0) ?_
      refine lr (rG_put (sh_6_4 hx0)) (fun w4 ew4 => ?_)
      refine lb (rI_put (xG_A (sh_6_4 hx0) ew4)) (fun v5 => ?_)
      exact l_X6_woven_146 hN hk29 hk39 _ _ _ _ _ _ _ _ _ _ hx0 hx3
    · exact l_X6_woven_146 hN hk29 hk39 _ _ _ _ _ _ _ _ _ _ hx0 hx3
noncomputable def g_X6_woven_61 (N : Mem) (k29 : Nat → Int32 → Int32 → Nat → Int32 → Int32 → Int32 → ST → Option (Int32 × ST)) (k39 : Nat → Int32 → Int32 → Nat → Int32 → Int32 → Int32 → Int32 → ST → Option (Int32 × ST)) (x0 : Nat) (x1 : Int32) (x2 : Int32) (x3 : Nat) (x4 : Int32) (x5 : Int32) (x6 : Int32) (x7 : Int32) (s0 : Bool) (σ : ST) : Option (Int32 × ST) :=
  (g_X3_get N x3 ((x6 + x7) - 1) σ).bind fun v6 =>
  if x6 ≤ 0 then
  (g_X6_woven_111 N k29 k39 x0 x1 x2 x3 x4 x5 x6 x7 (jz s0) v6 σ)
  else
  ((f_X10_digitAt x1 (x6 - 1)).bind fun v7 =>
  if v7 = v6 then
  ((xG (x0 + 6) (x6 - 1)).bind fun w8 =>
  (xI 13 σ w8 x7).bind fun v9 =>
  g_X6_woven_111 N k29 k39 x0 x1 x2 x3 x4 x5 x6 x7 ((jz s0) + v9) v6 σ)
  else
  (g_X6_woven_111 N k29 k39 x0 x1 x2 x3 x4 x5 x6 x7 (jz s0) v6 σ))
set_option maxHeartbeats 4000000 in
theorem l_X6_woven_61 {N : Mem} {B : Nat} (hN : HN N B) {fk29 : Nat → Int32 → Int32 → Nat → Int32 → Int32 → Int32 → Mem → Option (Int32 × Mem)} {k29 : Nat → Int32 → Int32 → Nat → Int32 → Int32 → Int32 → ST → Option (Int32 × ST)} (hk29 : ∀ (x0 : Nat) (x1 : Int32) (x2 : Int32) (x3 : Nat) (x4 : Int32) (x5 : Int32) (x6 : Int32) (σ : ST), isC 6 x0 → isC 3 x3 → fk29 (B + x0) x1 x2 (B + x3) x4 x5 x6 (put N B σ) = (k29 x0 x1 x2 x3 x4 x5 x6 σ).bind (fun q => some (q.1, put N B q.2))) {fk39 : Nat → Int32 → Int32 → Nat → Int32 → Int32 → Int32 → Int32 → Mem → Option (Int32 × Mem)} {k39 : Nat → Int32 → Int32 → Nat → Int32 → Int32 → Int32 → Int32 → ST → Option (Int32 × ST)} (hk39 : ∀ (x0 : Nat) (x1 : Int32) (x2 : Int32) (x3 : Nat) (x4 : Int32) (x5 : Int32) (x6 : Int32) (x7 : Int32) (σ : ST), isC 6 x0 → isC 3 x3 → fk39 (B + x0) x1 x2 (B + x3) x4 x5 x6 x7 (put N B σ) = (k39 x0 x1 x2 x3 x4 x5 x6 x7 σ).bind (fun q => some (q.1, put N B q.2))) : ∀ (x0 : Nat) (x1 : Int32) (x2 : Int32) (x3 : Nat) (x4 : Int32) (x5 : Int32) (x6 : Int32) (x7 : Int32) (s0 : Bool) (σ : ST), isC 6 x0 → isC 3 x3 → f_X6_woven_61 fk29 fk39 (B + x0) x1 x2 (B + x3) x4 x5 x6 x7 s0 (put N B σ) = (g_X6_woven_61 N k29 k39 x0 x1 x2 x3 x4 x5 x6 x7 s0 σ).bind (fun q => some (q.1, put N B q.2)) := by
  intro x0 x1 x2 x3 x4 x5 x6 x7 s0 σ hx0 hx3
  unfold f_X6_woven_61 g_X6_woven_61
  refine lb (l_X3_get hN hx3) (fun v6 => ?_)
  refine li (fun _ => ?_) (fun _ => ?_)
  · exact l_X6_woven_111 hN hk29 hk39 _ _ _ _ _ _ _ _ _ _ _ hx0 hx3
  · refine lb (rfl) (fun v7 => ?_)
    refine li (fun _ => ?_) (fun _ => ?_)
    · refine lg (gR_6_4 hx0) ?_
      refine lr (rG_put (sh_6_4 hx0)) (fun w8 ew8 => ?_)
      refine lb (rI_put (xG_A (sh_6_4 hx0) ew8)) (fun v9 => ?_)
      exact l_X6_woven_111 hN hk29 hk39 _ _ _ _ _ _ _ _ _ _ _ hx0 hx3
    · exact l_X6_woven_111 hN hk29 hk39 _ _ _ _ _ _ _ _ _ _ _ hx0 hx3
noncomputable def g_X6_woven_60 (N : Mem) (k29 : Nat → Int32 → Int32 → Nat → Int32 → Int32 → Int32 → ST → Option (Int32 × ST)) (k39 : Nat → Int32 → Int32 → Nat → Int32 → Int32 → Int32 → Int32 → ST → Option (Int32 × ST)) (x0 : Nat) (x1 : Int32) (x2 : Int32) (x3 : Nat) (x4 : Int32) (x5 : Int32) (x6 : Int32) (x7 : Int32) (σ : ST) : Option (Int32 × ST) :=
  g_X6_woven_61 N k29 k39 x0 x1 x2 x3 x4 x5 x6 x7 false σ
set_option maxHeartbeats 4000000 in
theorem l_X6_woven_60 {N : Mem} {B : Nat} (hN : HN N B) {fk29 : Nat → Int32 → Int32 → Nat → Int32 → Int32 → Int32 → Mem → Option (Int32 × Mem)} {k29 : Nat → Int32 → Int32 → Nat → Int32 → Int32 → Int32 → ST → Option (Int32 × ST)} (hk29 : ∀ (x0 : Nat) (x1 : Int32) (x2 : Int32) (x3 : Nat) (x4 : Int32) (x5 : Int32) (x6 : Int32) (σ : ST), isC 6 x0 → isC 3 x3 → fk29 (B + x0) x1 x2 (B + x3) x4 x5 x6 (put N B σ) = (k29 x0 x1 x2 x3 x4 x5 x6 σ).bind (fun q => some (q.1, put N B q.2))) {fk39 : Nat → Int32 → Int32 → Nat → Int32 → Int32 → Int32 → Int32 → Mem → Option (Int32 × Mem)} {k39 : Nat → Int32 → Int32 → Nat → Int32 → Int32 → Int32 → Int32 → ST → Option (Int32 × ST)} (hk39 : ∀ (x0 : Nat) (x1 : Int32) (x2 : Int32) (x3 : Nat) (x4 : Int32) (x5 : Int32) (x6 : Int32) (x7 : Int32) (σ : ST), isC 6 x0 → isC 3 x3 → fk39 (B + x0) x1 x2 (B + x3) x4 x5 x6 x7 (put N B σ) = (k39 x0 x1 x2 x3 x4 x5 x6 x7 σ).bind (fun q => some (q.1, put N B q.2))) : ∀ (x0 : Nat) (x1 : Int32) (x2 : Int32) (x3 : Nat) (x4 : Int32) (x5 : Int32) (x6 : Int32) (x7 : Int32) (σ : ST), isC 6 x0 → isC 3 x3 → f_X6_woven_60 fk29 fk39 (B + x0) x1 x2 (B + x3) x4 x5 x6 x7 (put N B σ) = (g_X6_woven_60 N k29 k39 x0 x1 x2 x3 x4 x5 x6 x7 σ).bind (fun q => some (q.1, put N B q.2)) := by
  intro x0 x1 x2 x3 x4 x5 x6 x7 σ hx0 hx3
  unfold f_X6_woven_60 g_X6_woven_60
  exact l_X6_woven_61 hN hk29 hk39 _ _ _ _ _ _ _ _ _ _ hx0 hx3
noncomputable def g_X6_woven_39 (N : Mem) (n0 : Nat) (k29 : Nat → Int32 → Int32 → Nat → Int32 → Int32 → Int32 → ST → Option (Int32 × ST)) (x0 : Nat) (x1 : Int32) (x2 : Int32) (x3 : Nat) (x4 : Int32) (x5 : Int32) (x6 : Int32) (x7 : Int32) (σ : ST) : Option (Int32 × ST) :=
  match n0 with
  | 0 => none
  | n + 1 =>
    if x5 < x7 then
    (k29 x0 x1 x2 x3 x4 x5 (x6 + 1) σ)
    else
    (if x6 = 0 then
    (if x7 = 0 then
    (g_X6_woven_61 N k29 (g_X6_woven_39 N n k29) x0 x1 x2 x3 x4 x5 x6 x7 true σ)
    else
    (g_X6_woven_60 N k29 (g_X6_woven_39 N n k29) x0 x1 x2 x3 x4 x5 x6 x7 σ))
    else
    (g_X6_woven_60 N k29 (g_X6_woven_39 N n k29) x0 x1 x2 x3 x4 x5 x6 x7 σ))
set_option maxHeartbeats 4000000 in
theorem l_X6_woven_39 {N : Mem} {B : Nat} (hN : HN N B) {fk29 : Nat → Int32 → Int32 → Nat → Int32 → Int32 → Int32 → Mem → Option (Int32 × Mem)} {k29 : Nat → Int32 → Int32 → Nat → Int32 → Int32 → Int32 → ST → Option (Int32 × ST)} (hk29 : ∀ (x0 : Nat) (x1 : Int32) (x2 : Int32) (x3 : Nat) (x4 : Int32) (x5 : Int32) (x6 : Int32) (σ : ST), isC 6 x0 → isC 3 x3 → fk29 (B + x0) x1 x2 (B + x3) x4 x5 x6 (put N B σ) = (k29 x0 x1 x2 x3 x4 x5 x6 σ).bind (fun q => some (q.1, put N B q.2))) : ∀ (n : Nat) (x0 : Nat) (x1 : Int32) (x2 : Int32) (x3 : Nat) (x4 : Int32) (x5 : Int32) (x6 : Int32) (x7 : Int32) (σ : ST), isC 6 x0 → isC 3 x3 → f_X6_woven_39 n fk29 (B + x0) x1 x2 (B + x3) x4 x5 x6 x7 (put N B σ) = (g_X6_woven_39 N n k29 x0 x1 x2 x3 x4 x5 x6 x7 σ).bind (fun q => some (q.1, put N B q.2)) := by
  intro n
  induction n with
  | zero =>
    intro x0 x1 x2 x3 x4 x5 x6 x7 σ hx0 hx3
    rfl
  | succ n ih =>
    intro x0 x1 x2 x3 x4 x5 x6 x7 σ hx0 hx3
    unfold f_X6_woven_39 g_X6_woven_39
    refine li (fun _ => ?_) (fun _ => ?_)
    · exact hk29 _ _ _ _ _ _ _ _ hx0 hx3
    · refine li (fun _ => ?_) (fun _ => ?_)
      · refine li (fun _ => ?_) (fun _ => ?_)
        · exact l_X6_woven_61 hN hk29 ih _ _ _ _ _ _ _ _ _ _ hx0 hx3
        · exact l_X6_woven_60 hN hk29 ih _ _ _ _ _ _ _ _ _ hx0 hx3
      · exact l_X6_woven_60 hN hk29 ih _ _ _ _ _ _ _ _ _ hx0 hx3
noncomputable def g_X6_woven_29 (N : Mem) (n0 : Nat) (x0 : Nat) (x1 : Int32) (x2 : Int32) (x3 : Nat) (x4 : Int32) (x5 : Int32) (x6 : Int32) (σ : ST) : Option (Int32 × ST) :=
  match n0 with
  | 0 => none
  | n + 1 =>
    if x4 < x6 then
    ((xG (x0 + 6) x4).bind fun w10 =>
    (xI 13 σ w10 x5).bind fun v11 =>
    some (v11, σ))
    else
    (g_X6_woven_39 N fu (g_X6_woven_29 N n) x0 x1 x2 x3 x4 x5 x6 0 σ)
set_option maxHeartbeats 4000000 in
theorem l_X6_woven_29 {N : Mem} {B : Nat} (hN : HN N B) : ∀ (n : Nat) (x0 : Nat) (x1 : Int32) (x2 : Int32) (x3 : Nat) (x4 : Int32) (x5 : Int32) (x6 : Int32) (σ : ST), isC 6 x0 → isC 3 x3 → f_X6_woven_29 n (B + x0) x1 x2 (B + x3) x4 x5 x6 (put N B σ) = (g_X6_woven_29 N n x0 x1 x2 x3 x4 x5 x6 σ).bind (fun q => some (q.1, put N B q.2)) := by
  intro n
  induction n with
  | zero =>
    intro x0 x1 x2 x3 x4 x5 x6 σ hx0 hx3
    rfl
  | succ n ih =>
    intro x0 x1 x2 x3 x4 x5 x6 σ hx0 hx3
    unfold f_X6_woven_29 g_X6_woven_29
    refine li (fun _ => ?_) (fun _ => ?_)
    · refine lg (gR_6_4 hx0) ?_
      refine lr (rG_put (sh_6_4 hx0)) (fun w10 ew10 => ?_)
      refine lb (rI_put (xG_A (sh_6_4 hx0) ew10)) (fun v11 => ?_)
      rfl
    · exact l_X6_woven_39 hN ih _ _ _ _ _ _ _ _ _ _ hx0 hx3
noncomputable def g_X6_woven_0 (N : Mem) (x0 : Nat) (x1 : Int32) (x2 : Int32) (x3 : Nat) (σ : ST) : Option (Int32 × ST) :=
  (f_X10_digitCount x1).bind fun v12 =>
  (f_X10_digitCount x2).bind fun v13 =>
  if (v12 + v13) = (σ.1 x3 1) then
  (g_X6_woven_29 N fu x0 x1 x2 x3 v12 v13 0 σ)
  else
  (some (0, σ))
set_option maxHeartbeats 4000000 in
theorem l_X6_woven_0 {N : Mem} {B : Nat} (hN : HN N B) : ∀ (x0 : Nat) (x1 : Int32) (x2 : Int32) (x3 : Nat) (σ : ST), isC 6 x0 → isC 3 x3 → f_X6_woven_0 (B + x0) x1 x2 (B + x3) (put N B σ) = (g_X6_woven_0 N x0 x1 x2 x3 σ).bind (fun q => some (q.1, put N B q.2)) := by
  intro x0 x1 x2 x3 σ hx0 hx3
  unfold f_X6_woven_0 g_X6_woven_0
  refine lb (rfl) (fun v12 => ?_)
  refine lb (rfl) (fun v13 => ?_)
  refine lg (gI_3_1 hx3) ?_
  refine li (fun _ => ?_) (fun _ => ?_)
  · exact l_X6_woven_29 hN  _ _ _ _ _ _ _ _ _ hx0 hx3
  · rfl
noncomputable def g_X6_woven (N : Mem) (x0 : Nat) (x1 : Int32) (x2 : Int32) (x3 : Nat) (σ : ST) : Option (Int32 × ST) := g_X6_woven_0 N x0 x1 x2 x3 σ
theorem l_X6_woven {N : Mem} {B : Nat} (hN : HN N B) {x0 : Nat} {x1 : Int32} {x2 : Int32} {x3 : Nat} {σ : ST} (hx0 : isC 6 x0) (hx3 : isC 3 x3) : f_X6_woven (B + x0) x1 x2 (B + x3) (put N B σ) = (g_X6_woven N x0 x1 x2 x3 σ).bind (fun q => some (q.1, put N B q.2)) := by
  unfold f_X6_woven g_X6_woven
  rw [if_pos (isOb_put hx0)]
  exact l_X6_woven_0 hN _ _ _ _ _ hx0 hx3
noncomputable def g_X6_next_2 (N : Mem) (n0 : Nat) (x0 : Nat) (x2 : Int32) (x3 : Int32) (σ : ST) : Option (Int32) :=
  match n0 with
  | 0 => none
  | n + 1 =>
    if (σ.1 x0 1) ≤ x3 then
    (some (-1))
    else
    ((g_X3_get N x0 x3 σ).bind fun v1 =>
    if v1 = x2 then
    (some x3)
    else
    (g_X6_next_2 N n x0 x2 (x3 + 1) σ))
set_option maxHeartbeats 4000000 in
theorem l_X6_next_2 {N : Mem} {B : Nat} (hN : HN N B) : ∀ (n : Nat) (x0 : Nat) (x2 : Int32) (x3 : Int32) (σ : ST), isC 3 x0 → f_X6_next_2 n (B + x0) x2 x3 (put N B σ) = (g_X6_next_2 N n x0 x2 x3 σ).bind some := by
  intro n
  induction n with
  | zero =>
    intro x0 x2 x3 σ hx0
    rfl
  | succ n ih =>
    intro x0 x2 x3 σ hx0
    unfold f_X6_next_2 g_X6_next_2
    refine lg (gI_3_1 hx0) ?_
    refine li (fun _ => ?_) (fun _ => ?_)
    · rfl
    · refine lb (l_X3_get hN hx0) (fun v1 => ?_)
      refine li (fun _ => ?_) (fun _ => ?_)
      · rfl
      · exact ih _ _ _ _ hx0
noncomputable def g_X6_next_0 (N : Mem) (x0 : Nat) (x1 : Int32) (x2 : Int32) (σ : ST) : Option (Int32) :=
  g_X6_next_2 N fu x0 x2 x1 σ
set_option maxHeartbeats 4000000 in
theorem l_X6_next_0 {N : Mem} {B : Nat} (hN : HN N B) : ∀ (x0 : Nat) (x1 : Int32) (x2 : Int32) (σ : ST), isC 3 x0 → f_X6_next_0 (B + x0) x1 x2 (put N B σ) = (g_X6_next_0 N x0 x1 x2 σ).bind some := by
  intro x0 x1 x2 σ hx0
  unfold f_X6_next_0 g_X6_next_0
  exact l_X6_next_2 hN  _ _ _ _ _ hx0
noncomputable def g_X6_next (N : Mem) (x0 : Nat) (x1 : Int32) (x2 : Int32) (σ : ST) : Option (Int32) := g_X6_next_0 N x0 x1 x2 σ
theorem l_X6_next {N : Mem} {B : Nat} (hN : HN N B) {x0 : Nat} {x1 : Int32} {x2 : Int32} {σ : ST} (hx0 : isC 3 x0) : f_X6_next (B + x0) x1 x2 (put N B σ) = g_X6_next N x0 x1 x2 σ := by
  unfold f_X6_next g_X6_next
  exact lsm (l_X6_next_0 hN _ _ _ _ hx0)
noncomputable def g_X6_longBehind_0 (N : Mem) (x0 : Nat) (x1 : Int32) (x2 : Nat) (x3 : Int32) (x4 : Nat) (x5 : Int32) (σ : ST) : Option (Int32) :=
  (g_X6_next N x2 x3 x1 σ).bind fun v1 =>
  (g_X6_next N x4 x5 x1 σ).bind fun v2 =>
  if v1 < 0 then
  (some (-1))
  else
  (if 0 ≤ v2 then
  ((xG (x0 + 6) (v1 + 1)).bind fun w3 =>
  (xI 13 σ w3 (v2 + 1)).bind fun v4 =>
  some v4)
  else
  (some (-1)))
set_option maxHeartbeats 4000000 in
theorem l_X6_longBehind_0 {N : Mem} {B : Nat} (hN : HN N B) : ∀ (x0 : Nat) (x1 : Int32) (x2 : Nat) (x3 : Int32) (x4 : Nat) (x5 : Int32) (σ : ST), isC 6 x0 → isC 3 x2 → isC 3 x4 → f_X6_longBehind_0 (B + x0) x1 (B + x2) x3 (B + x4) x5 (put N B σ) = (g_X6_longBehind_0 N x0 x1 x2 x3 x4 x5 σ).bind some := by
  intro x0 x1 x2 x3 x4 x5 σ hx0 hx2 hx4
  unfold f_X6_longBehind_0 g_X6_longBehind_0
  refine lb (l_X6_next hN hx2) (fun v1 => ?_)
  refine lb (l_X6_next hN hx4) (fun v2 => ?_)
  refine li (fun _ => ?_) (fun _ => ?_)
  · rfl
  · refine li (fun _ => ?_) (fun _ => ?_)
    · refine lg (gR_6_4 hx0) ?_
      refine lr (rG_put (sh_6_4 hx0)) (fun w3 ew3 => ?_)
      refine lb (rI_put (xG_A (sh_6_4 hx0) ew3)) (fun v4 => ?_)
      rfl
    · rfl
noncomputable def g_X6_longBehind (N : Mem) (x0 : Nat) (x1 : Int32) (x2 : Nat) (x3 : Int32) (x4 : Nat) (x5 : Int32) (σ : ST) : Option (Int32) := g_X6_longBehind_0 N x0 x1 x2 x3 x4 x5 σ
theorem l_X6_longBehind {N : Mem} {B : Nat} (hN : HN N B) {x0 : Nat} {x1 : Int32} {x2 : Nat} {x3 : Int32} {x4 : Nat} {x5 : Int32} {σ : ST} (hx0 : isC 6 x0) (hx2 : isC 3 x2) (hx4 : isC 3 x4) : f_X6_longBehind (B + x0) x1 (B + x2) x3 (B + x4) x5 (put N B σ) = g_X6_longBehind N x0 x1 x2 x3 x4 x5 σ := by
  unfold f_X6_longBehind g_X6_longBehind
  rw [if_pos (isOb_put hx0)]
  exact lsm (l_X6_longBehind_0 hN _ _ _ _ _ _ _ hx0 hx2 hx4)
noncomputable def g_X6_longestInBoth_45 (N : Mem) (k13 : Nat → Nat → Nat → Int32 → ST → Option (ST)) (k23 : Nat → Nat → Nat → Int32 → Int32 → ST → Option (ST)) (x0 : Nat) (x1 : Nat) (x2 : Nat) (x3 : Int32) (x4 : Int32) (σ : ST) : Option (ST) :=
  (xG (x0 + 6) x3).bind fun w1 =>
  (yI 13 σ w1 x4 0).bind fun r2 =>
  k23 x0 x1 x2 x3 (x4 + (-1)) r2
set_option maxHeartbeats 4000000 in
theorem l_X6_longestInBoth_45 {N : Mem} {B : Nat} (hN : HN N B) {fk13 : Nat → Nat → Nat → Int32 → Mem → Option (Mem)} {k13 : Nat → Nat → Nat → Int32 → ST → Option (ST)} (hk13 : ∀ (x0 : Nat) (x1 : Nat) (x2 : Nat) (x3 : Int32) (σ : ST), isC 6 x0 → isC 3 x1 → isC 3 x2 → fk13 (B + x0) (B + x1) (B + x2) x3 (put N B σ) = (k13 x0 x1 x2 x3 σ).bind (fun q => some (put N B q))) {fk23 : Nat → Nat → Nat → Int32 → Int32 → Mem → Option (Mem)} {k23 : Nat → Nat → Nat → Int32 → Int32 → ST → Option (ST)} (hk23 : ∀ (x0 : Nat) (x1 : Nat) (x2 : Nat) (x3 : Int32) (x4 : Int32) (σ : ST), isC 6 x0 → isC 3 x1 → isC 3 x2 → fk23 (B + x0) (B + x1) (B + x2) x3 x4 (put N B σ) = (k23 x0 x1 x2 x3 x4 σ).bind (fun q => some (put N B q))) : ∀ (x0 : Nat) (x1 : Nat) (x2 : Nat) (x3 : Int32) (x4 : Int32) (σ : ST), isC 6 x0 → isC 3 x1 → isC 3 x2 → f_X6_longestInBoth_45 fk13 fk23 (B + x0) (B + x1) (B + x2) x3 x4 (put N B σ) = (g_X6_longestInBoth_45 N k13 k23 x0 x1 x2 x3 x4 σ).bind (fun q => some (put N B q)) := by
  intro x0 x1 x2 x3 x4 σ hx0 hx1 hx2
  unfold f_X6_longestInBoth_45 g_X6_longestInBoth_45
  refine lg (gR_6_4 hx0) ?_
  refine lr (rG_put (sh_6_4 hx0)) (fun w1 ew1 => ?_)
  refine lm (wI_put (xG_A (sh_6_4 hx0) ew1)) (fun r2 => ?_)
  exact hk23 _ _ _ _ _ _ hx0 hx1 hx2
noncomputable def g_X6_longestInBoth_23 (N : Mem) (n0 : Nat) (k13 : Nat → Nat → Nat → Int32 → ST → Option (ST)) (x0 : Nat) (x1 : Nat) (x2 : Nat) (x3 : Int32) (x4 : Int32) (σ : ST) : Option (ST) :=
  match n0 with
  | 0 => none
  | n + 1 =>
    if x4 < 0 then
    (k13 x0 x1 x2 (x3 + (-1)) σ)
    else
    (if x3 = (σ.1 x1 1) then
    (g_X6_longestInBoth_45 N k13 (g_X6_longestInBoth_23 N n k13) x0 x1 x2 x3 x4 σ)
    else
    (if x4 = (σ.1 x2 1) then
    (g_X6_longestInBoth_45 N k13 (g_X6_longestInBoth_23 N n k13) x0 x1 x2 x3 x4 σ)
    else
    ((g_X3_get N x1 x3 σ).bind fun v3 =>
    (g_X3_get N x2 x4 σ).bind fun v4 =>
    if v3 = v4 then
    ((xG (x0 + 6) x3).bind fun w11 =>
    (xG (x0 + 6) (x3 + 1)).bind fun w12 =>
    (xI 13 σ w12 (x4 + 1)).bind fun v13 =>
    (yI 13 σ w11 x4 (1 + v13)).bind fun r14 =>
    g_X6_longestInBoth_23 N n k13 x0 x1 x2 x3 (x4 + (-1)) r14)
    else
    ((xG (x0 + 6) x3).bind fun w5 =>
    (xG (x0 + 6) (x3 + 1)).bind fun w6 =>
    (xI 13 σ w6 x4).bind fun v7 =>
    (xG (x0 + 6) x3).bind fun w8 =>
    (xI 13 σ w8 (x4 + 1)).bind fun v9 =>
    (yI 13 σ w5 x4 (jmax v7 v9)).bind fun r10 =>
    g_X6_longestInBoth_23 N n k13 x0 x1 x2 x3 (x4 + (-1)) r10))))
set_option maxHeartbeats 4000000 in
theorem l_X6_longestInBoth_23 {N : Mem} {B : Nat} (hN : HN N B) {fk13 : Nat → Nat → Nat → Int32 → Mem → Option (Mem)} {k13 : Nat → Nat → Nat → Int32 → ST → Option (ST)} (hk13 : ∀ (x0 : Nat) (x1 : Nat) (x2 : Nat) (x3 : Int32) (σ : ST), isC 6 x0 → isC 3 x1 → isC 3 x2 → fk13 (B + x0) (B + x1) (B + x2) x3 (put N B σ) = (k13 x0 x1 x2 x3 σ).bind (fun q => some (put N B q))) : ∀ (n : Nat) (x0 : Nat) (x1 : Nat) (x2 : Nat) (x3 : Int32) (x4 : Int32) (σ : ST), isC 6 x0 → isC 3 x1 → isC 3 x2 → f_X6_longestInBoth_23 n fk13 (B + x0) (B + x1) (B + x2) x3 x4 (put N B σ) = (g_X6_longestInBoth_23 N n k13 x0 x1 x2 x3 x4 σ).bind (fun q => some (put N B q)) := by
  intro n
  induction n with
  | zero =>
    intro x0 x1 x2 x3 x4 σ hx0 hx1 hx2
    rfl
  | succ n ih =>
    intro x0 x1 x2 x3 x4 σ hx0 hx1 hx2
    unfold f_X6_longestInBoth_23 g_X6_longestInBoth_23
    refine li (fun _ => ?_) (fun _ => ?_)
    · exact hk13 _ _ _ _ _ hx0 hx1 hx2
    · refine lg (gI_3_1 hx1) ?_
      refine li (fun _ => ?_) (fun _ => ?_)
      · exact l_X6_longestInBoth_45 hN hk13 ih _ _ _ _ _ _ hx0 hx1 hx2
      · refine lg (gI_3_1 hx2) ?_
        refine li (fun _ => ?_) (fun _ => ?_)
        · exact l_X6_longestInBoth_45 hN hk13 ih _ _ _ _ _ _ hx0 hx1 hx2
        · refine lb (l_X3_get hN hx1) (fun v3 => ?_)
          refine lb (l_X3_get hN hx2) (fun v4 => ?_)
          refine li (fun _ => ?_) (fun _ => ?_)
          · refine lg (gR_6_4 hx0) ?_
            refine lr (rG_put (sh_6_4 hx0)) (fun w11 ew11 => ?_)
            refine lg (gR_6_4 hx0) ?_
            refine lr (rG_put (sh_6_4 hx0)) (fun w12 ew12 => ?_)
            refine lb (rI_put (xG_A (sh_6_4 hx0) ew12)) (fun v13 => ?_)
            refine lm (wI_put (xG_A (sh_6_4 hx0) ew11)) (fun r14 => ?_)
            exact ih _ _ _ _ _ _ hx0 hx1 hx2
          · refine lg (gR_6_4 hx0) ?_
            refine lr (rG_put (sh_6_4 hx0)) (fun w5 ew5 => ?_)
            refine lg (gR_6_4 hx0) ?_
            refine lr (rG_put (sh_6_4 hx0)) (fun w6 ew6 => ?_)
            refine lb (rI_put (xG_A (sh_6_4 hx0) ew6)) (fun v7 => ?_)
            refine lg (gR_6_4 hx0) ?_
            refine lr (rG_put (sh_6_4 hx0)) (fun w8 ew8 => ?_)
            refine lb (rI_put (xG_A (sh_6_4 hx0) ew8)) (fun v9 => ?_)
            refine lm (wI_put (xG_A (sh_6_4 hx0) ew5)) (fun r10 => ?_)
            exact ih _ _ _ _ _ _ hx0 hx1 hx2
noncomputable def g_X6_longestInBoth_199 (N : Mem) (k160 : Nat → Nat → Nat → Int32 → Int32 → Int32 → ST → Option (ST)) (x0 : Nat) (x1 : Nat) (x2 : Nat) (x3 : Int32) (x4 : Int32) (x5 : Int32) (x6 : Int32) (σ : ST) : Option (ST) :=
  (g_X3_append N (x0 + 1) x6 σ).bind fun r15 =>
  (g_X6_next N x1 x3 x6 r15.2).bind fun v16 =>
  (g_X6_next N x2 x4 x6 r15.2).bind fun v17 =>
  k160 x0 x1 x2 (v16 + 1) (v17 + 1) (x5 + (-1)) r15.2
set_option maxHeartbeats 4000000 in
theorem l_X6_longestInBoth_199 {N : Mem} {B : Nat} (hN : HN N B) {fk160 : Nat → Nat → Nat → Int32 → Int32 → Int32 → Mem → Option (Mem)} {k160 : Nat → Nat → Nat → Int32 → Int32 → Int32 → ST → Option (ST)} (hk160 : ∀ (x0 : Nat) (x1 : Nat) (x2 : Nat) (x3 : Int32) (x4 : Int32) (x5 : Int32) (σ : ST), isC 6 x0 → isC 3 x1 → isC 3 x2 → fk160 (B + x0) (B + x1) (B + x2) x3 x4 x5 (put N B σ) = (k160 x0 x1 x2 x3 x4 x5 σ).bind (fun q => some (put N B q))) : ∀ (x0 : Nat) (x1 : Nat) (x2 : Nat) (x3 : Int32) (x4 : Int32) (x5 : Int32) (x6 : Int32) (σ : ST), isC 6 x0 → isC 3 x1 → isC 3 x2 → f_X6_longestInBoth_199 fk160 (B + x0) (B + x1) (B + x2) x3 x4 x5 x6 (put N B σ) = (g_X6_longestInBoth_199 N k160 x0 x1 x2 x3 x4 x5 x6 σ).bind (fun q => some (put N B q)) := by
  intro x0 x1 x2 x3 x4 x5 x6 σ hx0 hx1 hx2
  unfold f_X6_longestInBoth_199 g_X6_longestInBoth_199
  refine lg (gR_6_0 hx0) ?_
  refine lc (l_X3_append hN (sh_6_0 hx0)) (fun r15 => ?_)
  dsimp only
  refine lb (l_X6_next hN hx1) (fun v16 => ?_)
  refine lb (l_X6_next hN hx2) (fun v17 => ?_)
  exact hk160 _ _ _ _ _ _ _ hx0 hx1 hx2
noncomputable def g_X6_longestInBoth_168 (N : Mem) (n0 : Nat) (k160 : Nat → Nat → Nat → Int32 → Int32 → Int32 → ST → Option (ST)) (x0 : Nat) (x1 : Nat) (x2 : Nat) (x3 : Int32) (x4 : Int32) (x5 : Int32) (x6 : Int32) (σ : ST) : Option (ST) :=
  match n0 with
  | 0 => none
  | n + 1 =>
    if 9 ≤ x6 then
    (g_X6_longestInBoth_199 N k160 x0 x1 x2 x3 x4 x5 x6 σ)
    else
    ((g_X6_longBehind N x0 x6 x1 x3 x2 x4 σ).bind fun v18 =>
    if (x5 - 1) ≤ v18 then
    (g_X6_longestInBoth_199 N k160 x0 x1 x2 x3 x4 x5 x6 σ)
    else
    (g_X6_longestInBoth_168 N n k160 x0 x1 x2 x3 x4 x5 (x6 + 1) σ))
set_option maxHeartbeats 4000000 in
theorem l_X6_longestInBoth_168 {N : Mem} {B : Nat} (hN : HN N B) {fk160 : Nat → Nat → Nat → Int32 → Int32 → Int32 → Mem → Option (Mem)} {k160 : Nat → Nat → Nat → Int32 → Int32 → Int32 → ST → Option (ST)} (hk160 : ∀ (x0 : Nat) (x1 : Nat) (x2 : Nat) (x3 : Int32) (x4 : Int32) (x5 : Int32) (σ : ST), isC 6 x0 → isC 3 x1 → isC 3 x2 → fk160 (B + x0) (B + x1) (B + x2) x3 x4 x5 (put N B σ) = (k160 x0 x1 x2 x3 x4 x5 σ).bind (fun q => some (put N B q))) : ∀ (n : Nat) (x0 : Nat) (x1 : Nat) (x2 : Nat) (x3 : Int32) (x4 : Int32) (x5 : Int32) (x6 : Int32) (σ : ST), isC 6 x0 → isC 3 x1 → isC 3 x2 → f_X6_longestInBoth_168 n fk160 (B + x0) (B + x1) (B + x2) x3 x4 x5 x6 (put N B σ) = (g_X6_longestInBoth_168 N n k160 x0 x1 x2 x3 x4 x5 x6 σ).bind (fun q => some (put N B q)) := by
  intro n
  induction n with
  | zero =>
    intro x0 x1 x2 x3 x4 x5 x6 σ hx0 hx1 hx2
    rfl
  | succ n ih =>
    intro x0 x1 x2 x3 x4 x5 x6 σ hx0 hx1 hx2
    unfold f_X6_longestInBoth_168 g_X6_longestInBoth_168
    refine li (fun _ => ?_) (fun _ => ?_)
    · exact l_X6_longestInBoth_199 hN hk160 _ _ _ _ _ _ _ _ hx0 hx1 hx2
    · refine lb (l_X6_longBehind hN hx0 hx1 hx2) (fun v18 => ?_)
      refine li (fun _ => ?_) (fun _ => ?_)
      · exact l_X6_longestInBoth_199 hN hk160 _ _ _ _ _ _ _ _ hx0 hx1 hx2
      · exact ih _ _ _ _ _ _ _ _ hx0 hx1 hx2
noncomputable def g_X6_longestInBoth_160 (N : Mem) (n0 : Nat) (x0 : Nat) (x1 : Nat) (x2 : Nat) (x3 : Int32) (x4 : Int32) (x5 : Int32) (σ : ST) : Option (ST) :=
  match n0 with
  | 0 => none
  | n + 1 =>
    if x5 ≤ 0 then
    (some σ)
    else
    (g_X6_longestInBoth_168 N fu (g_X6_longestInBoth_160 N n) x0 x1 x2 x3 x4 x5 0 σ)
set_option maxHeartbeats 4000000 in
theorem l_X6_longestInBoth_160 {N : Mem} {B : Nat} (hN : HN N B) : ∀ (n : Nat) (x0 : Nat) (x1 : Nat) (x2 : Nat) (x3 : Int32) (x4 : Int32) (x5 : Int32) (σ : ST), isC 6 x0 → isC 3 x1 → isC 3 x2 → f_X6_longestInBoth_160 n (B + x0) (B + x1) (B + x2) x3 x4 x5 (put N B σ) = (g_X6_longestInBoth_160 N n x0 x1 x2 x3 x4 x5 σ).bind (fun q => some (put N B q)) := by
  intro n
  induction n with
  | zero =>
    intro x0 x1 x2 x3 x4 x5 σ hx0 hx1 hx2
    rfl
  | succ n ih =>
    intro x0 x1 x2 x3 x4 x5 σ hx0 hx1 hx2
    unfold f_X6_longestInBoth_160 g_X6_longestInBoth_160
    refine li (fun _ => ?_) (fun _ => ?_)
    · rfl
    · exact l_X6_longestInBoth_168 hN ih _ _ _ _ _ _ _ _ _ hx0 hx1 hx2
noncomputable def g_X6_longestInBoth_13 (N : Mem) (n0 : Nat) (x0 : Nat) (x1 : Nat) (x2 : Nat) (x3 : Int32) (σ : ST) : Option (ST) :=
  match n0 with
  | 0 => none
  | n + 1 =>
    if x3 < 0 then
    ((xG (x0 + 6) 0).bind fun w19 =>
    (xI 13 σ w19 0).bind fun v20 =>
    g_X6_longestInBoth_160 N fu x0 x1 x2 0 0 v20 σ)
    else
    (g_X6_longestInBoth_23 N fu (g_X6_longestInBoth_13 N n) x0 x1 x2 x3 (σ.1 x2 1) σ)
set_option maxHeartbeats 4000000 in
theorem l_X6_longestInBoth_13 {N : Mem} {B : Nat} (hN : HN N B) : ∀ (n : Nat) (x0 : Nat) (x1 : Nat) (x2 : Nat) (x3 : Int32) (σ : ST), isC 6 x0 → isC 3 x1 → isC 3 x2 → f_X6_longestInBoth_13 n (B + x0) (B + x1) (B + x2) x3 (put N B σ) = (g_X6_longestInBoth_13 N n x0 x1 x2 x3 σ).bind (fun q => some (put N B q)) := by
  intro n
  induction n with
  | zero =>
    intro x0 x1 x2 x3 σ hx0 hx1 hx2
    rfl
  | succ n ih =>
    intro x0 x1 x2 x3 σ hx0 hx1 hx2
    unfold f_X6_longestInBoth_13 g_X6_longestInBoth_13
    refine li (fun _ => ?_) (fun _ => ?_)
    · refine lg (gR_6_4 hx0) ?_
      refine lr (rG_put (sh_6_4 hx0)) (fun w19 ew19 => ?_)
      refine lb (rI_put (xG_A (sh_6_4 hx0) ew19)) (fun v20 => ?_)
      exact l_X6_longestInBoth_160 hN  _ _ _ _ _ _ _ _ hx0 hx1 hx2
    · refine lg (gI_3_1 hx2) ?_
      exact l_X6_longestInBoth_23 hN ih _ _ _ _ _ _ _ hx0 hx1 hx2
noncomputable def g_X6_longestInBoth_0 (N : Mem) (x0 : Nat) (x1 : Nat) (x2 : Nat) (σ : ST) : Option (ST) :=
  (some (setI σ (x0 + 1) 1 0)).bind fun r21 =>
  g_X6_longestInBoth_13 N fu x0 x1 x2 (r21.1 x1 1) r21
set_option maxHeartbeats 4000000 in
theorem l_X6_longestInBoth_0 {N : Mem} {B : Nat} (hN : HN N B) : ∀ (x0 : Nat) (x1 : Nat) (x2 : Nat) (σ : ST), isC 6 x0 → isC 3 x1 → isC 3 x2 → f_X6_longestInBoth_0 (B + x0) (B + x1) (B + x2) (put N B σ) = (g_X6_longestInBoth_0 N x0 x1 x2 σ).bind (fun q => some (put N B q)) := by
  intro x0 x1 x2 σ hx0 hx1 hx2
  unfold f_X6_longestInBoth_0 g_X6_longestInBoth_0
  refine lg (gR_6_0 hx0) ?_
  refine lp (pF_3_1 (sh_6_0 hx0)) (fun r21 => ?_)
  refine lg (gI_3_1 hx1) ?_
  exact l_X6_longestInBoth_13 hN  _ _ _ _ _ _ hx0 hx1 hx2
noncomputable def g_X6_longestInBoth (N : Mem) (x0 : Nat) (x1 : Nat) (x2 : Nat) (σ : ST) : Option (ST) := g_X6_longestInBoth_0 N x0 x1 x2 σ
theorem l_X6_longestInBoth {N : Mem} {B : Nat} (hN : HN N B) {x0 : Nat} {x1 : Nat} {x2 : Nat} {σ : ST} (hx0 : isC 6 x0) (hx1 : isC 3 x1) (hx2 : isC 3 x2) : f_X6_longestInBoth (B + x0) (B + x1) (B + x2) (put N B σ) = (g_X6_longestInBoth N x0 x1 x2 σ).map (put N B) := by
  unfold f_X6_longestInBoth g_X6_longestInBoth
  rw [if_pos (isOb_put hx0)]
  exact lmap (l_X6_longestInBoth_0 hN _ _ _ _ hx0 hx1 hx2)
noncomputable def g_X6_distance_31 (N : Mem) (k2 : Nat → Nat → Nat → Int32 → ST → Option (Int32 × ST)) (k13 : Nat → Nat → Nat → Int32 → Int32 → ST → Option (Int32 × ST)) (x0 : Nat) (x1 : Nat) (x2 : Nat) (x3 : Int32) (x4 : Int32) (σ : ST) : Option (Int32 × ST) :=
  (xG (x0 + 6) x3).bind fun w1 =>
  (yI 13 σ w1 x4 (x3 + x4)).bind fun r2 =>
  k13 x0 x1 x2 x3 (x4 + 1) r2
set_option maxHeartbeats 4000000 in
theorem l_X6_distance_31 {N : Mem} {B : Nat} (hN : HN N B) {fk2 : Nat → Nat → Nat → Int32 → Mem → Option (Int32 × Mem)} {k2 : Nat → Nat → Nat → Int32 → ST → Option (Int32 × ST)} (hk2 : ∀ (x0 : Nat) (x1 : Nat) (x2 : Nat) (x3 : Int32) (σ : ST), isC 6 x0 → isC 3 x1 → isC 3 x2 → fk2 (B + x0) (B + x1) (B + x2) x3 (put N B σ) = (k2 x0 x1 x2 x3 σ).bind (fun q => some (q.1, put N B q.2))) {fk13 : Nat → Nat → Nat → Int32 → Int32 → Mem → Option (Int32 × Mem)} {k13 : Nat → Nat → Nat → Int32 → Int32 → ST → Option (Int32 × ST)} (hk13 : ∀ (x0 : Nat) (x1 : Nat) (x2 : Nat) (x3 : Int32) (x4 : Int32) (σ : ST), isC 6 x0 → isC 3 x1 → isC 3 x2 → fk13 (B + x0) (B + x1) (B + x2) x3 x4 (put N B σ) = (k13 x0 x1 x2 x3 x4 σ).bind (fun q => some (q.1, put N B q.2))) : ∀ (x0 : Nat) (x1 : Nat) (x2 : Nat) (x3 : Int32) (x4 : Int32) (σ : ST), isC 6 x0 → isC 3 x1 → isC 3 x2 → f_X6_distance_31 fk2 fk13 (B + x0) (B + x1) (B + x2) x3 x4 (put N B σ) = (g_X6_distance_31 N k2 k13 x0 x1 x2 x3 x4 σ).bind (fun q => some (q.1, put N B q.2)) := by
  intro x0 x1 x2 x3 x4 σ hx0 hx1 hx2
  unfold f_X6_distance_31 g_X6_distance_31
  refine lg (gR_6_4 hx0) ?_
  refine lr (rG_put (sh_6_4 hx0)) (fun w1 ew1 => ?_)
  refine lm (wI_put (xG_A (sh_6_4 hx0) ew1)) (fun r2 => ?_)
  exact hk13 _ _ _ _ _ _ hx0 hx1 hx2
noncomputable def g_X6_distance_83 (N : Mem) (k2 : Nat → Nat → Nat → Int32 → ST → Option (Int32 × ST)) (k13 : Nat → Nat → Nat → Int32 → Int32 → ST → Option (Int32 × ST)) (x0 : Nat) (x1 : Nat) (x2 : Nat) (x3 : Int32) (x4 : Int32) (s0 : Bool) (s1 : Int32) (σ : ST) : Option (Int32 × ST) :=
  (xG (x0 + 6) (x3 - 1)).bind fun w3 =>
  (xI 13 σ w3 x4).bind fun v4 =>
  (xG (x0 + 6) x3).bind fun w5 =>
  (xI 13 σ w5 (x4 - 1)).bind fun v6 =>
  (xG (x0 + 6) x3).bind fun w7 =>
  (yI 13 σ w7 x4 (jmin (s1 + (jz s0)) ((jmin v4 v6) + 1))).bind fun r8 =>
  k13 x0 x1 x2 x3 (x4 + 1) r8
set_option maxHeartbeats 4000000 in
theorem l_X6_distance_83 {N : Mem} {B : Nat} (hN : HN N B) {fk2 : Nat → Nat → Nat → Int32 → Mem → Option (Int32 × Mem)} {k2 : Nat → Nat → Nat → Int32 → ST → Option (Int32 × ST)} (hk2 : ∀ (x0 : Nat) (x1 : Nat) (x2 : Nat) (x3 : Int32) (σ : ST), isC 6 x0 → isC 3 x1 → isC 3 x2 → fk2 (B + x0) (B + x1) (B + x2) x3 (put N B σ) = (k2 x0 x1 x2 x3 σ).bind (fun q => some (q.1, put N B q.2))) {fk13 : Nat → Nat → Nat → Int32 → Int32 → Mem → Option (Int32 × Mem)} {k13 : Nat → Nat → Nat → Int32 → Int32 → ST → Option (Int32 × ST)} (hk13 : ∀ (x0 : Nat) (x1 : Nat) (x2 : Nat) (x3 : Int32) (x4 : Int32) (σ : ST), isC 6 x0 → isC 3 x1 → isC 3 x2 → fk13 (B + x0) (B + x1) (B + x2) x3 x4 (put N B σ) = (k13 x0 x1 x2 x3 x4 σ).bind (fun q => some (q.1, put N B q.2))) : ∀ (x0 : Nat) (x1 : Nat) (x2 : Nat) (x3 : Int32) (x4 : Int32) (s0 : Bool) (s1 : Int32) (σ : ST), isC 6 x0 → isC 3 x1 → isC 3 x2 → f_X6_distance_83 fk2 fk13 (B + x0) (B + x1) (B + x2) x3 x4 s0 s1 (put N B σ) = (g_X6_distance_83 N k2 k13 x0 x1 x2 x3 x4 s0 s1 σ).bind (fun q => some (q.1, put N B q.2)) := by
  intro x0 x1 x2 x3 x4 s0 s1 σ hx0 hx1 hx2
  unfold f_X6_distance_83 g_X6_distance_83
  refine lg (gR_6_4 hx0) ?_
  refine lr (rG_put (sh_6_4 hx0)) (fun w3 ew3 => ?_)
  refine lb (rI_put (xG_A (sh_6_4 hx0) ew3)) (fun v4 => ?_)
  refine lg (gR_6_4 hx0) ?_
  refine lr (rG_put (sh_6_4 hx0)) (fun w5 ew5 => ?_)
  refine lb (rI_put (xG_A (sh_6_4 hx0) ew5)) (fun v6 => ?_)
  refine lg (gR_6_4 hx0) ?_
  refine lr (rG_put (sh_6_4 hx0)) (fun w7 ew7 => ?_)
  refine lm (wI_put (xG_A (sh_6_4 hx0) ew7)) (fun r8 => ?_)
  exact hk13 _ _ _ _ _ _ hx0 hx1 hx2
noncomputable def g_X6_distance_13 (N : Mem) (n0 : Nat) (k2 : Nat → Nat → Nat → Int32 → ST → Option (Int32 × ST)) (x0 : Nat) (x1 : Nat) (x2 : Nat) (x3 : Int32) (x4 : Int32) (σ : ST) : Option (Int32 × ST) :=
  match n0 with
  | 0 => none
  | n + 1 =>
    if (σ.1 x2 1) < x4 then
    (k2 x0 x1 x2 (x3 + 1) σ)
    else
    (if x3 = 0 then
    (g_X6_distance_31 N k2 (g_X6_distance_13 N n k2) x0 x1 x2 x3 x4 σ)
    else
    (if x4 = 0 then
    (g_X6_distance_31 N k2 (g_X6_distance_13 N n k2) x0 x1 x2 x3 x4 σ)
    else
    ((xG (x0 + 6) (x3 - 1)).bind fun w9 =>
    (xI 13 σ w9 (x4 - 1)).bind fun v10 =>
    (g_X3_get N x1 (x3 - 1) σ).bind fun v11 =>
    (g_X3_get N x2 (x4 - 1) σ).bind fun v12 =>
    if v11 = v12 then
    (g_X6_distance_83 N k2 (g_X6_distance_13 N n k2) x0 x1 x2 x3 x4 false v10 σ)
    else
    (g_X6_distance_83 N k2 (g_X6_distance_13 N n k2) x0 x1 x2 x3 x4 true v10 σ))))
set_option maxHeartbeats 4000000 in
theorem l_X6_distance_13 {N : Mem} {B : Nat} (hN : HN N B) {fk2 : Nat → Nat → Nat → Int32 → Mem → Option (Int32 × Mem)} {k2 : Nat → Nat → Nat → Int32 → ST → Option (Int32 × ST)} (hk2 : ∀ (x0 : Nat) (x1 : Nat) (x2 : Nat) (x3 : Int32) (σ : ST), isC 6 x0 → isC 3 x1 → isC 3 x2 → fk2 (B + x0) (B + x1) (B + x2) x3 (put N B σ) = (k2 x0 x1 x2 x3 σ).bind (fun q => some (q.1, put N B q.2))) : ∀ (n : Nat) (x0 : Nat) (x1 : Nat) (x2 : Nat) (x3 : Int32) (x4 : Int32) (σ : ST), isC 6 x0 → isC 3 x1 → isC 3 x2 → f_X6_distance_13 n fk2 (B + x0) (B + x1) (B + x2) x3 x4 (put N B σ) = (g_X6_distance_13 N n k2 x0 x1 x2 x3 x4 σ).bind (fun q => some (q.1, put N B q.2)) := by
  intro n
  induction n with
  | zero =>
    intro x0 x1 x2 x3 x4 σ hx0 hx1 hx2
    rfl
  | succ n ih =>
    intro x0 x1 x2 x3 x4 σ hx0 hx1 hx2
    unfold f_X6_distance_13 g_X6_distance_13
    refine lg (gI_3_1 hx2) ?_
    refine li (fun _ => ?_) (fun _ => ?_)
    · exact hk2 _ _ _ _ _ hx0 hx1 hx2
    · refine li (fun _ => ?_) (fun _ => ?_)
      · exact l_X6_distance_31 hN hk2 ih _ _ _ _ _ _ hx0 hx1 hx2
      · refine li (fun _ => ?_) (fun _ => ?_)
        · exact l_X6_distance_31 hN hk2 ih _ _ _ _ _ _ hx0 hx1 hx2
        · refine lg (gR_6_4 hx0) ?_
          refine lr (rG_put (sh_6_4 hx0)) (fun w9 ew9 => ?_)
          refine lb (rI_put (xG_A (sh_6_4 hx0) ew9)) (fun v10 => ?_)
          refine lb (l_X3_get hN hx1) (fun v11 => ?_)
          refine lb (l_X3_get hN hx2) (fun v12 => ?_)
          refine li (fun _ => ?_) (fun _ => ?_)
          · exact l_X6_distance_83 hN hk2 ih _ _ _ _ _ _ _ _ hx0 hx1 hx2
          · exact l_X6_distance_83 hN hk2 ih _ _ _ _ _ _ _ _ hx0 hx1 hx2
noncomputable def g_X6_distance_2 (N : Mem) (n0 : Nat) (x0 : Nat) (x1 : Nat) (x2 : Nat) (x3 : Int32) (σ : ST) : Option (Int32 × ST) :=
  match n0 with
  | 0 => none
  | n + 1 =>
    if (σ.1 x1 1) < x3 then
    ((xG (x0 + 6) (σ.1 x1 1)).bind fun w13 =>
    (xI 13 σ w13 (σ.1 x2 1)).bind fun v14 =>
    some (v14, σ))
    else
    (g_X6_distance_13 N fu (g_X6_distance_2 N n) x0 x1 x2 x3 0 σ)
set_option maxHeartbeats 4000000 in
theorem l_X6_distance_2 {N : Mem} {B : Nat} (hN : HN N B) : ∀ (n : Nat) (x0 : Nat) (x1 : Nat) (x2 : Nat) (x3 : Int32) (σ : ST), isC 6 x0 → isC 3 x1 → isC 3 x2 → f_X6_distance_2 n (B + x0) (B + x1) (B + x2) x3 (put N B σ) = (g_X6_distance_2 N n x0 x1 x2 x3 σ).bind (fun q => some (q.1, put N B q.2)) := by
  intro n
  induction n with
  | zero =>
    intro x0 x1 x2 x3 σ hx0 hx1 hx2
    rfl
  | succ n ih =>
    intro x0 x1 x2 x3 σ hx0 hx1 hx2
    unfold f_X6_distance_2 g_X6_distance_2
    refine lg (gI_3_1 hx1) ?_
    refine li (fun _ => ?_) (fun _ => ?_)
    · refine lg (gR_6_4 hx0) ?_
      refine lg (gI_3_1 hx1) ?_
      refine lr (rG_put (sh_6_4 hx0)) (fun w13 ew13 => ?_)
      refine lg (gI_3_1 hx2) ?_
      refine lb (rI_put (xG_A (sh_6_4 hx0) ew13)) (fun v14 => ?_)
      rfl
    · exact l_X6_distance_13 hN ih _ _ _ _ _ _ _ hx0 hx1 hx2
noncomputable def g_X6_distance_0 (N : Mem) (x0 : Nat) (x1 : Nat) (x2 : Nat) (σ : ST) : Option (Int32 × ST) :=
  g_X6_distance_2 N fu x0 x1 x2 0 σ
set_option maxHeartbeats 4000000 in
theorem l_X6_distance_0 {N : Mem} {B : Nat} (hN : HN N B) : ∀ (x0 : Nat) (x1 : Nat) (x2 : Nat) (σ : ST), isC 6 x0 → isC 3 x1 → isC 3 x2 → f_X6_distance_0 (B + x0) (B + x1) (B + x2) (put N B σ) = (g_X6_distance_0 N x0 x1 x2 σ).bind (fun q => some (q.1, put N B q.2)) := by
  intro x0 x1 x2 σ hx0 hx1 hx2
  unfold f_X6_distance_0 g_X6_distance_0
  exact l_X6_distance_2 hN  _ _ _ _ _ _ hx0 hx1 hx2
noncomputable def g_X6_distance (N : Mem) (x0 : Nat) (x1 : Nat) (x2 : Nat) (σ : ST) : Option (Int32 × ST) := g_X6_distance_0 N x0 x1 x2 σ
theorem l_X6_distance {N : Mem} {B : Nat} (hN : HN N B) {x0 : Nat} {x1 : Nat} {x2 : Nat} {σ : ST} (hx0 : isC 6 x0) (hx1 : isC 3 x1) (hx2 : isC 3 x2) : f_X6_distance (B + x0) (B + x1) (B + x2) (put N B σ) = (g_X6_distance N x0 x1 x2 σ).bind (fun q => some (q.1, put N B q.2)) := by
  unfold f_X6_distance g_X6_distance
  rw [if_pos (isOb_put hx0)]
  exact l_X6_distance_0 hN _ _ _ _ hx0 hx1 hx2
noncomputable def g_X6_growOnce_10 (N : Mem) (n0 : Nat) (x0 : Nat) (nx1 : Nat) (x1 : Nat) (x2 : Int32) (σ : ST) : Option (ST) :=
  match n0 with
  | 0 => none
  | n + 1 =>
    if 10 ≤ x2 then
    ((zC 10 10 σ (x0 + 21) 0 (x0 + 20) 0 10).bind fun r1 =>
    some r1)
    else
    ((f_X10_ruleIndex x2 false).bind fun v2 =>
    (xI nx1 σ x1 v2).bind fun v3 =>
    (f_X10_within v3 11 110).bind fun v4 =>
    if v4 = false then
    ((f_X10_within v3 1 10).bind fun v5 =>
    if v5 = false then
    (g_X6_growOnce_10 N n x0 nx1 x1 (x2 + 1) σ)
    else
    ((xI 10 σ (x0 + 21) (v3 - 1)).bind fun v6 =>
    (xI 10 σ (x0 + 20) x2).bind fun v7 =>
    (yI 10 σ (x0 + 21) (v3 - 1) (v6 + v7)).bind fun r8 =>
    g_X6_growOnce_10 N n x0 nx1 x1 (x2 + 1) r8))
    else
    ((xI 10 σ (x0 + 21) ((v3 - 11) / 10)).bind fun v9 =>
    (xI 10 σ (x0 + 20) x2).bind fun v10 =>
    (yI 10 σ (x0 + 21) ((v3 - 11) / 10) (v9 + v10)).bind fun r11 =>
    (xI 10 r11 (x0 + 21) (jrem (v3 - 11) 10)).bind fun v12 =>
    (xI 10 r11 (x0 + 20) x2).bind fun v13 =>
    (yI 10 r11 (x0 + 21) (jrem (v3 - 11) 10) (v12 + v13)).bind fun r14 =>
    g_X6_growOnce_10 N n x0 nx1 x1 (x2 + 1) r14))
set_option maxHeartbeats 4000000 in
theorem l_X6_growOnce_10 {N : Mem} {B : Nat} (hN : HN N B) : ∀ (n : Nat) (x0 : Nat) (nx1 : Nat) (x1 : Nat) (x2 : Int32) (σ : ST), isC 6 x0 → isA nx1 x1 → f_X6_growOnce_10 n (B + x0) (B + x1) x2 (put N B σ) = (g_X6_growOnce_10 N n x0 nx1 x1 x2 σ).bind (fun q => some (put N B q)) := by
  intro n
  induction n with
  | zero =>
    intro x0 nx1 x1 x2 σ hx0 hx1
    rfl
  | succ n ih =>
    intro x0 nx1 x1 x2 σ hx0 hx1
    unfold f_X6_growOnce_10 g_X6_growOnce_10
    refine li (fun _ => ?_) (fun _ => ?_)
    · refine lg (gR_6_6 hx0) ?_
      refine lg (gR_6_5 hx0) ?_
      refine lm (cpI_put (sh_6_6 hx0) (sh_6_5 hx0)) (fun r1 => ?_)
      rfl
    · refine lb (rfl) (fun v2 => ?_)
      refine lb (rI_put hx1) (fun v3 => ?_)
      refine lb (rfl) (fun v4 => ?_)
      refine li (fun _ => ?_) (fun _ => ?_)
      · refine lb (rfl) (fun v5 => ?_)
        refine li (fun _ => ?_) (fun _ => ?_)
        · exact ih _ _ _ _ _ hx0 hx1
        · refine lg (gR_6_6 hx0) ?_
          refine lb (rI_put (sh_6_6 hx0)) (fun v6 => ?_)
          refine lg (gR_6_5 hx0) ?_
          refine lb (rI_put (sh_6_5 hx0)) (fun v7 => ?_)
          refine lm (wI_put (sh_6_6 hx0)) (fun r8 => ?_)
          exact ih _ _ _ _ _ hx0 hx1
      · refine lg (gR_6_6 hx0) ?_
        refine lb (rI_put (sh_6_6 hx0)) (fun v9 => ?_)
        refine lg (gR_6_5 hx0) ?_
        refine lb (rI_put (sh_6_5 hx0)) (fun v10 => ?_)
        refine lm (wI_put (sh_6_6 hx0)) (fun r11 => ?_)
        refine lg (gR_6_6 hx0) ?_
        refine lb (rI_put (sh_6_6 hx0)) (fun v12 => ?_)
        refine lg (gR_6_5 hx0) ?_
        refine lb (rI_put (sh_6_5 hx0)) (fun v13 => ?_)
        refine lm (wI_put (sh_6_6 hx0)) (fun r14 => ?_)
        exact ih _ _ _ _ _ hx0 hx1
noncomputable def g_X6_growOnce_0 (N : Mem) (x0 : Nat) (nx1 : Nat) (x1 : Nat) (σ : ST) : Option (ST) :=
  (g_fill 10 (x0 + 21) 0 σ).bind fun r15 =>
  g_X6_growOnce_10 N fu x0 nx1 x1 0 r15
set_option maxHeartbeats 4000000 in
theorem l_X6_growOnce_0 {N : Mem} {B : Nat} (hN : HN N B) : ∀ (x0 : Nat) (nx1 : Nat) (x1 : Nat) (σ : ST), isC 6 x0 → isA nx1 x1 → f_X6_growOnce_0 (B + x0) (B + x1) (put N B σ) = (g_X6_growOnce_0 N x0 nx1 x1 σ).bind (fun q => some (put N B q)) := by
  intro x0 nx1 x1 σ hx0 hx1
  unfold f_X6_growOnce_0 g_X6_growOnce_0
  refine lg (gR_6_6 hx0) ?_
  refine lm (l_fill (sh_6_6 hx0)) (fun r15 => ?_)
  exact l_X6_growOnce_10 hN  _ _ _ _ _ _ hx0 hx1
noncomputable def g_X6_growOnce (N : Mem) (x0 : Nat) (nx1 : Nat) (x1 : Nat) (σ : ST) : Option (ST) := g_X6_growOnce_0 N x0 nx1 x1 σ
theorem l_X6_growOnce {N : Mem} {B : Nat} (hN : HN N B) {x0 : Nat} {nx1 : Nat} {x1 : Nat} {σ : ST} (hx0 : isC 6 x0) (hx1 : isA nx1 x1) : f_X6_growOnce (B + x0) (B + x1) (put N B σ) = (g_X6_growOnce N x0 nx1 x1 σ).map (put N B) := by
  unfold f_X6_growOnce g_X6_growOnce
  rw [if_pos (isOb_put hx0)]
  exact lmap (l_X6_growOnce_0 hN _ _ _ _ hx0 hx1)
noncomputable def g_X6_grown_71 (N : Mem) (n0 : Nat) (x0 : Nat) (x5 : Int32) (x6 : Int32) (σ : ST) : Option (Int32 × ST) :=
  match n0 with
  | 0 => none
  | n + 1 =>
    if 10 ≤ x6 then
    (some ((jmin x5 9999), σ))
    else
    ((xI 10 σ (x0 + 20) x6).bind fun v1 =>
    g_X6_grown_71 N n x0 (x5 + v1) (x6 + 1) σ)
set_option maxHeartbeats 4000000 in
theorem l_X6_grown_71 {N : Mem} {B : Nat} (hN : HN N B) : ∀ (n : Nat) (x0 : Nat) (x5 : Int32) (x6 : Int32) (σ : ST), isC 6 x0 → f_X6_grown_71 n (B + x0) x5 x6 (put N B σ) = (g_X6_grown_71 N n x0 x5 x6 σ).bind (fun q => some (q.1, put N B q.2)) := by
  intro n
  induction n with
  | zero =>
    intro x0 x5 x6 σ hx0
    rfl
  | succ n ih =>
    intro x0 x5 x6 σ hx0
    unfold f_X6_grown_71 g_X6_grown_71
    refine li (fun _ => ?_) (fun _ => ?_)
    · rfl
    · refine lg (gR_6_5 hx0) ?_
      refine lb (rI_put (sh_6_5 hx0)) (fun v1 => ?_)
      exact ih _ _ _ _ hx0
noncomputable def g_X6_grown_48 (N : Mem) (n0 : Nat) (x0 : Nat) (x2 : Int32) (nx3 : Nat) (x3 : Nat) (x5 : Int32) (σ : ST) : Option (Int32 × ST) :=
  match n0 with
  | 0 => none
  | n + 1 =>
    if x2 ≤ x5 then
    (g_X6_grown_71 N fu x0 0 0 σ)
    else
    ((g_X6_growOnce N x0 nx3 x3 σ).bind fun r2 =>
    g_X6_grown_48 N n x0 x2 nx3 x3 (x5 + 1) r2)
set_option maxHeartbeats 4000000 in
theorem l_X6_grown_48 {N : Mem} {B : Nat} (hN : HN N B) : ∀ (n : Nat) (x0 : Nat) (x2 : Int32) (nx3 : Nat) (x3 : Nat) (x5 : Int32) (σ : ST), isC 6 x0 → isA nx3 x3 → f_X6_grown_48 n (B + x0) x2 (B + x3) x5 (put N B σ) = (g_X6_grown_48 N n x0 x2 nx3 x3 x5 σ).bind (fun q => some (q.1, put N B q.2)) := by
  intro n
  induction n with
  | zero =>
    intro x0 x2 nx3 x3 x5 σ hx0 hx3
    rfl
  | succ n ih =>
    intro x0 x2 nx3 x3 x5 σ hx0 hx3
    unfold f_X6_grown_48 g_X6_grown_48
    refine li (fun _ => ?_) (fun _ => ?_)
    · exact l_X6_grown_71 hN  _ _ _ _ _ hx0
    · refine lm (l_X6_growOnce hN hx0 hx3) (fun r2 => ?_)
      exact ih _ _ _ _ _ _ hx0 hx3
noncomputable def g_X6_grown_17 (N : Mem) (n0 : Nat) (x0 : Nat) (x1 : Int32) (x2 : Int32) (nx3 : Nat) (x3 : Nat) (x4 : Int32) (x5 : Int32) (σ : ST) : Option (Int32 × ST) :=
  match n0 with
  | 0 => none
  | n + 1 =>
    if x4 ≤ x5 then
    (g_X6_grown_48 N fu x0 x2 nx3 x3 0 σ)
    else
    ((f_X10_digitAt x1 x5).bind fun v3 =>
    (xI 10 σ (x0 + 20) v3).bind fun v4 =>
    (yI 10 σ (x0 + 20) v3 (v4 + 1)).bind fun r5 =>
    g_X6_grown_17 N n x0 x1 x2 nx3 x3 x4 (x5 + 1) r5)
set_option maxHeartbeats 4000000 in
theorem l_X6_grown_17 {N : Mem} {B : Nat} (hN : HN N B) : ∀ (n : Nat) (x0 : Nat) (x1 : Int32) (x2 : Int32) (nx3 : Nat) (x3 : Nat) (x4 : Int32) (x5 : Int32) (σ : ST), isC 6 x0 → isA nx3 x3 → f_X6_grown_17 n (B + x0) x1 x2 (B + x3) x4 x5 (put N B σ) = (g_X6_grown_17 N n x0 x1 x2 nx3 x3 x4 x5 σ).bind (fun q => some (q.1, put N B q.2)) := by
  intro n
  induction n with
  | zero =>
    intro x0 x1 x2 nx3 x3 x4 x5 σ hx0 hx3
    rfl
  | succ n ih =>
    intro x0 x1 x2 nx3 x3 x4 x5 σ hx0 hx3
    unfold f_X6_grown_17 g_X6_grown_17
    refine li (fun _ => ?_) (fun _ => ?_)
    · exact l_X6_grown_48 hN  _ _ _ _ _ _ _ hx0 hx3
    · refine lg (gR_6_5 hx0) ?_
      refine lb (rfl) (fun v3 => ?_)
      refine lb (rI_put (sh_6_5 hx0)) (fun v4 => ?_)
      refine lm (wI_put (sh_6_5 hx0)) (fun r5 => ?_)
      exact ih _ _ _ _ _ _ _ _ hx0 hx3
noncomputable def g_X6_grown_0 (N : Mem) (x0 : Nat) (x1 : Int32) (x2 : Int32) (nx3 : Nat) (x3 : Nat) (σ : ST) : Option (Int32 × ST) :=
  (g_fill 10 (x0 + 20) 0 σ).bind fun r6 =>
  (f_X10_digitCount x1).bind fun v7 =>
  g_X6_grown_17 N fu x0 x1 x2 nx3 x3 v7 0 r6
set_option maxHeartbeats 4000000 in
theorem l_X6_grown_0 {N : Mem} {B : Nat} (hN : HN N B) : ∀ (x0 : Nat) (x1 : Int32) (x2 : Int32) (nx3 : Nat) (x3 : Nat) (σ : ST), isC 6 x0 → isA nx3 x3 → f_X6_grown_0 (B + x0) x1 x2 (B + x3) (put N B σ) = (g_X6_grown_0 N x0 x1 x2 nx3 x3 σ).bind (fun q => some (q.1, put N B q.2)) := by
  intro x0 x1 x2 nx3 x3 σ hx0 hx3
  unfold f_X6_grown_0 g_X6_grown_0
  refine lg (gR_6_5 hx0) ?_
  refine lm (l_fill (sh_6_5 hx0)) (fun r6 => ?_)
  refine lb (rfl) (fun v7 => ?_)
  exact l_X6_grown_17 hN  _ _ _ _ _ _ _ _ _ hx0 hx3
noncomputable def g_X6_grown (N : Mem) (x0 : Nat) (x1 : Int32) (x2 : Int32) (nx3 : Nat) (x3 : Nat) (σ : ST) : Option (Int32 × ST) := g_X6_grown_0 N x0 x1 x2 nx3 x3 σ
theorem l_X6_grown {N : Mem} {B : Nat} (hN : HN N B) {x0 : Nat} {x1 : Int32} {x2 : Int32} {nx3 : Nat} {x3 : Nat} {σ : ST} (hx0 : isC 6 x0) (hx3 : isA nx3 x3) : f_X6_grown (B + x0) x1 x2 (B + x3) (put N B σ) = (g_X6_grown N x0 x1 x2 nx3 x3 σ).bind (fun q => some (q.1, put N B q.2)) := by
  unfold f_X6_grown g_X6_grown
  rw [if_pos (isOb_put hx0)]
  exact l_X6_grown_0 hN _ _ _ _ _ _ hx0 hx3
noncomputable def g_X7_append_3 (N : Mem) (n0 : Nat) (x0 : Nat) (x1 : Int32) (x2 : Int32) (σ : ST) : Option (ST) :=
  match n0 with
  | 0 => none
  | n + 1 =>
    if x2 < 0 then
    (some σ)
    else
    ((f_X10_within (σ.1 x0 1) 0 299).bind fun v1 =>
    if v1 = false then
    (g_X7_append_3 N n x0 x1 (x2 + (-8)) σ)
    else
    ((yI 300 σ (x0 + 1) (σ.1 x0 1) ((jushr x1 x2) &&& 255)).bind fun r2 =>
    (some (setI r2 x0 1 ((r2.1 x0 1) + 1))).bind fun r3 =>
    g_X7_append_3 N n x0 x1 (x2 + (-8)) r3))
set_option maxHeartbeats 4000000 in
theorem l_X7_append_3 {N : Mem} {B : Nat} (hN : HN N B) : ∀ (n : Nat) (x0 : Nat) (x1 : Int32) (x2 : Int32) (σ : ST), isC 7 x0 → f_X7_append_3 n (B + x0) x1 x2 (put N B σ) = (g_X7_append_3 N n x0 x1 x2 σ).bind (fun q => some (put N B q)) := by
  intro n
  induction n with
  | zero =>
    intro x0 x1 x2 σ hx0
    rfl
  | succ n ih =>
    intro x0 x1 x2 σ hx0
    unfold f_X7_append_3 g_X7_append_3
    refine li (fun _ => ?_) (fun _ => ?_)
    · rfl
    · refine lg (gI_7_1 hx0) ?_
      refine lb (rfl) (fun v1 => ?_)
      refine li (fun _ => ?_) (fun _ => ?_)
      · exact ih _ _ _ _ hx0
      · refine lg (gR_7_0 hx0) ?_
        refine lg (gI_7_1 hx0) ?_
        refine lm (wI_put (sh_7_0 hx0)) (fun r2 => ?_)
        refine lg (gI_7_1 hx0) ?_
        refine lp (pF_7_1 hx0) (fun r3 => ?_)
        exact ih _ _ _ _ hx0
noncomputable def g_X7_append_0 (N : Mem) (x0 : Nat) (x1 : Int32) (σ : ST) : Option (ST) :=
  g_X7_append_3 N fu x0 x1 24 σ
set_option maxHeartbeats 4000000 in
theorem l_X7_append_0 {N : Mem} {B : Nat} (hN : HN N B) : ∀ (x0 : Nat) (x1 : Int32) (σ : ST), isC 7 x0 → f_X7_append_0 (B + x0) x1 (put N B σ) = (g_X7_append_0 N x0 x1 σ).bind (fun q => some (put N B q)) := by
  intro x0 x1 σ hx0
  unfold f_X7_append_0 g_X7_append_0
  exact l_X7_append_3 hN  _ _ _ _ _ hx0
noncomputable def g_X7_append (N : Mem) (x0 : Nat) (x1 : Int32) (σ : ST) : Option (ST) := g_X7_append_0 N x0 x1 σ
theorem l_X7_append {N : Mem} {B : Nat} (hN : HN N B) {x0 : Nat} {x1 : Int32} {σ : ST} (hx0 : isC 7 x0) : f_X7_append (B + x0) x1 (put N B σ) = (g_X7_append N x0 x1 σ).map (put N B) := by
  unfold f_X7_append g_X7_append
  rw [if_pos (isOb_put hx0)]
  exact lmap (l_X7_append_0 hN _ _ _ hx0)
noncomputable def g_X9_install_0 (N : Mem) (x0 : Nat) (x1 : Int32) (x2 : Int32) (σ : ST) : Option (Int32 × ST) :=
  (f_X10_within (σ.1 x0 0) 0 4).bind fun v1 =>
  if v1 = true then
  ((yI 5 σ (x0 + 1) (σ.1 x0 0) x1).bind fun r2 =>
  (yI 5 r2 (x0 + 2) (r2.1 x0 0) x2).bind fun r3 =>
  (g_X9_setAsTold N x0 (r3.1 x0 0) r3).bind fun r4 =>
  (some (setI r4 x0 0 ((r4.1 x0 0) + 1))).bind fun r5 =>
  some (((r5.1 x0 0) - 1), r5))
  else
  (some ((-1), σ))
set_option maxHeartbeats 4000000 in
theorem l_X9_install_0 {N : Mem} {B : Nat} (hN : HN N B) : ∀ (x0 : Nat) (x1 : Int32) (x2 : Int32) (σ : ST), isC 9 x0 → f_X9_install_0 (B + x0) x1 x2 (put N B σ) = (g_X9_install_0 N x0 x1 x2 σ).bind (fun q => some (q.1, put N B q.2)) := by
  intro x0 x1 x2 σ hx0
  unfold f_X9_install_0 g_X9_install_0
  refine lg (gI_9_0 hx0) ?_
  refine lb (rfl) (fun v1 => ?_)
  refine li (fun _ => ?_) (fun _ => ?_)
  · refine lg (gR_9_4 hx0) ?_
    refine lg (gI_9_0 hx0) ?_
    refine lm (wI_put (sh_9_4 hx0)) (fun r2 => ?_)
    refine lg (gR_9_5 hx0) ?_
    refine lg (gI_9_0 hx0) ?_
    refine lm (wI_put (sh_9_5 hx0)) (fun r3 => ?_)
    refine lg (gI_9_0 hx0) ?_
    refine lm (l_X9_setAsTold hN hx0) (fun r4 => ?_)
    refine lg (gI_9_0 hx0) ?_
    refine lp (pF_9_0 hx0) (fun r5 => ?_)
    refine lg (gI_9_0 hx0) ?_
    rfl
  · rfl
noncomputable def g_X9_install (N : Mem) (x0 : Nat) (x1 : Int32) (x2 : Int32) (σ : ST) : Option (Int32 × ST) := g_X9_install_0 N x0 x1 x2 σ
theorem l_X9_install {N : Mem} {B : Nat} (hN : HN N B) {x0 : Nat} {x1 : Int32} {x2 : Int32} {σ : ST} (hx0 : isC 9 x0) : f_X9_install (B + x0) x1 x2 (put N B σ) = (g_X9_install N x0 x1 x2 σ).bind (fun q => some (q.1, put N B q.2)) := by
  unfold f_X9_install g_X9_install
  rw [if_pos (isOb_put hx0)]
  exact l_X9_install_0 hN _ _ _ _ hx0
noncomputable def g_X9_canTurn_0 (N : Mem) (x0 : Nat) (x1 : Int32) (σ : ST) : Option (Bool) :=
  (g_X9_has N x0 x1 σ).bind fun v1 =>
  if v1 = false then
  (some false)
  else
  ((xI 5 σ (x0 + 3) x1).bind fun v2 =>
  if 99 ≤ v2 then
  (some false)
  else
  (some true))
set_option maxHeartbeats 4000000 in
theorem l_X9_canTurn_0 {N : Mem} {B : Nat} (hN : HN N B) : ∀ (x0 : Nat) (x1 : Int32) (σ : ST), isC 9 x0 → f_X9_canTurn_0 (B + x0) x1 (put N B σ) = (g_X9_canTurn_0 N x0 x1 σ).bind some := by
  intro x0 x1 σ hx0
  unfold f_X9_canTurn_0 g_X9_canTurn_0
  refine lb (l_X9_has hN hx0) (fun v1 => ?_)
  refine li (fun _ => ?_) (fun _ => ?_)
  · rfl
  · refine lg (gR_9_6 hx0) ?_
    refine lb (rI_put (sh_9_6 hx0)) (fun v2 => ?_)
    refine li (fun _ => ?_) (fun _ => ?_)
    · rfl
    · rfl
noncomputable def g_X9_canTurn (N : Mem) (x0 : Nat) (x1 : Int32) (σ : ST) : Option (Bool) := g_X9_canTurn_0 N x0 x1 σ
theorem l_X9_canTurn {N : Mem} {B : Nat} (hN : HN N B) {x0 : Nat} {x1 : Int32} {σ : ST} (hx0 : isC 9 x0) : f_X9_canTurn (B + x0) x1 (put N B σ) = g_X9_canTurn N x0 x1 σ := by
  unfold f_X9_canTurn g_X9_canTurn
  rw [if_pos (isOb_put hx0)]
  exact lsm (l_X9_canTurn_0 hN _ _ _ hx0)
noncomputable def g_X9_turn_0 (N : Mem) (x0 : Nat) (x1 : Int32) (x2 : Int32) (σ : ST) : Option (ST) :=
  (xI 5 σ (x0 + 5) x1).bind fun v1 =>
  (yI 5 σ (x0 + 5) x1 (jrem (v1 + x2) 10000)).bind fun r2 =>
  (xI 5 r2 (x0 + 3) x1).bind fun v3 =>
  (yI 5 r2 (x0 + 3) x1 (v3 + 1)).bind fun r4 =>
  some r4
set_option maxHeartbeats 4000000 in
theorem l_X9_turn_0 {N : Mem} {B : Nat} (hN : HN N B) : ∀ (x0 : Nat) (x1 : Int32) (x2 : Int32) (σ : ST), isC 9 x0 → f_X9_turn_0 (B + x0) x1 x2 (put N B σ) = (g_X9_turn_0 N x0 x1 x2 σ).bind (fun q => some (put N B q)) := by
  intro x0 x1 x2 σ hx0
  unfold f_X9_turn_0 g_X9_turn_0
  refine lg (gR_9_8 hx0) ?_
  refine lg (gR_9_8 hx0) ?_
  refine lb (rI_put (sh_9_8 hx0)) (fun v1 => ?_)
  refine lm (wI_put (sh_9_8 hx0)) (fun r2 => ?_)
  refine lg (gR_9_6 hx0) ?_
  refine lb (rI_put (sh_9_6 hx0)) (fun v3 => ?_)
  refine lm (wI_put (sh_9_6 hx0)) (fun r4 => ?_)
  rfl
noncomputable def g_X9_turn (N : Mem) (x0 : Nat) (x1 : Int32) (x2 : Int32) (σ : ST) : Option (ST) := g_X9_turn_0 N x0 x1 x2 σ
theorem l_X9_turn {N : Mem} {B : Nat} (hN : HN N B) {x0 : Nat} {x1 : Int32} {x2 : Int32} {σ : ST} (hx0 : isC 9 x0) : f_X9_turn (B + x0) x1 x2 (put N B σ) = (g_X9_turn N x0 x1 x2 σ).map (put N B) := by
  unfold f_X9_turn g_X9_turn
  rw [if_pos (isOb_put hx0)]
  exact lmap (l_X9_turn_0 hN _ _ _ _ hx0)
noncomputable def g_X9_hasRoll_0 (N : Mem) (x0 : Nat) (x1 : Int32) (σ : ST) : Option (Bool) :=
  (g_X9_has N x0 x1 σ).bind fun v1 =>
  if v1 = false then
  (some false)
  else
  ((xI 5 σ (x0 + 6) x1).bind fun v2 =>
  if v2 ≤ 0 then
  (some false)
  else
  (some true))
set_option maxHeartbeats 4000000 in
theorem l_X9_hasRoll_0 {N : Mem} {B : Nat} (hN : HN N B) : ∀ (x0 : Nat) (x1 : Int32) (σ : ST), isC 9 x0 → f_X9_hasRoll_0 (B + x0) x1 (put N B σ) = (g_X9_hasRoll_0 N x0 x1 σ).bind some := by
  intro x0 x1 σ hx0
  unfold f_X9_hasRoll_0 g_X9_hasRoll_0
  refine lb (l_X9_has hN hx0) (fun v1 => ?_)
  refine li (fun _ => ?_) (fun _ => ?_)
  · rfl
  · refine lg (gR_9_9 hx0) ?_
    refine lb (rI_put (sh_9_9 hx0)) (fun v2 => ?_)
    refine li (fun _ => ?_) (fun _ => ?_)
    · rfl
    · rfl
noncomputable def g_X9_hasRoll (N : Mem) (x0 : Nat) (x1 : Int32) (σ : ST) : Option (Bool) := g_X9_hasRoll_0 N x0 x1 σ
theorem l_X9_hasRoll {N : Mem} {B : Nat} (hN : HN N B) {x0 : Nat} {x1 : Int32} {σ : ST} (hx0 : isC 9 x0) : f_X9_hasRoll (B + x0) x1 (put N B σ) = g_X9_hasRoll N x0 x1 σ := by
  unfold f_X9_hasRoll g_X9_hasRoll
  rw [if_pos (isOb_put hx0)]
  exact lsm (l_X9_hasRoll_0 hN _ _ _ hx0)
noncomputable def g_X9_bookedOf_4 (N : Mem) (n0 : Nat) (x0 : Nat) (x1 : Int32) (x2 : Int32) (x3 : Int32) (σ : ST) : Option (Int32) :=
  match n0 with
  | 0 => none
  | n + 1 =>
    if (σ.1 x0 3) ≤ x3 then
    (some x2)
    else
    ((xI 120 σ (x0 + 8) ((x3 * 4) + 1)).bind fun v1 =>
    if v1 = x1 then
    (g_X9_bookedOf_4 N n x0 x1 (x2 + 1) (x3 + 1) σ)
    else
    (g_X9_bookedOf_4 N n x0 x1 x2 (x3 + 1) σ))
set_option maxHeartbeats 4000000 in
theorem l_X9_bookedOf_4 {N : Mem} {B : Nat} (hN : HN N B) : ∀ (n : Nat) (x0 : Nat) (x1 : Int32) (x2 : Int32) (x3 : Int32) (σ : ST), isC 9 x0 → f_X9_bookedOf_4 n (B + x0) x1 x2 x3 (put N B σ) = (g_X9_bookedOf_4 N n x0 x1 x2 x3 σ).bind some := by
  intro n
  induction n with
  | zero =>
    intro x0 x1 x2 x3 σ hx0
    rfl
  | succ n ih =>
    intro x0 x1 x2 x3 σ hx0
    unfold f_X9_bookedOf_4 g_X9_bookedOf_4
    refine lg (gI_9_3 hx0) ?_
    refine li (fun _ => ?_) (fun _ => ?_)
    · rfl
    · refine lg (gR_9_11 hx0) ?_
      refine lb (rI_put (sh_9_11 hx0)) (fun v1 => ?_)
      refine li (fun _ => ?_) (fun _ => ?_)
      · exact ih _ _ _ _ _ hx0
      · exact ih _ _ _ _ _ hx0
noncomputable def g_X9_bookedOf_0 (N : Mem) (x0 : Nat) (x1 : Int32) (σ : ST) : Option (Int32) :=
  g_X9_bookedOf_4 N fu x0 x1 0 0 σ
set_option maxHeartbeats 4000000 in
theorem l_X9_bookedOf_0 {N : Mem} {B : Nat} (hN : HN N B) : ∀ (x0 : Nat) (x1 : Int32) (σ : ST), isC 9 x0 → f_X9_bookedOf_0 (B + x0) x1 (put N B σ) = (g_X9_bookedOf_0 N x0 x1 σ).bind some := by
  intro x0 x1 σ hx0
  unfold f_X9_bookedOf_0 g_X9_bookedOf_0
  exact l_X9_bookedOf_4 hN  _ _ _ _ _ _ hx0
noncomputable def g_X9_bookedOf (N : Mem) (x0 : Nat) (x1 : Int32) (σ : ST) : Option (Int32) := g_X9_bookedOf_0 N x0 x1 σ
theorem l_X9_bookedOf {N : Mem} {B : Nat} (hN : HN N B) {x0 : Nat} {x1 : Int32} {σ : ST} (hx0 : isC 9 x0) : f_X9_bookedOf (B + x0) x1 (put N B σ) = g_X9_bookedOf N x0 x1 σ := by
  unfold f_X9_bookedOf g_X9_bookedOf
  rw [if_pos (isOb_put hx0)]
  exact lsm (l_X9_bookedOf_0 hN _ _ _ hx0)
noncomputable def g_X9_sumOf_4 (N : Mem) (n0 : Nat) (x0 : Nat) (x1 : Int32) (x2 : Int32) (x3 : Int32) (σ : ST) : Option (Int32) :=
  match n0 with
  | 0 => none
  | n + 1 =>
    if (σ.1 x0 0) ≤ x3 then
    (some x2)
    else
    (if ((jshr x1 x3) &&& 1) = 1 then
    ((xI 5 σ (x0 + 5) x3).bind fun v1 =>
    g_X9_sumOf_4 N n x0 x1 (x2 + v1) (x3 + 1) σ)
    else
    (g_X9_sumOf_4 N n x0 x1 x2 (x3 + 1) σ))
set_option maxHeartbeats 4000000 in
theorem l_X9_sumOf_4 {N : Mem} {B : Nat} (hN : HN N B) : ∀ (n : Nat) (x0 : Nat) (x1 : Int32) (x2 : Int32) (x3 : Int32) (σ : ST), isC 9 x0 → f_X9_sumOf_4 n (B + x0) x1 x2 x3 (put N B σ) = (g_X9_sumOf_4 N n x0 x1 x2 x3 σ).bind some := by
  intro n
  induction n with
  | zero =>
    intro x0 x1 x2 x3 σ hx0
    rfl
  | succ n ih =>
    intro x0 x1 x2 x3 σ hx0
    unfold f_X9_sumOf_4 g_X9_sumOf_4
    refine lg (gI_9_0 hx0) ?_
    refine li (fun _ => ?_) (fun _ => ?_)
    · rfl
    · refine li (fun _ => ?_) (fun _ => ?_)
      · refine lg (gR_9_8 hx0) ?_
        refine lb (rI_put (sh_9_8 hx0)) (fun v1 => ?_)
        exact ih _ _ _ _ _ hx0
      · exact ih _ _ _ _ _ hx0
noncomputable def g_X9_sumOf_0 (N : Mem) (x0 : Nat) (x1 : Int32) (σ : ST) : Option (Int32) :=
  g_X9_sumOf_4 N fu x0 x1 0 0 σ
set_option maxHeartbeats 4000000 in
theorem l_X9_sumOf_0 {N : Mem} {B : Nat} (hN : HN N B) : ∀ (x0 : Nat) (x1 : Int32) (σ : ST), isC 9 x0 → f_X9_sumOf_0 (B + x0) x1 (put N B σ) = (g_X9_sumOf_0 N x0 x1 σ).bind some := by
  intro x0 x1 σ hx0
  unfold f_X9_sumOf_0 g_X9_sumOf_0
  exact l_X9_sumOf_4 hN  _ _ _ _ _ _ hx0
noncomputable def g_X9_sumOf (N : Mem) (x0 : Nat) (x1 : Int32) (σ : ST) : Option (Int32) := g_X9_sumOf_0 N x0 x1 σ
theorem l_X9_sumOf {N : Mem} {B : Nat} (hN : HN N B) {x0 : Nat} {x1 : Int32} {σ : ST} (hx0 : isC 9 x0) : f_X9_sumOf (B + x0) x1 (put N B σ) = g_X9_sumOf N x0 x1 σ := by
  unfold f_X9_sumOf g_X9_sumOf
  rw [if_pos (isOb_put hx0)]
  exact lsm (l_X9_sumOf_0 hN _ _ _ hx0)
noncomputable def g_X10_machine_0 (N : Mem) (x0 : Nat) (x1 : Int32) (x2 : Int32) (σ : ST) : Option (Int32 × ST) :=
  (f_X10_within x1 0 9).bind fun v1 =>
  if v1 = false then
  (some ((-1), σ))
  else
  ((f_X10_within x2 0 99).bind fun v2 =>
  if v2 = true then
  ((g_X9_install N ((x0 + 1) + 1) x1 x2 σ).bind fun r3 =>
  some (r3.1, r3.2))
  else
  (some ((-1), σ)))
set_option maxHeartbeats 4000000 in
theorem l_X10_machine_0 {N : Mem} {B : Nat} (hN : HN N B) : ∀ (x0 : Nat) (x1 : Int32) (x2 : Int32) (σ : ST), isC 10 x0 → f_X10_machine_0 (B + x0) x1 x2 (put N B σ) = (g_X10_machine_0 N x0 x1 x2 σ).bind (fun q => some (q.1, put N B q.2)) := by
  intro x0 x1 x2 σ hx0
  unfold f_X10_machine_0 g_X10_machine_0
  refine lb (rfl) (fun v1 => ?_)
  refine li (fun _ => ?_) (fun _ => ?_)
  · rfl
  · refine lb (rfl) (fun v2 => ?_)
    refine li (fun _ => ?_) (fun _ => ?_)
    · refine lg (gR_10_0 hx0) ?_
      refine lg (gR_4_0 (sh_10_0 hx0)) ?_
      refine lc (l_X9_install hN (sh_4_0 (sh_10_0 hx0))) (fun r3 => ?_)
      dsimp only
      rfl
    · rfl
noncomputable def g_X10_machine (N : Mem) (x0 : Nat) (x1 : Int32) (x2 : Int32) (σ : ST) : Option (Int32 × ST) := g_X10_machine_0 N x0 x1 x2 σ
theorem l_X10_machine {N : Mem} {B : Nat} (hN : HN N B) {x0 : Nat} {x1 : Int32} {x2 : Int32} {σ : ST} (hx0 : isC 10 x0) : f_X10_machine (B + x0) x1 x2 (put N B σ) = (g_X10_machine N x0 x1 x2 σ).bind (fun q => some (q.1, put N B q.2)) := by
  unfold f_X10_machine g_X10_machine
  rw [if_pos (isOb_put hx0)]
  exact l_X10_machine_0 hN _ _ _ _ hx0
noncomputable def g_X10_rule_0 (N : Mem) (x0 : Nat) (x1 : Int32) (x2 : Bool) (x3 : Int32) (σ : ST) : Option (Bool × ST) :=
  (f_X10_within x1 0 9).bind fun v1 =>
  if v1 = false then
  (some (false, σ))
  else
  ((f_X10_within x3 0 110).bind fun v2 =>
  if v2 = true then
  ((f_X10_ruleIndex x1 x2).bind fun v3 =>
  (yI 20 σ ((x0 + 1) + 12) v3 x3).bind fun r4 =>
  some (true, r4))
  else
  (some (false, σ)))
set_option maxHeartbeats 4000000 in
theorem l_X10_rule_0 {N : Mem} {B : Nat} (hN : HN N B) : ∀ (x0 : Nat) (x1 : Int32) (x2 : Bool) (x3 : Int32) (σ : ST), isC 10 x0 → f_X10_rule_0 (B + x0) x1 x2 x3 (put N B σ) = (g_X10_rule_0 N x0 x1 x2 x3 σ).bind (fun q => some (q.1, put N B q.2)) := by
  intro x0 x1 x2 x3 σ hx0
  unfold f_X10_rule_0 g_X10_rule_0
  refine lb (rfl) (fun v1 => ?_)
  refine li (fun _ => ?_) (fun _ => ?_)
  · rfl
  · refine lb (rfl) (fun v2 => ?_)
    refine li (fun _ => ?_) (fun _ => ?_)
    · refine lg (gR_10_0 hx0) ?_
      refine lg (gR_4_7 (sh_10_0 hx0)) ?_
      refine lb (rfl) (fun v3 => ?_)
      refine lm (wI_put (sh_4_7 (sh_10_0 hx0))) (fun r4 => ?_)
      rfl
    · rfl
noncomputable def g_X10_rule (N : Mem) (x0 : Nat) (x1 : Int32) (x2 : Bool) (x3 : Int32) (σ : ST) : Option (Bool × ST) := g_X10_rule_0 N x0 x1 x2 x3 σ
theorem l_X10_rule {N : Mem} {B : Nat} (hN : HN N B) {x0 : Nat} {x1 : Int32} {x2 : Bool} {x3 : Int32} {σ : ST} (hx0 : isC 10 x0) : f_X10_rule (B + x0) x1 x2 x3 (put N B σ) = (g_X10_rule N x0 x1 x2 x3 σ).bind (fun q => some (q.1, put N B q.2)) := by
  unfold f_X10_rule g_X10_rule
  rw [if_pos (isOb_put hx0)]
  exact l_X10_rule_0 hN _ _ _ _ _ hx0
noncomputable def g_X10_feed_0 (N : Mem) (x0 : Nat) (x1 : Int32) (x2 : Int32) (x3 : Int32) (x4 : Int32) (x5 : Int32) (σ : ST) : Option (Int32 × ST) :=
  if (σ.1 (x0 + 593) 1) ≤ 280 then
  ((g_X7_append N (x0 + 593) x1 σ).bind fun r1 =>
  (g_X7_append N (x0 + 593) x2 r1).bind fun r2 =>
  (g_X7_append N (x0 + 593) x3 r2).bind fun r3 =>
  (g_X7_append N (x0 + 593) x4 r3).bind fun r4 =>
  (g_X7_append N (x0 + 593) x5 r4).bind fun r5 =>
  some ((r5.1 (x0 + 593) 1), r5))
  else
  (some ((-1), σ))
set_option maxHeartbeats 4000000 in
theorem l_X10_feed_0 {N : Mem} {B : Nat} (hN : HN N B) : ∀ (x0 : Nat) (x1 : Int32) (x2 : Int32) (x3 : Int32) (x4 : Int32) (x5 : Int32) (σ : ST), isC 10 x0 → f_X10_feed_0 (B + x0) x1 x2 x3 x4 x5 (put N B σ) = (g_X10_feed_0 N x0 x1 x2 x3 x4 x5 σ).bind (fun q => some (q.1, put N B q.2)) := by
  intro x0 x1 x2 x3 x4 x5 σ hx0
  unfold f_X10_feed_0 g_X10_feed_0
  refine lg (gR_10_2 hx0) ?_
  refine lg (gI_7_1 (sh_10_2 hx0)) ?_
  refine li (fun _ => ?_) (fun _ => ?_)
  · refine lg (gR_10_2 hx0) ?_
    refine lm (l_X7_append hN (sh_10_2 hx0)) (fun r1 => ?_)
    refine lg (gR_10_2 hx0) ?_
    refine lm (l_X7_append hN (sh_10_2 hx0)) (fun r2 => ?_)
    refine lg (gR_10_2 hx0) ?_
    refine lm (l_X7_append hN (sh_10_2 hx0)) (fun r3 => ?_)
    refine lg (gR_10_2 hx0) ?_
    refine lm (l_X7_append hN (sh_10_2 hx0)) (fun r4 => ?_)
    refine lg (gR_10_2 hx0) ?_
    refine lm (l_X7_append hN (sh_10_2 hx0)) (fun r5 => ?_)
    refine lg (gR_10_2 hx0) ?_
    refine lg (gI_7_1 (sh_10_2 hx0)) ?_
    rfl
  · rfl
noncomputable def g_X10_feed (N : Mem) (x0 : Nat) (x1 : Int32) (x2 : Int32) (x3 : Int32) (x4 : Int32) (x5 : Int32) (σ : ST) : Option (Int32 × ST) := g_X10_feed_0 N x0 x1 x2 x3 x4 x5 σ
theorem l_X10_feed {N : Mem} {B : Nat} (hN : HN N B) {x0 : Nat} {x1 : Int32} {x2 : Int32} {x3 : Int32} {x4 : Int32} {x5 : Int32} {σ : ST} (hx0 : isC 10 x0) : f_X10_feed (B + x0) x1 x2 x3 x4 x5 (put N B σ) = (g_X10_feed N x0 x1 x2 x3 x4 x5 σ).bind (fun q => some (q.1, put N B q.2)) := by
  unfold f_X10_feed g_X10_feed
  rw [if_pos (isOb_put hx0)]
  exact l_X10_feed_0 hN _ _ _ _ _ _ _ hx0
noncomputable def g_X10_end_0 (N : Mem) (x0 : Nat) (x1 : Int32) (σ : ST) : Option (Int32 × ST) :=
  (f_X10_within x1 0 (σ.1 (x0 + 593) 1)).bind fun v1 =>
  if v1 = true then
  ((some (setI σ (x0 + 593) 1 x1)).bind fun r2 =>
  some (x1, r2))
  else
  (some ((-1), σ))
set_option maxHeartbeats 4000000 in
theorem l_X10_end_0 {N : Mem} {B : Nat} (hN : HN N B) : ∀ (x0 : Nat) (x1 : Int32) (σ : ST), isC 10 x0 → f_X10_end_0 (B + x0) x1 (put N B σ) = (g_X10_end_0 N x0 x1 σ).bind (fun q => some (q.1, put N B q.2)) := by
  intro x0 x1 σ hx0
  unfold f_X10_end_0 g_X10_end_0
  refine lg (gR_10_2 hx0) ?_
  refine lg (gI_7_1 (sh_10_2 hx0)) ?_
  refine lb (rfl) (fun v1 => ?_)
  refine li (fun _ => ?_) (fun _ => ?_)
  · refine lg (gR_10_2 hx0) ?_
    refine lp (pF_7_1 (sh_10_2 hx0)) (fun r2 => ?_)
    rfl
  · rfl
noncomputable def g_X10_end (N : Mem) (x0 : Nat) (x1 : Int32) (σ : ST) : Option (Int32 × ST) := g_X10_end_0 N x0 x1 σ
theorem l_X10_end {N : Mem} {B : Nat} (hN : HN N B) {x0 : Nat} {x1 : Int32} {σ : ST} (hx0 : isC 10 x0) : f_X10_end (B + x0) x1 (put N B σ) = (g_X10_end N x0 x1 σ).bind (fun q => some (q.1, put N B q.2)) := by
  unfold f_X10_end g_X10_end
  rw [if_pos (isOb_put hx0)]
  exact l_X10_end_0 hN _ _ _ hx0
noncomputable def g_X10_fault_0 (N : Mem) (x0 : Nat) (x1 : Int32) (σ : ST) : Option (Int32) :=
  if x1 = 0 then
  (some (σ.1 (x0 + 595) 1))
  else
  (if x1 = 1 then
  (some (σ.1 (x0 + 595) 2))
  else
  (some (-1)))
set_option maxHeartbeats 4000000 in
theorem l_X10_fault_0 {N : Mem} {B : Nat} (hN : HN N B) : ∀ (x0 : Nat) (x1 : Int32) (σ : ST), isC 10 x0 → f_X10_fault_0 (B + x0) x1 (put N B σ) = (g_X10_fault_0 N x0 x1 σ).bind some := by
  intro x0 x1 σ hx0
  unfold f_X10_fault_0 g_X10_fault_0
  refine li (fun _ => ?_) (fun _ => ?_)
  · refine lg (gR_10_3 hx0) ?_
    refine lg (gI_2_1 (sh_10_3 hx0)) ?_
    rfl
  · refine li (fun _ => ?_) (fun _ => ?_)
    · refine lg (gR_10_3 hx0) ?_
      refine lg (gI_2_2 (sh_10_3 hx0)) ?_
      rfl
    · rfl
noncomputable def g_X10_fault (N : Mem) (x0 : Nat) (x1 : Int32) (σ : ST) : Option (Int32) := g_X10_fault_0 N x0 x1 σ
theorem l_X10_fault {N : Mem} {B : Nat} (hN : HN N B) {x0 : Nat} {x1 : Int32} {σ : ST} (hx0 : isC 10 x0) : f_X10_fault (B + x0) x1 (put N B σ) = g_X10_fault N x0 x1 σ := by
  unfold f_X10_fault g_X10_fault
  rw [if_pos (isOb_put hx0)]
  exact lsm (l_X10_fault_0 hN _ _ _ hx0)
noncomputable def g_X10_by_0 (N : Mem) (x0 : Nat) (x1 : Int32) (σ : ST) : Option (Bool × ST) :=
  (f_X10_within x1 (-1) ((σ.1 (x0 + 1) 5) - 1)).bind fun v1 =>
  if v1 = true then
  ((some (setI σ (x0 + 1) 6 x1)).bind fun r2 =>
  some (true, r2))
  else
  (some (false, σ))
set_option maxHeartbeats 4000000 in
theorem l_X10_by_0 {N : Mem} {B : Nat} (hN : HN N B) : ∀ (x0 : Nat) (x1 : Int32) (σ : ST), isC 10 x0 → f_X10_by_0 (B + x0) x1 (put N B σ) = (g_X10_by_0 N x0 x1 σ).bind (fun q => some (q.1, put N B q.2)) := by
  intro x0 x1 σ hx0
  unfold f_X10_by_0 g_X10_by_0
  refine lg (gR_10_0 hx0) ?_
  refine lg (gI_4_5 (sh_10_0 hx0)) ?_
  refine lb (rfl) (fun v1 => ?_)
  refine li (fun _ => ?_) (fun _ => ?_)
  · refine lg (gR_10_0 hx0) ?_
    refine lp (pF_4_6 (sh_10_0 hx0)) (fun r2 => ?_)
    rfl
  · rfl
noncomputable def g_X10_by (N : Mem) (x0 : Nat) (x1 : Int32) (σ : ST) : Option (Bool × ST) := g_X10_by_0 N x0 x1 σ
theorem l_X10_by {N : Mem} {B : Nat} (hN : HN N B) {x0 : Nat} {x1 : Int32} {σ : ST} (hx0 : isC 10 x0) : f_X10_by (B + x0) x1 (put N B σ) = (g_X10_by N x0 x1 σ).bind (fun q => some (q.1, put N B q.2)) := by
  unfold f_X10_by g_X10_by
  rw [if_pos (isOb_put hx0)]
  exact l_X10_by_0 hN _ _ _ hx0
noncomputable def g_X10_crank_0 (N : Mem) (x0 : Nat) (x1 : Int32) (x2 : Int32) (σ : ST) : Option (Int32 × ST) :=
  (f_X10_within x2 0 9999).bind fun v1 =>
  if v1 = false then
  (some ((-1), σ))
  else
  ((g_X9_canTurn N ((x0 + 1) + 1) x1 σ).bind fun v2 =>
  if v2 = true then
  ((g_X4_remember N (x0 + 1) σ).bind fun r3 =>
  (g_X9_turn N ((x0 + 1) + 1) x1 x2 r3).bind fun r4 =>
  (xI 5 r4 (((x0 + 1) + 1) + 5) x1).bind fun v5 =>
  some (v5, r4))
  else
  (some ((-1), σ)))
set_option maxHeartbeats 4000000 in
theorem l_X10_crank_0 {N : Mem} {B : Nat} (hN : HN N B) : ∀ (x0 : Nat) (x1 : Int32) (x2 : Int32) (σ : ST), isC 10 x0 → f_X10_crank_0 (B + x0) x1 x2 (put N B σ) = (g_X10_crank_0 N x0 x1 x2 σ).bind (fun q => some (q.1, put N B q.2)) := by
  intro x0 x1 x2 σ hx0
  unfold f_X10_crank_0 g_X10_crank_0
  refine lb (rfl) (fun v1 => ?_)
  refine li (fun _ => ?_) (fun _ => ?_)
  · rfl
  · refine lg (gR_10_0 hx0) ?_
    refine lg (gR_4_0 (sh_10_0 hx0)) ?_
    refine lb (l_X9_canTurn hN (sh_4_0 (sh_10_0 hx0))) (fun v2 => ?_)
    refine li (fun _ => ?_) (fun _ => ?_)
    · refine lg (gR_10_0 hx0) ?_
      refine lm (l_X4_remember hN (sh_10_0 hx0)) (fun r3 => ?_)
      refine lg (gR_10_0 hx0) ?_
      refine lg (gR_4_0 (sh_10_0 hx0)) ?_
      refine lm (l_X9_turn hN (sh_4_0 (sh_10_0 hx0))) (fun r4 => ?_)
      refine lg (gR_10_0 hx0) ?_
      refine lg (gR_4_0 (sh_10_0 hx0)) ?_
      refine lg (gR_9_8 (sh_4_0 (sh_10_0 hx0))) ?_
      refine lb (rI_put (sh_9_8 (sh_4_0 (sh_10_0 hx0)))) (fun v5 => ?_)
      rfl
    · rfl
noncomputable def g_X10_crank (N : Mem) (x0 : Nat) (x1 : Int32) (x2 : Int32) (σ : ST) : Option (Int32 × ST) := g_X10_crank_0 N x0 x1 x2 σ
theorem l_X10_crank {N : Mem} {B : Nat} (hN : HN N B) {x0 : Nat} {x1 : Int32} {x2 : Int32} {σ : ST} (hx0 : isC 10 x0) : f_X10_crank (B + x0) x1 x2 (put N B σ) = (g_X10_crank N x0 x1 x2 σ).bind (fun q => some (q.1, put N B q.2)) := by
  unfold f_X10_crank g_X10_crank
  rw [if_pos (isOb_put hx0)]
  exact l_X10_crank_0 hN _ _ _ _ hx0
noncomputable def g_X10_oil_0 (N : Mem) (x0 : Nat) (x1 : Int32) (x2 : Int32) (σ : ST) : Option (Bool × ST) :=
  (f_X10_within x2 0 9).bind fun v1 =>
  if v1 = false then
  (some (false, σ))
  else
  ((g_X9_has N ((x0 + 1) + 1) x1 σ).bind fun v2 =>
  if v2 = true then
  ((g_X4_remember N (x0 + 1) σ).bind fun r3 =>
  (yI 5 r3 (((x0 + 1) + 1) + 4) x1 x2).bind fun r4 =>
  some (true, r4))
  else
  (some (false, σ)))
set_option maxHeartbeats 4000000 in
theorem l_X10_oil_0 {N : Mem} {B : Nat} (hN : HN N B) : ∀ (x0 : Nat) (x1 : Int32) (x2 : Int32) (σ : ST), isC 10 x0 → f_X10_oil_0 (B + x0) x1 x2 (put N B σ) = (g_X10_oil_0 N x0 x1 x2 σ).bind (fun q => some (q.1, put N B q.2)) := by
  intro x0 x1 x2 σ hx0
  unfold f_X10_oil_0 g_X10_oil_0
  refine lb (rfl) (fun v1 => ?_)
  refine li (fun _ => ?_) (fun _ => ?_)
  · rfl
  · refine lg (gR_10_0 hx0) ?_
    refine lg (gR_4_0 (sh_10_0 hx0)) ?_
    refine lb (l_X9_has hN (sh_4_0 (sh_10_0 hx0))) (fun v2 => ?_)
    refine li (fun _ => ?_) (fun _ => ?_)
    · refine lg (gR_10_0 hx0) ?_
      refine lm (l_X4_remember hN (sh_10_0 hx0)) (fun r3 => ?_)
      refine lg (gR_10_0 hx0) ?_
      refine lg (gR_4_0 (sh_10_0 hx0)) ?_
      refine lg (gR_9_7 (sh_4_0 (sh_10_0 hx0))) ?_
      refine lm (wI_put (sh_9_7 (sh_4_0 (sh_10_0 hx0)))) (fun r4 => ?_)
      rfl
    · rfl
noncomputable def g_X10_oil (N : Mem) (x0 : Nat) (x1 : Int32) (x2 : Int32) (σ : ST) : Option (Bool × ST) := g_X10_oil_0 N x0 x1 x2 σ
theorem l_X10_oil {N : Mem} {B : Nat} (hN : HN N B) {x0 : Nat} {x1 : Int32} {x2 : Int32} {σ : ST} (hx0 : isC 10 x0) : f_X10_oil (B + x0) x1 x2 (put N B σ) = (g_X10_oil N x0 x1 x2 σ).bind (fun q => some (q.1, put N B q.2)) := by
  unfold f_X10_oil g_X10_oil
  rw [if_pos (isOb_put hx0)]
  exact l_X10_oil_0 hN _ _ _ _ hx0
noncomputable def g_X10_lift_0 (N : Mem) (x0 : Nat) (x1 : Int32) (σ : ST) : Option (Bool × ST) :=
  (g_X9_hasRoll N ((x0 + 1) + 1) x1 σ).bind fun v1 =>
  if v1 = true then
  ((g_X4_remember N (x0 + 1) σ).bind fun r2 =>
  (yI 5 r2 (((x0 + 1) + 1) + 6) x1 0).bind fun r3 =>
  some (true, r3))
  else
  (some (false, σ))
set_option maxHeartbeats 4000000 in
theorem l_X10_lift_0 {N : Mem} {B : Nat} (hN : HN N B) : ∀ (x0 : Nat) (x1 : Int32) (σ : ST), isC 10 x0 → f_X10_lift_0 (B + x0) x1 (put N B σ) = (g_X10_lift_0 N x0 x1 σ).bind (fun q => some (q.1, put N B q.2)) := by
  intro x0 x1 σ hx0
  unfold f_X10_lift_0 g_X10_lift_0
  refine lg (gR_10_0 hx0) ?_
  refine lg (gR_4_0 (sh_10_0 hx0)) ?_
  refine lb (l_X9_hasRoll hN (sh_4_0 (sh_10_0 hx0))) (fun v1 => ?_)
  refine li (fun _ => ?_) (fun _ => ?_)
  · refine lg (gR_10_0 hx0) ?_
    refine lm (l_X4_remember hN (sh_10_0 hx0)) (fun r2 => ?_)
    refine lg (gR_10_0 hx0) ?_
    refine lg (gR_4_0 (sh_10_0 hx0)) ?_
    refine lg (gR_9_9 (sh_4_0 (sh_10_0 hx0))) ?_
    refine lm (wI_put (sh_9_9 (sh_4_0 (sh_10_0 hx0)))) (fun r3 => ?_)
    rfl
  · rfl
noncomputable def g_X10_lift (N : Mem) (x0 : Nat) (x1 : Int32) (σ : ST) : Option (Bool × ST) := g_X10_lift_0 N x0 x1 σ
theorem l_X10_lift {N : Mem} {B : Nat} (hN : HN N B) {x0 : Nat} {x1 : Int32} {σ : ST} (hx0 : isC 10 x0) : f_X10_lift (B + x0) x1 (put N B σ) = (g_X10_lift N x0 x1 σ).bind (fun q => some (q.1, put N B q.2)) := by
  unfold f_X10_lift g_X10_lift
  rw [if_pos (isOb_put hx0)]
  exact l_X10_lift_0 hN _ _ _ hx0
noncomputable def g_X10_passNights_24 (N : Mem) (n0 : Nat) (x0 : Nat) (x2 : Int32) (x3 : Int32) (x4 : Int32) (σ : ST) : Option (Int32 × ST) :=
  match n0 with
  | 0 => none
  | n + 1 =>
    if x3 ≤ x4 then
    (some (x2, σ))
    else
    ((g_X4_remember N (x0 + 1) σ).bind fun r1 =>
    (g_X4_theText N (x0 + 1) r1).bind fun v2 =>
    (g_X0_pass N (x0 + 601) ((x0 + 1) + 1) 20 ((x0 + 1) + 12) v2 r1).bind fun r3 =>
    g_X10_passNights_24 N n x0 (x2 + r3.1) x3 (x4 + 1) r3.2)
set_option maxHeartbeats 4000000 in
theorem l_X10_passNights_24 {N : Mem} {B : Nat} (hN : HN N B) : ∀ (n : Nat) (x0 : Nat) (x2 : Int32) (x3 : Int32) (x4 : Int32) (σ : ST), isC 10 x0 → f_X10_passNights_24 n (B + x0) x2 x3 x4 (put N B σ) = (g_X10_passNights_24 N n x0 x2 x3 x4 σ).bind (fun q => some (q.1, put N B q.2)) := by
  intro n
  induction n with
  | zero =>
    intro x0 x2 x3 x4 σ hx0
    rfl
  | succ n ih =>
    intro x0 x2 x3 x4 σ hx0
    unfold f_X10_passNights_24 g_X10_passNights_24
    refine li (fun _ => ?_) (fun _ => ?_)
    · rfl
    · refine lg (gR_10_0 hx0) ?_
      refine lm (l_X4_remember hN (sh_10_0 hx0)) (fun r1 => ?_)
      refine lg (gR_10_4 hx0) ?_
      refine lg (gR_10_0 hx0) ?_
      refine lg (gR_4_0 (sh_10_0 hx0)) ?_
      refine lg (gR_10_0 hx0) ?_
      refine lg (gR_4_7 (sh_10_0 hx0)) ?_
      refine lg (gR_10_0 hx0) ?_
      refine lb (l_X4_theText hN (sh_10_0 hx0)) (fun v2 => ?_)
      refine lc (l_X0_pass hN (sh_10_4 hx0) (sh_4_0 (sh_10_0 hx0)) (sh_4_7 (sh_10_0 hx0))) (fun r3 => ?_)
      dsimp only
      exact ih _ _ _ _ _ hx0
noncomputable def g_X10_passNights_0 (N : Mem) (x0 : Nat) (x1 : Int32) (σ : ST) : Option (Int32 × ST) :=
  g_X10_passNights_24 N fu x0 0 (jmin x1 (9999 - (σ.1 ((x0 + 1) + 1) 1))) 0 σ
set_option maxHeartbeats 4000000 in
theorem l_X10_passNights_0 {N : Mem} {B : Nat} (hN : HN N B) : ∀ (x0 : Nat) (x1 : Int32) (σ : ST), isC 10 x0 → f_X10_passNights_0 (B + x0) x1 (put N B σ) = (g_X10_passNights_0 N x0 x1 σ).bind (fun q => some (q.1, put N B q.2)) := by
  intro x0 x1 σ hx0
  unfold f_X10_passNights_0 g_X10_passNights_0
  refine lg (gR_10_0 hx0) ?_
  refine lg (gR_4_0 (sh_10_0 hx0)) ?_
  refine lg (gI_9_1 (sh_4_0 (sh_10_0 hx0))) ?_
  exact l_X10_passNights_24 hN  _ _ _ _ _ _ hx0
noncomputable def g_X10_passNights (N : Mem) (x0 : Nat) (x1 : Int32) (σ : ST) : Option (Int32 × ST) := g_X10_passNights_0 N x0 x1 σ
theorem l_X10_passNights {N : Mem} {B : Nat} (hN : HN N B) {x0 : Nat} {x1 : Int32} {σ : ST} (hx0 : isC 10 x0) : f_X10_passNights (B + x0) x1 (put N B σ) = (g_X10_passNights N x0 x1 σ).bind (fun q => some (q.1, put N B q.2)) := by
  unfold f_X10_passNights g_X10_passNights
  rw [if_pos (isOb_put hx0)]
  exact l_X10_passNights_0 hN _ _ _ hx0
noncomputable def g_X10_night_0 (N : Mem) (x0 : Nat) (x1 : Int32) (σ : ST) : Option (Int32 × ST) :=
  (f_X10_within x1 1 60).bind fun v1 =>
  if v1 = false then
  (some ((-1), σ))
  else
  (if x1 ≤ (9999 - (σ.1 ((x0 + 1) + 1) 1)) then
  ((g_X10_passNights N x0 x1 σ).bind fun r2 =>
  some (r2.1, r2.2))
  else
  (some ((-1), σ)))
set_option maxHeartbeats 4000000 in
theorem l_X10_night_0 {N : Mem} {B : Nat} (hN : HN N B) : ∀ (x0 : Nat) (x1 : Int32) (σ : ST), isC 10 x0 → f_X10_night_0 (B + x0) x1 (put N B σ) = (g_X10_night_0 N x0 x1 σ).bind (fun q => some (q.1, put N B q.2)) := by
  intro x0 x1 σ hx0
  unfold f_X10_night_0 g_X10_night_0
  refine lb (rfl) (fun v1 => ?_)
  refine li (fun _ => ?_) (fun _ => ?_)
  · rfl
  · refine lg (gR_10_0 hx0) ?_
    refine lg (gR_4_0 (sh_10_0 hx0)) ?_
    refine lg (gI_9_1 (sh_4_0 (sh_10_0 hx0))) ?_
    refine li (fun _ => ?_) (fun _ => ?_)
    · refine lc (l_X10_passNights hN hx0) (fun r2 => ?_)
      dsimp only
      rfl
    · rfl
noncomputable def g_X10_night (N : Mem) (x0 : Nat) (x1 : Int32) (σ : ST) : Option (Int32 × ST) := g_X10_night_0 N x0 x1 σ
theorem l_X10_night {N : Mem} {B : Nat} (hN : HN N B) {x0 : Nat} {x1 : Int32} {σ : ST} (hx0 : isC 10 x0) : f_X10_night (B + x0) x1 (put N B σ) = (g_X10_night N x0 x1 σ).bind (fun q => some (q.1, put N B q.2)) := by
  unfold f_X10_night g_X10_night
  rw [if_pos (isOb_put hx0)]
  exact l_X10_night_0 hN _ _ _ hx0
noncomputable def g_X10_playClause_0 (N : Mem) (x0 : Nat) (x1 : Option Nat) (x2 : Int32) (σ : ST) : Option (Bool × ST) :=
  (x1).bind fun t1 =>
  (f_X8_clausePart t1 x2 1 N).bind fun v2 =>
  (f_X8_clausePart t1 x2 2 N).bind fun v3 =>
  (f_X8_clausePart t1 x2 0 N).bind fun v4 =>
  if v4 = 3 then
  ((g_X10_machine N x0 v2 v3 σ).bind fun r5 =>
  if r5.1 = (-1) then
  (some (false, r5.2))
  else
  (some (true, r5.2)))
  else
  (if v4 = 4 then
  ((g_X10_rule N x0 v2 false v3 σ).bind fun r6 =>
  some (r6.1, r6.2))
  else
  (if v4 = 5 then
  ((g_X10_rule N x0 v2 true v3 σ).bind fun r7 =>
  some (r7.1, r7.2))
  else
  (if v4 = 6 then
  ((g_X10_crank N x0 v3 v2 σ).bind fun r8 =>
  if r8.1 = (-1) then
  (some (false, r8.2))
  else
  (some (true, r8.2)))
  else
  (if v4 = 7 then
  ((g_X10_lift N x0 v2 σ).bind fun r9 =>
  some (r9.1, r9.2))
  else
  (if v4 = 8 then
  ((g_X10_oil N x0 v2 v3 σ).bind fun r10 =>
  some (r10.1, r10.2))
  else
  (if v4 = 9 then
  ((g_X10_passNights N x0 v2 σ).bind fun r11 =>
  if ((r11.2.1 ((x0 + 1) + 1) 1) - (σ.1 ((x0 + 1) + 1) 1)) = v2 then
  (some (true, r11.2))
  else
  (some (false, r11.2)))
  else
  (some (true, σ))))))))
set_option maxHeartbeats 4000000 in
theorem l_X10_playClause_0 {N : Mem} {B : Nat} (hN : HN N B) : ∀ (x0 : Nat) (x1 : Option Nat) (x2 : Int32) (σ : ST), isC 10 x0 → f_X10_playClause_0 (B + x0) x1 x2 (put N B σ) = (g_X10_playClause_0 N x0 x1 x2 σ).bind (fun q => some (q.1, put N B q.2)) := by
  intro x0 x1 x2 σ hx0
  unfold f_X10_playClause_0 g_X10_playClause_0
  refine lb (rfl) (fun t1 => ?_)
  refine lb (l_X8_clausePart hN) (fun v2 => ?_)
  refine lb (l_X8_clausePart hN) (fun v3 => ?_)
  refine lg (gR_10_0 hx0) ?_
  refine lg (gR_4_0 (sh_10_0 hx0)) ?_
  refine lg (gI_9_1 (sh_4_0 (sh_10_0 hx0))) ?_
  refine lb (l_X8_clausePart hN) (fun v4 => ?_)
  refine li (fun _ => ?_) (fun _ => ?_)
  · refine lc (l_X10_machine hN hx0) (fun r5 => ?_)
    dsimp only
    refine li (fun _ => ?_) (fun _ => ?_)
    · rfl
    · rfl
  refine li (fun _ => ?_) (fun _ => ?_)
  · refine lc (l_X10_rule hN hx0) (fun r6 => ?_)
    dsimp only
    rfl
  refine li (fun _ => ?_) (fun _ => ?_)
  · refine lc (l_X10_rule hN hx0) (fun r7 => ?_)
    dsimp only
    rfl
  refine li (fun _ => ?_) (fun _ => ?_)
  · refine lc (l_X10_crank hN hx0) (fun r8 => ?_)
    dsimp only
    refine li (fun _ => ?_) (fun _ => ?_)
    · rfl
    · rfl
  refine li (fun _ => ?_) (fun _ => ?_)
  · refine lc (l_X10_lift hN hx0) (fun r9 => ?_)
    dsimp only
    rfl
  refine li (fun _ => ?_) (fun _ => ?_)
  · refine lc (l_X10_oil hN hx0) (fun r10 => ?_)
    dsimp only
    rfl
  refine li (fun _ => ?_) (fun _ => ?_)
  · refine lc (l_X10_passNights hN hx0) (fun r11 => ?_)
    dsimp only
    refine lg (gR_10_0 hx0) ?_
    refine lg (gR_4_0 (sh_10_0 hx0)) ?_
    refine lg (gI_9_1 (sh_4_0 (sh_10_0 hx0))) ?_
    refine li (fun _ => ?_) (fun _ => ?_)
    · rfl
    · rfl
  rfl
noncomputable def g_X10_playClause (N : Mem) (x0 : Nat) (x1 : Option Nat) (x2 : Int32) (σ : ST) : Option (Bool × ST) := g_X10_playClause_0 N x0 x1 x2 σ
theorem l_X10_playClause {N : Mem} {B : Nat} (hN : HN N B) {x0 : Nat} {x1 : Option Nat} {x2 : Int32} {σ : ST} (hx0 : isC 10 x0) : f_X10_playClause (B + x0) x1 x2 (put N B σ) = (g_X10_playClause N x0 x1 x2 σ).bind (fun q => some (q.1, put N B q.2)) := by
  unfold f_X10_playClause g_X10_playClause
  rw [if_pos (isOb_put hx0)]
  exact l_X10_playClause_0 hN _ _ _ _ hx0
noncomputable def g_X10_played_44 (N : Mem) (n0 : Nat) (x0 : Nat) (x2 : Option Nat) (x3 : Int32) (σ : ST) : Option (Int32 × ST) :=
  match n0 with
  | 0 => none
  | n + 1 =>
    (x2).bind fun t1 =>
    (gI N 8 t1 5).bind fun v2 =>
    if v2 ≤ x3 then
    (some ((-1), σ))
    else
    ((g_X10_playClause N x0 (some t1) x3 σ).bind fun r3 =>
    if r3.1 = true then
    (g_X10_played_44 N n x0 (some t1) (x3 + 1) r3.2)
    else
    (some (x3, r3.2)))
set_option maxHeartbeats 4000000 in
theorem l_X10_played_44 {N : Mem} {B : Nat} (hN : HN N B) : ∀ (n : Nat) (x0 : Nat) (x2 : Option Nat) (x3 : Int32) (σ : ST), isC 10 x0 → f_X10_played_44 n (B + x0) x2 x3 (put N B σ) = (g_X10_played_44 N n x0 x2 x3 σ).bind (fun q => some (q.1, put N B q.2)) := by
  intro n
  induction n with
  | zero =>
    intro x0 x2 x3 σ hx0
    rfl
  | succ n ih =>
    intro x0 x2 x3 σ hx0
    unfold f_X10_played_44 g_X10_played_44
    refine lb (rfl) (fun t1 => ?_)
    refine lb (gI_out hN) (fun v2 => ?_)
    refine li (fun _ => ?_) (fun _ => ?_)
    · rfl
    · refine lc (l_X10_playClause hN hx0) (fun r3 => ?_)
      dsimp only
      refine li (fun _ => ?_) (fun _ => ?_)
      · exact ih _ _ _ _ hx0
      · rfl
noncomputable def g_X10_played_0 (N : Mem) (x0 : Nat) (x1 : Int32) (σ : ST) : Option (Int32 × ST) :=
  (f_X10_within x1 0 ((σ.1 (x0 + 1) 5) - 1)).bind fun v4 =>
  if v4 = false then
  (some ((-2), σ))
  else
  ((xQ σ ((x0 + 1) + 11) x1).bind fun o5 =>
  if o5 = none then
  (some ((-2), σ))
  else
  ((xQ σ ((x0 + 1) + 11) x1).bind fun o6 =>
  g_X10_played_44 N fu x0 o6 0 σ))
set_option maxHeartbeats 4000000 in
theorem l_X10_played_0 {N : Mem} {B : Nat} (hN : HN N B) : ∀ (x0 : Nat) (x1 : Int32) (σ : ST), isC 10 x0 → f_X10_played_0 (B + x0) x1 (put N B σ) = (g_X10_played_0 N x0 x1 σ).bind (fun q => some (q.1, put N B q.2)) := by
  intro x0 x1 σ hx0
  unfold f_X10_played_0 g_X10_played_0
  refine lg (gR_10_0 hx0) ?_
  refine lg (gI_4_5 (sh_10_0 hx0)) ?_
  refine lb (rfl) (fun v4 => ?_)
  refine li (fun _ => ?_) (fun _ => ?_)
  · rfl
  · refine lg (gR_10_0 hx0) ?_
    refine lg (gR_4_4 (sh_10_0 hx0)) ?_
    refine lb (rQ_put (sh_4_4 (sh_10_0 hx0))) (fun o5 => ?_)
    refine li (fun _ => ?_) (fun _ => ?_)
    · rfl
    · refine lg (gR_10_0 hx0) ?_
      refine lg (gR_4_4 (sh_10_0 hx0)) ?_
      refine lb (rQ_put (sh_4_4 (sh_10_0 hx0))) (fun o6 => ?_)
      exact l_X10_played_44 hN  _ _ _ _ _ hx0
noncomputable def g_X10_played (N : Mem) (x0 : Nat) (x1 : Int32) (σ : ST) : Option (Int32 × ST) := g_X10_played_0 N x0 x1 σ
theorem l_X10_played {N : Mem} {B : Nat} (hN : HN N B) {x0 : Nat} {x1 : Int32} {σ : ST} (hx0 : isC 10 x0) : f_X10_played (B + x0) x1 (put N B σ) = (g_X10_played N x0 x1 σ).bind (fun q => some (q.1, put N B q.2)) := by
  unfold f_X10_played g_X10_played
  rw [if_pos (isOb_put hx0)]
  exact l_X10_played_0 hN _ _ _ hx0
noncomputable def g_X10_handle_0 (N : Mem) (x0 : Nat) (x1 : Int32) (x2 : Int32) (σ : ST) : Option (ST) :=
  (g_X9_has N ((x0 + 1) + 1) x1 σ).bind fun v1 =>
  if v1 = true then
  (if 1 < (jrem x2 5) then
  (if (jrem x2 5) = 2 then
  ((yI 5 σ (((x0 + 1) + 1) + 4) x1 (jrem x2 10)).bind fun r3 =>
  some r3)
  else
  ((yI 5 σ (((x0 + 1) + 1) + 6) x1 0).bind fun r2 =>
  some r2))
  else
  ((g_X9_canTurn N ((x0 + 1) + 1) x1 σ).bind fun v4 =>
  if v4 = false then
  (some σ)
  else
  ((g_X9_turn N ((x0 + 1) + 1) x1 (jrem x2 997) σ).bind fun r5 =>
  some r5)))
  else
  (some σ)
set_option maxHeartbeats 4000000 in
theorem l_X10_handle_0 {N : Mem} {B : Nat} (hN : HN N B) : ∀ (x0 : Nat) (x1 : Int32) (x2 : Int32) (σ : ST), isC 10 x0 → f_X10_handle_0 (B + x0) x1 x2 (put N B σ) = (g_X10_handle_0 N x0 x1 x2 σ).bind (fun q => some (put N B q)) := by
  intro x0 x1 x2 σ hx0
  unfold f_X10_handle_0 g_X10_handle_0
  refine lg (gR_10_0 hx0) ?_
  refine lg (gR_4_0 (sh_10_0 hx0)) ?_
  refine lb (l_X9_has hN (sh_4_0 (sh_10_0 hx0))) (fun v1 => ?_)
  refine li (fun _ => ?_) (fun _ => ?_)
  · refine li (fun _ => ?_) (fun _ => ?_)
    · refine li (fun _ => ?_) (fun _ => ?_)
      · refine lg (gR_9_7 (sh_4_0 (sh_10_0 hx0))) ?_
        refine lm (wI_put (sh_9_7 (sh_4_0 (sh_10_0 hx0)))) (fun r3 => ?_)
        rfl
      · refine lg (gR_9_9 (sh_4_0 (sh_10_0 hx0))) ?_
        refine lm (wI_put (sh_9_9 (sh_4_0 (sh_10_0 hx0)))) (fun r2 => ?_)
        rfl
    · refine lb (l_X9_canTurn hN (sh_4_0 (sh_10_0 hx0))) (fun v4 => ?_)
      refine li (fun _ => ?_) (fun _ => ?_)
      · rfl
      · refine lm (l_X9_turn hN (sh_4_0 (sh_10_0 hx0))) (fun r5 => ?_)
        rfl
  · rfl
noncomputable def g_X10_handle (N : Mem) (x0 : Nat) (x1 : Int32) (x2 : Int32) (σ : ST) : Option (ST) := g_X10_handle_0 N x0 x1 x2 σ
theorem l_X10_handle {N : Mem} {B : Nat} (hN : HN N B) {x0 : Nat} {x1 : Int32} {x2 : Int32} {σ : ST} (hx0 : isC 10 x0) : f_X10_handle (B + x0) x1 x2 (put N B σ) = (g_X10_handle N x0 x1 x2 σ).map (put N B) := by
  unfold f_X10_handle g_X10_handle
  rw [if_pos (isOb_put hx0)]
  exact lmap (l_X10_handle_0 hN _ _ _ _ hx0)
noncomputable def g_X10_decades_49 (N : Mem) (n0 : Nat) (x0 : Nat) (x2 : Int32) (x3 : Int32) (σ : ST) : Option (Int32 × ST) :=
  match n0 with
  | 0 => none
  | n + 1 =>
    if x2 ≤ x3 then
    (some ((σ.1 ((x0 + 1) + 1) 1), σ))
    else
    ((g_X9_renewX N ((x0 + 1) + 1) σ).bind fun r1 =>
    if (jrem (σ.1 ((x0 + 1) + 1) 2) 5) = 4 then
    (if 9999 ≤ (r1.1 ((x0 + 1) + 1) 1) then
    (g_X10_decades_49 N n x0 x2 (x3 + 1) r1)
    else
    ((g_X4_theText N (x0 + 1) r1).bind fun v4 =>
    (g_X0_pass N (x0 + 601) ((x0 + 1) + 1) 20 ((x0 + 1) + 12) v4 r1).bind fun r5 =>
    g_X10_decades_49 N n x0 x2 (x3 + 1) r5.2))
    else
    (if (r1.1 ((x0 + 1) + 1) 0) ≤ 0 then
    (g_X10_decades_49 N n x0 x2 (x3 + 1) r1)
    else
    ((rmI (σ.1 ((x0 + 1) + 1) 2) (r1.1 ((x0 + 1) + 1) 0)).bind fun v2 =>
    (g_X10_handle N x0 v2 (σ.1 ((x0 + 1) + 1) 2) r1).bind fun r3 =>
    g_X10_decades_49 N n x0 x2 (x3 + 1) r3)))
set_option maxHeartbeats 4000000 in
theorem l_X10_decades_49 {N : Mem} {B : Nat} (hN : HN N B) : ∀ (n : Nat) (x0 : Nat) (x2 : Int32) (x3 : Int32) (σ : ST), isC 10 x0 → f_X10_decades_49 n (B + x0) x2 x3 (put N B σ) = (g_X10_decades_49 N n x0 x2 x3 σ).bind (fun q => some (q.1, put N B q.2)) := by
  intro n
  induction n with
  | zero =>
    intro x0 x2 x3 σ hx0
    rfl
  | succ n ih =>
    intro x0 x2 x3 σ hx0
    unfold f_X10_decades_49 g_X10_decades_49
    refine li (fun _ => ?_) (fun _ => ?_)
    · refine lg (gR_10_0 hx0) ?_
      refine lg (gR_4_0 (sh_10_0 hx0)) ?_
      refine lg (gI_9_1 (sh_4_0 (sh_10_0 hx0))) ?_
      rfl
    · refine lg (gR_10_0 hx0) ?_
      refine lg (gR_4_0 (sh_10_0 hx0)) ?_
      refine lg (gI_9_2 (sh_4_0 (sh_10_0 hx0))) ?_
      refine lg (gR_10_0 hx0) ?_
      refine lg (gR_4_0 (sh_10_0 hx0)) ?_
      refine lm (l_X9_renewX hN (sh_4_0 (sh_10_0 hx0))) (fun r1 => ?_)
      refine li (fun _ => ?_) (fun _ => ?_)
      · refine lg (gR_10_0 hx0) ?_
        refine lg (gR_4_0 (sh_10_0 hx0)) ?_
        refine lg (gI_9_1 (sh_4_0 (sh_10_0 hx0))) ?_
        refine li (fun _ => ?_) (fun _ => ?_)
        · exact ih _ _ _ _ hx0
        · refine lg (gR_10_4 hx0) ?_
          refine lg (gR_10_0 hx0) ?_
          refine lg (gR_4_0 (sh_10_0 hx0)) ?_
          refine lg (gR_10_0 hx0) ?_
          refine lg (gR_4_7 (sh_10_0 hx0)) ?_
          refine lg (gR_10_0 hx0) ?_
          refine lb (l_X4_theText hN (sh_10_0 hx0)) (fun v4 => ?_)
          refine lc (l_X0_pass hN (sh_10_4 hx0) (sh_4_0 (sh_10_0 hx0)) (sh_4_7 (sh_10_0 hx0))) (fun r5 => ?_)
          dsimp only
          exact ih _ _ _ _ hx0
      · refine lg (gR_10_0 hx0) ?_
        refine lg (gR_4_0 (sh_10_0 hx0)) ?_
        refine lg (gI_9_0 (sh_4_0 (sh_10_0 hx0))) ?_
        refine li (fun _ => ?_) (fun _ => ?_)
        · exact ih _ _ _ _ hx0
        · refine lg (gR_10_0 hx0) ?_
          refine lg (gR_4_0 (sh_10_0 hx0)) ?_
          refine lg (gI_9_0 (sh_4_0 (sh_10_0 hx0))) ?_
          refine lb (rfl) (fun v2 => ?_)
          refine lm (l_X10_handle hN hx0) (fun r3 => ?_)
          exact ih _ _ _ _ hx0
noncomputable def g_X10_decades_0 (N : Mem) (x0 : Nat) (x1 : Int32) (x2 : Int32) (σ : ST) : Option (Int32 × ST) :=
  (f_X10_within x1 0 9999).bind fun v6 =>
  if v6 = false then
  (some ((-1), σ))
  else
  ((f_X10_within x2 1 40).bind fun v7 =>
  if v7 = true then
  ((g_X4_remember N (x0 + 1) σ).bind fun r8 =>
  (some (setI r8 ((x0 + 1) + 1) 2 ((x1 * 2) + 193))).bind fun r9 =>
  g_X10_decades_49 N fu x0 x2 0 r9)
  else
  (some ((-1), σ)))
set_option maxHeartbeats 4000000 in
theorem l_X10_decades_0 {N : Mem} {B : Nat} (hN : HN N B) : ∀ (x0 : Nat) (x1 : Int32) (x2 : Int32) (σ : ST), isC 10 x0 → f_X10_decades_0 (B + x0) x1 x2 (put N B σ) = (g_X10_decades_0 N x0 x1 x2 σ).bind (fun q => some (q.1, put N B q.2)) := by
  intro x0 x1 x2 σ hx0
  unfold f_X10_decades_0 g_X10_decades_0
  refine lb (rfl) (fun v6 => ?_)
  refine li (fun _ => ?_) (fun _ => ?_)
  · rfl
  · refine lb (rfl) (fun v7 => ?_)
    refine li (fun _ => ?_) (fun _ => ?_)
    · refine lg (gR_10_0 hx0) ?_
      refine lm (l_X4_remember hN (sh_10_0 hx0)) (fun r8 => ?_)
      refine lg (gR_10_0 hx0) ?_
      refine lg (gR_4_0 (sh_10_0 hx0)) ?_
      refine lp (pF_9_2 (sh_4_0 (sh_10_0 hx0))) (fun r9 => ?_)
      exact l_X10_decades_49 hN  _ _ _ _ _ hx0
    · rfl
noncomputable def g_X10_decades (N : Mem) (x0 : Nat) (x1 : Int32) (x2 : Int32) (σ : ST) : Option (Int32 × ST) := g_X10_decades_0 N x0 x1 x2 σ
theorem l_X10_decades {N : Mem} {B : Nat} (hN : HN N B) {x0 : Nat} {x1 : Int32} {x2 : Int32} {σ : ST} (hx0 : isC 10 x0) : f_X10_decades (B + x0) x1 x2 (put N B σ) = (g_X10_decades N x0 x1 x2 σ).bind (fun q => some (q.1, put N B q.2)) := by
  unfold f_X10_decades g_X10_decades
  rw [if_pos (isOb_put hx0)]
  exact l_X10_decades_0 hN _ _ _ _ hx0
noncomputable def g_X10_undo_0 (N : Mem) (x0 : Nat) (σ : ST) : Option (Int32 × ST) :=
  (g_X4_takeBack N (x0 + 1) σ).bind fun r1 =>
  if r1.1 = false then
  (some ((-1), r1.2))
  else
  (some ((r1.2.1 (x0 + 1) 3), r1.2))
set_option maxHeartbeats 4000000 in
theorem l_X10_undo_0 {N : Mem} {B : Nat} (hN : HN N B) : ∀ (x0 : Nat) (σ : ST), isC 10 x0 → f_X10_undo_0 (B + x0) (put N B σ) = (g_X10_undo_0 N x0 σ).bind (fun q => some (q.1, put N B q.2)) := by
  intro x0 σ hx0
  unfold f_X10_undo_0 g_X10_undo_0
  refine lg (gR_10_0 hx0) ?_
  refine lc (l_X4_takeBack hN (sh_10_0 hx0)) (fun r1 => ?_)
  dsimp only
  refine li (fun _ => ?_) (fun _ => ?_)
  · rfl
  · refine lg (gR_10_0 hx0) ?_
    refine lg (gI_4_3 (sh_10_0 hx0)) ?_
    rfl
noncomputable def g_X10_undo (N : Mem) (x0 : Nat) (σ : ST) : Option (Int32 × ST) := g_X10_undo_0 N x0 σ
theorem l_X10_undo {N : Mem} {B : Nat} (hN : HN N B) {x0 : Nat} {σ : ST} (hx0 : isC 10 x0) : f_X10_undo (B + x0) (put N B σ) = (g_X10_undo N x0 σ).bind (fun q => some (q.1, put N B q.2)) := by
  unfold f_X10_undo g_X10_undo
  rw [if_pos (isOb_put hx0)]
  exact l_X10_undo_0 hN _ _ hx0
noncomputable def g_X10_of_0 (N : Mem) (x0 : Nat) (x1 : Int32) (x2 : Int32) (σ : ST) : Option (Int32 × ST) :=
  (g_X9_has N ((x0 + 1) + 1) x1 σ).bind fun v1 =>
  if v1 = true then
  (if x2 = 0 then
  ((xI 5 σ (((x0 + 1) + 1) + 1) x1).bind fun v2 =>
  some (v2, σ))
  else
  (if x2 = 1 then
  ((xI 5 σ (((x0 + 1) + 1) + 3) x1).bind fun v3 =>
  some (v3, σ))
  else
  (if x2 = 2 then
  ((xI 5 σ (((x0 + 1) + 1) + 4) x1).bind fun v4 =>
  some (v4, σ))
  else
  (if x2 = 3 then
  ((xI 5 σ (((x0 + 1) + 1) + 5) x1).bind fun v5 =>
  some (v5, σ))
  else
  (if x2 = 4 then
  ((xI 5 σ (((x0 + 1) + 1) + 6) x1).bind fun v6 =>
  some (v6, σ))
  else
  (if x2 = 5 then
  ((g_X4_theText N (x0 + 1) σ).bind fun v7 =>
  (g_X0_loose N (x0 + 601) v7 ((x0 + 1) + 1) x1 σ).bind fun r8 =>
  some (r8.1, r8.2))
  else
  (if x2 = 6 then
  ((g_X4_theText N (x0 + 1) σ).bind fun v9 =>
  (g_X0_believes N (x0 + 601) v9 ((x0 + 1) + 1) x1 σ).bind fun r10 =>
  some (r10.1, r10.2))
  else
  (if x2 = 7 then
  ((g_X4_theText N (x0 + 1) σ).bind fun v11 =>
  (g_X0_wears N (x0 + 601) v11 ((x0 + 1) + 1) x1 σ).bind fun r12 =>
  some (r12.1, r12.2))
  else
  (if 10 ≤ x2 then
  ((g_X9_rollDigit N ((x0 + 1) + 1) x1 (x2 - 10) σ).bind fun v13 =>
  some (v13, σ))
  else
  (some ((-1), σ)))))))))))
  else
  (some ((-1), σ))
set_option maxHeartbeats 4000000 in
theorem l_X10_of_0 {N : Mem} {B : Nat} (hN : HN N B) : ∀ (x0 : Nat) (x1 : Int32) (x2 : Int32) (σ : ST), isC 10 x0 → f_X10_of_0 (B + x0) x1 x2 (put N B σ) = (g_X10_of_0 N x0 x1 x2 σ).bind (fun q => some (q.1, put N B q.2)) := by
  intro x0 x1 x2 σ hx0
  unfold f_X10_of_0 g_X10_of_0
  refine lg (gR_10_0 hx0) ?_
  refine lg (gR_4_0 (sh_10_0 hx0)) ?_
  refine lb (l_X9_has hN (sh_4_0 (sh_10_0 hx0))) (fun v1 => ?_)
  refine li (fun _ => ?_) (fun _ => ?_)
  · refine li (fun _ => ?_) (fun _ => ?_)
    · refine lg (gR_9_4 (sh_4_0 (sh_10_0 hx0))) ?_
      refine lb (rI_put (sh_9_4 (sh_4_0 (sh_10_0 hx0)))) (fun v2 => ?_)
      rfl
    refine li (fun _ => ?_) (fun _ => ?_)
    · refine lg (gR_9_6 (sh_4_0 (sh_10_0 hx0))) ?_
      refine lb (rI_put (sh_9_6 (sh_4_0 (sh_10_0 hx0)))) (fun v3 => ?_)
      rfl
    refine li (fun _ => ?_) (fun _ => ?_)
    · refine lg (gR_9_7 (sh_4_0 (sh_10_0 hx0))) ?_
      refine lb (rI_put (sh_9_7 (sh_4_0 (sh_10_0 hx0)))) (fun v4 => ?_)
      rfl
    refine li (fun _ => ?_) (fun _ => ?_)
    · refine lg (gR_9_8 (sh_4_0 (sh_10_0 hx0))) ?_
      refine lb (rI_put (sh_9_8 (sh_4_0 (sh_10_0 hx0)))) (fun v5 => ?_)
      rfl
    refine li (fun _ => ?_) (fun _ => ?_)
    · refine lg (gR_9_9 (sh_4_0 (sh_10_0 hx0))) ?_
      refine lb (rI_put (sh_9_9 (sh_4_0 (sh_10_0 hx0)))) (fun v6 => ?_)
      rfl
    refine li (fun _ => ?_) (fun _ => ?_)
    · refine lg (gR_10_4 hx0) ?_
      refine lg (gR_10_0 hx0) ?_
      refine lb (l_X4_theText hN (sh_10_0 hx0)) (fun v7 => ?_)
      refine lc (l_X0_loose hN (sh_10_4 hx0) (sh_4_0 (sh_10_0 hx0))) (fun r8 => ?_)
      dsimp only
      rfl
    refine li (fun _ => ?_) (fun _ => ?_)
    · refine lg (gR_10_4 hx0) ?_
      refine lg (gR_10_0 hx0) ?_
      refine lb (l_X4_theText hN (sh_10_0 hx0)) (fun v9 => ?_)
      refine lc (l_X0_believes hN (sh_10_4 hx0) (sh_4_0 (sh_10_0 hx0))) (fun r10 => ?_)
      dsimp only
      rfl
    refine li (fun _ => ?_) (fun _ => ?_)
    · refine lg (gR_10_4 hx0) ?_
      refine lg (gR_10_0 hx0) ?_
      refine lb (l_X4_theText hN (sh_10_0 hx0)) (fun v11 => ?_)
      refine lc (l_X0_wears hN (sh_10_4 hx0) (sh_4_0 (sh_10_0 hx0))) (fun r12 => ?_)
      dsimp only
      rfl
    refine li (fun _ => ?_) (fun _ => ?_)
    · refine lb (l_X9_rollDigit hN (sh_4_0 (sh_10_0 hx0))) (fun v13 => ?_)
      rfl
    · rfl
  · rfl
noncomputable def g_X10_of (N : Mem) (x0 : Nat) (x1 : Int32) (x2 : Int32) (σ : ST) : Option (Int32 × ST) := g_X10_of_0 N x0 x1 x2 σ
theorem l_X10_of {N : Mem} {B : Nat} (hN : HN N B) {x0 : Nat} {x1 : Int32} {x2 : Int32} {σ : ST} (hx0 : isC 10 x0) : f_X10_of (B + x0) x1 x2 (put N B σ) = (g_X10_of N x0 x1 x2 σ).bind (fun q => some (q.1, put N B q.2)) := by
  unfold f_X10_of g_X10_of
  rw [if_pos (isOb_put hx0)]
  exact l_X10_of_0 hN _ _ _ _ hx0
noncomputable def g_X10_told_0 (N : Mem) (x0 : Nat) (x1 : Int32) (x2 : Bool) (σ : ST) : Option (Int32) :=
  (f_X10_within x1 0 9).bind fun v1 =>
  if v1 = false then
  (some (-1))
  else
  ((f_X10_ruleIndex x1 x2).bind fun v2 =>
  (xI 20 σ ((x0 + 1) + 12) v2).bind fun v3 =>
  some v3)
set_option maxHeartbeats 4000000 in
theorem l_X10_told_0 {N : Mem} {B : Nat} (hN : HN N B) : ∀ (x0 : Nat) (x1 : Int32) (x2 : Bool) (σ : ST), isC 10 x0 → f_X10_told_0 (B + x0) x1 x2 (put N B σ) = (g_X10_told_0 N x0 x1 x2 σ).bind some := by
  intro x0 x1 x2 σ hx0
  unfold f_X10_told_0 g_X10_told_0
  refine lb (rfl) (fun v1 => ?_)
  refine li (fun _ => ?_) (fun _ => ?_)
  · rfl
  · refine lg (gR_10_0 hx0) ?_
    refine lg (gR_4_7 (sh_10_0 hx0)) ?_
    refine lb (rfl) (fun v2 => ?_)
    refine lb (rI_put (sh_4_7 (sh_10_0 hx0))) (fun v3 => ?_)
    rfl
noncomputable def g_X10_told (N : Mem) (x0 : Nat) (x1 : Int32) (x2 : Bool) (σ : ST) : Option (Int32) := g_X10_told_0 N x0 x1 x2 σ
theorem l_X10_told {N : Mem} {B : Nat} (hN : HN N B) {x0 : Nat} {x1 : Int32} {x2 : Bool} {σ : ST} (hx0 : isC 10 x0) : f_X10_told (B + x0) x1 x2 (put N B σ) = g_X10_told N x0 x1 x2 σ := by
  unfold f_X10_told g_X10_told
  rw [if_pos (isOb_put hx0)]
  exact lsm (l_X10_told_0 hN _ _ _ _ hx0)
noncomputable def g_X10_is_0 (N : Mem) (x0 : Nat) (x1 : Int32) (σ : ST) : Option (Int32) :=
  if x1 = 0 then
  (some (σ.1 ((x0 + 1) + 1) 1))
  else
  (if x1 = 1 then
  (some (σ.1 ((x0 + 1) + 1) 2))
  else
  (some (-2)))
set_option maxHeartbeats 4000000 in
theorem l_X10_is_0 {N : Mem} {B : Nat} (hN : HN N B) : ∀ (x0 : Nat) (x1 : Int32) (σ : ST), isC 10 x0 → f_X10_is_0 (B + x0) x1 (put N B σ) = (g_X10_is_0 N x0 x1 σ).bind some := by
  intro x0 x1 σ hx0
  unfold f_X10_is_0 g_X10_is_0
  refine li (fun _ => ?_) (fun _ => ?_)
  · refine lg (gR_10_0 hx0) ?_
    refine lg (gR_4_0 (sh_10_0 hx0)) ?_
    refine lg (gI_9_1 (sh_4_0 (sh_10_0 hx0))) ?_
    rfl
  · refine li (fun _ => ?_) (fun _ => ?_)
    · refine lg (gR_10_0 hx0) ?_
      refine lg (gR_4_0 (sh_10_0 hx0)) ?_
      refine lg (gI_9_2 (sh_4_0 (sh_10_0 hx0))) ?_
      rfl
    · rfl
noncomputable def g_X10_is (N : Mem) (x0 : Nat) (x1 : Int32) (σ : ST) : Option (Int32) := g_X10_is_0 N x0 x1 σ
theorem l_X10_is {N : Mem} {B : Nat} (hN : HN N B) {x0 : Nat} {x1 : Int32} {σ : ST} (hx0 : isC 10 x0) : f_X10_is (B + x0) x1 (put N B σ) = g_X10_is N x0 x1 σ := by
  unfold f_X10_is g_X10_is
  rw [if_pos (isOb_put hx0)]
  exact lsm (l_X10_is_0 hN _ _ _ hx0)
noncomputable def g_X10_book_0 (N : Mem) (x0 : Nat) (x1 : Int32) (x2 : Int32) (σ : ST) : Option (Int32) :=
  if x1 = (-1) then
  (some (σ.1 ((x0 + 1) + 1) 3))
  else
  ((f_X10_within x1 0 ((σ.1 ((x0 + 1) + 1) 3) - 1)).bind fun v1 =>
  if v1 = false then
  (some (-2))
  else
  ((f_X10_within x2 0 3).bind fun v2 =>
  if v2 = true then
  ((xI 120 σ (((x0 + 1) + 1) + 8) ((x1 * 4) + x2)).bind fun v3 =>
  some v3)
  else
  (some (-2))))
set_option maxHeartbeats 4000000 in
theorem l_X10_book_0 {N : Mem} {B : Nat} (hN : HN N B) : ∀ (x0 : Nat) (x1 : Int32) (x2 : Int32) (σ : ST), isC 10 x0 → f_X10_book_0 (B + x0) x1 x2 (put N B σ) = (g_X10_book_0 N x0 x1 x2 σ).bind some := by
  intro x0 x1 x2 σ hx0
  unfold f_X10_book_0 g_X10_book_0
  refine li (fun _ => ?_) (fun _ => ?_)
  · refine lg (gR_10_0 hx0) ?_
    refine lg (gR_4_0 (sh_10_0 hx0)) ?_
    refine lg (gI_9_3 (sh_4_0 (sh_10_0 hx0))) ?_
    rfl
  · refine lg (gR_10_0 hx0) ?_
    refine lg (gR_4_0 (sh_10_0 hx0)) ?_
    refine lg (gI_9_3 (sh_4_0 (sh_10_0 hx0))) ?_
    refine lb (rfl) (fun v1 => ?_)
    refine li (fun _ => ?_) (fun _ => ?_)
    · rfl
    · refine lb (rfl) (fun v2 => ?_)
      refine li (fun _ => ?_) (fun _ => ?_)
      · refine lg (gR_10_0 hx0) ?_
        refine lg (gR_4_0 (sh_10_0 hx0)) ?_
        refine lg (gR_9_11 (sh_4_0 (sh_10_0 hx0))) ?_
        refine lb (rI_put (sh_9_11 (sh_4_0 (sh_10_0 hx0)))) (fun v3 => ?_)
        rfl
      · rfl
noncomputable def g_X10_book (N : Mem) (x0 : Nat) (x1 : Int32) (x2 : Int32) (σ : ST) : Option (Int32) := g_X10_book_0 N x0 x1 x2 σ
theorem l_X10_book {N : Mem} {B : Nat} (hN : HN N B) {x0 : Nat} {x1 : Int32} {x2 : Int32} {σ : ST} (hx0 : isC 10 x0) : f_X10_book (B + x0) x1 x2 (put N B σ) = g_X10_book N x0 x1 x2 σ := by
  unfold f_X10_book g_X10_book
  rw [if_pos (isOb_put hx0)]
  exact lsm (l_X10_book_0 hN _ _ _ _ hx0)
noncomputable def g_X10_foretold_69 (N : Mem) (n0 : Nat) (x0 : Nat) (x2 : Int32) (x3 : Int32) (x4 : Int32) (x5 : Int32) (σ : ST) : Option (Int32 × ST) :=
  match n0 with
  | 0 => none
  | n + 1 =>
    if x4 ≤ x5 then
    (if x3 = 0 then
    ((xI 5 σ ((x0 + 633) + 5) x2).bind fun v3 =>
    some (v3, σ))
    else
    (if x3 = 1 then
    ((xI 5 σ ((x0 + 633) + 3) x2).bind fun v2 =>
    some (v2, σ))
    else
    ((xI 5 σ ((x0 + 633) + 6) x2).bind fun v1 =>
    some (v1, σ))))
    else
    ((g_X4_theText N (x0 + 1) σ).bind fun v4 =>
    (g_X0_pass N (x0 + 601) (x0 + 633) 20 ((x0 + 1) + 12) v4 σ).bind fun r5 =>
    g_X10_foretold_69 N n x0 x2 x3 x4 (x5 + 1) r5.2)
set_option maxHeartbeats 4000000 in
theorem l_X10_foretold_69 {N : Mem} {B : Nat} (hN : HN N B) : ∀ (n : Nat) (x0 : Nat) (x2 : Int32) (x3 : Int32) (x4 : Int32) (x5 : Int32) (σ : ST), isC 10 x0 → f_X10_foretold_69 n (B + x0) x2 x3 x4 x5 (put N B σ) = (g_X10_foretold_69 N n x0 x2 x3 x4 x5 σ).bind (fun q => some (q.1, put N B q.2)) := by
  intro n
  induction n with
  | zero =>
    intro x0 x2 x3 x4 x5 σ hx0
    rfl
  | succ n ih =>
    intro x0 x2 x3 x4 x5 σ hx0
    unfold f_X10_foretold_69 g_X10_foretold_69
    refine li (fun _ => ?_) (fun _ => ?_)
    · refine li (fun _ => ?_) (fun _ => ?_)
      · refine lg (gR_10_8 hx0) ?_
        refine lg (gR_9_8 (sh_10_8 hx0)) ?_
        refine lb (rI_put (sh_9_8 (sh_10_8 hx0))) (fun v3 => ?_)
        rfl
      · refine li (fun _ => ?_) (fun _ => ?_)
        · refine lg (gR_10_8 hx0) ?_
          refine lg (gR_9_6 (sh_10_8 hx0)) ?_
          refine lb (rI_put (sh_9_6 (sh_10_8 hx0))) (fun v2 => ?_)
          rfl
        · refine lg (gR_10_8 hx0) ?_
          refine lg (gR_9_9 (sh_10_8 hx0)) ?_
          refine lb (rI_put (sh_9_9 (sh_10_8 hx0))) (fun v1 => ?_)
          rfl
    · refine lg (gR_10_4 hx0) ?_
      refine lg (gR_10_8 hx0) ?_
      refine lg (gR_10_0 hx0) ?_
      refine lg (gR_4_7 (sh_10_0 hx0)) ?_
      refine lg (gR_10_0 hx0) ?_
      refine lb (l_X4_theText hN (sh_10_0 hx0)) (fun v4 => ?_)
      refine lc (l_X0_pass hN (sh_10_4 hx0) (sh_10_8 hx0) (sh_4_7 (sh_10_0 hx0))) (fun r5 => ?_)
      dsimp only
      exact ih _ _ _ _ _ _ hx0
noncomputable def g_X10_foretold_0 (N : Mem) (x0 : Nat) (x1 : Int32) (x2 : Int32) (x3 : Int32) (σ : ST) : Option (Int32 × ST) :=
  (f_X10_within x1 1 60).bind fun v6 =>
  if v6 = false then
  (some ((-1), σ))
  else
  ((g_X9_has N ((x0 + 1) + 1) x2 σ).bind fun v7 =>
  if v7 = false then
  (some ((-1), σ))
  else
  ((f_X10_within x3 0 2).bind fun v8 =>
  if v8 = true then
  ((g_X9_copyFrom N (x0 + 633) ((x0 + 1) + 1) σ).bind fun r9 =>
  g_X10_foretold_69 N fu x0 x2 x3 (jmin x1 (9999 - (r9.1 (x0 + 633) 1))) 0 r9)
  else
  (some ((-1), σ))))
set_option maxHeartbeats 4000000 in
theorem l_X10_foretold_0 {N : Mem} {B : Nat} (hN : HN N B) : ∀ (x0 : Nat) (x1 : Int32) (x2 : Int32) (x3 : Int32) (σ : ST), isC 10 x0 → f_X10_foretold_0 (B + x0) x1 x2 x3 (put N B σ) = (g_X10_foretold_0 N x0 x1 x2 x3 σ).bind (fun q => some (q.1, put N B q.2)) := by
  intro x0 x1 x2 x3 σ hx0
  unfold f_X10_foretold_0 g_X10_foretold_0
  refine lb (rfl) (fun v6 => ?_)
  refine li (fun _ => ?_) (fun _ => ?_)
  · rfl
  · refine lg (gR_10_0 hx0) ?_
    refine lg (gR_4_0 (sh_10_0 hx0)) ?_
    refine lb (l_X9_has hN (sh_4_0 (sh_10_0 hx0))) (fun v7 => ?_)
    refine li (fun _ => ?_) (fun _ => ?_)
    · rfl
    · refine lb (rfl) (fun v8 => ?_)
      refine li (fun _ => ?_) (fun _ => ?_)
      · refine lg (gR_10_8 hx0) ?_
        refine lg (gR_10_0 hx0) ?_
        refine lg (gR_4_0 (sh_10_0 hx0)) ?_
        refine lm (l_X9_copyFrom hN (sh_10_8 hx0) (sh_4_0 (sh_10_0 hx0))) (fun r9 => ?_)
        refine lg (gR_10_8 hx0) ?_
        refine lg (gI_9_1 (sh_10_8 hx0)) ?_
        exact l_X10_foretold_69 hN  _ _ _ _ _ _ _ hx0
      · rfl
noncomputable def g_X10_foretold (N : Mem) (x0 : Nat) (x1 : Int32) (x2 : Int32) (x3 : Int32) (σ : ST) : Option (Int32 × ST) := g_X10_foretold_0 N x0 x1 x2 x3 σ
theorem l_X10_foretold {N : Mem} {B : Nat} (hN : HN N B) {x0 : Nat} {x1 : Int32} {x2 : Int32} {x3 : Int32} {σ : ST} (hx0 : isC 10 x0) : f_X10_foretold (B + x0) x1 x2 x3 (put N B σ) = (g_X10_foretold N x0 x1 x2 x3 σ).bind (fun q => some (q.1, put N B q.2)) := by
  unfold f_X10_foretold g_X10_foretold
  rw [if_pos (isOb_put hx0)]
  exact l_X10_foretold_0 hN _ _ _ _ _ hx0
noncomputable def g_X10_lengthen_0 (N : Mem) (x0 : Nat) (x1 : Int32) (σ : ST) : Option (Int32 × ST) :=
  if x1 = (-1) then
  ((some (setI σ x0 1 0)).bind fun r3 =>
  some (0, r3))
  else
  ((f_X10_within x1 0 9).bind fun v1 =>
  if v1 = false then
  (some ((-2), σ))
  else
  ((g_X3_append N x0 x1 σ).bind fun r2 =>
  if r2.1 = true then
  (some ((r2.2.1 x0 1), r2.2))
  else
  (some ((-2), r2.2))))
set_option maxHeartbeats 4000000 in
theorem l_X10_lengthen_0 {N : Mem} {B : Nat} (hN : HN N B) : ∀ (x0 : Nat) (x1 : Int32) (σ : ST), isC 3 x0 → f_X10_lengthen_0 (B + x0) x1 (put N B σ) = (g_X10_lengthen_0 N x0 x1 σ).bind (fun q => some (q.1, put N B q.2)) := by
  intro x0 x1 σ hx0
  unfold f_X10_lengthen_0 g_X10_lengthen_0
  refine li (fun _ => ?_) (fun _ => ?_)
  · refine lp (pF_3_1 hx0) (fun r3 => ?_)
    rfl
  · refine lb (rfl) (fun v1 => ?_)
    refine li (fun _ => ?_) (fun _ => ?_)
    · rfl
    · refine lc (l_X3_append hN hx0) (fun r2 => ?_)
      dsimp only
      refine li (fun _ => ?_) (fun _ => ?_)
      · refine lg (gI_3_1 hx0) ?_
        rfl
      · rfl
noncomputable def g_X10_lengthen (N : Mem) (x0 : Nat) (x1 : Int32) (σ : ST) : Option (Int32 × ST) := g_X10_lengthen_0 N x0 x1 σ
theorem l_X10_lengthen {N : Mem} {B : Nat} (hN : HN N B) {x0 : Nat} {x1 : Int32} {σ : ST} (hx0 : isC 3 x0) : f_X10_lengthen (B + x0) x1 (put N B σ) = (g_X10_lengthen N x0 x1 σ).bind (fun q => some (q.1, put N B q.2)) := by
  unfold f_X10_lengthen g_X10_lengthen
  exact l_X10_lengthen_0 hN _ _ _ hx0
noncomputable def g_X10_put_0 (N : Mem) (x0 : Nat) (x1 : Int32) (σ : ST) : Option (Int32 × ST) :=
  (g_X10_lengthen N ((x0 + 1) + 13) x1 σ).bind fun r1 =>
  some (r1.1, r1.2)
set_option maxHeartbeats 4000000 in
theorem l_X10_put_0 {N : Mem} {B : Nat} (hN : HN N B) : ∀ (x0 : Nat) (x1 : Int32) (σ : ST), isC 10 x0 → f_X10_put_0 (B + x0) x1 (put N B σ) = (g_X10_put_0 N x0 x1 σ).bind (fun q => some (q.1, put N B q.2)) := by
  intro x0 x1 σ hx0
  unfold f_X10_put_0 g_X10_put_0
  refine lg (gR_10_0 hx0) ?_
  refine lg (gR_4_8 (sh_10_0 hx0)) ?_
  refine lc (l_X10_lengthen hN (sh_4_8 (sh_10_0 hx0))) (fun r1 => ?_)
  dsimp only
  rfl
noncomputable def g_X10_put (N : Mem) (x0 : Nat) (x1 : Int32) (σ : ST) : Option (Int32 × ST) := g_X10_put_0 N x0 x1 σ
theorem l_X10_put {N : Mem} {B : Nat} (hN : HN N B) {x0 : Nat} {x1 : Int32} {σ : ST} (hx0 : isC 10 x0) : f_X10_put (B + x0) x1 (put N B σ) = (g_X10_put N x0 x1 σ).bind (fun q => some (q.1, put N B q.2)) := by
  unfold f_X10_put g_X10_put
  rw [if_pos (isOb_put hx0)]
  exact l_X10_put_0 hN _ _ _ hx0
noncomputable def g_X10_may_0 (N : Mem) (x0 : Nat) (x1 : Int32) (σ : ST) : Option (Int64 × ST) :=
  (f_X10_within x1 0 9999).bind fun v1 =>
  if v1 = true then
  ((g_X6_weigh N (x0 + 603) x1 ((x0 + 1) + 13) 20 ((x0 + 1) + 12) 1 1 σ).bind fun r2 =>
  some ((Int32.toInt64 r2.1), r2.2))
  else
  (some ((-1), σ))
set_option maxHeartbeats 4000000 in
theorem l_X10_may_0 {N : Mem} {B : Nat} (hN : HN N B) : ∀ (x0 : Nat) (x1 : Int32) (σ : ST), isC 10 x0 → f_X10_may_0 (B + x0) x1 (put N B σ) = (g_X10_may_0 N x0 x1 σ).bind (fun q => some (q.1, put N B q.2)) := by
  intro x0 x1 σ hx0
  unfold f_X10_may_0 g_X10_may_0
  refine lb (rfl) (fun v1 => ?_)
  refine li (fun _ => ?_) (fun _ => ?_)
  · refine lg (gR_10_5 hx0) ?_
    refine lg (gR_10_0 hx0) ?_
    refine lg (gR_4_8 (sh_10_0 hx0)) ?_
    refine lg (gR_10_0 hx0) ?_
    refine lg (gR_4_7 (sh_10_0 hx0)) ?_
    refine lc (l_X6_weigh hN (sh_10_5 hx0) (sh_4_8 (sh_10_0 hx0)) (sh_4_7 (sh_10_0 hx0))) (fun r2 => ?_)
    dsimp only
    rfl
  · rfl
noncomputable def g_X10_may (N : Mem) (x0 : Nat) (x1 : Int32) (σ : ST) : Option (Int64 × ST) := g_X10_may_0 N x0 x1 σ
theorem l_X10_may {N : Mem} {B : Nat} (hN : HN N B) {x0 : Nat} {x1 : Int32} {σ : ST} (hx0 : isC 10 x0) : f_X10_may (B + x0) x1 (put N B σ) = (g_X10_may N x0 x1 σ).bind (fun q => some (q.1, put N B q.2)) := by
  unfold f_X10_may g_X10_may
  rw [if_pos (isOb_put hx0)]
  exact l_X10_may_0 hN _ _ _ hx0
noncomputable def g_X10_odds_0 (N : Mem) (x0 : Nat) (x1 : Int32) (x2 : Int32) (x3 : Bool) (σ : ST) : Option (Int64 × ST) :=
  (f_X10_within x1 0 9999).bind fun v1 =>
  if v1 = false then
  (some ((-1), σ))
  else
  ((f_X10_within x2 0 10).bind fun v2 =>
  if v2 = true then
  ((g_X6_chance N (x0 + 603) x1 ((x0 + 1) + 13) 20 ((x0 + 1) + 12) x2 σ).bind fun r3 =>
  (f_X10_commonDivisor r3.1 10000).bind fun v4 =>
  if x3 = false then
  ((dvI r3.1 v4).bind fun v5 =>
  some ((Int32.toInt64 v5), r3.2))
  else
  ((dvI 10000 v4).bind fun v6 =>
  some ((Int32.toInt64 v6), r3.2)))
  else
  (some ((-1), σ)))
set_option maxHeartbeats 4000000 in
theorem l_X10_odds_0 {N : Mem} {B : Nat} (hN : HN N B) : ∀ (x0 : Nat) (x1 : Int32) (x2 : Int32) (x3 : Bool) (σ : ST), isC 10 x0 → f_X10_odds_0 (B + x0) x1 x2 x3 (put N B σ) = (g_X10_odds_0 N x0 x1 x2 x3 σ).bind (fun q => some (q.1, put N B q.2)) := by
  intro x0 x1 x2 x3 σ hx0
  unfold f_X10_odds_0 g_X10_odds_0
  refine lb (rfl) (fun v1 => ?_)
  refine li (fun _ => ?_) (fun _ => ?_)
  · rfl
  · refine lb (rfl) (fun v2 => ?_)
    refine li (fun _ => ?_) (fun _ => ?_)
    · refine lg (gR_10_5 hx0) ?_
      refine lg (gR_10_0 hx0) ?_
      refine lg (gR_4_8 (sh_10_0 hx0)) ?_
      refine lg (gR_10_0 hx0) ?_
      refine lg (gR_4_7 (sh_10_0 hx0)) ?_
      refine lc (l_X6_chance hN (sh_10_5 hx0) (sh_4_8 (sh_10_0 hx0)) (sh_4_7 (sh_10_0 hx0))) (fun r3 => ?_)
      dsimp only
      refine lb (rfl) (fun v4 => ?_)
      refine li (fun _ => ?_) (fun _ => ?_)
      · refine lb (rfl) (fun v5 => ?_)
        rfl
      · refine lb (rfl) (fun v6 => ?_)
        rfl
    · rfl
noncomputable def g_X10_odds (N : Mem) (x0 : Nat) (x1 : Int32) (x2 : Int32) (x3 : Bool) (σ : ST) : Option (Int64 × ST) := g_X10_odds_0 N x0 x1 x2 x3 σ
theorem l_X10_odds {N : Mem} {B : Nat} (hN : HN N B) {x0 : Nat} {x1 : Int32} {x2 : Int32} {x3 : Bool} {σ : ST} (hx0 : isC 10 x0) : f_X10_odds (B + x0) x1 x2 x3 (put N B σ) = (g_X10_odds N x0 x1 x2 x3 σ).bind (fun q => some (q.1, put N B q.2)) := by
  unfold f_X10_odds g_X10_odds
  rw [if_pos (isOb_put hx0)]
  exact l_X10_odds_0 hN _ _ _ _ _ hx0
noncomputable def g_X10_day_0 (N : Mem) (x0 : Nat) (x1 : Int32) (σ : ST) : Option (Int32 × ST) :=
  if x1 = (-1) then
  ((some (setI σ ((x0 + 1) + 17) 1 0)).bind fun r3 =>
  some (0, r3))
  else
  ((f_X10_within x1 0 9999).bind fun v1 =>
  if v1 = false then
  (some ((-2), σ))
  else
  ((g_X3_append N ((x0 + 1) + 17) x1 σ).bind fun r2 =>
  if r2.1 = true then
  (some ((r2.2.1 ((x0 + 1) + 17) 1), r2.2))
  else
  (some ((-2), r2.2))))
set_option maxHeartbeats 4000000 in
theorem l_X10_day_0 {N : Mem} {B : Nat} (hN : HN N B) : ∀ (x0 : Nat) (x1 : Int32) (σ : ST), isC 10 x0 → f_X10_day_0 (B + x0) x1 (put N B σ) = (g_X10_day_0 N x0 x1 σ).bind (fun q => some (q.1, put N B q.2)) := by
  intro x0 x1 σ hx0
  unfold f_X10_day_0 g_X10_day_0
  refine li (fun _ => ?_) (fun _ => ?_)
  · refine lg (gR_10_0 hx0) ?_
    refine lg (gR_4_10 (sh_10_0 hx0)) ?_
    refine lp (pF_3_1 (sh_4_10 (sh_10_0 hx0))) (fun r3 => ?_)
    rfl
  · refine lb (rfl) (fun v1 => ?_)
    refine li (fun _ => ?_) (fun _ => ?_)
    · rfl
    · refine lg (gR_10_0 hx0) ?_
      refine lg (gR_4_10 (sh_10_0 hx0)) ?_
      refine lc (l_X3_append hN (sh_4_10 (sh_10_0 hx0))) (fun r2 => ?_)
      dsimp only
      refine li (fun _ => ?_) (fun _ => ?_)
      · refine lg (gR_10_0 hx0) ?_
        refine lg (gR_4_10 (sh_10_0 hx0)) ?_
        refine lg (gI_3_1 (sh_4_10 (sh_10_0 hx0))) ?_
        rfl
      · rfl
noncomputable def g_X10_day (N : Mem) (x0 : Nat) (x1 : Int32) (σ : ST) : Option (Int32 × ST) := g_X10_day_0 N x0 x1 σ
theorem l_X10_day {N : Mem} {B : Nat} (hN : HN N B) {x0 : Nat} {x1 : Int32} {σ : ST} (hx0 : isC 10 x0) : f_X10_day (B + x0) x1 (put N B σ) = (g_X10_day N x0 x1 σ).bind (fun q => some (q.1, put N B q.2)) := by
  unfold f_X10_day g_X10_day
  rw [if_pos (isOb_put hx0)]
  exact l_X10_day_0 hN _ _ _ hx0
noncomputable def g_X10_fits_4 (N : Mem) (n0 : Nat) (x0 : Nat) (x1 : Int32) (x2 : Int32) (σ : ST) : Option (Int32 × ST) :=
  match n0 with
  | 0 => none
  | n + 1 =>
    if (σ.1 ((x0 + 1) + 17) 1) ≤ x2 then
    (some (x1, σ))
    else
    ((g_X3_get N ((x0 + 1) + 17) x2 σ).bind fun v1 =>
    (g_X6_weigh N (x0 + 603) v1 ((x0 + 1) + 13) 20 ((x0 + 1) + 12) 1 1 σ).bind fun r2 =>
    if r2.1 ≤ 0 then
    (g_X10_fits_4 N n x0 x1 (x2 + 1) r2.2)
    else
    (g_X10_fits_4 N n x0 (x1 ||| (jshl 1 x2)) (x2 + 1) r2.2))
set_option maxHeartbeats 4000000 in
theorem l_X10_fits_4 {N : Mem} {B : Nat} (hN : HN N B) : ∀ (n : Nat) (x0 : Nat) (x1 : Int32) (x2 : Int32) (σ : ST), isC 10 x0 → f_X10_fits_4 n (B + x0) x1 x2 (put N B σ) = (g_X10_fits_4 N n x0 x1 x2 σ).bind (fun q => some (q.1, put N B q.2)) := by
  intro n
  induction n with
  | zero =>
    intro x0 x1 x2 σ hx0
    rfl
  | succ n ih =>
    intro x0 x1 x2 σ hx0
    unfold f_X10_fits_4 g_X10_fits_4
    refine lg (gR_10_0 hx0) ?_
    refine lg (gR_4_10 (sh_10_0 hx0)) ?_
    refine lg (gI_3_1 (sh_4_10 (sh_10_0 hx0))) ?_
    refine li (fun _ => ?_) (fun _ => ?_)
    · rfl
    · refine lg (gR_10_5 hx0) ?_
      refine lg (gR_10_0 hx0) ?_
      refine lg (gR_4_10 (sh_10_0 hx0)) ?_
      refine lb (l_X3_get hN (sh_4_10 (sh_10_0 hx0))) (fun v1 => ?_)
      refine lg (gR_10_0 hx0) ?_
      refine lg (gR_4_8 (sh_10_0 hx0)) ?_
      refine lg (gR_10_0 hx0) ?_
      refine lg (gR_4_7 (sh_10_0 hx0)) ?_
      refine lc (l_X6_weigh hN (sh_10_5 hx0) (sh_4_8 (sh_10_0 hx0)) (sh_4_7 (sh_10_0 hx0))) (fun r2 => ?_)
      dsimp only
      refine li (fun _ => ?_) (fun _ => ?_)
      · exact ih _ _ _ _ hx0
      · exact ih _ _ _ _ hx0
noncomputable def g_X10_fits_0 (N : Mem) (x0 : Nat) (σ : ST) : Option (Int32 × ST) :=
  g_X10_fits_4 N fu x0 0 0 σ
set_option maxHeartbeats 4000000 in
theorem l_X10_fits_0 {N : Mem} {B : Nat} (hN : HN N B) : ∀ (x0 : Nat) (σ : ST), isC 10 x0 → f_X10_fits_0 (B + x0) (put N B σ) = (g_X10_fits_0 N x0 σ).bind (fun q => some (q.1, put N B q.2)) := by
  intro x0 σ hx0
  unfold f_X10_fits_0 g_X10_fits_0
  exact l_X10_fits_4 hN  _ _ _ _ _ hx0
noncomputable def g_X10_fits (N : Mem) (x0 : Nat) (σ : ST) : Option (Int32 × ST) := g_X10_fits_0 N x0 σ
theorem l_X10_fits {N : Mem} {B : Nat} (hN : HN N B) {x0 : Nat} {σ : ST} (hx0 : isC 10 x0) : f_X10_fits (B + x0) (put N B σ) = (g_X10_fits N x0 σ).bind (fun q => some (q.1, put N B q.2)) := by
  unfold f_X10_fits g_X10_fits
  rw [if_pos (isOb_put hx0)]
  exact l_X10_fits_0 hN _ _ hx0
noncomputable def g_X10_likeliest_19 (N : Mem) (n0 : Nat) (x0 : Nat) (x1 : Int32) (x2 : Int32) (x3 : Int32) (x4 : Int32) (σ : ST) : Option (Int32 × ST) :=
  match n0 with
  | 0 => none
  | n + 1 =>
    if (σ.1 ((x0 + 1) + 17) 1) ≤ x4 then
    (some (x2, σ))
    else
    ((g_X3_get N ((x0 + 1) + 17) x4 σ).bind fun v1 =>
    (g_X6_chance N (x0 + 603) v1 ((x0 + 1) + 13) 20 ((x0 + 1) + 12) x1 σ).bind fun r2 =>
    if r2.1 ≤ x3 then
    (g_X10_likeliest_19 N n x0 x1 x2 x3 (x4 + 1) r2.2)
    else
    (g_X10_likeliest_19 N n x0 x1 x4 r2.1 (x4 + 1) r2.2))
set_option maxHeartbeats 4000000 in
theorem l_X10_likeliest_19 {N : Mem} {B : Nat} (hN : HN N B) : ∀ (n : Nat) (x0 : Nat) (x1 : Int32) (x2 : Int32) (x3 : Int32) (x4 : Int32) (σ : ST), isC 10 x0 → f_X10_likeliest_19 n (B + x0) x1 x2 x3 x4 (put N B σ) = (g_X10_likeliest_19 N n x0 x1 x2 x3 x4 σ).bind (fun q => some (q.1, put N B q.2)) := by
  intro n
  induction n with
  | zero =>
    intro x0 x1 x2 x3 x4 σ hx0
    rfl
  | succ n ih =>
    intro x0 x1 x2 x3 x4 σ hx0
    unfold f_X10_likeliest_19 g_X10_likeliest_19
    refine lg (gR_10_0 hx0) ?_
    refine lg (gR_4_10 (sh_10_0 hx0)) ?_
    refine lg (gI_3_1 (sh_4_10 (sh_10_0 hx0))) ?_
    refine li (fun _ => ?_) (fun _ => ?_)
    · rfl
    · refine lg (gR_10_5 hx0) ?_
      refine lg (gR_10_0 hx0) ?_
      refine lg (gR_4_10 (sh_10_0 hx0)) ?_
      refine lb (l_X3_get hN (sh_4_10 (sh_10_0 hx0))) (fun v1 => ?_)
      refine lg (gR_10_0 hx0) ?_
      refine lg (gR_4_8 (sh_10_0 hx0)) ?_
      refine lg (gR_10_0 hx0) ?_
      refine lg (gR_4_7 (sh_10_0 hx0)) ?_
      refine lc (l_X6_chance hN (sh_10_5 hx0) (sh_4_8 (sh_10_0 hx0)) (sh_4_7 (sh_10_0 hx0))) (fun r2 => ?_)
      dsimp only
      refine li (fun _ => ?_) (fun _ => ?_)
      · exact ih _ _ _ _ _ _ hx0
      · exact ih _ _ _ _ _ _ hx0
noncomputable def g_X10_likeliest_0 (N : Mem) (x0 : Nat) (x1 : Int32) (σ : ST) : Option (Int32 × ST) :=
  (f_X10_within x1 0 10).bind fun v3 =>
  if v3 = true then
  (g_X10_likeliest_19 N fu x0 x1 (-1) 0 0 σ)
  else
  (some ((-1), σ))
set_option maxHeartbeats 4000000 in
theorem l_X10_likeliest_0 {N : Mem} {B : Nat} (hN : HN N B) : ∀ (x0 : Nat) (x1 : Int32) (σ : ST), isC 10 x0 → f_X10_likeliest_0 (B + x0) x1 (put N B σ) = (g_X10_likeliest_0 N x0 x1 σ).bind (fun q => some (q.1, put N B q.2)) := by
  intro x0 x1 σ hx0
  unfold f_X10_likeliest_0 g_X10_likeliest_0
  refine lb (rfl) (fun v3 => ?_)
  refine li (fun _ => ?_) (fun _ => ?_)
  · exact l_X10_likeliest_19 hN  _ _ _ _ _ _ _ hx0
  · rfl
noncomputable def g_X10_likeliest (N : Mem) (x0 : Nat) (x1 : Int32) (σ : ST) : Option (Int32 × ST) := g_X10_likeliest_0 N x0 x1 σ
theorem l_X10_likeliest {N : Mem} {B : Nat} (hN : HN N B) {x0 : Nat} {x1 : Int32} {σ : ST} (hx0 : isC 10 x0) : f_X10_likeliest (B + x0) x1 (put N B σ) = (g_X10_likeliest N x0 x1 σ).bind (fun q => some (q.1, put N B q.2)) := by
  unfold f_X10_likeliest g_X10_likeliest
  rw [if_pos (isOb_put hx0)]
  exact l_X10_likeliest_0 hN _ _ _ hx0
noncomputable def g_X10_add_0 (N : Mem) (x0 : Nat) (x1 : Int32) (σ : ST) : Option (Int32 × ST) :=
  (g_X6_fewest N (x0 + 603) ((x0 + 1) + 13) 20 ((x0 + 1) + 12) σ).bind fun r1 =>
  if x1 = (-1) then
  (if (r1.1 ((x0 + 603) + 1) 1) ≤ 0 then
  (some ((-2), r1))
  else
  (some ((r1.1 ((x0 + 603) + 1) 1), r1)))
  else
  ((g_X3_has N ((x0 + 603) + 1) x1 r1).bind fun v2 =>
  if v2 = false then
  (some ((-2), r1))
  else
  ((g_X3_get N ((x0 + 603) + 1) x1 r1).bind fun v3 =>
  some (v3, r1)))
set_option maxHeartbeats 4000000 in
theorem l_X10_add_0 {N : Mem} {B : Nat} (hN : HN N B) : ∀ (x0 : Nat) (x1 : Int32) (σ : ST), isC 10 x0 → f_X10_add_0 (B + x0) x1 (put N B σ) = (g_X10_add_0 N x0 x1 σ).bind (fun q => some (q.1, put N B q.2)) := by
  intro x0 x1 σ hx0
  unfold f_X10_add_0 g_X10_add_0
  refine lg (gR_10_5 hx0) ?_
  refine lg (gR_10_0 hx0) ?_
  refine lg (gR_4_8 (sh_10_0 hx0)) ?_
  refine lg (gR_10_0 hx0) ?_
  refine lg (gR_4_7 (sh_10_0 hx0)) ?_
  refine lm (l_X6_fewest hN (sh_10_5 hx0) (sh_4_8 (sh_10_0 hx0)) (sh_4_7 (sh_10_0 hx0))) (fun r1 => ?_)
  refine li (fun _ => ?_) (fun _ => ?_)
  · refine lg (gR_10_5 hx0) ?_
    refine lg (gR_6_0 (sh_10_5 hx0)) ?_
    refine lg (gI_3_1 (sh_6_0 (sh_10_5 hx0))) ?_
    refine li (fun _ => ?_) (fun _ => ?_)
    · rfl
    · refine lg (gR_10_5 hx0) ?_
      refine lg (gR_6_0 (sh_10_5 hx0)) ?_
      refine lg (gI_3_1 (sh_6_0 (sh_10_5 hx0))) ?_
      rfl
  · refine lg (gR_10_5 hx0) ?_
    refine lg (gR_6_0 (sh_10_5 hx0)) ?_
    refine lb (l_X3_has hN (sh_6_0 (sh_10_5 hx0))) (fun v2 => ?_)
    refine li (fun _ => ?_) (fun _ => ?_)
    · rfl
    · refine lg (gR_10_5 hx0) ?_
      refine lg (gR_6_0 (sh_10_5 hx0)) ?_
      refine lb (l_X3_get hN (sh_6_0 (sh_10_5 hx0))) (fun v3 => ?_)
      rfl
noncomputable def g_X10_add (N : Mem) (x0 : Nat) (x1 : Int32) (σ : ST) : Option (Int32 × ST) := g_X10_add_0 N x0 x1 σ
theorem l_X10_add {N : Mem} {B : Nat} (hN : HN N B) {x0 : Nat} {x1 : Int32} {σ : ST} (hx0 : isC 10 x0) : f_X10_add (B + x0) x1 (put N B σ) = (g_X10_add N x0 x1 σ).bind (fun q => some (q.1, put N B q.2)) := by
  unfold f_X10_add g_X10_add
  rw [if_pos (isOb_put hx0)]
  exact l_X10_add_0 hN _ _ _ hx0
noncomputable def g_X10_second_0 (N : Mem) (x0 : Nat) (x1 : Int32) (σ : ST) : Option (Int32 × ST) :=
  (g_X10_lengthen N ((x0 + 1) + 15) x1 σ).bind fun r1 =>
  some (r1.1, r1.2)
set_option maxHeartbeats 4000000 in
theorem l_X10_second_0 {N : Mem} {B : Nat} (hN : HN N B) : ∀ (x0 : Nat) (x1 : Int32) (σ : ST), isC 10 x0 → f_X10_second_0 (B + x0) x1 (put N B σ) = (g_X10_second_0 N x0 x1 σ).bind (fun q => some (q.1, put N B q.2)) := by
  intro x0 x1 σ hx0
  unfold f_X10_second_0 g_X10_second_0
  refine lg (gR_10_0 hx0) ?_
  refine lg (gR_4_9 (sh_10_0 hx0)) ?_
  refine lc (l_X10_lengthen hN (sh_4_9 (sh_10_0 hx0))) (fun r1 => ?_)
  dsimp only
  rfl
noncomputable def g_X10_second (N : Mem) (x0 : Nat) (x1 : Int32) (σ : ST) : Option (Int32 × ST) := g_X10_second_0 N x0 x1 σ
theorem l_X10_second {N : Mem} {B : Nat} (hN : HN N B) {x0 : Nat} {x1 : Int32} {σ : ST} (hx0 : isC 10 x0) : f_X10_second (B + x0) x1 (put N B σ) = (g_X10_second N x0 x1 σ).bind (fun q => some (q.1, put N B q.2)) := by
  unfold f_X10_second g_X10_second
  rw [if_pos (isOb_put hx0)]
  exact l_X10_second_0 hN _ _ _ hx0
noncomputable def g_X10_duet_0 (N : Mem) (x0 : Nat) (x1 : Int32) (x2 : Int32) (σ : ST) : Option (Int32 × ST) :=
  (f_X10_within x1 0 9999).bind fun v1 =>
  if v1 = false then
  (some ((-1), σ))
  else
  ((f_X10_within x2 0 9999).bind fun v2 =>
  if v2 = true then
  ((g_X6_woven N (x0 + 603) x1 x2 ((x0 + 1) + 13) σ).bind fun r3 =>
  some (r3.1, r3.2))
  else
  (some ((-1), σ)))
set_option maxHeartbeats 4000000 in
theorem l_X10_duet_0 {N : Mem} {B : Nat} (hN : HN N B) : ∀ (x0 : Nat) (x1 : Int32) (x2 : Int32) (σ : ST), isC 10 x0 → f_X10_duet_0 (B + x0) x1 x2 (put N B σ) = (g_X10_duet_0 N x0 x1 x2 σ).bind (fun q => some (q.1, put N B q.2)) := by
  intro x0 x1 x2 σ hx0
  unfold f_X10_duet_0 g_X10_duet_0
  refine lb (rfl) (fun v1 => ?_)
  refine li (fun _ => ?_) (fun _ => ?_)
  · rfl
  · refine lb (rfl) (fun v2 => ?_)
    refine li (fun _ => ?_) (fun _ => ?_)
    · refine lg (gR_10_5 hx0) ?_
      refine lg (gR_10_0 hx0) ?_
      refine lg (gR_4_8 (sh_10_0 hx0)) ?_
      refine lc (l_X6_woven hN (sh_10_5 hx0) (sh_4_8 (sh_10_0 hx0))) (fun r3 => ?_)
      dsimp only
      rfl
    · rfl
noncomputable def g_X10_duet (N : Mem) (x0 : Nat) (x1 : Int32) (x2 : Int32) (σ : ST) : Option (Int32 × ST) := g_X10_duet_0 N x0 x1 x2 σ
theorem l_X10_duet {N : Mem} {B : Nat} (hN : HN N B) {x0 : Nat} {x1 : Int32} {x2 : Int32} {σ : ST} (hx0 : isC 10 x0) : f_X10_duet (B + x0) x1 x2 (put N B σ) = (g_X10_duet N x0 x1 x2 σ).bind (fun q => some (q.1, put N B q.2)) := by
  unfold f_X10_duet g_X10_duet
  rw [if_pos (isOb_put hx0)]
  exact l_X10_duet_0 hN _ _ _ _ hx0
noncomputable def g_X10_common_0 (N : Mem) (x0 : Nat) (x1 : Int32) (σ : ST) : Option (Int32 × ST) :=
  (g_X6_longestInBoth N (x0 + 603) ((x0 + 1) + 13) ((x0 + 1) + 15) σ).bind fun r1 =>
  if x1 = (-1) then
  (some ((r1.1 ((x0 + 603) + 1) 1), r1))
  else
  ((g_X3_has N ((x0 + 603) + 1) x1 r1).bind fun v2 =>
  if v2 = false then
  (some ((-2), r1))
  else
  ((g_X3_get N ((x0 + 603) + 1) x1 r1).bind fun v3 =>
  some (v3, r1)))
set_option maxHeartbeats 4000000 in
theorem l_X10_common_0 {N : Mem} {B : Nat} (hN : HN N B) : ∀ (x0 : Nat) (x1 : Int32) (σ : ST), isC 10 x0 → f_X10_common_0 (B + x0) x1 (put N B σ) = (g_X10_common_0 N x0 x1 σ).bind (fun q => some (q.1, put N B q.2)) := by
  intro x0 x1 σ hx0
  unfold f_X10_common_0 g_X10_common_0
  refine lg (gR_10_5 hx0) ?_
  refine lg (gR_10_0 hx0) ?_
  refine lg (gR_4_8 (sh_10_0 hx0)) ?_
  refine lg (gR_10_0 hx0) ?_
  refine lg (gR_4_9 (sh_10_0 hx0)) ?_
  refine lm (l_X6_longestInBoth hN (sh_10_5 hx0) (sh_4_8 (sh_10_0 hx0)) (sh_4_9 (sh_10_0 hx0))) (fun r1 => ?_)
  refine li (fun _ => ?_) (fun _ => ?_)
  · refine lg (gR_10_5 hx0) ?_
    refine lg (gR_6_0 (sh_10_5 hx0)) ?_
    refine lg (gI_3_1 (sh_6_0 (sh_10_5 hx0))) ?_
    rfl
  · refine lg (gR_10_5 hx0) ?_
    refine lg (gR_6_0 (sh_10_5 hx0)) ?_
    refine lb (l_X3_has hN (sh_6_0 (sh_10_5 hx0))) (fun v2 => ?_)
    refine li (fun _ => ?_) (fun _ => ?_)
    · rfl
    · refine lg (gR_10_5 hx0) ?_
      refine lg (gR_6_0 (sh_10_5 hx0)) ?_
      refine lb (l_X3_get hN (sh_6_0 (sh_10_5 hx0))) (fun v3 => ?_)
      rfl
noncomputable def g_X10_common (N : Mem) (x0 : Nat) (x1 : Int32) (σ : ST) : Option (Int32 × ST) := g_X10_common_0 N x0 x1 σ
theorem l_X10_common {N : Mem} {B : Nat} (hN : HN N B) {x0 : Nat} {x1 : Int32} {σ : ST} (hx0 : isC 10 x0) : f_X10_common (B + x0) x1 (put N B σ) = (g_X10_common N x0 x1 σ).bind (fun q => some (q.1, put N B q.2)) := by
  unfold f_X10_common g_X10_common
  rw [if_pos (isOb_put hx0)]
  exact l_X10_common_0 hN _ _ _ hx0
noncomputable def g_X10_apart_0 (N : Mem) (x0 : Nat) (σ : ST) : Option (Int32 × ST) :=
  (g_X6_distance N (x0 + 603) ((x0 + 1) + 13) ((x0 + 1) + 15) σ).bind fun r1 =>
  some (r1.1, r1.2)
set_option maxHeartbeats 4000000 in
theorem l_X10_apart_0 {N : Mem} {B : Nat} (hN : HN N B) : ∀ (x0 : Nat) (σ : ST), isC 10 x0 → f_X10_apart_0 (B + x0) (put N B σ) = (g_X10_apart_0 N x0 σ).bind (fun q => some (q.1, put N B q.2)) := by
  intro x0 σ hx0
  unfold f_X10_apart_0 g_X10_apart_0
  refine lg (gR_10_5 hx0) ?_
  refine lg (gR_10_0 hx0) ?_
  refine lg (gR_4_8 (sh_10_0 hx0)) ?_
  refine lg (gR_10_0 hx0) ?_
  refine lg (gR_4_9 (sh_10_0 hx0)) ?_
  refine lc (l_X6_distance hN (sh_10_5 hx0) (sh_4_8 (sh_10_0 hx0)) (sh_4_9 (sh_10_0 hx0))) (fun r1 => ?_)
  dsimp only
  rfl
noncomputable def g_X10_apart (N : Mem) (x0 : Nat) (σ : ST) : Option (Int32 × ST) := g_X10_apart_0 N x0 σ
theorem l_X10_apart {N : Mem} {B : Nat} (hN : HN N B) {x0 : Nat} {σ : ST} (hx0 : isC 10 x0) : f_X10_apart (B + x0) (put N B σ) = (g_X10_apart N x0 σ).bind (fun q => some (q.1, put N B q.2)) := by
  unfold f_X10_apart g_X10_apart
  rw [if_pos (isOb_put hx0)]
  exact l_X10_apart_0 hN _ _ hx0
noncomputable def g_X10_grows_0 (N : Mem) (x0 : Nat) (x1 : Int32) (x2 : Int32) (σ : ST) : Option (Int32 × ST) :=
  (f_X10_within x1 0 9999).bind fun v1 =>
  if v1 = false then
  (some ((-1), σ))
  else
  ((f_X10_within x2 0 12).bind fun v2 =>
  if v2 = true then
  ((g_X6_grown N (x0 + 603) x1 x2 20 ((x0 + 1) + 12) σ).bind fun r3 =>
  some (r3.1, r3.2))
  else
  (some ((-1), σ)))
set_option maxHeartbeats 4000000 in
theorem l_X10_grows_0 {N : Mem} {B : Nat} (hN : HN N B) : ∀ (x0 : Nat) (x1 : Int32) (x2 : Int32) (σ : ST), isC 10 x0 → f_X10_grows_0 (B + x0) x1 x2 (put N B σ) = (g_X10_grows_0 N x0 x1 x2 σ).bind (fun q => some (q.1, put N B q.2)) := by
  intro x0 x1 x2 σ hx0
  unfold f_X10_grows_0 g_X10_grows_0
  refine lb (rfl) (fun v1 => ?_)
  refine li (fun _ => ?_) (fun _ => ?_)
  · rfl
  · refine lb (rfl) (fun v2 => ?_)
    refine li (fun _ => ?_) (fun _ => ?_)
    · refine lg (gR_10_5 hx0) ?_
      refine lg (gR_10_0 hx0) ?_
      refine lg (gR_4_7 (sh_10_0 hx0)) ?_
      refine lc (l_X6_grown hN (sh_10_5 hx0) (sh_4_7 (sh_10_0 hx0))) (fun r3 => ?_)
      dsimp only
      rfl
    · rfl
noncomputable def g_X10_grows (N : Mem) (x0 : Nat) (x1 : Int32) (x2 : Int32) (σ : ST) : Option (Int32 × ST) := g_X10_grows_0 N x0 x1 x2 σ
theorem l_X10_grows {N : Mem} {B : Nat} (hN : HN N B) {x0 : Nat} {x1 : Int32} {x2 : Int32} {σ : ST} (hx0 : isC 10 x0) : f_X10_grows (B + x0) x1 x2 (put N B σ) = (g_X10_grows N x0 x1 x2 σ).bind (fun q => some (q.1, put N B q.2)) := by
  unfold f_X10_grows g_X10_grows
  rw [if_pos (isOb_put hx0)]
  exact l_X10_grows_0 hN _ _ _ _ hx0
noncomputable def g_X10_comesBack_5 (N : Mem) (n0 : Nat) (x0 : Nat) (x1 : Int32) (x2 : Bool) (x3 : Int32) (x4 : Int32) (σ : ST) : Option (Bool) :=
  match n0 with
  | 0 => none
  | n + 1 =>
    if 9 ≤ x4 then
    (some false)
    else
    ((f_X10_ruleIndex x3 x2).bind fun v1 =>
    (xI 20 σ ((x0 + 1) + 12) v1).bind fun v2 =>
    (f_X10_within v2 1 10).bind fun v3 =>
    if v3 = true then
    (if (v2 - 1) = x1 then
    (some true)
    else
    (g_X10_comesBack_5 N n x0 x1 x2 (v2 - 1) (x4 + 1) σ))
    else
    (some false))
set_option maxHeartbeats 4000000 in
theorem l_X10_comesBack_5 {N : Mem} {B : Nat} (hN : HN N B) : ∀ (n : Nat) (x0 : Nat) (x1 : Int32) (x2 : Bool) (x3 : Int32) (x4 : Int32) (σ : ST), isC 10 x0 → f_X10_comesBack_5 n (B + x0) x1 x2 x3 x4 (put N B σ) = (g_X10_comesBack_5 N n x0 x1 x2 x3 x4 σ).bind some := by
  intro n
  induction n with
  | zero =>
    intro x0 x1 x2 x3 x4 σ hx0
    rfl
  | succ n ih =>
    intro x0 x1 x2 x3 x4 σ hx0
    unfold f_X10_comesBack_5 g_X10_comesBack_5
    refine li (fun _ => ?_) (fun _ => ?_)
    · rfl
    · refine lg (gR_10_0 hx0) ?_
      refine lg (gR_4_7 (sh_10_0 hx0)) ?_
      refine lb (rfl) (fun v1 => ?_)
      refine lb (rI_put (sh_4_7 (sh_10_0 hx0))) (fun v2 => ?_)
      refine lb (rfl) (fun v3 => ?_)
      refine li (fun _ => ?_) (fun _ => ?_)
      · refine li (fun _ => ?_) (fun _ => ?_)
        · rfl
        · exact ih _ _ _ _ _ _ hx0
      · rfl
noncomputable def g_X10_comesBack_0 (N : Mem) (x0 : Nat) (x1 : Int32) (x2 : Bool) (σ : ST) : Option (Bool) :=
  g_X10_comesBack_5 N fu x0 x1 x2 x1 0 σ
set_option maxHeartbeats 4000000 in
theorem l_X10_comesBack_0 {N : Mem} {B : Nat} (hN : HN N B) : ∀ (x0 : Nat) (x1 : Int32) (x2 : Bool) (σ : ST), isC 10 x0 → f_X10_comesBack_0 (B + x0) x1 x2 (put N B σ) = (g_X10_comesBack_0 N x0 x1 x2 σ).bind some := by
  intro x0 x1 x2 σ hx0
  unfold f_X10_comesBack_0 g_X10_comesBack_0
  exact l_X10_comesBack_5 hN  _ _ _ _ _ _ _ hx0
noncomputable def g_X10_comesBack (N : Mem) (x0 : Nat) (x1 : Int32) (x2 : Bool) (σ : ST) : Option (Bool) := g_X10_comesBack_0 N x0 x1 x2 σ
theorem l_X10_comesBack {N : Mem} {B : Nat} (hN : HN N B) {x0 : Nat} {x1 : Int32} {x2 : Bool} {σ : ST} (hx0 : isC 10 x0) : f_X10_comesBack (B + x0) x1 x2 (put N B σ) = g_X10_comesBack N x0 x1 x2 σ := by
  unfold f_X10_comesBack g_X10_comesBack
  rw [if_pos (isOb_put hx0)]
  exact lsm (l_X10_comesBack_0 hN _ _ _ _ hx0)
noncomputable def g_X10_stays_4 (N : Mem) (n0 : Nat) (x0 : Nat) (x1 : Bool) (x2 : Int32) (x3 : Int32) (σ : ST) : Option (Int32) :=
  match n0 with
  | 0 => none
  | n + 1 =>
    if 10 ≤ x3 then
    (some x2)
    else
    ((g_X10_comesBack N x0 x3 x1 σ).bind fun v1 =>
    if v1 = false then
    (g_X10_stays_4 N n x0 x1 x2 (x3 + 1) σ)
    else
    (g_X10_stays_4 N n x0 x1 (x2 ||| (jshl 1 x3)) (x3 + 1) σ))
set_option maxHeartbeats 4000000 in
theorem l_X10_stays_4 {N : Mem} {B : Nat} (hN : HN N B) : ∀ (n : Nat) (x0 : Nat) (x1 : Bool) (x2 : Int32) (x3 : Int32) (σ : ST), isC 10 x0 → f_X10_stays_4 n (B + x0) x1 x2 x3 (put N B σ) = (g_X10_stays_4 N n x0 x1 x2 x3 σ).bind some := by
  intro n
  induction n with
  | zero =>
    intro x0 x1 x2 x3 σ hx0
    rfl
  | succ n ih =>
    intro x0 x1 x2 x3 σ hx0
    unfold f_X10_stays_4 g_X10_stays_4
    refine li (fun _ => ?_) (fun _ => ?_)
    · rfl
    · refine lb (l_X10_comesBack hN hx0) (fun v1 => ?_)
      refine li (fun _ => ?_) (fun _ => ?_)
      · exact ih _ _ _ _ _ hx0
      · exact ih _ _ _ _ _ hx0
noncomputable def g_X10_stays_0 (N : Mem) (x0 : Nat) (x1 : Bool) (σ : ST) : Option (Int32) :=
  g_X10_stays_4 N fu x0 x1 0 0 σ
set_option maxHeartbeats 4000000 in
theorem l_X10_stays_0 {N : Mem} {B : Nat} (hN : HN N B) : ∀ (x0 : Nat) (x1 : Bool) (σ : ST), isC 10 x0 → f_X10_stays_0 (B + x0) x1 (put N B σ) = (g_X10_stays_0 N x0 x1 σ).bind some := by
  intro x0 x1 σ hx0
  unfold f_X10_stays_0 g_X10_stays_0
  exact l_X10_stays_4 hN  _ _ _ _ _ _ hx0
noncomputable def g_X10_stays (N : Mem) (x0 : Nat) (x1 : Bool) (σ : ST) : Option (Int32) := g_X10_stays_0 N x0 x1 σ
theorem l_X10_stays {N : Mem} {B : Nat} (hN : HN N B) {x0 : Nat} {x1 : Bool} {σ : ST} (hx0 : isC 10 x0) : f_X10_stays (B + x0) x1 (put N B σ) = g_X10_stays N x0 x1 σ := by
  unfold f_X10_stays g_X10_stays
  rw [if_pos (isOb_put hx0)]
  exact lsm (l_X10_stays_0 hN _ _ _ hx0)
noncomputable def g_X10_likes_52 (N : Mem) (x2 : Int32) (x3 : Int32) (x4 : Int32) (s0 : Nat) (σ : ST) : Option (Bool × ST) :=
  (yI 25 σ s0 ((x2 * 5) + x3) x4).bind fun r1 =>
  some (true, r1)
set_option maxHeartbeats 4000000 in
theorem l_X10_likes_52 {N : Mem} {B : Nat} (hN : HN N B) : ∀ (x2 : Int32) (x3 : Int32) (x4 : Int32) (s0 : Nat) (σ : ST), isA 25 s0 → f_X10_likes_52 x2 x3 x4 (B + s0) (put N B σ) = (g_X10_likes_52 N x2 x3 x4 s0 σ).bind (fun q => some (q.1, put N B q.2)) := by
  intro x2 x3 x4 s0 σ hs0
  unfold f_X10_likes_52 g_X10_likes_52
  refine lm (wI_put hs0) (fun r1 => ?_)
  rfl
noncomputable def g_X10_likes_0 (N : Mem) (x0 : Nat) (x1 : Bool) (x2 : Int32) (x3 : Int32) (x4 : Int32) (σ : ST) : Option (Bool × ST) :=
  (f_X10_within x2 0 4).bind fun v2 =>
  if v2 = false then
  (some (false, σ))
  else
  ((f_X10_within x3 0 4).bind fun v3 =>
  if v3 = false then
  (some (false, σ))
  else
  ((f_X10_within x4 0 9).bind fun v4 =>
  if v4 = true then
  (if x1 = false then
  (g_X10_likes_52 N x2 x3 x4 ((x0 + 1) + 24) σ)
  else
  (g_X10_likes_52 N x2 x3 x4 ((x0 + 1) + 23) σ))
  else
  (some (false, σ))))
set_option maxHeartbeats 4000000 in
theorem l_X10_likes_0 {N : Mem} {B : Nat} (hN : HN N B) : ∀ (x0 : Nat) (x1 : Bool) (x2 : Int32) (x3 : Int32) (x4 : Int32) (σ : ST), isC 10 x0 → f_X10_likes_0 (B + x0) x1 x2 x3 x4 (put N B σ) = (g_X10_likes_0 N x0 x1 x2 x3 x4 σ).bind (fun q => some (q.1, put N B q.2)) := by
  intro x0 x1 x2 x3 x4 σ hx0
  unfold f_X10_likes_0 g_X10_likes_0
  refine lb (rfl) (fun v2 => ?_)
  refine li (fun _ => ?_) (fun _ => ?_)
  · rfl
  · refine lb (rfl) (fun v3 => ?_)
    refine li (fun _ => ?_) (fun _ => ?_)
    · rfl
    · refine lb (rfl) (fun v4 => ?_)
      refine li (fun _ => ?_) (fun _ => ?_)
      · refine li (fun _ => ?_) (fun _ => ?_)
        · refine lg (gR_10_0 hx0) ?_
          refine lg (gR_4_14 (sh_10_0 hx0)) ?_
          exact l_X10_likes_52 hN  _ _ _ _ _ (sh_4_14 (sh_10_0 hx0))
        · refine lg (gR_10_0 hx0) ?_
          refine lg (gR_4_13 (sh_10_0 hx0)) ?_
          exact l_X10_likes_52 hN  _ _ _ _ _ (sh_4_13 (sh_10_0 hx0))
      · rfl
noncomputable def g_X10_likes (N : Mem) (x0 : Nat) (x1 : Bool) (x2 : Int32) (x3 : Int32) (x4 : Int32) (σ : ST) : Option (Bool × ST) := g_X10_likes_0 N x0 x1 x2 x3 x4 σ
theorem l_X10_likes {N : Mem} {B : Nat} (hN : HN N B) {x0 : Nat} {x1 : Bool} {x2 : Int32} {x3 : Int32} {x4 : Int32} {σ : ST} (hx0 : isC 10 x0) : f_X10_likes (B + x0) x1 x2 x3 x4 (put N B σ) = (g_X10_likes N x0 x1 x2 x3 x4 σ).bind (fun q => some (q.1, put N B q.2)) := by
  unfold f_X10_likes g_X10_likes
  rw [if_pos (isOb_put hx0)]
  exact l_X10_likes_0 hN _ _ _ _ _ _ hx0
noncomputable def g_X10_paired_0 (N : Mem) (x0 : Nat) (x1 : Int32) (σ : ST) : Option (Int32 × ST) :=
  (f_X10_within x1 0 4).bind fun v1 =>
  if v1 = true then
  ((g_X1_pairAll N (x0 + 625) 25 ((x0 + 1) + 23) 25 ((x0 + 1) + 24) σ).bind fun r2 =>
  (xI 5 r2 ((x0 + 625) + 1) x1).bind fun v3 =>
  some (v3, r2))
  else
  (some ((-1), σ))
set_option maxHeartbeats 4000000 in
theorem l_X10_paired_0 {N : Mem} {B : Nat} (hN : HN N B) : ∀ (x0 : Nat) (x1 : Int32) (σ : ST), isC 10 x0 → f_X10_paired_0 (B + x0) x1 (put N B σ) = (g_X10_paired_0 N x0 x1 σ).bind (fun q => some (q.1, put N B q.2)) := by
  intro x0 x1 σ hx0
  unfold f_X10_paired_0 g_X10_paired_0
  refine lb (rfl) (fun v1 => ?_)
  refine li (fun _ => ?_) (fun _ => ?_)
  · refine lg (gR_10_6 hx0) ?_
    refine lg (gR_10_0 hx0) ?_
    refine lg (gR_4_13 (sh_10_0 hx0)) ?_
    refine lg (gR_10_0 hx0) ?_
    refine lg (gR_4_14 (sh_10_0 hx0)) ?_
    refine lm (l_X1_pairAll hN (sh_10_6 hx0) (sh_4_13 (sh_10_0 hx0)) (sh_4_14 (sh_10_0 hx0))) (fun r2 => ?_)
    refine lg (gR_10_6 hx0) ?_
    refine lg (gR_1_0 (sh_10_6 hx0)) ?_
    refine lb (rI_put (sh_1_0 (sh_10_6 hx0))) (fun v3 => ?_)
    rfl
  · rfl
noncomputable def g_X10_paired (N : Mem) (x0 : Nat) (x1 : Int32) (σ : ST) : Option (Int32 × ST) := g_X10_paired_0 N x0 x1 σ
theorem l_X10_paired {N : Mem} {B : Nat} (hN : HN N B) {x0 : Nat} {x1 : Int32} {σ : ST} (hx0 : isC 10 x0) : f_X10_paired (B + x0) x1 (put N B σ) = (g_X10_paired N x0 x1 σ).bind (fun q => some (q.1, put N B q.2)) := by
  unfold f_X10_paired g_X10_paired
  rw [if_pos (isOb_put hx0)]
  exact l_X10_paired_0 hN _ _ _ hx0
noncomputable def g_X10_blocks_57 (N : Mem) (s0 : Bool) (σ : ST) : Option (Int32) :=
  if s0 = false then
  (some 0)
  else
  (some 1)
set_option maxHeartbeats 4000000 in
theorem l_X10_blocks_57 {N : Mem} {B : Nat} (hN : HN N B) : ∀ (s0 : Bool) (σ : ST), f_X10_blocks_57 s0 (put N B σ) = (g_X10_blocks_57 N s0 σ).bind some := by
  intro s0 σ 
  unfold f_X10_blocks_57 g_X10_blocks_57
  refine li (fun _ => ?_) (fun _ => ?_)
  · rfl
  · rfl
noncomputable def g_X10_blocks_56 (N : Mem) (σ : ST) : Option (Int32) :=
  g_X10_blocks_57 N false σ
set_option maxHeartbeats 4000000 in
theorem l_X10_blocks_56 {N : Mem} {B : Nat} (hN : HN N B) : ∀  (σ : ST), f_X10_blocks_56 (put N B σ) = (g_X10_blocks_56 N σ).bind some := by
  intro  σ 
  unfold f_X10_blocks_56 g_X10_blocks_56
  exact l_X10_blocks_57 hN  _ _ 
noncomputable def g_X10_blocks_0 (N : Mem) (x0 : Nat) (x1 : Int32) (x2 : Int32) (σ : ST) : Option (Int32) :=
  (f_X10_within x1 0 4).bind fun v1 =>
  if v1 = false then
  (some (-1))
  else
  ((f_X10_within x2 0 4).bind fun v2 =>
  if v2 = true then
  ((g_X1_prefers N 25 ((x0 + 1) + 23) x1 x2 x1 σ).bind fun v3 =>
  if v3 = false then
  (g_X10_blocks_56 N σ)
  else
  ((g_X1_prefers N 25 ((x0 + 1) + 24) x2 x1 x2 σ).bind fun v4 =>
  if v4 = false then
  (g_X10_blocks_56 N σ)
  else
  (g_X10_blocks_57 N true σ)))
  else
  (some (-1)))
set_option maxHeartbeats 4000000 in
theorem l_X10_blocks_0 {N : Mem} {B : Nat} (hN : HN N B) : ∀ (x0 : Nat) (x1 : Int32) (x2 : Int32) (σ : ST), isC 10 x0 → f_X10_blocks_0 (B + x0) x1 x2 (put N B σ) = (g_X10_blocks_0 N x0 x1 x2 σ).bind some := by
  intro x0 x1 x2 σ hx0
  unfold f_X10_blocks_0 g_X10_blocks_0
  refine lb (rfl) (fun v1 => ?_)
  refine li (fun _ => ?_) (fun _ => ?_)
  · rfl
  · refine lb (rfl) (fun v2 => ?_)
    refine li (fun _ => ?_) (fun _ => ?_)
    · refine lg (gR_10_0 hx0) ?_
      refine lg (gR_4_13 (sh_10_0 hx0)) ?_
      refine lb (l_X1_prefers hN (sh_4_13 (sh_10_0 hx0))) (fun v3 => ?_)
      refine li (fun _ => ?_) (fun _ => ?_)
      · exact l_X10_blocks_56 hN   _
      · refine lg (gR_10_0 hx0) ?_
        refine lg (gR_4_14 (sh_10_0 hx0)) ?_
        refine lb (l_X1_prefers hN (sh_4_14 (sh_10_0 hx0))) (fun v4 => ?_)
        refine li (fun _ => ?_) (fun _ => ?_)
        · exact l_X10_blocks_56 hN   _
        · exact l_X10_blocks_57 hN  _ _
    · rfl
noncomputable def g_X10_blocks (N : Mem) (x0 : Nat) (x1 : Int32) (x2 : Int32) (σ : ST) : Option (Int32) := g_X10_blocks_0 N x0 x1 x2 σ
theorem l_X10_blocks {N : Mem} {B : Nat} (hN : HN N B) {x0 : Nat} {x1 : Int32} {x2 : Int32} {σ : ST} (hx0 : isC 10 x0) : f_X10_blocks (B + x0) x1 x2 (put N B σ) = g_X10_blocks N x0 x1 x2 σ := by
  unfold f_X10_blocks g_X10_blocks
  rw [if_pos (isOb_put hx0)]
  exact lsm (l_X10_blocks_0 hN _ _ _ _ hx0)
noncomputable def g_X10_needs_0 (N : Mem) (x0 : Nat) (x1 : Int32) (x2 : Int32) (σ : ST) : Option (Bool × ST) :=
  (f_X10_within x1 0 7).bind fun v1 =>
  if v1 = false then
  (some (false, σ))
  else
  ((f_X10_within x2 0 99).bind fun v2 =>
  if v2 = true then
  ((yI 8 σ ((x0 + 1) + 25) x1 x2).bind fun r3 =>
  some (true, r3))
  else
  (some (false, σ)))
set_option maxHeartbeats 4000000 in
theorem l_X10_needs_0 {N : Mem} {B : Nat} (hN : HN N B) : ∀ (x0 : Nat) (x1 : Int32) (x2 : Int32) (σ : ST), isC 10 x0 → f_X10_needs_0 (B + x0) x1 x2 (put N B σ) = (g_X10_needs_0 N x0 x1 x2 σ).bind (fun q => some (q.1, put N B q.2)) := by
  intro x0 x1 x2 σ hx0
  unfold f_X10_needs_0 g_X10_needs_0
  refine lb (rfl) (fun v1 => ?_)
  refine li (fun _ => ?_) (fun _ => ?_)
  · rfl
  · refine lb (rfl) (fun v2 => ?_)
    refine li (fun _ => ?_) (fun _ => ?_)
    · refine lg (gR_10_0 hx0) ?_
      refine lg (gR_4_15 (sh_10_0 hx0)) ?_
      refine lm (wI_put (sh_4_15 (sh_10_0 hx0))) (fun r3 => ?_)
      rfl
    · rfl
noncomputable def g_X10_needs (N : Mem) (x0 : Nat) (x1 : Int32) (x2 : Int32) (σ : ST) : Option (Bool × ST) := g_X10_needs_0 N x0 x1 x2 σ
theorem l_X10_needs {N : Mem} {B : Nat} (hN : HN N B) {x0 : Nat} {x1 : Int32} {x2 : Int32} {σ : ST} (hx0 : isC 10 x0) : f_X10_needs (B + x0) x1 x2 (put N B σ) = (g_X10_needs N x0 x1 x2 σ).bind (fun q => some (q.1, put N B q.2)) := by
  unfold f_X10_needs g_X10_needs
  rw [if_pos (isOb_put hx0)]
  exact l_X10_needs_0 hN _ _ _ _ hx0
noncomputable def g_X10_stock_0 (N : Mem) (x0 : Nat) (x1 : Int32) (x2 : Int32) (x3 : Int32) (σ : ST) : Option (Int32 × ST) :=
  (f_X10_within x1 0 999).bind fun v1 =>
  if v1 = false then
  (some ((-1), σ))
  else
  ((f_X10_within x2 0 99).bind fun v2 =>
  if v2 = false then
  (some ((-1), σ))
  else
  ((f_X10_within x3 (-1) 7).bind fun v3 =>
  if v3 = true then
  ((g_X5_plan N (x0 + 629) 8 ((x0 + 1) + 25) x1 x2 σ).bind fun r4 =>
  if x3 = (-1) then
  ((xI 9 r4 ((x0 + 629) + 1) 0).bind fun v6 =>
  some (v6, r4))
  else
  ((xI 8 r4 ((x0 + 629) + 2) x3).bind fun v5 =>
  some (v5, r4)))
  else
  (some ((-1), σ))))
set_option maxHeartbeats 4000000 in
theorem l_X10_stock_0 {N : Mem} {B : Nat} (hN : HN N B) : ∀ (x0 : Nat) (x1 : Int32) (x2 : Int32) (x3 : Int32) (σ : ST), isC 10 x0 → f_X10_stock_0 (B + x0) x1 x2 x3 (put N B σ) = (g_X10_stock_0 N x0 x1 x2 x3 σ).bind (fun q => some (q.1, put N B q.2)) := by
  intro x0 x1 x2 x3 σ hx0
  unfold f_X10_stock_0 g_X10_stock_0
  refine lb (rfl) (fun v1 => ?_)
  refine li (fun _ => ?_) (fun _ => ?_)
  · rfl
  · refine lb (rfl) (fun v2 => ?_)
    refine li (fun _ => ?_) (fun _ => ?_)
    · rfl
    · refine lb (rfl) (fun v3 => ?_)
      refine li (fun _ => ?_) (fun _ => ?_)
      · refine lg (gR_10_7 hx0) ?_
        refine lg (gR_10_0 hx0) ?_
        refine lg (gR_4_15 (sh_10_0 hx0)) ?_
        refine lm (l_X5_plan hN (sh_10_7 hx0) (sh_4_15 (sh_10_0 hx0))) (fun r4 => ?_)
        refine li (fun _ => ?_) (fun _ => ?_)
        · refine lg (gR_10_7 hx0) ?_
          refine lg (gR_5_0 (sh_10_7 hx0)) ?_
          refine lb (rI_put (sh_5_0 (sh_10_7 hx0))) (fun v6 => ?_)
          rfl
        · refine lg (gR_10_7 hx0) ?_
          refine lg (gR_5_1 (sh_10_7 hx0)) ?_
          refine lb (rI_put (sh_5_1 (sh_10_7 hx0))) (fun v5 => ?_)
          rfl
      · rfl
noncomputable def g_X10_stock (N : Mem) (x0 : Nat) (x1 : Int32) (x2 : Int32) (x3 : Int32) (σ : ST) : Option (Int32 × ST) := g_X10_stock_0 N x0 x1 x2 x3 σ
theorem l_X10_stock {N : Mem} {B : Nat} (hN : HN N B) {x0 : Nat} {x1 : Int32} {x2 : Int32} {x3 : Int32} {σ : ST} (hx0 : isC 10 x0) : f_X10_stock (B + x0) x1 x2 x3 (put N B σ) = (g_X10_stock N x0 x1 x2 x3 σ).bind (fun q => some (q.1, put N B q.2)) := by
  unfold f_X10_stock g_X10_stock
  rw [if_pos (isOb_put hx0)]
  exact l_X10_stock_0 hN _ _ _ _ _ hx0
noncomputable def g_X10_looser_0 (N : Mem) (x0 : Nat) (x1 : Int32) (x2 : Int32) (σ : ST) : Option (Int32 × ST) :=
  if x1 = (-1) then
  ((some (setI σ ((x0 + 1) + 19) 1 0)).bind fun r5 =>
  (some (setI r5 ((x0 + 1) + 21) 1 0)).bind fun r6 =>
  some (0, r6))
  else
  ((g_X9_has N ((x0 + 1) + 1) x1 σ).bind fun v1 =>
  if v1 = false then
  (some ((-2), σ))
  else
  ((f_X10_within x2 0 10).bind fun v2 =>
  if v2 = false then
  (some ((-2), σ))
  else
  ((g_X3_append N ((x0 + 1) + 19) x1 σ).bind fun r3 =>
  if r3.1 = true then
  ((g_X3_append N ((x0 + 1) + 21) x2 r3.2).bind fun r4 =>
  some ((r4.2.1 ((x0 + 1) + 19) 1), r4.2))
  else
  (some ((-2), r3.2)))))
set_option maxHeartbeats 4000000 in
theorem l_X10_looser_0 {N : Mem} {B : Nat} (hN : HN N B) : ∀ (x0 : Nat) (x1 : Int32) (x2 : Int32) (σ : ST), isC 10 x0 → f_X10_looser_0 (B + x0) x1 x2 (put N B σ) = (g_X10_looser_0 N x0 x1 x2 σ).bind (fun q => some (q.1, put N B q.2)) := by
  intro x0 x1 x2 σ hx0
  unfold f_X10_looser_0 g_X10_looser_0
  refine li (fun _ => ?_) (fun _ => ?_)
  · refine lg (gR_10_0 hx0) ?_
    refine lg (gR_4_11 (sh_10_0 hx0)) ?_
    refine lp (pF_3_1 (sh_4_11 (sh_10_0 hx0))) (fun r5 => ?_)
    refine lg (gR_10_0 hx0) ?_
    refine lg (gR_4_12 (sh_10_0 hx0)) ?_
    refine lp (pF_3_1 (sh_4_12 (sh_10_0 hx0))) (fun r6 => ?_)
    rfl
  · refine lg (gR_10_0 hx0) ?_
    refine lg (gR_4_0 (sh_10_0 hx0)) ?_
    refine lb (l_X9_has hN (sh_4_0 (sh_10_0 hx0))) (fun v1 => ?_)
    refine li (fun _ => ?_) (fun _ => ?_)
    · rfl
    · refine lb (rfl) (fun v2 => ?_)
      refine li (fun _ => ?_) (fun _ => ?_)
      · rfl
      · refine lg (gR_10_0 hx0) ?_
        refine lg (gR_4_11 (sh_10_0 hx0)) ?_
        refine lc (l_X3_append hN (sh_4_11 (sh_10_0 hx0))) (fun r3 => ?_)
        dsimp only
        refine li (fun _ => ?_) (fun _ => ?_)
        · refine lg (gR_10_0 hx0) ?_
          refine lg (gR_4_12 (sh_10_0 hx0)) ?_
          refine lc (l_X3_append hN (sh_4_12 (sh_10_0 hx0))) (fun r4 => ?_)
          dsimp only
          refine lg (gR_10_0 hx0) ?_
          refine lg (gR_4_11 (sh_10_0 hx0)) ?_
          refine lg (gI_3_1 (sh_4_11 (sh_10_0 hx0))) ?_
          rfl
        · rfl
noncomputable def g_X10_looser (N : Mem) (x0 : Nat) (x1 : Int32) (x2 : Int32) (σ : ST) : Option (Int32 × ST) := g_X10_looser_0 N x0 x1 x2 σ
theorem l_X10_looser {N : Mem} {B : Nat} (hN : HN N B) {x0 : Nat} {x1 : Int32} {x2 : Int32} {σ : ST} (hx0 : isC 10 x0) : f_X10_looser (B + x0) x1 x2 (put N B σ) = (g_X10_looser N x0 x1 x2 σ).bind (fun q => some (q.1, put N B q.2)) := by
  unfold f_X10_looser g_X10_looser
  rw [if_pos (isOb_put hx0)]
  exact l_X10_looser_0 hN _ _ _ _ hx0
noncomputable def g_X10_agrees_2 (N : Mem) (n0 : Nat) (x0 : Nat) (x1 : Option Nat) (x2 : Int32) (σ : ST) : Option (Bool × ST) :=
  match n0 with
  | 0 => none
  | n + 1 =>
    if (σ.1 ((x0 + 1) + 19) 1) ≤ x2 then
    (some (true, σ))
    else
    ((g_X3_get N ((x0 + 1) + 19) x2 σ).bind fun v1 =>
    (g_X9_has N ((x0 + 1) + 1) v1 σ).bind fun v2 =>
    if v2 = false then
    (g_X10_agrees_2 N n x0 x1 (x2 + 1) σ)
    else
    ((g_X0_loose N (x0 + 601) x1 ((x0 + 1) + 1) v1 σ).bind fun r3 =>
    (g_X3_get N ((x0 + 1) + 21) x2 r3.2).bind fun v4 =>
    if r3.1 = v4 then
    (g_X10_agrees_2 N n x0 x1 (x2 + 1) r3.2)
    else
    (some (false, r3.2))))
set_option maxHeartbeats 4000000 in
theorem l_X10_agrees_2 {N : Mem} {B : Nat} (hN : HN N B) : ∀ (n : Nat) (x0 : Nat) (x1 : Option Nat) (x2 : Int32) (σ : ST), isC 10 x0 → f_X10_agrees_2 n (B + x0) x1 x2 (put N B σ) = (g_X10_agrees_2 N n x0 x1 x2 σ).bind (fun q => some (q.1, put N B q.2)) := by
  intro n
  induction n with
  | zero =>
    intro x0 x1 x2 σ hx0
    rfl
  | succ n ih =>
    intro x0 x1 x2 σ hx0
    unfold f_X10_agrees_2 g_X10_agrees_2
    refine lg (gR_10_0 hx0) ?_
    refine lg (gR_4_11 (sh_10_0 hx0)) ?_
    refine lg (gI_3_1 (sh_4_11 (sh_10_0 hx0))) ?_
    refine li (fun _ => ?_) (fun _ => ?_)
    · rfl
    · refine lg (gR_10_0 hx0) ?_
      refine lg (gR_4_11 (sh_10_0 hx0)) ?_
      refine lb (l_X3_get hN (sh_4_11 (sh_10_0 hx0))) (fun v1 => ?_)
      refine lg (gR_10_0 hx0) ?_
      refine lg (gR_4_0 (sh_10_0 hx0)) ?_
      refine lb (l_X9_has hN (sh_4_0 (sh_10_0 hx0))) (fun v2 => ?_)
      refine li (fun _ => ?_) (fun _ => ?_)
      · exact ih _ _ _ _ hx0
      · refine lg (gR_10_4 hx0) ?_
        refine lg (gR_10_0 hx0) ?_
        refine lg (gR_4_0 (sh_10_0 hx0)) ?_
        refine lc (l_X0_loose hN (sh_10_4 hx0) (sh_4_0 (sh_10_0 hx0))) (fun r3 => ?_)
        dsimp only
        refine lg (gR_10_0 hx0) ?_
        refine lg (gR_4_12 (sh_10_0 hx0)) ?_
        refine lb (l_X3_get hN (sh_4_12 (sh_10_0 hx0))) (fun v4 => ?_)
        refine li (fun _ => ?_) (fun _ => ?_)
        · exact ih _ _ _ _ hx0
        · rfl
noncomputable def g_X10_agrees_0 (N : Mem) (x0 : Nat) (x1 : Option Nat) (σ : ST) : Option (Bool × ST) :=
  g_X10_agrees_2 N fu x0 x1 0 σ
set_option maxHeartbeats 4000000 in
theorem l_X10_agrees_0 {N : Mem} {B : Nat} (hN : HN N B) : ∀ (x0 : Nat) (x1 : Option Nat) (σ : ST), isC 10 x0 → f_X10_agrees_0 (B + x0) x1 (put N B σ) = (g_X10_agrees_0 N x0 x1 σ).bind (fun q => some (q.1, put N B q.2)) := by
  intro x0 x1 σ hx0
  unfold f_X10_agrees_0 g_X10_agrees_0
  exact l_X10_agrees_2 hN  _ _ _ _ _ hx0
noncomputable def g_X10_agrees (N : Mem) (x0 : Nat) (x1 : Option Nat) (σ : ST) : Option (Bool × ST) := g_X10_agrees_0 N x0 x1 σ
theorem l_X10_agrees {N : Mem} {B : Nat} (hN : HN N B) {x0 : Nat} {x1 : Option Nat} {σ : ST} (hx0 : isC 10 x0) : f_X10_agrees (B + x0) x1 (put N B σ) = (g_X10_agrees N x0 x1 σ).bind (fun q => some (q.1, put N B q.2)) := by
  unfold f_X10_agrees g_X10_agrees
  rw [if_pos (isOb_put hx0)]
  exact l_X10_agrees_0 hN _ _ _ hx0
noncomputable def g_X10_whose_4 (N : Mem) (n0 : Nat) (x0 : Nat) (x1 : Int32) (x2 : Int32) (σ : ST) : Option (Int32 × ST) :=
  match n0 with
  | 0 => none
  | n + 1 =>
    if (σ.1 (x0 + 1) 5) ≤ x2 then
    (some (x1, σ))
    else
    ((xQ σ ((x0 + 1) + 11) x2).bind fun o1 =>
    (g_X10_agrees N x0 o1 σ).bind fun r2 =>
    if r2.1 = false then
    (g_X10_whose_4 N n x0 x1 (x2 + 1) r2.2)
    else
    (g_X10_whose_4 N n x0 (x1 ||| (jshl 1 x2)) (x2 + 1) r2.2))
set_option maxHeartbeats 4000000 in
theorem l_X10_whose_4 {N : Mem} {B : Nat} (hN : HN N B) : ∀ (n : Nat) (x0 : Nat) (x1 : Int32) (x2 : Int32) (σ : ST), isC 10 x0 → f_X10_whose_4 n (B + x0) x1 x2 (put N B σ) = (g_X10_whose_4 N n x0 x1 x2 σ).bind (fun q => some (q.1, put N B q.2)) := by
  intro n
  induction n with
  | zero =>
    intro x0 x1 x2 σ hx0
    rfl
  | succ n ih =>
    intro x0 x1 x2 σ hx0
    unfold f_X10_whose_4 g_X10_whose_4
    refine lg (gR_10_0 hx0) ?_
    refine lg (gI_4_5 (sh_10_0 hx0)) ?_
    refine li (fun _ => ?_) (fun _ => ?_)
    · rfl
    · refine lg (gR_10_0 hx0) ?_
      refine lg (gR_4_4 (sh_10_0 hx0)) ?_
      refine lb (rQ_put (sh_4_4 (sh_10_0 hx0))) (fun o1 => ?_)
      refine lc (l_X10_agrees hN hx0) (fun r2 => ?_)
      dsimp only
      refine li (fun _ => ?_) (fun _ => ?_)
      · exact ih _ _ _ _ hx0
      · exact ih _ _ _ _ hx0
noncomputable def g_X10_whose_0 (N : Mem) (x0 : Nat) (σ : ST) : Option (Int32 × ST) :=
  g_X10_whose_4 N fu x0 0 0 σ
set_option maxHeartbeats 4000000 in
theorem l_X10_whose_0 {N : Mem} {B : Nat} (hN : HN N B) : ∀ (x0 : Nat) (σ : ST), isC 10 x0 → f_X10_whose_0 (B + x0) (put N B σ) = (g_X10_whose_0 N x0 σ).bind (fun q => some (q.1, put N B q.2)) := by
  intro x0 σ hx0
  unfold f_X10_whose_0 g_X10_whose_0
  exact l_X10_whose_4 hN  _ _ _ _ _ hx0
noncomputable def g_X10_whose (N : Mem) (x0 : Nat) (σ : ST) : Option (Int32 × ST) := g_X10_whose_0 N x0 σ
theorem l_X10_whose {N : Mem} {B : Nat} (hN : HN N B) {x0 : Nat} {σ : ST} (hx0 : isC 10 x0) : f_X10_whose (B + x0) (put N B σ) = (g_X10_whose N x0 σ).bind (fun q => some (q.1, put N B q.2)) := by
  unfold f_X10_whose g_X10_whose
  rw [if_pos (isOb_put hx0)]
  exact l_X10_whose_0 hN _ _ hx0
noncomputable def g_X10_forgiven_20 (N : Mem) (n0 : Nat) (x0 : Nat) (x1 : Int32) (x2 : Int32) (x3 : Int32) (x4 : Int32) (σ : ST) : Option (Int32) :=
  match n0 with
  | 0 => none
  | n + 1 =>
    if (jshl 1 (σ.1 ((x0 + 1) + 1) 0)) ≤ x4 then
    (some x2)
    else
    ((g_X9_sumOf N ((x0 + 1) + 1) x4 σ).bind fun v1 =>
    (f_J6_bitCount_0f7a4 x4).bind fun v2 =>
    (f_J6_bitCount_0f7a4 x2).bind fun v3 =>
    if x1 < v1 then
    (g_X10_forgiven_20 N n x0 x1 x2 x3 (x4 + 1) σ)
    else
    (if 0 < (v2 - v3) then
    (g_X10_forgiven_20 N n x0 x1 x4 v1 (x4 + 1) σ)
    else
    (if (v2 - v3) = 0 then
    (if x3 ≤ v1 then
    (g_X10_forgiven_20 N n x0 x1 x2 x3 (x4 + 1) σ)
    else
    (g_X10_forgiven_20 N n x0 x1 x4 v1 (x4 + 1) σ))
    else
    (g_X10_forgiven_20 N n x0 x1 x2 x3 (x4 + 1) σ))))
set_option maxHeartbeats 4000000 in
theorem l_X10_forgiven_20 {N : Mem} {B : Nat} (hN : HN N B) : ∀ (n : Nat) (x0 : Nat) (x1 : Int32) (x2 : Int32) (x3 : Int32) (x4 : Int32) (σ : ST), isC 10 x0 → f_X10_forgiven_20 n (B + x0) x1 x2 x3 x4 (put N B σ) = (g_X10_forgiven_20 N n x0 x1 x2 x3 x4 σ).bind some := by
  intro n
  induction n with
  | zero =>
    intro x0 x1 x2 x3 x4 σ hx0
    rfl
  | succ n ih =>
    intro x0 x1 x2 x3 x4 σ hx0
    unfold f_X10_forgiven_20 g_X10_forgiven_20
    refine lg (gR_10_0 hx0) ?_
    refine lg (gR_4_0 (sh_10_0 hx0)) ?_
    refine lg (gI_9_0 (sh_4_0 (sh_10_0 hx0))) ?_
    refine li (fun _ => ?_) (fun _ => ?_)
    · rfl
    · refine lg (gR_10_0 hx0) ?_
      refine lg (gR_4_0 (sh_10_0 hx0)) ?_
      refine lb (l_X9_sumOf hN (sh_4_0 (sh_10_0 hx0))) (fun v1 => ?_)
      refine lb (rfl) (fun v2 => ?_)
      refine lb (rfl) (fun v3 => ?_)
      refine li (fun _ => ?_) (fun _ => ?_)
      · exact ih _ _ _ _ _ _ hx0
      · refine li (fun _ => ?_) (fun _ => ?_)
        · exact ih _ _ _ _ _ _ hx0
        · refine li (fun _ => ?_) (fun _ => ?_)
          · refine li (fun _ => ?_) (fun _ => ?_)
            · exact ih _ _ _ _ _ _ hx0
            · exact ih _ _ _ _ _ _ hx0
          · exact ih _ _ _ _ _ _ hx0
noncomputable def g_X10_forgiven_0 (N : Mem) (x0 : Nat) (x1 : Int32) (σ : ST) : Option (Int32) :=
  (f_X10_within x1 0 9999).bind fun v4 =>
  if v4 = true then
  (g_X10_forgiven_20 N fu x0 x1 0 0 1 σ)
  else
  (some (-1))
set_option maxHeartbeats 4000000 in
theorem l_X10_forgiven_0 {N : Mem} {B : Nat} (hN : HN N B) : ∀ (x0 : Nat) (x1 : Int32) (σ : ST), isC 10 x0 → f_X10_forgiven_0 (B + x0) x1 (put N B σ) = (g_X10_forgiven_0 N x0 x1 σ).bind some := by
  intro x0 x1 σ hx0
  unfold f_X10_forgiven_0 g_X10_forgiven_0
  refine lb (rfl) (fun v4 => ?_)
  refine li (fun _ => ?_) (fun _ => ?_)
  · exact l_X10_forgiven_20 hN  _ _ _ _ _ _ _ hx0
  · rfl
noncomputable def g_X10_forgiven (N : Mem) (x0 : Nat) (x1 : Int32) (σ : ST) : Option (Int32) := g_X10_forgiven_0 N x0 x1 σ
theorem l_X10_forgiven {N : Mem} {B : Nat} (hN : HN N B) {x0 : Nat} {x1 : Int32} {σ : ST} (hx0 : isC 10 x0) : f_X10_forgiven (B + x0) x1 (put N B σ) = g_X10_forgiven N x0 x1 σ := by
  unfold f_X10_forgiven g_X10_forgiven
  rw [if_pos (isOb_put hx0)]
  exact lsm (l_X10_forgiven_0 hN _ _ _ hx0)
noncomputable def g_X10_snow_37 (N : Mem) (n0 : Nat) (k4 : Nat → Int32 → Int32 → ST → Option (Int32)) (x0 : Nat) (x1 : Int32) (x2 : Int32) (x3 : Int32) (x4 : Int32) (σ : ST) : Option (Int32) :=
  match n0 with
  | 0 => none
  | n + 1 =>
    if x3 ≤ x4 then
    (k4 x0 x1 (x2 + 1) σ)
    else
    ((xI 5 σ (((x0 + 1) + 1) + 5) x2).bind fun v1 =>
    (f_X10_digitAt v1 x4).bind fun v2 =>
    if v2 = 0 then
    (g_X10_snow_37 N n k4 x0 (x1 + 1) x2 x3 (x4 + 1) σ)
    else
    (g_X10_snow_37 N n k4 x0 x1 x2 x3 (x4 + 1) σ))
set_option maxHeartbeats 4000000 in
theorem l_X10_snow_37 {N : Mem} {B : Nat} (hN : HN N B) {fk4 : Nat → Int32 → Int32 → Mem → Option (Int32)} {k4 : Nat → Int32 → Int32 → ST → Option (Int32)} (hk4 : ∀ (x0 : Nat) (x1 : Int32) (x2 : Int32) (σ : ST), isC 10 x0 → fk4 (B + x0) x1 x2 (put N B σ) = (k4 x0 x1 x2 σ).bind some) : ∀ (n : Nat) (x0 : Nat) (x1 : Int32) (x2 : Int32) (x3 : Int32) (x4 : Int32) (σ : ST), isC 10 x0 → f_X10_snow_37 n fk4 (B + x0) x1 x2 x3 x4 (put N B σ) = (g_X10_snow_37 N n k4 x0 x1 x2 x3 x4 σ).bind some := by
  intro n
  induction n with
  | zero =>
    intro x0 x1 x2 x3 x4 σ hx0
    rfl
  | succ n ih =>
    intro x0 x1 x2 x3 x4 σ hx0
    unfold f_X10_snow_37 g_X10_snow_37
    refine li (fun _ => ?_) (fun _ => ?_)
    · exact hk4 _ _ _ _ hx0
    · refine lg (gR_10_0 hx0) ?_
      refine lg (gR_4_0 (sh_10_0 hx0)) ?_
      refine lg (gR_9_8 (sh_4_0 (sh_10_0 hx0))) ?_
      refine lb (rI_put (sh_9_8 (sh_4_0 (sh_10_0 hx0)))) (fun v1 => ?_)
      refine lb (rfl) (fun v2 => ?_)
      refine li (fun _ => ?_) (fun _ => ?_)
      · exact ih _ _ _ _ _ _ hx0
      · exact ih _ _ _ _ _ _ hx0
noncomputable def g_X10_snow_4 (N : Mem) (n0 : Nat) (x0 : Nat) (x1 : Int32) (x2 : Int32) (σ : ST) : Option (Int32) :=
  match n0 with
  | 0 => none
  | n + 1 =>
    if (σ.1 ((x0 + 1) + 1) 0) ≤ x2 then
    (some x1)
    else
    ((xI 5 σ (((x0 + 1) + 1) + 5) x2).bind fun v3 =>
    (f_X10_digitCount v3).bind fun v4 =>
    g_X10_snow_37 N fu (g_X10_snow_4 N n) x0 x1 x2 v4 0 σ)
set_option maxHeartbeats 4000000 in
theorem l_X10_snow_4 {N : Mem} {B : Nat} (hN : HN N B) : ∀ (n : Nat) (x0 : Nat) (x1 : Int32) (x2 : Int32) (σ : ST), isC 10 x0 → f_X10_snow_4 n (B + x0) x1 x2 (put N B σ) = (g_X10_snow_4 N n x0 x1 x2 σ).bind some := by
  intro n
  induction n with
  | zero =>
    intro x0 x1 x2 σ hx0
    rfl
  | succ n ih =>
    intro x0 x1 x2 σ hx0
    unfold f_X10_snow_4 g_X10_snow_4
    refine lg (gR_10_0 hx0) ?_
    refine lg (gR_4_0 (sh_10_0 hx0)) ?_
    refine lg (gI_9_0 (sh_4_0 (sh_10_0 hx0))) ?_
    refine li (fun _ => ?_) (fun _ => ?_)
    · rfl
    · refine lg (gR_10_0 hx0) ?_
      refine lg (gR_4_0 (sh_10_0 hx0)) ?_
      refine lg (gR_9_8 (sh_4_0 (sh_10_0 hx0))) ?_
      refine lb (rI_put (sh_9_8 (sh_4_0 (sh_10_0 hx0)))) (fun v3 => ?_)
      refine lb (rfl) (fun v4 => ?_)
      exact l_X10_snow_37 hN ih _ _ _ _ _ _ _ hx0
noncomputable def g_X10_snow_0 (N : Mem) (x0 : Nat) (σ : ST) : Option (Int32) :=
  g_X10_snow_4 N fu x0 0 0 σ
set_option maxHeartbeats 4000000 in
theorem l_X10_snow_0 {N : Mem} {B : Nat} (hN : HN N B) : ∀ (x0 : Nat) (σ : ST), isC 10 x0 → f_X10_snow_0 (B + x0) (put N B σ) = (g_X10_snow_0 N x0 σ).bind some := by
  intro x0 σ hx0
  unfold f_X10_snow_0 g_X10_snow_0
  exact l_X10_snow_4 hN  _ _ _ _ _ hx0
noncomputable def g_X10_snow (N : Mem) (x0 : Nat) (σ : ST) : Option (Int32) := g_X10_snow_0 N x0 σ
theorem l_X10_snow {N : Mem} {B : Nat} (hN : HN N B) {x0 : Nat} {σ : ST} (hx0 : isC 10 x0) : f_X10_snow (B + x0) (put N B σ) = g_X10_snow N x0 σ := by
  unfold f_X10_snow g_X10_snow
  rw [if_pos (isOb_put hx0)]
  exact lsm (l_X10_snow_0 hN _ _ hx0)
noncomputable def g_X10_worn_4 (N : Mem) (n0 : Nat) (x0 : Nat) (x1 : Int32) (x2 : Int32) (σ : ST) : Option (Int32) :=
  match n0 with
  | 0 => none
  | n + 1 =>
    if (σ.1 ((x0 + 1) + 1) 0) ≤ x2 then
    (some x1)
    else
    (if x1 = (-1) then
    (g_X10_worn_4 N n x0 x2 (x2 + 1) σ)
    else
    ((xI 5 σ (((x0 + 1) + 1) + 3) x2).bind fun v1 =>
    (xI 5 σ (((x0 + 1) + 1) + 3) x1).bind fun v2 =>
    if v1 ≤ v2 then
    (g_X10_worn_4 N n x0 x1 (x2 + 1) σ)
    else
    (g_X10_worn_4 N n x0 x2 (x2 + 1) σ)))
set_option maxHeartbeats 4000000 in
theorem l_X10_worn_4 {N : Mem} {B : Nat} (hN : HN N B) : ∀ (n : Nat) (x0 : Nat) (x1 : Int32) (x2 : Int32) (σ : ST), isC 10 x0 → f_X10_worn_4 n (B + x0) x1 x2 (put N B σ) = (g_X10_worn_4 N n x0 x1 x2 σ).bind some := by
  intro n
  induction n with
  | zero =>
    intro x0 x1 x2 σ hx0
    rfl
  | succ n ih =>
    intro x0 x1 x2 σ hx0
    unfold f_X10_worn_4 g_X10_worn_4
    refine lg (gR_10_0 hx0) ?_
    refine lg (gR_4_0 (sh_10_0 hx0)) ?_
    refine lg (gI_9_0 (sh_4_0 (sh_10_0 hx0))) ?_
    refine li (fun _ => ?_) (fun _ => ?_)
    · rfl
    · refine li (fun _ => ?_) (fun _ => ?_)
      · exact ih _ _ _ _ hx0
      · refine lg (gR_10_0 hx0) ?_
        refine lg (gR_4_0 (sh_10_0 hx0)) ?_
        refine lg (gR_9_6 (sh_4_0 (sh_10_0 hx0))) ?_
        refine lb (rI_put (sh_9_6 (sh_4_0 (sh_10_0 hx0)))) (fun v1 => ?_)
        refine lg (gR_10_0 hx0) ?_
        refine lg (gR_4_0 (sh_10_0 hx0)) ?_
        refine lg (gR_9_6 (sh_4_0 (sh_10_0 hx0))) ?_
        refine lb (rI_put (sh_9_6 (sh_4_0 (sh_10_0 hx0)))) (fun v2 => ?_)
        refine li (fun _ => ?_) (fun _ => ?_)
        · exact ih _ _ _ _ hx0
        · exact ih _ _ _ _ hx0
noncomputable def g_X10_worn_0 (N : Mem) (x0 : Nat) (σ : ST) : Option (Int32) :=
  g_X10_worn_4 N fu x0 (-1) 0 σ
set_option maxHeartbeats 4000000 in
theorem l_X10_worn_0 {N : Mem} {B : Nat} (hN : HN N B) : ∀ (x0 : Nat) (σ : ST), isC 10 x0 → f_X10_worn_0 (B + x0) (put N B σ) = (g_X10_worn_0 N x0 σ).bind some := by
  intro x0 σ hx0
  unfold f_X10_worn_0 g_X10_worn_0
  exact l_X10_worn_4 hN  _ _ _ _ _ hx0
noncomputable def g_X10_worn (N : Mem) (x0 : Nat) (σ : ST) : Option (Int32) := g_X10_worn_0 N x0 σ
theorem l_X10_worn {N : Mem} {B : Nat} (hN : HN N B) {x0 : Nat} {σ : ST} (hx0 : isC 10 x0) : f_X10_worn (B + x0) (put N B σ) = g_X10_worn N x0 σ := by
  unfold f_X10_worn g_X10_worn
  rw [if_pos (isOb_put hx0)]
  exact lsm (l_X10_worn_0 hN _ _ hx0)
noncomputable def g_X10_blank_4 (N : Mem) (n0 : Nat) (x0 : Nat) (x1 : Int32) (x2 : Int32) (σ : ST) : Option (Int32) :=
  match n0 with
  | 0 => none
  | n + 1 =>
    if (σ.1 ((x0 + 1) + 1) 0) ≤ x2 then
    (some x1)
    else
    ((g_X9_hasRoll N ((x0 + 1) + 1) x2 σ).bind fun v1 =>
    if v1 = true then
    (g_X10_blank_4 N n x0 x1 (x2 + 1) σ)
    else
    (g_X10_blank_4 N n x0 (x1 ||| (jshl 1 x2)) (x2 + 1) σ))
set_option maxHeartbeats 4000000 in
theorem l_X10_blank_4 {N : Mem} {B : Nat} (hN : HN N B) : ∀ (n : Nat) (x0 : Nat) (x1 : Int32) (x2 : Int32) (σ : ST), isC 10 x0 → f_X10_blank_4 n (B + x0) x1 x2 (put N B σ) = (g_X10_blank_4 N n x0 x1 x2 σ).bind some := by
  intro n
  induction n with
  | zero =>
    intro x0 x1 x2 σ hx0
    rfl
  | succ n ih =>
    intro x0 x1 x2 σ hx0
    unfold f_X10_blank_4 g_X10_blank_4
    refine lg (gR_10_0 hx0) ?_
    refine lg (gR_4_0 (sh_10_0 hx0)) ?_
    refine lg (gI_9_0 (sh_4_0 (sh_10_0 hx0))) ?_
    refine li (fun _ => ?_) (fun _ => ?_)
    · rfl
    · refine lg (gR_10_0 hx0) ?_
      refine lg (gR_4_0 (sh_10_0 hx0)) ?_
      refine lb (l_X9_hasRoll hN (sh_4_0 (sh_10_0 hx0))) (fun v1 => ?_)
      refine li (fun _ => ?_) (fun _ => ?_)
      · exact ih _ _ _ _ hx0
      · exact ih _ _ _ _ hx0
noncomputable def g_X10_blank_0 (N : Mem) (x0 : Nat) (σ : ST) : Option (Int32) :=
  g_X10_blank_4 N fu x0 0 0 σ
set_option maxHeartbeats 4000000 in
theorem l_X10_blank_0 {N : Mem} {B : Nat} (hN : HN N B) : ∀ (x0 : Nat) (σ : ST), isC 10 x0 → f_X10_blank_0 (B + x0) (put N B σ) = (g_X10_blank_0 N x0 σ).bind some := by
  intro x0 σ hx0
  unfold f_X10_blank_0 g_X10_blank_0
  exact l_X10_blank_4 hN  _ _ _ _ _ hx0
noncomputable def g_X10_blank (N : Mem) (x0 : Nat) (σ : ST) : Option (Int32) := g_X10_blank_0 N x0 σ
theorem l_X10_blank {N : Mem} {B : Nat} (hN : HN N B) {x0 : Nat} {σ : ST} (hx0 : isC 10 x0) : f_X10_blank (B + x0) (put N B σ) = g_X10_blank N x0 σ := by
  unfold f_X10_blank g_X10_blank
  rw [if_pos (isOb_put hx0)]
  exact lsm (l_X10_blank_0 hN _ _ hx0)
noncomputable def g_X10_ledger_0 (N : Mem) (x0 : Nat) (x1 : Int32) (σ : ST) : Option (Int32) :=
  if x1 = (-1) then
  (some (σ.1 ((x0 + 1) + 1) 3))
  else
  ((g_X9_has N ((x0 + 1) + 1) x1 σ).bind fun v1 =>
  if v1 = false then
  (some (-2))
  else
  ((g_X9_bookedOf N ((x0 + 1) + 1) x1 σ).bind fun v2 =>
  some v2))
set_option maxHeartbeats 4000000 in
theorem l_X10_ledger_0 {N : Mem} {B : Nat} (hN : HN N B) : ∀ (x0 : Nat) (x1 : Int32) (σ : ST), isC 10 x0 → f_X10_ledger_0 (B + x0) x1 (put N B σ) = (g_X10_ledger_0 N x0 x1 σ).bind some := by
  intro x0 x1 σ hx0
  unfold f_X10_ledger_0 g_X10_ledger_0
  refine li (fun _ => ?_) (fun _ => ?_)
  · refine lg (gR_10_0 hx0) ?_
    refine lg (gR_4_0 (sh_10_0 hx0)) ?_
    refine lg (gI_9_3 (sh_4_0 (sh_10_0 hx0))) ?_
    rfl
  · refine lg (gR_10_0 hx0) ?_
    refine lg (gR_4_0 (sh_10_0 hx0)) ?_
    refine lb (l_X9_has hN (sh_4_0 (sh_10_0 hx0))) (fun v1 => ?_)
    refine li (fun _ => ?_) (fun _ => ?_)
    · rfl
    · refine lg (gR_10_0 hx0) ?_
      refine lg (gR_4_0 (sh_10_0 hx0)) ?_
      refine lb (l_X9_bookedOf hN (sh_4_0 (sh_10_0 hx0))) (fun v2 => ?_)
      rfl
noncomputable def g_X10_ledger (N : Mem) (x0 : Nat) (x1 : Int32) (σ : ST) : Option (Int32) := g_X10_ledger_0 N x0 x1 σ
theorem l_X10_ledger {N : Mem} {B : Nat} (hN : HN N B) {x0 : Nat} {x1 : Int32} {σ : ST} (hx0 : isC 10 x0) : f_X10_ledger (B + x0) x1 (put N B σ) = g_X10_ledger N x0 x1 σ := by
  unfold f_X10_ledger g_X10_ledger
  rw [if_pos (isOb_put hx0)]
  exact lsm (l_X10_ledger_0 hN _ _ _ hx0)
noncomputable def g_X10_image_0 (N : Mem) (x0 : Nat) (σ : ST) : Option (Int32 × ST) :=
  (g_X4_copyFrom N (x0 + 297) (x0 + 1) σ).bind fun r1 =>
  some ((r1.1 ((x0 + 1) + 1) 1), r1)
set_option maxHeartbeats 4000000 in
theorem l_X10_image_0 {N : Mem} {B : Nat} (hN : HN N B) : ∀ (x0 : Nat) (σ : ST), isC 10 x0 → f_X10_image_0 (B + x0) (put N B σ) = (g_X10_image_0 N x0 σ).bind (fun q => some (q.1, put N B q.2)) := by
  intro x0 σ hx0
  unfold f_X10_image_0 g_X10_image_0
  refine lg (gR_10_1 hx0) ?_
  refine lg (gR_10_0 hx0) ?_
  refine lm (l_X4_copyFrom hN (sh_10_1 hx0) (sh_10_0 hx0)) (fun r1 => ?_)
  refine lg (gR_10_0 hx0) ?_
  refine lg (gR_4_0 (sh_10_0 hx0)) ?_
  refine lg (gI_9_1 (sh_4_0 (sh_10_0 hx0))) ?_
  rfl
noncomputable def g_X10_image (N : Mem) (x0 : Nat) (σ : ST) : Option (Int32 × ST) := g_X10_image_0 N x0 σ
theorem l_X10_image {N : Mem} {B : Nat} (hN : HN N B) {x0 : Nat} {σ : ST} (hx0 : isC 10 x0) : f_X10_image (B + x0) (put N B σ) = (g_X10_image N x0 σ).bind (fun q => some (q.1, put N B q.2)) := by
  unfold f_X10_image g_X10_image
  rw [if_pos (isOb_put hx0)]
  exact l_X10_image_0 hN _ _ hx0
noncomputable def g_X10_back_0 (N : Mem) (x0 : Nat) (σ : ST) : Option (Int32 × ST) :=
  (g_X4_copyFrom N (x0 + 1) (x0 + 297) σ).bind fun r1 =>
  some ((r1.1 ((x0 + 1) + 1) 1), r1)
set_option maxHeartbeats 4000000 in
theorem l_X10_back_0 {N : Mem} {B : Nat} (hN : HN N B) : ∀ (x0 : Nat) (σ : ST), isC 10 x0 → f_X10_back_0 (B + x0) (put N B σ) = (g_X10_back_0 N x0 σ).bind (fun q => some (q.1, put N B q.2)) := by
  intro x0 σ hx0
  unfold f_X10_back_0 g_X10_back_0
  refine lg (gR_10_0 hx0) ?_
  refine lg (gR_10_1 hx0) ?_
  refine lm (l_X4_copyFrom hN (sh_10_0 hx0) (sh_10_1 hx0)) (fun r1 => ?_)
  refine lg (gR_10_0 hx0) ?_
  refine lg (gR_4_0 (sh_10_0 hx0)) ?_
  refine lg (gI_9_1 (sh_4_0 (sh_10_0 hx0))) ?_
  rfl
noncomputable def g_X10_back (N : Mem) (x0 : Nat) (σ : ST) : Option (Int32 × ST) := g_X10_back_0 N x0 σ
theorem l_X10_back {N : Mem} {B : Nat} (hN : HN N B) {x0 : Nat} {σ : ST} (hx0 : isC 10 x0) : f_X10_back (B + x0) (put N B σ) = (g_X10_back N x0 σ).bind (fun q => some (q.1, put N B q.2)) := by
  unfold f_X10_back g_X10_back
  rw [if_pos (isOb_put hx0)]
  exact l_X10_back_0 hN _ _ hx0
noncomputable def g_X10_about_0 (N : Mem) (x0 : Nat) (x1 : Int32) (σ : ST) : Option (Int32) :=
  if x1 = 0 then
  (some (σ.1 ((x0 + 1) + 1) 0))
  else
  (if x1 = 1 then
  (some (σ.1 (x0 + 1) 5))
  else
  (if x1 = 2 then
  (some (σ.1 (x0 + 1) 6))
  else
  (if x1 = 3 then
  (some (σ.1 (x0 + 1) 3))
  else
  (if x1 = 4 then
  (some (σ.1 ((x0 + 1) + 13) 1))
  else
  (if x1 = 5 then
  (some (σ.1 ((x0 + 1) + 15) 1))
  else
  (if x1 = 6 then
  (some (σ.1 ((x0 + 1) + 17) 1))
  else
  (if x1 = 7 then
  (some (σ.1 ((x0 + 1) + 19) 1))
  else
  (if x1 = 8 then
  (some (σ.1 (x0 + 593) 1))
  else
  (some (-2))))))))))
set_option maxHeartbeats 4000000 in
theorem l_X10_about_0 {N : Mem} {B : Nat} (hN : HN N B) : ∀ (x0 : Nat) (x1 : Int32) (σ : ST), isC 10 x0 → f_X10_about_0 (B + x0) x1 (put N B σ) = (g_X10_about_0 N x0 x1 σ).bind some := by
  intro x0 x1 σ hx0
  unfold f_X10_about_0 g_X10_about_0
  refine li (fun _ => ?_) (fun _ => ?_)
  · refine lg (gR_10_0 hx0) ?_
    refine lg (gR_4_0 (sh_10_0 hx0)) ?_
    refine lg (gI_9_0 (sh_4_0 (sh_10_0 hx0))) ?_
    rfl
  refine li (fun _ => ?_) (fun _ => ?_)
  · refine lg (gR_10_0 hx0) ?_
    refine lg (gI_4_5 (sh_10_0 hx0)) ?_
    rfl
  refine li (fun _ => ?_) (fun _ => ?_)
  · refine lg (gR_10_0 hx0) ?_
    refine lg (gI_4_6 (sh_10_0 hx0)) ?_
    rfl
  refine li (fun _ => ?_) (fun _ => ?_)
  · refine lg (gR_10_0 hx0) ?_
    refine lg (gI_4_3 (sh_10_0 hx0)) ?_
    rfl
  refine li (fun _ => ?_) (fun _ => ?_)
  · refine lg (gR_10_0 hx0) ?_
    refine lg (gR_4_8 (sh_10_0 hx0)) ?_
    refine lg (gI_3_1 (sh_4_8 (sh_10_0 hx0))) ?_
    rfl
  refine li (fun _ => ?_) (fun _ => ?_)
  · refine lg (gR_10_0 hx0) ?_
    refine lg (gR_4_9 (sh_10_0 hx0)) ?_
    refine lg (gI_3_1 (sh_4_9 (sh_10_0 hx0))) ?_
    rfl
  refine li (fun _ => ?_) (fun _ => ?_)
  · refine lg (gR_10_0 hx0) ?_
    refine lg (gR_4_10 (sh_10_0 hx0)) ?_
    refine lg (gI_3_1 (sh_4_10 (sh_10_0 hx0))) ?_
    rfl
  refine li (fun _ => ?_) (fun _ => ?_)
  · refine lg (gR_10_0 hx0) ?_
    refine lg (gR_4_11 (sh_10_0 hx0)) ?_
    refine lg (gI_3_1 (sh_4_11 (sh_10_0 hx0))) ?_
    rfl
  refine li (fun _ => ?_) (fun _ => ?_)
  · refine lg (gR_10_2 hx0) ?_
    refine lg (gI_7_1 (sh_10_2 hx0)) ?_
    rfl
  rfl
noncomputable def g_X10_about (N : Mem) (x0 : Nat) (x1 : Int32) (σ : ST) : Option (Int32) := g_X10_about_0 N x0 x1 σ
theorem l_X10_about {N : Mem} {B : Nat} (hN : HN N B) {x0 : Nat} {x1 : Int32} {σ : ST} (hx0 : isC 10 x0) : f_X10_about (B + x0) x1 (put N B σ) = g_X10_about N x0 x1 σ := by
  unfold f_X10_about g_X10_about
  rw [if_pos (isOb_put hx0)]
  exact lsm (l_X10_about_0 hN _ _ _ hx0)
