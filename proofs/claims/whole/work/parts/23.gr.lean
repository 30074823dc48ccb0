noncomputable def g_X11_copy_2 (N : Mem) (n0 : Nat) (nx0 : Nat) (x0 : Nat) (nx1 : Nat) (x1 : Nat) (x2 : Int32) (σ : ST) : Option (ST) :=
  match n0 with
  | 0 => none
  | n + 1 =>
    if 4607 ≤ x2 then
    (some σ)
    else
    ((xI nx0 σ x0 x2).bind fun v1 =>
    (yI nx1 σ x1 x2 v1).bind fun r2 =>
    g_X11_copy_2 N n nx0 x0 nx1 x1 (x2 + 1) r2)
set_option maxHeartbeats 4000000 in
theorem l_X11_copy_2 {N : Mem} {B : Nat} (hN : HN N B) : ∀ (n : Nat) (nx0 : Nat) (x0 : Nat) (nx1 : Nat) (x1 : Nat) (x2 : Int32) (σ : ST), isA nx0 x0 → isA nx1 x1 → f_X11_copy_2 n (B + x0) (B + x1) x2 (put N B σ) = (g_X11_copy_2 N n nx0 x0 nx1 x1 x2 σ).bind (fun q => some (put N B q)) := by
  intro n
  induction n with
  | zero =>
    intro nx0 x0 nx1 x1 x2 σ hx0 hx1
    rfl
  | succ n ih =>
    intro nx0 x0 nx1 x1 x2 σ hx0 hx1
    unfold f_X11_copy_2 g_X11_copy_2
    refine li (fun _ => ?_) (fun _ => ?_)
    · rfl
    · refine lb (rI_put hx0) (fun v1 => ?_)
      refine lm (wI_put hx1) (fun r2 => ?_)
      exact ih _ _ _ _ _ _ hx0 hx1
noncomputable def g_X11_copy_0 (N : Mem) (nx0 : Nat) (x0 : Nat) (nx1 : Nat) (x1 : Nat) (σ : ST) : Option (ST) :=
  g_X11_copy_2 N fu nx0 x0 nx1 x1 0 σ
set_option maxHeartbeats 4000000 in
theorem l_X11_copy_0 {N : Mem} {B : Nat} (hN : HN N B) : ∀ (nx0 : Nat) (x0 : Nat) (nx1 : Nat) (x1 : Nat) (σ : ST), isA nx0 x0 → isA nx1 x1 → f_X11_copy_0 (B + x0) (B + x1) (put N B σ) = (g_X11_copy_0 N nx0 x0 nx1 x1 σ).bind (fun q => some (put N B q)) := by
  intro nx0 x0 nx1 x1 σ hx0 hx1
  unfold f_X11_copy_0 g_X11_copy_0
  exact l_X11_copy_2 hN  _ _ _ _ _ _ _ hx0 hx1
noncomputable def g_X11_copy (N : Mem) (nx0 : Nat) (x0 : Nat) (nx1 : Nat) (x1 : Nat) (σ : ST) : Option (ST) := g_X11_copy_0 N nx0 x0 nx1 x1 σ
theorem l_X11_copy {N : Mem} {B : Nat} (hN : HN N B) {nx0 : Nat} {x0 : Nat} {nx1 : Nat} {x1 : Nat} {σ : ST} (hx0 : isA nx0 x0) (hx1 : isA nx1 x1) : f_X11_copy (B + x0) (B + x1) (put N B σ) = (g_X11_copy N nx0 x0 nx1 x1 σ).map (put N B) := by
  unfold f_X11_copy g_X11_copy
  exact lmap (l_X11_copy_0 hN _ _ _ _ _ hx0 hx1)
noncomputable def g_X11_isMachine_0 (N : Mem) (x0 : Nat) (x1 : Int32) (σ : ST) : Option (Bool) :=
  (xI 4607 σ (x0 + 1) 0).bind fun v1 =>
  (f_X11_isIn x1 0 (v1 - 1)).bind fun v2 =>
  some v2
set_option maxHeartbeats 4000000 in
theorem l_X11_isMachine_0 {N : Mem} {B : Nat} (hN : HN N B) : ∀ (x0 : Nat) (x1 : Int32) (σ : ST), isC 11 x0 → f_X11_isMachine_0 (B + x0) x1 (put N B σ) = (g_X11_isMachine_0 N x0 x1 σ).bind some := by
  intro x0 x1 σ hx0
  unfold f_X11_isMachine_0 g_X11_isMachine_0
  refine lg (gR_11_0 hx0) ?_
  refine lb (rI_put (sh_11_0 hx0)) (fun v1 => ?_)
  refine lb (rfl) (fun v2 => ?_)
  rfl
noncomputable def g_X11_isMachine (N : Mem) (x0 : Nat) (x1 : Int32) (σ : ST) : Option (Bool) := g_X11_isMachine_0 N x0 x1 σ
theorem l_X11_isMachine {N : Mem} {B : Nat} (hN : HN N B) {x0 : Nat} {x1 : Int32} {σ : ST} (hx0 : isC 11 x0) : f_X11_isMachine (B + x0) x1 (put N B σ) = g_X11_isMachine N x0 x1 σ := by
  unfold f_X11_isMachine g_X11_isMachine
  rw [if_pos (isOb_put hx0)]
  exact lsm (l_X11_isMachine_0 hN _ _ _ hx0)
noncomputable def g_X11_get_0 (N : Mem) (x0 : Nat) (x1 : Int32) (x2 : Int32) (σ : ST) : Option (Int32) :=
  (xI 4607 σ (x0 + 1) ((11 + (18 * x1)) + x2)).bind fun v1 =>
  some v1
set_option maxHeartbeats 4000000 in
theorem l_X11_get_0 {N : Mem} {B : Nat} (hN : HN N B) : ∀ (x0 : Nat) (x1 : Int32) (x2 : Int32) (σ : ST), isC 11 x0 → f_X11_get_0 (B + x0) x1 x2 (put N B σ) = (g_X11_get_0 N x0 x1 x2 σ).bind some := by
  intro x0 x1 x2 σ hx0
  unfold f_X11_get_0 g_X11_get_0
  refine lg (gR_11_0 hx0) ?_
  refine lb (rI_put (sh_11_0 hx0)) (fun v1 => ?_)
  rfl
noncomputable def g_X11_get (N : Mem) (x0 : Nat) (x1 : Int32) (x2 : Int32) (σ : ST) : Option (Int32) := g_X11_get_0 N x0 x1 x2 σ
theorem l_X11_get {N : Mem} {B : Nat} (hN : HN N B) {x0 : Nat} {x1 : Int32} {x2 : Int32} {σ : ST} (hx0 : isC 11 x0) : f_X11_get (B + x0) x1 x2 (put N B σ) = g_X11_get N x0 x1 x2 σ := by
  unfold f_X11_get g_X11_get
  rw [if_pos (isOb_put hx0)]
  exact lsm (l_X11_get_0 hN _ _ _ _ hx0)
noncomputable def g_X11_lay_0 (N : Mem) (x0 : Nat) (x1 : Int32) (x2 : Int32) (x3 : Int32) (σ : ST) : Option (ST) :=
  (yI 4607 σ (x0 + 1) ((11 + (18 * x1)) + x2) x3).bind fun r1 =>
  some r1
set_option maxHeartbeats 4000000 in
theorem l_X11_lay_0 {N : Mem} {B : Nat} (hN : HN N B) : ∀ (x0 : Nat) (x1 : Int32) (x2 : Int32) (x3 : Int32) (σ : ST), isC 11 x0 → f_X11_lay_0 (B + x0) x1 x2 x3 (put N B σ) = (g_X11_lay_0 N x0 x1 x2 x3 σ).bind (fun q => some (put N B q)) := by
  intro x0 x1 x2 x3 σ hx0
  unfold f_X11_lay_0 g_X11_lay_0
  refine lg (gR_11_0 hx0) ?_
  refine lm (wI_put (sh_11_0 hx0)) (fun r1 => ?_)
  rfl
noncomputable def g_X11_lay (N : Mem) (x0 : Nat) (x1 : Int32) (x2 : Int32) (x3 : Int32) (σ : ST) : Option (ST) := g_X11_lay_0 N x0 x1 x2 x3 σ
theorem l_X11_lay {N : Mem} {B : Nat} (hN : HN N B) {x0 : Nat} {x1 : Int32} {x2 : Int32} {x3 : Int32} {σ : ST} (hx0 : isC 11 x0) : f_X11_lay (B + x0) x1 x2 x3 (put N B σ) = (g_X11_lay N x0 x1 x2 x3 σ).map (put N B) := by
  unfold f_X11_lay g_X11_lay
  rw [if_pos (isOb_put hx0)]
  exact lmap (l_X11_lay_0 hN _ _ _ _ _ hx0)
noncomputable def g_X11_ruleOf_0 (N : Mem) (x0 : Nat) (x1 : Int32) (x2 : Int32) (σ : ST) : Option (Int32) :=
  (xI 4607 σ (x0 + 1) ((101 + (2 * x1)) + x2)).bind fun v1 =>
  some v1
set_option maxHeartbeats 4000000 in
theorem l_X11_ruleOf_0 {N : Mem} {B : Nat} (hN : HN N B) : ∀ (x0 : Nat) (x1 : Int32) (x2 : Int32) (σ : ST), isC 11 x0 → f_X11_ruleOf_0 (B + x0) x1 x2 (put N B σ) = (g_X11_ruleOf_0 N x0 x1 x2 σ).bind some := by
  intro x0 x1 x2 σ hx0
  unfold f_X11_ruleOf_0 g_X11_ruleOf_0
  refine lg (gR_11_0 hx0) ?_
  refine lb (rI_put (sh_11_0 hx0)) (fun v1 => ?_)
  rfl
noncomputable def g_X11_ruleOf (N : Mem) (x0 : Nat) (x1 : Int32) (x2 : Int32) (σ : ST) : Option (Int32) := g_X11_ruleOf_0 N x0 x1 x2 σ
theorem l_X11_ruleOf {N : Mem} {B : Nat} (hN : HN N B) {x0 : Nat} {x1 : Int32} {x2 : Int32} {σ : ST} (hx0 : isC 11 x0) : f_X11_ruleOf (B + x0) x1 x2 (put N B σ) = g_X11_ruleOf N x0 x1 x2 σ := by
  unfold f_X11_ruleOf g_X11_ruleOf
  rw [if_pos (isOb_put hx0)]
  exact lsm (l_X11_ruleOf_0 hN _ _ _ _ hx0)
noncomputable def g_X11_begin_2 (N : Mem) (n0 : Nat) (x0 : Nat) (x1 : Int32) (x2 : Int32) (σ : ST) : Option (ST) :=
  match n0 with
  | 0 => none
  | n + 1 =>
    if 16 ≤ x2 then
    ((g_X11_get N x0 x1 17 σ).bind fun v1 =>
    (g_X11_lay N x0 x1 0 v1 σ).bind fun r2 =>
    some r2)
    else
    ((g_X11_lay N x0 x1 x2 0 σ).bind fun r3 =>
    g_X11_begin_2 N n x0 x1 (x2 + 1) r3)
set_option maxHeartbeats 4000000 in
theorem l_X11_begin_2 {N : Mem} {B : Nat} (hN : HN N B) : ∀ (n : Nat) (x0 : Nat) (x1 : Int32) (x2 : Int32) (σ : ST), isC 11 x0 → f_X11_begin_2 n (B + x0) x1 x2 (put N B σ) = (g_X11_begin_2 N n x0 x1 x2 σ).bind (fun q => some (put N B q)) := by
  intro n
  induction n with
  | zero =>
    intro x0 x1 x2 σ hx0
    rfl
  | succ n ih =>
    intro x0 x1 x2 σ hx0
    unfold f_X11_begin_2 g_X11_begin_2
    refine li (fun _ => ?_) (fun _ => ?_)
    · refine lb (l_X11_get hN hx0) (fun v1 => ?_)
      refine lm (l_X11_lay hN hx0) (fun r2 => ?_)
      rfl
    · refine lm (l_X11_lay hN hx0) (fun r3 => ?_)
      exact ih _ _ _ _ hx0
noncomputable def g_X11_begin_0 (N : Mem) (x0 : Nat) (x1 : Int32) (σ : ST) : Option (ST) :=
  g_X11_begin_2 N fu x0 x1 0 σ
set_option maxHeartbeats 4000000 in
theorem l_X11_begin_0 {N : Mem} {B : Nat} (hN : HN N B) : ∀ (x0 : Nat) (x1 : Int32) (σ : ST), isC 11 x0 → f_X11_begin_0 (B + x0) x1 (put N B σ) = (g_X11_begin_0 N x0 x1 σ).bind (fun q => some (put N B q)) := by
  intro x0 x1 σ hx0
  unfold f_X11_begin_0 g_X11_begin_0
  exact l_X11_begin_2 hN  _ _ _ _ _ hx0
noncomputable def g_X11_begin (N : Mem) (x0 : Nat) (x1 : Int32) (σ : ST) : Option (ST) := g_X11_begin_0 N x0 x1 σ
theorem l_X11_begin {N : Mem} {B : Nat} (hN : HN N B) {x0 : Nat} {x1 : Int32} {σ : ST} (hx0 : isC 11 x0) : f_X11_begin (B + x0) x1 (put N B σ) = (g_X11_begin N x0 x1 σ).map (put N B) := by
  unfold f_X11_begin g_X11_begin
  rw [if_pos (isOb_put hx0)]
  exact lmap (l_X11_begin_0 hN _ _ _ hx0)
noncomputable def g_X11_machine_0 (N : Mem) (x0 : Nat) (x1 : Int32) (x2 : Int32) (σ : ST) : Option (Int32 × ST) :=
  (f_X11_isDigit x1).bind fun v1 =>
  if v1 = false then
  (some ((-1), σ))
  else
  ((f_X11_isIn x2 0 99).bind fun v2 =>
  if v2 = false then
  (some ((-1), σ))
  else
  ((xI 4607 σ (x0 + 1) 0).bind fun v3 =>
  if v3 = 5 then
  (some ((-1), σ))
  else
  ((xI 4607 σ (x0 + 1) 0).bind fun v4 =>
  (g_X11_lay N x0 v4 16 x1 σ).bind fun r5 =>
  (g_X11_lay N x0 v4 17 x2 r5).bind fun r6 =>
  (g_X11_begin N x0 v4 r6).bind fun r7 =>
  (xI 4607 r7 (x0 + 1) 0).bind fun v8 =>
  (yI 4607 r7 (x0 + 1) 0 (v8 + 1)).bind fun r9 =>
  some (v4, r9))))
set_option maxHeartbeats 4000000 in
theorem l_X11_machine_0 {N : Mem} {B : Nat} (hN : HN N B) : ∀ (x0 : Nat) (x1 : Int32) (x2 : Int32) (σ : ST), isC 11 x0 → f_X11_machine_0 (B + x0) x1 x2 (put N B σ) = (g_X11_machine_0 N x0 x1 x2 σ).bind (fun q => some (q.1, put N B q.2)) := by
  intro x0 x1 x2 σ hx0
  unfold f_X11_machine_0 g_X11_machine_0
  refine lb (rfl) (fun v1 => ?_)
  refine li (fun _ => ?_) (fun _ => ?_)
  · rfl
  · refine lb (rfl) (fun v2 => ?_)
    refine li (fun _ => ?_) (fun _ => ?_)
    · rfl
    · refine lg (gR_11_0 hx0) ?_
      refine lb (rI_put (sh_11_0 hx0)) (fun v3 => ?_)
      refine li (fun _ => ?_) (fun _ => ?_)
      · rfl
      · refine lg (gR_11_0 hx0) ?_
        refine lb (rI_put (sh_11_0 hx0)) (fun v4 => ?_)
        refine lm (l_X11_lay hN hx0) (fun r5 => ?_)
        refine lm (l_X11_lay hN hx0) (fun r6 => ?_)
        refine lm (l_X11_begin hN hx0) (fun r7 => ?_)
        refine lg (gR_11_0 hx0) ?_
        refine lb (rI_put (sh_11_0 hx0)) (fun v8 => ?_)
        refine lm (wI_put (sh_11_0 hx0)) (fun r9 => ?_)
        rfl
noncomputable def g_X11_machine (N : Mem) (x0 : Nat) (x1 : Int32) (x2 : Int32) (σ : ST) : Option (Int32 × ST) := g_X11_machine_0 N x0 x1 x2 σ
theorem l_X11_machine {N : Mem} {B : Nat} (hN : HN N B) {x0 : Nat} {x1 : Int32} {x2 : Int32} {σ : ST} (hx0 : isC 11 x0) : f_X11_machine (B + x0) x1 x2 (put N B σ) = (g_X11_machine N x0 x1 x2 σ).bind (fun q => some (q.1, put N B q.2)) := by
  unfold f_X11_machine g_X11_machine
  rw [if_pos (isOb_put hx0)]
  exact l_X11_machine_0 hN _ _ _ _ hx0
noncomputable def g_X11_rule_0 (N : Mem) (x0 : Nat) (x1 : Int32) (x2 : Bool) (x3 : Int32) (σ : ST) : Option (Bool × ST) :=
  (f_X11_isDigit x1).bind fun v1 =>
  if v1 = false then
  (some (false, σ))
  else
  ((f_X11_isIn x3 0 110).bind fun v2 =>
  if v2 = true then
  (if x2 = false then
  ((yI 4607 σ (x0 + 1) ((101 + (2 * x1)) + 0) x3).bind fun r3 =>
  some (true, r3))
  else
  ((yI 4607 σ (x0 + 1) ((101 + (2 * x1)) + 1) x3).bind fun r4 =>
  some (true, r4)))
  else
  (some (false, σ)))
set_option maxHeartbeats 4000000 in
theorem l_X11_rule_0 {N : Mem} {B : Nat} (hN : HN N B) : ∀ (x0 : Nat) (x1 : Int32) (x2 : Bool) (x3 : Int32) (σ : ST), isC 11 x0 → f_X11_rule_0 (B + x0) x1 x2 x3 (put N B σ) = (g_X11_rule_0 N x0 x1 x2 x3 σ).bind (fun q => some (q.1, put N B q.2)) := by
  intro x0 x1 x2 x3 σ hx0
  unfold f_X11_rule_0 g_X11_rule_0
  refine lb (rfl) (fun v1 => ?_)
  refine li (fun _ => ?_) (fun _ => ?_)
  · rfl
  · refine lb (rfl) (fun v2 => ?_)
    refine li (fun _ => ?_) (fun _ => ?_)
    · refine lg (gR_11_0 hx0) ?_
      refine li (fun _ => ?_) (fun _ => ?_)
      · refine lm (wI_put (sh_11_0 hx0)) (fun r3 => ?_)
        rfl
      · refine lm (wI_put (sh_11_0 hx0)) (fun r4 => ?_)
        rfl
    · rfl
noncomputable def g_X11_rule (N : Mem) (x0 : Nat) (x1 : Int32) (x2 : Bool) (x3 : Int32) (σ : ST) : Option (Bool × ST) := g_X11_rule_0 N x0 x1 x2 x3 σ
theorem l_X11_rule {N : Mem} {B : Nat} (hN : HN N B) {x0 : Nat} {x1 : Int32} {x2 : Bool} {x3 : Int32} {σ : ST} (hx0 : isC 11 x0) : f_X11_rule (B + x0) x1 x2 x3 (put N B σ) = (g_X11_rule N x0 x1 x2 x3 σ).bind (fun q => some (q.1, put N B q.2)) := by
  unfold f_X11_rule g_X11_rule
  rw [if_pos (isOb_put hx0)]
  exact l_X11_rule_0 hN _ _ _ _ _ hx0
noncomputable def g_X11_four_3 (N : Mem) (n0 : Nat) (x0 : Nat) (x1 : Int32) (x2 : Int32) (σ : ST) : Option (ST) :=
  match n0 with
  | 0 => none
  | n + 1 =>
    if x2 < 0 then
    (some σ)
    else
    ((yI 300 σ (x0 + 4) (σ.1 x0 4) ((jshr x1 x2) &&& 255)).bind fun r1 =>
    (some (setI r1 x0 4 ((r1.1 x0 4) + 1))).bind fun r2 =>
    g_X11_four_3 N n x0 x1 (x2 + (-8)) r2)
set_option maxHeartbeats 4000000 in
theorem l_X11_four_3 {N : Mem} {B : Nat} (hN : HN N B) : ∀ (n : Nat) (x0 : Nat) (x1 : Int32) (x2 : Int32) (σ : ST), isC 11 x0 → f_X11_four_3 n (B + x0) x1 x2 (put N B σ) = (g_X11_four_3 N n x0 x1 x2 σ).bind (fun q => some (put N B q)) := by
  intro n
  induction n with
  | zero =>
    intro x0 x1 x2 σ hx0
    rfl
  | succ n ih =>
    intro x0 x1 x2 σ hx0
    unfold f_X11_four_3 g_X11_four_3
    refine li (fun _ => ?_) (fun _ => ?_)
    · rfl
    · refine lg (gR_11_3 hx0) ?_
      refine lg (gI_11_4 hx0) ?_
      refine lm (wI_put (sh_11_3 hx0)) (fun r1 => ?_)
      refine lg (gI_11_4 hx0) ?_
      refine lp (pF_11_4 hx0) (fun r2 => ?_)
      exact ih _ _ _ _ hx0
noncomputable def g_X11_four_0 (N : Mem) (x0 : Nat) (x1 : Int32) (σ : ST) : Option (ST) :=
  g_X11_four_3 N fu x0 x1 24 σ
set_option maxHeartbeats 4000000 in
theorem l_X11_four_0 {N : Mem} {B : Nat} (hN : HN N B) : ∀ (x0 : Nat) (x1 : Int32) (σ : ST), isC 11 x0 → f_X11_four_0 (B + x0) x1 (put N B σ) = (g_X11_four_0 N x0 x1 σ).bind (fun q => some (put N B q)) := by
  intro x0 x1 σ hx0
  unfold f_X11_four_0 g_X11_four_0
  exact l_X11_four_3 hN  _ _ _ _ _ hx0
noncomputable def g_X11_four (N : Mem) (x0 : Nat) (x1 : Int32) (σ : ST) : Option (ST) := g_X11_four_0 N x0 x1 σ
theorem l_X11_four {N : Mem} {B : Nat} (hN : HN N B) {x0 : Nat} {x1 : Int32} {σ : ST} (hx0 : isC 11 x0) : f_X11_four (B + x0) x1 (put N B σ) = (g_X11_four N x0 x1 σ).map (put N B) := by
  unfold f_X11_four g_X11_four
  rw [if_pos (isOb_put hx0)]
  exact lmap (l_X11_four_0 hN _ _ _ hx0)
noncomputable def g_X11_feed_0 (N : Mem) (x0 : Nat) (x1 : Int32) (x2 : Int32) (x3 : Int32) (x4 : Int32) (x5 : Int32) (σ : ST) : Option (Int32 × ST) :=
  if ((σ.1 x0 4) + 20) ≤ 300 then
  ((g_X11_four N x0 x1 σ).bind fun r1 =>
  (g_X11_four N x0 x2 r1).bind fun r2 =>
  (g_X11_four N x0 x3 r2).bind fun r3 =>
  (g_X11_four N x0 x4 r3).bind fun r4 =>
  (g_X11_four N x0 x5 r4).bind fun r5 =>
  some ((r5.1 x0 4), r5))
  else
  (some ((-1), σ))
set_option maxHeartbeats 4000000 in
theorem l_X11_feed_0 {N : Mem} {B : Nat} (hN : HN N B) : ∀ (x0 : Nat) (x1 : Int32) (x2 : Int32) (x3 : Int32) (x4 : Int32) (x5 : Int32) (σ : ST), isC 11 x0 → f_X11_feed_0 (B + x0) x1 x2 x3 x4 x5 (put N B σ) = (g_X11_feed_0 N x0 x1 x2 x3 x4 x5 σ).bind (fun q => some (q.1, put N B q.2)) := by
  intro x0 x1 x2 x3 x4 x5 σ hx0
  unfold f_X11_feed_0 g_X11_feed_0
  refine lg (gI_11_4 hx0) ?_
  refine li (fun _ => ?_) (fun _ => ?_)
  · refine lm (l_X11_four hN hx0) (fun r1 => ?_)
    refine lm (l_X11_four hN hx0) (fun r2 => ?_)
    refine lm (l_X11_four hN hx0) (fun r3 => ?_)
    refine lm (l_X11_four hN hx0) (fun r4 => ?_)
    refine lm (l_X11_four hN hx0) (fun r5 => ?_)
    refine lg (gI_11_4 hx0) ?_
    rfl
  · rfl
noncomputable def g_X11_feed (N : Mem) (x0 : Nat) (x1 : Int32) (x2 : Int32) (x3 : Int32) (x4 : Int32) (x5 : Int32) (σ : ST) : Option (Int32 × ST) := g_X11_feed_0 N x0 x1 x2 x3 x4 x5 σ
theorem l_X11_feed {N : Mem} {B : Nat} (hN : HN N B) {x0 : Nat} {x1 : Int32} {x2 : Int32} {x3 : Int32} {x4 : Int32} {x5 : Int32} {σ : ST} (hx0 : isC 11 x0) : f_X11_feed (B + x0) x1 x2 x3 x4 x5 (put N B σ) = (g_X11_feed N x0 x1 x2 x3 x4 x5 σ).bind (fun q => some (q.1, put N B q.2)) := by
  unfold f_X11_feed g_X11_feed
  rw [if_pos (isOb_put hx0)]
  exact l_X11_feed_0 hN _ _ _ _ _ _ _ hx0
noncomputable def g_X11_end_0 (N : Mem) (x0 : Nat) (x1 : Int32) (σ : ST) : Option (Int32 × ST) :=
  (f_X11_isIn x1 0 (σ.1 x0 4)).bind fun v1 =>
  if v1 = true then
  ((some (setI σ x0 4 x1)).bind fun r2 =>
  some (x1, r2))
  else
  (some ((-1), σ))
set_option maxHeartbeats 4000000 in
theorem l_X11_end_0 {N : Mem} {B : Nat} (hN : HN N B) : ∀ (x0 : Nat) (x1 : Int32) (σ : ST), isC 11 x0 → f_X11_end_0 (B + x0) x1 (put N B σ) = (g_X11_end_0 N x0 x1 σ).bind (fun q => some (q.1, put N B q.2)) := by
  intro x0 x1 σ hx0
  unfold f_X11_end_0 g_X11_end_0
  refine lg (gI_11_4 hx0) ?_
  refine lb (rfl) (fun v1 => ?_)
  refine li (fun _ => ?_) (fun _ => ?_)
  · refine lp (pF_11_4 hx0) (fun r2 => ?_)
    rfl
  · rfl
noncomputable def g_X11_end (N : Mem) (x0 : Nat) (x1 : Int32) (σ : ST) : Option (Int32 × ST) := g_X11_end_0 N x0 x1 σ
theorem l_X11_end {N : Mem} {B : Nat} (hN : HN N B) {x0 : Nat} {x1 : Int32} {σ : ST} (hx0 : isC 11 x0) : f_X11_end (B + x0) x1 (put N B σ) = (g_X11_end N x0 x1 σ).bind (fun q => some (q.1, put N B q.2)) := by
  unfold f_X11_end g_X11_end
  rw [if_pos (isOb_put hx0)]
  exact l_X11_end_0 hN _ _ _ hx0
noncomputable def g_X11_byteAt_0 (N : Mem) (x0 : Nat) (x1 : Int32) (σ : ST) : Option (Int32) :=
  if (σ.1 x0 4) ≤ x1 then
  (some (-1))
  else
  ((xI 300 σ (x0 + 4) x1).bind fun v1 =>
  some v1)
set_option maxHeartbeats 4000000 in
theorem l_X11_byteAt_0 {N : Mem} {B : Nat} (hN : HN N B) : ∀ (x0 : Nat) (x1 : Int32) (σ : ST), isC 11 x0 → f_X11_byteAt_0 (B + x0) x1 (put N B σ) = (g_X11_byteAt_0 N x0 x1 σ).bind some := by
  intro x0 x1 σ hx0
  unfold f_X11_byteAt_0 g_X11_byteAt_0
  refine lg (gI_11_4 hx0) ?_
  refine li (fun _ => ?_) (fun _ => ?_)
  · rfl
  · refine lg (gR_11_3 hx0) ?_
    refine lb (rI_put (sh_11_3 hx0)) (fun v1 => ?_)
    rfl
noncomputable def g_X11_byteAt (N : Mem) (x0 : Nat) (x1 : Int32) (σ : ST) : Option (Int32) := g_X11_byteAt_0 N x0 x1 σ
theorem l_X11_byteAt {N : Mem} {B : Nat} (hN : HN N B) {x0 : Nat} {x1 : Int32} {σ : ST} (hx0 : isC 11 x0) : f_X11_byteAt (B + x0) x1 (put N B σ) = g_X11_byteAt N x0 x1 σ := by
  unfold f_X11_byteAt g_X11_byteAt
  rw [if_pos (isOb_put hx0)]
  exact lsm (l_X11_byteAt_0 hN _ _ _ hx0)
noncomputable def g_X11_nextToken_26 (N : Mem) (k0 : Nat → ST → Option (ST)) (x0 : Nat) (σ : ST) : Option (ST) :=
  (some (setI σ x0 7 ((σ.1 x0 7) + 1))).bind fun r1 =>
  k0 x0 r1
set_option maxHeartbeats 4000000 in
theorem l_X11_nextToken_26 {N : Mem} {B : Nat} (hN : HN N B) {fk0 : Nat → Mem → Option (Mem)} {k0 : Nat → ST → Option (ST)} (hk0 : ∀ (x0 : Nat) (σ : ST), isC 11 x0 → fk0 (B + x0) (put N B σ) = (k0 x0 σ).bind (fun q => some (put N B q))) : ∀ (x0 : Nat) (σ : ST), isC 11 x0 → f_X11_nextToken_26 fk0 (B + x0) (put N B σ) = (g_X11_nextToken_26 N k0 x0 σ).bind (fun q => some (put N B q)) := by
  intro x0 σ hx0
  unfold f_X11_nextToken_26 g_X11_nextToken_26
  refine lg (gI_11_7 hx0) ?_
  refine lp (pF_11_7 hx0) (fun r1 => ?_)
  exact hk0 _ _ hx0
noncomputable def g_X11_nextToken_135 (N : Mem) (k85 : Nat → ST → Option (ST)) (x0 : Nat) (s0 : Int32) (s1 : Nat) (σ : ST) : Option (ST) :=
  (some (setI σ s1 10 s0)).bind fun r2 =>
  (some (setI r2 x0 7 ((r2.1 x0 7) + 1))).bind fun r3 =>
  k85 x0 r3
set_option maxHeartbeats 4000000 in
theorem l_X11_nextToken_135 {N : Mem} {B : Nat} (hN : HN N B) {fk85 : Nat → Mem → Option (Mem)} {k85 : Nat → ST → Option (ST)} (hk85 : ∀ (x0 : Nat) (σ : ST), isC 11 x0 → fk85 (B + x0) (put N B σ) = (k85 x0 σ).bind (fun q => some (put N B q))) : ∀ (x0 : Nat) (s0 : Int32) (s1 : Nat) (σ : ST), isC 11 x0 → isC 11 s1 → f_X11_nextToken_135 fk85 (B + x0) s0 (B + s1) (put N B σ) = (g_X11_nextToken_135 N k85 x0 s0 s1 σ).bind (fun q => some (put N B q)) := by
  intro x0 s0 s1 σ hx0 hs1
  unfold f_X11_nextToken_135 g_X11_nextToken_135
  refine lp (pF_11_10 hs1) (fun r2 => ?_)
  refine lg (gI_11_7 hx0) ?_
  refine lp (pF_11_7 hx0) (fun r3 => ?_)
  exact hk85 _ _ hx0
noncomputable def g_X11_nextToken_85 (N : Mem) (n0 : Nat) (x0 : Nat) (σ : ST) : Option (ST) :=
  match n0 with
  | 0 => none
  | n + 1 =>
    (g_X11_byteAt N x0 (σ.1 x0 7) σ).bind fun v4 =>
    (f_X11_isFigure v4).bind fun v5 =>
    if v5 = false then
    (some σ)
    else
    (if (σ.1 x0 10) ≤ 99999 then
    ((g_X11_byteAt N x0 (σ.1 x0 7) σ).bind fun v6 =>
    g_X11_nextToken_135 N (g_X11_nextToken_85 N n) x0 (((10 * (σ.1 x0 10)) + v6) - 48) x0 σ)
    else
    (g_X11_nextToken_135 N (g_X11_nextToken_85 N n) x0 (σ.1 x0 10) x0 σ))
set_option maxHeartbeats 4000000 in
theorem l_X11_nextToken_85 {N : Mem} {B : Nat} (hN : HN N B) : ∀ (n : Nat) (x0 : Nat) (σ : ST), isC 11 x0 → f_X11_nextToken_85 n (B + x0) (put N B σ) = (g_X11_nextToken_85 N n x0 σ).bind (fun q => some (put N B q)) := by
  intro n
  induction n with
  | zero =>
    intro x0 σ hx0
    rfl
  | succ n ih =>
    intro x0 σ hx0
    unfold f_X11_nextToken_85 g_X11_nextToken_85
    refine lg (gI_11_7 hx0) ?_
    refine lb (l_X11_byteAt hN hx0) (fun v4 => ?_)
    refine lb (rfl) (fun v5 => ?_)
    refine li (fun _ => ?_) (fun _ => ?_)
    · rfl
    · refine lg (gI_11_10 hx0) ?_
      refine li (fun _ => ?_) (fun _ => ?_)
      · refine lg (gI_11_10 hx0) ?_
        refine lg (gI_11_7 hx0) ?_
        refine lb (l_X11_byteAt hN hx0) (fun v6 => ?_)
        exact l_X11_nextToken_135 hN ih _ _ _ _ hx0 hx0
      · refine lg (gI_11_10 hx0) ?_
        exact l_X11_nextToken_135 hN ih _ _ _ _ hx0 hx0
noncomputable def g_X11_nextToken_218 (N : Mem) (k168 : Nat → ST → Option (ST)) (x0 : Nat) (s0 : Int64) (s1 : Nat) (σ : ST) : Option (ST) :=
  (some (setL σ s1 11 s0)).bind fun r7 =>
  (some (setI r7 x0 7 ((r7.1 x0 7) + 1))).bind fun r8 =>
  k168 x0 r8
set_option maxHeartbeats 4000000 in
theorem l_X11_nextToken_218 {N : Mem} {B : Nat} (hN : HN N B) {fk168 : Nat → Mem → Option (Mem)} {k168 : Nat → ST → Option (ST)} (hk168 : ∀ (x0 : Nat) (σ : ST), isC 11 x0 → fk168 (B + x0) (put N B σ) = (k168 x0 σ).bind (fun q => some (put N B q))) : ∀ (x0 : Nat) (s0 : Int64) (s1 : Nat) (σ : ST), isC 11 x0 → isC 11 s1 → f_X11_nextToken_218 fk168 (B + x0) s0 (B + s1) (put N B σ) = (g_X11_nextToken_218 N k168 x0 s0 s1 σ).bind (fun q => some (put N B q)) := by
  intro x0 s0 s1 σ hx0 hs1
  unfold f_X11_nextToken_218 g_X11_nextToken_218
  refine lp (pF_11_11 hs1) (fun r7 => ?_)
  refine lg (gI_11_7 hx0) ?_
  refine lp (pF_11_7 hx0) (fun r8 => ?_)
  exact hk168 _ _ hx0
noncomputable def g_X11_nextToken_168 (N : Mem) (n0 : Nat) (x0 : Nat) (σ : ST) : Option (ST) :=
  match n0 with
  | 0 => none
  | n + 1 =>
    (g_X11_byteAt N x0 (σ.1 x0 7) σ).bind fun v9 =>
    (f_X11_isLetterByte v9).bind fun v10 =>
    if v10 = false then
    (some σ)
    else
    (if (lg_cmp (jshrL (σ.2.1 x0 11) 48) 0) = 0 then
    ((g_X11_byteAt N x0 (σ.1 x0 7) σ).bind fun v11 =>
    g_X11_nextToken_218 N (g_X11_nextToken_168 N n) x0 ((jshlL (σ.2.1 x0 11) 8) ||| (Int32.toInt64 v11)) x0 σ)
    else
    (g_X11_nextToken_218 N (g_X11_nextToken_168 N n) x0 1152921504606846976 x0 σ))
set_option maxHeartbeats 4000000 in
theorem l_X11_nextToken_168 {N : Mem} {B : Nat} (hN : HN N B) : ∀ (n : Nat) (x0 : Nat) (σ : ST), isC 11 x0 → f_X11_nextToken_168 n (B + x0) (put N B σ) = (g_X11_nextToken_168 N n x0 σ).bind (fun q => some (put N B q)) := by
  intro n
  induction n with
  | zero =>
    intro x0 σ hx0
    rfl
  | succ n ih =>
    intro x0 σ hx0
    unfold f_X11_nextToken_168 g_X11_nextToken_168
    refine lg (gI_11_7 hx0) ?_
    refine lb (l_X11_byteAt hN hx0) (fun v9 => ?_)
    refine lb (rfl) (fun v10 => ?_)
    refine li (fun _ => ?_) (fun _ => ?_)
    · rfl
    · refine lg (gL_11_11 hx0) ?_
      refine li (fun _ => ?_) (fun _ => ?_)
      · refine lg (gL_11_11 hx0) ?_
        refine lg (gI_11_7 hx0) ?_
        refine lb (l_X11_byteAt hN hx0) (fun v11 => ?_)
        exact l_X11_nextToken_218 hN ih _ _ _ _ hx0 hx0
      · exact l_X11_nextToken_218 hN ih _ _ _ _ hx0 hx0
noncomputable def g_X11_nextToken_297 (N : Mem) (x0 : Nat) (s0 : Int32) (s1 : Nat) (σ : ST) : Option (ST) :=
  (some (setI σ s1 9 s0)).bind fun r12 =>
  (some (setI r12 x0 7 ((r12.1 x0 7) + 1))).bind fun r13 =>
  some r13
set_option maxHeartbeats 4000000 in
theorem l_X11_nextToken_297 {N : Mem} {B : Nat} (hN : HN N B) : ∀ (x0 : Nat) (s0 : Int32) (s1 : Nat) (σ : ST), isC 11 x0 → isC 11 s1 → f_X11_nextToken_297 (B + x0) s0 (B + s1) (put N B σ) = (g_X11_nextToken_297 N x0 s0 s1 σ).bind (fun q => some (put N B q)) := by
  intro x0 s0 s1 σ hx0 hs1
  unfold f_X11_nextToken_297 g_X11_nextToken_297
  refine lp (pF_11_9 hs1) (fun r12 => ?_)
  refine lg (gI_11_7 hx0) ?_
  refine lp (pF_11_7 hx0) (fun r13 => ?_)
  rfl
noncomputable def g_X11_nextToken_272 (N : Mem) (x0 : Nat) (x1 : Int32) (σ : ST) : Option (ST) :=
  (g_X11_byteAt N x0 (σ.1 x0 7) σ).bind fun v14 =>
  if v14 = 61 then
  (if x1 = 60 then
  (g_X11_nextToken_297 N x0 4 x0 σ)
  else
  (g_X11_nextToken_297 N x0 5 x0 σ))
  else
  (some σ)
set_option maxHeartbeats 4000000 in
theorem l_X11_nextToken_272 {N : Mem} {B : Nat} (hN : HN N B) : ∀ (x0 : Nat) (x1 : Int32) (σ : ST), isC 11 x0 → f_X11_nextToken_272 (B + x0) x1 (put N B σ) = (g_X11_nextToken_272 N x0 x1 σ).bind (fun q => some (put N B q)) := by
  intro x0 x1 σ hx0
  unfold f_X11_nextToken_272 g_X11_nextToken_272
  refine lg (gI_11_7 hx0) ?_
  refine lb (l_X11_byteAt hN hx0) (fun v14 => ?_)
  refine li (fun _ => ?_) (fun _ => ?_)
  · refine li (fun _ => ?_) (fun _ => ?_)
    · exact l_X11_nextToken_297 hN  _ _ _ _ hx0 hx0
    · exact l_X11_nextToken_297 hN  _ _ _ _ hx0 hx0
  · rfl
noncomputable def g_X11_nextToken_247 (N : Mem) (x0 : Nat) (x1 : Int32) (s0 : Int32) (s1 : Nat) (σ : ST) : Option (ST) :=
  (some (setI σ s1 9 s0)).bind fun r15 =>
  (some (setI r15 x0 7 ((r15.1 x0 7) + 1))).bind fun r16 =>
  if x1 = 60 then
  (g_X11_nextToken_272 N x0 x1 r16)
  else
  (if x1 = 62 then
  (g_X11_nextToken_272 N x0 x1 r16)
  else
  (some r16))
set_option maxHeartbeats 4000000 in
theorem l_X11_nextToken_247 {N : Mem} {B : Nat} (hN : HN N B) : ∀ (x0 : Nat) (x1 : Int32) (s0 : Int32) (s1 : Nat) (σ : ST), isC 11 x0 → isC 11 s1 → f_X11_nextToken_247 (B + x0) x1 s0 (B + s1) (put N B σ) = (g_X11_nextToken_247 N x0 x1 s0 s1 σ).bind (fun q => some (put N B q)) := by
  intro x0 x1 s0 s1 σ hx0 hs1
  unfold f_X11_nextToken_247 g_X11_nextToken_247
  refine lp (pF_11_9 hs1) (fun r15 => ?_)
  refine lg (gI_11_7 hx0) ?_
  refine lp (pF_11_7 hx0) (fun r16 => ?_)
  refine li (fun _ => ?_) (fun _ => ?_)
  · exact l_X11_nextToken_272 hN  _ _ _ hx0
  · refine li (fun _ => ?_) (fun _ => ?_)
    · exact l_X11_nextToken_272 hN  _ _ _ hx0
    · rfl
noncomputable def g_X11_nextToken_0 (N : Mem) (n0 : Nat) (x0 : Nat) (σ : ST) : Option (ST) :=
  match n0 with
  | 0 => none
  | n + 1 =>
    (g_X11_byteAt N x0 (σ.1 x0 7) σ).bind fun v17 =>
    if v17 = 32 then
    (g_X11_nextToken_26 N (g_X11_nextToken_0 N n) x0 σ)
    else
    ((g_X11_byteAt N x0 (σ.1 x0 7) σ).bind fun v18 =>
    if v18 = 10 then
    (g_X11_nextToken_26 N (g_X11_nextToken_0 N n) x0 σ)
    else
    ((some (setI σ x0 8 (σ.1 x0 7))).bind fun r19 =>
    (g_X11_byteAt N x0 (r19.1 x0 7) r19).bind fun v20 =>
    if 0 ≤ v20 then
    ((f_X11_isFigure v20).bind fun v21 =>
    if v21 = false then
    ((f_X11_isLetterByte v20).bind fun v22 =>
    if v22 = false then
    ((f_X11_isSign v20).bind fun v23 =>
    if v23 = false then
    (g_X11_nextToken_247 N x0 v20 3 x0 r19)
    else
    (g_X11_nextToken_247 N x0 v20 v20 x0 r19))
    else
    ((some (setI r19 x0 9 2)).bind fun r24 =>
    (some (setL r24 x0 11 0)).bind fun r25 =>
    g_X11_nextToken_168 N fu x0 r25))
    else
    ((some (setI r19 x0 9 1)).bind fun r26 =>
    (some (setI r26 x0 10 0)).bind fun r27 =>
    g_X11_nextToken_85 N fu x0 r27))
    else
    ((some (setI r19 x0 9 0)).bind fun r28 =>
    some r28)))
set_option maxHeartbeats 4000000 in
theorem l_X11_nextToken_0 {N : Mem} {B : Nat} (hN : HN N B) : ∀ (n : Nat) (x0 : Nat) (σ : ST), isC 11 x0 → f_X11_nextToken_0 n (B + x0) (put N B σ) = (g_X11_nextToken_0 N n x0 σ).bind (fun q => some (put N B q)) := by
  intro n
  induction n with
  | zero =>
    intro x0 σ hx0
    rfl
  | succ n ih =>
    intro x0 σ hx0
    unfold f_X11_nextToken_0 g_X11_nextToken_0
    refine lg (gI_11_7 hx0) ?_
    refine lb (l_X11_byteAt hN hx0) (fun v17 => ?_)
    refine li (fun _ => ?_) (fun _ => ?_)
    · exact l_X11_nextToken_26 hN ih _ _ hx0
    · refine lg (gI_11_7 hx0) ?_
      refine lb (l_X11_byteAt hN hx0) (fun v18 => ?_)
      refine li (fun _ => ?_) (fun _ => ?_)
      · exact l_X11_nextToken_26 hN ih _ _ hx0
      · refine lg (gI_11_7 hx0) ?_
        refine lp (pF_11_8 hx0) (fun r19 => ?_)
        refine lg (gI_11_7 hx0) ?_
        refine lb (l_X11_byteAt hN hx0) (fun v20 => ?_)
        refine li (fun _ => ?_) (fun _ => ?_)
        · refine lb (rfl) (fun v21 => ?_)
          refine li (fun _ => ?_) (fun _ => ?_)
          · refine lb (rfl) (fun v22 => ?_)
            refine li (fun _ => ?_) (fun _ => ?_)
            · refine lb (rfl) (fun v23 => ?_)
              refine li (fun _ => ?_) (fun _ => ?_)
              · exact l_X11_nextToken_247 hN  _ _ _ _ _ hx0 hx0
              · exact l_X11_nextToken_247 hN  _ _ _ _ _ hx0 hx0
            · refine lp (pF_11_9 hx0) (fun r24 => ?_)
              refine lp (pF_11_11 hx0) (fun r25 => ?_)
              exact l_X11_nextToken_168 hN  _ _ _ hx0
          · refine lp (pF_11_9 hx0) (fun r26 => ?_)
            refine lp (pF_11_10 hx0) (fun r27 => ?_)
            exact l_X11_nextToken_85 hN  _ _ _ hx0
        · refine lp (pF_11_9 hx0) (fun r28 => ?_)
          rfl
noncomputable def g_X11_nextToken (N : Mem) (x0 : Nat) (σ : ST) : Option (ST) := g_X11_nextToken_0 N fu x0 σ
theorem l_X11_nextToken {N : Mem} {B : Nat} (hN : HN N B) {x0 : Nat} {σ : ST} (hx0 : isC 11 x0) : f_X11_nextToken (B + x0) (put N B σ) = (g_X11_nextToken N x0 σ).map (put N B) := by
  unfold f_X11_nextToken g_X11_nextToken
  rw [if_pos (isOb_put hx0)]
  exact lmap (l_X11_nextToken_0 hN _ _ _ hx0)
noncomputable def g_X11_isWord_0 (N : Mem) (x0 : Nat) (x1 : Int64) (σ : ST) : Option (Bool) :=
  if (σ.1 x0 9) = 2 then
  (if (lg_cmp (σ.2.1 x0 11) x1) = 0 then
  (some true)
  else
  (some false))
  else
  (some false)
set_option maxHeartbeats 4000000 in
theorem l_X11_isWord_0 {N : Mem} {B : Nat} (hN : HN N B) : ∀ (x0 : Nat) (x1 : Int64) (σ : ST), isC 11 x0 → f_X11_isWord_0 (B + x0) x1 (put N B σ) = (g_X11_isWord_0 N x0 x1 σ).bind some := by
  intro x0 x1 σ hx0
  unfold f_X11_isWord_0 g_X11_isWord_0
  refine lg (gI_11_9 hx0) ?_
  refine li (fun _ => ?_) (fun _ => ?_)
  · refine lg (gL_11_11 hx0) ?_
    refine li (fun _ => ?_) (fun _ => ?_)
    · rfl
    · rfl
  · rfl
noncomputable def g_X11_isWord (N : Mem) (x0 : Nat) (x1 : Int64) (σ : ST) : Option (Bool) := g_X11_isWord_0 N x0 x1 σ
theorem l_X11_isWord {N : Mem} {B : Nat} (hN : HN N B) {x0 : Nat} {x1 : Int64} {σ : ST} (hx0 : isC 11 x0) : f_X11_isWord (B + x0) x1 (put N B σ) = g_X11_isWord N x0 x1 σ := by
  unfold f_X11_isWord g_X11_isWord
  rw [if_pos (isOb_put hx0)]
  exact lsm (l_X11_isWord_0 hN _ _ _ hx0)
noncomputable def g_X11_emit_0 (N : Mem) (x0 : Nat) (x1 : Int32) (x2 : Int32) (σ : ST) : Option (ST) :=
  (yI 2820 σ (x0 + 3) (((σ.1 x0 12) + 97) + (2 * (σ.1 x0 13))) x1).bind fun r1 =>
  (yI 2820 r1 (x0 + 3) ((((r1.1 x0 12) + 97) + (2 * (r1.1 x0 13))) + 1) x2).bind fun r2 =>
  (some (setI r2 x0 13 ((r2.1 x0 13) + 1))).bind fun r3 =>
  some r3
set_option maxHeartbeats 4000000 in
theorem l_X11_emit_0 {N : Mem} {B : Nat} (hN : HN N B) : ∀ (x0 : Nat) (x1 : Int32) (x2 : Int32) (σ : ST), isC 11 x0 → f_X11_emit_0 (B + x0) x1 x2 (put N B σ) = (g_X11_emit_0 N x0 x1 x2 σ).bind (fun q => some (put N B q)) := by
  intro x0 x1 x2 σ hx0
  unfold f_X11_emit_0 g_X11_emit_0
  refine lg (gR_11_2 hx0) ?_
  refine lg (gI_11_12 hx0) ?_
  refine lg (gI_11_13 hx0) ?_
  refine lm (wI_put (sh_11_2 hx0)) (fun r1 => ?_)
  refine lg (gR_11_2 hx0) ?_
  refine lg (gI_11_12 hx0) ?_
  refine lg (gI_11_13 hx0) ?_
  refine lm (wI_put (sh_11_2 hx0)) (fun r2 => ?_)
  refine lg (gI_11_13 hx0) ?_
  refine lp (pF_11_13 hx0) (fun r3 => ?_)
  rfl
noncomputable def g_X11_emit (N : Mem) (x0 : Nat) (x1 : Int32) (x2 : Int32) (σ : ST) : Option (ST) := g_X11_emit_0 N x0 x1 x2 σ
theorem l_X11_emit {N : Mem} {B : Nat} (hN : HN N B) {x0 : Nat} {x1 : Int32} {x2 : Int32} {σ : ST} (hx0 : isC 11 x0) : f_X11_emit (B + x0) x1 x2 (put N B σ) = (g_X11_emit N x0 x1 x2 σ).map (put N B) := by
  unfold f_X11_emit g_X11_emit
  rw [if_pos (isOb_put hx0)]
  exact lmap (l_X11_emit_0 hN _ _ _ _ hx0)
noncomputable def g_X11_isLong_113 (N : Mem) (x0 : Nat) (x1 : Int64) (x3 : Int64) (s0 : Int64) (σ : ST) : Option (Bool) :=
  (g_X11_byteAt N x0 (σ.1 x0 8) σ).bind fun v1 =>
  (g_X11_byteAt N x0 ((σ.1 x0 8) + 1) σ).bind fun v2 =>
  (g_X11_byteAt N x0 ((σ.1 x0 8) + 2) σ).bind fun v3 =>
  (g_X11_byteAt N x0 ((σ.1 x0 8) + 3) σ).bind fun v4 =>
  (f_X11_w4 v1 v2 v3 v4).bind fun v5 =>
  if (lg_cmp v5 x1) = 0 then
  (if (lg_cmp s0 x3) = 0 then
  (some true)
  else
  (some false))
  else
  (some false)
set_option maxHeartbeats 4000000 in
theorem l_X11_isLong_113 {N : Mem} {B : Nat} (hN : HN N B) : ∀ (x0 : Nat) (x1 : Int64) (x3 : Int64) (s0 : Int64) (σ : ST), isC 11 x0 → f_X11_isLong_113 (B + x0) x1 x3 s0 (put N B σ) = (g_X11_isLong_113 N x0 x1 x3 s0 σ).bind some := by
  intro x0 x1 x3 s0 σ hx0
  unfold f_X11_isLong_113 g_X11_isLong_113
  refine lg (gI_11_8 hx0) ?_
  refine lb (l_X11_byteAt hN hx0) (fun v1 => ?_)
  refine lg (gI_11_8 hx0) ?_
  refine lb (l_X11_byteAt hN hx0) (fun v2 => ?_)
  refine lg (gI_11_8 hx0) ?_
  refine lb (l_X11_byteAt hN hx0) (fun v3 => ?_)
  refine lg (gI_11_8 hx0) ?_
  refine lb (l_X11_byteAt hN hx0) (fun v4 => ?_)
  refine lb (rfl) (fun v5 => ?_)
  refine li (fun _ => ?_) (fun _ => ?_)
  · refine li (fun _ => ?_) (fun _ => ?_)
    · rfl
    · rfl
  · rfl
noncomputable def g_X11_isLong_0 (N : Mem) (x0 : Nat) (x1 : Int64) (x3 : Int64) (x5 : Int32) (σ : ST) : Option (Bool) :=
  if (σ.1 x0 9) = 2 then
  (if ((σ.1 x0 7) - (σ.1 x0 8)) = x5 then
  (if x5 = 7 then
  ((g_X11_byteAt N x0 ((σ.1 x0 8) + 4) σ).bind fun v11 =>
  (g_X11_byteAt N x0 ((σ.1 x0 8) + 5) σ).bind fun v12 =>
  (g_X11_byteAt N x0 ((σ.1 x0 8) + 6) σ).bind fun v13 =>
  (f_X11_w3 v11 v12 v13).bind fun v14 =>
  g_X11_isLong_113 N x0 x1 x3 v14 σ)
  else
  ((g_X11_byteAt N x0 ((σ.1 x0 8) + 4) σ).bind fun v6 =>
  (g_X11_byteAt N x0 ((σ.1 x0 8) + 5) σ).bind fun v7 =>
  (g_X11_byteAt N x0 ((σ.1 x0 8) + 6) σ).bind fun v8 =>
  (g_X11_byteAt N x0 ((σ.1 x0 8) + 7) σ).bind fun v9 =>
  (f_X11_w4 v6 v7 v8 v9).bind fun v10 =>
  g_X11_isLong_113 N x0 x1 x3 v10 σ))
  else
  (some false))
  else
  (some false)
set_option maxHeartbeats 4000000 in
theorem l_X11_isLong_0 {N : Mem} {B : Nat} (hN : HN N B) : ∀ (x0 : Nat) (x1 : Int64) (x3 : Int64) (x5 : Int32) (σ : ST), isC 11 x0 → f_X11_isLong_0 (B + x0) x1 x3 x5 (put N B σ) = (g_X11_isLong_0 N x0 x1 x3 x5 σ).bind some := by
  intro x0 x1 x3 x5 σ hx0
  unfold f_X11_isLong_0 g_X11_isLong_0
  refine lg (gI_11_9 hx0) ?_
  refine li (fun _ => ?_) (fun _ => ?_)
  · refine lg (gI_11_7 hx0) ?_
    refine lg (gI_11_8 hx0) ?_
    refine li (fun _ => ?_) (fun _ => ?_)
    · refine li (fun _ => ?_) (fun _ => ?_)
      · refine lg (gI_11_8 hx0) ?_
        refine lb (l_X11_byteAt hN hx0) (fun v11 => ?_)
        refine lg (gI_11_8 hx0) ?_
        refine lb (l_X11_byteAt hN hx0) (fun v12 => ?_)
        refine lg (gI_11_8 hx0) ?_
        refine lb (l_X11_byteAt hN hx0) (fun v13 => ?_)
        refine lb (rfl) (fun v14 => ?_)
        exact l_X11_isLong_113 hN  _ _ _ _ _ hx0
      · refine lg (gI_11_8 hx0) ?_
        refine lb (l_X11_byteAt hN hx0) (fun v6 => ?_)
        refine lg (gI_11_8 hx0) ?_
        refine lb (l_X11_byteAt hN hx0) (fun v7 => ?_)
        refine lg (gI_11_8 hx0) ?_
        refine lb (l_X11_byteAt hN hx0) (fun v8 => ?_)
        refine lg (gI_11_8 hx0) ?_
        refine lb (l_X11_byteAt hN hx0) (fun v9 => ?_)
        refine lb (rfl) (fun v10 => ?_)
        exact l_X11_isLong_113 hN  _ _ _ _ _ hx0
    · rfl
  · rfl
noncomputable def g_X11_isLong (N : Mem) (x0 : Nat) (x1 : Int64) (x3 : Int64) (x5 : Int32) (σ : ST) : Option (Bool) := g_X11_isLong_0 N x0 x1 x3 x5 σ
theorem l_X11_isLong {N : Mem} {B : Nat} (hN : HN N B) {x0 : Nat} {x1 : Int64} {x3 : Int64} {x5 : Int32} {σ : ST} (hx0 : isC 11 x0) : f_X11_isLong (B + x0) x1 x3 x5 (put N B σ) = g_X11_isLong N x0 x1 x3 x5 σ := by
  unfold f_X11_isLong g_X11_isLong
  rw [if_pos (isOb_put hx0)]
  exact lsm (l_X11_isLong_0 hN _ _ _ _ _ hx0)
noncomputable def g_X11_nameOf_0 (N : Mem) (x0 : Nat) (σ : ST) : Option (Int32) :=
  if (σ.1 x0 9) = 2 then
  ((f_X11_w5 110 105 103 104 116).bind fun v1 =>
  if (lg_cmp (σ.2.1 x0 11) v1) = 0 then
  (some 0)
  else
  ((f_X11_w5 98 114 97 115 115).bind fun v2 =>
  if (lg_cmp (σ.2.1 x0 11) v2) = 0 then
  (some 1)
  else
  ((f_X11_w4 119 101 97 114).bind fun v3 =>
  if (lg_cmp (σ.2.1 x0 11) v3) = 0 then
  (some 2)
  else
  ((f_X11_w3 111 105 108).bind fun v4 =>
  if (lg_cmp (σ.2.1 x0 11) v4) = 0 then
  (some 3)
  else
  ((f_X11_w3 115 117 109).bind fun v5 =>
  if (lg_cmp (σ.2.1 x0 11) v5) = 0 then
  (some 4)
  else
  ((f_X11_w3 119 104 111).bind fun v6 =>
  if (lg_cmp (σ.2.1 x0 11) v6) = 0 then
  (some 5)
  else
  ((f_X11_w4 108 111 110 103).bind fun v7 =>
  if (lg_cmp (σ.2.1 x0 11) v7) = 0 then
  (some 6)
  else
  ((f_X11_w4 115 97 109 101).bind fun v8 =>
  if (lg_cmp (σ.2.1 x0 11) v8) = 0 then
  (some 7)
  else
  (some (-1))))))))))
  else
  (some (-1))
set_option maxHeartbeats 4000000 in
theorem l_X11_nameOf_0 {N : Mem} {B : Nat} (hN : HN N B) : ∀ (x0 : Nat) (σ : ST), isC 11 x0 → f_X11_nameOf_0 (B + x0) (put N B σ) = (g_X11_nameOf_0 N x0 σ).bind some := by
  intro x0 σ hx0
  unfold f_X11_nameOf_0 g_X11_nameOf_0
  refine lg (gI_11_9 hx0) ?_
  refine li (fun _ => ?_) (fun _ => ?_)
  · refine lg (gL_11_11 hx0) ?_
    refine lb (rfl) (fun v1 => ?_)
    refine li (fun _ => ?_) (fun _ => ?_)
    · rfl
    · refine lg (gL_11_11 hx0) ?_
      refine lb (rfl) (fun v2 => ?_)
      refine li (fun _ => ?_) (fun _ => ?_)
      · rfl
      · refine lg (gL_11_11 hx0) ?_
        refine lb (rfl) (fun v3 => ?_)
        refine li (fun _ => ?_) (fun _ => ?_)
        · rfl
        · refine lg (gL_11_11 hx0) ?_
          refine lb (rfl) (fun v4 => ?_)
          refine li (fun _ => ?_) (fun _ => ?_)
          · rfl
          · refine lg (gL_11_11 hx0) ?_
            refine lb (rfl) (fun v5 => ?_)
            refine li (fun _ => ?_) (fun _ => ?_)
            · rfl
            · refine lg (gL_11_11 hx0) ?_
              refine lb (rfl) (fun v6 => ?_)
              refine li (fun _ => ?_) (fun _ => ?_)
              · rfl
              · refine lg (gL_11_11 hx0) ?_
                refine lb (rfl) (fun v7 => ?_)
                refine li (fun _ => ?_) (fun _ => ?_)
                · rfl
                · refine lg (gL_11_11 hx0) ?_
                  refine lb (rfl) (fun v8 => ?_)
                  refine li (fun _ => ?_) (fun _ => ?_)
                  · rfl
                  · rfl
  · rfl
noncomputable def g_X11_nameOf (N : Mem) (x0 : Nat) (σ : ST) : Option (Int32) := g_X11_nameOf_0 N x0 σ
theorem l_X11_nameOf {N : Mem} {B : Nat} (hN : HN N B) {x0 : Nat} {σ : ST} (hx0 : isC 11 x0) : f_X11_nameOf (B + x0) (put N B σ) = g_X11_nameOf N x0 σ := by
  unfold f_X11_nameOf g_X11_nameOf
  rw [if_pos (isOb_put hx0)]
  exact lsm (l_X11_nameOf_0 hN _ _ hx0)
noncomputable def g_X11_isOf_0 (N : Mem) (x0 : Nat) (x1 : Int32) (σ : ST) : Option (Bool) :=
  if x1 < 6 then
  (some true)
  else
  (if x1 = 6 then
  (if (σ.1 x0 14) = 0 then
  (some false)
  else
  (some true))
  else
  (if (σ.1 x0 14) = 1 then
  (some true)
  else
  (some false)))
set_option maxHeartbeats 4000000 in
theorem l_X11_isOf_0 {N : Mem} {B : Nat} (hN : HN N B) : ∀ (x0 : Nat) (x1 : Int32) (σ : ST), isC 11 x0 → f_X11_isOf_0 (B + x0) x1 (put N B σ) = (g_X11_isOf_0 N x0 x1 σ).bind some := by
  intro x0 x1 σ hx0
  unfold f_X11_isOf_0 g_X11_isOf_0
  refine li (fun _ => ?_) (fun _ => ?_)
  · rfl
  · refine li (fun _ => ?_) (fun _ => ?_)
    · refine lg (gI_11_14 hx0) ?_
      refine li (fun _ => ?_) (fun _ => ?_)
      · rfl
      · rfl
    · refine lg (gI_11_14 hx0) ?_
      refine li (fun _ => ?_) (fun _ => ?_)
      · rfl
      · rfl
noncomputable def g_X11_isOf (N : Mem) (x0 : Nat) (x1 : Int32) (σ : ST) : Option (Bool) := g_X11_isOf_0 N x0 x1 σ
theorem l_X11_isOf {N : Mem} {B : Nat} (hN : HN N B) {x0 : Nat} {x1 : Int32} {σ : ST} (hx0 : isC 11 x0) : f_X11_isOf (B + x0) x1 (put N B σ) = g_X11_isOf N x0 x1 σ := by
  unfold f_X11_isOf g_X11_isOf
  rw [if_pos (isOb_put hx0)]
  exact lsm (l_X11_isOf_0 hN _ _ _ hx0)
noncomputable def g_X11_settle_80 (N : Mem) (k0 : Nat → Int32 → ST → Option (ST)) (x0 : Nat) (x1 : Int32) (σ : ST) : Option (ST) :=
  (some (setI σ x0 17 ((σ.1 x0 17) - 1))).bind fun r1 =>
  k0 x0 x1 r1
set_option maxHeartbeats 4000000 in
theorem l_X11_settle_80 {N : Mem} {B : Nat} (hN : HN N B) {fk0 : Nat → Int32 → Mem → Option (Mem)} {k0 : Nat → Int32 → ST → Option (ST)} (hk0 : ∀ (x0 : Nat) (x1 : Int32) (σ : ST), isC 11 x0 → fk0 (B + x0) x1 (put N B σ) = (k0 x0 x1 σ).bind (fun q => some (put N B q))) : ∀ (x0 : Nat) (x1 : Int32) (σ : ST), isC 11 x0 → f_X11_settle_80 fk0 (B + x0) x1 (put N B σ) = (g_X11_settle_80 N k0 x0 x1 σ).bind (fun q => some (put N B q)) := by
  intro x0 x1 σ hx0
  unfold f_X11_settle_80 g_X11_settle_80
  refine lg (gI_11_17 hx0) ?_
  refine lp (pF_11_17 hx0) (fun r1 => ?_)
  exact hk0 _ _ _ hx0
noncomputable def g_X11_settle_0 (N : Mem) (n0 : Nat) (x0 : Nat) (x1 : Int32) (σ : ST) : Option (ST) :=
  match n0 with
  | 0 => none
  | n + 1 =>
    if (σ.1 x0 16) ≤ 0 then
    (some σ)
    else
    ((xI 160 σ (x0 + 5) ((σ.1 x0 16) - 1)).bind fun v2 =>
    (f_X11_rank v2).bind fun v3 =>
    if v3 < x1 then
    (some σ)
    else
    ((some (setI σ x0 16 ((σ.1 x0 16) - 1))).bind fun r4 =>
    (xI 160 r4 (x0 + 5) (r4.1 x0 16)).bind fun v5 =>
    (g_X11_emit N x0 v5 0 r4).bind fun r6 =>
    (xI 160 r6 (x0 + 5) (r6.1 x0 16)).bind fun v7 =>
    (f_X11_rank v7).bind fun v8 =>
    if v8 = 7 then
    (g_X11_settle_80 N (g_X11_settle_0 N n) x0 x1 r6)
    else
    ((xI 160 r6 (x0 + 5) (r6.1 x0 16)).bind fun v9 =>
    if v9 = 20 then
    (g_X11_settle_80 N (g_X11_settle_0 N n) x0 x1 r6)
    else
    (g_X11_settle_0 N n x0 x1 r6))))
set_option maxHeartbeats 4000000 in
theorem l_X11_settle_0 {N : Mem} {B : Nat} (hN : HN N B) : ∀ (n : Nat) (x0 : Nat) (x1 : Int32) (σ : ST), isC 11 x0 → f_X11_settle_0 n (B + x0) x1 (put N B σ) = (g_X11_settle_0 N n x0 x1 σ).bind (fun q => some (put N B q)) := by
  intro n
  induction n with
  | zero =>
    intro x0 x1 σ hx0
    rfl
  | succ n ih =>
    intro x0 x1 σ hx0
    unfold f_X11_settle_0 g_X11_settle_0
    refine lg (gI_11_16 hx0) ?_
    refine li (fun _ => ?_) (fun _ => ?_)
    · rfl
    · refine lg (gR_11_15 hx0) ?_
      refine lg (gI_11_16 hx0) ?_
      refine lb (rI_put (sh_11_15 hx0)) (fun v2 => ?_)
      refine lb (rfl) (fun v3 => ?_)
      refine li (fun _ => ?_) (fun _ => ?_)
      · rfl
      · refine lg (gI_11_16 hx0) ?_
        refine lp (pF_11_16 hx0) (fun r4 => ?_)
        refine lg (gR_11_15 hx0) ?_
        refine lg (gI_11_16 hx0) ?_
        refine lb (rI_put (sh_11_15 hx0)) (fun v5 => ?_)
        refine lm (l_X11_emit hN hx0) (fun r6 => ?_)
        refine lg (gR_11_15 hx0) ?_
        refine lg (gI_11_16 hx0) ?_
        refine lb (rI_put (sh_11_15 hx0)) (fun v7 => ?_)
        refine lb (rfl) (fun v8 => ?_)
        refine li (fun _ => ?_) (fun _ => ?_)
        · exact l_X11_settle_80 hN ih _ _ _ hx0
        · refine lg (gR_11_15 hx0) ?_
          refine lg (gI_11_16 hx0) ?_
          refine lb (rI_put (sh_11_15 hx0)) (fun v9 => ?_)
          refine li (fun _ => ?_) (fun _ => ?_)
          · exact l_X11_settle_80 hN ih _ _ _ hx0
          · exact ih _ _ _ hx0
noncomputable def g_X11_settle (N : Mem) (x0 : Nat) (x1 : Int32) (σ : ST) : Option (ST) := g_X11_settle_0 N fu x0 x1 σ
theorem l_X11_settle {N : Mem} {B : Nat} (hN : HN N B) {x0 : Nat} {x1 : Int32} {σ : ST} (hx0 : isC 11 x0) : f_X11_settle (B + x0) x1 (put N B σ) = (g_X11_settle N x0 x1 σ).map (put N B) := by
  unfold f_X11_settle g_X11_settle
  rw [if_pos (isOb_put hx0)]
  exact lmap (l_X11_settle_0 hN _ _ _ _ hx0)
noncomputable def g_X11_openAt_7 (N : Mem) (n0 : Nat) (x0 : Nat) (x1 : Int32) (σ : ST) : Option (Int32) :=
  match n0 with
  | 0 => none
  | n + 1 =>
    if x1 < 0 then
    (some x1)
    else
    ((xI 160 σ (x0 + 5) x1).bind fun v1 =>
    if 40 ≤ v1 then
    (some x1)
    else
    (g_X11_openAt_7 N n x0 (x1 + (-1)) σ))
set_option maxHeartbeats 4000000 in
theorem l_X11_openAt_7 {N : Mem} {B : Nat} (hN : HN N B) : ∀ (n : Nat) (x0 : Nat) (x1 : Int32) (σ : ST), isC 11 x0 → f_X11_openAt_7 n (B + x0) x1 (put N B σ) = (g_X11_openAt_7 N n x0 x1 σ).bind some := by
  intro n
  induction n with
  | zero =>
    intro x0 x1 σ hx0
    rfl
  | succ n ih =>
    intro x0 x1 σ hx0
    unfold f_X11_openAt_7 g_X11_openAt_7
    refine li (fun _ => ?_) (fun _ => ?_)
    · rfl
    · refine lg (gR_11_15 hx0) ?_
      refine lb (rI_put (sh_11_15 hx0)) (fun v1 => ?_)
      refine li (fun _ => ?_) (fun _ => ?_)
      · rfl
      · exact ih _ _ _ hx0
noncomputable def g_X11_openAt_0 (N : Mem) (x0 : Nat) (σ : ST) : Option (Int32) :=
  g_X11_openAt_7 N fu x0 ((σ.1 x0 16) - 1) σ
set_option maxHeartbeats 4000000 in
theorem l_X11_openAt_0 {N : Mem} {B : Nat} (hN : HN N B) : ∀ (x0 : Nat) (σ : ST), isC 11 x0 → f_X11_openAt_0 (B + x0) (put N B σ) = (g_X11_openAt_0 N x0 σ).bind some := by
  intro x0 σ hx0
  unfold f_X11_openAt_0 g_X11_openAt_0
  refine lg (gI_11_16 hx0) ?_
  exact l_X11_openAt_7 hN  _ _ _ _ hx0
noncomputable def g_X11_openAt (N : Mem) (x0 : Nat) (σ : ST) : Option (Int32) := g_X11_openAt_0 N x0 σ
theorem l_X11_openAt {N : Mem} {B : Nat} (hN : HN N B) {x0 : Nat} {σ : ST} (hx0 : isC 11 x0) : f_X11_openAt (B + x0) (put N B σ) = g_X11_openAt N x0 σ := by
  unfold f_X11_openAt g_X11_openAt
  rw [if_pos (isOb_put hx0)]
  exact lsm (l_X11_openAt_0 hN _ _ hx0)
noncomputable def g_X11_openNow_0 (N : Mem) (x0 : Nat) (σ : ST) : Option (Int32) :=
  (g_X11_openAt N x0 σ).bind fun v1 =>
  if 0 ≤ v1 then
  ((g_X11_openAt N x0 σ).bind fun v2 =>
  (xI 160 σ (x0 + 5) v2).bind fun v3 =>
  some v3)
  else
  (some (-1))
set_option maxHeartbeats 4000000 in
theorem l_X11_openNow_0 {N : Mem} {B : Nat} (hN : HN N B) : ∀ (x0 : Nat) (σ : ST), isC 11 x0 → f_X11_openNow_0 (B + x0) (put N B σ) = (g_X11_openNow_0 N x0 σ).bind some := by
  intro x0 σ hx0
  unfold f_X11_openNow_0 g_X11_openNow_0
  refine lb (l_X11_openAt hN hx0) (fun v1 => ?_)
  refine li (fun _ => ?_) (fun _ => ?_)
  · refine lg (gR_11_15 hx0) ?_
    refine lb (l_X11_openAt hN hx0) (fun v2 => ?_)
    refine lb (rI_put (sh_11_15 hx0)) (fun v3 => ?_)
    rfl
  · rfl
noncomputable def g_X11_openNow (N : Mem) (x0 : Nat) (σ : ST) : Option (Int32) := g_X11_openNow_0 N x0 σ
theorem l_X11_openNow {N : Mem} {B : Nat} (hN : HN N B) {x0 : Nat} {σ : ST} (hx0 : isC 11 x0) : f_X11_openNow (B + x0) (put N B σ) = g_X11_openNow N x0 σ := by
  unfold f_X11_openNow g_X11_openNow
  rw [if_pos (isOb_put hx0)]
  exact lsm (l_X11_openNow_0 hN _ _ hx0)
noncomputable def g_X11_isCompared_30 (N : Mem) (x0 : Nat) (x1 : Int32) (σ : ST) : Option (Bool) :=
  if x1 < 0 then
  (some false)
  else
  ((xI 160 σ (x0 + 5) x1).bind fun v1 =>
  (f_X11_rank v1).bind fun v2 =>
  if v2 = 4 then
  (some true)
  else
  (some false))
set_option maxHeartbeats 4000000 in
theorem l_X11_isCompared_30 {N : Mem} {B : Nat} (hN : HN N B) : ∀ (x0 : Nat) (x1 : Int32) (σ : ST), isC 11 x0 → f_X11_isCompared_30 (B + x0) x1 (put N B σ) = (g_X11_isCompared_30 N x0 x1 σ).bind some := by
  intro x0 x1 σ hx0
  unfold f_X11_isCompared_30 g_X11_isCompared_30
  refine li (fun _ => ?_) (fun _ => ?_)
  · rfl
  · refine lg (gR_11_15 hx0) ?_
    refine lb (rI_put (sh_11_15 hx0)) (fun v1 => ?_)
    refine lb (rfl) (fun v2 => ?_)
    refine li (fun _ => ?_) (fun _ => ?_)
    · rfl
    · rfl
noncomputable def g_X11_isCompared_7 (N : Mem) (n0 : Nat) (x0 : Nat) (x1 : Int32) (σ : ST) : Option (Bool) :=
  match n0 with
  | 0 => none
  | n + 1 =>
    if x1 < 0 then
    (g_X11_isCompared_30 N x0 x1 σ)
    else
    ((xI 160 σ (x0 + 5) x1).bind fun v3 =>
    (f_X11_rank v3).bind fun v4 =>
    if v4 ≤ 4 then
    (g_X11_isCompared_30 N x0 x1 σ)
    else
    (g_X11_isCompared_7 N n x0 (x1 + (-1)) σ))
set_option maxHeartbeats 4000000 in
theorem l_X11_isCompared_7 {N : Mem} {B : Nat} (hN : HN N B) : ∀ (n : Nat) (x0 : Nat) (x1 : Int32) (σ : ST), isC 11 x0 → f_X11_isCompared_7 n (B + x0) x1 (put N B σ) = (g_X11_isCompared_7 N n x0 x1 σ).bind some := by
  intro n
  induction n with
  | zero =>
    intro x0 x1 σ hx0
    rfl
  | succ n ih =>
    intro x0 x1 σ hx0
    unfold f_X11_isCompared_7 g_X11_isCompared_7
    refine li (fun _ => ?_) (fun _ => ?_)
    · exact l_X11_isCompared_30 hN  _ _ _ hx0
    · refine lg (gR_11_15 hx0) ?_
      refine lb (rI_put (sh_11_15 hx0)) (fun v3 => ?_)
      refine lb (rfl) (fun v4 => ?_)
      refine li (fun _ => ?_) (fun _ => ?_)
      · exact l_X11_isCompared_30 hN  _ _ _ hx0
      · exact ih _ _ _ hx0
noncomputable def g_X11_isCompared_0 (N : Mem) (x0 : Nat) (σ : ST) : Option (Bool) :=
  g_X11_isCompared_7 N fu x0 ((σ.1 x0 16) - 1) σ
set_option maxHeartbeats 4000000 in
theorem l_X11_isCompared_0 {N : Mem} {B : Nat} (hN : HN N B) : ∀ (x0 : Nat) (σ : ST), isC 11 x0 → f_X11_isCompared_0 (B + x0) (put N B σ) = (g_X11_isCompared_0 N x0 σ).bind some := by
  intro x0 σ hx0
  unfold f_X11_isCompared_0 g_X11_isCompared_0
  refine lg (gI_11_16 hx0) ?_
  exact l_X11_isCompared_7 hN  _ _ _ _ hx0
noncomputable def g_X11_isCompared (N : Mem) (x0 : Nat) (σ : ST) : Option (Bool) := g_X11_isCompared_0 N x0 σ
theorem l_X11_isCompared {N : Mem} {B : Nat} (hN : HN N B) {x0 : Nat} {σ : ST} (hx0 : isC 11 x0) : f_X11_isCompared (B + x0) (put N B σ) = g_X11_isCompared N x0 σ := by
  unfold f_X11_isCompared g_X11_isCompared
  rw [if_pos (isOb_put hx0)]
  exact lsm (l_X11_isCompared_0 hN _ _ hx0)
noncomputable def g_X11_isAskAhead_0 (N : Mem) (x0 : Nat) (σ : ST) : Option (Bool) :=
  (g_X11_openNow N x0 σ).bind fun v1 =>
  if v1 = 41 then
  ((xI 160 σ (x0 + 5) ((σ.1 x0 16) - 1)).bind fun v2 =>
  if 40 ≤ v2 then
  (some true)
  else
  ((xI 160 σ (x0 + 5) ((σ.1 x0 16) - 1)).bind fun v3 =>
  (f_X11_rank v3).bind fun v4 =>
  (f_X11_isIn v4 1 3).bind fun v5 =>
  if v5 = false then
  (some false)
  else
  (some true)))
  else
  (some false)
set_option maxHeartbeats 4000000 in
theorem l_X11_isAskAhead_0 {N : Mem} {B : Nat} (hN : HN N B) : ∀ (x0 : Nat) (σ : ST), isC 11 x0 → f_X11_isAskAhead_0 (B + x0) (put N B σ) = (g_X11_isAskAhead_0 N x0 σ).bind some := by
  intro x0 σ hx0
  unfold f_X11_isAskAhead_0 g_X11_isAskAhead_0
  refine lb (l_X11_openNow hN hx0) (fun v1 => ?_)
  refine li (fun _ => ?_) (fun _ => ?_)
  · refine lg (gR_11_15 hx0) ?_
    refine lg (gI_11_16 hx0) ?_
    refine lb (rI_put (sh_11_15 hx0)) (fun v2 => ?_)
    refine li (fun _ => ?_) (fun _ => ?_)
    · rfl
    · refine lg (gR_11_15 hx0) ?_
      refine lg (gI_11_16 hx0) ?_
      refine lb (rI_put (sh_11_15 hx0)) (fun v3 => ?_)
      refine lb (rfl) (fun v4 => ?_)
      refine lb (rfl) (fun v5 => ?_)
      refine li (fun _ => ?_) (fun _ => ?_)
      · rfl
      · rfl
  · rfl
noncomputable def g_X11_isAskAhead (N : Mem) (x0 : Nat) (σ : ST) : Option (Bool) := g_X11_isAskAhead_0 N x0 σ
theorem l_X11_isAskAhead {N : Mem} {B : Nat} (hN : HN N B) {x0 : Nat} {σ : ST} (hx0 : isC 11 x0) : f_X11_isAskAhead (B + x0) (put N B σ) = g_X11_isAskAhead N x0 σ := by
  unfold f_X11_isAskAhead g_X11_isAskAhead
  rw [if_pos (isOb_put hx0)]
  exact lsm (l_X11_isAskAhead_0 hN _ _ hx0)
noncomputable def g_X11_opened_0 (N : Mem) (x0 : Nat) (x1 : Int32) (σ : ST) : Option (Int32 × ST) :=
  if (σ.1 x0 17) = 8 then
  (some (3, σ))
  else
  ((some (setI σ x0 17 ((σ.1 x0 17) + 1))).bind fun r1 =>
  (yI 160 r1 (x0 + 5) (r1.1 x0 16) x1).bind fun r2 =>
  (some (setI r2 x0 16 ((r2.1 x0 16) + 1))).bind fun r3 =>
  (g_X11_nextToken N x0 r3).bind fun r4 =>
  some (0, r4))
set_option maxHeartbeats 4000000 in
theorem l_X11_opened_0 {N : Mem} {B : Nat} (hN : HN N B) : ∀ (x0 : Nat) (x1 : Int32) (σ : ST), isC 11 x0 → f_X11_opened_0 (B + x0) x1 (put N B σ) = (g_X11_opened_0 N x0 x1 σ).bind (fun q => some (q.1, put N B q.2)) := by
  intro x0 x1 σ hx0
  unfold f_X11_opened_0 g_X11_opened_0
  refine lg (gI_11_17 hx0) ?_
  refine li (fun _ => ?_) (fun _ => ?_)
  · rfl
  · refine lg (gI_11_17 hx0) ?_
    refine lp (pF_11_17 hx0) (fun r1 => ?_)
    refine lg (gR_11_15 hx0) ?_
    refine lg (gI_11_16 hx0) ?_
    refine lm (wI_put (sh_11_15 hx0)) (fun r2 => ?_)
    refine lg (gI_11_16 hx0) ?_
    refine lp (pF_11_16 hx0) (fun r3 => ?_)
    refine lm (l_X11_nextToken hN hx0) (fun r4 => ?_)
    rfl
noncomputable def g_X11_opened (N : Mem) (x0 : Nat) (x1 : Int32) (σ : ST) : Option (Int32 × ST) := g_X11_opened_0 N x0 x1 σ
theorem l_X11_opened {N : Mem} {B : Nat} (hN : HN N B) {x0 : Nat} {x1 : Int32} {σ : ST} (hx0 : isC 11 x0) : f_X11_opened (B + x0) x1 (put N B σ) = (g_X11_opened N x0 x1 σ).bind (fun q => some (q.1, put N B q.2)) := by
  unfold f_X11_opened g_X11_opened
  rw [if_pos (isOb_put hx0)]
  exact l_X11_opened_0 hN _ _ _ hx0
noncomputable def g_X11_beginOne_81 (N : Mem) (x0 : Nat) (s0 : Int32) (s1 : Bool) (s2 : Nat) (σ : ST) : Option (Int32 × ST) :=
  (g_X11_emit N s2 (jz s1) s0 σ).bind fun r1 =>
  (g_X11_nextToken N x0 r1).bind fun r2 =>
  (some (setI r2 x0 18 (jz true))).bind fun r3 =>
  (g_X11_settle N x0 7 r3).bind fun r4 =>
  some (0, r4)
set_option maxHeartbeats 4000000 in
theorem l_X11_beginOne_81 {N : Mem} {B : Nat} (hN : HN N B) : ∀ (x0 : Nat) (s0 : Int32) (s1 : Bool) (s2 : Nat) (σ : ST), isC 11 x0 → isC 11 s2 → f_X11_beginOne_81 (B + x0) s0 s1 (B + s2) (put N B σ) = (g_X11_beginOne_81 N x0 s0 s1 s2 σ).bind (fun q => some (q.1, put N B q.2)) := by
  intro x0 s0 s1 s2 σ hx0 hs2
  unfold f_X11_beginOne_81 g_X11_beginOne_81
  refine lm (l_X11_emit hN hs2) (fun r1 => ?_)
  refine lm (l_X11_nextToken hN hx0) (fun r2 => ?_)
  refine lp (pF_11_18 hx0) (fun r3 => ?_)
  refine lm (l_X11_settle hN hx0) (fun r4 => ?_)
  rfl
noncomputable def g_X11_beginOne_65 (N : Mem) (x0 : Nat) (x1 : Int32) (s0 : Bool) (s1 : Nat) (σ : ST) : Option (Int32 × ST) :=
  if (σ.1 x0 9) = 1 then
  (g_X11_beginOne_81 N x0 (σ.1 x0 10) s0 s1 σ)
  else
  (g_X11_beginOne_81 N x0 x1 s0 s1 σ)
set_option maxHeartbeats 4000000 in
theorem l_X11_beginOne_65 {N : Mem} {B : Nat} (hN : HN N B) : ∀ (x0 : Nat) (x1 : Int32) (s0 : Bool) (s1 : Nat) (σ : ST), isC 11 x0 → isC 11 s1 → f_X11_beginOne_65 (B + x0) x1 s0 (B + s1) (put N B σ) = (g_X11_beginOne_65 N x0 x1 s0 s1 σ).bind (fun q => some (q.1, put N B q.2)) := by
  intro x0 x1 s0 s1 σ hx0 hs1
  unfold f_X11_beginOne_65 g_X11_beginOne_65
  refine lg (gI_11_9 hx0) ?_
  refine li (fun _ => ?_) (fun _ => ?_)
  · refine lg (gI_11_10 hx0) ?_
    exact l_X11_beginOne_81 hN  _ _ _ _ _ hx0 hs1
  · exact l_X11_beginOne_81 hN  _ _ _ _ _ hx0 hs1
noncomputable def g_X11_beginOne_51 (N : Mem) (x0 : Nat) (x1 : Int32) (σ : ST) : Option (Int32 × ST) :=
  if (σ.1 x0 9) = 1 then
  (g_X11_beginOne_65 N x0 x1 false x0 σ)
  else
  (g_X11_beginOne_65 N x0 x1 true x0 σ)
set_option maxHeartbeats 4000000 in
theorem l_X11_beginOne_51 {N : Mem} {B : Nat} (hN : HN N B) : ∀ (x0 : Nat) (x1 : Int32) (σ : ST), isC 11 x0 → f_X11_beginOne_51 (B + x0) x1 (put N B σ) = (g_X11_beginOne_51 N x0 x1 σ).bind (fun q => some (q.1, put N B q.2)) := by
  intro x0 x1 σ hx0
  unfold f_X11_beginOne_51 g_X11_beginOne_51
  refine lg (gI_11_9 hx0) ?_
  refine li (fun _ => ?_) (fun _ => ?_)
  · exact l_X11_beginOne_65 hN  _ _ _ _ _ hx0 hx0
  · exact l_X11_beginOne_65 hN  _ _ _ _ _ hx0 hx0
noncomputable def g_X11_beginOne_39 (N : Mem) (x0 : Nat) (x1 : Int32) (σ : ST) : Option (Int32 × ST) :=
  if (σ.1 x0 9) = 1 then
  (g_X11_beginOne_51 N x0 x1 σ)
  else
  (if x1 < 0 then
  (if (σ.1 x0 9) = 40 then
  ((g_X11_opened N x0 40 σ).bind fun r19 =>
  some (r19.1, r19.2))
  else
  (if (σ.1 x0 9) = 45 then
  ((g_X11_opened N x0 5 σ).bind fun r18 =>
  some (r18.1, r18.2))
  else
  ((f_X11_w6 100 105 103 105 116 115).bind fun v5 =>
  (g_X11_isWord N x0 v5 σ).bind fun v6 =>
  if v6 = false then
  ((f_X11_w4 115 117 109 115).bind fun v7 =>
  (g_X11_isWord N x0 v7 σ).bind fun v8 =>
  if v8 = false then
  ((f_X11_w2 105 102).bind fun v9 =>
  (g_X11_isWord N x0 v9 σ).bind fun v10 =>
  if v10 = false then
  ((f_X11_w3 110 111 116).bind fun v11 =>
  (g_X11_isWord N x0 v11 σ).bind fun v12 =>
  if v12 = false then
  (some (1, σ))
  else
  ((g_X11_isAskAhead N x0 σ).bind fun v13 =>
  if v13 = false then
  (some (1, σ))
  else
  ((g_X11_opened N x0 20 σ).bind fun r14 =>
  some (r14.1, r14.2))))
  else
  ((g_X11_opened N x0 41 σ).bind fun r15 =>
  some (r15.1, r15.2)))
  else
  ((g_X11_opened N x0 3 σ).bind fun r16 =>
  some (r16.1, r16.2)))
  else
  ((g_X11_opened N x0 2 σ).bind fun r17 =>
  some (r17.1, r17.2)))))
  else
  (g_X11_beginOne_51 N x0 x1 σ))
set_option maxHeartbeats 4000000 in
theorem l_X11_beginOne_39 {N : Mem} {B : Nat} (hN : HN N B) : ∀ (x0 : Nat) (x1 : Int32) (σ : ST), isC 11 x0 → f_X11_beginOne_39 (B + x0) x1 (put N B σ) = (g_X11_beginOne_39 N x0 x1 σ).bind (fun q => some (q.1, put N B q.2)) := by
  intro x0 x1 σ hx0
  unfold f_X11_beginOne_39 g_X11_beginOne_39
  refine lg (gI_11_9 hx0) ?_
  refine li (fun _ => ?_) (fun _ => ?_)
  · exact l_X11_beginOne_51 hN  _ _ _ hx0
  · refine li (fun _ => ?_) (fun _ => ?_)
    · refine lg (gI_11_9 hx0) ?_
      refine li (fun _ => ?_) (fun _ => ?_)
      · refine lc (l_X11_opened hN hx0) (fun r19 => ?_)
        dsimp only
        rfl
      · refine lg (gI_11_9 hx0) ?_
        refine li (fun _ => ?_) (fun _ => ?_)
        · refine lc (l_X11_opened hN hx0) (fun r18 => ?_)
          dsimp only
          rfl
        · refine lb (rfl) (fun v5 => ?_)
          refine lb (l_X11_isWord hN hx0) (fun v6 => ?_)
          refine li (fun _ => ?_) (fun _ => ?_)
          · refine lb (rfl) (fun v7 => ?_)
            refine lb (l_X11_isWord hN hx0) (fun v8 => ?_)
            refine li (fun _ => ?_) (fun _ => ?_)
            · refine lb (rfl) (fun v9 => ?_)
              refine lb (l_X11_isWord hN hx0) (fun v10 => ?_)
              refine li (fun _ => ?_) (fun _ => ?_)
              · refine lb (rfl) (fun v11 => ?_)
                refine lb (l_X11_isWord hN hx0) (fun v12 => ?_)
                refine li (fun _ => ?_) (fun _ => ?_)
                · rfl
                · refine lb (l_X11_isAskAhead hN hx0) (fun v13 => ?_)
                  refine li (fun _ => ?_) (fun _ => ?_)
                  · rfl
                  · refine lc (l_X11_opened hN hx0) (fun r14 => ?_)
                    dsimp only
                    rfl
              · refine lc (l_X11_opened hN hx0) (fun r15 => ?_)
                dsimp only
                rfl
            · refine lc (l_X11_opened hN hx0) (fun r16 => ?_)
              dsimp only
              rfl
          · refine lc (l_X11_opened hN hx0) (fun r17 => ?_)
            dsimp only
            rfl
    · exact l_X11_beginOne_51 hN  _ _ _ hx0
noncomputable def g_X11_beginOne_20 (N : Mem) (x0 : Nat) (σ : ST) : Option (Int32 × ST) :=
  (g_X11_nameOf N x0 σ).bind fun v20 =>
  if v20 < 0 then
  (g_X11_beginOne_39 N x0 v20 σ)
  else
  ((g_X11_isOf N x0 v20 σ).bind fun v21 =>
  if v21 = true then
  (g_X11_beginOne_39 N x0 v20 σ)
  else
  (some (5, σ)))
set_option maxHeartbeats 4000000 in
theorem l_X11_beginOne_20 {N : Mem} {B : Nat} (hN : HN N B) : ∀ (x0 : Nat) (σ : ST), isC 11 x0 → f_X11_beginOne_20 (B + x0) (put N B σ) = (g_X11_beginOne_20 N x0 σ).bind (fun q => some (q.1, put N B q.2)) := by
  intro x0 σ hx0
  unfold f_X11_beginOne_20 g_X11_beginOne_20
  refine lb (l_X11_nameOf hN hx0) (fun v20 => ?_)
  refine li (fun _ => ?_) (fun _ => ?_)
  · exact l_X11_beginOne_39 hN  _ _ _ hx0
  · refine lb (l_X11_isOf hN hx0) (fun v21 => ?_)
    refine li (fun _ => ?_) (fun _ => ?_)
    · exact l_X11_beginOne_39 hN  _ _ _ hx0
    · rfl
noncomputable def g_X11_beginOne_0 (N : Mem) (x0 : Nat) (σ : ST) : Option (Int32 × ST) :=
  if (σ.1 x0 9) = 1 then
  (if (σ.1 x0 10) ≤ 9999 then
  (g_X11_beginOne_20 N x0 σ)
  else
  (some (2, σ)))
  else
  (g_X11_beginOne_20 N x0 σ)
set_option maxHeartbeats 4000000 in
theorem l_X11_beginOne_0 {N : Mem} {B : Nat} (hN : HN N B) : ∀ (x0 : Nat) (σ : ST), isC 11 x0 → f_X11_beginOne_0 (B + x0) (put N B σ) = (g_X11_beginOne_0 N x0 σ).bind (fun q => some (q.1, put N B q.2)) := by
  intro x0 σ hx0
  unfold f_X11_beginOne_0 g_X11_beginOne_0
  refine lg (gI_11_9 hx0) ?_
  refine li (fun _ => ?_) (fun _ => ?_)
  · refine lg (gI_11_10 hx0) ?_
    refine li (fun _ => ?_) (fun _ => ?_)
    · exact l_X11_beginOne_20 hN  _ _ hx0
    · rfl
  · exact l_X11_beginOne_20 hN  _ _ hx0
noncomputable def g_X11_beginOne (N : Mem) (x0 : Nat) (σ : ST) : Option (Int32 × ST) := g_X11_beginOne_0 N x0 σ
theorem l_X11_beginOne {N : Mem} {B : Nat} (hN : HN N B) {x0 : Nat} {σ : ST} (hx0 : isC 11 x0) : f_X11_beginOne (B + x0) (put N B σ) = (g_X11_beginOne N x0 σ).bind (fun q => some (q.1, put N B q.2)) := by
  unfold f_X11_beginOne g_X11_beginOne
  rw [if_pos (isOb_put hx0)]
  exact l_X11_beginOne_0 hN _ _ hx0
noncomputable def g_X11_compareOf_0 (N : Mem) (x0 : Nat) (σ : ST) : Option (Int32) :=
  if (σ.1 x0 9) = 60 then
  (some 10)
  else
  (if (σ.1 x0 9) = 4 then
  (some 11)
  else
  (if (σ.1 x0 9) = 62 then
  (some 12)
  else
  (if (σ.1 x0 9) = 5 then
  (some 13)
  else
  (if (σ.1 x0 9) = 61 then
  (some 14)
  else
  (if (σ.1 x0 9) = 35 then
  (some 15)
  else
  (some (-1)))))))
set_option maxHeartbeats 4000000 in
theorem l_X11_compareOf_0 {N : Mem} {B : Nat} (hN : HN N B) : ∀ (x0 : Nat) (σ : ST), isC 11 x0 → f_X11_compareOf_0 (B + x0) (put N B σ) = (g_X11_compareOf_0 N x0 σ).bind some := by
  intro x0 σ hx0
  unfold f_X11_compareOf_0 g_X11_compareOf_0
  refine lg (gI_11_9 hx0) ?_
  refine li (fun _ => ?_) (fun _ => ?_)
  · rfl
  · refine lg (gI_11_9 hx0) ?_
    refine li (fun _ => ?_) (fun _ => ?_)
    · rfl
    · refine lg (gI_11_9 hx0) ?_
      refine li (fun _ => ?_) (fun _ => ?_)
      · rfl
      · refine lg (gI_11_9 hx0) ?_
        refine li (fun _ => ?_) (fun _ => ?_)
        · rfl
        · refine lg (gI_11_9 hx0) ?_
          refine li (fun _ => ?_) (fun _ => ?_)
          · rfl
          · refine lg (gI_11_9 hx0) ?_
            refine li (fun _ => ?_) (fun _ => ?_)
            · rfl
            · rfl
noncomputable def g_X11_compareOf (N : Mem) (x0 : Nat) (σ : ST) : Option (Int32) := g_X11_compareOf_0 N x0 σ
theorem l_X11_compareOf {N : Mem} {B : Nat} (hN : HN N B) {x0 : Nat} {σ : ST} (hx0 : isC 11 x0) : f_X11_compareOf (B + x0) (put N B σ) = g_X11_compareOf N x0 σ := by
  unfold f_X11_compareOf g_X11_compareOf
  rw [if_pos (isOb_put hx0)]
  exact lsm (l_X11_compareOf_0 hN _ _ hx0)
noncomputable def g_X11_betweenOf_0 (N : Mem) (x0 : Nat) (σ : ST) : Option (Int32) :=
  if (σ.1 x0 9) = 43 then
  (some 6)
  else
  (if (σ.1 x0 9) = 45 then
  (some 7)
  else
  (if (σ.1 x0 9) = 42 then
  (some 8)
  else
  (if (σ.1 x0 9) = 47 then
  (some 9)
  else
  ((g_X11_openNow N x0 σ).bind fun v1 =>
  if v1 = 41 then
  ((g_X11_isCompared N x0 σ).bind fun v2 =>
  if v2 = true then
  ((f_X11_w3 97 110 100).bind fun v3 =>
  (g_X11_isWord N x0 v3 σ).bind fun v4 =>
  if v4 = false then
  ((f_X11_w2 111 114).bind fun v5 =>
  (g_X11_isWord N x0 v5 σ).bind fun v6 =>
  if v6 = false then
  (some (-1))
  else
  (some 22))
  else
  (some 21))
  else
  ((g_X11_compareOf N x0 σ).bind fun v7 =>
  some v7))
  else
  (some (-1))))))
set_option maxHeartbeats 4000000 in
theorem l_X11_betweenOf_0 {N : Mem} {B : Nat} (hN : HN N B) : ∀ (x0 : Nat) (σ : ST), isC 11 x0 → f_X11_betweenOf_0 (B + x0) (put N B σ) = (g_X11_betweenOf_0 N x0 σ).bind some := by
  intro x0 σ hx0
  unfold f_X11_betweenOf_0 g_X11_betweenOf_0
  refine lg (gI_11_9 hx0) ?_
  refine li (fun _ => ?_) (fun _ => ?_)
  · rfl
  · refine lg (gI_11_9 hx0) ?_
    refine li (fun _ => ?_) (fun _ => ?_)
    · rfl
    · refine lg (gI_11_9 hx0) ?_
      refine li (fun _ => ?_) (fun _ => ?_)
      · rfl
      · refine lg (gI_11_9 hx0) ?_
        refine li (fun _ => ?_) (fun _ => ?_)
        · rfl
        · refine lb (l_X11_openNow hN hx0) (fun v1 => ?_)
          refine li (fun _ => ?_) (fun _ => ?_)
          · refine lb (l_X11_isCompared hN hx0) (fun v2 => ?_)
            refine li (fun _ => ?_) (fun _ => ?_)
            · refine lb (rfl) (fun v3 => ?_)
              refine lb (l_X11_isWord hN hx0) (fun v4 => ?_)
              refine li (fun _ => ?_) (fun _ => ?_)
              · refine lb (rfl) (fun v5 => ?_)
                refine lb (l_X11_isWord hN hx0) (fun v6 => ?_)
                refine li (fun _ => ?_) (fun _ => ?_)
                · rfl
                · rfl
              · rfl
            · refine lb (l_X11_compareOf hN hx0) (fun v7 => ?_)
              rfl
          · rfl
noncomputable def g_X11_betweenOf (N : Mem) (x0 : Nat) (σ : ST) : Option (Int32) := g_X11_betweenOf_0 N x0 σ
theorem l_X11_betweenOf {N : Mem} {B : Nat} (hN : HN N B) {x0 : Nat} {σ : ST} (hx0 : isC 11 x0) : f_X11_betweenOf (B + x0) (put N B σ) = g_X11_betweenOf N x0 σ := by
  unfold f_X11_betweenOf g_X11_betweenOf
  rw [if_pos (isOb_put hx0)]
  exact lsm (l_X11_betweenOf_0 hN _ _ hx0)
noncomputable def g_X11_partOf_0 (N : Mem) (x0 : Nat) (x1 : Int32) (σ : ST) : Option (Int32) :=
  if x1 = 40 then
  (if (σ.1 x0 9) = 41 then
  (some 0)
  else
  (some (-1)))
  else
  (if x1 = 41 then
  ((f_X11_w4 116 104 101 110).bind fun v1 =>
  (g_X11_isWord N x0 v1 σ).bind fun v2 =>
  if v2 = false then
  (some (-1))
  else
  ((g_X11_isCompared N x0 σ).bind fun v3 =>
  if v3 = false then
  (some (-1))
  else
  (some 42)))
  else
  (if x1 = 42 then
  ((f_X11_w4 101 108 115 101).bind fun v4 =>
  (g_X11_isWord N x0 v4 σ).bind fun v5 =>
  if v5 = false then
  (some (-1))
  else
  (some 43))
  else
  (if x1 = 43 then
  ((f_X11_w3 101 110 100).bind fun v6 =>
  (g_X11_isWord N x0 v6 σ).bind fun v7 =>
  if v7 = false then
  (some (-1))
  else
  (some 0))
  else
  (some (-1)))))
set_option maxHeartbeats 4000000 in
theorem l_X11_partOf_0 {N : Mem} {B : Nat} (hN : HN N B) : ∀ (x0 : Nat) (x1 : Int32) (σ : ST), isC 11 x0 → f_X11_partOf_0 (B + x0) x1 (put N B σ) = (g_X11_partOf_0 N x0 x1 σ).bind some := by
  intro x0 x1 σ hx0
  unfold f_X11_partOf_0 g_X11_partOf_0
  refine li (fun _ => ?_) (fun _ => ?_)
  · refine lg (gI_11_9 hx0) ?_
    refine li (fun _ => ?_) (fun _ => ?_)
    · rfl
    · rfl
  refine li (fun _ => ?_) (fun _ => ?_)
  · refine lb (rfl) (fun v1 => ?_)
    refine lb (l_X11_isWord hN hx0) (fun v2 => ?_)
    refine li (fun _ => ?_) (fun _ => ?_)
    · rfl
    · refine lb (l_X11_isCompared hN hx0) (fun v3 => ?_)
      refine li (fun _ => ?_) (fun _ => ?_)
      · rfl
      · rfl
  refine li (fun _ => ?_) (fun _ => ?_)
  · refine lb (rfl) (fun v4 => ?_)
    refine lb (l_X11_isWord hN hx0) (fun v5 => ?_)
    refine li (fun _ => ?_) (fun _ => ?_)
    · rfl
    · rfl
  refine li (fun _ => ?_) (fun _ => ?_)
  · refine lb (rfl) (fun v6 => ?_)
    refine lb (l_X11_isWord hN hx0) (fun v7 => ?_)
    refine li (fun _ => ?_) (fun _ => ?_)
    · rfl
    · rfl
  rfl
noncomputable def g_X11_partOf (N : Mem) (x0 : Nat) (x1 : Int32) (σ : ST) : Option (Int32) := g_X11_partOf_0 N x0 x1 σ
theorem l_X11_partOf {N : Mem} {B : Nat} (hN : HN N B) {x0 : Nat} {x1 : Int32} {σ : ST} (hx0 : isC 11 x0) : f_X11_partOf (B + x0) x1 (put N B σ) = g_X11_partOf N x0 x1 σ := by
  unfold f_X11_partOf g_X11_partOf
  rw [if_pos (isOb_put hx0)]
  exact lsm (l_X11_partOf_0 hN _ _ _ hx0)
noncomputable def g_X11_behindOne_26 (N : Mem) (x0 : Nat) (x1 : Int32) (s0 : Int32) (s1 : Nat) (σ : ST) : Option (Bool × ST) :=
  (g_X11_settle N s1 s0 σ).bind fun r1 =>
  (yI 160 r1 (x0 + 5) (r1.1 x0 16) x1).bind fun r2 =>
  (some (setI r2 x0 16 ((r2.1 x0 16) + 1))).bind fun r3 =>
  (some (setI r3 x0 18 (jz false))).bind fun r4 =>
  (g_X11_nextToken N x0 r4).bind fun r5 =>
  some (true, r5)
set_option maxHeartbeats 4000000 in
theorem l_X11_behindOne_26 {N : Mem} {B : Nat} (hN : HN N B) : ∀ (x0 : Nat) (x1 : Int32) (s0 : Int32) (s1 : Nat) (σ : ST), isC 11 x0 → isC 11 s1 → f_X11_behindOne_26 (B + x0) x1 s0 (B + s1) (put N B σ) = (g_X11_behindOne_26 N x0 x1 s0 s1 σ).bind (fun q => some (q.1, put N B q.2)) := by
  intro x0 x1 s0 s1 σ hx0 hs1
  unfold f_X11_behindOne_26 g_X11_behindOne_26
  refine lm (l_X11_settle hN hs1) (fun r1 => ?_)
  refine lg (gR_11_15 hx0) ?_
  refine lg (gI_11_16 hx0) ?_
  refine lm (wI_put (sh_11_15 hx0)) (fun r2 => ?_)
  refine lg (gI_11_16 hx0) ?_
  refine lp (pF_11_16 hx0) (fun r3 => ?_)
  refine lp (pF_11_18 hx0) (fun r4 => ?_)
  refine lm (l_X11_nextToken hN hx0) (fun r5 => ?_)
  rfl
noncomputable def g_X11_behindOne_0 (N : Mem) (x0 : Nat) (σ : ST) : Option (Bool × ST) :=
  (g_X11_betweenOf N x0 σ).bind fun v6 =>
  if v6 < 0 then
  ((g_X11_openNow N x0 σ).bind fun v7 =>
  (g_X11_partOf N x0 v7 σ).bind fun v8 =>
  if 0 ≤ v8 then
  ((g_X11_settle N x0 1 σ).bind fun r9 =>
  (g_X11_nextToken N x0 r9).bind fun r10 =>
  if v8 ≤ 0 then
  ((some (setI r10 x0 17 ((r10.1 x0 17) - 1))).bind fun r11 =>
  (some (setI r11 x0 16 ((r11.1 x0 16) - 1))).bind fun r12 =>
  if v7 = 43 then
  ((g_X11_emit N x0 4 0 r12).bind fun r14 =>
  (g_X11_settle N x0 7 r14).bind fun r15 =>
  some (true, r15))
  else
  ((g_X11_settle N x0 7 r12).bind fun r13 =>
  some (true, r13)))
  else
  ((g_X11_openAt N x0 r10).bind fun v16 =>
  (yI 160 r10 (x0 + 5) v16 v8).bind fun r17 =>
  (some (setI r17 x0 18 (jz false))).bind fun r18 =>
  some (true, r18)))
  else
  (some (false, σ)))
  else
  ((f_X11_rank v6).bind fun v19 =>
  if v19 = 4 then
  (g_X11_behindOne_26 N x0 v6 5 x0 σ)
  else
  ((f_X11_rank v6).bind fun v20 =>
  g_X11_behindOne_26 N x0 v6 v20 x0 σ))
set_option maxHeartbeats 4000000 in
theorem l_X11_behindOne_0 {N : Mem} {B : Nat} (hN : HN N B) : ∀ (x0 : Nat) (σ : ST), isC 11 x0 → f_X11_behindOne_0 (B + x0) (put N B σ) = (g_X11_behindOne_0 N x0 σ).bind (fun q => some (q.1, put N B q.2)) := by
  intro x0 σ hx0
  unfold f_X11_behindOne_0 g_X11_behindOne_0
  refine lb (l_X11_betweenOf hN hx0) (fun v6 => ?_)
  refine li (fun _ => ?_) (fun _ => ?_)
  · refine lb (l_X11_openNow hN hx0) (fun v7 => ?_)
    refine lb (l_X11_partOf hN hx0) (fun v8 => ?_)
    refine li (fun _ => ?_) (fun _ => ?_)
    · refine lm (l_X11_settle hN hx0) (fun r9 => ?_)
      refine lm (l_X11_nextToken hN hx0) (fun r10 => ?_)
      refine li (fun _ => ?_) (fun _ => ?_)
      · refine lg (gI_11_17 hx0) ?_
        refine lp (pF_11_17 hx0) (fun r11 => ?_)
        refine lg (gI_11_16 hx0) ?_
        refine lp (pF_11_16 hx0) (fun r12 => ?_)
        refine li (fun _ => ?_) (fun _ => ?_)
        · refine lm (l_X11_emit hN hx0) (fun r14 => ?_)
          refine lm (l_X11_settle hN hx0) (fun r15 => ?_)
          rfl
        · refine lm (l_X11_settle hN hx0) (fun r13 => ?_)
          rfl
      · refine lg (gR_11_15 hx0) ?_
        refine lb (l_X11_openAt hN hx0) (fun v16 => ?_)
        refine lm (wI_put (sh_11_15 hx0)) (fun r17 => ?_)
        refine lp (pF_11_18 hx0) (fun r18 => ?_)
        rfl
    · rfl
  · refine lb (rfl) (fun v19 => ?_)
    refine li (fun _ => ?_) (fun _ => ?_)
    · exact l_X11_behindOne_26 hN  _ _ _ _ _ hx0 hx0
    · refine lb (rfl) (fun v20 => ?_)
      exact l_X11_behindOne_26 hN  _ _ _ _ _ hx0 hx0
noncomputable def g_X11_behindOne (N : Mem) (x0 : Nat) (σ : ST) : Option (Bool × ST) := g_X11_behindOne_0 N x0 σ
theorem l_X11_behindOne {N : Mem} {B : Nat} (hN : HN N B) {x0 : Nat} {σ : ST} (hx0 : isC 11 x0) : f_X11_behindOne (B + x0) (put N B σ) = (g_X11_behindOne N x0 σ).bind (fun q => some (q.1, put N B q.2)) := by
  unfold f_X11_behindOne g_X11_behindOne
  rw [if_pos (isOb_put hx0)]
  exact l_X11_behindOne_0 hN _ _ hx0
noncomputable def g_X11_summed_15 (N : Mem) (n0 : Nat) (x0 : Nat) (σ : ST) : Option (Int32 × ST) :=
  match n0 with
  | 0 => none
  | n + 1 =>
    (zb (σ.1 x0 18)).bind fun v1 =>
    if v1 = false then
    ((g_X11_beginOne N x0 σ).bind fun r2 =>
    if r2.1 = 0 then
    (g_X11_summed_15 N n x0 r2.2)
    else
    (some (r2.1, r2.2)))
    else
    ((g_X11_behindOne N x0 σ).bind fun r3 =>
    if r3.1 = false then
    ((g_X11_openNow N x0 r3.2).bind fun v4 =>
    if v4 < 0 then
    ((g_X11_settle N x0 1 r3.2).bind fun r5 =>
    some (0, r5))
    else
    (some (1, r3.2)))
    else
    (g_X11_summed_15 N n x0 r3.2))
set_option maxHeartbeats 4000000 in
theorem l_X11_summed_15 {N : Mem} {B : Nat} (hN : HN N B) : ∀ (n : Nat) (x0 : Nat) (σ : ST), isC 11 x0 → f_X11_summed_15 n (B + x0) (put N B σ) = (g_X11_summed_15 N n x0 σ).bind (fun q => some (q.1, put N B q.2)) := by
  intro n
  induction n with
  | zero =>
    intro x0 σ hx0
    rfl
  | succ n ih =>
    intro x0 σ hx0
    unfold f_X11_summed_15 g_X11_summed_15
    refine lb (gZ_11_18 hx0) (fun v1 => ?_)
    refine li (fun _ => ?_) (fun _ => ?_)
    · refine lc (l_X11_beginOne hN hx0) (fun r2 => ?_)
      dsimp only
      refine li (fun _ => ?_) (fun _ => ?_)
      · exact ih _ _ hx0
      · rfl
    · refine lc (l_X11_behindOne hN hx0) (fun r3 => ?_)
      dsimp only
      refine li (fun _ => ?_) (fun _ => ?_)
      · refine lb (l_X11_openNow hN hx0) (fun v4 => ?_)
        refine li (fun _ => ?_) (fun _ => ?_)
        · refine lm (l_X11_settle hN hx0) (fun r5 => ?_)
          rfl
        · rfl
      · exact ih _ _ hx0
noncomputable def g_X11_summed_0 (N : Mem) (x0 : Nat) (σ : ST) : Option (Int32 × ST) :=
  (some (setI σ x0 16 0)).bind fun r6 =>
  (some (setI r6 x0 17 0)).bind fun r7 =>
  (some (setI r7 x0 18 (jz false))).bind fun r8 =>
  g_X11_summed_15 N fu x0 r8
set_option maxHeartbeats 4000000 in
theorem l_X11_summed_0 {N : Mem} {B : Nat} (hN : HN N B) : ∀ (x0 : Nat) (σ : ST), isC 11 x0 → f_X11_summed_0 (B + x0) (put N B σ) = (g_X11_summed_0 N x0 σ).bind (fun q => some (q.1, put N B q.2)) := by
  intro x0 σ hx0
  unfold f_X11_summed_0 g_X11_summed_0
  refine lp (pF_11_16 hx0) (fun r6 => ?_)
  refine lp (pF_11_17 hx0) (fun r7 => ?_)
  refine lp (pF_11_18 hx0) (fun r8 => ?_)
  exact l_X11_summed_15 hN  _ _ _ hx0
noncomputable def g_X11_summed (N : Mem) (x0 : Nat) (σ : ST) : Option (Int32 × ST) := g_X11_summed_0 N x0 σ
theorem l_X11_summed {N : Mem} {B : Nat} (hN : HN N B) {x0 : Nat} {σ : ST} (hx0 : isC 11 x0) : f_X11_summed (B + x0) (put N B σ) = (g_X11_summed N x0 σ).bind (fun q => some (q.1, put N B q.2)) := by
  unfold f_X11_summed g_X11_summed
  rw [if_pos (isOb_put hx0)]
  exact l_X11_summed_0 hN _ _ hx0
noncomputable def g_X11_figure_0 (N : Mem) (x0 : Nat) (x1 : Int32) (x2 : Int32) (x3 : Int32) (σ : ST) : Option (Int32 × ST) :=
  if (σ.1 x0 9) = 1 then
  ((f_X11_isIn (σ.1 x0 10) x2 x3).bind fun v1 =>
  if v1 = true then
  ((yI 2820 σ (x0 + 3) x1 (σ.1 x0 10)).bind fun r2 =>
  (g_X11_nextToken N x0 r2).bind fun r3 =>
  some (0, r3))
  else
  (some (2, σ)))
  else
  (some (1, σ))
set_option maxHeartbeats 4000000 in
theorem l_X11_figure_0 {N : Mem} {B : Nat} (hN : HN N B) : ∀ (x0 : Nat) (x1 : Int32) (x2 : Int32) (x3 : Int32) (σ : ST), isC 11 x0 → f_X11_figure_0 (B + x0) x1 x2 x3 (put N B σ) = (g_X11_figure_0 N x0 x1 x2 x3 σ).bind (fun q => some (q.1, put N B q.2)) := by
  intro x0 x1 x2 x3 σ hx0
  unfold f_X11_figure_0 g_X11_figure_0
  refine lg (gI_11_9 hx0) ?_
  refine li (fun _ => ?_) (fun _ => ?_)
  · refine lg (gI_11_10 hx0) ?_
    refine lb (rfl) (fun v1 => ?_)
    refine li (fun _ => ?_) (fun _ => ?_)
    · refine lg (gR_11_2 hx0) ?_
      refine lg (gI_11_10 hx0) ?_
      refine lm (wI_put (sh_11_2 hx0)) (fun r2 => ?_)
      refine lm (l_X11_nextToken hN hx0) (fun r3 => ?_)
      rfl
    · rfl
  · rfl
noncomputable def g_X11_figure (N : Mem) (x0 : Nat) (x1 : Int32) (x2 : Int32) (x3 : Int32) (σ : ST) : Option (Int32 × ST) := g_X11_figure_0 N x0 x1 x2 x3 σ
theorem l_X11_figure {N : Mem} {B : Nat} (hN : HN N B) {x0 : Nat} {x1 : Int32} {x2 : Int32} {x3 : Int32} {σ : ST} (hx0 : isC 11 x0) : f_X11_figure (B + x0) x1 x2 x3 (put N B σ) = (g_X11_figure N x0 x1 x2 x3 σ).bind (fun q => some (q.1, put N B q.2)) := by
  unfold f_X11_figure g_X11_figure
  rw [if_pos (isOb_put hx0)]
  exact l_X11_figure_0 hN _ _ _ _ _ hx0
noncomputable def g_X11_worded_0 (N : Mem) (x0 : Nat) (x1 : Int64) (x3 : Int32) (x4 : Int32) (σ : ST) : Option (Int32 × ST) :=
  (g_X11_isWord N x0 x1 σ).bind fun v1 =>
  if v1 = true then
  ((g_X11_nextToken N x0 σ).bind fun r2 =>
  (g_X11_figure N x0 x3 0 x4 r2).bind fun r3 =>
  some (r3.1, r3.2))
  else
  (some (1, σ))
set_option maxHeartbeats 4000000 in
theorem l_X11_worded_0 {N : Mem} {B : Nat} (hN : HN N B) : ∀ (x0 : Nat) (x1 : Int64) (x3 : Int32) (x4 : Int32) (σ : ST), isC 11 x0 → f_X11_worded_0 (B + x0) x1 x3 x4 (put N B σ) = (g_X11_worded_0 N x0 x1 x3 x4 σ).bind (fun q => some (q.1, put N B q.2)) := by
  intro x0 x1 x3 x4 σ hx0
  unfold f_X11_worded_0 g_X11_worded_0
  refine lb (l_X11_isWord hN hx0) (fun v1 => ?_)
  refine li (fun _ => ?_) (fun _ => ?_)
  · refine lm (l_X11_nextToken hN hx0) (fun r2 => ?_)
    refine lc (l_X11_figure hN hx0) (fun r3 => ?_)
    dsimp only
    rfl
  · rfl
noncomputable def g_X11_worded (N : Mem) (x0 : Nat) (x1 : Int64) (x3 : Int32) (x4 : Int32) (σ : ST) : Option (Int32 × ST) := g_X11_worded_0 N x0 x1 x3 x4 σ
theorem l_X11_worded {N : Mem} {B : Nat} (hN : HN N B) {x0 : Nat} {x1 : Int64} {x3 : Int32} {x4 : Int32} {σ : ST} (hx0 : isC 11 x0) : f_X11_worded (B + x0) x1 x3 x4 (put N B σ) = (g_X11_worded N x0 x1 x3 x4 σ).bind (fun q => some (q.1, put N B q.2)) := by
  unfold f_X11_worded g_X11_worded
  rw [if_pos (isOb_put hx0)]
  exact l_X11_worded_0 hN _ _ _ _ _ hx0
noncomputable def g_X11_lawClause_0 (N : Mem) (x0 : Nat) (x1 : Int32) (σ : ST) : Option (Int32 × ST) :=
  (yI 2820 σ (x0 + 3) (x1 + 1) (σ.1 x0 13)).bind fun r1 =>
  (g_X11_summed N x0 r1).bind fun r2 =>
  (yI 2820 r2.2 (x0 + 3) (x1 + 2) (r2.2.1 x0 13)).bind fun r3 =>
  some (r2.1, r3)
set_option maxHeartbeats 4000000 in
theorem l_X11_lawClause_0 {N : Mem} {B : Nat} (hN : HN N B) : ∀ (x0 : Nat) (x1 : Int32) (σ : ST), isC 11 x0 → f_X11_lawClause_0 (B + x0) x1 (put N B σ) = (g_X11_lawClause_0 N x0 x1 σ).bind (fun q => some (q.1, put N B q.2)) := by
  intro x0 x1 σ hx0
  unfold f_X11_lawClause_0 g_X11_lawClause_0
  refine lg (gR_11_2 hx0) ?_
  refine lg (gI_11_13 hx0) ?_
  refine lm (wI_put (sh_11_2 hx0)) (fun r1 => ?_)
  refine lc (l_X11_summed hN hx0) (fun r2 => ?_)
  dsimp only
  refine lg (gR_11_2 hx0) ?_
  refine lg (gI_11_13 hx0) ?_
  refine lm (wI_put (sh_11_2 hx0)) (fun r3 => ?_)
  rfl
noncomputable def g_X11_lawClause (N : Mem) (x0 : Nat) (x1 : Int32) (σ : ST) : Option (Int32 × ST) := g_X11_lawClause_0 N x0 x1 σ
theorem l_X11_lawClause {N : Mem} {B : Nat} (hN : HN N B) {x0 : Nat} {x1 : Int32} {σ : ST} (hx0 : isC 11 x0) : f_X11_lawClause (B + x0) x1 (put N B σ) = (g_X11_lawClause N x0 x1 σ).bind (fun q => some (q.1, put N B q.2)) := by
  unfold f_X11_lawClause g_X11_lawClause
  rw [if_pos (isOb_put hx0)]
  exact l_X11_lawClause_0 hN _ _ _ hx0
noncomputable def g_X11_pair_0 (N : Mem) (x0 : Nat) (x1 : Int32) (x2 : Int32) (x3 : Int64) (x5 : Int32) (σ : ST) : Option (Int32 × ST) :=
  (g_X11_figure N x0 (x1 + 1) 0 x2 σ).bind fun r1 =>
  if r1.1 = 0 then
  ((g_X11_worded N x0 x3 (x1 + 2) x5 r1.2).bind fun r2 =>
  some (r2.1, r2.2))
  else
  (some (r1.1, r1.2))
set_option maxHeartbeats 4000000 in
theorem l_X11_pair_0 {N : Mem} {B : Nat} (hN : HN N B) : ∀ (x0 : Nat) (x1 : Int32) (x2 : Int32) (x3 : Int64) (x5 : Int32) (σ : ST), isC 11 x0 → f_X11_pair_0 (B + x0) x1 x2 x3 x5 (put N B σ) = (g_X11_pair_0 N x0 x1 x2 x3 x5 σ).bind (fun q => some (q.1, put N B q.2)) := by
  intro x0 x1 x2 x3 x5 σ hx0
  unfold f_X11_pair_0 g_X11_pair_0
  refine lc (l_X11_figure hN hx0) (fun r1 => ?_)
  dsimp only
  refine li (fun _ => ?_) (fun _ => ?_)
  · refine lc (l_X11_worded hN hx0) (fun r2 => ?_)
    dsimp only
    rfl
  · rfl
noncomputable def g_X11_pair (N : Mem) (x0 : Nat) (x1 : Int32) (x2 : Int32) (x3 : Int64) (x5 : Int32) (σ : ST) : Option (Int32 × ST) := g_X11_pair_0 N x0 x1 x2 x3 x5 σ
theorem l_X11_pair {N : Mem} {B : Nat} (hN : HN N B) {x0 : Nat} {x1 : Int32} {x2 : Int32} {x3 : Int64} {x5 : Int32} {σ : ST} (hx0 : isC 11 x0) : f_X11_pair (B + x0) x1 x2 x3 x5 (put N B σ) = (g_X11_pair N x0 x1 x2 x3 x5 σ).bind (fun q => some (q.1, put N B q.2)) := by
  unfold f_X11_pair g_X11_pair
  rw [if_pos (isOb_put hx0)]
  exact l_X11_pair_0 hN _ _ _ _ _ _ hx0
noncomputable def g_X11_body_0 (N : Mem) (x0 : Nat) (x1 : Int32) (x2 : Int32) (σ : ST) : Option (Int32 × ST) :=
  if x1 = 3 then
  ((f_X11_w4 119 101 97 114).bind fun v1 =>
  (g_X11_pair N x0 x2 9 v1 99 σ).bind fun r2 =>
  some (r2.1, r2.2))
  else
  (if x1 = 4 then
  ((f_X11_w2 116 111).bind fun v3 =>
  (g_X11_pair N x0 x2 9 v3 110 σ).bind fun r4 =>
  some (r4.1, r4.2))
  else
  (if x1 = 5 then
  ((f_X11_w2 116 111).bind fun v5 =>
  (g_X11_pair N x0 x2 9 v5 110 σ).bind fun r6 =>
  some (r6.1, r6.2))
  else
  (if x1 = 6 then
  ((f_X11_w2 98 121).bind fun v7 =>
  (g_X11_pair N x0 x2 9999 v7 4 σ).bind fun r8 =>
  some (r8.1, r8.2))
  else
  (if x1 = 7 then
  ((f_X11_w2 98 121).bind fun v9 =>
  (g_X11_pair N x0 x2 4 v9 9 σ).bind fun r10 =>
  some (r10.1, r10.2))
  else
  (if x1 = 8 then
  ((g_X11_figure N x0 (x2 + 1) 0 4 σ).bind fun r11 =>
  some (r11.1, r11.2))
  else
  (if x1 = 9 then
  ((g_X11_figure N x0 (x2 + 1) 1 60 σ).bind fun r12 =>
  some (r12.1, r12.2))
  else
  ((g_X11_lawClause N x0 x2 σ).bind fun r13 =>
  some (r13.1, r13.2))))))))
set_option maxHeartbeats 4000000 in
theorem l_X11_body_0 {N : Mem} {B : Nat} (hN : HN N B) : ∀ (x0 : Nat) (x1 : Int32) (x2 : Int32) (σ : ST), isC 11 x0 → f_X11_body_0 (B + x0) x1 x2 (put N B σ) = (g_X11_body_0 N x0 x1 x2 σ).bind (fun q => some (q.1, put N B q.2)) := by
  intro x0 x1 x2 σ hx0
  unfold f_X11_body_0 g_X11_body_0
  refine li (fun _ => ?_) (fun _ => ?_)
  · refine lb (rfl) (fun v1 => ?_)
    refine lc (l_X11_pair hN hx0) (fun r2 => ?_)
    dsimp only
    rfl
  refine li (fun _ => ?_) (fun _ => ?_)
  · refine lb (rfl) (fun v3 => ?_)
    refine lc (l_X11_pair hN hx0) (fun r4 => ?_)
    dsimp only
    rfl
  refine li (fun _ => ?_) (fun _ => ?_)
  · refine lb (rfl) (fun v5 => ?_)
    refine lc (l_X11_pair hN hx0) (fun r6 => ?_)
    dsimp only
    rfl
  refine li (fun _ => ?_) (fun _ => ?_)
  · refine lb (rfl) (fun v7 => ?_)
    refine lc (l_X11_pair hN hx0) (fun r8 => ?_)
    dsimp only
    rfl
  refine li (fun _ => ?_) (fun _ => ?_)
  · refine lb (rfl) (fun v9 => ?_)
    refine lc (l_X11_pair hN hx0) (fun r10 => ?_)
    dsimp only
    rfl
  refine li (fun _ => ?_) (fun _ => ?_)
  · refine lc (l_X11_figure hN hx0) (fun r11 => ?_)
    dsimp only
    rfl
  refine li (fun _ => ?_) (fun _ => ?_)
  · refine lc (l_X11_figure hN hx0) (fun r12 => ?_)
    dsimp only
    rfl
  refine lc (l_X11_lawClause hN hx0) (fun r13 => ?_)
  dsimp only
  rfl
noncomputable def g_X11_body (N : Mem) (x0 : Nat) (x1 : Int32) (x2 : Int32) (σ : ST) : Option (Int32 × ST) := g_X11_body_0 N x0 x1 x2 σ
theorem l_X11_body {N : Mem} {B : Nat} (hN : HN N B) {x0 : Nat} {x1 : Int32} {x2 : Int32} {σ : ST} (hx0 : isC 11 x0) : f_X11_body (B + x0) x1 x2 (put N B σ) = (g_X11_body N x0 x1 x2 σ).bind (fun q => some (q.1, put N B q.2)) := by
  unfold f_X11_body g_X11_body
  rw [if_pos (isOb_put hx0)]
  exact l_X11_body_0 hN _ _ _ _ hx0
noncomputable def g_X11_sortOf_0 (N : Mem) (x0 : Nat) (σ : ST) : Option (Int32) :=
  (f_X11_w5 108 111 111 115 101).bind fun v1 =>
  (g_X11_isWord N x0 v1 σ).bind fun v2 =>
  if v2 = false then
  ((f_X11_w4 98 101 108 105).bind fun v3 =>
  (f_X11_w4 101 118 101 115).bind fun v4 =>
  (g_X11_isLong N x0 v3 v4 8 σ).bind fun v5 =>
  if v5 = false then
  ((f_X11_w5 119 101 97 114 115).bind fun v6 =>
  (g_X11_isWord N x0 v6 σ).bind fun v7 =>
  if v7 = false then
  ((f_X11_w4 109 97 99 104).bind fun v8 =>
  (f_X11_w3 105 110 101).bind fun v9 =>
  (g_X11_isLong N x0 v8 v9 7 σ).bind fun v10 =>
  if v10 = false then
  ((f_X11_w6 115 116 114 105 99 116).bind fun v11 =>
  (g_X11_isWord N x0 v11 σ).bind fun v12 =>
  if v12 = false then
  ((f_X11_w5 115 108 97 99 107).bind fun v13 =>
  (g_X11_isWord N x0 v13 σ).bind fun v14 =>
  if v14 = false then
  ((f_X11_w5 99 114 97 110 107).bind fun v15 =>
  (g_X11_isWord N x0 v15 σ).bind fun v16 =>
  if v16 = false then
  ((f_X11_w3 111 105 108).bind fun v17 =>
  (g_X11_isWord N x0 v17 σ).bind fun v18 =>
  if v18 = false then
  ((f_X11_w4 108 105 102 116).bind fun v19 =>
  (g_X11_isWord N x0 v19 σ).bind fun v20 =>
  if v20 = false then
  ((f_X11_w5 110 105 103 104 116).bind fun v21 =>
  (g_X11_isWord N x0 v21 σ).bind fun v22 =>
  if v22 = false then
  (some (-1))
  else
  (some 9))
  else
  (some 8))
  else
  (some 7))
  else
  (some 6))
  else
  (some 5))
  else
  (some 4))
  else
  (some 3))
  else
  (some 2))
  else
  (some 1))
  else
  (some 0)
set_option maxHeartbeats 4000000 in
theorem l_X11_sortOf_0 {N : Mem} {B : Nat} (hN : HN N B) : ∀ (x0 : Nat) (σ : ST), isC 11 x0 → f_X11_sortOf_0 (B + x0) (put N B σ) = (g_X11_sortOf_0 N x0 σ).bind some := by
  intro x0 σ hx0
  unfold f_X11_sortOf_0 g_X11_sortOf_0
  refine lb (rfl) (fun v1 => ?_)
  refine lb (l_X11_isWord hN hx0) (fun v2 => ?_)
  refine li (fun _ => ?_) (fun _ => ?_)
  · refine lb (rfl) (fun v3 => ?_)
    refine lb (rfl) (fun v4 => ?_)
    refine lb (l_X11_isLong hN hx0) (fun v5 => ?_)
    refine li (fun _ => ?_) (fun _ => ?_)
    · refine lb (rfl) (fun v6 => ?_)
      refine lb (l_X11_isWord hN hx0) (fun v7 => ?_)
      refine li (fun _ => ?_) (fun _ => ?_)
      · refine lb (rfl) (fun v8 => ?_)
        refine lb (rfl) (fun v9 => ?_)
        refine lb (l_X11_isLong hN hx0) (fun v10 => ?_)
        refine li (fun _ => ?_) (fun _ => ?_)
        · refine lb (rfl) (fun v11 => ?_)
          refine lb (l_X11_isWord hN hx0) (fun v12 => ?_)
          refine li (fun _ => ?_) (fun _ => ?_)
          · refine lb (rfl) (fun v13 => ?_)
            refine lb (l_X11_isWord hN hx0) (fun v14 => ?_)
            refine li (fun _ => ?_) (fun _ => ?_)
            · refine lb (rfl) (fun v15 => ?_)
              refine lb (l_X11_isWord hN hx0) (fun v16 => ?_)
              refine li (fun _ => ?_) (fun _ => ?_)
              · refine lb (rfl) (fun v17 => ?_)
                refine lb (l_X11_isWord hN hx0) (fun v18 => ?_)
                refine li (fun _ => ?_) (fun _ => ?_)
                · refine lb (rfl) (fun v19 => ?_)
                  refine lb (l_X11_isWord hN hx0) (fun v20 => ?_)
                  refine li (fun _ => ?_) (fun _ => ?_)
                  · refine lb (rfl) (fun v21 => ?_)
                    refine lb (l_X11_isWord hN hx0) (fun v22 => ?_)
                    refine li (fun _ => ?_) (fun _ => ?_)
                    · rfl
                    · rfl
                  · rfl
                · rfl
              · rfl
            · rfl
          · rfl
        · rfl
      · rfl
    · rfl
  · rfl
noncomputable def g_X11_sortOf (N : Mem) (x0 : Nat) (σ : ST) : Option (Int32) := g_X11_sortOf_0 N x0 σ
theorem l_X11_sortOf {N : Mem} {B : Nat} (hN : HN N B) {x0 : Nat} {σ : ST} (hx0 : isC 11 x0) : f_X11_sortOf (B + x0) (put N B σ) = g_X11_sortOf N x0 σ := by
  unfold f_X11_sortOf g_X11_sortOf
  rw [if_pos (isOb_put hx0)]
  exact lsm (l_X11_sortOf_0 hN _ _ hx0)
noncomputable def g_X11_clause_65 (N : Mem) (x0 : Nat) (x1 : Int32) (x2 : Int32) (σ : ST) : Option (Int32 × ST) :=
  (some (setI σ x0 14 x1)).bind fun r1 =>
  (g_X11_nextToken N x0 r1).bind fun r2 =>
  (yI 2820 r2 (x0 + 3) (((r2.1 x0 12) + 1) + (4 * x2)) x1).bind fun r3 =>
  (g_X11_body N x0 x1 (((r2.1 x0 12) + 1) + (4 * x2)) r3).bind fun r4 =>
  if r4.1 = 0 then
  ((xI 2820 r4.2 (x0 + 3) (r4.2.1 x0 12)).bind fun v5 =>
  (yI 2820 r4.2 (x0 + 3) (r4.2.1 x0 12) (v5 + 1)).bind fun r6 =>
  if (r6.1 x0 9) = 59 then
  ((g_X11_nextToken N x0 r6).bind fun r7 =>
  some (0, r7))
  else
  (some (1, r6)))
  else
  (some (r4.1, r4.2))
set_option maxHeartbeats 4000000 in
theorem l_X11_clause_65 {N : Mem} {B : Nat} (hN : HN N B) : ∀ (x0 : Nat) (x1 : Int32) (x2 : Int32) (σ : ST), isC 11 x0 → f_X11_clause_65 (B + x0) x1 x2 (put N B σ) = (g_X11_clause_65 N x0 x1 x2 σ).bind (fun q => some (q.1, put N B q.2)) := by
  intro x0 x1 x2 σ hx0
  unfold f_X11_clause_65 g_X11_clause_65
  refine lp (pF_11_14 hx0) (fun r1 => ?_)
  refine lm (l_X11_nextToken hN hx0) (fun r2 => ?_)
  refine lg (gI_11_12 hx0) ?_
  refine lg (gR_11_2 hx0) ?_
  refine lm (wI_put (sh_11_2 hx0)) (fun r3 => ?_)
  refine lc (l_X11_body hN hx0) (fun r4 => ?_)
  dsimp only
  refine li (fun _ => ?_) (fun _ => ?_)
  · refine lg (gR_11_2 hx0) ?_
    refine lg (gI_11_12 hx0) ?_
    refine lb (rI_put (sh_11_2 hx0)) (fun v5 => ?_)
    refine lm (wI_put (sh_11_2 hx0)) (fun r6 => ?_)
    refine lg (gI_11_9 hx0) ?_
    refine li (fun _ => ?_) (fun _ => ?_)
    · refine lm (l_X11_nextToken hN hx0) (fun r7 => ?_)
      rfl
    · rfl
  · rfl
noncomputable def g_X11_clause_29 (N : Mem) (x0 : Nat) (x1 : Int32) (σ : ST) : Option (Int32 × ST) :=
  (xI 2820 σ (x0 + 3) (σ.1 x0 12)).bind fun v8 =>
  if v8 = 24 then
  (some (6, σ))
  else
  (if 2 < x1 then
  (g_X11_clause_65 N x0 x1 v8 σ)
  else
  ((some (setI σ x0 19 ((σ.1 x0 19) ||| (jshl 1 x1)))).bind fun r9 =>
  g_X11_clause_65 N x0 x1 v8 r9))
set_option maxHeartbeats 4000000 in
theorem l_X11_clause_29 {N : Mem} {B : Nat} (hN : HN N B) : ∀ (x0 : Nat) (x1 : Int32) (σ : ST), isC 11 x0 → f_X11_clause_29 (B + x0) x1 (put N B σ) = (g_X11_clause_29 N x0 x1 σ).bind (fun q => some (q.1, put N B q.2)) := by
  intro x0 x1 σ hx0
  unfold f_X11_clause_29 g_X11_clause_29
  refine lg (gR_11_2 hx0) ?_
  refine lg (gI_11_12 hx0) ?_
  refine lb (rI_put (sh_11_2 hx0)) (fun v8 => ?_)
  refine li (fun _ => ?_) (fun _ => ?_)
  · rfl
  · refine li (fun _ => ?_) (fun _ => ?_)
    · exact l_X11_clause_65 hN  _ _ _ _ hx0
    · refine lg (gI_11_19 hx0) ?_
      refine lp (pF_11_19 hx0) (fun r9 => ?_)
      exact l_X11_clause_65 hN  _ _ _ _ hx0
noncomputable def g_X11_clause_0 (N : Mem) (x0 : Nat) (σ : ST) : Option (Int32 × ST) :=
  (g_X11_sortOf N x0 σ).bind fun v10 =>
  if 0 ≤ v10 then
  (if 2 < v10 then
  (g_X11_clause_29 N x0 v10 σ)
  else
  ((f_X11_has (σ.1 x0 19) v10).bind fun v11 =>
  if v11 = false then
  (g_X11_clause_29 N x0 v10 σ)
  else
  (some (4, σ))))
  else
  (some (1, σ))
set_option maxHeartbeats 4000000 in
theorem l_X11_clause_0 {N : Mem} {B : Nat} (hN : HN N B) : ∀ (x0 : Nat) (σ : ST), isC 11 x0 → f_X11_clause_0 (B + x0) (put N B σ) = (g_X11_clause_0 N x0 σ).bind (fun q => some (q.1, put N B q.2)) := by
  intro x0 σ hx0
  unfold f_X11_clause_0 g_X11_clause_0
  refine lb (l_X11_sortOf hN hx0) (fun v10 => ?_)
  refine li (fun _ => ?_) (fun _ => ?_)
  · refine li (fun _ => ?_) (fun _ => ?_)
    · exact l_X11_clause_29 hN  _ _ _ hx0
    · refine lg (gI_11_19 hx0) ?_
      refine lb (rfl) (fun v11 => ?_)
      refine li (fun _ => ?_) (fun _ => ?_)
      · exact l_X11_clause_29 hN  _ _ _ hx0
      · rfl
  · rfl
noncomputable def g_X11_clause (N : Mem) (x0 : Nat) (σ : ST) : Option (Int32 × ST) := g_X11_clause_0 N x0 σ
theorem l_X11_clause {N : Mem} {B : Nat} (hN : HN N B) {x0 : Nat} {σ : ST} (hx0 : isC 11 x0) : f_X11_clause (B + x0) (put N B σ) = (g_X11_clause N x0 σ).bind (fun q => some (q.1, put N B q.2)) := by
  unfold f_X11_clause g_X11_clause
  rw [if_pos (isOb_put hx0)]
  exact l_X11_clause_0 hN _ _ hx0
noncomputable def g_X11_readText_43 (N : Mem) (n0 : Nat) (x0 : Nat) (σ : ST) : Option (Int32 × ST) :=
  match n0 with
  | 0 => none
  | n + 1 =>
    if (σ.1 x0 9) = 0 then
    (some (0, σ))
    else
    ((g_X11_clause N x0 σ).bind fun r1 =>
    if r1.1 = 0 then
    (g_X11_readText_43 N n x0 r1.2)
    else
    (some (r1.1, r1.2)))
set_option maxHeartbeats 4000000 in
theorem l_X11_readText_43 {N : Mem} {B : Nat} (hN : HN N B) : ∀ (n : Nat) (x0 : Nat) (σ : ST), isC 11 x0 → f_X11_readText_43 n (B + x0) (put N B σ) = (g_X11_readText_43 N n x0 σ).bind (fun q => some (q.1, put N B q.2)) := by
  intro n
  induction n with
  | zero =>
    intro x0 σ hx0
    rfl
  | succ n ih =>
    intro x0 σ hx0
    unfold f_X11_readText_43 g_X11_readText_43
    refine lg (gI_11_9 hx0) ?_
    refine li (fun _ => ?_) (fun _ => ?_)
    · rfl
    · refine lc (l_X11_clause hN hx0) (fun r1 => ?_)
      dsimp only
      refine li (fun _ => ?_) (fun _ => ?_)
      · exact ih _ _ hx0
      · rfl
noncomputable def g_X11_readText_0 (N : Mem) (x0 : Nat) (σ : ST) : Option (Int32 × ST) :=
  (xI 4607 σ (x0 + 1) 1).bind fun v2 =>
  (some (setI σ x0 12 (705 * v2))).bind fun r3 =>
  (yI 2820 r3 (x0 + 3) (r3.1 x0 12) 0).bind fun r4 =>
  (some (setI r4 x0 13 0)).bind fun r5 =>
  (some (setI r5 x0 19 0)).bind fun r6 =>
  (some (setI r6 x0 7 0)).bind fun r7 =>
  (g_X11_nextToken N x0 r7).bind fun r8 =>
  g_X11_readText_43 N fu x0 r8
set_option maxHeartbeats 4000000 in
theorem l_X11_readText_0 {N : Mem} {B : Nat} (hN : HN N B) : ∀ (x0 : Nat) (σ : ST), isC 11 x0 → f_X11_readText_0 (B + x0) (put N B σ) = (g_X11_readText_0 N x0 σ).bind (fun q => some (q.1, put N B q.2)) := by
  intro x0 σ hx0
  unfold f_X11_readText_0 g_X11_readText_0
  refine lg (gR_11_0 hx0) ?_
  refine lb (rI_put (sh_11_0 hx0)) (fun v2 => ?_)
  refine lp (pF_11_12 hx0) (fun r3 => ?_)
  refine lg (gR_11_2 hx0) ?_
  refine lg (gI_11_12 hx0) ?_
  refine lm (wI_put (sh_11_2 hx0)) (fun r4 => ?_)
  refine lp (pF_11_13 hx0) (fun r5 => ?_)
  refine lp (pF_11_19 hx0) (fun r6 => ?_)
  refine lp (pF_11_7 hx0) (fun r7 => ?_)
  refine lm (l_X11_nextToken hN hx0) (fun r8 => ?_)
  exact l_X11_readText_43 hN  _ _ _ hx0
noncomputable def g_X11_readText (N : Mem) (x0 : Nat) (σ : ST) : Option (Int32 × ST) := g_X11_readText_0 N x0 σ
theorem l_X11_readText {N : Mem} {B : Nat} (hN : HN N B) {x0 : Nat} {σ : ST} (hx0 : isC 11 x0) : f_X11_readText (B + x0) (put N B σ) = (g_X11_readText N x0 σ).bind (fun q => some (q.1, put N B q.2)) := by
  unfold f_X11_readText g_X11_readText
  rw [if_pos (isOb_put hx0)]
  exact l_X11_readText_0 hN _ _ hx0
noncomputable def g_X11_text_36 (N : Mem) (x0 : Nat) (s0 : Int32) (s1 : Nat) (σ : ST) : Option (Int32 × ST) :=
  (some (setI σ s1 6 s0)).bind fun r1 =>
  (some (setI r1 x0 4 0)).bind fun r2 =>
  if (r2.1 x0 5) = 0 then
  ((xI 4607 r2 (x0 + 1) 1).bind fun v3 =>
  (yI 4607 r2 (x0 + 1) 1 (v3 + 1)).bind fun r4 =>
  (xI 4607 r4 (x0 + 1) 1).bind fun v5 =>
  some ((v5 - 1), r4))
  else
  (some ((-1), r2))
set_option maxHeartbeats 4000000 in
theorem l_X11_text_36 {N : Mem} {B : Nat} (hN : HN N B) : ∀ (x0 : Nat) (s0 : Int32) (s1 : Nat) (σ : ST), isC 11 x0 → isC 11 s1 → f_X11_text_36 (B + x0) s0 (B + s1) (put N B σ) = (g_X11_text_36 N x0 s0 s1 σ).bind (fun q => some (q.1, put N B q.2)) := by
  intro x0 s0 s1 σ hx0 hs1
  unfold f_X11_text_36 g_X11_text_36
  refine lp (pF_11_6 hs1) (fun r1 => ?_)
  refine lp (pF_11_4 hx0) (fun r2 => ?_)
  refine lg (gI_11_5 hx0) ?_
  refine li (fun _ => ?_) (fun _ => ?_)
  · refine lg (gR_11_0 hx0) ?_
    refine lb (rI_put (sh_11_0 hx0)) (fun v3 => ?_)
    refine lm (wI_put (sh_11_0 hx0)) (fun r4 => ?_)
    refine lg (gR_11_0 hx0) ?_
    refine lb (rI_put (sh_11_0 hx0)) (fun v5 => ?_)
    rfl
  · rfl
noncomputable def g_X11_text_0 (N : Mem) (x0 : Nat) (σ : ST) : Option (Int32 × ST) :=
  (xI 4607 σ (x0 + 1) 1).bind fun v6 =>
  if v6 = 4 then
  (some ((-1), σ))
  else
  ((g_X11_readText N x0 σ).bind fun r7 =>
  (some (setI r7.2 x0 5 r7.1)).bind fun r8 =>
  if (r8.1 x0 5) = 0 then
  (g_X11_text_36 N x0 (-1) x0 r8)
  else
  (g_X11_text_36 N x0 (r8.1 x0 8) x0 r8))
set_option maxHeartbeats 4000000 in
theorem l_X11_text_0 {N : Mem} {B : Nat} (hN : HN N B) : ∀ (x0 : Nat) (σ : ST), isC 11 x0 → f_X11_text_0 (B + x0) (put N B σ) = (g_X11_text_0 N x0 σ).bind (fun q => some (q.1, put N B q.2)) := by
  intro x0 σ hx0
  unfold f_X11_text_0 g_X11_text_0
  refine lg (gR_11_0 hx0) ?_
  refine lb (rI_put (sh_11_0 hx0)) (fun v6 => ?_)
  refine li (fun _ => ?_) (fun _ => ?_)
  · rfl
  · refine lc (l_X11_readText hN hx0) (fun r7 => ?_)
    dsimp only
    refine lp (pF_11_5 hx0) (fun r8 => ?_)
    refine lg (gI_11_5 hx0) ?_
    refine li (fun _ => ?_) (fun _ => ?_)
    · exact l_X11_text_36 hN  _ _ _ _ hx0 hx0
    · refine lg (gI_11_8 hx0) ?_
      exact l_X11_text_36 hN  _ _ _ _ hx0 hx0
noncomputable def g_X11_text (N : Mem) (x0 : Nat) (σ : ST) : Option (Int32 × ST) := g_X11_text_0 N x0 σ
theorem l_X11_text {N : Mem} {B : Nat} (hN : HN N B) {x0 : Nat} {σ : ST} (hx0 : isC 11 x0) : f_X11_text (B + x0) (put N B σ) = (g_X11_text N x0 σ).bind (fun q => some (q.1, put N B q.2)) := by
  unfold f_X11_text g_X11_text
  rw [if_pos (isOb_put hx0)]
  exact l_X11_text_0 hN _ _ hx0
noncomputable def g_X11_fault_0 (N : Mem) (x0 : Nat) (x1 : Int32) (σ : ST) : Option (Int32) :=
  if x1 = 0 then
  (some (σ.1 x0 5))
  else
  (if x1 = 1 then
  (some (σ.1 x0 6))
  else
  (some (-1)))
set_option maxHeartbeats 4000000 in
theorem l_X11_fault_0 {N : Mem} {B : Nat} (hN : HN N B) : ∀ (x0 : Nat) (x1 : Int32) (σ : ST), isC 11 x0 → f_X11_fault_0 (B + x0) x1 (put N B σ) = (g_X11_fault_0 N x0 x1 σ).bind some := by
  intro x0 x1 σ hx0
  unfold f_X11_fault_0 g_X11_fault_0
  refine li (fun _ => ?_) (fun _ => ?_)
  · refine lg (gI_11_5 hx0) ?_
    rfl
  · refine li (fun _ => ?_) (fun _ => ?_)
    · refine lg (gI_11_6 hx0) ?_
      rfl
    · rfl
noncomputable def g_X11_fault (N : Mem) (x0 : Nat) (x1 : Int32) (σ : ST) : Option (Int32) := g_X11_fault_0 N x0 x1 σ
theorem l_X11_fault {N : Mem} {B : Nat} (hN : HN N B) {x0 : Nat} {x1 : Int32} {σ : ST} (hx0 : isC 11 x0) : f_X11_fault (B + x0) x1 (put N B σ) = g_X11_fault N x0 x1 σ := by
  unfold f_X11_fault g_X11_fault
  rw [if_pos (isOb_put hx0)]
  exact lsm (l_X11_fault_0 hN _ _ _ hx0)
noncomputable def g_X11_by_0 (N : Mem) (x0 : Nat) (x1 : Int32) (σ : ST) : Option (Bool × ST) :=
  (xI 4607 σ (x0 + 1) 1).bind fun v1 =>
  (f_X11_isIn x1 (-1) (v1 - 1)).bind fun v2 =>
  if v2 = true then
  ((yI 4607 σ (x0 + 1) 2 x1).bind fun r3 =>
  some (true, r3))
  else
  (some (false, σ))
set_option maxHeartbeats 4000000 in
theorem l_X11_by_0 {N : Mem} {B : Nat} (hN : HN N B) : ∀ (x0 : Nat) (x1 : Int32) (σ : ST), isC 11 x0 → f_X11_by_0 (B + x0) x1 (put N B σ) = (g_X11_by_0 N x0 x1 σ).bind (fun q => some (q.1, put N B q.2)) := by
  intro x0 x1 σ hx0
  unfold f_X11_by_0 g_X11_by_0
  refine lg (gR_11_0 hx0) ?_
  refine lb (rI_put (sh_11_0 hx0)) (fun v1 => ?_)
  refine lb (rfl) (fun v2 => ?_)
  refine li (fun _ => ?_) (fun _ => ?_)
  · refine lg (gR_11_0 hx0) ?_
    refine lm (wI_put (sh_11_0 hx0)) (fun r3 => ?_)
    rfl
  · rfl
noncomputable def g_X11_by (N : Mem) (x0 : Nat) (x1 : Int32) (σ : ST) : Option (Bool × ST) := g_X11_by_0 N x0 x1 σ
theorem l_X11_by {N : Mem} {B : Nat} (hN : HN N B) {x0 : Nat} {x1 : Int32} {σ : ST} (hx0 : isC 11 x0) : f_X11_by (B + x0) x1 (put N B σ) = (g_X11_by N x0 x1 σ).bind (fun q => some (q.1, put N B q.2)) := by
  unfold f_X11_by g_X11_by
  rw [if_pos (isOb_put hx0)]
  exact l_X11_by_0 hN _ _ _ hx0
noncomputable def g_X11_sumsOf_0 (N : Mem) (x0 : Nat) (x1 : Int64) (σ : ST) : Option (Int64) :=
  if (lg_cmp x1 0) < 0 then
  (some 0)
  else
  ((xI 4607 σ (x0 + 1) 0).bind fun v1 =>
  if 0 ≤ (lg_cmp x1 (Int32.toInt64 v1)) then
  (some 0)
  else
  ((g_X11_get N x0 (Int64.toInt32 x1) 2 σ).bind fun v2 =>
  some (Int32.toInt64 v2)))
set_option maxHeartbeats 4000000 in
theorem l_X11_sumsOf_0 {N : Mem} {B : Nat} (hN : HN N B) : ∀ (x0 : Nat) (x1 : Int64) (σ : ST), isC 11 x0 → f_X11_sumsOf_0 (B + x0) x1 (put N B σ) = (g_X11_sumsOf_0 N x0 x1 σ).bind some := by
  intro x0 x1 σ hx0
  unfold f_X11_sumsOf_0 g_X11_sumsOf_0
  refine li (fun _ => ?_) (fun _ => ?_)
  · rfl
  · refine lg (gR_11_0 hx0) ?_
    refine lb (rI_put (sh_11_0 hx0)) (fun v1 => ?_)
    refine li (fun _ => ?_) (fun _ => ?_)
    · rfl
    · refine lb (l_X11_get hN hx0) (fun v2 => ?_)
      rfl
noncomputable def g_X11_sumsOf (N : Mem) (x0 : Nat) (x1 : Int64) (σ : ST) : Option (Int64) := g_X11_sumsOf_0 N x0 x1 σ
theorem l_X11_sumsOf {N : Mem} {B : Nat} (hN : HN N B) {x0 : Nat} {x1 : Int64} {σ : ST} (hx0 : isC 11 x0) : f_X11_sumsOf (B + x0) x1 (put N B σ) = g_X11_sumsOf N x0 x1 σ := by
  unfold f_X11_sumsOf g_X11_sumsOf
  rw [if_pos (isOb_put hx0)]
  exact lsm (l_X11_sumsOf_0 hN _ _ _ hx0)
noncomputable def g_X11_summedUp_38 (N : Mem) (n0 : Nat) (x0 : Nat) (x3 : Int32) (x4 : Int32) (x5 : Int32) (x6 : Int32) (x7 : Int32) (σ : ST) : Option (Int64 × ST) :=
  match n0 with
  | 0 => none
  | n + 1 =>
    (xI 2820 σ (x0 + 3) (x3 + 2)).bind fun v1 =>
    if v1 ≤ x7 then
    ((xL 330 σ (x0 + 7) 0).bind fun v2 =>
    some (v2, σ))
    else
    ((xI 2820 σ (x0 + 3) (x4 + (2 * x7))).bind fun v3 =>
    (xI 2820 σ (x0 + 3) ((x4 + (2 * x7)) + 1)).bind fun v4 =>
    if 1 < v3 then
    (if v3 = 4 then
    ((xZ 330 σ (x0 + 8) (x6 + (-1))).bind fun v28 =>
    if v28 = true then
    (g_X11_summedUp_38 N n x0 x3 x4 (x5 + (-1)) (x6 + (-1)) (x7 + 1) σ)
    else
    ((xL 330 σ (x0 + 7) (x5 + (-1))).bind fun v29 =>
    (yL 330 σ (x0 + 7) ((x5 + (-1)) - 1) v29).bind fun r30 =>
    g_X11_summedUp_38 N n x0 x3 x4 (x5 + (-1)) (x6 + (-1)) (x7 + 1) r30))
    else
    (if 5 < v3 then
    (if 10 ≤ v3 then
    (if 20 ≤ v3 then
    (if v3 = 20 then
    ((xZ 330 σ (x0 + 8) (x6 - 1)).bind fun v9 =>
    if v9 = true then
    ((yI 330 σ (x0 + 8) (x6 - 1) (jz false)).bind fun r10 =>
    g_X11_summedUp_38 N n x0 x3 x4 x5 x6 (x7 + 1) r10)
    else
    ((yI 330 σ (x0 + 8) (x6 - 1) (jz true)).bind fun r11 =>
    g_X11_summedUp_38 N n x0 x3 x4 x5 x6 (x7 + 1) r11))
    else
    ((xZ 330 σ (x0 + 8) ((x6 + (-1)) - 1)).bind fun v5 =>
    (xZ 330 σ (x0 + 8) (x6 + (-1))).bind fun v6 =>
    (f_X11_joined v3 v5 v6).bind fun v7 =>
    (yI 330 σ (x0 + 8) ((x6 + (-1)) - 1) (jz v7)).bind fun r8 =>
    g_X11_summedUp_38 N n x0 x3 x4 x5 (x6 + (-1)) (x7 + 1) r8))
    else
    ((xL 330 σ (x0 + 7) (x5 + (-2))).bind fun v12 =>
    (xL 330 σ (x0 + 7) ((x5 + (-2)) + 1)).bind fun v13 =>
    (f_X11_isAsked v3 v12 v13).bind fun v14 =>
    (yI 330 σ (x0 + 8) x6 (jz v14)).bind fun r15 =>
    g_X11_summedUp_38 N n x0 x3 x4 (x5 + (-2)) (x6 + 1) (x7 + 1) r15))
    else
    ((xL 330 σ (x0 + 7) ((x5 + (-1)) - 1)).bind fun v16 =>
    (xL 330 σ (x0 + 7) (x5 + (-1))).bind fun v17 =>
    (f_X11_two v3 v16 v17).bind fun v18 =>
    (yL 330 σ (x0 + 7) ((x5 + (-1)) - 1) v18).bind fun r19 =>
    g_X11_summedUp_38 N n x0 x3 x4 (x5 + (-1)) x6 (x7 + 1) r19))
    else
    (if v3 = 5 then
    ((xL 330 σ (x0 + 7) (x5 - 1)).bind fun v26 =>
    (yL 330 σ (x0 + 7) (x5 - 1) (-v26)).bind fun r27 =>
    g_X11_summedUp_38 N n x0 x3 x4 x5 x6 (x7 + 1) r27)
    else
    (if v3 = 3 then
    ((xL 330 σ (x0 + 7) (x5 - 1)).bind fun v23 =>
    (g_X11_sumsOf N x0 v23 σ).bind fun v24 =>
    (yL 330 σ (x0 + 7) (x5 - 1) v24).bind fun r25 =>
    g_X11_summedUp_38 N n x0 x3 x4 x5 x6 (x7 + 1) r25)
    else
    ((xL 330 σ (x0 + 7) (x5 - 1)).bind fun v20 =>
    (f_X11_digitsOf v20).bind fun v21 =>
    (yL 330 σ (x0 + 7) (x5 - 1) v21).bind fun r22 =>
    g_X11_summedUp_38 N n x0 x3 x4 x5 x6 (x7 + 1) r22)))))
    else
    (if v3 = 0 then
    ((yL 330 σ (x0 + 7) x5 (Int32.toInt64 v4)).bind fun r33 =>
    g_X11_summedUp_38 N n x0 x3 x4 (x5 + 1) x6 (x7 + 1) r33)
    else
    ((xI 8 σ (x0 + 6) v4).bind fun v31 =>
    (yL 330 σ (x0 + 7) x5 (Int32.toInt64 v31)).bind fun r32 =>
    g_X11_summedUp_38 N n x0 x3 x4 (x5 + 1) x6 (x7 + 1) r32)))
set_option maxHeartbeats 4000000 in
theorem l_X11_summedUp_38 {N : Mem} {B : Nat} (hN : HN N B) : ∀ (n : Nat) (x0 : Nat) (x3 : Int32) (x4 : Int32) (x5 : Int32) (x6 : Int32) (x7 : Int32) (σ : ST), isC 11 x0 → f_X11_summedUp_38 n (B + x0) x3 x4 x5 x6 x7 (put N B σ) = (g_X11_summedUp_38 N n x0 x3 x4 x5 x6 x7 σ).bind (fun q => some (q.1, put N B q.2)) := by
  intro n
  induction n with
  | zero =>
    intro x0 x3 x4 x5 x6 x7 σ hx0
    rfl
  | succ n ih =>
    intro x0 x3 x4 x5 x6 x7 σ hx0
    unfold f_X11_summedUp_38 g_X11_summedUp_38
    refine lg (gR_11_2 hx0) ?_
    refine lb (rI_put (sh_11_2 hx0)) (fun v1 => ?_)
    refine li (fun _ => ?_) (fun _ => ?_)
    · refine lg (gR_11_21 hx0) ?_
      refine lb (rL_put (sh_11_21 hx0)) (fun v2 => ?_)
      rfl
    · refine lg (gR_11_2 hx0) ?_
      refine lb (rI_put (sh_11_2 hx0)) (fun v3 => ?_)
      refine lg (gR_11_2 hx0) ?_
      refine lb (rI_put (sh_11_2 hx0)) (fun v4 => ?_)
      refine li (fun _ => ?_) (fun _ => ?_)
      · refine li (fun _ => ?_) (fun _ => ?_)
        · refine lg (gR_11_22 hx0) ?_
          refine lb (rZb_put (sh_11_22 hx0)) (fun v28 => ?_)
          refine li (fun _ => ?_) (fun _ => ?_)
          · exact ih _ _ _ _ _ _ _ hx0
          · refine lg (gR_11_21 hx0) ?_
            refine lg (gR_11_21 hx0) ?_
            refine lb (rL_put (sh_11_21 hx0)) (fun v29 => ?_)
            refine lm (wL_put (sh_11_21 hx0)) (fun r30 => ?_)
            exact ih _ _ _ _ _ _ _ hx0
        · refine li (fun _ => ?_) (fun _ => ?_)
          · refine li (fun _ => ?_) (fun _ => ?_)
            · refine li (fun _ => ?_) (fun _ => ?_)
              · refine li (fun _ => ?_) (fun _ => ?_)
                · refine lg (gR_11_22 hx0) ?_
                  refine lg (gR_11_22 hx0) ?_
                  refine lb (rZb_put (sh_11_22 hx0)) (fun v9 => ?_)
                  refine li (fun _ => ?_) (fun _ => ?_)
                  · refine lm (wZ_put (sh_11_22 hx0)) (fun r10 => ?_)
                    exact ih _ _ _ _ _ _ _ hx0
                  · refine lm (wZ_put (sh_11_22 hx0)) (fun r11 => ?_)
                    exact ih _ _ _ _ _ _ _ hx0
                · refine lg (gR_11_22 hx0) ?_
                  refine lg (gR_11_22 hx0) ?_
                  refine lb (rZb_put (sh_11_22 hx0)) (fun v5 => ?_)
                  refine lg (gR_11_22 hx0) ?_
                  refine lb (rZb_put (sh_11_22 hx0)) (fun v6 => ?_)
                  refine lb (rfl) (fun v7 => ?_)
                  refine lm (wZ_put (sh_11_22 hx0)) (fun r8 => ?_)
                  exact ih _ _ _ _ _ _ _ hx0
              · refine lg (gR_11_22 hx0) ?_
                refine lg (gR_11_21 hx0) ?_
                refine lb (rL_put (sh_11_21 hx0)) (fun v12 => ?_)
                refine lg (gR_11_21 hx0) ?_
                refine lb (rL_put (sh_11_21 hx0)) (fun v13 => ?_)
                refine lb (rfl) (fun v14 => ?_)
                refine lm (wZ_put (sh_11_22 hx0)) (fun r15 => ?_)
                exact ih _ _ _ _ _ _ _ hx0
            · refine lg (gR_11_21 hx0) ?_
              refine lg (gR_11_21 hx0) ?_
              refine lb (rL_put (sh_11_21 hx0)) (fun v16 => ?_)
              refine lg (gR_11_21 hx0) ?_
              refine lb (rL_put (sh_11_21 hx0)) (fun v17 => ?_)
              refine lb (rfl) (fun v18 => ?_)
              refine lm (wL_put (sh_11_21 hx0)) (fun r19 => ?_)
              exact ih _ _ _ _ _ _ _ hx0
          · refine lg (gR_11_21 hx0) ?_
            refine li (fun _ => ?_) (fun _ => ?_)
            · refine lg (gR_11_21 hx0) ?_
              refine lb (rL_put (sh_11_21 hx0)) (fun v26 => ?_)
              refine lm (wL_put (sh_11_21 hx0)) (fun r27 => ?_)
              exact ih _ _ _ _ _ _ _ hx0
            · refine li (fun _ => ?_) (fun _ => ?_)
              · refine lg (gR_11_21 hx0) ?_
                refine lb (rL_put (sh_11_21 hx0)) (fun v23 => ?_)
                refine lb (l_X11_sumsOf hN hx0) (fun v24 => ?_)
                refine lm (wL_put (sh_11_21 hx0)) (fun r25 => ?_)
                exact ih _ _ _ _ _ _ _ hx0
              · refine lg (gR_11_21 hx0) ?_
                refine lb (rL_put (sh_11_21 hx0)) (fun v20 => ?_)
                refine lb (rfl) (fun v21 => ?_)
                refine lm (wL_put (sh_11_21 hx0)) (fun r22 => ?_)
                exact ih _ _ _ _ _ _ _ hx0
      · refine lg (gR_11_21 hx0) ?_
        refine li (fun _ => ?_) (fun _ => ?_)
        · refine lm (wL_put (sh_11_21 hx0)) (fun r33 => ?_)
          exact ih _ _ _ _ _ _ _ hx0
        · refine lg (gR_11_20 hx0) ?_
          refine lb (rI_put (sh_11_20 hx0)) (fun v31 => ?_)
          refine lm (wL_put (sh_11_21 hx0)) (fun r32 => ?_)
          exact ih _ _ _ _ _ _ _ hx0
noncomputable def g_X11_summedUp_0 (N : Mem) (x0 : Nat) (x1 : Int32) (x2 : Int32) (σ : ST) : Option (Int64 × ST) :=
  (xI 2820 σ (x0 + 3) ((((705 * x1) + 1) + (4 * x2)) + 1)).bind fun v34 =>
  g_X11_summedUp_38 N fu x0 (((705 * x1) + 1) + (4 * x2)) ((705 * x1) + 97) 0 0 v34 σ
set_option maxHeartbeats 4000000 in
theorem l_X11_summedUp_0 {N : Mem} {B : Nat} (hN : HN N B) : ∀ (x0 : Nat) (x1 : Int32) (x2 : Int32) (σ : ST), isC 11 x0 → f_X11_summedUp_0 (B + x0) x1 x2 (put N B σ) = (g_X11_summedUp_0 N x0 x1 x2 σ).bind (fun q => some (q.1, put N B q.2)) := by
  intro x0 x1 x2 σ hx0
  unfold f_X11_summedUp_0 g_X11_summedUp_0
  refine lg (gR_11_2 hx0) ?_
  refine lb (rI_put (sh_11_2 hx0)) (fun v34 => ?_)
  exact l_X11_summedUp_38 hN  _ _ _ _ _ _ _ _ hx0
noncomputable def g_X11_summedUp (N : Mem) (x0 : Nat) (x1 : Int32) (x2 : Int32) (σ : ST) : Option (Int64 × ST) := g_X11_summedUp_0 N x0 x1 x2 σ
theorem l_X11_summedUp {N : Mem} {B : Nat} (hN : HN N B) {x0 : Nat} {x1 : Int32} {x2 : Int32} {σ : ST} (hx0 : isC 11 x0) : f_X11_summedUp (B + x0) x1 x2 (put N B σ) = (g_X11_summedUp N x0 x1 x2 σ).bind (fun q => some (q.1, put N B q.2)) := by
  unfold f_X11_summedUp g_X11_summedUp
  rw [if_pos (isOb_put hx0)]
  exact l_X11_summedUp_0 hN _ _ _ _ hx0
noncomputable def g_X11_says_3 (N : Mem) (n0 : Nat) (x0 : Nat) (x1 : Int32) (x2 : Int32) (x3 : Int32) (x4 : Int32) (x5 : Int32) (σ : ST) : Option (Int32 × ST) :=
  match n0 with
  | 0 => none
  | n + 1 =>
    if x1 < 0 then
    ((f_X11_cut (Int32.toInt64 x3) 0 x4).bind fun v1 =>
    some (v1, σ))
    else
    ((xI 2820 σ (x0 + 3) (705 * x1)).bind fun v2 =>
    if v2 ≤ x5 then
    ((f_X11_cut (Int32.toInt64 x3) 0 x4).bind fun v3 =>
    some (v3, σ))
    else
    ((xI 2820 σ (x0 + 3) (((705 * x1) + 1) + (4 * x5))).bind fun v4 =>
    if v4 = x2 then
    ((g_X11_summedUp N x0 x1 x5 σ).bind fun r5 =>
    (f_X11_cut r5.1 0 x4).bind fun v6 =>
    some (v6, r5.2))
    else
    (g_X11_says_3 N n x0 x1 x2 x3 x4 (x5 + 1) σ)))
set_option maxHeartbeats 4000000 in
theorem l_X11_says_3 {N : Mem} {B : Nat} (hN : HN N B) : ∀ (n : Nat) (x0 : Nat) (x1 : Int32) (x2 : Int32) (x3 : Int32) (x4 : Int32) (x5 : Int32) (σ : ST), isC 11 x0 → f_X11_says_3 n (B + x0) x1 x2 x3 x4 x5 (put N B σ) = (g_X11_says_3 N n x0 x1 x2 x3 x4 x5 σ).bind (fun q => some (q.1, put N B q.2)) := by
  intro n
  induction n with
  | zero =>
    intro x0 x1 x2 x3 x4 x5 σ hx0
    rfl
  | succ n ih =>
    intro x0 x1 x2 x3 x4 x5 σ hx0
    unfold f_X11_says_3 g_X11_says_3
    refine li (fun _ => ?_) (fun _ => ?_)
    · refine lb (rfl) (fun v1 => ?_)
      rfl
    · refine lg (gR_11_2 hx0) ?_
      refine lb (rI_put (sh_11_2 hx0)) (fun v2 => ?_)
      refine li (fun _ => ?_) (fun _ => ?_)
      · refine lb (rfl) (fun v3 => ?_)
        rfl
      · refine lg (gR_11_2 hx0) ?_
        refine lb (rI_put (sh_11_2 hx0)) (fun v4 => ?_)
        refine li (fun _ => ?_) (fun _ => ?_)
        · refine lc (l_X11_summedUp hN hx0) (fun r5 => ?_)
          dsimp only
          refine lb (rfl) (fun v6 => ?_)
          rfl
        · exact ih _ _ _ _ _ _ _ hx0
noncomputable def g_X11_says_0 (N : Mem) (x0 : Nat) (x1 : Int32) (x2 : Int32) (x3 : Int32) (x4 : Int32) (σ : ST) : Option (Int32 × ST) :=
  g_X11_says_3 N fu x0 x1 x2 x3 x4 0 σ
set_option maxHeartbeats 4000000 in
theorem l_X11_says_0 {N : Mem} {B : Nat} (hN : HN N B) : ∀ (x0 : Nat) (x1 : Int32) (x2 : Int32) (x3 : Int32) (x4 : Int32) (σ : ST), isC 11 x0 → f_X11_says_0 (B + x0) x1 x2 x3 x4 (put N B σ) = (g_X11_says_0 N x0 x1 x2 x3 x4 σ).bind (fun q => some (q.1, put N B q.2)) := by
  intro x0 x1 x2 x3 x4 σ hx0
  unfold f_X11_says_0 g_X11_says_0
  exact l_X11_says_3 hN  _ _ _ _ _ _ _ _ hx0
noncomputable def g_X11_says (N : Mem) (x0 : Nat) (x1 : Int32) (x2 : Int32) (x3 : Int32) (x4 : Int32) (σ : ST) : Option (Int32 × ST) := g_X11_says_0 N x0 x1 x2 x3 x4 σ
theorem l_X11_says {N : Mem} {B : Nat} (hN : HN N B) {x0 : Nat} {x1 : Int32} {x2 : Int32} {x3 : Int32} {x4 : Int32} {σ : ST} (hx0 : isC 11 x0) : f_X11_says (B + x0) x1 x2 x3 x4 (put N B σ) = (g_X11_says N x0 x1 x2 x3 x4 σ).bind (fun q => some (q.1, put N B q.2)) := by
  unfold f_X11_says g_X11_says
  rw [if_pos (isOb_put hx0)]
  exact l_X11_says_0 hN _ _ _ _ _ _ hx0
noncomputable def g_X11_name_0 (N : Mem) (x0 : Nat) (x1 : Int32) (σ : ST) : Option (ST) :=
  (xI 4607 σ (x0 + 1) 8).bind fun v1 =>
  (yI 8 σ (x0 + 6) 0 v1).bind fun r2 =>
  (g_X11_get N x0 x1 16 r2).bind fun v3 =>
  (yI 8 r2 (x0 + 6) 1 v3).bind fun r4 =>
  (g_X11_get N x0 x1 0 r4).bind fun v5 =>
  (yI 8 r4 (x0 + 6) 2 v5).bind fun r6 =>
  (g_X11_get N x0 x1 1 r6).bind fun v7 =>
  (yI 8 r6 (x0 + 6) 3 v7).bind fun r8 =>
  (g_X11_get N x0 x1 2 r8).bind fun v9 =>
  (yI 8 r8 (x0 + 6) 4 v9).bind fun r10 =>
  (yI 8 r10 (x0 + 6) 5 x1).bind fun r11 =>
  (g_X11_get N x0 x1 3 r11).bind fun v12 =>
  (yI 8 r11 (x0 + 6) 6 v12).bind fun r13 =>
  (g_X11_get N x0 x1 3 r13).bind fun v14 =>
  (g_X11_get N x0 x1 2 r13).bind fun v15 =>
  (f_X11_longOf v15).bind fun v16 =>
  if v14 = v16 then
  ((yI 8 r13 (x0 + 6) 7 1).bind fun r18 =>
  some r18)
  else
  ((yI 8 r13 (x0 + 6) 7 0).bind fun r17 =>
  some r17)
set_option maxHeartbeats 4000000 in
theorem l_X11_name_0 {N : Mem} {B : Nat} (hN : HN N B) : ∀ (x0 : Nat) (x1 : Int32) (σ : ST), isC 11 x0 → f_X11_name_0 (B + x0) x1 (put N B σ) = (g_X11_name_0 N x0 x1 σ).bind (fun q => some (put N B q)) := by
  intro x0 x1 σ hx0
  unfold f_X11_name_0 g_X11_name_0
  refine lg (gR_11_20 hx0) ?_
  refine lg (gR_11_0 hx0) ?_
  refine lb (rI_put (sh_11_0 hx0)) (fun v1 => ?_)
  refine lm (wI_put (sh_11_20 hx0)) (fun r2 => ?_)
  refine lg (gR_11_20 hx0) ?_
  refine lb (l_X11_get hN hx0) (fun v3 => ?_)
  refine lm (wI_put (sh_11_20 hx0)) (fun r4 => ?_)
  refine lg (gR_11_20 hx0) ?_
  refine lb (l_X11_get hN hx0) (fun v5 => ?_)
  refine lm (wI_put (sh_11_20 hx0)) (fun r6 => ?_)
  refine lg (gR_11_20 hx0) ?_
  refine lb (l_X11_get hN hx0) (fun v7 => ?_)
  refine lm (wI_put (sh_11_20 hx0)) (fun r8 => ?_)
  refine lg (gR_11_20 hx0) ?_
  refine lb (l_X11_get hN hx0) (fun v9 => ?_)
  refine lm (wI_put (sh_11_20 hx0)) (fun r10 => ?_)
  refine lg (gR_11_20 hx0) ?_
  refine lm (wI_put (sh_11_20 hx0)) (fun r11 => ?_)
  refine lg (gR_11_20 hx0) ?_
  refine lb (l_X11_get hN hx0) (fun v12 => ?_)
  refine lm (wI_put (sh_11_20 hx0)) (fun r13 => ?_)
  refine lg (gR_11_20 hx0) ?_
  refine lb (l_X11_get hN hx0) (fun v14 => ?_)
  refine lb (l_X11_get hN hx0) (fun v15 => ?_)
  refine lb (rfl) (fun v16 => ?_)
  refine li (fun _ => ?_) (fun _ => ?_)
  · refine lm (wI_put (sh_11_20 hx0)) (fun r18 => ?_)
    rfl
  · refine lm (wI_put (sh_11_20 hx0)) (fun r17 => ?_)
    rfl
noncomputable def g_X11_name (N : Mem) (x0 : Nat) (x1 : Int32) (σ : ST) : Option (ST) := g_X11_name_0 N x0 x1 σ
theorem l_X11_name {N : Mem} {B : Nat} (hN : HN N B) {x0 : Nat} {x1 : Int32} {σ : ST} (hx0 : isC 11 x0) : f_X11_name (B + x0) x1 (put N B σ) = (g_X11_name N x0 x1 σ).map (put N B) := by
  unfold f_X11_name g_X11_name
  rw [if_pos (isOb_put hx0)]
  exact lmap (l_X11_name_0 hN _ _ _ hx0)
noncomputable def g_X11_looseOf_0 (N : Mem) (x0 : Nat) (x1 : Int32) (x2 : Int32) (σ : ST) : Option (Int32 × ST) :=
  (g_X11_name N x0 x2 σ).bind fun r1 =>
  (xI 8 r1 (x0 + 6) 3).bind fun v2 =>
  (xI 8 r1 (x0 + 6) 1).bind fun v3 =>
  (g_X11_says N x0 x1 0 (v2 - (v3 / 3)) 10 r1).bind fun r4 =>
  some (r4.1, r4.2)
set_option maxHeartbeats 4000000 in
theorem l_X11_looseOf_0 {N : Mem} {B : Nat} (hN : HN N B) : ∀ (x0 : Nat) (x1 : Int32) (x2 : Int32) (σ : ST), isC 11 x0 → f_X11_looseOf_0 (B + x0) x1 x2 (put N B σ) = (g_X11_looseOf_0 N x0 x1 x2 σ).bind (fun q => some (q.1, put N B q.2)) := by
  intro x0 x1 x2 σ hx0
  unfold f_X11_looseOf_0 g_X11_looseOf_0
  refine lm (l_X11_name hN hx0) (fun r1 => ?_)
  refine lg (gR_11_20 hx0) ?_
  refine lb (rI_put (sh_11_20 hx0)) (fun v2 => ?_)
  refine lg (gR_11_20 hx0) ?_
  refine lb (rI_put (sh_11_20 hx0)) (fun v3 => ?_)
  refine lc (l_X11_says hN hx0) (fun r4 => ?_)
  dsimp only
  rfl
noncomputable def g_X11_looseOf (N : Mem) (x0 : Nat) (x1 : Int32) (x2 : Int32) (σ : ST) : Option (Int32 × ST) := g_X11_looseOf_0 N x0 x1 x2 σ
theorem l_X11_looseOf {N : Mem} {B : Nat} (hN : HN N B) {x0 : Nat} {x1 : Int32} {x2 : Int32} {σ : ST} (hx0 : isC 11 x0) : f_X11_looseOf (B + x0) x1 x2 (put N B σ) = (g_X11_looseOf N x0 x1 x2 σ).bind (fun q => some (q.1, put N B q.2)) := by
  unfold f_X11_looseOf g_X11_looseOf
  rw [if_pos (isOb_put hx0)]
  exact l_X11_looseOf_0 hN _ _ _ _ hx0
noncomputable def g_X11_believesOf_0 (N : Mem) (x0 : Nat) (x1 : Int32) (σ : ST) : Option (Int32 × ST) :=
  (g_X11_name N x0 x1 σ).bind fun r1 =>
  (xI 4607 r1 (x0 + 1) 2).bind fun v2 =>
  (g_X11_says N x0 v2 1 2 10 r1).bind fun r3 =>
  some (r3.1, r3.2)
set_option maxHeartbeats 4000000 in
theorem l_X11_believesOf_0 {N : Mem} {B : Nat} (hN : HN N B) : ∀ (x0 : Nat) (x1 : Int32) (σ : ST), isC 11 x0 → f_X11_believesOf_0 (B + x0) x1 (put N B σ) = (g_X11_believesOf_0 N x0 x1 σ).bind (fun q => some (q.1, put N B q.2)) := by
  intro x0 x1 σ hx0
  unfold f_X11_believesOf_0 g_X11_believesOf_0
  refine lm (l_X11_name hN hx0) (fun r1 => ?_)
  refine lg (gR_11_0 hx0) ?_
  refine lb (rI_put (sh_11_0 hx0)) (fun v2 => ?_)
  refine lc (l_X11_says hN hx0) (fun r3 => ?_)
  dsimp only
  rfl
noncomputable def g_X11_believesOf (N : Mem) (x0 : Nat) (x1 : Int32) (σ : ST) : Option (Int32 × ST) := g_X11_believesOf_0 N x0 x1 σ
theorem l_X11_believesOf {N : Mem} {B : Nat} (hN : HN N B) {x0 : Nat} {x1 : Int32} {σ : ST} (hx0 : isC 11 x0) : f_X11_believesOf (B + x0) x1 (put N B σ) = (g_X11_believesOf N x0 x1 σ).bind (fun q => some (q.1, put N B q.2)) := by
  unfold f_X11_believesOf g_X11_believesOf
  rw [if_pos (isOb_put hx0)]
  exact l_X11_believesOf_0 hN _ _ _ hx0
noncomputable def g_X11_wearsOf_0 (N : Mem) (x0 : Nat) (x1 : Int32) (σ : ST) : Option (Int32 × ST) :=
  (g_X11_name N x0 x1 σ).bind fun r1 =>
  (xI 4607 r1 (x0 + 1) 2).bind fun v2 =>
  (xI 8 r1 (x0 + 6) 3).bind fun v3 =>
  if v3 = 0 then
  ((g_X11_says N x0 v2 2 1 9 r1).bind fun r5 =>
  some (r5.1, r5.2))
  else
  ((g_X11_says N x0 v2 2 0 9 r1).bind fun r4 =>
  some (r4.1, r4.2))
set_option maxHeartbeats 4000000 in
theorem l_X11_wearsOf_0 {N : Mem} {B : Nat} (hN : HN N B) : ∀ (x0 : Nat) (x1 : Int32) (σ : ST), isC 11 x0 → f_X11_wearsOf_0 (B + x0) x1 (put N B σ) = (g_X11_wearsOf_0 N x0 x1 σ).bind (fun q => some (q.1, put N B q.2)) := by
  intro x0 x1 σ hx0
  unfold f_X11_wearsOf_0 g_X11_wearsOf_0
  refine lm (l_X11_name hN hx0) (fun r1 => ?_)
  refine lg (gR_11_0 hx0) ?_
  refine lb (rI_put (sh_11_0 hx0)) (fun v2 => ?_)
  refine lg (gR_11_20 hx0) ?_
  refine lb (rI_put (sh_11_20 hx0)) (fun v3 => ?_)
  refine li (fun _ => ?_) (fun _ => ?_)
  · refine lc (l_X11_says hN hx0) (fun r5 => ?_)
    dsimp only
    rfl
  · refine lc (l_X11_says hN hx0) (fun r4 => ?_)
    dsimp only
    rfl
noncomputable def g_X11_wearsOf (N : Mem) (x0 : Nat) (x1 : Int32) (σ : ST) : Option (Int32 × ST) := g_X11_wearsOf_0 N x0 x1 σ
theorem l_X11_wearsOf {N : Mem} {B : Nat} (hN : HN N B) {x0 : Nat} {x1 : Int32} {σ : ST} (hx0 : isC 11 x0) : f_X11_wearsOf (B + x0) x1 (put N B σ) = (g_X11_wearsOf N x0 x1 σ).bind (fun q => some (q.1, put N B q.2)) := by
  unfold f_X11_wearsOf g_X11_wearsOf
  rw [if_pos (isOb_put hx0)]
  exact l_X11_wearsOf_0 hN _ _ _ hx0
noncomputable def g_X11_write_71 (N : Mem) (x0 : Nat) (x1 : Int32) (x2 : Int32) (x3 : Int32) (σ : ST) : Option (ST) :=
  (xI 4607 σ (x0 + 1) 10).bind fun v1 =>
  (xI 4607 σ (x0 + 1) 8).bind fun v2 =>
  (yI 4607 σ (x0 + 1) (4547 + (2 * v1)) ((v2 * 8) + x1)).bind fun r3 =>
  (xI 4607 r3 (x0 + 1) 10).bind fun v4 =>
  (yI 4607 r3 (x0 + 1) ((4547 + (2 * v4)) + 1) ((x2 * 10000) + x3)).bind fun r5 =>
  (xI 4607 r5 (x0 + 1) 10).bind fun v6 =>
  (yI 4607 r5 (x0 + 1) 10 (v6 + 1)).bind fun r7 =>
  some r7
set_option maxHeartbeats 4000000 in
theorem l_X11_write_71 {N : Mem} {B : Nat} (hN : HN N B) : ∀ (x0 : Nat) (x1 : Int32) (x2 : Int32) (x3 : Int32) (σ : ST), isC 11 x0 → f_X11_write_71 (B + x0) x1 x2 x3 (put N B σ) = (g_X11_write_71 N x0 x1 x2 x3 σ).bind (fun q => some (put N B q)) := by
  intro x0 x1 x2 x3 σ hx0
  unfold f_X11_write_71 g_X11_write_71
  refine lg (gR_11_0 hx0) ?_
  refine lg (gR_11_0 hx0) ?_
  refine lb (rI_put (sh_11_0 hx0)) (fun v1 => ?_)
  refine lg (gR_11_0 hx0) ?_
  refine lb (rI_put (sh_11_0 hx0)) (fun v2 => ?_)
  refine lm (wI_put (sh_11_0 hx0)) (fun r3 => ?_)
  refine lg (gR_11_0 hx0) ?_
  refine lg (gR_11_0 hx0) ?_
  refine lb (rI_put (sh_11_0 hx0)) (fun v4 => ?_)
  refine lm (wI_put (sh_11_0 hx0)) (fun r5 => ?_)
  refine lg (gR_11_0 hx0) ?_
  refine lb (rI_put (sh_11_0 hx0)) (fun v6 => ?_)
  refine lm (wI_put (sh_11_0 hx0)) (fun r7 => ?_)
  rfl
noncomputable def g_X11_write_23 (N : Mem) (n0 : Nat) (x0 : Nat) (x1 : Int32) (x2 : Int32) (x3 : Int32) (x4 : Int32) (σ : ST) : Option (ST) :=
  match n0 with
  | 0 => none
  | n + 1 =>
    if 60 ≤ x4 then
    ((xI 4607 σ (x0 + 1) 10).bind fun v8 =>
    (yI 4607 σ (x0 + 1) 10 (v8 - 1)).bind fun r9 =>
    g_X11_write_71 N x0 x1 x2 x3 r9)
    else
    ((xI 4607 σ (x0 + 1) (4547 + x4)).bind fun v10 =>
    (yI 4607 σ (x0 + 1) ((4547 + x4) - 2) v10).bind fun r11 =>
    g_X11_write_23 N n x0 x1 x2 x3 (x4 + 1) r11)
set_option maxHeartbeats 4000000 in
theorem l_X11_write_23 {N : Mem} {B : Nat} (hN : HN N B) : ∀ (n : Nat) (x0 : Nat) (x1 : Int32) (x2 : Int32) (x3 : Int32) (x4 : Int32) (σ : ST), isC 11 x0 → f_X11_write_23 n (B + x0) x1 x2 x3 x4 (put N B σ) = (g_X11_write_23 N n x0 x1 x2 x3 x4 σ).bind (fun q => some (put N B q)) := by
  intro n
  induction n with
  | zero =>
    intro x0 x1 x2 x3 x4 σ hx0
    rfl
  | succ n ih =>
    intro x0 x1 x2 x3 x4 σ hx0
    unfold f_X11_write_23 g_X11_write_23
    refine li (fun _ => ?_) (fun _ => ?_)
    · refine lg (gR_11_0 hx0) ?_
      refine lb (rI_put (sh_11_0 hx0)) (fun v8 => ?_)
      refine lm (wI_put (sh_11_0 hx0)) (fun r9 => ?_)
      exact l_X11_write_71 hN  _ _ _ _ _ hx0
    · refine lg (gR_11_0 hx0) ?_
      refine lg (gR_11_0 hx0) ?_
      refine lb (rI_put (sh_11_0 hx0)) (fun v10 => ?_)
      refine lm (wI_put (sh_11_0 hx0)) (fun r11 => ?_)
      exact ih _ _ _ _ _ _ hx0
noncomputable def g_X11_write_0 (N : Mem) (x0 : Nat) (x1 : Int32) (x2 : Int32) (x3 : Int32) (σ : ST) : Option (ST) :=
  (zb (σ.1 x0 23)).bind fun v12 =>
  if v12 = true then
  ((xI 4607 σ (x0 + 1) 10).bind fun v13 =>
  if v13 = 30 then
  (g_X11_write_23 N fu x0 x1 x2 x3 2 σ)
  else
  (g_X11_write_71 N x0 x1 x2 x3 σ))
  else
  (some σ)
set_option maxHeartbeats 4000000 in
theorem l_X11_write_0 {N : Mem} {B : Nat} (hN : HN N B) : ∀ (x0 : Nat) (x1 : Int32) (x2 : Int32) (x3 : Int32) (σ : ST), isC 11 x0 → f_X11_write_0 (B + x0) x1 x2 x3 (put N B σ) = (g_X11_write_0 N x0 x1 x2 x3 σ).bind (fun q => some (put N B q)) := by
  intro x0 x1 x2 x3 σ hx0
  unfold f_X11_write_0 g_X11_write_0
  refine lb (gZ_11_23 hx0) (fun v12 => ?_)
  refine li (fun _ => ?_) (fun _ => ?_)
  · refine lg (gR_11_0 hx0) ?_
    refine lb (rI_put (sh_11_0 hx0)) (fun v13 => ?_)
    refine li (fun _ => ?_) (fun _ => ?_)
    · exact l_X11_write_23 hN  _ _ _ _ _ _ _ hx0
    · exact l_X11_write_71 hN  _ _ _ _ _ hx0
  · rfl
noncomputable def g_X11_write (N : Mem) (x0 : Nat) (x1 : Int32) (x2 : Int32) (x3 : Int32) (σ : ST) : Option (ST) := g_X11_write_0 N x0 x1 x2 x3 σ
theorem l_X11_write {N : Mem} {B : Nat} (hN : HN N B) {x0 : Nat} {x1 : Int32} {x2 : Int32} {x3 : Int32} {σ : ST} (hx0 : isC 11 x0) : f_X11_write (B + x0) x1 x2 x3 (put N B σ) = (g_X11_write N x0 x1 x2 x3 σ).map (put N B) := by
  unfold f_X11_write g_X11_write
  rw [if_pos (isOb_put hx0)]
  exact lmap (l_X11_write_0 hN _ _ _ _ _ hx0)
noncomputable def g_X11_anew_0 (N : Mem) (x0 : Nat) (σ : ST) : Option (ST) :=
  (xI 4607 σ (x0 + 1) 9).bind fun v1 =>
  (yI 4607 σ (x0 + 1) 9 (Int64.toInt32 (jremL (((Int32.toInt64 v1) * 433) + 313) 30557))).bind fun r2 =>
  some r2
set_option maxHeartbeats 4000000 in
theorem l_X11_anew_0 {N : Mem} {B : Nat} (hN : HN N B) : ∀ (x0 : Nat) (σ : ST), isC 11 x0 → f_X11_anew_0 (B + x0) (put N B σ) = (g_X11_anew_0 N x0 σ).bind (fun q => some (put N B q)) := by
  intro x0 σ hx0
  unfold f_X11_anew_0 g_X11_anew_0
  refine lg (gR_11_0 hx0) ?_
  refine lg (gR_11_0 hx0) ?_
  refine lb (rI_put (sh_11_0 hx0)) (fun v1 => ?_)
  refine lm (wI_put (sh_11_0 hx0)) (fun r2 => ?_)
  rfl
noncomputable def g_X11_anew (N : Mem) (x0 : Nat) (σ : ST) : Option (ST) := g_X11_anew_0 N x0 σ
theorem l_X11_anew {N : Mem} {B : Nat} (hN : HN N B) {x0 : Nat} {σ : ST} (hx0 : isC 11 x0) : f_X11_anew (B + x0) (put N B σ) = (g_X11_anew N x0 σ).map (put N B) := by
  unfold f_X11_anew g_X11_anew
  rw [if_pos (isOb_put hx0)]
  exact lmap (l_X11_anew_0 hN _ _ hx0)
noncomputable def g_X11_drawn_0 (N : Mem) (x0 : Nat) (σ : ST) : Option (Int32 × ST) :=
  (xI 4607 σ (x0 + 1) 9).bind fun v1 =>
  (g_X11_anew N x0 σ).bind fun r2 =>
  some ((jrem v1 10), r2)
set_option maxHeartbeats 4000000 in
theorem l_X11_drawn_0 {N : Mem} {B : Nat} (hN : HN N B) : ∀ (x0 : Nat) (σ : ST), isC 11 x0 → f_X11_drawn_0 (B + x0) (put N B σ) = (g_X11_drawn_0 N x0 σ).bind (fun q => some (q.1, put N B q.2)) := by
  intro x0 σ hx0
  unfold f_X11_drawn_0 g_X11_drawn_0
  refine lg (gR_11_0 hx0) ?_
  refine lb (rI_put (sh_11_0 hx0)) (fun v1 => ?_)
  refine lm (l_X11_anew hN hx0) (fun r2 => ?_)
  rfl
noncomputable def g_X11_drawn (N : Mem) (x0 : Nat) (σ : ST) : Option (Int32 × ST) := g_X11_drawn_0 N x0 σ
theorem l_X11_drawn {N : Mem} {B : Nat} (hN : HN N B) {x0 : Nat} {σ : ST} (hx0 : isC 11 x0) : f_X11_drawn (B + x0) (put N B σ) = (g_X11_drawn N x0 σ).bind (fun q => some (q.1, put N B q.2)) := by
  unfold f_X11_drawn g_X11_drawn
  rw [if_pos (isOb_put hx0)]
  exact l_X11_drawn_0 hN _ _ hx0
noncomputable def g_X11_roll_2 (N : Mem) (n0 : Nat) (x0 : Nat) (x1 : Int32) (x2 : Int32) (x3 : Int32) (σ : ST) : Option (ST) :=
  match n0 with
  | 0 => none
  | n + 1 =>
    (f_X11_wordLong x2).bind fun v1 =>
    if v1 ≤ x3 then
    (some σ)
    else
    ((g_X11_get N x0 x1 3 σ).bind fun v2 =>
    if v2 = 12 then
    (some σ)
    else
    ((g_X11_get N x0 x1 3 σ).bind fun v3 =>
    (f_X11_wordDigit x2 x3).bind fun v4 =>
    (g_X11_lay N x0 x1 (4 + v3) v4 σ).bind fun r5 =>
    (g_X11_get N x0 x1 3 r5).bind fun v6 =>
    (g_X11_lay N x0 x1 3 (v6 + 1) r5).bind fun r7 =>
    g_X11_roll_2 N n x0 x1 x2 (x3 + 1) r7))
set_option maxHeartbeats 4000000 in
theorem l_X11_roll_2 {N : Mem} {B : Nat} (hN : HN N B) : ∀ (n : Nat) (x0 : Nat) (x1 : Int32) (x2 : Int32) (x3 : Int32) (σ : ST), isC 11 x0 → f_X11_roll_2 n (B + x0) x1 x2 x3 (put N B σ) = (g_X11_roll_2 N n x0 x1 x2 x3 σ).bind (fun q => some (put N B q)) := by
  intro n
  induction n with
  | zero =>
    intro x0 x1 x2 x3 σ hx0
    rfl
  | succ n ih =>
    intro x0 x1 x2 x3 σ hx0
    unfold f_X11_roll_2 g_X11_roll_2
    refine lb (rfl) (fun v1 => ?_)
    refine li (fun _ => ?_) (fun _ => ?_)
    · rfl
    · refine lb (l_X11_get hN hx0) (fun v2 => ?_)
      refine li (fun _ => ?_) (fun _ => ?_)
      · rfl
      · refine lb (l_X11_get hN hx0) (fun v3 => ?_)
        refine lb (rfl) (fun v4 => ?_)
        refine lm (l_X11_lay hN hx0) (fun r5 => ?_)
        refine lb (l_X11_get hN hx0) (fun v6 => ?_)
        refine lm (l_X11_lay hN hx0) (fun r7 => ?_)
        exact ih _ _ _ _ _ hx0
noncomputable def g_X11_roll_0 (N : Mem) (x0 : Nat) (x1 : Int32) (x2 : Int32) (σ : ST) : Option (ST) :=
  g_X11_roll_2 N fu x0 x1 x2 0 σ
set_option maxHeartbeats 4000000 in
theorem l_X11_roll_0 {N : Mem} {B : Nat} (hN : HN N B) : ∀ (x0 : Nat) (x1 : Int32) (x2 : Int32) (σ : ST), isC 11 x0 → f_X11_roll_0 (B + x0) x1 x2 (put N B σ) = (g_X11_roll_0 N x0 x1 x2 σ).bind (fun q => some (put N B q)) := by
  intro x0 x1 x2 σ hx0
  unfold f_X11_roll_0 g_X11_roll_0
  exact l_X11_roll_2 hN  _ _ _ _ _ _ hx0
noncomputable def g_X11_roll (N : Mem) (x0 : Nat) (x1 : Int32) (x2 : Int32) (σ : ST) : Option (ST) := g_X11_roll_0 N x0 x1 x2 σ
theorem l_X11_roll {N : Mem} {B : Nat} (hN : HN N B) {x0 : Nat} {x1 : Int32} {x2 : Int32} {σ : ST} (hx0 : isC 11 x0) : f_X11_roll (B + x0) x1 x2 (put N B σ) = (g_X11_roll N x0 x1 x2 σ).map (put N B) := by
  unfold f_X11_roll g_X11_roll
  rw [if_pos (isOb_put hx0)]
  exact lmap (l_X11_roll_0 hN _ _ _ _ hx0)
noncomputable def g_X11_numberOfRoll_25 (N : Mem) (n0 : Nat) (x0 : Nat) (x1 : Int32) (x2 : Int32) (x3 : Int32) (σ : ST) : Option (Int32) :=
  match n0 with
  | 0 => none
  | n + 1 =>
    (g_X11_get N x0 x1 3 σ).bind fun v1 =>
    if v1 ≤ x3 then
    (some x2)
    else
    ((g_X11_get N x0 x1 (4 + x3) σ).bind fun v2 =>
    g_X11_numberOfRoll_25 N n x0 x1 ((10 * x2) + v2) (x3 + 1) σ)
set_option maxHeartbeats 4000000 in
theorem l_X11_numberOfRoll_25 {N : Mem} {B : Nat} (hN : HN N B) : ∀ (n : Nat) (x0 : Nat) (x1 : Int32) (x2 : Int32) (x3 : Int32) (σ : ST), isC 11 x0 → f_X11_numberOfRoll_25 n (B + x0) x1 x2 x3 (put N B σ) = (g_X11_numberOfRoll_25 N n x0 x1 x2 x3 σ).bind some := by
  intro n
  induction n with
  | zero =>
    intro x0 x1 x2 x3 σ hx0
    rfl
  | succ n ih =>
    intro x0 x1 x2 x3 σ hx0
    unfold f_X11_numberOfRoll_25 g_X11_numberOfRoll_25
    refine lb (l_X11_get hN hx0) (fun v1 => ?_)
    refine li (fun _ => ?_) (fun _ => ?_)
    · rfl
    · refine lb (l_X11_get hN hx0) (fun v2 => ?_)
      exact ih _ _ _ _ _ hx0
noncomputable def g_X11_numberOfRoll_24 (N : Mem) (x0 : Nat) (x1 : Int32) (x2 : Bool) (s0 : Int32) (σ : ST) : Option (Int32) :=
  g_X11_numberOfRoll_25 N fu x0 x1 (jz x2) s0 σ
set_option maxHeartbeats 4000000 in
theorem l_X11_numberOfRoll_24 {N : Mem} {B : Nat} (hN : HN N B) : ∀ (x0 : Nat) (x1 : Int32) (x2 : Bool) (s0 : Int32) (σ : ST), isC 11 x0 → f_X11_numberOfRoll_24 (B + x0) x1 x2 s0 (put N B σ) = (g_X11_numberOfRoll_24 N x0 x1 x2 s0 σ).bind some := by
  intro x0 x1 x2 s0 σ hx0
  unfold f_X11_numberOfRoll_24 g_X11_numberOfRoll_24
  exact l_X11_numberOfRoll_25 hN  _ _ _ _ _ _ hx0
noncomputable def g_X11_numberOfRoll_0 (N : Mem) (x0 : Nat) (x1 : Int32) (σ : ST) : Option (Int32) :=
  (g_X11_get N x0 x1 3 σ).bind fun v3 =>
  if v3 ≤ 4 then
  (g_X11_numberOfRoll_24 N x0 x1 false 0 σ)
  else
  ((g_X11_get N x0 x1 3 σ).bind fun v4 =>
  g_X11_numberOfRoll_24 N x0 x1 false (v4 - 4) σ)
set_option maxHeartbeats 4000000 in
theorem l_X11_numberOfRoll_0 {N : Mem} {B : Nat} (hN : HN N B) : ∀ (x0 : Nat) (x1 : Int32) (σ : ST), isC 11 x0 → f_X11_numberOfRoll_0 (B + x0) x1 (put N B σ) = (g_X11_numberOfRoll_0 N x0 x1 σ).bind some := by
  intro x0 x1 σ hx0
  unfold f_X11_numberOfRoll_0 g_X11_numberOfRoll_0
  refine lb (l_X11_get hN hx0) (fun v3 => ?_)
  refine li (fun _ => ?_) (fun _ => ?_)
  · exact l_X11_numberOfRoll_24 hN  _ _ _ _ _ hx0
  · refine lb (l_X11_get hN hx0) (fun v4 => ?_)
    exact l_X11_numberOfRoll_24 hN  _ _ _ _ _ hx0
noncomputable def g_X11_numberOfRoll (N : Mem) (x0 : Nat) (x1 : Int32) (σ : ST) : Option (Int32) := g_X11_numberOfRoll_0 N x0 x1 σ
theorem l_X11_numberOfRoll {N : Mem} {B : Nat} (hN : HN N B) {x0 : Nat} {x1 : Int32} {σ : ST} (hx0 : isC 11 x0) : f_X11_numberOfRoll (B + x0) x1 (put N B σ) = g_X11_numberOfRoll N x0 x1 σ := by
  unfold f_X11_numberOfRoll g_X11_numberOfRoll
  rw [if_pos (isOb_put hx0)]
  exact lsm (l_X11_numberOfRoll_0 hN _ _ _ hx0)
noncomputable def g_X11_clearRoll_2 (N : Mem) (n0 : Nat) (x0 : Nat) (x1 : Int32) (x2 : Int32) (σ : ST) : Option (ST) :=
  match n0 with
  | 0 => none
  | n + 1 =>
    if 16 ≤ x2 then
    (some σ)
    else
    ((g_X11_lay N x0 x1 x2 0 σ).bind fun r1 =>
    g_X11_clearRoll_2 N n x0 x1 (x2 + 1) r1)
set_option maxHeartbeats 4000000 in
theorem l_X11_clearRoll_2 {N : Mem} {B : Nat} (hN : HN N B) : ∀ (n : Nat) (x0 : Nat) (x1 : Int32) (x2 : Int32) (σ : ST), isC 11 x0 → f_X11_clearRoll_2 n (B + x0) x1 x2 (put N B σ) = (g_X11_clearRoll_2 N n x0 x1 x2 σ).bind (fun q => some (put N B q)) := by
  intro n
  induction n with
  | zero =>
    intro x0 x1 x2 σ hx0
    rfl
  | succ n ih =>
    intro x0 x1 x2 σ hx0
    unfold f_X11_clearRoll_2 g_X11_clearRoll_2
    refine li (fun _ => ?_) (fun _ => ?_)
    · rfl
    · refine lm (l_X11_lay hN hx0) (fun r1 => ?_)
      exact ih _ _ _ _ hx0
noncomputable def g_X11_clearRoll_0 (N : Mem) (x0 : Nat) (x1 : Int32) (σ : ST) : Option (ST) :=
  g_X11_clearRoll_2 N fu x0 x1 3 σ
set_option maxHeartbeats 4000000 in
theorem l_X11_clearRoll_0 {N : Mem} {B : Nat} (hN : HN N B) : ∀ (x0 : Nat) (x1 : Int32) (σ : ST), isC 11 x0 → f_X11_clearRoll_0 (B + x0) x1 (put N B σ) = (g_X11_clearRoll_0 N x0 x1 σ).bind (fun q => some (put N B q)) := by
  intro x0 x1 σ hx0
  unfold f_X11_clearRoll_0 g_X11_clearRoll_0
  exact l_X11_clearRoll_2 hN  _ _ _ _ _ hx0
noncomputable def g_X11_clearRoll (N : Mem) (x0 : Nat) (x1 : Int32) (σ : ST) : Option (ST) := g_X11_clearRoll_0 N x0 x1 σ
theorem l_X11_clearRoll {N : Mem} {B : Nat} (hN : HN N B) {x0 : Nat} {x1 : Int32} {σ : ST} (hx0 : isC 11 x0) : f_X11_clearRoll (B + x0) x1 (put N B σ) = (g_X11_clearRoll N x0 x1 σ).map (put N B) := by
  unfold f_X11_clearRoll g_X11_clearRoll
  rw [if_pos (isOb_put hx0)]
  exact lmap (l_X11_clearRoll_0 hN _ _ _ hx0)
noncomputable def g_X11_dream_58 (N : Mem) (k27 : Nat → Int32 → Int32 → Int32 → Int32 → ST → Option (ST)) (x0 : Nat) (x1 : Int32) (x2 : Int32) (x3 : Int32) (x4 : Int32) (s0 : Bool) (s1 : Int32) (s2 : Nat) (s3 : Int32) (s4 : Nat) (σ : ST) : Option (ST) :=
  (g_X11_ruleOf N s2 s1 (jz s0) σ).bind fun v1 =>
  (g_X11_roll N s4 s3 v1 σ).bind fun r2 =>
  k27 x0 x1 x2 x3 (x4 + 1) r2
set_option maxHeartbeats 4000000 in
theorem l_X11_dream_58 {N : Mem} {B : Nat} (hN : HN N B) {fk27 : Nat → Int32 → Int32 → Int32 → Int32 → Mem → Option (Mem)} {k27 : Nat → Int32 → Int32 → Int32 → Int32 → ST → Option (ST)} (hk27 : ∀ (x0 : Nat) (x1 : Int32) (x2 : Int32) (x3 : Int32) (x4 : Int32) (σ : ST), isC 11 x0 → fk27 (B + x0) x1 x2 x3 x4 (put N B σ) = (k27 x0 x1 x2 x3 x4 σ).bind (fun q => some (put N B q))) : ∀ (x0 : Nat) (x1 : Int32) (x2 : Int32) (x3 : Int32) (x4 : Int32) (s0 : Bool) (s1 : Int32) (s2 : Nat) (s3 : Int32) (s4 : Nat) (σ : ST), isC 11 x0 → isC 11 s2 → isC 11 s4 → f_X11_dream_58 fk27 (B + x0) x1 x2 x3 x4 s0 s1 (B + s2) s3 (B + s4) (put N B σ) = (g_X11_dream_58 N k27 x0 x1 x2 x3 x4 s0 s1 s2 s3 s4 σ).bind (fun q => some (put N B q)) := by
  intro x0 x1 x2 x3 x4 s0 s1 s2 s3 s4 σ hx0 hs2 hs4
  unfold f_X11_dream_58 g_X11_dream_58
  refine lb (l_X11_ruleOf hN hs2) (fun v1 => ?_)
  refine lm (l_X11_roll hN hs4) (fun r2 => ?_)
  exact hk27 _ _ _ _ _ _ hx0
noncomputable def g_X11_dream_119 (N : Mem) (x0 : Nat) (x1 : Int32) (σ : ST) : Option (ST) :=
  (g_X11_get N x0 x1 0 σ).bind fun v3 =>
  (g_X11_wearsOf N x0 x1 σ).bind fun r4 =>
  (f_X11_cut (Int32.toInt64 (v3 + r4.1)) 0 99).bind fun v5 =>
  (g_X11_lay N x0 x1 0 v5 r4.2).bind fun r6 =>
  (g_X11_get N x0 x1 1 r6).bind fun v7 =>
  (f_X11_cut (Int32.toInt64 (v7 - 1)) 0 9).bind fun v8 =>
  (g_X11_lay N x0 x1 1 v8 r6).bind fun r9 =>
  some r9
set_option maxHeartbeats 4000000 in
theorem l_X11_dream_119 {N : Mem} {B : Nat} (hN : HN N B) : ∀ (x0 : Nat) (x1 : Int32) (σ : ST), isC 11 x0 → f_X11_dream_119 (B + x0) x1 (put N B σ) = (g_X11_dream_119 N x0 x1 σ).bind (fun q => some (put N B q)) := by
  intro x0 x1 σ hx0
  unfold f_X11_dream_119 g_X11_dream_119
  refine lb (l_X11_get hN hx0) (fun v3 => ?_)
  refine lc (l_X11_wearsOf hN hx0) (fun r4 => ?_)
  dsimp only
  refine lb (rfl) (fun v5 => ?_)
  refine lm (l_X11_lay hN hx0) (fun r6 => ?_)
  refine lb (l_X11_get hN hx0) (fun v7 => ?_)
  refine lb (rfl) (fun v8 => ?_)
  refine lm (l_X11_lay hN hx0) (fun r9 => ?_)
  rfl
noncomputable def g_X11_dream_27 (N : Mem) (n0 : Nat) (x0 : Nat) (x1 : Int32) (x2 : Int32) (x3 : Int32) (x4 : Int32) (σ : ST) : Option (ST) :=
  match n0 with
  | 0 => none
  | n + 1 =>
    (f_X11_longOf x2).bind fun v10 =>
    if v10 ≤ x4 then
    ((g_X11_believesOf N x0 x1 σ).bind fun r11 =>
    (g_X11_drawn N x0 r11.2).bind fun r12 =>
    if r11.1 ≤ r12.1 then
    (g_X11_dream_119 N x0 x1 r12.2)
    else
    ((g_X11_numberOfRoll N x0 x1 r12.2).bind fun v13 =>
    (g_X11_lay N x0 x1 2 v13 r12.2).bind fun r14 =>
    (some (setI r14 x0 24 ((r14.1 x0 24) + 1))).bind fun r15 =>
    (g_X11_get N x0 x1 2 r15).bind fun v16 =>
    (g_X11_write N x0 x1 x2 v16 r15).bind fun r17 =>
    g_X11_dream_119 N x0 x1 r17))
    else
    ((f_X11_digitOf x2 x4).bind fun v18 =>
    (g_X11_drawn N x0 σ).bind fun r19 =>
    if x3 ≤ r19.1 then
    (g_X11_dream_58 N (g_X11_dream_27 N n) x0 x1 x2 x3 x4 false v18 x0 x1 x0 r19.2)
    else
    (g_X11_dream_58 N (g_X11_dream_27 N n) x0 x1 x2 x3 x4 true v18 x0 x1 x0 r19.2))
set_option maxHeartbeats 4000000 in
theorem l_X11_dream_27 {N : Mem} {B : Nat} (hN : HN N B) : ∀ (n : Nat) (x0 : Nat) (x1 : Int32) (x2 : Int32) (x3 : Int32) (x4 : Int32) (σ : ST), isC 11 x0 → f_X11_dream_27 n (B + x0) x1 x2 x3 x4 (put N B σ) = (g_X11_dream_27 N n x0 x1 x2 x3 x4 σ).bind (fun q => some (put N B q)) := by
  intro n
  induction n with
  | zero =>
    intro x0 x1 x2 x3 x4 σ hx0
    rfl
  | succ n ih =>
    intro x0 x1 x2 x3 x4 σ hx0
    unfold f_X11_dream_27 g_X11_dream_27
    refine lb (rfl) (fun v10 => ?_)
    refine li (fun _ => ?_) (fun _ => ?_)
    · refine lc (l_X11_believesOf hN hx0) (fun r11 => ?_)
      dsimp only
      refine lc (l_X11_drawn hN hx0) (fun r12 => ?_)
      dsimp only
      refine li (fun _ => ?_) (fun _ => ?_)
      · exact l_X11_dream_119 hN  _ _ _ hx0
      · refine lb (l_X11_numberOfRoll hN hx0) (fun v13 => ?_)
        refine lm (l_X11_lay hN hx0) (fun r14 => ?_)
        refine lg (gI_11_24 hx0) ?_
        refine lp (pF_11_24 hx0) (fun r15 => ?_)
        refine lb (l_X11_get hN hx0) (fun v16 => ?_)
        refine lm (l_X11_write hN hx0) (fun r17 => ?_)
        exact l_X11_dream_119 hN  _ _ _ hx0
    · refine lb (rfl) (fun v18 => ?_)
      refine lc (l_X11_drawn hN hx0) (fun r19 => ?_)
      dsimp only
      refine li (fun _ => ?_) (fun _ => ?_)
      · exact l_X11_dream_58 hN ih _ _ _ _ _ _ _ _ _ _ _ hx0 hx0 hx0
      · exact l_X11_dream_58 hN ih _ _ _ _ _ _ _ _ _ _ _ hx0 hx0 hx0
noncomputable def g_X11_dream_0 (N : Mem) (x0 : Nat) (x1 : Int32) (σ : ST) : Option (ST) :=
  (g_X11_get N x0 x1 2 σ).bind fun v20 =>
  (xI 4607 σ (x0 + 1) 2).bind fun v21 =>
  (g_X11_looseOf N x0 v21 x1 σ).bind fun r22 =>
  (g_X11_clearRoll N x0 x1 r22.2).bind fun r23 =>
  g_X11_dream_27 N fu x0 x1 v20 r22.1 0 r23
set_option maxHeartbeats 4000000 in
theorem l_X11_dream_0 {N : Mem} {B : Nat} (hN : HN N B) : ∀ (x0 : Nat) (x1 : Int32) (σ : ST), isC 11 x0 → f_X11_dream_0 (B + x0) x1 (put N B σ) = (g_X11_dream_0 N x0 x1 σ).bind (fun q => some (put N B q)) := by
  intro x0 x1 σ hx0
  unfold f_X11_dream_0 g_X11_dream_0
  refine lb (l_X11_get hN hx0) (fun v20 => ?_)
  refine lg (gR_11_0 hx0) ?_
  refine lb (rI_put (sh_11_0 hx0)) (fun v21 => ?_)
  refine lc (l_X11_looseOf hN hx0) (fun r22 => ?_)
  dsimp only
  refine lm (l_X11_clearRoll hN hx0) (fun r23 => ?_)
  exact l_X11_dream_27 hN  _ _ _ _ _ _ _ hx0
noncomputable def g_X11_dream (N : Mem) (x0 : Nat) (x1 : Int32) (σ : ST) : Option (ST) := g_X11_dream_0 N x0 x1 σ
theorem l_X11_dream {N : Mem} {B : Nat} (hN : HN N B) {x0 : Nat} {x1 : Int32} {σ : ST} (hx0 : isC 11 x0) : f_X11_dream (B + x0) x1 (put N B σ) = (g_X11_dream N x0 x1 σ).map (put N B) := by
  unfold f_X11_dream g_X11_dream
  rw [if_pos (isOb_put hx0)]
  exact lmap (l_X11_dream_0 hN _ _ _ hx0)
noncomputable def g_X11_pass_2 (N : Mem) (n0 : Nat) (x0 : Nat) (x1 : Int32) (σ : ST) : Option (ST) :=
  match n0 with
  | 0 => none
  | n + 1 =>
    (xI 4607 σ (x0 + 1) 0).bind fun v1 =>
    if v1 ≤ x1 then
    ((xI 4607 σ (x0 + 1) 8).bind fun v2 =>
    (yI 4607 σ (x0 + 1) 8 (v2 + 1)).bind fun r3 =>
    some r3)
    else
    ((g_X11_dream N x0 x1 σ).bind fun r4 =>
    g_X11_pass_2 N n x0 (x1 + 1) r4)
set_option maxHeartbeats 4000000 in
theorem l_X11_pass_2 {N : Mem} {B : Nat} (hN : HN N B) : ∀ (n : Nat) (x0 : Nat) (x1 : Int32) (σ : ST), isC 11 x0 → f_X11_pass_2 n (B + x0) x1 (put N B σ) = (g_X11_pass_2 N n x0 x1 σ).bind (fun q => some (put N B q)) := by
  intro n
  induction n with
  | zero =>
    intro x0 x1 σ hx0
    rfl
  | succ n ih =>
    intro x0 x1 σ hx0
    unfold f_X11_pass_2 g_X11_pass_2
    refine lg (gR_11_0 hx0) ?_
    refine lb (rI_put (sh_11_0 hx0)) (fun v1 => ?_)
    refine li (fun _ => ?_) (fun _ => ?_)
    · refine lg (gR_11_0 hx0) ?_
      refine lb (rI_put (sh_11_0 hx0)) (fun v2 => ?_)
      refine lm (wI_put (sh_11_0 hx0)) (fun r3 => ?_)
      rfl
    · refine lm (l_X11_dream hN hx0) (fun r4 => ?_)
      exact ih _ _ _ hx0
noncomputable def g_X11_pass_0 (N : Mem) (x0 : Nat) (σ : ST) : Option (ST) :=
  g_X11_pass_2 N fu x0 0 σ
set_option maxHeartbeats 4000000 in
theorem l_X11_pass_0 {N : Mem} {B : Nat} (hN : HN N B) : ∀ (x0 : Nat) (σ : ST), isC 11 x0 → f_X11_pass_0 (B + x0) (put N B σ) = (g_X11_pass_0 N x0 σ).bind (fun q => some (put N B q)) := by
  intro x0 σ hx0
  unfold f_X11_pass_0 g_X11_pass_0
  exact l_X11_pass_2 hN  _ _ _ _ hx0
noncomputable def g_X11_pass (N : Mem) (x0 : Nat) (σ : ST) : Option (ST) := g_X11_pass_0 N x0 σ
theorem l_X11_pass {N : Mem} {B : Nat} (hN : HN N B) {x0 : Nat} {σ : ST} (hx0 : isC 11 x0) : f_X11_pass (B + x0) (put N B σ) = (g_X11_pass N x0 σ).map (put N B) := by
  unfold f_X11_pass g_X11_pass
  rw [if_pos (isOb_put hx0)]
  exact lmap (l_X11_pass_0 hN _ _ hx0)
noncomputable def g_X11_keep_124 (N : Mem) (n0 : Nat) (k117 : Nat → Int32 → Int32 → ST → Option (ST)) (x0 : Nat) (x1 : Int32) (x2 : Int32) (x3 : Int32) (σ : ST) : Option (ST) :=
  match n0 with
  | 0 => none
  | n + 1 =>
    if 16 ≤ x3 then
    (k117 x0 x1 (x2 + 1) σ)
    else
    ((g_X11_get N x0 x2 x3 σ).bind fun v1 =>
    (yI 4607 σ (x0 + 1) (((x1 + 4) + (16 * x2)) + x3) v1).bind fun r2 =>
    g_X11_keep_124 N n k117 x0 x1 x2 (x3 + 1) r2)
set_option maxHeartbeats 4000000 in
theorem l_X11_keep_124 {N : Mem} {B : Nat} (hN : HN N B) {fk117 : Nat → Int32 → Int32 → Mem → Option (Mem)} {k117 : Nat → Int32 → Int32 → ST → Option (ST)} (hk117 : ∀ (x0 : Nat) (x1 : Int32) (x2 : Int32) (σ : ST), isC 11 x0 → fk117 (B + x0) x1 x2 (put N B σ) = (k117 x0 x1 x2 σ).bind (fun q => some (put N B q))) : ∀ (n : Nat) (x0 : Nat) (x1 : Int32) (x2 : Int32) (x3 : Int32) (σ : ST), isC 11 x0 → f_X11_keep_124 n fk117 (B + x0) x1 x2 x3 (put N B σ) = (g_X11_keep_124 N n k117 x0 x1 x2 x3 σ).bind (fun q => some (put N B q)) := by
  intro n
  induction n with
  | zero =>
    intro x0 x1 x2 x3 σ hx0
    rfl
  | succ n ih =>
    intro x0 x1 x2 x3 σ hx0
    unfold f_X11_keep_124 g_X11_keep_124
    refine li (fun _ => ?_) (fun _ => ?_)
    · exact hk117 _ _ _ _ hx0
    · refine lg (gR_11_0 hx0) ?_
      refine lb (l_X11_get hN hx0) (fun v1 => ?_)
      refine lm (wI_put (sh_11_0 hx0)) (fun r2 => ?_)
      exact ih _ _ _ _ _ hx0
noncomputable def g_X11_keep_165 (N : Mem) (n0 : Nat) (x0 : Nat) (x1 : Int32) (x2 : Int32) (σ : ST) : Option (ST) :=
  match n0 with
  | 0 => none
  | n + 1 =>
    if 60 ≤ x2 then
    ((xI 4607 σ (x0 + 1) 3).bind fun v3 =>
    (yI 4607 σ (x0 + 1) 3 (v3 + 1)).bind fun r4 =>
    some r4)
    else
    ((xI 4607 σ (x0 + 1) (4547 + x2)).bind fun v5 =>
    (yI 4607 σ (x0 + 1) ((x1 + 84) + x2) v5).bind fun r6 =>
    g_X11_keep_165 N n x0 x1 (x2 + 1) r6)
set_option maxHeartbeats 4000000 in
theorem l_X11_keep_165 {N : Mem} {B : Nat} (hN : HN N B) : ∀ (n : Nat) (x0 : Nat) (x1 : Int32) (x2 : Int32) (σ : ST), isC 11 x0 → f_X11_keep_165 n (B + x0) x1 x2 (put N B σ) = (g_X11_keep_165 N n x0 x1 x2 σ).bind (fun q => some (put N B q)) := by
  intro n
  induction n with
  | zero =>
    intro x0 x1 x2 σ hx0
    rfl
  | succ n ih =>
    intro x0 x1 x2 σ hx0
    unfold f_X11_keep_165 g_X11_keep_165
    refine li (fun _ => ?_) (fun _ => ?_)
    · refine lg (gR_11_0 hx0) ?_
      refine lb (rI_put (sh_11_0 hx0)) (fun v3 => ?_)
      refine lm (wI_put (sh_11_0 hx0)) (fun r4 => ?_)
      rfl
    · refine lg (gR_11_0 hx0) ?_
      refine lg (gR_11_0 hx0) ?_
      refine lb (rI_put (sh_11_0 hx0)) (fun v5 => ?_)
      refine lm (wI_put (sh_11_0 hx0)) (fun r6 => ?_)
      exact ih _ _ _ _ hx0
noncomputable def g_X11_keep_117 (N : Mem) (n0 : Nat) (x0 : Nat) (x1 : Int32) (x2 : Int32) (σ : ST) : Option (ST) :=
  match n0 with
  | 0 => none
  | n + 1 =>
    if 5 ≤ x2 then
    (g_X11_keep_165 N fu x0 x1 0 σ)
    else
    (g_X11_keep_124 N fu (g_X11_keep_117 N n) x0 x1 x2 0 σ)
set_option maxHeartbeats 4000000 in
theorem l_X11_keep_117 {N : Mem} {B : Nat} (hN : HN N B) : ∀ (n : Nat) (x0 : Nat) (x1 : Int32) (x2 : Int32) (σ : ST), isC 11 x0 → f_X11_keep_117 n (B + x0) x1 x2 (put N B σ) = (g_X11_keep_117 N n x0 x1 x2 σ).bind (fun q => some (put N B q)) := by
  intro n
  induction n with
  | zero =>
    intro x0 x1 x2 σ hx0
    rfl
  | succ n ih =>
    intro x0 x1 x2 σ hx0
    unfold f_X11_keep_117 g_X11_keep_117
    refine li (fun _ => ?_) (fun _ => ?_)
    · exact l_X11_keep_165 hN  _ _ _ _ _ hx0
    · exact l_X11_keep_124 hN ih _ _ _ _ _ _ hx0
noncomputable def g_X11_keep_85 (N : Mem) (n0 : Nat) (x0 : Nat) (x1 : Int32) (x2 : Int32) (σ : ST) : Option (ST) :=
  match n0 with
  | 0 => none
  | n + 1 =>
    if 3 ≤ x2 then
    (g_X11_keep_117 N fu x0 x1 0 σ)
    else
    ((xI 4607 σ (x0 + 1) (8 + x2)).bind fun v7 =>
    (yI 4607 σ (x0 + 1) ((x1 + 1) + x2) v7).bind fun r8 =>
    g_X11_keep_85 N n x0 x1 (x2 + 1) r8)
set_option maxHeartbeats 4000000 in
theorem l_X11_keep_85 {N : Mem} {B : Nat} (hN : HN N B) : ∀ (n : Nat) (x0 : Nat) (x1 : Int32) (x2 : Int32) (σ : ST), isC 11 x0 → f_X11_keep_85 n (B + x0) x1 x2 (put N B σ) = (g_X11_keep_85 N n x0 x1 x2 σ).bind (fun q => some (put N B q)) := by
  intro n
  induction n with
  | zero =>
    intro x0 x1 x2 σ hx0
    rfl
  | succ n ih =>
    intro x0 x1 x2 σ hx0
    unfold f_X11_keep_85 g_X11_keep_85
    refine li (fun _ => ?_) (fun _ => ?_)
    · exact l_X11_keep_117 hN  _ _ _ _ _ hx0
    · refine lg (gR_11_0 hx0) ?_
      refine lg (gR_11_0 hx0) ?_
      refine lb (rI_put (sh_11_0 hx0)) (fun v7 => ?_)
      refine lm (wI_put (sh_11_0 hx0)) (fun r8 => ?_)
      exact ih _ _ _ _ hx0
noncomputable def g_X11_keep_56 (N : Mem) (x0 : Nat) (σ : ST) : Option (ST) :=
  (xI 4607 σ (x0 + 1) 3).bind fun v9 =>
  (xI 4607 σ (x0 + 1) 0).bind fun v10 =>
  (yI 4607 σ (x0 + 1) (227 + (144 * v9)) v10).bind fun r11 =>
  g_X11_keep_85 N fu x0 (227 + (144 * v9)) 0 r11
set_option maxHeartbeats 4000000 in
theorem l_X11_keep_56 {N : Mem} {B : Nat} (hN : HN N B) : ∀ (x0 : Nat) (σ : ST), isC 11 x0 → f_X11_keep_56 (B + x0) (put N B σ) = (g_X11_keep_56 N x0 σ).bind (fun q => some (put N B q)) := by
  intro x0 σ hx0
  unfold f_X11_keep_56 g_X11_keep_56
  refine lg (gR_11_0 hx0) ?_
  refine lb (rI_put (sh_11_0 hx0)) (fun v9 => ?_)
  refine lg (gR_11_0 hx0) ?_
  refine lg (gR_11_0 hx0) ?_
  refine lb (rI_put (sh_11_0 hx0)) (fun v10 => ?_)
  refine lm (wI_put (sh_11_0 hx0)) (fun r11 => ?_)
  exact l_X11_keep_85 hN  _ _ _ _ _ hx0
noncomputable def g_X11_keep_13 (N : Mem) (n0 : Nat) (x0 : Nat) (x1 : Int32) (σ : ST) : Option (ST) :=
  match n0 with
  | 0 => none
  | n + 1 =>
    if 4176 ≤ x1 then
    ((xI 4607 σ (x0 + 1) 3).bind fun v12 =>
    (yI 4607 σ (x0 + 1) 3 (v12 - 1)).bind fun r13 =>
    g_X11_keep_56 N x0 r13)
    else
    ((xI 4607 σ (x0 + 1) (371 + x1)).bind fun v14 =>
    (yI 4607 σ (x0 + 1) (227 + x1) v14).bind fun r15 =>
    g_X11_keep_13 N n x0 (x1 + 1) r15)
set_option maxHeartbeats 4000000 in
theorem l_X11_keep_13 {N : Mem} {B : Nat} (hN : HN N B) : ∀ (n : Nat) (x0 : Nat) (x1 : Int32) (σ : ST), isC 11 x0 → f_X11_keep_13 n (B + x0) x1 (put N B σ) = (g_X11_keep_13 N n x0 x1 σ).bind (fun q => some (put N B q)) := by
  intro n
  induction n with
  | zero =>
    intro x0 x1 σ hx0
    rfl
  | succ n ih =>
    intro x0 x1 σ hx0
    unfold f_X11_keep_13 g_X11_keep_13
    refine li (fun _ => ?_) (fun _ => ?_)
    · refine lg (gR_11_0 hx0) ?_
      refine lb (rI_put (sh_11_0 hx0)) (fun v12 => ?_)
      refine lm (wI_put (sh_11_0 hx0)) (fun r13 => ?_)
      exact l_X11_keep_56 hN  _ _ hx0
    · refine lg (gR_11_0 hx0) ?_
      refine lg (gR_11_0 hx0) ?_
      refine lb (rI_put (sh_11_0 hx0)) (fun v14 => ?_)
      refine lm (wI_put (sh_11_0 hx0)) (fun r15 => ?_)
      exact ih _ _ _ hx0
noncomputable def g_X11_keep_0 (N : Mem) (x0 : Nat) (σ : ST) : Option (ST) :=
  (xI 4607 σ (x0 + 1) 3).bind fun v16 =>
  if v16 = 30 then
  (g_X11_keep_13 N fu x0 0 σ)
  else
  (g_X11_keep_56 N x0 σ)
set_option maxHeartbeats 4000000 in
theorem l_X11_keep_0 {N : Mem} {B : Nat} (hN : HN N B) : ∀ (x0 : Nat) (σ : ST), isC 11 x0 → f_X11_keep_0 (B + x0) (put N B σ) = (g_X11_keep_0 N x0 σ).bind (fun q => some (put N B q)) := by
  intro x0 σ hx0
  unfold f_X11_keep_0 g_X11_keep_0
  refine lg (gR_11_0 hx0) ?_
  refine lb (rI_put (sh_11_0 hx0)) (fun v16 => ?_)
  refine li (fun _ => ?_) (fun _ => ?_)
  · exact l_X11_keep_13 hN  _ _ _ _ hx0
  · exact l_X11_keep_56 hN  _ _ hx0
noncomputable def g_X11_keep (N : Mem) (x0 : Nat) (σ : ST) : Option (ST) := g_X11_keep_0 N x0 σ
theorem l_X11_keep {N : Mem} {B : Nat} (hN : HN N B) {x0 : Nat} {σ : ST} (hx0 : isC 11 x0) : f_X11_keep (B + x0) (put N B σ) = (g_X11_keep N x0 σ).map (put N B) := by
  unfold f_X11_keep g_X11_keep
  rw [if_pos (isOb_put hx0)]
  exact lmap (l_X11_keep_0 hN _ _ hx0)
noncomputable def g_X11_undo_97 (N : Mem) (n0 : Nat) (k70 : Nat → Int32 → Int32 → ST → Option (Int32 × ST)) (x0 : Nat) (x1 : Int32) (x2 : Int32) (x3 : Int32) (σ : ST) : Option (Int32 × ST) :=
  match n0 with
  | 0 => none
  | n + 1 =>
    if 16 ≤ x3 then
    (k70 x0 x1 (x2 + 1) σ)
    else
    ((xI 4607 σ (x0 + 1) x1).bind fun v1 =>
    if v1 ≤ x2 then
    (k70 x0 x1 (x2 + 1) σ)
    else
    ((xI 4607 σ (x0 + 1) (((x1 + 4) + (16 * x2)) + x3)).bind fun v2 =>
    (g_X11_lay N x0 x2 x3 v2 σ).bind fun r3 =>
    g_X11_undo_97 N n k70 x0 x1 x2 (x3 + 1) r3))
set_option maxHeartbeats 4000000 in
theorem l_X11_undo_97 {N : Mem} {B : Nat} (hN : HN N B) {fk70 : Nat → Int32 → Int32 → Mem → Option (Int32 × Mem)} {k70 : Nat → Int32 → Int32 → ST → Option (Int32 × ST)} (hk70 : ∀ (x0 : Nat) (x1 : Int32) (x2 : Int32) (σ : ST), isC 11 x0 → fk70 (B + x0) x1 x2 (put N B σ) = (k70 x0 x1 x2 σ).bind (fun q => some (q.1, put N B q.2))) : ∀ (n : Nat) (x0 : Nat) (x1 : Int32) (x2 : Int32) (x3 : Int32) (σ : ST), isC 11 x0 → f_X11_undo_97 n fk70 (B + x0) x1 x2 x3 (put N B σ) = (g_X11_undo_97 N n k70 x0 x1 x2 x3 σ).bind (fun q => some (q.1, put N B q.2)) := by
  intro n
  induction n with
  | zero =>
    intro x0 x1 x2 x3 σ hx0
    rfl
  | succ n ih =>
    intro x0 x1 x2 x3 σ hx0
    unfold f_X11_undo_97 g_X11_undo_97
    refine li (fun _ => ?_) (fun _ => ?_)
    · exact hk70 _ _ _ _ hx0
    · refine lg (gR_11_0 hx0) ?_
      refine lb (rI_put (sh_11_0 hx0)) (fun v1 => ?_)
      refine li (fun _ => ?_) (fun _ => ?_)
      · exact hk70 _ _ _ _ hx0
      · refine lg (gR_11_0 hx0) ?_
        refine lb (rI_put (sh_11_0 hx0)) (fun v2 => ?_)
        refine lm (l_X11_lay hN hx0) (fun r3 => ?_)
        exact ih _ _ _ _ _ hx0
noncomputable def g_X11_undo_95 (N : Mem) (k70 : Nat → Int32 → Int32 → ST → Option (Int32 × ST)) (x0 : Nat) (x1 : Int32) (x2 : Int32) (σ : ST) : Option (Int32 × ST) :=
  g_X11_undo_97 N fu k70 x0 x1 x2 0 σ
set_option maxHeartbeats 4000000 in
theorem l_X11_undo_95 {N : Mem} {B : Nat} (hN : HN N B) {fk70 : Nat → Int32 → Int32 → Mem → Option (Int32 × Mem)} {k70 : Nat → Int32 → Int32 → ST → Option (Int32 × ST)} (hk70 : ∀ (x0 : Nat) (x1 : Int32) (x2 : Int32) (σ : ST), isC 11 x0 → fk70 (B + x0) x1 x2 (put N B σ) = (k70 x0 x1 x2 σ).bind (fun q => some (q.1, put N B q.2))) : ∀ (x0 : Nat) (x1 : Int32) (x2 : Int32) (σ : ST), isC 11 x0 → f_X11_undo_95 fk70 (B + x0) x1 x2 (put N B σ) = (g_X11_undo_95 N k70 x0 x1 x2 σ).bind (fun q => some (q.1, put N B q.2)) := by
  intro x0 x1 x2 σ hx0
  unfold f_X11_undo_95 g_X11_undo_95
  exact l_X11_undo_97 hN hk70 _ _ _ _ _ _ hx0
noncomputable def g_X11_undo_148 (N : Mem) (n0 : Nat) (x0 : Nat) (x1 : Int32) (x2 : Int32) (σ : ST) : Option (Int32 × ST) :=
  match n0 with
  | 0 => none
  | n + 1 =>
    if 60 ≤ x2 then
    ((xI 4607 σ (x0 + 1) 3).bind fun v4 =>
    some (v4, σ))
    else
    ((xI 4607 σ (x0 + 1) ((x1 + 84) + x2)).bind fun v5 =>
    (yI 4607 σ (x0 + 1) (4547 + x2) v5).bind fun r6 =>
    g_X11_undo_148 N n x0 x1 (x2 + 1) r6)
set_option maxHeartbeats 4000000 in
theorem l_X11_undo_148 {N : Mem} {B : Nat} (hN : HN N B) : ∀ (n : Nat) (x0 : Nat) (x1 : Int32) (x2 : Int32) (σ : ST), isC 11 x0 → f_X11_undo_148 n (B + x0) x1 x2 (put N B σ) = (g_X11_undo_148 N n x0 x1 x2 σ).bind (fun q => some (q.1, put N B q.2)) := by
  intro n
  induction n with
  | zero =>
    intro x0 x1 x2 σ hx0
    rfl
  | succ n ih =>
    intro x0 x1 x2 σ hx0
    unfold f_X11_undo_148 g_X11_undo_148
    refine li (fun _ => ?_) (fun _ => ?_)
    · refine lg (gR_11_0 hx0) ?_
      refine lb (rI_put (sh_11_0 hx0)) (fun v4 => ?_)
      rfl
    · refine lg (gR_11_0 hx0) ?_
      refine lg (gR_11_0 hx0) ?_
      refine lb (rI_put (sh_11_0 hx0)) (fun v5 => ?_)
      refine lm (wI_put (sh_11_0 hx0)) (fun r6 => ?_)
      exact ih _ _ _ _ hx0
noncomputable def g_X11_undo_70 (N : Mem) (n0 : Nat) (x0 : Nat) (x1 : Int32) (x2 : Int32) (σ : ST) : Option (Int32 × ST) :=
  match n0 with
  | 0 => none
  | n + 1 =>
    (xI 4607 σ (x0 + 1) 0).bind fun v7 =>
    if v7 ≤ x2 then
    (g_X11_undo_148 N fu x0 x1 0 σ)
    else
    ((xI 4607 σ (x0 + 1) x1).bind fun v8 =>
    if x2 < v8 then
    (g_X11_undo_95 N (g_X11_undo_70 N n) x0 x1 x2 σ)
    else
    ((g_X11_begin N x0 x2 σ).bind fun r9 =>
    g_X11_undo_95 N (g_X11_undo_70 N n) x0 x1 x2 r9))
set_option maxHeartbeats 4000000 in
theorem l_X11_undo_70 {N : Mem} {B : Nat} (hN : HN N B) : ∀ (n : Nat) (x0 : Nat) (x1 : Int32) (x2 : Int32) (σ : ST), isC 11 x0 → f_X11_undo_70 n (B + x0) x1 x2 (put N B σ) = (g_X11_undo_70 N n x0 x1 x2 σ).bind (fun q => some (q.1, put N B q.2)) := by
  intro n
  induction n with
  | zero =>
    intro x0 x1 x2 σ hx0
    rfl
  | succ n ih =>
    intro x0 x1 x2 σ hx0
    unfold f_X11_undo_70 g_X11_undo_70
    refine lg (gR_11_0 hx0) ?_
    refine lb (rI_put (sh_11_0 hx0)) (fun v7 => ?_)
    refine li (fun _ => ?_) (fun _ => ?_)
    · exact l_X11_undo_148 hN  _ _ _ _ _ hx0
    · refine lg (gR_11_0 hx0) ?_
      refine lb (rI_put (sh_11_0 hx0)) (fun v8 => ?_)
      refine li (fun _ => ?_) (fun _ => ?_)
      · exact l_X11_undo_95 hN ih _ _ _ _ hx0
      · refine lm (l_X11_begin hN hx0) (fun r9 => ?_)
        exact l_X11_undo_95 hN ih _ _ _ _ hx0
noncomputable def g_X11_undo_38 (N : Mem) (n0 : Nat) (x0 : Nat) (x1 : Int32) (x2 : Int32) (σ : ST) : Option (Int32 × ST) :=
  match n0 with
  | 0 => none
  | n + 1 =>
    if 3 ≤ x2 then
    (g_X11_undo_70 N fu x0 x1 0 σ)
    else
    ((xI 4607 σ (x0 + 1) ((x1 + 1) + x2)).bind fun v10 =>
    (yI 4607 σ (x0 + 1) (8 + x2) v10).bind fun r11 =>
    g_X11_undo_38 N n x0 x1 (x2 + 1) r11)
set_option maxHeartbeats 4000000 in
theorem l_X11_undo_38 {N : Mem} {B : Nat} (hN : HN N B) : ∀ (n : Nat) (x0 : Nat) (x1 : Int32) (x2 : Int32) (σ : ST), isC 11 x0 → f_X11_undo_38 n (B + x0) x1 x2 (put N B σ) = (g_X11_undo_38 N n x0 x1 x2 σ).bind (fun q => some (q.1, put N B q.2)) := by
  intro n
  induction n with
  | zero =>
    intro x0 x1 x2 σ hx0
    rfl
  | succ n ih =>
    intro x0 x1 x2 σ hx0
    unfold f_X11_undo_38 g_X11_undo_38
    refine li (fun _ => ?_) (fun _ => ?_)
    · exact l_X11_undo_70 hN  _ _ _ _ _ hx0
    · refine lg (gR_11_0 hx0) ?_
      refine lg (gR_11_0 hx0) ?_
      refine lb (rI_put (sh_11_0 hx0)) (fun v10 => ?_)
      refine lm (wI_put (sh_11_0 hx0)) (fun r11 => ?_)
      exact ih _ _ _ _ hx0
noncomputable def g_X11_undo_0 (N : Mem) (x0 : Nat) (σ : ST) : Option (Int32 × ST) :=
  (xI 4607 σ (x0 + 1) 3).bind fun v12 =>
  if v12 = 0 then
  (some ((-1), σ))
  else
  ((xI 4607 σ (x0 + 1) 3).bind fun v13 =>
  (yI 4607 σ (x0 + 1) 3 (v13 - 1)).bind fun r14 =>
  (xI 4607 r14 (x0 + 1) 3).bind fun v15 =>
  g_X11_undo_38 N fu x0 (227 + (144 * v15)) 0 r14)
set_option maxHeartbeats 4000000 in
theorem l_X11_undo_0 {N : Mem} {B : Nat} (hN : HN N B) : ∀ (x0 : Nat) (σ : ST), isC 11 x0 → f_X11_undo_0 (B + x0) (put N B σ) = (g_X11_undo_0 N x0 σ).bind (fun q => some (q.1, put N B q.2)) := by
  intro x0 σ hx0
  unfold f_X11_undo_0 g_X11_undo_0
  refine lg (gR_11_0 hx0) ?_
  refine lb (rI_put (sh_11_0 hx0)) (fun v12 => ?_)
  refine li (fun _ => ?_) (fun _ => ?_)
  · rfl
  · refine lg (gR_11_0 hx0) ?_
    refine lb (rI_put (sh_11_0 hx0)) (fun v13 => ?_)
    refine lm (wI_put (sh_11_0 hx0)) (fun r14 => ?_)
    refine lg (gR_11_0 hx0) ?_
    refine lb (rI_put (sh_11_0 hx0)) (fun v15 => ?_)
    exact l_X11_undo_38 hN  _ _ _ _ _ hx0
noncomputable def g_X11_undo (N : Mem) (x0 : Nat) (σ : ST) : Option (Int32 × ST) := g_X11_undo_0 N x0 σ
theorem l_X11_undo {N : Mem} {B : Nat} (hN : HN N B) {x0 : Nat} {σ : ST} (hx0 : isC 11 x0) : f_X11_undo (B + x0) (put N B σ) = (g_X11_undo N x0 σ).bind (fun q => some (q.1, put N B q.2)) := by
  unfold f_X11_undo g_X11_undo
  rw [if_pos (isOb_put hx0)]
  exact l_X11_undo_0 hN _ _ hx0
noncomputable def g_X11_canCrank_0 (N : Mem) (x0 : Nat) (x1 : Int32) (σ : ST) : Option (Bool) :=
  (g_X11_isMachine N x0 x1 σ).bind fun v1 =>
  if v1 = false then
  (some false)
  else
  ((g_X11_get N x0 x1 0 σ).bind fun v2 =>
  if 99 ≤ v2 then
  (some false)
  else
  (some true))
set_option maxHeartbeats 4000000 in
theorem l_X11_canCrank_0 {N : Mem} {B : Nat} (hN : HN N B) : ∀ (x0 : Nat) (x1 : Int32) (σ : ST), isC 11 x0 → f_X11_canCrank_0 (B + x0) x1 (put N B σ) = (g_X11_canCrank_0 N x0 x1 σ).bind some := by
  intro x0 x1 σ hx0
  unfold f_X11_canCrank_0 g_X11_canCrank_0
  refine lb (l_X11_isMachine hN hx0) (fun v1 => ?_)
  refine li (fun _ => ?_) (fun _ => ?_)
  · rfl
  · refine lb (l_X11_get hN hx0) (fun v2 => ?_)
    refine li (fun _ => ?_) (fun _ => ?_)
    · rfl
    · rfl
noncomputable def g_X11_canCrank (N : Mem) (x0 : Nat) (x1 : Int32) (σ : ST) : Option (Bool) := g_X11_canCrank_0 N x0 x1 σ
theorem l_X11_canCrank {N : Mem} {B : Nat} (hN : HN N B) {x0 : Nat} {x1 : Int32} {σ : ST} (hx0 : isC 11 x0) : f_X11_canCrank (B + x0) x1 (put N B σ) = g_X11_canCrank N x0 x1 σ := by
  unfold f_X11_canCrank g_X11_canCrank
  rw [if_pos (isOb_put hx0)]
  exact lsm (l_X11_canCrank_0 hN _ _ _ hx0)
noncomputable def g_X11_crankNow_0 (N : Mem) (x0 : Nat) (x1 : Int32) (x2 : Int32) (σ : ST) : Option (ST) :=
  (g_X11_get N x0 x1 2 σ).bind fun v1 =>
  (g_X11_lay N x0 x1 2 (jrem (v1 + x2) 10000) σ).bind fun r2 =>
  (g_X11_get N x0 x1 0 r2).bind fun v3 =>
  (g_X11_lay N x0 x1 0 (v3 + 1) r2).bind fun r4 =>
  some r4
set_option maxHeartbeats 4000000 in
theorem l_X11_crankNow_0 {N : Mem} {B : Nat} (hN : HN N B) : ∀ (x0 : Nat) (x1 : Int32) (x2 : Int32) (σ : ST), isC 11 x0 → f_X11_crankNow_0 (B + x0) x1 x2 (put N B σ) = (g_X11_crankNow_0 N x0 x1 x2 σ).bind (fun q => some (put N B q)) := by
  intro x0 x1 x2 σ hx0
  unfold f_X11_crankNow_0 g_X11_crankNow_0
  refine lb (l_X11_get hN hx0) (fun v1 => ?_)
  refine lm (l_X11_lay hN hx0) (fun r2 => ?_)
  refine lb (l_X11_get hN hx0) (fun v3 => ?_)
  refine lm (l_X11_lay hN hx0) (fun r4 => ?_)
  rfl
noncomputable def g_X11_crankNow (N : Mem) (x0 : Nat) (x1 : Int32) (x2 : Int32) (σ : ST) : Option (ST) := g_X11_crankNow_0 N x0 x1 x2 σ
theorem l_X11_crankNow {N : Mem} {B : Nat} (hN : HN N B) {x0 : Nat} {x1 : Int32} {x2 : Int32} {σ : ST} (hx0 : isC 11 x0) : f_X11_crankNow (B + x0) x1 x2 (put N B σ) = (g_X11_crankNow N x0 x1 x2 σ).map (put N B) := by
  unfold f_X11_crankNow g_X11_crankNow
  rw [if_pos (isOb_put hx0)]
  exact lmap (l_X11_crankNow_0 hN _ _ _ _ hx0)
noncomputable def g_X11_crank_0 (N : Mem) (x0 : Nat) (x1 : Int32) (x2 : Int32) (σ : ST) : Option (Int32 × ST) :=
  (g_X11_canCrank N x0 x1 σ).bind fun v1 =>
  if v1 = false then
  (some ((-1), σ))
  else
  ((f_X11_isNumber x2).bind fun v2 =>
  if v2 = true then
  ((g_X11_keep N x0 σ).bind fun r3 =>
  (g_X11_crankNow N x0 x1 x2 r3).bind fun r4 =>
  (g_X11_get N x0 x1 2 r4).bind fun v5 =>
  some (v5, r4))
  else
  (some ((-1), σ)))
set_option maxHeartbeats 4000000 in
theorem l_X11_crank_0 {N : Mem} {B : Nat} (hN : HN N B) : ∀ (x0 : Nat) (x1 : Int32) (x2 : Int32) (σ : ST), isC 11 x0 → f_X11_crank_0 (B + x0) x1 x2 (put N B σ) = (g_X11_crank_0 N x0 x1 x2 σ).bind (fun q => some (q.1, put N B q.2)) := by
  intro x0 x1 x2 σ hx0
  unfold f_X11_crank_0 g_X11_crank_0
  refine lb (l_X11_canCrank hN hx0) (fun v1 => ?_)
  refine li (fun _ => ?_) (fun _ => ?_)
  · rfl
  · refine lb (rfl) (fun v2 => ?_)
    refine li (fun _ => ?_) (fun _ => ?_)
    · refine lm (l_X11_keep hN hx0) (fun r3 => ?_)
      refine lm (l_X11_crankNow hN hx0) (fun r4 => ?_)
      refine lb (l_X11_get hN hx0) (fun v5 => ?_)
      rfl
    · rfl
noncomputable def g_X11_crank (N : Mem) (x0 : Nat) (x1 : Int32) (x2 : Int32) (σ : ST) : Option (Int32 × ST) := g_X11_crank_0 N x0 x1 x2 σ
theorem l_X11_crank {N : Mem} {B : Nat} (hN : HN N B) {x0 : Nat} {x1 : Int32} {x2 : Int32} {σ : ST} (hx0 : isC 11 x0) : f_X11_crank (B + x0) x1 x2 (put N B σ) = (g_X11_crank N x0 x1 x2 σ).bind (fun q => some (q.1, put N B q.2)) := by
  unfold f_X11_crank g_X11_crank
  rw [if_pos (isOb_put hx0)]
  exact l_X11_crank_0 hN _ _ _ _ hx0
noncomputable def g_X11_oil_0 (N : Mem) (x0 : Nat) (x1 : Int32) (x2 : Int32) (σ : ST) : Option (Bool × ST) :=
  (g_X11_isMachine N x0 x1 σ).bind fun v1 =>
  if v1 = false then
  (some (false, σ))
  else
  ((f_X11_isDigit x2).bind fun v2 =>
  if v2 = true then
  ((g_X11_keep N x0 σ).bind fun r3 =>
  (g_X11_lay N x0 x1 1 x2 r3).bind fun r4 =>
  some (true, r4))
  else
  (some (false, σ)))
set_option maxHeartbeats 4000000 in
theorem l_X11_oil_0 {N : Mem} {B : Nat} (hN : HN N B) : ∀ (x0 : Nat) (x1 : Int32) (x2 : Int32) (σ : ST), isC 11 x0 → f_X11_oil_0 (B + x0) x1 x2 (put N B σ) = (g_X11_oil_0 N x0 x1 x2 σ).bind (fun q => some (q.1, put N B q.2)) := by
  intro x0 x1 x2 σ hx0
  unfold f_X11_oil_0 g_X11_oil_0
  refine lb (l_X11_isMachine hN hx0) (fun v1 => ?_)
  refine li (fun _ => ?_) (fun _ => ?_)
  · rfl
  · refine lb (rfl) (fun v2 => ?_)
    refine li (fun _ => ?_) (fun _ => ?_)
    · refine lm (l_X11_keep hN hx0) (fun r3 => ?_)
      refine lm (l_X11_lay hN hx0) (fun r4 => ?_)
      rfl
    · rfl
noncomputable def g_X11_oil (N : Mem) (x0 : Nat) (x1 : Int32) (x2 : Int32) (σ : ST) : Option (Bool × ST) := g_X11_oil_0 N x0 x1 x2 σ
theorem l_X11_oil {N : Mem} {B : Nat} (hN : HN N B) {x0 : Nat} {x1 : Int32} {x2 : Int32} {σ : ST} (hx0 : isC 11 x0) : f_X11_oil (B + x0) x1 x2 (put N B σ) = (g_X11_oil N x0 x1 x2 σ).bind (fun q => some (q.1, put N B q.2)) := by
  unfold f_X11_oil g_X11_oil
  rw [if_pos (isOb_put hx0)]
  exact l_X11_oil_0 hN _ _ _ _ hx0
noncomputable def g_X11_canLift_0 (N : Mem) (x0 : Nat) (x1 : Int32) (σ : ST) : Option (Bool) :=
  (g_X11_isMachine N x0 x1 σ).bind fun v1 =>
  if v1 = false then
  (some false)
  else
  ((g_X11_get N x0 x1 3 σ).bind fun v2 =>
  if v2 ≤ 0 then
  (some false)
  else
  (some true))
set_option maxHeartbeats 4000000 in
theorem l_X11_canLift_0 {N : Mem} {B : Nat} (hN : HN N B) : ∀ (x0 : Nat) (x1 : Int32) (σ : ST), isC 11 x0 → f_X11_canLift_0 (B + x0) x1 (put N B σ) = (g_X11_canLift_0 N x0 x1 σ).bind some := by
  intro x0 x1 σ hx0
  unfold f_X11_canLift_0 g_X11_canLift_0
  refine lb (l_X11_isMachine hN hx0) (fun v1 => ?_)
  refine li (fun _ => ?_) (fun _ => ?_)
  · rfl
  · refine lb (l_X11_get hN hx0) (fun v2 => ?_)
    refine li (fun _ => ?_) (fun _ => ?_)
    · rfl
    · rfl
noncomputable def g_X11_canLift (N : Mem) (x0 : Nat) (x1 : Int32) (σ : ST) : Option (Bool) := g_X11_canLift_0 N x0 x1 σ
theorem l_X11_canLift {N : Mem} {B : Nat} (hN : HN N B) {x0 : Nat} {x1 : Int32} {σ : ST} (hx0 : isC 11 x0) : f_X11_canLift (B + x0) x1 (put N B σ) = g_X11_canLift N x0 x1 σ := by
  unfold f_X11_canLift g_X11_canLift
  rw [if_pos (isOb_put hx0)]
  exact lsm (l_X11_canLift_0 hN _ _ _ hx0)
noncomputable def g_X11_lift_0 (N : Mem) (x0 : Nat) (x1 : Int32) (σ : ST) : Option (Bool × ST) :=
  (g_X11_canLift N x0 x1 σ).bind fun v1 =>
  if v1 = true then
  ((g_X11_keep N x0 σ).bind fun r2 =>
  (g_X11_clearRoll N x0 x1 r2).bind fun r3 =>
  some (true, r3))
  else
  (some (false, σ))
set_option maxHeartbeats 4000000 in
theorem l_X11_lift_0 {N : Mem} {B : Nat} (hN : HN N B) : ∀ (x0 : Nat) (x1 : Int32) (σ : ST), isC 11 x0 → f_X11_lift_0 (B + x0) x1 (put N B σ) = (g_X11_lift_0 N x0 x1 σ).bind (fun q => some (q.1, put N B q.2)) := by
  intro x0 x1 σ hx0
  unfold f_X11_lift_0 g_X11_lift_0
  refine lb (l_X11_canLift hN hx0) (fun v1 => ?_)
  refine li (fun _ => ?_) (fun _ => ?_)
  · refine lm (l_X11_keep hN hx0) (fun r2 => ?_)
    refine lm (l_X11_clearRoll hN hx0) (fun r3 => ?_)
    rfl
  · rfl
noncomputable def g_X11_lift (N : Mem) (x0 : Nat) (x1 : Int32) (σ : ST) : Option (Bool × ST) := g_X11_lift_0 N x0 x1 σ
theorem l_X11_lift {N : Mem} {B : Nat} (hN : HN N B) {x0 : Nat} {x1 : Int32} {σ : ST} (hx0 : isC 11 x0) : f_X11_lift (B + x0) x1 (put N B σ) = (g_X11_lift N x0 x1 σ).bind (fun q => some (q.1, put N B q.2)) := by
  unfold f_X11_lift g_X11_lift
  rw [if_pos (isOb_put hx0)]
  exact l_X11_lift_0 hN _ _ _ hx0
noncomputable def g_X11_arePassed_7 (N : Mem) (n0 : Nat) (x0 : Nat) (x1 : Int32) (x2 : Int32) (σ : ST) : Option (Bool × ST) :=
  match n0 with
  | 0 => none
  | n + 1 =>
    if x1 ≤ x2 then
    (some (true, σ))
    else
    ((xI 4607 σ (x0 + 1) 8).bind fun v1 =>
    if v1 = 9999 then
    (some (false, σ))
    else
    ((g_X11_keep N x0 σ).bind fun r2 =>
    (g_X11_pass N x0 r2).bind fun r3 =>
    g_X11_arePassed_7 N n x0 x1 (x2 + 1) r3))
set_option maxHeartbeats 4000000 in
theorem l_X11_arePassed_7 {N : Mem} {B : Nat} (hN : HN N B) : ∀ (n : Nat) (x0 : Nat) (x1 : Int32) (x2 : Int32) (σ : ST), isC 11 x0 → f_X11_arePassed_7 n (B + x0) x1 x2 (put N B σ) = (g_X11_arePassed_7 N n x0 x1 x2 σ).bind (fun q => some (q.1, put N B q.2)) := by
  intro n
  induction n with
  | zero =>
    intro x0 x1 x2 σ hx0
    rfl
  | succ n ih =>
    intro x0 x1 x2 σ hx0
    unfold f_X11_arePassed_7 g_X11_arePassed_7
    refine li (fun _ => ?_) (fun _ => ?_)
    · rfl
    · refine lg (gR_11_0 hx0) ?_
      refine lb (rI_put (sh_11_0 hx0)) (fun v1 => ?_)
      refine li (fun _ => ?_) (fun _ => ?_)
      · rfl
      · refine lm (l_X11_keep hN hx0) (fun r2 => ?_)
        refine lm (l_X11_pass hN hx0) (fun r3 => ?_)
        exact ih _ _ _ _ hx0
noncomputable def g_X11_arePassed_0 (N : Mem) (x0 : Nat) (x1 : Int32) (σ : ST) : Option (Bool × ST) :=
  (some (setI σ x0 24 0)).bind fun r4 =>
  g_X11_arePassed_7 N fu x0 x1 0 r4
set_option maxHeartbeats 4000000 in
theorem l_X11_arePassed_0 {N : Mem} {B : Nat} (hN : HN N B) : ∀ (x0 : Nat) (x1 : Int32) (σ : ST), isC 11 x0 → f_X11_arePassed_0 (B + x0) x1 (put N B σ) = (g_X11_arePassed_0 N x0 x1 σ).bind (fun q => some (q.1, put N B q.2)) := by
  intro x0 x1 σ hx0
  unfold f_X11_arePassed_0 g_X11_arePassed_0
  refine lp (pF_11_24 hx0) (fun r4 => ?_)
  exact l_X11_arePassed_7 hN  _ _ _ _ _ hx0
noncomputable def g_X11_arePassed (N : Mem) (x0 : Nat) (x1 : Int32) (σ : ST) : Option (Bool × ST) := g_X11_arePassed_0 N x0 x1 σ
theorem l_X11_arePassed {N : Mem} {B : Nat} (hN : HN N B) {x0 : Nat} {x1 : Int32} {σ : ST} (hx0 : isC 11 x0) : f_X11_arePassed (B + x0) x1 (put N B σ) = (g_X11_arePassed N x0 x1 σ).bind (fun q => some (q.1, put N B q.2)) := by
  unfold f_X11_arePassed g_X11_arePassed
  rw [if_pos (isOb_put hx0)]
  exact l_X11_arePassed_0 hN _ _ _ hx0
noncomputable def g_X11_night_0 (N : Mem) (x0 : Nat) (x1 : Int32) (σ : ST) : Option (Int32 × ST) :=
  (f_X11_isIn x1 1 60).bind fun v1 =>
  if v1 = false then
  (some ((-1), σ))
  else
  ((xI 4607 σ (x0 + 1) 8).bind fun v2 =>
  if 9999 < (v2 + x1) then
  (some ((-1), σ))
  else
  ((g_X11_arePassed N x0 x1 σ).bind fun r3 =>
  if r3.1 = false then
  (some ((-1), r3.2))
  else
  (some ((r3.2.1 x0 24), r3.2))))
set_option maxHeartbeats 4000000 in
theorem l_X11_night_0 {N : Mem} {B : Nat} (hN : HN N B) : ∀ (x0 : Nat) (x1 : Int32) (σ : ST), isC 11 x0 → f_X11_night_0 (B + x0) x1 (put N B σ) = (g_X11_night_0 N x0 x1 σ).bind (fun q => some (q.1, put N B q.2)) := by
  intro x0 x1 σ hx0
  unfold f_X11_night_0 g_X11_night_0
  refine lb (rfl) (fun v1 => ?_)
  refine li (fun _ => ?_) (fun _ => ?_)
  · rfl
  · refine lg (gR_11_0 hx0) ?_
    refine lb (rI_put (sh_11_0 hx0)) (fun v2 => ?_)
    refine li (fun _ => ?_) (fun _ => ?_)
    · rfl
    · refine lc (l_X11_arePassed hN hx0) (fun r3 => ?_)
      dsimp only
      refine li (fun _ => ?_) (fun _ => ?_)
      · rfl
      · refine lg (gI_11_24 hx0) ?_
        rfl
noncomputable def g_X11_night (N : Mem) (x0 : Nat) (x1 : Int32) (σ : ST) : Option (Int32 × ST) := g_X11_night_0 N x0 x1 σ
theorem l_X11_night {N : Mem} {B : Nat} (hN : HN N B) {x0 : Nat} {x1 : Int32} {σ : ST} (hx0 : isC 11 x0) : f_X11_night (B + x0) x1 (put N B σ) = (g_X11_night N x0 x1 σ).bind (fun q => some (q.1, put N B q.2)) := by
  unfold f_X11_night g_X11_night
  rw [if_pos (isOb_put hx0)]
  exact l_X11_night_0 hN _ _ _ hx0
noncomputable def g_X11_isPlayed_0 (N : Mem) (x0 : Nat) (x1 : Int32) (σ : ST) : Option (Bool × ST) :=
  (xI 2820 σ (x0 + 3) (x1 + 1)).bind fun v1 =>
  (xI 2820 σ (x0 + 3) (x1 + 2)).bind fun v2 =>
  (xI 2820 σ (x0 + 3) x1).bind fun v3 =>
  if v3 = 3 then
  ((g_X11_machine N x0 v1 v2 σ).bind fun r4 =>
  if r4.1 < 0 then
  (some (false, r4.2))
  else
  (some (true, r4.2)))
  else
  (if v3 = 4 then
  ((g_X11_rule N x0 v1 false v2 σ).bind fun r5 =>
  some (r5.1, r5.2))
  else
  (if v3 = 5 then
  ((g_X11_rule N x0 v1 true v2 σ).bind fun r6 =>
  some (r6.1, r6.2))
  else
  (if v3 = 6 then
  ((g_X11_crank N x0 v2 v1 σ).bind fun r7 =>
  if r7.1 < 0 then
  (some (false, r7.2))
  else
  (some (true, r7.2)))
  else
  (if v3 = 7 then
  ((g_X11_oil N x0 v1 v2 σ).bind fun r8 =>
  some (r8.1, r8.2))
  else
  (if v3 = 8 then
  ((g_X11_lift N x0 v1 σ).bind fun r9 =>
  some (r9.1, r9.2))
  else
  (if v3 = 9 then
  ((g_X11_arePassed N x0 v1 σ).bind fun r10 =>
  some (r10.1, r10.2))
  else
  (some (true, σ))))))))
set_option maxHeartbeats 4000000 in
theorem l_X11_isPlayed_0 {N : Mem} {B : Nat} (hN : HN N B) : ∀ (x0 : Nat) (x1 : Int32) (σ : ST), isC 11 x0 → f_X11_isPlayed_0 (B + x0) x1 (put N B σ) = (g_X11_isPlayed_0 N x0 x1 σ).bind (fun q => some (q.1, put N B q.2)) := by
  intro x0 x1 σ hx0
  unfold f_X11_isPlayed_0 g_X11_isPlayed_0
  refine lg (gR_11_2 hx0) ?_
  refine lb (rI_put (sh_11_2 hx0)) (fun v1 => ?_)
  refine lg (gR_11_2 hx0) ?_
  refine lb (rI_put (sh_11_2 hx0)) (fun v2 => ?_)
  refine lg (gR_11_2 hx0) ?_
  refine lb (rI_put (sh_11_2 hx0)) (fun v3 => ?_)
  refine li (fun _ => ?_) (fun _ => ?_)
  · refine lc (l_X11_machine hN hx0) (fun r4 => ?_)
    dsimp only
    refine li (fun _ => ?_) (fun _ => ?_)
    · rfl
    · rfl
  refine li (fun _ => ?_) (fun _ => ?_)
  · refine lc (l_X11_rule hN hx0) (fun r5 => ?_)
    dsimp only
    rfl
  refine li (fun _ => ?_) (fun _ => ?_)
  · refine lc (l_X11_rule hN hx0) (fun r6 => ?_)
    dsimp only
    rfl
  refine li (fun _ => ?_) (fun _ => ?_)
  · refine lc (l_X11_crank hN hx0) (fun r7 => ?_)
    dsimp only
    refine li (fun _ => ?_) (fun _ => ?_)
    · rfl
    · rfl
  refine li (fun _ => ?_) (fun _ => ?_)
  · refine lc (l_X11_oil hN hx0) (fun r8 => ?_)
    dsimp only
    rfl
  refine li (fun _ => ?_) (fun _ => ?_)
  · refine lc (l_X11_lift hN hx0) (fun r9 => ?_)
    dsimp only
    rfl
  refine li (fun _ => ?_) (fun _ => ?_)
  · refine lc (l_X11_arePassed hN hx0) (fun r10 => ?_)
    dsimp only
    rfl
  rfl
noncomputable def g_X11_isPlayed (N : Mem) (x0 : Nat) (x1 : Int32) (σ : ST) : Option (Bool × ST) := g_X11_isPlayed_0 N x0 x1 σ
theorem l_X11_isPlayed {N : Mem} {B : Nat} (hN : HN N B) {x0 : Nat} {x1 : Int32} {σ : ST} (hx0 : isC 11 x0) : f_X11_isPlayed (B + x0) x1 (put N B σ) = (g_X11_isPlayed N x0 x1 σ).bind (fun q => some (q.1, put N B q.2)) := by
  unfold f_X11_isPlayed g_X11_isPlayed
  rw [if_pos (isOb_put hx0)]
  exact l_X11_isPlayed_0 hN _ _ _ hx0
noncomputable def g_X11_played_21 (N : Mem) (n0 : Nat) (x0 : Nat) (x1 : Int32) (x2 : Int32) (σ : ST) : Option (Int32 × ST) :=
  match n0 with
  | 0 => none
  | n + 1 =>
    (xI 2820 σ (x0 + 3) (705 * x1)).bind fun v1 =>
    if v1 ≤ x2 then
    (some ((-1), σ))
    else
    ((g_X11_isPlayed N x0 (((705 * x1) + 1) + (4 * x2)) σ).bind fun r2 =>
    if r2.1 = true then
    (g_X11_played_21 N n x0 x1 (x2 + 1) r2.2)
    else
    (some (x2, r2.2)))
set_option maxHeartbeats 4000000 in
theorem l_X11_played_21 {N : Mem} {B : Nat} (hN : HN N B) : ∀ (n : Nat) (x0 : Nat) (x1 : Int32) (x2 : Int32) (σ : ST), isC 11 x0 → f_X11_played_21 n (B + x0) x1 x2 (put N B σ) = (g_X11_played_21 N n x0 x1 x2 σ).bind (fun q => some (q.1, put N B q.2)) := by
  intro n
  induction n with
  | zero =>
    intro x0 x1 x2 σ hx0
    rfl
  | succ n ih =>
    intro x0 x1 x2 σ hx0
    unfold f_X11_played_21 g_X11_played_21
    refine lg (gR_11_2 hx0) ?_
    refine lb (rI_put (sh_11_2 hx0)) (fun v1 => ?_)
    refine li (fun _ => ?_) (fun _ => ?_)
    · rfl
    · refine lc (l_X11_isPlayed hN hx0) (fun r2 => ?_)
      dsimp only
      refine li (fun _ => ?_) (fun _ => ?_)
      · exact ih _ _ _ _ hx0
      · rfl
noncomputable def g_X11_played_0 (N : Mem) (x0 : Nat) (x1 : Int32) (σ : ST) : Option (Int32 × ST) :=
  (xI 4607 σ (x0 + 1) 1).bind fun v3 =>
  (f_X11_isIn x1 0 (v3 - 1)).bind fun v4 =>
  if v4 = true then
  (g_X11_played_21 N fu x0 x1 0 σ)
  else
  (some ((-2), σ))
set_option maxHeartbeats 4000000 in
theorem l_X11_played_0 {N : Mem} {B : Nat} (hN : HN N B) : ∀ (x0 : Nat) (x1 : Int32) (σ : ST), isC 11 x0 → f_X11_played_0 (B + x0) x1 (put N B σ) = (g_X11_played_0 N x0 x1 σ).bind (fun q => some (q.1, put N B q.2)) := by
  intro x0 x1 σ hx0
  unfold f_X11_played_0 g_X11_played_0
  refine lg (gR_11_0 hx0) ?_
  refine lb (rI_put (sh_11_0 hx0)) (fun v3 => ?_)
  refine lb (rfl) (fun v4 => ?_)
  refine li (fun _ => ?_) (fun _ => ?_)
  · exact l_X11_played_21 hN  _ _ _ _ _ hx0
  · rfl
noncomputable def g_X11_played (N : Mem) (x0 : Nat) (x1 : Int32) (σ : ST) : Option (Int32 × ST) := g_X11_played_0 N x0 x1 σ
theorem l_X11_played {N : Mem} {B : Nat} (hN : HN N B) {x0 : Nat} {x1 : Int32} {σ : ST} (hx0 : isC 11 x0) : f_X11_played (B + x0) x1 (put N B σ) = (g_X11_played N x0 x1 σ).bind (fun q => some (q.1, put N B q.2)) := by
  unfold f_X11_played g_X11_played
  rw [if_pos (isOb_put hx0)]
  exact l_X11_played_0 hN _ _ _ hx0
noncomputable def g_X11_happens_0 (N : Mem) (x0 : Nat) (x1 : Int32) (σ : ST) : Option (ST) :=
  if (jrem x1 5) = 4 then
  ((xI 4607 σ (x0 + 1) 8).bind fun v8 =>
  if 9999 ≤ v8 then
  (some σ)
  else
  ((g_X11_pass N x0 σ).bind fun r9 =>
  some r9))
  else
  ((xI 4607 σ (x0 + 1) 0).bind fun v1 =>
  if v1 = 0 then
  (some σ)
  else
  ((xI 4607 σ (x0 + 1) 0).bind fun v2 =>
  (rmI x1 v2).bind fun v3 =>
  if (jrem x1 5) = 2 then
  ((g_X11_lay N x0 v3 1 (jrem x1 10) σ).bind fun r7 =>
  some r7)
  else
  (if (jrem x1 5) = 3 then
  ((g_X11_clearRoll N x0 v3 σ).bind fun r6 =>
  some r6)
  else
  ((g_X11_canCrank N x0 v3 σ).bind fun v4 =>
  if v4 = false then
  (some σ)
  else
  ((g_X11_crankNow N x0 v3 (jrem x1 997) σ).bind fun r5 =>
  some r5)))))
set_option maxHeartbeats 4000000 in
theorem l_X11_happens_0 {N : Mem} {B : Nat} (hN : HN N B) : ∀ (x0 : Nat) (x1 : Int32) (σ : ST), isC 11 x0 → f_X11_happens_0 (B + x0) x1 (put N B σ) = (g_X11_happens_0 N x0 x1 σ).bind (fun q => some (put N B q)) := by
  intro x0 x1 σ hx0
  unfold f_X11_happens_0 g_X11_happens_0
  refine li (fun _ => ?_) (fun _ => ?_)
  · refine lg (gR_11_0 hx0) ?_
    refine lb (rI_put (sh_11_0 hx0)) (fun v8 => ?_)
    refine li (fun _ => ?_) (fun _ => ?_)
    · rfl
    · refine lm (l_X11_pass hN hx0) (fun r9 => ?_)
      rfl
  · refine lg (gR_11_0 hx0) ?_
    refine lb (rI_put (sh_11_0 hx0)) (fun v1 => ?_)
    refine li (fun _ => ?_) (fun _ => ?_)
    · rfl
    · refine lg (gR_11_0 hx0) ?_
      refine lb (rI_put (sh_11_0 hx0)) (fun v2 => ?_)
      refine lb (rfl) (fun v3 => ?_)
      refine li (fun _ => ?_) (fun _ => ?_)
      · refine lm (l_X11_lay hN hx0) (fun r7 => ?_)
        rfl
      · refine li (fun _ => ?_) (fun _ => ?_)
        · refine lm (l_X11_clearRoll hN hx0) (fun r6 => ?_)
          rfl
        · refine lb (l_X11_canCrank hN hx0) (fun v4 => ?_)
          refine li (fun _ => ?_) (fun _ => ?_)
          · rfl
          · refine lm (l_X11_crankNow hN hx0) (fun r5 => ?_)
            rfl
noncomputable def g_X11_happens (N : Mem) (x0 : Nat) (x1 : Int32) (σ : ST) : Option (ST) := g_X11_happens_0 N x0 x1 σ
theorem l_X11_happens {N : Mem} {B : Nat} (hN : HN N B) {x0 : Nat} {x1 : Int32} {σ : ST} (hx0 : isC 11 x0) : f_X11_happens (B + x0) x1 (put N B σ) = (g_X11_happens N x0 x1 σ).map (put N B) := by
  unfold f_X11_happens g_X11_happens
  rw [if_pos (isOb_put hx0)]
  exact lmap (l_X11_happens_0 hN _ _ _ hx0)
noncomputable def g_X11_decades_43 (N : Mem) (n0 : Nat) (x0 : Nat) (x2 : Int32) (x3 : Int32) (σ : ST) : Option (Int32 × ST) :=
  match n0 with
  | 0 => none
  | n + 1 =>
    if x2 ≤ x3 then
    ((xI 4607 σ (x0 + 1) 8).bind fun v1 =>
    some (v1, σ))
    else
    ((xI 4607 σ (x0 + 1) 9).bind fun v2 =>
    (g_X11_anew N x0 σ).bind fun r3 =>
    (g_X11_happens N x0 v2 r3).bind fun r4 =>
    g_X11_decades_43 N n x0 x2 (x3 + 1) r4)
set_option maxHeartbeats 4000000 in
theorem l_X11_decades_43 {N : Mem} {B : Nat} (hN : HN N B) : ∀ (n : Nat) (x0 : Nat) (x2 : Int32) (x3 : Int32) (σ : ST), isC 11 x0 → f_X11_decades_43 n (B + x0) x2 x3 (put N B σ) = (g_X11_decades_43 N n x0 x2 x3 σ).bind (fun q => some (q.1, put N B q.2)) := by
  intro n
  induction n with
  | zero =>
    intro x0 x2 x3 σ hx0
    rfl
  | succ n ih =>
    intro x0 x2 x3 σ hx0
    unfold f_X11_decades_43 g_X11_decades_43
    refine li (fun _ => ?_) (fun _ => ?_)
    · refine lg (gR_11_0 hx0) ?_
      refine lb (rI_put (sh_11_0 hx0)) (fun v1 => ?_)
      rfl
    · refine lg (gR_11_0 hx0) ?_
      refine lb (rI_put (sh_11_0 hx0)) (fun v2 => ?_)
      refine lm (l_X11_anew hN hx0) (fun r3 => ?_)
      refine lm (l_X11_happens hN hx0) (fun r4 => ?_)
      exact ih _ _ _ _ hx0
noncomputable def g_X11_decades_0 (N : Mem) (x0 : Nat) (x1 : Int32) (x2 : Int32) (σ : ST) : Option (Int32 × ST) :=
  (f_X11_isIn x1 0 9999).bind fun v5 =>
  if v5 = false then
  (some ((-1), σ))
  else
  ((f_X11_isIn x2 1 40).bind fun v6 =>
  if v6 = true then
  ((g_X11_keep N x0 σ).bind fun r7 =>
  (yI 4607 r7 (x0 + 1) 9 ((x1 * 2) + 193)).bind fun r8 =>
  g_X11_decades_43 N fu x0 x2 0 r8)
  else
  (some ((-1), σ)))
set_option maxHeartbeats 4000000 in
theorem l_X11_decades_0 {N : Mem} {B : Nat} (hN : HN N B) : ∀ (x0 : Nat) (x1 : Int32) (x2 : Int32) (σ : ST), isC 11 x0 → f_X11_decades_0 (B + x0) x1 x2 (put N B σ) = (g_X11_decades_0 N x0 x1 x2 σ).bind (fun q => some (q.1, put N B q.2)) := by
  intro x0 x1 x2 σ hx0
  unfold f_X11_decades_0 g_X11_decades_0
  refine lb (rfl) (fun v5 => ?_)
  refine li (fun _ => ?_) (fun _ => ?_)
  · rfl
  · refine lb (rfl) (fun v6 => ?_)
    refine li (fun _ => ?_) (fun _ => ?_)
    · refine lm (l_X11_keep hN hx0) (fun r7 => ?_)
      refine lg (gR_11_0 hx0) ?_
      refine lm (wI_put (sh_11_0 hx0)) (fun r8 => ?_)
      exact l_X11_decades_43 hN  _ _ _ _ _ hx0
    · rfl
noncomputable def g_X11_decades (N : Mem) (x0 : Nat) (x1 : Int32) (x2 : Int32) (σ : ST) : Option (Int32 × ST) := g_X11_decades_0 N x0 x1 x2 σ
theorem l_X11_decades {N : Mem} {B : Nat} (hN : HN N B) {x0 : Nat} {x1 : Int32} {x2 : Int32} {σ : ST} (hx0 : isC 11 x0) : f_X11_decades (B + x0) x1 x2 (put N B σ) = (g_X11_decades N x0 x1 x2 σ).bind (fun q => some (q.1, put N B q.2)) := by
  unfold f_X11_decades g_X11_decades
  rw [if_pos (isOb_put hx0)]
  exact l_X11_decades_0 hN _ _ _ _ hx0
noncomputable def g_X11_of_0 (N : Mem) (x0 : Nat) (x1 : Int32) (x2 : Int32) (σ : ST) : Option (Int32 × ST) :=
  (g_X11_isMachine N x0 x1 σ).bind fun v1 =>
  if v1 = true then
  (if x2 = 0 then
  ((g_X11_get N x0 x1 16 σ).bind fun v2 =>
  some (v2, σ))
  else
  (if x2 = 5 then
  ((xI 4607 σ (x0 + 1) 2).bind fun v3 =>
  (g_X11_looseOf N x0 v3 x1 σ).bind fun r4 =>
  some (r4.1, r4.2))
  else
  (if x2 = 6 then
  ((g_X11_believesOf N x0 x1 σ).bind fun r5 =>
  some (r5.1, r5.2))
  else
  (if x2 = 7 then
  ((g_X11_wearsOf N x0 x1 σ).bind fun r6 =>
  some (r6.1, r6.2))
  else
  ((f_X11_isIn x2 1 4).bind fun v7 =>
  if v7 = false then
  ((g_X11_get N x0 x1 3 σ).bind fun v8 =>
  (f_X11_isIn x2 10 (9 + v8)).bind fun v9 =>
  if v9 = false then
  (some ((-1), σ))
  else
  ((g_X11_get N x0 x1 ((4 + x2) - 10) σ).bind fun v10 =>
  some (v10, σ)))
  else
  ((g_X11_get N x0 x1 (x2 - 1) σ).bind fun v11 =>
  some (v11, σ)))))))
  else
  (some ((-1), σ))
set_option maxHeartbeats 4000000 in
theorem l_X11_of_0 {N : Mem} {B : Nat} (hN : HN N B) : ∀ (x0 : Nat) (x1 : Int32) (x2 : Int32) (σ : ST), isC 11 x0 → f_X11_of_0 (B + x0) x1 x2 (put N B σ) = (g_X11_of_0 N x0 x1 x2 σ).bind (fun q => some (q.1, put N B q.2)) := by
  intro x0 x1 x2 σ hx0
  unfold f_X11_of_0 g_X11_of_0
  refine lb (l_X11_isMachine hN hx0) (fun v1 => ?_)
  refine li (fun _ => ?_) (fun _ => ?_)
  · refine li (fun _ => ?_) (fun _ => ?_)
    · refine lb (l_X11_get hN hx0) (fun v2 => ?_)
      rfl
    refine li (fun _ => ?_) (fun _ => ?_)
    · refine lg (gR_11_0 hx0) ?_
      refine lb (rI_put (sh_11_0 hx0)) (fun v3 => ?_)
      refine lc (l_X11_looseOf hN hx0) (fun r4 => ?_)
      dsimp only
      rfl
    refine li (fun _ => ?_) (fun _ => ?_)
    · refine lc (l_X11_believesOf hN hx0) (fun r5 => ?_)
      dsimp only
      rfl
    refine li (fun _ => ?_) (fun _ => ?_)
    · refine lc (l_X11_wearsOf hN hx0) (fun r6 => ?_)
      dsimp only
      rfl
    refine lb (rfl) (fun v7 => ?_)
    refine li (fun _ => ?_) (fun _ => ?_)
    · refine lb (l_X11_get hN hx0) (fun v8 => ?_)
      refine lb (rfl) (fun v9 => ?_)
      refine li (fun _ => ?_) (fun _ => ?_)
      · rfl
      · refine lb (l_X11_get hN hx0) (fun v10 => ?_)
        rfl
    · refine lb (l_X11_get hN hx0) (fun v11 => ?_)
      rfl
  · rfl
noncomputable def g_X11_of (N : Mem) (x0 : Nat) (x1 : Int32) (x2 : Int32) (σ : ST) : Option (Int32 × ST) := g_X11_of_0 N x0 x1 x2 σ
theorem l_X11_of {N : Mem} {B : Nat} (hN : HN N B) {x0 : Nat} {x1 : Int32} {x2 : Int32} {σ : ST} (hx0 : isC 11 x0) : f_X11_of (B + x0) x1 x2 (put N B σ) = (g_X11_of N x0 x1 x2 σ).bind (fun q => some (q.1, put N B q.2)) := by
  unfold f_X11_of g_X11_of
  rw [if_pos (isOb_put hx0)]
  exact l_X11_of_0 hN _ _ _ _ hx0
noncomputable def g_X11_told_0 (N : Mem) (x0 : Nat) (x1 : Int32) (x2 : Bool) (σ : ST) : Option (Int32) :=
  (f_X11_isDigit x1).bind fun v1 =>
  if v1 = false then
  (some (-1))
  else
  (if x2 = false then
  ((g_X11_ruleOf N x0 x1 0 σ).bind fun v2 =>
  some v2)
  else
  ((g_X11_ruleOf N x0 x1 1 σ).bind fun v3 =>
  some v3))
set_option maxHeartbeats 4000000 in
theorem l_X11_told_0 {N : Mem} {B : Nat} (hN : HN N B) : ∀ (x0 : Nat) (x1 : Int32) (x2 : Bool) (σ : ST), isC 11 x0 → f_X11_told_0 (B + x0) x1 x2 (put N B σ) = (g_X11_told_0 N x0 x1 x2 σ).bind some := by
  intro x0 x1 x2 σ hx0
  unfold f_X11_told_0 g_X11_told_0
  refine lb (rfl) (fun v1 => ?_)
  refine li (fun _ => ?_) (fun _ => ?_)
  · rfl
  · refine li (fun _ => ?_) (fun _ => ?_)
    · refine lb (l_X11_ruleOf hN hx0) (fun v2 => ?_)
      rfl
    · refine lb (l_X11_ruleOf hN hx0) (fun v3 => ?_)
      rfl
noncomputable def g_X11_told (N : Mem) (x0 : Nat) (x1 : Int32) (x2 : Bool) (σ : ST) : Option (Int32) := g_X11_told_0 N x0 x1 x2 σ
theorem l_X11_told {N : Mem} {B : Nat} (hN : HN N B) {x0 : Nat} {x1 : Int32} {x2 : Bool} {σ : ST} (hx0 : isC 11 x0) : f_X11_told (B + x0) x1 x2 (put N B σ) = g_X11_told N x0 x1 x2 σ := by
  unfold f_X11_told g_X11_told
  rw [if_pos (isOb_put hx0)]
  exact lsm (l_X11_told_0 hN _ _ _ _ hx0)
noncomputable def g_X11_is_0 (N : Mem) (x0 : Nat) (x1 : Int32) (σ : ST) : Option (Int32) :=
  (f_X11_isIn x1 0 1).bind fun v1 =>
  if v1 = false then
  (some (-2))
  else
  ((xI 4607 σ (x0 + 1) (8 + x1)).bind fun v2 =>
  some v2)
set_option maxHeartbeats 4000000 in
theorem l_X11_is_0 {N : Mem} {B : Nat} (hN : HN N B) : ∀ (x0 : Nat) (x1 : Int32) (σ : ST), isC 11 x0 → f_X11_is_0 (B + x0) x1 (put N B σ) = (g_X11_is_0 N x0 x1 σ).bind some := by
  intro x0 x1 σ hx0
  unfold f_X11_is_0 g_X11_is_0
  refine lb (rfl) (fun v1 => ?_)
  refine li (fun _ => ?_) (fun _ => ?_)
  · rfl
  · refine lg (gR_11_0 hx0) ?_
    refine lb (rI_put (sh_11_0 hx0)) (fun v2 => ?_)
    rfl
noncomputable def g_X11_is (N : Mem) (x0 : Nat) (x1 : Int32) (σ : ST) : Option (Int32) := g_X11_is_0 N x0 x1 σ
theorem l_X11_is {N : Mem} {B : Nat} (hN : HN N B) {x0 : Nat} {x1 : Int32} {σ : ST} (hx0 : isC 11 x0) : f_X11_is (B + x0) x1 (put N B σ) = g_X11_is N x0 x1 σ := by
  unfold f_X11_is g_X11_is
  rw [if_pos (isOb_put hx0)]
  exact lsm (l_X11_is_0 hN _ _ _ hx0)
noncomputable def g_X11_book_54 (N : Mem) (x2 : Int32) (s0 : Bool) (s1 : Int32) (s2 : Nat) (σ : ST) : Option (Int32) :=
  (xI 4607 σ s2 (s1 + (jz s0))).bind fun v1 =>
  if x2 = 0 then
  (some (v1 / 8))
  else
  (if x2 = 1 then
  (some (jrem v1 8))
  else
  (if x2 = 2 then
  (some (v1 / 10000))
  else
  (if x2 = 3 then
  (some (jrem v1 10000))
  else
  (some (-2)))))
set_option maxHeartbeats 4000000 in
theorem l_X11_book_54 {N : Mem} {B : Nat} (hN : HN N B) : ∀ (x2 : Int32) (s0 : Bool) (s1 : Int32) (s2 : Nat) (σ : ST), isA 4607 s2 → f_X11_book_54 x2 s0 s1 (B + s2) (put N B σ) = (g_X11_book_54 N x2 s0 s1 s2 σ).bind some := by
  intro x2 s0 s1 s2 σ hs2
  unfold f_X11_book_54 g_X11_book_54
  refine lb (rI_put hs2) (fun v1 => ?_)
  refine li (fun _ => ?_) (fun _ => ?_)
  · rfl
  · refine li (fun _ => ?_) (fun _ => ?_)
    · rfl
    · refine li (fun _ => ?_) (fun _ => ?_)
      · rfl
      · refine li (fun _ => ?_) (fun _ => ?_)
        · rfl
        · rfl
noncomputable def g_X11_book_0 (N : Mem) (x0 : Nat) (x1 : Int32) (x2 : Int32) (σ : ST) : Option (Int32) :=
  if x1 = (-1) then
  ((xI 4607 σ (x0 + 1) 10).bind fun v4 =>
  some v4)
  else
  ((xI 4607 σ (x0 + 1) 10).bind fun v2 =>
  (f_X11_isIn x1 0 (v2 - 1)).bind fun v3 =>
  if v3 = true then
  (if x2 ≤ 1 then
  (g_X11_book_54 N x2 false (4547 + (2 * x1)) (x0 + 1) σ)
  else
  (g_X11_book_54 N x2 true (4547 + (2 * x1)) (x0 + 1) σ))
  else
  (some (-2)))
set_option maxHeartbeats 4000000 in
theorem l_X11_book_0 {N : Mem} {B : Nat} (hN : HN N B) : ∀ (x0 : Nat) (x1 : Int32) (x2 : Int32) (σ : ST), isC 11 x0 → f_X11_book_0 (B + x0) x1 x2 (put N B σ) = (g_X11_book_0 N x0 x1 x2 σ).bind some := by
  intro x0 x1 x2 σ hx0
  unfold f_X11_book_0 g_X11_book_0
  refine li (fun _ => ?_) (fun _ => ?_)
  · refine lg (gR_11_0 hx0) ?_
    refine lb (rI_put (sh_11_0 hx0)) (fun v4 => ?_)
    rfl
  · refine lg (gR_11_0 hx0) ?_
    refine lb (rI_put (sh_11_0 hx0)) (fun v2 => ?_)
    refine lb (rfl) (fun v3 => ?_)
    refine li (fun _ => ?_) (fun _ => ?_)
    · refine lg (gR_11_0 hx0) ?_
      refine li (fun _ => ?_) (fun _ => ?_)
      · exact l_X11_book_54 hN  _ _ _ _ _ (sh_11_0 hx0)
      · exact l_X11_book_54 hN  _ _ _ _ _ (sh_11_0 hx0)
    · rfl
noncomputable def g_X11_book (N : Mem) (x0 : Nat) (x1 : Int32) (x2 : Int32) (σ : ST) : Option (Int32) := g_X11_book_0 N x0 x1 x2 σ
theorem l_X11_book {N : Mem} {B : Nat} (hN : HN N B) {x0 : Nat} {x1 : Int32} {x2 : Int32} {σ : ST} (hx0 : isC 11 x0) : f_X11_book (B + x0) x1 x2 (put N B σ) = g_X11_book N x0 x1 x2 σ := by
  unfold f_X11_book g_X11_book
  rw [if_pos (isOb_put hx0)]
  exact lsm (l_X11_book_0 hN _ _ _ _ hx0)
noncomputable def g_X11_ledger_52 (N : Mem) (k20 : Nat → Int32 → Int32 → Int32 → ST → Option (Int32)) (x0 : Nat) (x1 : Int32) (x3 : Int32) (s0 : Bool) (s1 : Int32) (σ : ST) : Option (Int32) :=
  k20 x0 x1 (s1 + (jz s0)) (x3 + 1) σ
set_option maxHeartbeats 4000000 in
theorem l_X11_ledger_52 {N : Mem} {B : Nat} (hN : HN N B) {fk20 : Nat → Int32 → Int32 → Int32 → Mem → Option (Int32)} {k20 : Nat → Int32 → Int32 → Int32 → ST → Option (Int32)} (hk20 : ∀ (x0 : Nat) (x1 : Int32) (x2 : Int32) (x3 : Int32) (σ : ST), isC 11 x0 → fk20 (B + x0) x1 x2 x3 (put N B σ) = (k20 x0 x1 x2 x3 σ).bind some) : ∀ (x0 : Nat) (x1 : Int32) (x3 : Int32) (s0 : Bool) (s1 : Int32) (σ : ST), isC 11 x0 → f_X11_ledger_52 fk20 (B + x0) x1 x3 s0 s1 (put N B σ) = (g_X11_ledger_52 N k20 x0 x1 x3 s0 s1 σ).bind some := by
  intro x0 x1 x3 s0 s1 σ hx0
  unfold f_X11_ledger_52 g_X11_ledger_52
  exact hk20 _ _ _ _ _ hx0
noncomputable def g_X11_ledger_47 (N : Mem) (k20 : Nat → Int32 → Int32 → Int32 → ST → Option (Int32)) (x0 : Nat) (x1 : Int32) (x3 : Int32) (s0 : Int32) (σ : ST) : Option (Int32) :=
  g_X11_ledger_52 N k20 x0 x1 x3 true s0 σ
set_option maxHeartbeats 4000000 in
theorem l_X11_ledger_47 {N : Mem} {B : Nat} (hN : HN N B) {fk20 : Nat → Int32 → Int32 → Int32 → Mem → Option (Int32)} {k20 : Nat → Int32 → Int32 → Int32 → ST → Option (Int32)} (hk20 : ∀ (x0 : Nat) (x1 : Int32) (x2 : Int32) (x3 : Int32) (σ : ST), isC 11 x0 → fk20 (B + x0) x1 x2 x3 (put N B σ) = (k20 x0 x1 x2 x3 σ).bind some) : ∀ (x0 : Nat) (x1 : Int32) (x3 : Int32) (s0 : Int32) (σ : ST), isC 11 x0 → f_X11_ledger_47 fk20 (B + x0) x1 x3 s0 (put N B σ) = (g_X11_ledger_47 N k20 x0 x1 x3 s0 σ).bind some := by
  intro x0 x1 x3 s0 σ hx0
  unfold f_X11_ledger_47 g_X11_ledger_47
  exact l_X11_ledger_52 hN hk20 _ _ _ _ _ _ hx0
noncomputable def g_X11_ledger_20 (N : Mem) (n0 : Nat) (x0 : Nat) (x1 : Int32) (x2 : Int32) (x3 : Int32) (σ : ST) : Option (Int32) :=
  match n0 with
  | 0 => none
  | n + 1 =>
    (xI 4607 σ (x0 + 1) 10).bind fun v1 =>
    if v1 ≤ x3 then
    (some x2)
    else
    (if x1 = (-1) then
    (g_X11_ledger_47 N (g_X11_ledger_20 N n) x0 x1 x3 x2 σ)
    else
    ((g_X11_book N x0 x3 1 σ).bind fun v2 =>
    if v2 = x1 then
    (g_X11_ledger_47 N (g_X11_ledger_20 N n) x0 x1 x3 x2 σ)
    else
    (g_X11_ledger_52 N (g_X11_ledger_20 N n) x0 x1 x3 false x2 σ)))
set_option maxHeartbeats 4000000 in
theorem l_X11_ledger_20 {N : Mem} {B : Nat} (hN : HN N B) : ∀ (n : Nat) (x0 : Nat) (x1 : Int32) (x2 : Int32) (x3 : Int32) (σ : ST), isC 11 x0 → f_X11_ledger_20 n (B + x0) x1 x2 x3 (put N B σ) = (g_X11_ledger_20 N n x0 x1 x2 x3 σ).bind some := by
  intro n
  induction n with
  | zero =>
    intro x0 x1 x2 x3 σ hx0
    rfl
  | succ n ih =>
    intro x0 x1 x2 x3 σ hx0
    unfold f_X11_ledger_20 g_X11_ledger_20
    refine lg (gR_11_0 hx0) ?_
    refine lb (rI_put (sh_11_0 hx0)) (fun v1 => ?_)
    refine li (fun _ => ?_) (fun _ => ?_)
    · rfl
    · refine li (fun _ => ?_) (fun _ => ?_)
      · exact l_X11_ledger_47 hN ih _ _ _ _ _ hx0
      · refine lb (l_X11_book hN hx0) (fun v2 => ?_)
        refine li (fun _ => ?_) (fun _ => ?_)
        · exact l_X11_ledger_47 hN ih _ _ _ _ _ hx0
        · exact l_X11_ledger_52 hN ih _ _ _ _ _ _ hx0
noncomputable def g_X11_ledger_16 (N : Mem) (x0 : Nat) (x1 : Int32) (σ : ST) : Option (Int32) :=
  g_X11_ledger_20 N fu x0 x1 0 0 σ
set_option maxHeartbeats 4000000 in
theorem l_X11_ledger_16 {N : Mem} {B : Nat} (hN : HN N B) : ∀ (x0 : Nat) (x1 : Int32) (σ : ST), isC 11 x0 → f_X11_ledger_16 (B + x0) x1 (put N B σ) = (g_X11_ledger_16 N x0 x1 σ).bind some := by
  intro x0 x1 σ hx0
  unfold f_X11_ledger_16 g_X11_ledger_16
  exact l_X11_ledger_20 hN  _ _ _ _ _ _ hx0
noncomputable def g_X11_ledger_0 (N : Mem) (x0 : Nat) (x1 : Int32) (σ : ST) : Option (Int32) :=
  if x1 = (-1) then
  (g_X11_ledger_16 N x0 x1 σ)
  else
  ((g_X11_isMachine N x0 x1 σ).bind fun v3 =>
  if v3 = true then
  (g_X11_ledger_16 N x0 x1 σ)
  else
  (some (-2)))
set_option maxHeartbeats 4000000 in
theorem l_X11_ledger_0 {N : Mem} {B : Nat} (hN : HN N B) : ∀ (x0 : Nat) (x1 : Int32) (σ : ST), isC 11 x0 → f_X11_ledger_0 (B + x0) x1 (put N B σ) = (g_X11_ledger_0 N x0 x1 σ).bind some := by
  intro x0 x1 σ hx0
  unfold f_X11_ledger_0 g_X11_ledger_0
  refine li (fun _ => ?_) (fun _ => ?_)
  · exact l_X11_ledger_16 hN  _ _ _ hx0
  · refine lb (l_X11_isMachine hN hx0) (fun v3 => ?_)
    refine li (fun _ => ?_) (fun _ => ?_)
    · exact l_X11_ledger_16 hN  _ _ _ hx0
    · rfl
noncomputable def g_X11_ledger (N : Mem) (x0 : Nat) (x1 : Int32) (σ : ST) : Option (Int32) := g_X11_ledger_0 N x0 x1 σ
theorem l_X11_ledger {N : Mem} {B : Nat} (hN : HN N B) {x0 : Nat} {x1 : Int32} {σ : ST} (hx0 : isC 11 x0) : f_X11_ledger (B + x0) x1 (put N B σ) = g_X11_ledger N x0 x1 σ := by
  unfold f_X11_ledger g_X11_ledger
  rw [if_pos (isOb_put hx0)]
  exact lsm (l_X11_ledger_0 hN _ _ _ hx0)
noncomputable def g_X11_snow_48 (N : Mem) (k4 : Nat → Int32 → Int32 → ST → Option (Int32)) (k16 : Nat → Int32 → Int32 → Int32 → ST → Option (Int32)) (x0 : Nat) (x2 : Int32) (x3 : Int32) (s0 : Bool) (s1 : Int32) (σ : ST) : Option (Int32) :=
  k16 x0 (s1 + (jz s0)) x2 (x3 + 1) σ
set_option maxHeartbeats 4000000 in
theorem l_X11_snow_48 {N : Mem} {B : Nat} (hN : HN N B) {fk4 : Nat → Int32 → Int32 → Mem → Option (Int32)} {k4 : Nat → Int32 → Int32 → ST → Option (Int32)} (hk4 : ∀ (x0 : Nat) (x1 : Int32) (x2 : Int32) (σ : ST), isC 11 x0 → fk4 (B + x0) x1 x2 (put N B σ) = (k4 x0 x1 x2 σ).bind some) {fk16 : Nat → Int32 → Int32 → Int32 → Mem → Option (Int32)} {k16 : Nat → Int32 → Int32 → Int32 → ST → Option (Int32)} (hk16 : ∀ (x0 : Nat) (x1 : Int32) (x2 : Int32) (x3 : Int32) (σ : ST), isC 11 x0 → fk16 (B + x0) x1 x2 x3 (put N B σ) = (k16 x0 x1 x2 x3 σ).bind some) : ∀ (x0 : Nat) (x2 : Int32) (x3 : Int32) (s0 : Bool) (s1 : Int32) (σ : ST), isC 11 x0 → f_X11_snow_48 fk4 fk16 (B + x0) x2 x3 s0 s1 (put N B σ) = (g_X11_snow_48 N k4 k16 x0 x2 x3 s0 s1 σ).bind some := by
  intro x0 x2 x3 s0 s1 σ hx0
  unfold f_X11_snow_48 g_X11_snow_48
  exact hk16 _ _ _ _ _ hx0
noncomputable def g_X11_snow_16 (N : Mem) (n0 : Nat) (k4 : Nat → Int32 → Int32 → ST → Option (Int32)) (x0 : Nat) (x1 : Int32) (x2 : Int32) (x3 : Int32) (σ : ST) : Option (Int32) :=
  match n0 with
  | 0 => none
  | n + 1 =>
    (g_X11_get N x0 x2 2 σ).bind fun v1 =>
    (f_X11_longOf v1).bind fun v2 =>
    if v2 ≤ x3 then
    (k4 x0 x1 (x2 + 1) σ)
    else
    ((g_X11_get N x0 x2 2 σ).bind fun v3 =>
    (f_X11_digitOf v3 x3).bind fun v4 =>
    if v4 = 0 then
    (g_X11_snow_48 N k4 (g_X11_snow_16 N n k4) x0 x2 x3 true x1 σ)
    else
    (g_X11_snow_48 N k4 (g_X11_snow_16 N n k4) x0 x2 x3 false x1 σ))
set_option maxHeartbeats 4000000 in
theorem l_X11_snow_16 {N : Mem} {B : Nat} (hN : HN N B) {fk4 : Nat → Int32 → Int32 → Mem → Option (Int32)} {k4 : Nat → Int32 → Int32 → ST → Option (Int32)} (hk4 : ∀ (x0 : Nat) (x1 : Int32) (x2 : Int32) (σ : ST), isC 11 x0 → fk4 (B + x0) x1 x2 (put N B σ) = (k4 x0 x1 x2 σ).bind some) : ∀ (n : Nat) (x0 : Nat) (x1 : Int32) (x2 : Int32) (x3 : Int32) (σ : ST), isC 11 x0 → f_X11_snow_16 n fk4 (B + x0) x1 x2 x3 (put N B σ) = (g_X11_snow_16 N n k4 x0 x1 x2 x3 σ).bind some := by
  intro n
  induction n with
  | zero =>
    intro x0 x1 x2 x3 σ hx0
    rfl
  | succ n ih =>
    intro x0 x1 x2 x3 σ hx0
    unfold f_X11_snow_16 g_X11_snow_16
    refine lb (l_X11_get hN hx0) (fun v1 => ?_)
    refine lb (rfl) (fun v2 => ?_)
    refine li (fun _ => ?_) (fun _ => ?_)
    · exact hk4 _ _ _ _ hx0
    · refine lb (l_X11_get hN hx0) (fun v3 => ?_)
      refine lb (rfl) (fun v4 => ?_)
      refine li (fun _ => ?_) (fun _ => ?_)
      · exact l_X11_snow_48 hN hk4 ih _ _ _ _ _ _ hx0
      · exact l_X11_snow_48 hN hk4 ih _ _ _ _ _ _ hx0
noncomputable def g_X11_snow_4 (N : Mem) (n0 : Nat) (x0 : Nat) (x1 : Int32) (x2 : Int32) (σ : ST) : Option (Int32) :=
  match n0 with
  | 0 => none
  | n + 1 =>
    (xI 4607 σ (x0 + 1) 0).bind fun v5 =>
    if v5 ≤ x2 then
    (some x1)
    else
    (g_X11_snow_16 N fu (g_X11_snow_4 N n) x0 x1 x2 0 σ)
set_option maxHeartbeats 4000000 in
theorem l_X11_snow_4 {N : Mem} {B : Nat} (hN : HN N B) : ∀ (n : Nat) (x0 : Nat) (x1 : Int32) (x2 : Int32) (σ : ST), isC 11 x0 → f_X11_snow_4 n (B + x0) x1 x2 (put N B σ) = (g_X11_snow_4 N n x0 x1 x2 σ).bind some := by
  intro n
  induction n with
  | zero =>
    intro x0 x1 x2 σ hx0
    rfl
  | succ n ih =>
    intro x0 x1 x2 σ hx0
    unfold f_X11_snow_4 g_X11_snow_4
    refine lg (gR_11_0 hx0) ?_
    refine lb (rI_put (sh_11_0 hx0)) (fun v5 => ?_)
    refine li (fun _ => ?_) (fun _ => ?_)
    · rfl
    · exact l_X11_snow_16 hN ih _ _ _ _ _ _ hx0
noncomputable def g_X11_snow_0 (N : Mem) (x0 : Nat) (σ : ST) : Option (Int32) :=
  g_X11_snow_4 N fu x0 0 0 σ
set_option maxHeartbeats 4000000 in
theorem l_X11_snow_0 {N : Mem} {B : Nat} (hN : HN N B) : ∀ (x0 : Nat) (σ : ST), isC 11 x0 → f_X11_snow_0 (B + x0) (put N B σ) = (g_X11_snow_0 N x0 σ).bind some := by
  intro x0 σ hx0
  unfold f_X11_snow_0 g_X11_snow_0
  exact l_X11_snow_4 hN  _ _ _ _ _ hx0
noncomputable def g_X11_snow (N : Mem) (x0 : Nat) (σ : ST) : Option (Int32) := g_X11_snow_0 N x0 σ
theorem l_X11_snow {N : Mem} {B : Nat} (hN : HN N B) {x0 : Nat} {σ : ST} (hx0 : isC 11 x0) : f_X11_snow (B + x0) (put N B σ) = g_X11_snow N x0 σ := by
  unfold f_X11_snow g_X11_snow
  rw [if_pos (isOb_put hx0)]
  exact lsm (l_X11_snow_0 hN _ _ hx0)
noncomputable def g_X11_worn_4 (N : Mem) (n0 : Nat) (x0 : Nat) (x1 : Int32) (x2 : Int32) (σ : ST) : Option (Int32) :=
  match n0 with
  | 0 => none
  | n + 1 =>
    (xI 4607 σ (x0 + 1) 0).bind fun v1 =>
    if v1 ≤ x2 then
    (some x1)
    else
    (if x1 = (-1) then
    (g_X11_worn_4 N n x0 x2 (x2 + 1) σ)
    else
    ((g_X11_get N x0 x2 0 σ).bind fun v2 =>
    (g_X11_get N x0 x1 0 σ).bind fun v3 =>
    if v2 ≤ v3 then
    (g_X11_worn_4 N n x0 x1 (x2 + 1) σ)
    else
    (g_X11_worn_4 N n x0 x2 (x2 + 1) σ)))
set_option maxHeartbeats 4000000 in
theorem l_X11_worn_4 {N : Mem} {B : Nat} (hN : HN N B) : ∀ (n : Nat) (x0 : Nat) (x1 : Int32) (x2 : Int32) (σ : ST), isC 11 x0 → f_X11_worn_4 n (B + x0) x1 x2 (put N B σ) = (g_X11_worn_4 N n x0 x1 x2 σ).bind some := by
  intro n
  induction n with
  | zero =>
    intro x0 x1 x2 σ hx0
    rfl
  | succ n ih =>
    intro x0 x1 x2 σ hx0
    unfold f_X11_worn_4 g_X11_worn_4
    refine lg (gR_11_0 hx0) ?_
    refine lb (rI_put (sh_11_0 hx0)) (fun v1 => ?_)
    refine li (fun _ => ?_) (fun _ => ?_)
    · rfl
    · refine li (fun _ => ?_) (fun _ => ?_)
      · exact ih _ _ _ _ hx0
      · refine lb (l_X11_get hN hx0) (fun v2 => ?_)
        refine lb (l_X11_get hN hx0) (fun v3 => ?_)
        refine li (fun _ => ?_) (fun _ => ?_)
        · exact ih _ _ _ _ hx0
        · exact ih _ _ _ _ hx0
noncomputable def g_X11_worn_0 (N : Mem) (x0 : Nat) (σ : ST) : Option (Int32) :=
  g_X11_worn_4 N fu x0 (-1) 0 σ
set_option maxHeartbeats 4000000 in
theorem l_X11_worn_0 {N : Mem} {B : Nat} (hN : HN N B) : ∀ (x0 : Nat) (σ : ST), isC 11 x0 → f_X11_worn_0 (B + x0) (put N B σ) = (g_X11_worn_0 N x0 σ).bind some := by
  intro x0 σ hx0
  unfold f_X11_worn_0 g_X11_worn_0
  exact l_X11_worn_4 hN  _ _ _ _ _ hx0
noncomputable def g_X11_worn (N : Mem) (x0 : Nat) (σ : ST) : Option (Int32) := g_X11_worn_0 N x0 σ
theorem l_X11_worn {N : Mem} {B : Nat} (hN : HN N B) {x0 : Nat} {σ : ST} (hx0 : isC 11 x0) : f_X11_worn (B + x0) (put N B σ) = g_X11_worn N x0 σ := by
  unfold f_X11_worn g_X11_worn
  rw [if_pos (isOb_put hx0)]
  exact lsm (l_X11_worn_0 hN _ _ hx0)
noncomputable def g_X11_blank_31 (N : Mem) (k4 : Nat → Int32 → Int32 → ST → Option (Int32)) (x0 : Nat) (x2 : Int32) (s0 : Int32) (s1 : Int32) (σ : ST) : Option (Int32) :=
  k4 x0 (s1 ||| s0) (x2 + 1) σ
set_option maxHeartbeats 4000000 in
theorem l_X11_blank_31 {N : Mem} {B : Nat} (hN : HN N B) {fk4 : Nat → Int32 → Int32 → Mem → Option (Int32)} {k4 : Nat → Int32 → Int32 → ST → Option (Int32)} (hk4 : ∀ (x0 : Nat) (x1 : Int32) (x2 : Int32) (σ : ST), isC 11 x0 → fk4 (B + x0) x1 x2 (put N B σ) = (k4 x0 x1 x2 σ).bind some) : ∀ (x0 : Nat) (x2 : Int32) (s0 : Int32) (s1 : Int32) (σ : ST), isC 11 x0 → f_X11_blank_31 fk4 (B + x0) x2 s0 s1 (put N B σ) = (g_X11_blank_31 N k4 x0 x2 s0 s1 σ).bind some := by
  intro x0 x2 s0 s1 σ hx0
  unfold f_X11_blank_31 g_X11_blank_31
  exact hk4 _ _ _ _ hx0
noncomputable def g_X11_blank_4 (N : Mem) (n0 : Nat) (x0 : Nat) (x1 : Int32) (x2 : Int32) (σ : ST) : Option (Int32) :=
  match n0 with
  | 0 => none
  | n + 1 =>
    (xI 4607 σ (x0 + 1) 0).bind fun v1 =>
    if v1 ≤ x2 then
    (some x1)
    else
    ((g_X11_get N x0 x2 3 σ).bind fun v2 =>
    if v2 = 0 then
    (g_X11_blank_31 N (g_X11_blank_4 N n) x0 x2 (jshl 1 x2) x1 σ)
    else
    (g_X11_blank_31 N (g_X11_blank_4 N n) x0 x2 0 x1 σ))
set_option maxHeartbeats 4000000 in
theorem l_X11_blank_4 {N : Mem} {B : Nat} (hN : HN N B) : ∀ (n : Nat) (x0 : Nat) (x1 : Int32) (x2 : Int32) (σ : ST), isC 11 x0 → f_X11_blank_4 n (B + x0) x1 x2 (put N B σ) = (g_X11_blank_4 N n x0 x1 x2 σ).bind some := by
  intro n
  induction n with
  | zero =>
    intro x0 x1 x2 σ hx0
    rfl
  | succ n ih =>
    intro x0 x1 x2 σ hx0
    unfold f_X11_blank_4 g_X11_blank_4
    refine lg (gR_11_0 hx0) ?_
    refine lb (rI_put (sh_11_0 hx0)) (fun v1 => ?_)
    refine li (fun _ => ?_) (fun _ => ?_)
    · rfl
    · refine lb (l_X11_get hN hx0) (fun v2 => ?_)
      refine li (fun _ => ?_) (fun _ => ?_)
      · exact l_X11_blank_31 hN ih _ _ _ _ _ hx0
      · exact l_X11_blank_31 hN ih _ _ _ _ _ hx0
noncomputable def g_X11_blank_0 (N : Mem) (x0 : Nat) (σ : ST) : Option (Int32) :=
  g_X11_blank_4 N fu x0 0 0 σ
set_option maxHeartbeats 4000000 in
theorem l_X11_blank_0 {N : Mem} {B : Nat} (hN : HN N B) : ∀ (x0 : Nat) (σ : ST), isC 11 x0 → f_X11_blank_0 (B + x0) (put N B σ) = (g_X11_blank_0 N x0 σ).bind some := by
  intro x0 σ hx0
  unfold f_X11_blank_0 g_X11_blank_0
  exact l_X11_blank_4 hN  _ _ _ _ _ hx0
noncomputable def g_X11_blank (N : Mem) (x0 : Nat) (σ : ST) : Option (Int32) := g_X11_blank_0 N x0 σ
theorem l_X11_blank {N : Mem} {B : Nat} (hN : HN N B) {x0 : Nat} {σ : ST} (hx0 : isC 11 x0) : f_X11_blank (B + x0) (put N B σ) = g_X11_blank N x0 σ := by
  unfold f_X11_blank g_X11_blank
  rw [if_pos (isOb_put hx0)]
  exact lsm (l_X11_blank_0 hN _ _ hx0)
noncomputable def g_X11_sumOf_33 (N : Mem) (k4 : Nat → Int32 → Int32 → Int32 → ST → Option (Int32)) (x0 : Nat) (x1 : Int32) (x3 : Int32) (s0 : Int32) (s1 : Int32) (σ : ST) : Option (Int32) :=
  k4 x0 x1 (s1 + s0) (x3 + 1) σ
set_option maxHeartbeats 4000000 in
theorem l_X11_sumOf_33 {N : Mem} {B : Nat} (hN : HN N B) {fk4 : Nat → Int32 → Int32 → Int32 → Mem → Option (Int32)} {k4 : Nat → Int32 → Int32 → Int32 → ST → Option (Int32)} (hk4 : ∀ (x0 : Nat) (x1 : Int32) (x2 : Int32) (x3 : Int32) (σ : ST), isC 11 x0 → fk4 (B + x0) x1 x2 x3 (put N B σ) = (k4 x0 x1 x2 x3 σ).bind some) : ∀ (x0 : Nat) (x1 : Int32) (x3 : Int32) (s0 : Int32) (s1 : Int32) (σ : ST), isC 11 x0 → f_X11_sumOf_33 fk4 (B + x0) x1 x3 s0 s1 (put N B σ) = (g_X11_sumOf_33 N k4 x0 x1 x3 s0 s1 σ).bind some := by
  intro x0 x1 x3 s0 s1 σ hx0
  unfold f_X11_sumOf_33 g_X11_sumOf_33
  exact hk4 _ _ _ _ _ hx0
noncomputable def g_X11_sumOf_4 (N : Mem) (n0 : Nat) (x0 : Nat) (x1 : Int32) (x2 : Int32) (x3 : Int32) (σ : ST) : Option (Int32) :=
  match n0 with
  | 0 => none
  | n + 1 =>
    (xI 4607 σ (x0 + 1) 0).bind fun v1 =>
    if v1 ≤ x3 then
    (some x2)
    else
    ((f_X11_has x1 x3).bind fun v2 =>
    if v2 = false then
    (g_X11_sumOf_33 N (g_X11_sumOf_4 N n) x0 x1 x3 0 x2 σ)
    else
    ((g_X11_get N x0 x3 2 σ).bind fun v3 =>
    g_X11_sumOf_33 N (g_X11_sumOf_4 N n) x0 x1 x3 v3 x2 σ))
set_option maxHeartbeats 4000000 in
theorem l_X11_sumOf_4 {N : Mem} {B : Nat} (hN : HN N B) : ∀ (n : Nat) (x0 : Nat) (x1 : Int32) (x2 : Int32) (x3 : Int32) (σ : ST), isC 11 x0 → f_X11_sumOf_4 n (B + x0) x1 x2 x3 (put N B σ) = (g_X11_sumOf_4 N n x0 x1 x2 x3 σ).bind some := by
  intro n
  induction n with
  | zero =>
    intro x0 x1 x2 x3 σ hx0
    rfl
  | succ n ih =>
    intro x0 x1 x2 x3 σ hx0
    unfold f_X11_sumOf_4 g_X11_sumOf_4
    refine lg (gR_11_0 hx0) ?_
    refine lb (rI_put (sh_11_0 hx0)) (fun v1 => ?_)
    refine li (fun _ => ?_) (fun _ => ?_)
    · rfl
    · refine lb (rfl) (fun v2 => ?_)
      refine li (fun _ => ?_) (fun _ => ?_)
      · exact l_X11_sumOf_33 hN ih _ _ _ _ _ _ hx0
      · refine lb (l_X11_get hN hx0) (fun v3 => ?_)
        exact l_X11_sumOf_33 hN ih _ _ _ _ _ _ hx0
noncomputable def g_X11_sumOf_0 (N : Mem) (x0 : Nat) (x1 : Int32) (σ : ST) : Option (Int32) :=
  g_X11_sumOf_4 N fu x0 x1 0 0 σ
set_option maxHeartbeats 4000000 in
theorem l_X11_sumOf_0 {N : Mem} {B : Nat} (hN : HN N B) : ∀ (x0 : Nat) (x1 : Int32) (σ : ST), isC 11 x0 → f_X11_sumOf_0 (B + x0) x1 (put N B σ) = (g_X11_sumOf_0 N x0 x1 σ).bind some := by
  intro x0 x1 σ hx0
  unfold f_X11_sumOf_0 g_X11_sumOf_0
  exact l_X11_sumOf_4 hN  _ _ _ _ _ _ hx0
noncomputable def g_X11_sumOf (N : Mem) (x0 : Nat) (x1 : Int32) (σ : ST) : Option (Int32) := g_X11_sumOf_0 N x0 x1 σ
theorem l_X11_sumOf {N : Mem} {B : Nat} (hN : HN N B) {x0 : Nat} {x1 : Int32} {σ : ST} (hx0 : isC 11 x0) : f_X11_sumOf (B + x0) x1 (put N B σ) = g_X11_sumOf N x0 x1 σ := by
  unfold f_X11_sumOf g_X11_sumOf
  rw [if_pos (isOb_put hx0)]
  exact lsm (l_X11_sumOf_0 hN _ _ _ hx0)
noncomputable def g_X11_forgiven_13 (N : Mem) (n0 : Nat) (x0 : Nat) (x1 : Int32) (x2 : Int32) (x3 : Int32) (σ : ST) : Option (Int32) :=
  match n0 with
  | 0 => none
  | n + 1 =>
    (xI 4607 σ (x0 + 1) 0).bind fun v1 =>
    if (jshl 1 v1) ≤ x3 then
    (some x2)
    else
    ((g_X11_sumOf N x0 x3 σ).bind fun v2 =>
    if x1 < v2 then
    (g_X11_forgiven_13 N n x0 x1 x2 (x3 + 1) σ)
    else
    ((f_X11_bits x3).bind fun v3 =>
    (f_X11_bits x2).bind fun v4 =>
    if v4 < v3 then
    (g_X11_forgiven_13 N n x0 x1 x3 (x3 + 1) σ)
    else
    ((f_X11_bits x3).bind fun v5 =>
    (f_X11_bits x2).bind fun v6 =>
    if v5 = v6 then
    ((g_X11_sumOf N x0 x3 σ).bind fun v7 =>
    (g_X11_sumOf N x0 x2 σ).bind fun v8 =>
    if v8 ≤ v7 then
    (g_X11_forgiven_13 N n x0 x1 x2 (x3 + 1) σ)
    else
    (g_X11_forgiven_13 N n x0 x1 x3 (x3 + 1) σ))
    else
    (g_X11_forgiven_13 N n x0 x1 x2 (x3 + 1) σ))))
set_option maxHeartbeats 4000000 in
theorem l_X11_forgiven_13 {N : Mem} {B : Nat} (hN : HN N B) : ∀ (n : Nat) (x0 : Nat) (x1 : Int32) (x2 : Int32) (x3 : Int32) (σ : ST), isC 11 x0 → f_X11_forgiven_13 n (B + x0) x1 x2 x3 (put N B σ) = (g_X11_forgiven_13 N n x0 x1 x2 x3 σ).bind some := by
  intro n
  induction n with
  | zero =>
    intro x0 x1 x2 x3 σ hx0
    rfl
  | succ n ih =>
    intro x0 x1 x2 x3 σ hx0
    unfold f_X11_forgiven_13 g_X11_forgiven_13
    refine lg (gR_11_0 hx0) ?_
    refine lb (rI_put (sh_11_0 hx0)) (fun v1 => ?_)
    refine li (fun _ => ?_) (fun _ => ?_)
    · rfl
    · refine lb (l_X11_sumOf hN hx0) (fun v2 => ?_)
      refine li (fun _ => ?_) (fun _ => ?_)
      · exact ih _ _ _ _ _ hx0
      · refine lb (rfl) (fun v3 => ?_)
        refine lb (rfl) (fun v4 => ?_)
        refine li (fun _ => ?_) (fun _ => ?_)
        · exact ih _ _ _ _ _ hx0
        · refine lb (rfl) (fun v5 => ?_)
          refine lb (rfl) (fun v6 => ?_)
          refine li (fun _ => ?_) (fun _ => ?_)
          · refine lb (l_X11_sumOf hN hx0) (fun v7 => ?_)
            refine lb (l_X11_sumOf hN hx0) (fun v8 => ?_)
            refine li (fun _ => ?_) (fun _ => ?_)
            · exact ih _ _ _ _ _ hx0
            · exact ih _ _ _ _ _ hx0
          · exact ih _ _ _ _ _ hx0
noncomputable def g_X11_forgiven_0 (N : Mem) (x0 : Nat) (x1 : Int32) (σ : ST) : Option (Int32) :=
  (f_X11_isNumber x1).bind fun v9 =>
  if v9 = true then
  (g_X11_forgiven_13 N fu x0 x1 0 1 σ)
  else
  (some (-1))
set_option maxHeartbeats 4000000 in
theorem l_X11_forgiven_0 {N : Mem} {B : Nat} (hN : HN N B) : ∀ (x0 : Nat) (x1 : Int32) (σ : ST), isC 11 x0 → f_X11_forgiven_0 (B + x0) x1 (put N B σ) = (g_X11_forgiven_0 N x0 x1 σ).bind some := by
  intro x0 x1 σ hx0
  unfold f_X11_forgiven_0 g_X11_forgiven_0
  refine lb (rfl) (fun v9 => ?_)
  refine li (fun _ => ?_) (fun _ => ?_)
  · exact l_X11_forgiven_13 hN  _ _ _ _ _ _ hx0
  · rfl
noncomputable def g_X11_forgiven (N : Mem) (x0 : Nat) (x1 : Int32) (σ : ST) : Option (Int32) := g_X11_forgiven_0 N x0 x1 σ
theorem l_X11_forgiven {N : Mem} {B : Nat} (hN : HN N B) {x0 : Nat} {x1 : Int32} {σ : ST} (hx0 : isC 11 x0) : f_X11_forgiven (B + x0) x1 (put N B σ) = g_X11_forgiven N x0 x1 σ := by
  unfold f_X11_forgiven g_X11_forgiven
  rw [if_pos (isOb_put hx0)]
  exact lsm (l_X11_forgiven_0 hN _ _ _ hx0)
noncomputable def g_X11_setAside_3 (N : Mem) (n0 : Nat) (x0 : Nat) (x1 : Int32) (σ : ST) : Option (ST) :=
  match n0 with
  | 0 => none
  | n + 1 =>
    if 101 ≤ x1 then
    ((some (setI σ x0 23 (jz false))).bind fun r1 =>
    some r1)
    else
    ((xI 4607 σ (x0 + 1) x1).bind fun v2 =>
    (yI 101 σ (x0 + 9) x1 v2).bind fun r3 =>
    g_X11_setAside_3 N n x0 (x1 + 1) r3)
set_option maxHeartbeats 4000000 in
theorem l_X11_setAside_3 {N : Mem} {B : Nat} (hN : HN N B) : ∀ (n : Nat) (x0 : Nat) (x1 : Int32) (σ : ST), isC 11 x0 → f_X11_setAside_3 n (B + x0) x1 (put N B σ) = (g_X11_setAside_3 N n x0 x1 σ).bind (fun q => some (put N B q)) := by
  intro n
  induction n with
  | zero =>
    intro x0 x1 σ hx0
    rfl
  | succ n ih =>
    intro x0 x1 σ hx0
    unfold f_X11_setAside_3 g_X11_setAside_3
    refine li (fun _ => ?_) (fun _ => ?_)
    · refine lp (pF_11_23 hx0) (fun r1 => ?_)
      rfl
    · refine lg (gR_11_25 hx0) ?_
      refine lg (gR_11_0 hx0) ?_
      refine lb (rI_put (sh_11_0 hx0)) (fun v2 => ?_)
      refine lm (wI_put (sh_11_25 hx0)) (fun r3 => ?_)
      exact ih _ _ _ hx0
noncomputable def g_X11_setAside_0 (N : Mem) (x0 : Nat) (σ : ST) : Option (ST) :=
  g_X11_setAside_3 N fu x0 8 σ
set_option maxHeartbeats 4000000 in
theorem l_X11_setAside_0 {N : Mem} {B : Nat} (hN : HN N B) : ∀ (x0 : Nat) (σ : ST), isC 11 x0 → f_X11_setAside_0 (B + x0) (put N B σ) = (g_X11_setAside_0 N x0 σ).bind (fun q => some (put N B q)) := by
  intro x0 σ hx0
  unfold f_X11_setAside_0 g_X11_setAside_0
  exact l_X11_setAside_3 hN  _ _ _ _ hx0
noncomputable def g_X11_setAside (N : Mem) (x0 : Nat) (σ : ST) : Option (ST) := g_X11_setAside_0 N x0 σ
theorem l_X11_setAside {N : Mem} {B : Nat} (hN : HN N B) {x0 : Nat} {σ : ST} (hx0 : isC 11 x0) : f_X11_setAside (B + x0) (put N B σ) = (g_X11_setAside N x0 σ).map (put N B) := by
  unfold f_X11_setAside g_X11_setAside
  rw [if_pos (isOb_put hx0)]
  exact lmap (l_X11_setAside_0 hN _ _ hx0)
noncomputable def g_X11_putBack_3 (N : Mem) (n0 : Nat) (x0 : Nat) (x1 : Int32) (σ : ST) : Option (ST) :=
  match n0 with
  | 0 => none
  | n + 1 =>
    if 101 ≤ x1 then
    ((some (setI σ x0 23 (jz true))).bind fun r1 =>
    some r1)
    else
    ((xI 101 σ (x0 + 9) x1).bind fun v2 =>
    (yI 4607 σ (x0 + 1) x1 v2).bind fun r3 =>
    g_X11_putBack_3 N n x0 (x1 + 1) r3)
set_option maxHeartbeats 4000000 in
theorem l_X11_putBack_3 {N : Mem} {B : Nat} (hN : HN N B) : ∀ (n : Nat) (x0 : Nat) (x1 : Int32) (σ : ST), isC 11 x0 → f_X11_putBack_3 n (B + x0) x1 (put N B σ) = (g_X11_putBack_3 N n x0 x1 σ).bind (fun q => some (put N B q)) := by
  intro n
  induction n with
  | zero =>
    intro x0 x1 σ hx0
    rfl
  | succ n ih =>
    intro x0 x1 σ hx0
    unfold f_X11_putBack_3 g_X11_putBack_3
    refine li (fun _ => ?_) (fun _ => ?_)
    · refine lp (pF_11_23 hx0) (fun r1 => ?_)
      rfl
    · refine lg (gR_11_0 hx0) ?_
      refine lg (gR_11_25 hx0) ?_
      refine lb (rI_put (sh_11_25 hx0)) (fun v2 => ?_)
      refine lm (wI_put (sh_11_0 hx0)) (fun r3 => ?_)
      exact ih _ _ _ hx0
noncomputable def g_X11_putBack_0 (N : Mem) (x0 : Nat) (σ : ST) : Option (ST) :=
  g_X11_putBack_3 N fu x0 8 σ
set_option maxHeartbeats 4000000 in
theorem l_X11_putBack_0 {N : Mem} {B : Nat} (hN : HN N B) : ∀ (x0 : Nat) (σ : ST), isC 11 x0 → f_X11_putBack_0 (B + x0) (put N B σ) = (g_X11_putBack_0 N x0 σ).bind (fun q => some (put N B q)) := by
  intro x0 σ hx0
  unfold f_X11_putBack_0 g_X11_putBack_0
  exact l_X11_putBack_3 hN  _ _ _ _ hx0
noncomputable def g_X11_putBack (N : Mem) (x0 : Nat) (σ : ST) : Option (ST) := g_X11_putBack_0 N x0 σ
theorem l_X11_putBack {N : Mem} {B : Nat} (hN : HN N B) {x0 : Nat} {σ : ST} (hx0 : isC 11 x0) : f_X11_putBack (B + x0) (put N B σ) = (g_X11_putBack N x0 σ).map (put N B) := by
  unfold f_X11_putBack g_X11_putBack
  rw [if_pos (isOb_put hx0)]
  exact lmap (l_X11_putBack_0 hN _ _ hx0)
noncomputable def g_X11_foretold_36 (N : Mem) (n0 : Nat) (x0 : Nat) (x1 : Int32) (x2 : Int32) (x3 : Int32) (x4 : Int32) (σ : ST) : Option (Int32 × ST) :=
  match n0 with
  | 0 => none
  | n + 1 =>
    if x1 ≤ x4 then
    (if x3 = 0 then
    ((g_X11_get N x0 x2 2 σ).bind fun v5 =>
    (g_X11_putBack N x0 σ).bind fun r6 =>
    some (v5, r6))
    else
    (if x3 = 1 then
    ((g_X11_get N x0 x2 0 σ).bind fun v3 =>
    (g_X11_putBack N x0 σ).bind fun r4 =>
    some (v3, r4))
    else
    ((g_X11_get N x0 x2 3 σ).bind fun v1 =>
    (g_X11_putBack N x0 σ).bind fun r2 =>
    some (v1, r2))))
    else
    ((xI 4607 σ (x0 + 1) 8).bind fun v7 =>
    if 9999 ≤ v7 then
    (g_X11_foretold_36 N n x0 x1 x2 x3 (x4 + 1) σ)
    else
    ((g_X11_pass N x0 σ).bind fun r8 =>
    g_X11_foretold_36 N n x0 x1 x2 x3 (x4 + 1) r8))
set_option maxHeartbeats 4000000 in
theorem l_X11_foretold_36 {N : Mem} {B : Nat} (hN : HN N B) : ∀ (n : Nat) (x0 : Nat) (x1 : Int32) (x2 : Int32) (x3 : Int32) (x4 : Int32) (σ : ST), isC 11 x0 → f_X11_foretold_36 n (B + x0) x1 x2 x3 x4 (put N B σ) = (g_X11_foretold_36 N n x0 x1 x2 x3 x4 σ).bind (fun q => some (q.1, put N B q.2)) := by
  intro n
  induction n with
  | zero =>
    intro x0 x1 x2 x3 x4 σ hx0
    rfl
  | succ n ih =>
    intro x0 x1 x2 x3 x4 σ hx0
    unfold f_X11_foretold_36 g_X11_foretold_36
    refine li (fun _ => ?_) (fun _ => ?_)
    · refine li (fun _ => ?_) (fun _ => ?_)
      · refine lb (l_X11_get hN hx0) (fun v5 => ?_)
        refine lm (l_X11_putBack hN hx0) (fun r6 => ?_)
        rfl
      · refine li (fun _ => ?_) (fun _ => ?_)
        · refine lb (l_X11_get hN hx0) (fun v3 => ?_)
          refine lm (l_X11_putBack hN hx0) (fun r4 => ?_)
          rfl
        · refine lb (l_X11_get hN hx0) (fun v1 => ?_)
          refine lm (l_X11_putBack hN hx0) (fun r2 => ?_)
          rfl
    · refine lg (gR_11_0 hx0) ?_
      refine lb (rI_put (sh_11_0 hx0)) (fun v7 => ?_)
      refine li (fun _ => ?_) (fun _ => ?_)
      · exact ih _ _ _ _ _ _ hx0
      · refine lm (l_X11_pass hN hx0) (fun r8 => ?_)
        exact ih _ _ _ _ _ _ hx0
noncomputable def g_X11_foretold_0 (N : Mem) (x0 : Nat) (x1 : Int32) (x2 : Int32) (x3 : Int32) (σ : ST) : Option (Int32 × ST) :=
  (f_X11_isIn x1 1 60).bind fun v9 =>
  if v9 = false then
  (some ((-1), σ))
  else
  ((g_X11_isMachine N x0 x2 σ).bind fun v10 =>
  if v10 = false then
  (some ((-1), σ))
  else
  ((f_X11_isIn x3 0 2).bind fun v11 =>
  if v11 = true then
  ((g_X11_setAside N x0 σ).bind fun r12 =>
  g_X11_foretold_36 N fu x0 x1 x2 x3 0 r12)
  else
  (some ((-1), σ))))
set_option maxHeartbeats 4000000 in
theorem l_X11_foretold_0 {N : Mem} {B : Nat} (hN : HN N B) : ∀ (x0 : Nat) (x1 : Int32) (x2 : Int32) (x3 : Int32) (σ : ST), isC 11 x0 → f_X11_foretold_0 (B + x0) x1 x2 x3 (put N B σ) = (g_X11_foretold_0 N x0 x1 x2 x3 σ).bind (fun q => some (q.1, put N B q.2)) := by
  intro x0 x1 x2 x3 σ hx0
  unfold f_X11_foretold_0 g_X11_foretold_0
  refine lb (rfl) (fun v9 => ?_)
  refine li (fun _ => ?_) (fun _ => ?_)
  · rfl
  · refine lb (l_X11_isMachine hN hx0) (fun v10 => ?_)
    refine li (fun _ => ?_) (fun _ => ?_)
    · rfl
    · refine lb (rfl) (fun v11 => ?_)
      refine li (fun _ => ?_) (fun _ => ?_)
      · refine lm (l_X11_setAside hN hx0) (fun r12 => ?_)
        exact l_X11_foretold_36 hN  _ _ _ _ _ _ _ hx0
      · rfl
noncomputable def g_X11_foretold (N : Mem) (x0 : Nat) (x1 : Int32) (x2 : Int32) (x3 : Int32) (σ : ST) : Option (Int32 × ST) := g_X11_foretold_0 N x0 x1 x2 x3 σ
theorem l_X11_foretold {N : Mem} {B : Nat} (hN : HN N B) {x0 : Nat} {x1 : Int32} {x2 : Int32} {x3 : Int32} {σ : ST} (hx0 : isC 11 x0) : f_X11_foretold (B + x0) x1 x2 x3 (put N B σ) = (g_X11_foretold N x0 x1 x2 x3 σ).bind (fun q => some (q.1, put N B q.2)) := by
  unfold f_X11_foretold g_X11_foretold
  rw [if_pos (isOb_put hx0)]
  exact l_X11_foretold_0 hN _ _ _ _ _ hx0
noncomputable def g_X11_behind_0 (N : Mem) (x0 : Nat) (x1 : Int32) (x2 : Int32) (x3 : Int32) (σ : ST) : Option (Int32 × ST) :=
  if x3 = (-1) then
  ((yI 4607 σ (x0 + 1) x2 0).bind fun r8 =>
  some (0, r8))
  else
  ((f_X11_isDigit x3).bind fun v1 =>
  if v1 = false then
  (some ((-2), σ))
  else
  ((xI 4607 σ (x0 + 1) x2).bind fun v2 =>
  if v2 = 12 then
  (some ((-2), σ))
  else
  ((xI 4607 σ (x0 + 1) x2).bind fun v3 =>
  (yI 4607 σ (x0 + 1) (x1 + v3) x3).bind fun r4 =>
  (xI 4607 r4 (x0 + 1) x2).bind fun v5 =>
  (yI 4607 r4 (x0 + 1) x2 (v5 + 1)).bind fun r6 =>
  (xI 4607 r6 (x0 + 1) x2).bind fun v7 =>
  some (v7, r6))))
set_option maxHeartbeats 4000000 in
theorem l_X11_behind_0 {N : Mem} {B : Nat} (hN : HN N B) : ∀ (x0 : Nat) (x1 : Int32) (x2 : Int32) (x3 : Int32) (σ : ST), isC 11 x0 → f_X11_behind_0 (B + x0) x1 x2 x3 (put N B σ) = (g_X11_behind_0 N x0 x1 x2 x3 σ).bind (fun q => some (q.1, put N B q.2)) := by
  intro x0 x1 x2 x3 σ hx0
  unfold f_X11_behind_0 g_X11_behind_0
  refine li (fun _ => ?_) (fun _ => ?_)
  · refine lg (gR_11_0 hx0) ?_
    refine lm (wI_put (sh_11_0 hx0)) (fun r8 => ?_)
    rfl
  · refine lb (rfl) (fun v1 => ?_)
    refine li (fun _ => ?_) (fun _ => ?_)
    · rfl
    · refine lg (gR_11_0 hx0) ?_
      refine lb (rI_put (sh_11_0 hx0)) (fun v2 => ?_)
      refine li (fun _ => ?_) (fun _ => ?_)
      · rfl
      · refine lg (gR_11_0 hx0) ?_
        refine lg (gR_11_0 hx0) ?_
        refine lb (rI_put (sh_11_0 hx0)) (fun v3 => ?_)
        refine lm (wI_put (sh_11_0 hx0)) (fun r4 => ?_)
        refine lg (gR_11_0 hx0) ?_
        refine lb (rI_put (sh_11_0 hx0)) (fun v5 => ?_)
        refine lm (wI_put (sh_11_0 hx0)) (fun r6 => ?_)
        refine lg (gR_11_0 hx0) ?_
        refine lb (rI_put (sh_11_0 hx0)) (fun v7 => ?_)
        rfl
noncomputable def g_X11_behind (N : Mem) (x0 : Nat) (x1 : Int32) (x2 : Int32) (x3 : Int32) (σ : ST) : Option (Int32 × ST) := g_X11_behind_0 N x0 x1 x2 x3 σ
theorem l_X11_behind {N : Mem} {B : Nat} (hN : HN N B) {x0 : Nat} {x1 : Int32} {x2 : Int32} {x3 : Int32} {σ : ST} (hx0 : isC 11 x0) : f_X11_behind (B + x0) x1 x2 x3 (put N B σ) = (g_X11_behind N x0 x1 x2 x3 σ).bind (fun q => some (q.1, put N B q.2)) := by
  unfold f_X11_behind g_X11_behind
  rw [if_pos (isOb_put hx0)]
  exact l_X11_behind_0 hN _ _ _ _ _ hx0
noncomputable def g_X11_put_0 (N : Mem) (x0 : Nat) (x1 : Int32) (σ : ST) : Option (Int32 × ST) :=
  (g_X11_behind N x0 121 4 x1 σ).bind fun r1 =>
  some (r1.1, r1.2)
set_option maxHeartbeats 4000000 in
theorem l_X11_put_0 {N : Mem} {B : Nat} (hN : HN N B) : ∀ (x0 : Nat) (x1 : Int32) (σ : ST), isC 11 x0 → f_X11_put_0 (B + x0) x1 (put N B σ) = (g_X11_put_0 N x0 x1 σ).bind (fun q => some (q.1, put N B q.2)) := by
  intro x0 x1 σ hx0
  unfold f_X11_put_0 g_X11_put_0
  refine lc (l_X11_behind hN hx0) (fun r1 => ?_)
  dsimp only
  rfl
noncomputable def g_X11_put (N : Mem) (x0 : Nat) (x1 : Int32) (σ : ST) : Option (Int32 × ST) := g_X11_put_0 N x0 x1 σ
theorem l_X11_put {N : Mem} {B : Nat} (hN : HN N B) {x0 : Nat} {x1 : Int32} {σ : ST} (hx0 : isC 11 x0) : f_X11_put (B + x0) x1 (put N B σ) = (g_X11_put N x0 x1 σ).bind (fun q => some (q.1, put N B q.2)) := by
  unfold f_X11_put g_X11_put
  rw [if_pos (isOb_put hx0)]
  exact l_X11_put_0 hN _ _ _ hx0
noncomputable def g_X11_second_0 (N : Mem) (x0 : Nat) (x1 : Int32) (σ : ST) : Option (Int32 × ST) :=
  (g_X11_behind N x0 133 5 x1 σ).bind fun r1 =>
  some (r1.1, r1.2)
set_option maxHeartbeats 4000000 in
theorem l_X11_second_0 {N : Mem} {B : Nat} (hN : HN N B) : ∀ (x0 : Nat) (x1 : Int32) (σ : ST), isC 11 x0 → f_X11_second_0 (B + x0) x1 (put N B σ) = (g_X11_second_0 N x0 x1 σ).bind (fun q => some (q.1, put N B q.2)) := by
  intro x0 x1 σ hx0
  unfold f_X11_second_0 g_X11_second_0
  refine lc (l_X11_behind hN hx0) (fun r1 => ?_)
  dsimp only
  rfl
noncomputable def g_X11_second (N : Mem) (x0 : Nat) (x1 : Int32) (σ : ST) : Option (Int32 × ST) := g_X11_second_0 N x0 x1 σ
theorem l_X11_second {N : Mem} {B : Nat} (hN : HN N B) {x0 : Nat} {x1 : Int32} {σ : ST} (hx0 : isC 11 x0) : f_X11_second (B + x0) x1 (put N B σ) = (g_X11_second N x0 x1 σ).bind (fun q => some (q.1, put N B q.2)) := by
  unfold f_X11_second g_X11_second
  rw [if_pos (isOb_put hx0)]
  exact l_X11_second_0 hN _ _ _ hx0
noncomputable def g_X11_goesOn_19 (N : Mem) (n0 : Nat) (x0 : Nat) (x1 : Int32) (x2 : Int32) (x3 : Int32) (σ : ST) : Option (Int32) :=
  match n0 with
  | 0 => none
  | n + 1 =>
    (f_X11_wordLong x2).bind fun v1 =>
    if v1 ≤ x3 then
    ((f_X11_wordLong x2).bind fun v2 =>
    some (x1 + v2))
    else
    ((xI 4607 σ (x0 + 1) ((121 + x1) + x3)).bind fun v3 =>
    (f_X11_wordDigit x2 x3).bind fun v4 =>
    if v3 = v4 then
    (g_X11_goesOn_19 N n x0 x1 x2 (x3 + 1) σ)
    else
    (some (-1)))
set_option maxHeartbeats 4000000 in
theorem l_X11_goesOn_19 {N : Mem} {B : Nat} (hN : HN N B) : ∀ (n : Nat) (x0 : Nat) (x1 : Int32) (x2 : Int32) (x3 : Int32) (σ : ST), isC 11 x0 → f_X11_goesOn_19 n (B + x0) x1 x2 x3 (put N B σ) = (g_X11_goesOn_19 N n x0 x1 x2 x3 σ).bind some := by
  intro n
  induction n with
  | zero =>
    intro x0 x1 x2 x3 σ hx0
    rfl
  | succ n ih =>
    intro x0 x1 x2 x3 σ hx0
    unfold f_X11_goesOn_19 g_X11_goesOn_19
    refine lb (rfl) (fun v1 => ?_)
    refine li (fun _ => ?_) (fun _ => ?_)
    · refine lb (rfl) (fun v2 => ?_)
      rfl
    · refine lg (gR_11_0 hx0) ?_
      refine lb (rI_put (sh_11_0 hx0)) (fun v3 => ?_)
      refine lb (rfl) (fun v4 => ?_)
      refine li (fun _ => ?_) (fun _ => ?_)
      · exact ih _ _ _ _ _ hx0
      · rfl
noncomputable def g_X11_goesOn_0 (N : Mem) (x0 : Nat) (x1 : Int32) (x2 : Int32) (σ : ST) : Option (Int32) :=
  (f_X11_wordLong x2).bind fun v5 =>
  (xI 4607 σ (x0 + 1) 4).bind fun v6 =>
  if (x1 + v5) ≤ v6 then
  (g_X11_goesOn_19 N fu x0 x1 x2 0 σ)
  else
  (some (-1))
set_option maxHeartbeats 4000000 in
theorem l_X11_goesOn_0 {N : Mem} {B : Nat} (hN : HN N B) : ∀ (x0 : Nat) (x1 : Int32) (x2 : Int32) (σ : ST), isC 11 x0 → f_X11_goesOn_0 (B + x0) x1 x2 (put N B σ) = (g_X11_goesOn_0 N x0 x1 x2 σ).bind some := by
  intro x0 x1 x2 σ hx0
  unfold f_X11_goesOn_0 g_X11_goesOn_0
  refine lb (rfl) (fun v5 => ?_)
  refine lg (gR_11_0 hx0) ?_
  refine lb (rI_put (sh_11_0 hx0)) (fun v6 => ?_)
  refine li (fun _ => ?_) (fun _ => ?_)
  · exact l_X11_goesOn_19 hN  _ _ _ _ _ _ hx0
  · rfl
noncomputable def g_X11_goesOn (N : Mem) (x0 : Nat) (x1 : Int32) (x2 : Int32) (σ : ST) : Option (Int32) := g_X11_goesOn_0 N x0 x1 x2 σ
theorem l_X11_goesOn {N : Mem} {B : Nat} (hN : HN N B) {x0 : Nat} {x1 : Int32} {x2 : Int32} {σ : ST} (hx0 : isC 11 x0) : f_X11_goesOn (B + x0) x1 x2 (put N B σ) = g_X11_goesOn N x0 x1 x2 σ := by
  unfold f_X11_goesOn g_X11_goesOn
  rw [if_pos (isOb_put hx0)]
  exact lsm (l_X11_goesOn_0 hN _ _ _ _ hx0)
noncomputable def g_X11_waysOf_147 (N : Mem) (k36 : Nat → Int32 → Int32 → Int32 → Int32 → ST → Option (Int64 × ST)) (k72 : Nat → Int32 → Int32 → Int32 → Int32 → Int32 → ST → Option (Int64 × ST)) (x0 : Nat) (x1 : Int32) (x2 : Int32) (x3 : Int32) (x4 : Int32) (x5 : Int32) (x7 : Int32) (σ : ST) : Option (Int64 × ST) :=
  if x7 = (-1) then
  (k72 x0 x1 x2 x3 x4 (x5 + 1) σ)
  else
  ((xL 13 σ (x0 + 11) x7).bind fun v1 =>
  (xL 13 σ (x0 + 10) x5).bind fun v2 =>
  (yL 13 σ (x0 + 11) x7 (v1 + ((Int32.toInt64 x3) * v2))).bind fun r3 =>
  k72 x0 x1 x2 x3 x4 (x5 + 1) r3)
set_option maxHeartbeats 4000000 in
theorem l_X11_waysOf_147 {N : Mem} {B : Nat} (hN : HN N B) {fk36 : Nat → Int32 → Int32 → Int32 → Int32 → Mem → Option (Int64 × Mem)} {k36 : Nat → Int32 → Int32 → Int32 → Int32 → ST → Option (Int64 × ST)} (hk36 : ∀ (x0 : Nat) (x1 : Int32) (x2 : Int32) (x3 : Int32) (x4 : Int32) (σ : ST), isC 11 x0 → fk36 (B + x0) x1 x2 x3 x4 (put N B σ) = (k36 x0 x1 x2 x3 x4 σ).bind (fun q => some (q.1, put N B q.2))) {fk72 : Nat → Int32 → Int32 → Int32 → Int32 → Int32 → Mem → Option (Int64 × Mem)} {k72 : Nat → Int32 → Int32 → Int32 → Int32 → Int32 → ST → Option (Int64 × ST)} (hk72 : ∀ (x0 : Nat) (x1 : Int32) (x2 : Int32) (x3 : Int32) (x4 : Int32) (x5 : Int32) (σ : ST), isC 11 x0 → fk72 (B + x0) x1 x2 x3 x4 x5 (put N B σ) = (k72 x0 x1 x2 x3 x4 x5 σ).bind (fun q => some (q.1, put N B q.2))) : ∀ (x0 : Nat) (x1 : Int32) (x2 : Int32) (x3 : Int32) (x4 : Int32) (x5 : Int32) (x7 : Int32) (σ : ST), isC 11 x0 → f_X11_waysOf_147 fk36 fk72 (B + x0) x1 x2 x3 x4 x5 x7 (put N B σ) = (g_X11_waysOf_147 N k36 k72 x0 x1 x2 x3 x4 x5 x7 σ).bind (fun q => some (q.1, put N B q.2)) := by
  intro x0 x1 x2 x3 x4 x5 x7 σ hx0
  unfold f_X11_waysOf_147 g_X11_waysOf_147
  refine li (fun _ => ?_) (fun _ => ?_)
  · exact hk72 _ _ _ _ _ _ _ hx0
  · refine lg (gR_11_27 hx0) ?_
    refine lb (rL_put (sh_11_27 hx0)) (fun v1 => ?_)
    refine lg (gR_11_26 hx0) ?_
    refine lb (rL_put (sh_11_26 hx0)) (fun v2 => ?_)
    refine lm (wL_put (sh_11_27 hx0)) (fun r3 => ?_)
    exact hk72 _ _ _ _ _ _ _ hx0
noncomputable def g_X11_waysOf_182 (N : Mem) (n0 : Nat) (k36 : Nat → Int32 → Int32 → Int32 → Int32 → ST → Option (Int64 × ST)) (x0 : Nat) (x1 : Int32) (x2 : Int32) (x3 : Int32) (x4 : Int32) (x5 : Int32) (σ : ST) : Option (Int64 × ST) :=
  match n0 with
  | 0 => none
  | n + 1 =>
    if 12 < x5 then
    (k36 x0 x1 x2 x3 (x4 + 1) σ)
    else
    ((xL 13 σ (x0 + 11) x5).bind fun v4 =>
    (yL 13 σ (x0 + 10) x5 v4).bind fun r5 =>
    g_X11_waysOf_182 N n k36 x0 x1 x2 x3 x4 (x5 + 1) r5)
set_option maxHeartbeats 4000000 in
theorem l_X11_waysOf_182 {N : Mem} {B : Nat} (hN : HN N B) {fk36 : Nat → Int32 → Int32 → Int32 → Int32 → Mem → Option (Int64 × Mem)} {k36 : Nat → Int32 → Int32 → Int32 → Int32 → ST → Option (Int64 × ST)} (hk36 : ∀ (x0 : Nat) (x1 : Int32) (x2 : Int32) (x3 : Int32) (x4 : Int32) (σ : ST), isC 11 x0 → fk36 (B + x0) x1 x2 x3 x4 (put N B σ) = (k36 x0 x1 x2 x3 x4 σ).bind (fun q => some (q.1, put N B q.2))) : ∀ (n : Nat) (x0 : Nat) (x1 : Int32) (x2 : Int32) (x3 : Int32) (x4 : Int32) (x5 : Int32) (σ : ST), isC 11 x0 → f_X11_waysOf_182 n fk36 (B + x0) x1 x2 x3 x4 x5 (put N B σ) = (g_X11_waysOf_182 N n k36 x0 x1 x2 x3 x4 x5 σ).bind (fun q => some (q.1, put N B q.2)) := by
  intro n
  induction n with
  | zero =>
    intro x0 x1 x2 x3 x4 x5 σ hx0
    rfl
  | succ n ih =>
    intro x0 x1 x2 x3 x4 x5 σ hx0
    unfold f_X11_waysOf_182 g_X11_waysOf_182
    refine li (fun _ => ?_) (fun _ => ?_)
    · exact hk36 _ _ _ _ _ _ hx0
    · refine lg (gR_11_26 hx0) ?_
      refine lg (gR_11_27 hx0) ?_
      refine lb (rL_put (sh_11_27 hx0)) (fun v4 => ?_)
      refine lm (wL_put (sh_11_26 hx0)) (fun r5 => ?_)
      exact ih _ _ _ _ _ _ _ hx0
noncomputable def g_X11_waysOf_72 (N : Mem) (n0 : Nat) (k36 : Nat → Int32 → Int32 → Int32 → Int32 → ST → Option (Int64 × ST)) (x0 : Nat) (x1 : Int32) (x2 : Int32) (x3 : Int32) (x4 : Int32) (x5 : Int32) (σ : ST) : Option (Int64 × ST) :=
  match n0 with
  | 0 => none
  | n + 1 =>
    (xI 4607 σ (x0 + 1) 4).bind fun v6 =>
    if v6 < x5 then
    (g_X11_waysOf_182 N fu k36 x0 x1 x2 x3 x4 0 σ)
    else
    ((f_X11_digitOf x1 x4).bind fun v7 =>
    (g_X11_ruleOf N x0 v7 0 σ).bind fun v8 =>
    (g_X11_goesOn N x0 x5 v8 σ).bind fun v9 =>
    (f_X11_digitOf x1 x4).bind fun v10 =>
    (g_X11_ruleOf N x0 v10 1 σ).bind fun v11 =>
    (g_X11_goesOn N x0 x5 v11 σ).bind fun v12 =>
    if v9 = (-1) then
    (g_X11_waysOf_147 N k36 (g_X11_waysOf_72 N n k36) x0 x1 x2 x3 x4 x5 v12 σ)
    else
    ((xL 13 σ (x0 + 11) v9).bind fun v13 =>
    (xL 13 σ (x0 + 10) x5).bind fun v14 =>
    (yL 13 σ (x0 + 11) v9 (v13 + ((Int32.toInt64 x2) * v14))).bind fun r15 =>
    g_X11_waysOf_147 N k36 (g_X11_waysOf_72 N n k36) x0 x1 x2 x3 x4 x5 v12 r15))
set_option maxHeartbeats 4000000 in
theorem l_X11_waysOf_72 {N : Mem} {B : Nat} (hN : HN N B) {fk36 : Nat → Int32 → Int32 → Int32 → Int32 → Mem → Option (Int64 × Mem)} {k36 : Nat → Int32 → Int32 → Int32 → Int32 → ST → Option (Int64 × ST)} (hk36 : ∀ (x0 : Nat) (x1 : Int32) (x2 : Int32) (x3 : Int32) (x4 : Int32) (σ : ST), isC 11 x0 → fk36 (B + x0) x1 x2 x3 x4 (put N B σ) = (k36 x0 x1 x2 x3 x4 σ).bind (fun q => some (q.1, put N B q.2))) : ∀ (n : Nat) (x0 : Nat) (x1 : Int32) (x2 : Int32) (x3 : Int32) (x4 : Int32) (x5 : Int32) (σ : ST), isC 11 x0 → f_X11_waysOf_72 n fk36 (B + x0) x1 x2 x3 x4 x5 (put N B σ) = (g_X11_waysOf_72 N n k36 x0 x1 x2 x3 x4 x5 σ).bind (fun q => some (q.1, put N B q.2)) := by
  intro n
  induction n with
  | zero =>
    intro x0 x1 x2 x3 x4 x5 σ hx0
    rfl
  | succ n ih =>
    intro x0 x1 x2 x3 x4 x5 σ hx0
    unfold f_X11_waysOf_72 g_X11_waysOf_72
    refine lg (gR_11_0 hx0) ?_
    refine lb (rI_put (sh_11_0 hx0)) (fun v6 => ?_)
    refine li (fun _ => ?_) (fun _ => ?_)
    · exact l_X11_waysOf_182 hN hk36 _ _ _ _ _ _ _ _ hx0
    · refine lb (rfl) (fun v7 => ?_)
      refine lb (l_X11_ruleOf hN hx0) (fun v8 => ?_)
      refine lb (l_X11_goesOn hN hx0) (fun v9 => ?_)
      refine lb (rfl) (fun v10 => ?_)
      refine lb (l_X11_ruleOf hN hx0) (fun v11 => ?_)
      refine lb (l_X11_goesOn hN hx0) (fun v12 => ?_)
      refine li (fun _ => ?_) (fun _ => ?_)
      · exact l_X11_waysOf_147 hN hk36 ih _ _ _ _ _ _ _ _ hx0
      · refine lg (gR_11_27 hx0) ?_
        refine lb (rL_put (sh_11_27 hx0)) (fun v13 => ?_)
        refine lg (gR_11_26 hx0) ?_
        refine lb (rL_put (sh_11_26 hx0)) (fun v14 => ?_)
        refine lm (wL_put (sh_11_27 hx0)) (fun r15 => ?_)
        exact l_X11_waysOf_147 hN hk36 ih _ _ _ _ _ _ _ _ hx0
noncomputable def g_X11_waysOf_48 (N : Mem) (n0 : Nat) (k36 : Nat → Int32 → Int32 → Int32 → Int32 → ST → Option (Int64 × ST)) (x0 : Nat) (x1 : Int32) (x2 : Int32) (x3 : Int32) (x4 : Int32) (x5 : Int32) (σ : ST) : Option (Int64 × ST) :=
  match n0 with
  | 0 => none
  | n + 1 =>
    if 12 < x5 then
    (g_X11_waysOf_72 N fu k36 x0 x1 x2 x3 x4 0 σ)
    else
    ((yL 13 σ (x0 + 11) x5 0).bind fun r16 =>
    g_X11_waysOf_48 N n k36 x0 x1 x2 x3 x4 (x5 + 1) r16)
set_option maxHeartbeats 4000000 in
theorem l_X11_waysOf_48 {N : Mem} {B : Nat} (hN : HN N B) {fk36 : Nat → Int32 → Int32 → Int32 → Int32 → Mem → Option (Int64 × Mem)} {k36 : Nat → Int32 → Int32 → Int32 → Int32 → ST → Option (Int64 × ST)} (hk36 : ∀ (x0 : Nat) (x1 : Int32) (x2 : Int32) (x3 : Int32) (x4 : Int32) (σ : ST), isC 11 x0 → fk36 (B + x0) x1 x2 x3 x4 (put N B σ) = (k36 x0 x1 x2 x3 x4 σ).bind (fun q => some (q.1, put N B q.2))) : ∀ (n : Nat) (x0 : Nat) (x1 : Int32) (x2 : Int32) (x3 : Int32) (x4 : Int32) (x5 : Int32) (σ : ST), isC 11 x0 → f_X11_waysOf_48 n fk36 (B + x0) x1 x2 x3 x4 x5 (put N B σ) = (g_X11_waysOf_48 N n k36 x0 x1 x2 x3 x4 x5 σ).bind (fun q => some (q.1, put N B q.2)) := by
  intro n
  induction n with
  | zero =>
    intro x0 x1 x2 x3 x4 x5 σ hx0
    rfl
  | succ n ih =>
    intro x0 x1 x2 x3 x4 x5 σ hx0
    unfold f_X11_waysOf_48 g_X11_waysOf_48
    refine li (fun _ => ?_) (fun _ => ?_)
    · exact l_X11_waysOf_72 hN hk36 _ _ _ _ _ _ _ _ hx0
    · refine lg (gR_11_27 hx0) ?_
      refine lm (wL_put (sh_11_27 hx0)) (fun r16 => ?_)
      exact ih _ _ _ _ _ _ _ hx0
noncomputable def g_X11_waysOf_36 (N : Mem) (n0 : Nat) (x0 : Nat) (x1 : Int32) (x2 : Int32) (x3 : Int32) (x4 : Int32) (σ : ST) : Option (Int64 × ST) :=
  match n0 with
  | 0 => none
  | n + 1 =>
    (f_X11_longOf x1).bind fun v17 =>
    if v17 ≤ x4 then
    ((xI 4607 σ (x0 + 1) 4).bind fun v18 =>
    (xL 13 σ (x0 + 10) v18).bind fun v19 =>
    some (v19, σ))
    else
    (g_X11_waysOf_48 N fu (g_X11_waysOf_36 N n) x0 x1 x2 x3 x4 0 σ)
set_option maxHeartbeats 4000000 in
theorem l_X11_waysOf_36 {N : Mem} {B : Nat} (hN : HN N B) : ∀ (n : Nat) (x0 : Nat) (x1 : Int32) (x2 : Int32) (x3 : Int32) (x4 : Int32) (σ : ST), isC 11 x0 → f_X11_waysOf_36 n (B + x0) x1 x2 x3 x4 (put N B σ) = (g_X11_waysOf_36 N n x0 x1 x2 x3 x4 σ).bind (fun q => some (q.1, put N B q.2)) := by
  intro n
  induction n with
  | zero =>
    intro x0 x1 x2 x3 x4 σ hx0
    rfl
  | succ n ih =>
    intro x0 x1 x2 x3 x4 σ hx0
    unfold f_X11_waysOf_36 g_X11_waysOf_36
    refine lb (rfl) (fun v17 => ?_)
    refine li (fun _ => ?_) (fun _ => ?_)
    · refine lg (gR_11_26 hx0) ?_
      refine lg (gR_11_0 hx0) ?_
      refine lb (rI_put (sh_11_0 hx0)) (fun v18 => ?_)
      refine lb (rL_put (sh_11_26 hx0)) (fun v19 => ?_)
      rfl
    · exact l_X11_waysOf_48 hN ih _ _ _ _ _ _ _ _ hx0
noncomputable def g_X11_waysOf_3 (N : Mem) (n0 : Nat) (x0 : Nat) (x1 : Int32) (x2 : Int32) (x3 : Int32) (x4 : Int32) (σ : ST) : Option (Int64 × ST) :=
  match n0 with
  | 0 => none
  | n + 1 =>
    if 12 < x4 then
    (g_X11_waysOf_36 N fu x0 x1 x2 x3 0 σ)
    else
    (if x4 = 0 then
    ((yL 13 σ (x0 + 10) x4 1).bind fun r21 =>
    g_X11_waysOf_3 N n x0 x1 x2 x3 (x4 + 1) r21)
    else
    ((yL 13 σ (x0 + 10) x4 0).bind fun r20 =>
    g_X11_waysOf_3 N n x0 x1 x2 x3 (x4 + 1) r20))
set_option maxHeartbeats 4000000 in
theorem l_X11_waysOf_3 {N : Mem} {B : Nat} (hN : HN N B) : ∀ (n : Nat) (x0 : Nat) (x1 : Int32) (x2 : Int32) (x3 : Int32) (x4 : Int32) (σ : ST), isC 11 x0 → f_X11_waysOf_3 n (B + x0) x1 x2 x3 x4 (put N B σ) = (g_X11_waysOf_3 N n x0 x1 x2 x3 x4 σ).bind (fun q => some (q.1, put N B q.2)) := by
  intro n
  induction n with
  | zero =>
    intro x0 x1 x2 x3 x4 σ hx0
    rfl
  | succ n ih =>
    intro x0 x1 x2 x3 x4 σ hx0
    unfold f_X11_waysOf_3 g_X11_waysOf_3
    refine li (fun _ => ?_) (fun _ => ?_)
    · exact l_X11_waysOf_36 hN  _ _ _ _ _ _ _ hx0
    · refine lg (gR_11_26 hx0) ?_
      refine li (fun _ => ?_) (fun _ => ?_)
      · refine lm (wL_put (sh_11_26 hx0)) (fun r21 => ?_)
        exact ih _ _ _ _ _ _ hx0
      · refine lm (wL_put (sh_11_26 hx0)) (fun r20 => ?_)
        exact ih _ _ _ _ _ _ hx0
noncomputable def g_X11_waysOf_0 (N : Mem) (x0 : Nat) (x1 : Int32) (x2 : Int32) (x3 : Int32) (σ : ST) : Option (Int64 × ST) :=
  g_X11_waysOf_3 N fu x0 x1 x2 x3 0 σ
set_option maxHeartbeats 4000000 in
theorem l_X11_waysOf_0 {N : Mem} {B : Nat} (hN : HN N B) : ∀ (x0 : Nat) (x1 : Int32) (x2 : Int32) (x3 : Int32) (σ : ST), isC 11 x0 → f_X11_waysOf_0 (B + x0) x1 x2 x3 (put N B σ) = (g_X11_waysOf_0 N x0 x1 x2 x3 σ).bind (fun q => some (q.1, put N B q.2)) := by
  intro x0 x1 x2 x3 σ hx0
  unfold f_X11_waysOf_0 g_X11_waysOf_0
  exact l_X11_waysOf_3 hN  _ _ _ _ _ _ _ hx0
noncomputable def g_X11_waysOf (N : Mem) (x0 : Nat) (x1 : Int32) (x2 : Int32) (x3 : Int32) (σ : ST) : Option (Int64 × ST) := g_X11_waysOf_0 N x0 x1 x2 x3 σ
theorem l_X11_waysOf {N : Mem} {B : Nat} (hN : HN N B) {x0 : Nat} {x1 : Int32} {x2 : Int32} {x3 : Int32} {σ : ST} (hx0 : isC 11 x0) : f_X11_waysOf (B + x0) x1 x2 x3 (put N B σ) = (g_X11_waysOf N x0 x1 x2 x3 σ).bind (fun q => some (q.1, put N B q.2)) := by
  unfold f_X11_waysOf g_X11_waysOf
  rw [if_pos (isOb_put hx0)]
  exact l_X11_waysOf_0 hN _ _ _ _ _ hx0
noncomputable def g_X11_may_0 (N : Mem) (x0 : Nat) (x1 : Int32) (σ : ST) : Option (Int64 × ST) :=
  (f_X11_isNumber x1).bind fun v1 =>
  if v1 = false then
  (some ((-1), σ))
  else
  ((g_X11_waysOf N x0 x1 1 1 σ).bind fun r2 =>
  some (r2.1, r2.2))
set_option maxHeartbeats 4000000 in
theorem l_X11_may_0 {N : Mem} {B : Nat} (hN : HN N B) : ∀ (x0 : Nat) (x1 : Int32) (σ : ST), isC 11 x0 → f_X11_may_0 (B + x0) x1 (put N B σ) = (g_X11_may_0 N x0 x1 σ).bind (fun q => some (q.1, put N B q.2)) := by
  intro x0 x1 σ hx0
  unfold f_X11_may_0 g_X11_may_0
  refine lb (rfl) (fun v1 => ?_)
  refine li (fun _ => ?_) (fun _ => ?_)
  · rfl
  · refine lc (l_X11_waysOf hN hx0) (fun r2 => ?_)
    dsimp only
    rfl
noncomputable def g_X11_may (N : Mem) (x0 : Nat) (x1 : Int32) (σ : ST) : Option (Int64 × ST) := g_X11_may_0 N x0 x1 σ
theorem l_X11_may {N : Mem} {B : Nat} (hN : HN N B) {x0 : Nat} {x1 : Int32} {σ : ST} (hx0 : isC 11 x0) : f_X11_may (B + x0) x1 (put N B σ) = (g_X11_may N x0 x1 σ).bind (fun q => some (q.1, put N B q.2)) := by
  unfold f_X11_may g_X11_may
  rw [if_pos (isOb_put hx0)]
  exact l_X11_may_0 hN _ _ _ hx0
noncomputable def g_X11_odds_0 (N : Mem) (x0 : Nat) (x1 : Int32) (x2 : Int32) (x3 : Bool) (σ : ST) : Option (Int64 × ST) :=
  (f_X11_isNumber x1).bind fun v1 =>
  if v1 = false then
  (some ((-1), σ))
  else
  ((f_X11_isIn x2 0 10).bind fun v2 =>
  if v2 = true then
  ((g_X11_waysOf N x0 x1 (10 - x2) x2 σ).bind fun r3 =>
  (f_X11_longOf x1).bind fun v4 =>
  (f_X11_tens v4).bind fun v5 =>
  if x3 = false then
  ((f_X11_divisor r3.1 v5).bind fun v6 =>
  (dvL r3.1 v6).bind fun v7 =>
  some (v7, r3.2))
  else
  ((f_X11_divisor r3.1 v5).bind fun v8 =>
  (dvL v5 v8).bind fun v9 =>
  some (v9, r3.2)))
  else
  (some ((-1), σ)))
set_option maxHeartbeats 4000000 in
theorem l_X11_odds_0 {N : Mem} {B : Nat} (hN : HN N B) : ∀ (x0 : Nat) (x1 : Int32) (x2 : Int32) (x3 : Bool) (σ : ST), isC 11 x0 → f_X11_odds_0 (B + x0) x1 x2 x3 (put N B σ) = (g_X11_odds_0 N x0 x1 x2 x3 σ).bind (fun q => some (q.1, put N B q.2)) := by
  intro x0 x1 x2 x3 σ hx0
  unfold f_X11_odds_0 g_X11_odds_0
  refine lb (rfl) (fun v1 => ?_)
  refine li (fun _ => ?_) (fun _ => ?_)
  · rfl
  · refine lb (rfl) (fun v2 => ?_)
    refine li (fun _ => ?_) (fun _ => ?_)
    · refine lc (l_X11_waysOf hN hx0) (fun r3 => ?_)
      dsimp only
      refine lb (rfl) (fun v4 => ?_)
      refine lb (rfl) (fun v5 => ?_)
      refine li (fun _ => ?_) (fun _ => ?_)
      · refine lb (rfl) (fun v6 => ?_)
        refine lb (rfl) (fun v7 => ?_)
        rfl
      · refine lb (rfl) (fun v8 => ?_)
        refine lb (rfl) (fun v9 => ?_)
        rfl
    · rfl
noncomputable def g_X11_odds (N : Mem) (x0 : Nat) (x1 : Int32) (x2 : Int32) (x3 : Bool) (σ : ST) : Option (Int64 × ST) := g_X11_odds_0 N x0 x1 x2 x3 σ
theorem l_X11_odds {N : Mem} {B : Nat} (hN : HN N B) {x0 : Nat} {x1 : Int32} {x2 : Int32} {x3 : Bool} {σ : ST} (hx0 : isC 11 x0) : f_X11_odds (B + x0) x1 x2 x3 (put N B σ) = (g_X11_odds N x0 x1 x2 x3 σ).bind (fun q => some (q.1, put N B q.2)) := by
  unfold f_X11_odds g_X11_odds
  rw [if_pos (isOb_put hx0)]
  exact l_X11_odds_0 hN _ _ _ _ _ hx0
noncomputable def g_X11_day_0 (N : Mem) (x0 : Nat) (x1 : Int32) (σ : ST) : Option (Int32 × ST) :=
  if x1 = (-1) then
  ((yI 4607 σ (x0 + 1) 6 0).bind fun r8 =>
  some (0, r8))
  else
  ((f_X11_isNumber x1).bind fun v1 =>
  if v1 = false then
  (some ((-2), σ))
  else
  ((xI 4607 σ (x0 + 1) 6).bind fun v2 =>
  if v2 = 8 then
  (some ((-2), σ))
  else
  ((xI 4607 σ (x0 + 1) 6).bind fun v3 =>
  (yI 4607 σ (x0 + 1) (145 + v3) x1).bind fun r4 =>
  (xI 4607 r4 (x0 + 1) 6).bind fun v5 =>
  (yI 4607 r4 (x0 + 1) 6 (v5 + 1)).bind fun r6 =>
  (xI 4607 r6 (x0 + 1) 6).bind fun v7 =>
  some (v7, r6))))
set_option maxHeartbeats 4000000 in
theorem l_X11_day_0 {N : Mem} {B : Nat} (hN : HN N B) : ∀ (x0 : Nat) (x1 : Int32) (σ : ST), isC 11 x0 → f_X11_day_0 (B + x0) x1 (put N B σ) = (g_X11_day_0 N x0 x1 σ).bind (fun q => some (q.1, put N B q.2)) := by
  intro x0 x1 σ hx0
  unfold f_X11_day_0 g_X11_day_0
  refine li (fun _ => ?_) (fun _ => ?_)
  · refine lg (gR_11_0 hx0) ?_
    refine lm (wI_put (sh_11_0 hx0)) (fun r8 => ?_)
    rfl
  · refine lb (rfl) (fun v1 => ?_)
    refine li (fun _ => ?_) (fun _ => ?_)
    · rfl
    · refine lg (gR_11_0 hx0) ?_
      refine lb (rI_put (sh_11_0 hx0)) (fun v2 => ?_)
      refine li (fun _ => ?_) (fun _ => ?_)
      · rfl
      · refine lg (gR_11_0 hx0) ?_
        refine lg (gR_11_0 hx0) ?_
        refine lb (rI_put (sh_11_0 hx0)) (fun v3 => ?_)
        refine lm (wI_put (sh_11_0 hx0)) (fun r4 => ?_)
        refine lg (gR_11_0 hx0) ?_
        refine lb (rI_put (sh_11_0 hx0)) (fun v5 => ?_)
        refine lm (wI_put (sh_11_0 hx0)) (fun r6 => ?_)
        refine lg (gR_11_0 hx0) ?_
        refine lb (rI_put (sh_11_0 hx0)) (fun v7 => ?_)
        rfl
noncomputable def g_X11_day (N : Mem) (x0 : Nat) (x1 : Int32) (σ : ST) : Option (Int32 × ST) := g_X11_day_0 N x0 x1 σ
theorem l_X11_day {N : Mem} {B : Nat} (hN : HN N B) {x0 : Nat} {x1 : Int32} {σ : ST} (hx0 : isC 11 x0) : f_X11_day (B + x0) x1 (put N B σ) = (g_X11_day N x0 x1 σ).bind (fun q => some (q.1, put N B q.2)) := by
  unfold f_X11_day g_X11_day
  rw [if_pos (isOb_put hx0)]
  exact l_X11_day_0 hN _ _ _ hx0
noncomputable def g_X11_fits_44 (N : Mem) (k4 : Nat → Int32 → Int32 → ST → Option (Int32 × ST)) (x0 : Nat) (x2 : Int32) (s0 : Int32) (s1 : Int32) (σ : ST) : Option (Int32 × ST) :=
  k4 x0 (s1 ||| s0) (x2 + 1) σ
set_option maxHeartbeats 4000000 in
theorem l_X11_fits_44 {N : Mem} {B : Nat} (hN : HN N B) {fk4 : Nat → Int32 → Int32 → Mem → Option (Int32 × Mem)} {k4 : Nat → Int32 → Int32 → ST → Option (Int32 × ST)} (hk4 : ∀ (x0 : Nat) (x1 : Int32) (x2 : Int32) (σ : ST), isC 11 x0 → fk4 (B + x0) x1 x2 (put N B σ) = (k4 x0 x1 x2 σ).bind (fun q => some (q.1, put N B q.2))) : ∀ (x0 : Nat) (x2 : Int32) (s0 : Int32) (s1 : Int32) (σ : ST), isC 11 x0 → f_X11_fits_44 fk4 (B + x0) x2 s0 s1 (put N B σ) = (g_X11_fits_44 N k4 x0 x2 s0 s1 σ).bind (fun q => some (q.1, put N B q.2)) := by
  intro x0 x2 s0 s1 σ hx0
  unfold f_X11_fits_44 g_X11_fits_44
  exact hk4 _ _ _ _ hx0
noncomputable def g_X11_fits_4 (N : Mem) (n0 : Nat) (x0 : Nat) (x1 : Int32) (x2 : Int32) (σ : ST) : Option (Int32 × ST) :=
  match n0 with
  | 0 => none
  | n + 1 =>
    (xI 4607 σ (x0 + 1) 6).bind fun v1 =>
    if v1 ≤ x2 then
    (some (x1, σ))
    else
    ((xI 4607 σ (x0 + 1) (145 + x2)).bind fun v2 =>
    (g_X11_waysOf N x0 v2 1 1 σ).bind fun r3 =>
    if (lg_cmp r3.1 0) ≤ 0 then
    (g_X11_fits_44 N (g_X11_fits_4 N n) x0 x2 0 x1 r3.2)
    else
    (g_X11_fits_44 N (g_X11_fits_4 N n) x0 x2 (jshl 1 x2) x1 r3.2))
set_option maxHeartbeats 4000000 in
theorem l_X11_fits_4 {N : Mem} {B : Nat} (hN : HN N B) : ∀ (n : Nat) (x0 : Nat) (x1 : Int32) (x2 : Int32) (σ : ST), isC 11 x0 → f_X11_fits_4 n (B + x0) x1 x2 (put N B σ) = (g_X11_fits_4 N n x0 x1 x2 σ).bind (fun q => some (q.1, put N B q.2)) := by
  intro n
  induction n with
  | zero =>
    intro x0 x1 x2 σ hx0
    rfl
  | succ n ih =>
    intro x0 x1 x2 σ hx0
    unfold f_X11_fits_4 g_X11_fits_4
    refine lg (gR_11_0 hx0) ?_
    refine lb (rI_put (sh_11_0 hx0)) (fun v1 => ?_)
    refine li (fun _ => ?_) (fun _ => ?_)
    · rfl
    · refine lg (gR_11_0 hx0) ?_
      refine lb (rI_put (sh_11_0 hx0)) (fun v2 => ?_)
      refine lc (l_X11_waysOf hN hx0) (fun r3 => ?_)
      dsimp only
      refine li (fun _ => ?_) (fun _ => ?_)
      · exact l_X11_fits_44 hN ih _ _ _ _ _ hx0
      · exact l_X11_fits_44 hN ih _ _ _ _ _ hx0
noncomputable def g_X11_fits_0 (N : Mem) (x0 : Nat) (σ : ST) : Option (Int32 × ST) :=
  g_X11_fits_4 N fu x0 0 0 σ
set_option maxHeartbeats 4000000 in
theorem l_X11_fits_0 {N : Mem} {B : Nat} (hN : HN N B) : ∀ (x0 : Nat) (σ : ST), isC 11 x0 → f_X11_fits_0 (B + x0) (put N B σ) = (g_X11_fits_0 N x0 σ).bind (fun q => some (q.1, put N B q.2)) := by
  intro x0 σ hx0
  unfold f_X11_fits_0 g_X11_fits_0
  exact l_X11_fits_4 hN  _ _ _ _ _ hx0
noncomputable def g_X11_fits (N : Mem) (x0 : Nat) (σ : ST) : Option (Int32 × ST) := g_X11_fits_0 N x0 σ
theorem l_X11_fits {N : Mem} {B : Nat} (hN : HN N B) {x0 : Nat} {σ : ST} (hx0 : isC 11 x0) : f_X11_fits (B + x0) (put N B σ) = (g_X11_fits N x0 σ).bind (fun q => some (q.1, put N B q.2)) := by
  unfold f_X11_fits g_X11_fits
  rw [if_pos (isOb_put hx0)]
  exact l_X11_fits_0 hN _ _ hx0
noncomputable def g_X11_likeliest_19 (N : Mem) (n0 : Nat) (x0 : Nat) (x1 : Int32) (x2 : Int32) (x3 : Int64) (x5 : Int32) (σ : ST) : Option (Int32 × ST) :=
  match n0 with
  | 0 => none
  | n + 1 =>
    (xI 4607 σ (x0 + 1) 6).bind fun v1 =>
    if v1 ≤ x5 then
    (some (x2, σ))
    else
    ((xI 4607 σ (x0 + 1) (145 + x5)).bind fun v2 =>
    (g_X11_waysOf N x0 v2 (10 - x1) x1 σ).bind fun r3 =>
    (xI 4607 r3.2 (x0 + 1) (145 + x5)).bind fun v4 =>
    (f_X11_longOf v4).bind fun v5 =>
    (f_X11_tens (4 - v5)).bind fun v6 =>
    if 0 < (lg_cmp (r3.1 * v6) x3) then
    (g_X11_likeliest_19 N n x0 x1 x5 (r3.1 * v6) (x5 + 1) r3.2)
    else
    (g_X11_likeliest_19 N n x0 x1 x2 x3 (x5 + 1) r3.2))
set_option maxHeartbeats 4000000 in
theorem l_X11_likeliest_19 {N : Mem} {B : Nat} (hN : HN N B) : ∀ (n : Nat) (x0 : Nat) (x1 : Int32) (x2 : Int32) (x3 : Int64) (x5 : Int32) (σ : ST), isC 11 x0 → f_X11_likeliest_19 n (B + x0) x1 x2 x3 x5 (put N B σ) = (g_X11_likeliest_19 N n x0 x1 x2 x3 x5 σ).bind (fun q => some (q.1, put N B q.2)) := by
  intro n
  induction n with
  | zero =>
    intro x0 x1 x2 x3 x5 σ hx0
    rfl
  | succ n ih =>
    intro x0 x1 x2 x3 x5 σ hx0
    unfold f_X11_likeliest_19 g_X11_likeliest_19
    refine lg (gR_11_0 hx0) ?_
    refine lb (rI_put (sh_11_0 hx0)) (fun v1 => ?_)
    refine li (fun _ => ?_) (fun _ => ?_)
    · rfl
    · refine lg (gR_11_0 hx0) ?_
      refine lb (rI_put (sh_11_0 hx0)) (fun v2 => ?_)
      refine lc (l_X11_waysOf hN hx0) (fun r3 => ?_)
      dsimp only
      refine lg (gR_11_0 hx0) ?_
      refine lb (rI_put (sh_11_0 hx0)) (fun v4 => ?_)
      refine lb (rfl) (fun v5 => ?_)
      refine lb (rfl) (fun v6 => ?_)
      refine li (fun _ => ?_) (fun _ => ?_)
      · exact ih _ _ _ _ _ _ hx0
      · exact ih _ _ _ _ _ _ hx0
noncomputable def g_X11_likeliest_0 (N : Mem) (x0 : Nat) (x1 : Int32) (σ : ST) : Option (Int32 × ST) :=
  (f_X11_isIn x1 0 10).bind fun v7 =>
  if v7 = true then
  (g_X11_likeliest_19 N fu x0 x1 (-1) 0 0 σ)
  else
  (some ((-1), σ))
set_option maxHeartbeats 4000000 in
theorem l_X11_likeliest_0 {N : Mem} {B : Nat} (hN : HN N B) : ∀ (x0 : Nat) (x1 : Int32) (σ : ST), isC 11 x0 → f_X11_likeliest_0 (B + x0) x1 (put N B σ) = (g_X11_likeliest_0 N x0 x1 σ).bind (fun q => some (q.1, put N B q.2)) := by
  intro x0 x1 σ hx0
  unfold f_X11_likeliest_0 g_X11_likeliest_0
  refine lb (rfl) (fun v7 => ?_)
  refine li (fun _ => ?_) (fun _ => ?_)
  · exact l_X11_likeliest_19 hN  _ _ _ _ _ _ _ hx0
  · rfl
noncomputable def g_X11_likeliest (N : Mem) (x0 : Nat) (x1 : Int32) (σ : ST) : Option (Int32 × ST) := g_X11_likeliest_0 N x0 x1 σ
theorem l_X11_likeliest {N : Mem} {B : Nat} (hN : HN N B) {x0 : Nat} {x1 : Int32} {σ : ST} (hx0 : isC 11 x0) : f_X11_likeliest (B + x0) x1 (put N B σ) = (g_X11_likeliest N x0 x1 σ).bind (fun q => some (q.1, put N B q.2)) := by
  unfold f_X11_likeliest g_X11_likeliest
  rw [if_pos (isOb_put hx0)]
  exact l_X11_likeliest_0 hN _ _ _ hx0
noncomputable def g_X11_takesBy_0 (N : Mem) (x0 : Nat) (x1 : Int32) (x2 : Int32) (x3 : Int32) (σ : ST) : Option (Int32) :=
  (g_X11_ruleOf N x0 x2 x3 σ).bind fun v1 =>
  (g_X11_goesOn N x0 x1 v1 σ).bind fun v2 =>
  if v2 = (-1) then
  (some 1000000000)
  else
  (if v2 = x1 then
  (some 1000000000)
  else
  ((xI 13 σ (x0 + 12) v2).bind fun v3 =>
  some (1 + v3)))
set_option maxHeartbeats 4000000 in
theorem l_X11_takesBy_0 {N : Mem} {B : Nat} (hN : HN N B) : ∀ (x0 : Nat) (x1 : Int32) (x2 : Int32) (x3 : Int32) (σ : ST), isC 11 x0 → f_X11_takesBy_0 (B + x0) x1 x2 x3 (put N B σ) = (g_X11_takesBy_0 N x0 x1 x2 x3 σ).bind some := by
  intro x0 x1 x2 x3 σ hx0
  unfold f_X11_takesBy_0 g_X11_takesBy_0
  refine lb (l_X11_ruleOf hN hx0) (fun v1 => ?_)
  refine lb (l_X11_goesOn hN hx0) (fun v2 => ?_)
  refine li (fun _ => ?_) (fun _ => ?_)
  · rfl
  · refine li (fun _ => ?_) (fun _ => ?_)
    · rfl
    · refine lg (gR_11_28 hx0) ?_
      refine lb (rI_put (sh_11_28 hx0)) (fun v3 => ?_)
      rfl
noncomputable def g_X11_takesBy (N : Mem) (x0 : Nat) (x1 : Int32) (x2 : Int32) (x3 : Int32) (σ : ST) : Option (Int32) := g_X11_takesBy_0 N x0 x1 x2 x3 σ
theorem l_X11_takesBy {N : Mem} {B : Nat} (hN : HN N B) {x0 : Nat} {x1 : Int32} {x2 : Int32} {x3 : Int32} {σ : ST} (hx0 : isC 11 x0) : f_X11_takesBy (B + x0) x1 x2 x3 (put N B σ) = g_X11_takesBy N x0 x1 x2 x3 σ := by
  unfold f_X11_takesBy g_X11_takesBy
  rw [if_pos (isOb_put hx0)]
  exact lsm (l_X11_takesBy_0 hN _ _ _ _ _ hx0)
noncomputable def g_X11_layTakes_44 (N : Mem) (n0 : Nat) (k21 : Nat → Int32 → ST → Option (ST)) (k36 : Nat → Int32 → Int32 → ST → Option (ST)) (x0 : Nat) (x1 : Int32) (x2 : Int32) (x3 : Int32) (σ : ST) : Option (ST) :=
  match n0 with
  | 0 => none
  | n + 1 =>
    if 2 ≤ x3 then
    (k36 x0 x1 (x2 + 1) σ)
    else
    ((g_X11_takesBy N x0 x1 x2 x3 σ).bind fun v1 =>
    (xI 13 σ (x0 + 12) x1).bind fun v2 =>
    if v2 ≤ v1 then
    (g_X11_layTakes_44 N n k21 k36 x0 x1 x2 (x3 + 1) σ)
    else
    ((g_X11_takesBy N x0 x1 x2 x3 σ).bind fun v3 =>
    (yI 13 σ (x0 + 12) x1 v3).bind fun r4 =>
    g_X11_layTakes_44 N n k21 k36 x0 x1 x2 (x3 + 1) r4))
set_option maxHeartbeats 4000000 in
theorem l_X11_layTakes_44 {N : Mem} {B : Nat} (hN : HN N B) {fk21 : Nat → Int32 → Mem → Option (Mem)} {k21 : Nat → Int32 → ST → Option (ST)} (hk21 : ∀ (x0 : Nat) (x1 : Int32) (σ : ST), isC 11 x0 → fk21 (B + x0) x1 (put N B σ) = (k21 x0 x1 σ).bind (fun q => some (put N B q))) {fk36 : Nat → Int32 → Int32 → Mem → Option (Mem)} {k36 : Nat → Int32 → Int32 → ST → Option (ST)} (hk36 : ∀ (x0 : Nat) (x1 : Int32) (x2 : Int32) (σ : ST), isC 11 x0 → fk36 (B + x0) x1 x2 (put N B σ) = (k36 x0 x1 x2 σ).bind (fun q => some (put N B q))) : ∀ (n : Nat) (x0 : Nat) (x1 : Int32) (x2 : Int32) (x3 : Int32) (σ : ST), isC 11 x0 → f_X11_layTakes_44 n fk21 fk36 (B + x0) x1 x2 x3 (put N B σ) = (g_X11_layTakes_44 N n k21 k36 x0 x1 x2 x3 σ).bind (fun q => some (put N B q)) := by
  intro n
  induction n with
  | zero =>
    intro x0 x1 x2 x3 σ hx0
    rfl
  | succ n ih =>
    intro x0 x1 x2 x3 σ hx0
    unfold f_X11_layTakes_44 g_X11_layTakes_44
    refine li (fun _ => ?_) (fun _ => ?_)
    · exact hk36 _ _ _ _ hx0
    · refine lb (l_X11_takesBy hN hx0) (fun v1 => ?_)
      refine lg (gR_11_28 hx0) ?_
      refine lb (rI_put (sh_11_28 hx0)) (fun v2 => ?_)
      refine li (fun _ => ?_) (fun _ => ?_)
      · exact ih _ _ _ _ _ hx0
      · refine lg (gR_11_28 hx0) ?_
        refine lb (l_X11_takesBy hN hx0) (fun v3 => ?_)
        refine lm (wI_put (sh_11_28 hx0)) (fun r4 => ?_)
        exact ih _ _ _ _ _ hx0
noncomputable def g_X11_layTakes_36 (N : Mem) (n0 : Nat) (k21 : Nat → Int32 → ST → Option (ST)) (x0 : Nat) (x1 : Int32) (x2 : Int32) (σ : ST) : Option (ST) :=
  match n0 with
  | 0 => none
  | n + 1 =>
    if 10 ≤ x2 then
    (k21 x0 (x1 + (-1)) σ)
    else
    (g_X11_layTakes_44 N fu k21 (g_X11_layTakes_36 N n k21) x0 x1 x2 0 σ)
set_option maxHeartbeats 4000000 in
theorem l_X11_layTakes_36 {N : Mem} {B : Nat} (hN : HN N B) {fk21 : Nat → Int32 → Mem → Option (Mem)} {k21 : Nat → Int32 → ST → Option (ST)} (hk21 : ∀ (x0 : Nat) (x1 : Int32) (σ : ST), isC 11 x0 → fk21 (B + x0) x1 (put N B σ) = (k21 x0 x1 σ).bind (fun q => some (put N B q))) : ∀ (n : Nat) (x0 : Nat) (x1 : Int32) (x2 : Int32) (σ : ST), isC 11 x0 → f_X11_layTakes_36 n fk21 (B + x0) x1 x2 (put N B σ) = (g_X11_layTakes_36 N n k21 x0 x1 x2 σ).bind (fun q => some (put N B q)) := by
  intro n
  induction n with
  | zero =>
    intro x0 x1 x2 σ hx0
    rfl
  | succ n ih =>
    intro x0 x1 x2 σ hx0
    unfold f_X11_layTakes_36 g_X11_layTakes_36
    refine li (fun _ => ?_) (fun _ => ?_)
    · exact hk21 _ _ _ hx0
    · exact l_X11_layTakes_44 hN hk21 ih _ _ _ _ _ _ hx0
noncomputable def g_X11_layTakes_21 (N : Mem) (n0 : Nat) (x0 : Nat) (x1 : Int32) (σ : ST) : Option (ST) :=
  match n0 with
  | 0 => none
  | n + 1 =>
    if x1 < 0 then
    (some σ)
    else
    ((yI 13 σ (x0 + 12) x1 1000000000).bind fun r5 =>
    g_X11_layTakes_36 N fu (g_X11_layTakes_21 N n) x0 x1 0 r5)
set_option maxHeartbeats 4000000 in
theorem l_X11_layTakes_21 {N : Mem} {B : Nat} (hN : HN N B) : ∀ (n : Nat) (x0 : Nat) (x1 : Int32) (σ : ST), isC 11 x0 → f_X11_layTakes_21 n (B + x0) x1 (put N B σ) = (g_X11_layTakes_21 N n x0 x1 σ).bind (fun q => some (put N B q)) := by
  intro n
  induction n with
  | zero =>
    intro x0 x1 σ hx0
    rfl
  | succ n ih =>
    intro x0 x1 σ hx0
    unfold f_X11_layTakes_21 g_X11_layTakes_21
    refine li (fun _ => ?_) (fun _ => ?_)
    · rfl
    · refine lg (gR_11_28 hx0) ?_
      refine lm (wI_put (sh_11_28 hx0)) (fun r5 => ?_)
      exact l_X11_layTakes_36 hN ih _ _ _ _ _ hx0
noncomputable def g_X11_layTakes_0 (N : Mem) (x0 : Nat) (σ : ST) : Option (ST) :=
  (xI 4607 σ (x0 + 1) 4).bind fun v6 =>
  (yI 13 σ (x0 + 12) v6 0).bind fun r7 =>
  (xI 4607 r7 (x0 + 1) 4).bind fun v8 =>
  g_X11_layTakes_21 N fu x0 (v8 - 1) r7
set_option maxHeartbeats 4000000 in
theorem l_X11_layTakes_0 {N : Mem} {B : Nat} (hN : HN N B) : ∀ (x0 : Nat) (σ : ST), isC 11 x0 → f_X11_layTakes_0 (B + x0) (put N B σ) = (g_X11_layTakes_0 N x0 σ).bind (fun q => some (put N B q)) := by
  intro x0 σ hx0
  unfold f_X11_layTakes_0 g_X11_layTakes_0
  refine lg (gR_11_28 hx0) ?_
  refine lg (gR_11_0 hx0) ?_
  refine lb (rI_put (sh_11_0 hx0)) (fun v6 => ?_)
  refine lm (wI_put (sh_11_28 hx0)) (fun r7 => ?_)
  refine lg (gR_11_0 hx0) ?_
  refine lb (rI_put (sh_11_0 hx0)) (fun v8 => ?_)
  exact l_X11_layTakes_21 hN  _ _ _ _ hx0
noncomputable def g_X11_layTakes (N : Mem) (x0 : Nat) (σ : ST) : Option (ST) := g_X11_layTakes_0 N x0 σ
theorem l_X11_layTakes {N : Mem} {B : Nat} (hN : HN N B) {x0 : Nat} {σ : ST} (hx0 : isC 11 x0) : f_X11_layTakes (B + x0) (put N B σ) = (g_X11_layTakes N x0 σ).map (put N B) := by
  unfold f_X11_layTakes g_X11_layTakes
  rw [if_pos (isOb_put hx0)]
  exact lmap (l_X11_layTakes_0 hN _ _ hx0)
noncomputable def g_X11_placesBy_19 (N : Mem) (n0 : Nat) (k5 : Nat → Int32 → Int32 → Int32 → Int32 → ST → Option (Int32)) (x0 : Nat) (x1 : Int32) (x2 : Int32) (x3 : Int32) (x4 : Int32) (x5 : Int32) (σ : ST) : Option (Int32) :=
  match n0 with
  | 0 => none
  | n + 1 =>
    if 2 ≤ x5 then
    (k5 x0 x1 x2 x3 (x4 + 1) σ)
    else
    ((f_X11_has x1 x4).bind fun v1 =>
    if v1 = false then
    (g_X11_placesBy_19 N n k5 x0 x1 x2 x3 x4 (x5 + 1) σ)
    else
    ((g_X11_takesBy N x0 x4 x2 x5 σ).bind fun v2 =>
    (xI 13 σ (x0 + 12) x4).bind fun v3 =>
    if v2 = v3 then
    ((g_X11_ruleOf N x0 x2 x5 σ).bind fun v4 =>
    (g_X11_goesOn N x0 x4 v4 σ).bind fun v5 =>
    g_X11_placesBy_19 N n k5 x0 x1 x2 (x3 ||| (jshl 1 v5)) x4 (x5 + 1) σ)
    else
    (g_X11_placesBy_19 N n k5 x0 x1 x2 x3 x4 (x5 + 1) σ)))
set_option maxHeartbeats 4000000 in
theorem l_X11_placesBy_19 {N : Mem} {B : Nat} (hN : HN N B) {fk5 : Nat → Int32 → Int32 → Int32 → Int32 → Mem → Option (Int32)} {k5 : Nat → Int32 → Int32 → Int32 → Int32 → ST → Option (Int32)} (hk5 : ∀ (x0 : Nat) (x1 : Int32) (x2 : Int32) (x3 : Int32) (x4 : Int32) (σ : ST), isC 11 x0 → fk5 (B + x0) x1 x2 x3 x4 (put N B σ) = (k5 x0 x1 x2 x3 x4 σ).bind some) : ∀ (n : Nat) (x0 : Nat) (x1 : Int32) (x2 : Int32) (x3 : Int32) (x4 : Int32) (x5 : Int32) (σ : ST), isC 11 x0 → f_X11_placesBy_19 n fk5 (B + x0) x1 x2 x3 x4 x5 (put N B σ) = (g_X11_placesBy_19 N n k5 x0 x1 x2 x3 x4 x5 σ).bind some := by
  intro n
  induction n with
  | zero =>
    intro x0 x1 x2 x3 x4 x5 σ hx0
    rfl
  | succ n ih =>
    intro x0 x1 x2 x3 x4 x5 σ hx0
    unfold f_X11_placesBy_19 g_X11_placesBy_19
    refine li (fun _ => ?_) (fun _ => ?_)
    · exact hk5 _ _ _ _ _ _ hx0
    · refine lb (rfl) (fun v1 => ?_)
      refine li (fun _ => ?_) (fun _ => ?_)
      · exact ih _ _ _ _ _ _ _ hx0
      · refine lb (l_X11_takesBy hN hx0) (fun v2 => ?_)
        refine lg (gR_11_28 hx0) ?_
        refine lb (rI_put (sh_11_28 hx0)) (fun v3 => ?_)
        refine li (fun _ => ?_) (fun _ => ?_)
        · refine lb (l_X11_ruleOf hN hx0) (fun v4 => ?_)
          refine lb (l_X11_goesOn hN hx0) (fun v5 => ?_)
          exact ih _ _ _ _ _ _ _ hx0
        · exact ih _ _ _ _ _ _ _ hx0
noncomputable def g_X11_placesBy_5 (N : Mem) (n0 : Nat) (x0 : Nat) (x1 : Int32) (x2 : Int32) (x3 : Int32) (x4 : Int32) (σ : ST) : Option (Int32) :=
  match n0 with
  | 0 => none
  | n + 1 =>
    (xI 4607 σ (x0 + 1) 4).bind fun v6 =>
    if v6 ≤ x4 then
    (some x3)
    else
    (g_X11_placesBy_19 N fu (g_X11_placesBy_5 N n) x0 x1 x2 x3 x4 0 σ)
set_option maxHeartbeats 4000000 in
theorem l_X11_placesBy_5 {N : Mem} {B : Nat} (hN : HN N B) : ∀ (n : Nat) (x0 : Nat) (x1 : Int32) (x2 : Int32) (x3 : Int32) (x4 : Int32) (σ : ST), isC 11 x0 → f_X11_placesBy_5 n (B + x0) x1 x2 x3 x4 (put N B σ) = (g_X11_placesBy_5 N n x0 x1 x2 x3 x4 σ).bind some := by
  intro n
  induction n with
  | zero =>
    intro x0 x1 x2 x3 x4 σ hx0
    rfl
  | succ n ih =>
    intro x0 x1 x2 x3 x4 σ hx0
    unfold f_X11_placesBy_5 g_X11_placesBy_5
    refine lg (gR_11_0 hx0) ?_
    refine lb (rI_put (sh_11_0 hx0)) (fun v6 => ?_)
    refine li (fun _ => ?_) (fun _ => ?_)
    · rfl
    · exact l_X11_placesBy_19 hN ih _ _ _ _ _ _ _ _ hx0
noncomputable def g_X11_placesBy_0 (N : Mem) (x0 : Nat) (x1 : Int32) (x2 : Int32) (σ : ST) : Option (Int32) :=
  g_X11_placesBy_5 N fu x0 x1 x2 0 0 σ
set_option maxHeartbeats 4000000 in
theorem l_X11_placesBy_0 {N : Mem} {B : Nat} (hN : HN N B) : ∀ (x0 : Nat) (x1 : Int32) (x2 : Int32) (σ : ST), isC 11 x0 → f_X11_placesBy_0 (B + x0) x1 x2 (put N B σ) = (g_X11_placesBy_0 N x0 x1 x2 σ).bind some := by
  intro x0 x1 x2 σ hx0
  unfold f_X11_placesBy_0 g_X11_placesBy_0
  exact l_X11_placesBy_5 hN  _ _ _ _ _ _ _ hx0
noncomputable def g_X11_placesBy (N : Mem) (x0 : Nat) (x1 : Int32) (x2 : Int32) (σ : ST) : Option (Int32) := g_X11_placesBy_0 N x0 x1 x2 σ
theorem l_X11_placesBy {N : Mem} {B : Nat} (hN : HN N B) {x0 : Nat} {x1 : Int32} {x2 : Int32} {σ : ST} (hx0 : isC 11 x0) : f_X11_placesBy (B + x0) x1 x2 (put N B σ) = g_X11_placesBy N x0 x1 x2 σ := by
  unfold f_X11_placesBy g_X11_placesBy
  rw [if_pos (isOb_put hx0)]
  exact lsm (l_X11_placesBy_0 hN _ _ _ _ hx0)
noncomputable def g_X11_layRow_68 (N : Mem) (x0 : Nat) (σ : ST) : Option (Int32 × ST) :=
  (xI 12 σ (x0 + 13) 0).bind fun v1 =>
  if 10 ≤ v1 then
  (some ((-1), σ))
  else
  (some (1, σ))
set_option maxHeartbeats 4000000 in
theorem l_X11_layRow_68 {N : Mem} {B : Nat} (hN : HN N B) : ∀ (x0 : Nat) (σ : ST), isC 11 x0 → f_X11_layRow_68 (B + x0) (put N B σ) = (g_X11_layRow_68 N x0 σ).bind (fun q => some (q.1, put N B q.2)) := by
  intro x0 σ hx0
  unfold f_X11_layRow_68 g_X11_layRow_68
  refine lg (gR_11_29 hx0) ?_
  refine lb (rI_put (sh_11_29 hx0)) (fun v1 => ?_)
  refine li (fun _ => ?_) (fun _ => ?_)
  · rfl
  · rfl
noncomputable def g_X11_layRow_16 (N : Mem) (n0 : Nat) (x0 : Nat) (σ : ST) : Option (Int32 × ST) :=
  match n0 with
  | 0 => none
  | n + 1 =>
    (xI 12 σ (x0 + 13) 0).bind fun v2 =>
    if 10 ≤ v2 then
    (g_X11_layRow_68 N x0 σ)
    else
    ((xI 12 σ (x0 + 13) 0).bind fun v3 =>
    (g_X11_ruleOf N x0 v3 0 σ).bind fun v4 =>
    if v4 = 0 then
    (g_X11_layRow_68 N x0 σ)
    else
    ((xI 12 σ (x0 + 13) 0).bind fun v5 =>
    (g_X11_ruleOf N x0 v5 1 σ).bind fun v6 =>
    if v6 = 0 then
    (g_X11_layRow_68 N x0 σ)
    else
    ((xI 12 σ (x0 + 13) 0).bind fun v7 =>
    (yI 12 σ (x0 + 13) 0 (v7 + 1)).bind fun r8 =>
    g_X11_layRow_16 N n x0 r8)))
set_option maxHeartbeats 4000000 in
theorem l_X11_layRow_16 {N : Mem} {B : Nat} (hN : HN N B) : ∀ (n : Nat) (x0 : Nat) (σ : ST), isC 11 x0 → f_X11_layRow_16 n (B + x0) (put N B σ) = (g_X11_layRow_16 N n x0 σ).bind (fun q => some (q.1, put N B q.2)) := by
  intro n
  induction n with
  | zero =>
    intro x0 σ hx0
    rfl
  | succ n ih =>
    intro x0 σ hx0
    unfold f_X11_layRow_16 g_X11_layRow_16
    refine lg (gR_11_29 hx0) ?_
    refine lb (rI_put (sh_11_29 hx0)) (fun v2 => ?_)
    refine li (fun _ => ?_) (fun _ => ?_)
    · exact l_X11_layRow_68 hN  _ _ hx0
    · refine lg (gR_11_29 hx0) ?_
      refine lb (rI_put (sh_11_29 hx0)) (fun v3 => ?_)
      refine lb (l_X11_ruleOf hN hx0) (fun v4 => ?_)
      refine li (fun _ => ?_) (fun _ => ?_)
      · exact l_X11_layRow_68 hN  _ _ hx0
      · refine lg (gR_11_29 hx0) ?_
        refine lb (rI_put (sh_11_29 hx0)) (fun v5 => ?_)
        refine lb (l_X11_ruleOf hN hx0) (fun v6 => ?_)
        refine li (fun _ => ?_) (fun _ => ?_)
        · exact l_X11_layRow_68 hN  _ _ hx0
        · refine lg (gR_11_29 hx0) ?_
          refine lb (rI_put (sh_11_29 hx0)) (fun v7 => ?_)
          refine lm (wI_put (sh_11_29 hx0)) (fun r8 => ?_)
          exact ih _ _ hx0
noncomputable def g_X11_layRow_119 (N : Mem) (n0 : Nat) (k107 : Nat → Int32 → Int32 → ST → Option (Int32 × ST)) (x0 : Nat) (x1 : Int32) (x2 : Int32) (x3 : Int32) (σ : ST) : Option (Int32 × ST) :=
  match n0 with
  | 0 => none
  | n + 1 =>
    (g_X11_placesBy N x0 x1 x3 σ).bind fun v9 =>
    if v9 = 0 then
    (g_X11_layRow_119 N n k107 x0 x1 x2 (x3 + 1) σ)
    else
    ((yI 12 σ (x0 + 13) x2 x3).bind fun r10 =>
    (g_X11_placesBy N x0 x1 x3 r10).bind fun v11 =>
    k107 x0 v11 (x2 + 1) r10)
set_option maxHeartbeats 4000000 in
theorem l_X11_layRow_119 {N : Mem} {B : Nat} (hN : HN N B) {fk107 : Nat → Int32 → Int32 → Mem → Option (Int32 × Mem)} {k107 : Nat → Int32 → Int32 → ST → Option (Int32 × ST)} (hk107 : ∀ (x0 : Nat) (x1 : Int32) (x2 : Int32) (σ : ST), isC 11 x0 → fk107 (B + x0) x1 x2 (put N B σ) = (k107 x0 x1 x2 σ).bind (fun q => some (q.1, put N B q.2))) : ∀ (n : Nat) (x0 : Nat) (x1 : Int32) (x2 : Int32) (x3 : Int32) (σ : ST), isC 11 x0 → f_X11_layRow_119 n fk107 (B + x0) x1 x2 x3 (put N B σ) = (g_X11_layRow_119 N n k107 x0 x1 x2 x3 σ).bind (fun q => some (q.1, put N B q.2)) := by
  intro n
  induction n with
  | zero =>
    intro x0 x1 x2 x3 σ hx0
    rfl
  | succ n ih =>
    intro x0 x1 x2 x3 σ hx0
    unfold f_X11_layRow_119 g_X11_layRow_119
    refine lb (l_X11_placesBy hN hx0) (fun v9 => ?_)
    refine li (fun _ => ?_) (fun _ => ?_)
    · exact ih _ _ _ _ _ hx0
    · refine lg (gR_11_29 hx0) ?_
      refine lm (wI_put (sh_11_29 hx0)) (fun r10 => ?_)
      refine lb (l_X11_placesBy hN hx0) (fun v11 => ?_)
      exact hk107 _ _ _ _ hx0
noncomputable def g_X11_layRow_107 (N : Mem) (n0 : Nat) (x0 : Nat) (x1 : Int32) (x2 : Int32) (σ : ST) : Option (Int32 × ST) :=
  match n0 with
  | 0 => none
  | n + 1 =>
    (xI 13 σ (x0 + 12) 0).bind fun v12 =>
    if v12 ≤ x2 then
    ((xI 13 σ (x0 + 12) 0).bind fun v13 =>
    some (v13, σ))
    else
    (g_X11_layRow_119 N fu (g_X11_layRow_107 N n) x0 x1 x2 0 σ)
set_option maxHeartbeats 4000000 in
theorem l_X11_layRow_107 {N : Mem} {B : Nat} (hN : HN N B) : ∀ (n : Nat) (x0 : Nat) (x1 : Int32) (x2 : Int32) (σ : ST), isC 11 x0 → f_X11_layRow_107 n (B + x0) x1 x2 (put N B σ) = (g_X11_layRow_107 N n x0 x1 x2 σ).bind (fun q => some (q.1, put N B q.2)) := by
  intro n
  induction n with
  | zero =>
    intro x0 x1 x2 σ hx0
    rfl
  | succ n ih =>
    intro x0 x1 x2 σ hx0
    unfold f_X11_layRow_107 g_X11_layRow_107
    refine lg (gR_11_28 hx0) ?_
    refine lb (rI_put (sh_11_28 hx0)) (fun v12 => ?_)
    refine li (fun _ => ?_) (fun _ => ?_)
    · refine lg (gR_11_28 hx0) ?_
      refine lb (rI_put (sh_11_28 hx0)) (fun v13 => ?_)
      rfl
    · exact l_X11_layRow_119 hN ih _ _ _ _ _ _ hx0
noncomputable def g_X11_layRow_0 (N : Mem) (x0 : Nat) (σ : ST) : Option (Int32 × ST) :=
  (xI 4607 σ (x0 + 1) 4).bind fun v14 =>
  if v14 = 0 then
  ((yI 12 σ (x0 + 13) 0 0).bind fun r17 =>
  g_X11_layRow_16 N fu x0 r17)
  else
  ((g_X11_layTakes N x0 σ).bind fun r15 =>
  (xI 13 r15 (x0 + 12) 0).bind fun v16 =>
  if v16 < 1000000000 then
  (g_X11_layRow_107 N fu x0 1 0 r15)
  else
  (some ((-1), r15)))
set_option maxHeartbeats 4000000 in
theorem l_X11_layRow_0 {N : Mem} {B : Nat} (hN : HN N B) : ∀ (x0 : Nat) (σ : ST), isC 11 x0 → f_X11_layRow_0 (B + x0) (put N B σ) = (g_X11_layRow_0 N x0 σ).bind (fun q => some (q.1, put N B q.2)) := by
  intro x0 σ hx0
  unfold f_X11_layRow_0 g_X11_layRow_0
  refine lg (gR_11_0 hx0) ?_
  refine lb (rI_put (sh_11_0 hx0)) (fun v14 => ?_)
  refine li (fun _ => ?_) (fun _ => ?_)
  · refine lg (gR_11_29 hx0) ?_
    refine lm (wI_put (sh_11_29 hx0)) (fun r17 => ?_)
    exact l_X11_layRow_16 hN  _ _ _ hx0
  · refine lm (l_X11_layTakes hN hx0) (fun r15 => ?_)
    refine lg (gR_11_28 hx0) ?_
    refine lb (rI_put (sh_11_28 hx0)) (fun v16 => ?_)
    refine li (fun _ => ?_) (fun _ => ?_)
    · exact l_X11_layRow_107 hN  _ _ _ _ _ hx0
    · rfl
noncomputable def g_X11_layRow (N : Mem) (x0 : Nat) (σ : ST) : Option (Int32 × ST) := g_X11_layRow_0 N x0 σ
theorem l_X11_layRow {N : Mem} {B : Nat} (hN : HN N B) {x0 : Nat} {σ : ST} (hx0 : isC 11 x0) : f_X11_layRow (B + x0) (put N B σ) = (g_X11_layRow N x0 σ).bind (fun q => some (q.1, put N B q.2)) := by
  unfold f_X11_layRow g_X11_layRow
  rw [if_pos (isOb_put hx0)]
  exact l_X11_layRow_0 hN _ _ hx0
noncomputable def g_X11_add_0 (N : Mem) (x0 : Nat) (x1 : Int32) (σ : ST) : Option (Int32 × ST) :=
  (g_X11_layRow N x0 σ).bind fun r1 =>
  if r1.1 = (-1) then
  (some ((-2), r1.2))
  else
  ((f_X11_isIn x1 (-1) (r1.1 - 1)).bind fun v2 =>
  if v2 = true then
  (if x1 = (-1) then
  (some (r1.1, r1.2))
  else
  ((xI 12 r1.2 (x0 + 13) x1).bind fun v3 =>
  some (v3, r1.2)))
  else
  (some ((-2), r1.2)))
set_option maxHeartbeats 4000000 in
theorem l_X11_add_0 {N : Mem} {B : Nat} (hN : HN N B) : ∀ (x0 : Nat) (x1 : Int32) (σ : ST), isC 11 x0 → f_X11_add_0 (B + x0) x1 (put N B σ) = (g_X11_add_0 N x0 x1 σ).bind (fun q => some (q.1, put N B q.2)) := by
  intro x0 x1 σ hx0
  unfold f_X11_add_0 g_X11_add_0
  refine lc (l_X11_layRow hN hx0) (fun r1 => ?_)
  dsimp only
  refine li (fun _ => ?_) (fun _ => ?_)
  · rfl
  · refine lb (rfl) (fun v2 => ?_)
    refine li (fun _ => ?_) (fun _ => ?_)
    · refine li (fun _ => ?_) (fun _ => ?_)
      · rfl
      · refine lg (gR_11_29 hx0) ?_
        refine lb (rI_put (sh_11_29 hx0)) (fun v3 => ?_)
        rfl
    · rfl
noncomputable def g_X11_add (N : Mem) (x0 : Nat) (x1 : Int32) (σ : ST) : Option (Int32 × ST) := g_X11_add_0 N x0 x1 σ
theorem l_X11_add {N : Mem} {B : Nat} (hN : HN N B) {x0 : Nat} {x1 : Int32} {σ : ST} (hx0 : isC 11 x0) : f_X11_add (B + x0) x1 (put N B σ) = (g_X11_add N x0 x1 σ).bind (fun q => some (q.1, put N B q.2)) := by
  unfold f_X11_add g_X11_add
  rw [if_pos (isOb_put hx0)]
  exact l_X11_add_0 hN _ _ _ hx0
noncomputable def g_X11_duet_170 (N : Mem) (k38 : Nat → Int32 → Int32 → Int32 → ST → Option (Int32 × ST)) (k49 : Nat → Int32 → Int32 → Int32 → Int32 → ST → Option (Int32 × ST)) (x0 : Nat) (x1 : Int32) (x2 : Int32) (x3 : Int32) (x4 : Int32) (x5 : Int32) (σ : ST) : Option (Int32 × ST) :=
  (yI 169 σ (x0 + 14) ((13 * x3) + x4) x5).bind fun r1 =>
  k49 x0 x1 x2 x3 (x4 + 1) r1
set_option maxHeartbeats 4000000 in
theorem l_X11_duet_170 {N : Mem} {B : Nat} (hN : HN N B) {fk38 : Nat → Int32 → Int32 → Int32 → Mem → Option (Int32 × Mem)} {k38 : Nat → Int32 → Int32 → Int32 → ST → Option (Int32 × ST)} (hk38 : ∀ (x0 : Nat) (x1 : Int32) (x2 : Int32) (x3 : Int32) (σ : ST), isC 11 x0 → fk38 (B + x0) x1 x2 x3 (put N B σ) = (k38 x0 x1 x2 x3 σ).bind (fun q => some (q.1, put N B q.2))) {fk49 : Nat → Int32 → Int32 → Int32 → Int32 → Mem → Option (Int32 × Mem)} {k49 : Nat → Int32 → Int32 → Int32 → Int32 → ST → Option (Int32 × ST)} (hk49 : ∀ (x0 : Nat) (x1 : Int32) (x2 : Int32) (x3 : Int32) (x4 : Int32) (σ : ST), isC 11 x0 → fk49 (B + x0) x1 x2 x3 x4 (put N B σ) = (k49 x0 x1 x2 x3 x4 σ).bind (fun q => some (q.1, put N B q.2))) : ∀ (x0 : Nat) (x1 : Int32) (x2 : Int32) (x3 : Int32) (x4 : Int32) (x5 : Int32) (σ : ST), isC 11 x0 → f_X11_duet_170 fk38 fk49 (B + x0) x1 x2 x3 x4 x5 (put N B σ) = (g_X11_duet_170 N k38 k49 x0 x1 x2 x3 x4 x5 σ).bind (fun q => some (q.1, put N B q.2)) := by
  intro x0 x1 x2 x3 x4 x5 σ hx0
  unfold f_X11_duet_170 g_X11_duet_170
  refine lg (gR_11_30 hx0) ?_
  refine lm (wI_put (sh_11_30 hx0)) (fun r1 => ?_)
  exact hk49 _ _ _ _ _ _ hx0
noncomputable def g_X11_duet_121 (N : Mem) (k38 : Nat → Int32 → Int32 → Int32 → ST → Option (Int32 × ST)) (k49 : Nat → Int32 → Int32 → Int32 → Int32 → ST → Option (Int32 × ST)) (x0 : Nat) (x1 : Int32) (x2 : Int32) (x3 : Int32) (x4 : Int32) (x5 : Int32) (σ : ST) : Option (Int32 × ST) :=
  if x4 ≤ 0 then
  (g_X11_duet_170 N k38 k49 x0 x1 x2 x3 x4 x5 σ)
  else
  ((f_X11_digitOf x2 (x4 - 1)).bind fun v2 =>
  (xI 4607 σ (x0 + 1) (((121 + x3) + x4) - 1)).bind fun v3 =>
  if v2 = v3 then
  ((xI 169 σ (x0 + 14) (((13 * x3) + x4) - 1)).bind fun v4 =>
  g_X11_duet_170 N k38 k49 x0 x1 x2 x3 x4 (x5 + v4) σ)
  else
  (g_X11_duet_170 N k38 k49 x0 x1 x2 x3 x4 x5 σ))
set_option maxHeartbeats 4000000 in
theorem l_X11_duet_121 {N : Mem} {B : Nat} (hN : HN N B) {fk38 : Nat → Int32 → Int32 → Int32 → Mem → Option (Int32 × Mem)} {k38 : Nat → Int32 → Int32 → Int32 → ST → Option (Int32 × ST)} (hk38 : ∀ (x0 : Nat) (x1 : Int32) (x2 : Int32) (x3 : Int32) (σ : ST), isC 11 x0 → fk38 (B + x0) x1 x2 x3 (put N B σ) = (k38 x0 x1 x2 x3 σ).bind (fun q => some (q.1, put N B q.2))) {fk49 : Nat → Int32 → Int32 → Int32 → Int32 → Mem → Option (Int32 × Mem)} {k49 : Nat → Int32 → Int32 → Int32 → Int32 → ST → Option (Int32 × ST)} (hk49 : ∀ (x0 : Nat) (x1 : Int32) (x2 : Int32) (x3 : Int32) (x4 : Int32) (σ : ST), isC 11 x0 → fk49 (B + x0) x1 x2 x3 x4 (put N B σ) = (k49 x0 x1 x2 x3 x4 σ).bind (fun q => some (q.1, put N B q.2))) : ∀ (x0 : Nat) (x1 : Int32) (x2 : Int32) (x3 : Int32) (x4 : Int32) (x5 : Int32) (σ : ST), isC 11 x0 → f_X11_duet_121 fk38 fk49 (B + x0) x1 x2 x3 x4 x5 (put N B σ) = (g_X11_duet_121 N k38 k49 x0 x1 x2 x3 x4 x5 σ).bind (fun q => some (q.1, put N B q.2)) := by
  intro x0 x1 x2 x3 x4 x5 σ hx0
  unfold f_X11_duet_121 g_X11_duet_121
  refine li (fun _ => ?_) (fun _ => ?_)
  · exact l_X11_duet_170 hN hk38 hk49 _ _ _ _ _ _ _ hx0
  · refine lb (rfl) (fun v2 => ?_)
    refine lg (gR_11_0 hx0) ?_
    refine lb (rI_put (sh_11_0 hx0)) (fun v3 => ?_)
    refine li (fun _ => ?_) (fun _ => ?_)
    · refine lg (gR_11_30 hx0) ?_
      refine lb (rI_put (sh_11_30 hx0)) (fun v4 => ?_)
      exact l_X11_duet_170 hN hk38 hk49 _ _ _ _ _ _ _ hx0
    · exact l_X11_duet_170 hN hk38 hk49 _ _ _ _ _ _ _ hx0
noncomputable def g_X11_duet_72 (N : Mem) (k38 : Nat → Int32 → Int32 → Int32 → ST → Option (Int32 × ST)) (k49 : Nat → Int32 → Int32 → Int32 → Int32 → ST → Option (Int32 × ST)) (x0 : Nat) (x1 : Int32) (x2 : Int32) (x3 : Int32) (x4 : Int32) (s0 : Bool) (σ : ST) : Option (Int32 × ST) :=
  if x3 ≤ 0 then
  (g_X11_duet_121 N k38 k49 x0 x1 x2 x3 x4 (jz s0) σ)
  else
  ((f_X11_digitOf x1 (x3 - 1)).bind fun v5 =>
  (xI 4607 σ (x0 + 1) (((121 + x3) + x4) - 1)).bind fun v6 =>
  if v5 = v6 then
  ((xI 169 σ (x0 + 14) ((13 * (x3 - 1)) + x4)).bind fun v7 =>
  g_X11_duet_121 N k38 k49 x0 x1 x2 x3 x4 ((jz s0) + v7) σ)
  else
  (g_X11_duet_121 N k38 k49 x0 x1 x2 x3 x4 (jz s0) σ))
set_option maxHeartbeats 4000000 in
theorem l_X11_duet_72 {N : Mem} {B : Nat} (hN : HN N B) {fk38 : Nat → Int32 → Int32 → Int32 → Mem → Option (Int32 × Mem)} {k38 : Nat → Int32 → Int32 → Int32 → ST → Option (Int32 × ST)} (hk38 : ∀ (x0 : Nat) (x1 : Int32) (x2 : Int32) (x3 : Int32) (σ : ST), isC 11 x0 → fk38 (B + x0) x1 x2 x3 (put N B σ) = (k38 x0 x1 x2 x3 σ).bind (fun q => some (q.1, put N B q.2))) {fk49 : Nat → Int32 → Int32 → Int32 → Int32 → Mem → Option (Int32 × Mem)} {k49 : Nat → Int32 → Int32 → Int32 → Int32 → ST → Option (Int32 × ST)} (hk49 : ∀ (x0 : Nat) (x1 : Int32) (x2 : Int32) (x3 : Int32) (x4 : Int32) (σ : ST), isC 11 x0 → fk49 (B + x0) x1 x2 x3 x4 (put N B σ) = (k49 x0 x1 x2 x3 x4 σ).bind (fun q => some (q.1, put N B q.2))) : ∀ (x0 : Nat) (x1 : Int32) (x2 : Int32) (x3 : Int32) (x4 : Int32) (s0 : Bool) (σ : ST), isC 11 x0 → f_X11_duet_72 fk38 fk49 (B + x0) x1 x2 x3 x4 s0 (put N B σ) = (g_X11_duet_72 N k38 k49 x0 x1 x2 x3 x4 s0 σ).bind (fun q => some (q.1, put N B q.2)) := by
  intro x0 x1 x2 x3 x4 s0 σ hx0
  unfold f_X11_duet_72 g_X11_duet_72
  refine li (fun _ => ?_) (fun _ => ?_)
  · exact l_X11_duet_121 hN hk38 hk49 _ _ _ _ _ _ _ hx0
  · refine lb (rfl) (fun v5 => ?_)
    refine lg (gR_11_0 hx0) ?_
    refine lb (rI_put (sh_11_0 hx0)) (fun v6 => ?_)
    refine li (fun _ => ?_) (fun _ => ?_)
    · refine lg (gR_11_30 hx0) ?_
      refine lb (rI_put (sh_11_30 hx0)) (fun v7 => ?_)
      exact l_X11_duet_121 hN hk38 hk49 _ _ _ _ _ _ _ hx0
    · exact l_X11_duet_121 hN hk38 hk49 _ _ _ _ _ _ _ hx0
noncomputable def g_X11_duet_71 (N : Mem) (k38 : Nat → Int32 → Int32 → Int32 → ST → Option (Int32 × ST)) (k49 : Nat → Int32 → Int32 → Int32 → Int32 → ST → Option (Int32 × ST)) (x0 : Nat) (x1 : Int32) (x2 : Int32) (x3 : Int32) (x4 : Int32) (σ : ST) : Option (Int32 × ST) :=
  g_X11_duet_72 N k38 k49 x0 x1 x2 x3 x4 false σ
set_option maxHeartbeats 4000000 in
theorem l_X11_duet_71 {N : Mem} {B : Nat} (hN : HN N B) {fk38 : Nat → Int32 → Int32 → Int32 → Mem → Option (Int32 × Mem)} {k38 : Nat → Int32 → Int32 → Int32 → ST → Option (Int32 × ST)} (hk38 : ∀ (x0 : Nat) (x1 : Int32) (x2 : Int32) (x3 : Int32) (σ : ST), isC 11 x0 → fk38 (B + x0) x1 x2 x3 (put N B σ) = (k38 x0 x1 x2 x3 σ).bind (fun q => some (q.1, put N B q.2))) {fk49 : Nat → Int32 → Int32 → Int32 → Int32 → Mem → Option (Int32 × Mem)} {k49 : Nat → Int32 → Int32 → Int32 → Int32 → ST → Option (Int32 × ST)} (hk49 : ∀ (x0 : Nat) (x1 : Int32) (x2 : Int32) (x3 : Int32) (x4 : Int32) (σ : ST), isC 11 x0 → fk49 (B + x0) x1 x2 x3 x4 (put N B σ) = (k49 x0 x1 x2 x3 x4 σ).bind (fun q => some (q.1, put N B q.2))) : ∀ (x0 : Nat) (x1 : Int32) (x2 : Int32) (x3 : Int32) (x4 : Int32) (σ : ST), isC 11 x0 → f_X11_duet_71 fk38 fk49 (B + x0) x1 x2 x3 x4 (put N B σ) = (g_X11_duet_71 N k38 k49 x0 x1 x2 x3 x4 σ).bind (fun q => some (q.1, put N B q.2)) := by
  intro x0 x1 x2 x3 x4 σ hx0
  unfold f_X11_duet_71 g_X11_duet_71
  exact l_X11_duet_72 hN hk38 hk49 _ _ _ _ _ _ _ hx0
noncomputable def g_X11_duet_49 (N : Mem) (n0 : Nat) (k38 : Nat → Int32 → Int32 → Int32 → ST → Option (Int32 × ST)) (x0 : Nat) (x1 : Int32) (x2 : Int32) (x3 : Int32) (x4 : Int32) (σ : ST) : Option (Int32 × ST) :=
  match n0 with
  | 0 => none
  | n + 1 =>
    (f_X11_longOf x2).bind fun v8 =>
    if v8 < x4 then
    (k38 x0 x1 x2 (x3 + 1) σ)
    else
    (if x3 = 0 then
    (if x4 = 0 then
    (g_X11_duet_72 N k38 (g_X11_duet_49 N n k38) x0 x1 x2 x3 x4 true σ)
    else
    (g_X11_duet_71 N k38 (g_X11_duet_49 N n k38) x0 x1 x2 x3 x4 σ))
    else
    (g_X11_duet_71 N k38 (g_X11_duet_49 N n k38) x0 x1 x2 x3 x4 σ))
set_option maxHeartbeats 4000000 in
theorem l_X11_duet_49 {N : Mem} {B : Nat} (hN : HN N B) {fk38 : Nat → Int32 → Int32 → Int32 → Mem → Option (Int32 × Mem)} {k38 : Nat → Int32 → Int32 → Int32 → ST → Option (Int32 × ST)} (hk38 : ∀ (x0 : Nat) (x1 : Int32) (x2 : Int32) (x3 : Int32) (σ : ST), isC 11 x0 → fk38 (B + x0) x1 x2 x3 (put N B σ) = (k38 x0 x1 x2 x3 σ).bind (fun q => some (q.1, put N B q.2))) : ∀ (n : Nat) (x0 : Nat) (x1 : Int32) (x2 : Int32) (x3 : Int32) (x4 : Int32) (σ : ST), isC 11 x0 → f_X11_duet_49 n fk38 (B + x0) x1 x2 x3 x4 (put N B σ) = (g_X11_duet_49 N n k38 x0 x1 x2 x3 x4 σ).bind (fun q => some (q.1, put N B q.2)) := by
  intro n
  induction n with
  | zero =>
    intro x0 x1 x2 x3 x4 σ hx0
    rfl
  | succ n ih =>
    intro x0 x1 x2 x3 x4 σ hx0
    unfold f_X11_duet_49 g_X11_duet_49
    refine lb (rfl) (fun v8 => ?_)
    refine li (fun _ => ?_) (fun _ => ?_)
    · exact hk38 _ _ _ _ _ hx0
    · refine li (fun _ => ?_) (fun _ => ?_)
      · refine li (fun _ => ?_) (fun _ => ?_)
        · exact l_X11_duet_72 hN hk38 ih _ _ _ _ _ _ _ hx0
        · exact l_X11_duet_71 hN hk38 ih _ _ _ _ _ _ hx0
      · exact l_X11_duet_71 hN hk38 ih _ _ _ _ _ _ hx0
noncomputable def g_X11_duet_38 (N : Mem) (n0 : Nat) (x0 : Nat) (x1 : Int32) (x2 : Int32) (x3 : Int32) (σ : ST) : Option (Int32 × ST) :=
  match n0 with
  | 0 => none
  | n + 1 =>
    (f_X11_longOf x1).bind fun v9 =>
    if v9 < x3 then
    ((f_X11_longOf x1).bind fun v10 =>
    (f_X11_longOf x2).bind fun v11 =>
    (xI 169 σ (x0 + 14) ((13 * v10) + v11)).bind fun v12 =>
    some (v12, σ))
    else
    (g_X11_duet_49 N fu (g_X11_duet_38 N n) x0 x1 x2 x3 0 σ)
set_option maxHeartbeats 4000000 in
theorem l_X11_duet_38 {N : Mem} {B : Nat} (hN : HN N B) : ∀ (n : Nat) (x0 : Nat) (x1 : Int32) (x2 : Int32) (x3 : Int32) (σ : ST), isC 11 x0 → f_X11_duet_38 n (B + x0) x1 x2 x3 (put N B σ) = (g_X11_duet_38 N n x0 x1 x2 x3 σ).bind (fun q => some (q.1, put N B q.2)) := by
  intro n
  induction n with
  | zero =>
    intro x0 x1 x2 x3 σ hx0
    rfl
  | succ n ih =>
    intro x0 x1 x2 x3 σ hx0
    unfold f_X11_duet_38 g_X11_duet_38
    refine lb (rfl) (fun v9 => ?_)
    refine li (fun _ => ?_) (fun _ => ?_)
    · refine lg (gR_11_30 hx0) ?_
      refine lb (rfl) (fun v10 => ?_)
      refine lb (rfl) (fun v11 => ?_)
      refine lb (rI_put (sh_11_30 hx0)) (fun v12 => ?_)
      rfl
    · exact l_X11_duet_49 hN ih _ _ _ _ _ _ _ hx0
noncomputable def g_X11_duet_0 (N : Mem) (x0 : Nat) (x1 : Int32) (x2 : Int32) (σ : ST) : Option (Int32 × ST) :=
  (f_X11_isNumber x1).bind fun v13 =>
  if v13 = false then
  (some ((-1), σ))
  else
  ((f_X11_isNumber x2).bind fun v14 =>
  if v14 = true then
  ((f_X11_longOf x1).bind fun v15 =>
  (f_X11_longOf x2).bind fun v16 =>
  (xI 4607 σ (x0 + 1) 4).bind fun v17 =>
  if (v15 + v16) = v17 then
  (g_X11_duet_38 N fu x0 x1 x2 0 σ)
  else
  (some (0, σ)))
  else
  (some ((-1), σ)))
set_option maxHeartbeats 4000000 in
theorem l_X11_duet_0 {N : Mem} {B : Nat} (hN : HN N B) : ∀ (x0 : Nat) (x1 : Int32) (x2 : Int32) (σ : ST), isC 11 x0 → f_X11_duet_0 (B + x0) x1 x2 (put N B σ) = (g_X11_duet_0 N x0 x1 x2 σ).bind (fun q => some (q.1, put N B q.2)) := by
  intro x0 x1 x2 σ hx0
  unfold f_X11_duet_0 g_X11_duet_0
  refine lb (rfl) (fun v13 => ?_)
  refine li (fun _ => ?_) (fun _ => ?_)
  · rfl
  · refine lb (rfl) (fun v14 => ?_)
    refine li (fun _ => ?_) (fun _ => ?_)
    · refine lb (rfl) (fun v15 => ?_)
      refine lb (rfl) (fun v16 => ?_)
      refine lg (gR_11_0 hx0) ?_
      refine lb (rI_put (sh_11_0 hx0)) (fun v17 => ?_)
      refine li (fun _ => ?_) (fun _ => ?_)
      · exact l_X11_duet_38 hN  _ _ _ _ _ _ hx0
      · rfl
    · rfl
noncomputable def g_X11_duet (N : Mem) (x0 : Nat) (x1 : Int32) (x2 : Int32) (σ : ST) : Option (Int32 × ST) := g_X11_duet_0 N x0 x1 x2 σ
theorem l_X11_duet {N : Mem} {B : Nat} (hN : HN N B) {x0 : Nat} {x1 : Int32} {x2 : Int32} {σ : ST} (hx0 : isC 11 x0) : f_X11_duet (B + x0) x1 x2 (put N B σ) = (g_X11_duet N x0 x1 x2 σ).bind (fun q => some (q.1, put N B q.2)) := by
  unfold f_X11_duet g_X11_duet
  rw [if_pos (isOb_put hx0)]
  exact l_X11_duet_0 hN _ _ _ _ hx0
noncomputable def g_X11_layCommon_145 (N : Mem) (k7 : Nat → Int32 → ST → Option (ST)) (k18 : Nat → Int32 → Int32 → ST → Option (ST)) (x0 : Nat) (x1 : Int32) (x2 : Int32) (x3 : Int32) (σ : ST) : Option (ST) :=
  (yI 169 σ (x0 + 14) ((13 * x1) + x2) x3).bind fun r1 =>
  k18 x0 x1 (x2 + (-1)) r1
set_option maxHeartbeats 4000000 in
theorem l_X11_layCommon_145 {N : Mem} {B : Nat} (hN : HN N B) {fk7 : Nat → Int32 → Mem → Option (Mem)} {k7 : Nat → Int32 → ST → Option (ST)} (hk7 : ∀ (x0 : Nat) (x1 : Int32) (σ : ST), isC 11 x0 → fk7 (B + x0) x1 (put N B σ) = (k7 x0 x1 σ).bind (fun q => some (put N B q))) {fk18 : Nat → Int32 → Int32 → Mem → Option (Mem)} {k18 : Nat → Int32 → Int32 → ST → Option (ST)} (hk18 : ∀ (x0 : Nat) (x1 : Int32) (x2 : Int32) (σ : ST), isC 11 x0 → fk18 (B + x0) x1 x2 (put N B σ) = (k18 x0 x1 x2 σ).bind (fun q => some (put N B q))) : ∀ (x0 : Nat) (x1 : Int32) (x2 : Int32) (x3 : Int32) (σ : ST), isC 11 x0 → f_X11_layCommon_145 fk7 fk18 (B + x0) x1 x2 x3 (put N B σ) = (g_X11_layCommon_145 N k7 k18 x0 x1 x2 x3 σ).bind (fun q => some (put N B q)) := by
  intro x0 x1 x2 x3 σ hx0
  unfold f_X11_layCommon_145 g_X11_layCommon_145
  refine lg (gR_11_30 hx0) ?_
  refine lm (wI_put (sh_11_30 hx0)) (fun r1 => ?_)
  exact hk18 _ _ _ _ hx0
noncomputable def g_X11_layCommon_144 (N : Mem) (k7 : Nat → Int32 → ST → Option (ST)) (k18 : Nat → Int32 → Int32 → ST → Option (ST)) (x0 : Nat) (x1 : Int32) (x2 : Int32) (s0 : Int32) (σ : ST) : Option (ST) :=
  g_X11_layCommon_145 N k7 k18 x0 x1 x2 s0 σ
set_option maxHeartbeats 4000000 in
theorem l_X11_layCommon_144 {N : Mem} {B : Nat} (hN : HN N B) {fk7 : Nat → Int32 → Mem → Option (Mem)} {k7 : Nat → Int32 → ST → Option (ST)} (hk7 : ∀ (x0 : Nat) (x1 : Int32) (σ : ST), isC 11 x0 → fk7 (B + x0) x1 (put N B σ) = (k7 x0 x1 σ).bind (fun q => some (put N B q))) {fk18 : Nat → Int32 → Int32 → Mem → Option (Mem)} {k18 : Nat → Int32 → Int32 → ST → Option (ST)} (hk18 : ∀ (x0 : Nat) (x1 : Int32) (x2 : Int32) (σ : ST), isC 11 x0 → fk18 (B + x0) x1 x2 (put N B σ) = (k18 x0 x1 x2 σ).bind (fun q => some (put N B q))) : ∀ (x0 : Nat) (x1 : Int32) (x2 : Int32) (s0 : Int32) (σ : ST), isC 11 x0 → f_X11_layCommon_144 fk7 fk18 (B + x0) x1 x2 s0 (put N B σ) = (g_X11_layCommon_144 N k7 k18 x0 x1 x2 s0 σ).bind (fun q => some (put N B q)) := by
  intro x0 x1 x2 s0 σ hx0
  unfold f_X11_layCommon_144 g_X11_layCommon_144
  exact l_X11_layCommon_145 hN hk7 hk18 _ _ _ _ _ hx0
noncomputable def g_X11_layCommon_18 (N : Mem) (n0 : Nat) (k7 : Nat → Int32 → ST → Option (ST)) (x0 : Nat) (x1 : Int32) (x2 : Int32) (σ : ST) : Option (ST) :=
  match n0 with
  | 0 => none
  | n + 1 =>
    if x2 < 0 then
    (k7 x0 (x1 + (-1)) σ)
    else
    ((xI 4607 σ (x0 + 1) 4).bind fun v2 =>
    if v2 ≤ x1 then
    (g_X11_layCommon_145 N k7 (g_X11_layCommon_18 N n k7) x0 x1 x2 0 σ)
    else
    ((xI 4607 σ (x0 + 1) 5).bind fun v3 =>
    if v3 ≤ x2 then
    (g_X11_layCommon_145 N k7 (g_X11_layCommon_18 N n k7) x0 x1 x2 0 σ)
    else
    ((xI 4607 σ (x0 + 1) (121 + x1)).bind fun v4 =>
    (xI 4607 σ (x0 + 1) (133 + x2)).bind fun v5 =>
    if v4 = v5 then
    ((xI 169 σ (x0 + 14) (((13 * (x1 + 1)) + x2) + 1)).bind fun v10 =>
    g_X11_layCommon_144 N k7 (g_X11_layCommon_18 N n k7) x0 x1 x2 (1 + v10) σ)
    else
    ((xI 169 σ (x0 + 14) ((13 * (x1 + 1)) + x2)).bind fun v6 =>
    (xI 169 σ (x0 + 14) (((13 * x1) + x2) + 1)).bind fun v7 =>
    if v6 ≤ v7 then
    ((xI 169 σ (x0 + 14) (((13 * x1) + x2) + 1)).bind fun v8 =>
    g_X11_layCommon_144 N k7 (g_X11_layCommon_18 N n k7) x0 x1 x2 v8 σ)
    else
    ((xI 169 σ (x0 + 14) ((13 * (x1 + 1)) + x2)).bind fun v9 =>
    g_X11_layCommon_144 N k7 (g_X11_layCommon_18 N n k7) x0 x1 x2 v9 σ)))))
set_option maxHeartbeats 4000000 in
theorem l_X11_layCommon_18 {N : Mem} {B : Nat} (hN : HN N B) {fk7 : Nat → Int32 → Mem → Option (Mem)} {k7 : Nat → Int32 → ST → Option (ST)} (hk7 : ∀ (x0 : Nat) (x1 : Int32) (σ : ST), isC 11 x0 → fk7 (B + x0) x1 (put N B σ) = (k7 x0 x1 σ).bind (fun q => some (put N B q))) : ∀ (n : Nat) (x0 : Nat) (x1 : Int32) (x2 : Int32) (σ : ST), isC 11 x0 → f_X11_layCommon_18 n fk7 (B + x0) x1 x2 (put N B σ) = (g_X11_layCommon_18 N n k7 x0 x1 x2 σ).bind (fun q => some (put N B q)) := by
  intro n
  induction n with
  | zero =>
    intro x0 x1 x2 σ hx0
    rfl
  | succ n ih =>
    intro x0 x1 x2 σ hx0
    unfold f_X11_layCommon_18 g_X11_layCommon_18
    refine li (fun _ => ?_) (fun _ => ?_)
    · exact hk7 _ _ _ hx0
    · refine lg (gR_11_0 hx0) ?_
      refine lb (rI_put (sh_11_0 hx0)) (fun v2 => ?_)
      refine li (fun _ => ?_) (fun _ => ?_)
      · exact l_X11_layCommon_145 hN hk7 ih _ _ _ _ _ hx0
      · refine lg (gR_11_0 hx0) ?_
        refine lb (rI_put (sh_11_0 hx0)) (fun v3 => ?_)
        refine li (fun _ => ?_) (fun _ => ?_)
        · exact l_X11_layCommon_145 hN hk7 ih _ _ _ _ _ hx0
        · refine lg (gR_11_0 hx0) ?_
          refine lb (rI_put (sh_11_0 hx0)) (fun v4 => ?_)
          refine lg (gR_11_0 hx0) ?_
          refine lb (rI_put (sh_11_0 hx0)) (fun v5 => ?_)
          refine li (fun _ => ?_) (fun _ => ?_)
          · refine lg (gR_11_30 hx0) ?_
            refine lb (rI_put (sh_11_30 hx0)) (fun v10 => ?_)
            exact l_X11_layCommon_144 hN hk7 ih _ _ _ _ _ hx0
          · refine lg (gR_11_30 hx0) ?_
            refine lb (rI_put (sh_11_30 hx0)) (fun v6 => ?_)
            refine lg (gR_11_30 hx0) ?_
            refine lb (rI_put (sh_11_30 hx0)) (fun v7 => ?_)
            refine li (fun _ => ?_) (fun _ => ?_)
            · refine lg (gR_11_30 hx0) ?_
              refine lb (rI_put (sh_11_30 hx0)) (fun v8 => ?_)
              exact l_X11_layCommon_144 hN hk7 ih _ _ _ _ _ hx0
            · refine lg (gR_11_30 hx0) ?_
              refine lb (rI_put (sh_11_30 hx0)) (fun v9 => ?_)
              exact l_X11_layCommon_144 hN hk7 ih _ _ _ _ _ hx0
noncomputable def g_X11_layCommon_7 (N : Mem) (n0 : Nat) (x0 : Nat) (x1 : Int32) (σ : ST) : Option (ST) :=
  match n0 with
  | 0 => none
  | n + 1 =>
    if x1 < 0 then
    (some σ)
    else
    ((xI 4607 σ (x0 + 1) 5).bind fun v11 =>
    g_X11_layCommon_18 N fu (g_X11_layCommon_7 N n) x0 x1 v11 σ)
set_option maxHeartbeats 4000000 in
theorem l_X11_layCommon_7 {N : Mem} {B : Nat} (hN : HN N B) : ∀ (n : Nat) (x0 : Nat) (x1 : Int32) (σ : ST), isC 11 x0 → f_X11_layCommon_7 n (B + x0) x1 (put N B σ) = (g_X11_layCommon_7 N n x0 x1 σ).bind (fun q => some (put N B q)) := by
  intro n
  induction n with
  | zero =>
    intro x0 x1 σ hx0
    rfl
  | succ n ih =>
    intro x0 x1 σ hx0
    unfold f_X11_layCommon_7 g_X11_layCommon_7
    refine li (fun _ => ?_) (fun _ => ?_)
    · rfl
    · refine lg (gR_11_0 hx0) ?_
      refine lb (rI_put (sh_11_0 hx0)) (fun v11 => ?_)
      exact l_X11_layCommon_18 hN ih _ _ _ _ _ hx0
noncomputable def g_X11_layCommon_0 (N : Mem) (x0 : Nat) (σ : ST) : Option (ST) :=
  (xI 4607 σ (x0 + 1) 4).bind fun v12 =>
  g_X11_layCommon_7 N fu x0 v12 σ
set_option maxHeartbeats 4000000 in
theorem l_X11_layCommon_0 {N : Mem} {B : Nat} (hN : HN N B) : ∀ (x0 : Nat) (σ : ST), isC 11 x0 → f_X11_layCommon_0 (B + x0) (put N B σ) = (g_X11_layCommon_0 N x0 σ).bind (fun q => some (put N B q)) := by
  intro x0 σ hx0
  unfold f_X11_layCommon_0 g_X11_layCommon_0
  refine lg (gR_11_0 hx0) ?_
  refine lb (rI_put (sh_11_0 hx0)) (fun v12 => ?_)
  exact l_X11_layCommon_7 hN  _ _ _ _ hx0
noncomputable def g_X11_layCommon (N : Mem) (x0 : Nat) (σ : ST) : Option (ST) := g_X11_layCommon_0 N x0 σ
theorem l_X11_layCommon {N : Mem} {B : Nat} (hN : HN N B) {x0 : Nat} {σ : ST} (hx0 : isC 11 x0) : f_X11_layCommon (B + x0) (put N B σ) = (g_X11_layCommon N x0 σ).map (put N B) := by
  unfold f_X11_layCommon g_X11_layCommon
  rw [if_pos (isOb_put hx0)]
  exact lmap (l_X11_layCommon_0 hN _ _ hx0)
noncomputable def g_X11_firstOf_3 (N : Mem) (n0 : Nat) (x0 : Nat) (x1 : Int32) (x2 : Int32) (x4 : Int32) (x5 : Int32) (σ : ST) : Option (Int32) :=
  match n0 with
  | 0 => none
  | n + 1 =>
    (xI 4607 σ (x0 + 1) x2).bind fun v1 =>
    if v1 ≤ x5 then
    (some (-1))
    else
    ((xI 4607 σ (x0 + 1) (x1 + x5)).bind fun v2 =>
    if v2 = x4 then
    (some (x5 + 1))
    else
    (g_X11_firstOf_3 N n x0 x1 x2 x4 (x5 + 1) σ))
set_option maxHeartbeats 4000000 in
theorem l_X11_firstOf_3 {N : Mem} {B : Nat} (hN : HN N B) : ∀ (n : Nat) (x0 : Nat) (x1 : Int32) (x2 : Int32) (x4 : Int32) (x5 : Int32) (σ : ST), isC 11 x0 → f_X11_firstOf_3 n (B + x0) x1 x2 x4 x5 (put N B σ) = (g_X11_firstOf_3 N n x0 x1 x2 x4 x5 σ).bind some := by
  intro n
  induction n with
  | zero =>
    intro x0 x1 x2 x4 x5 σ hx0
    rfl
  | succ n ih =>
    intro x0 x1 x2 x4 x5 σ hx0
    unfold f_X11_firstOf_3 g_X11_firstOf_3
    refine lg (gR_11_0 hx0) ?_
    refine lb (rI_put (sh_11_0 hx0)) (fun v1 => ?_)
    refine li (fun _ => ?_) (fun _ => ?_)
    · rfl
    · refine lg (gR_11_0 hx0) ?_
      refine lb (rI_put (sh_11_0 hx0)) (fun v2 => ?_)
      refine li (fun _ => ?_) (fun _ => ?_)
      · rfl
      · exact ih _ _ _ _ _ _ hx0
noncomputable def g_X11_firstOf_0 (N : Mem) (x0 : Nat) (x1 : Int32) (x2 : Int32) (x3 : Int32) (x4 : Int32) (σ : ST) : Option (Int32) :=
  g_X11_firstOf_3 N fu x0 x1 x2 x4 x3 σ
set_option maxHeartbeats 4000000 in
theorem l_X11_firstOf_0 {N : Mem} {B : Nat} (hN : HN N B) : ∀ (x0 : Nat) (x1 : Int32) (x2 : Int32) (x3 : Int32) (x4 : Int32) (σ : ST), isC 11 x0 → f_X11_firstOf_0 (B + x0) x1 x2 x3 x4 (put N B σ) = (g_X11_firstOf_0 N x0 x1 x2 x3 x4 σ).bind some := by
  intro x0 x1 x2 x3 x4 σ hx0
  unfold f_X11_firstOf_0 g_X11_firstOf_0
  exact l_X11_firstOf_3 hN  _ _ _ _ _ _ _ hx0
noncomputable def g_X11_firstOf (N : Mem) (x0 : Nat) (x1 : Int32) (x2 : Int32) (x3 : Int32) (x4 : Int32) (σ : ST) : Option (Int32) := g_X11_firstOf_0 N x0 x1 x2 x3 x4 σ
theorem l_X11_firstOf {N : Mem} {B : Nat} (hN : HN N B) {x0 : Nat} {x1 : Int32} {x2 : Int32} {x3 : Int32} {x4 : Int32} {σ : ST} (hx0 : isC 11 x0) : f_X11_firstOf (B + x0) x1 x2 x3 x4 (put N B σ) = g_X11_firstOf N x0 x1 x2 x3 x4 σ := by
  unfold f_X11_firstOf g_X11_firstOf
  rw [if_pos (isOb_put hx0)]
  exact lsm (l_X11_firstOf_0 hN _ _ _ _ _ _ hx0)
noncomputable def g_X11_isNextOf_0 (N : Mem) (x0 : Nat) (x1 : Int32) (x2 : Int32) (x3 : Int32) (x4 : Int32) (σ : ST) : Option (Bool) :=
  (g_X11_firstOf N x0 121 4 x1 x3 σ).bind fun v1 =>
  (g_X11_firstOf N x0 133 5 x2 x3 σ).bind fun v2 =>
  if v1 = (-1) then
  (some false)
  else
  (if v2 = (-1) then
  (some false)
  else
  ((xI 169 σ (x0 + 14) ((13 * v1) + v2)).bind fun v3 =>
  if (1 + v3) = x4 then
  (some true)
  else
  (some false)))
set_option maxHeartbeats 4000000 in
theorem l_X11_isNextOf_0 {N : Mem} {B : Nat} (hN : HN N B) : ∀ (x0 : Nat) (x1 : Int32) (x2 : Int32) (x3 : Int32) (x4 : Int32) (σ : ST), isC 11 x0 → f_X11_isNextOf_0 (B + x0) x1 x2 x3 x4 (put N B σ) = (g_X11_isNextOf_0 N x0 x1 x2 x3 x4 σ).bind some := by
  intro x0 x1 x2 x3 x4 σ hx0
  unfold f_X11_isNextOf_0 g_X11_isNextOf_0
  refine lb (l_X11_firstOf hN hx0) (fun v1 => ?_)
  refine lb (l_X11_firstOf hN hx0) (fun v2 => ?_)
  refine li (fun _ => ?_) (fun _ => ?_)
  · rfl
  · refine li (fun _ => ?_) (fun _ => ?_)
    · rfl
    · refine lg (gR_11_30 hx0) ?_
      refine lb (rI_put (sh_11_30 hx0)) (fun v3 => ?_)
      refine li (fun _ => ?_) (fun _ => ?_)
      · rfl
      · rfl
noncomputable def g_X11_isNextOf (N : Mem) (x0 : Nat) (x1 : Int32) (x2 : Int32) (x3 : Int32) (x4 : Int32) (σ : ST) : Option (Bool) := g_X11_isNextOf_0 N x0 x1 x2 x3 x4 σ
theorem l_X11_isNextOf {N : Mem} {B : Nat} (hN : HN N B) {x0 : Nat} {x1 : Int32} {x2 : Int32} {x3 : Int32} {x4 : Int32} {σ : ST} (hx0 : isC 11 x0) : f_X11_isNextOf (B + x0) x1 x2 x3 x4 (put N B σ) = g_X11_isNextOf N x0 x1 x2 x3 x4 σ := by
  unfold f_X11_isNextOf g_X11_isNextOf
  rw [if_pos (isOb_put hx0)]
  exact lsm (l_X11_isNextOf_0 hN _ _ _ _ _ _ hx0)
noncomputable def g_X11_common_52 (N : Mem) (n0 : Nat) (k43 : Nat → Int32 → Int32 → Int32 → Int32 → Int32 → Int32 → ST → Option (Int32 × ST)) (x0 : Nat) (x1 : Int32) (x2 : Int32) (x3 : Int32) (x4 : Int32) (x5 : Int32) (x6 : Int32) (σ : ST) : Option (Int32 × ST) :=
  match n0 with
  | 0 => none
  | n + 1 =>
    (g_X11_isNextOf N x0 x3 x4 x5 x2 σ).bind fun v1 =>
    if v1 = true then
    ((g_X11_firstOf N x0 121 4 x3 x5 σ).bind fun v2 =>
    (g_X11_firstOf N x0 133 5 x4 x5 σ).bind fun v3 =>
    k43 x0 x1 (x2 + (-1)) v2 v3 x5 (x6 + 1) σ)
    else
    (g_X11_common_52 N n k43 x0 x1 x2 x3 x4 (x5 + 1) x6 σ)
set_option maxHeartbeats 4000000 in
theorem l_X11_common_52 {N : Mem} {B : Nat} (hN : HN N B) {fk43 : Nat → Int32 → Int32 → Int32 → Int32 → Int32 → Int32 → Mem → Option (Int32 × Mem)} {k43 : Nat → Int32 → Int32 → Int32 → Int32 → Int32 → Int32 → ST → Option (Int32 × ST)} (hk43 : ∀ (x0 : Nat) (x1 : Int32) (x2 : Int32) (x3 : Int32) (x4 : Int32) (x5 : Int32) (x6 : Int32) (σ : ST), isC 11 x0 → fk43 (B + x0) x1 x2 x3 x4 x5 x6 (put N B σ) = (k43 x0 x1 x2 x3 x4 x5 x6 σ).bind (fun q => some (q.1, put N B q.2))) : ∀ (n : Nat) (x0 : Nat) (x1 : Int32) (x2 : Int32) (x3 : Int32) (x4 : Int32) (x5 : Int32) (x6 : Int32) (σ : ST), isC 11 x0 → f_X11_common_52 n fk43 (B + x0) x1 x2 x3 x4 x5 x6 (put N B σ) = (g_X11_common_52 N n k43 x0 x1 x2 x3 x4 x5 x6 σ).bind (fun q => some (q.1, put N B q.2)) := by
  intro n
  induction n with
  | zero =>
    intro x0 x1 x2 x3 x4 x5 x6 σ hx0
    rfl
  | succ n ih =>
    intro x0 x1 x2 x3 x4 x5 x6 σ hx0
    unfold f_X11_common_52 g_X11_common_52
    refine lb (l_X11_isNextOf hN hx0) (fun v1 => ?_)
    refine li (fun _ => ?_) (fun _ => ?_)
    · refine lb (l_X11_firstOf hN hx0) (fun v2 => ?_)
      refine lb (l_X11_firstOf hN hx0) (fun v3 => ?_)
      exact hk43 _ _ _ _ _ _ _ _ hx0
    · exact ih _ _ _ _ _ _ _ _ hx0
noncomputable def g_X11_common_43 (N : Mem) (n0 : Nat) (x0 : Nat) (x1 : Int32) (x2 : Int32) (x3 : Int32) (x4 : Int32) (x5 : Int32) (x6 : Int32) (σ : ST) : Option (Int32 × ST) :=
  match n0 with
  | 0 => none
  | n + 1 =>
    if x1 < x6 then
    (some (x5, σ))
    else
    (g_X11_common_52 N fu (g_X11_common_43 N n) x0 x1 x2 x3 x4 0 x6 σ)
set_option maxHeartbeats 4000000 in
theorem l_X11_common_43 {N : Mem} {B : Nat} (hN : HN N B) : ∀ (n : Nat) (x0 : Nat) (x1 : Int32) (x2 : Int32) (x3 : Int32) (x4 : Int32) (x5 : Int32) (x6 : Int32) (σ : ST), isC 11 x0 → f_X11_common_43 n (B + x0) x1 x2 x3 x4 x5 x6 (put N B σ) = (g_X11_common_43 N n x0 x1 x2 x3 x4 x5 x6 σ).bind (fun q => some (q.1, put N B q.2)) := by
  intro n
  induction n with
  | zero =>
    intro x0 x1 x2 x3 x4 x5 x6 σ hx0
    rfl
  | succ n ih =>
    intro x0 x1 x2 x3 x4 x5 x6 σ hx0
    unfold f_X11_common_43 g_X11_common_43
    refine li (fun _ => ?_) (fun _ => ?_)
    · rfl
    · exact l_X11_common_52 hN ih _ _ _ _ _ _ _ _ _ hx0
noncomputable def g_X11_common_0 (N : Mem) (x0 : Nat) (x1 : Int32) (σ : ST) : Option (Int32 × ST) :=
  (g_X11_layCommon N x0 σ).bind fun r4 =>
  (xI 169 r4 (x0 + 14) 0).bind fun v5 =>
  (f_X11_isIn x1 (-1) (v5 - 1)).bind fun v6 =>
  if v6 = true then
  (if x1 = (-1) then
  (some (v5, r4))
  else
  (g_X11_common_43 N fu x0 x1 v5 0 0 0 0 r4))
  else
  (some ((-2), r4))
set_option maxHeartbeats 4000000 in
theorem l_X11_common_0 {N : Mem} {B : Nat} (hN : HN N B) : ∀ (x0 : Nat) (x1 : Int32) (σ : ST), isC 11 x0 → f_X11_common_0 (B + x0) x1 (put N B σ) = (g_X11_common_0 N x0 x1 σ).bind (fun q => some (q.1, put N B q.2)) := by
  intro x0 x1 σ hx0
  unfold f_X11_common_0 g_X11_common_0
  refine lm (l_X11_layCommon hN hx0) (fun r4 => ?_)
  refine lg (gR_11_30 hx0) ?_
  refine lb (rI_put (sh_11_30 hx0)) (fun v5 => ?_)
  refine lb (rfl) (fun v6 => ?_)
  refine li (fun _ => ?_) (fun _ => ?_)
  · refine li (fun _ => ?_) (fun _ => ?_)
    · rfl
    · exact l_X11_common_43 hN  _ _ _ _ _ _ _ _ _ hx0
  · rfl
noncomputable def g_X11_common (N : Mem) (x0 : Nat) (x1 : Int32) (σ : ST) : Option (Int32 × ST) := g_X11_common_0 N x0 x1 σ
theorem l_X11_common {N : Mem} {B : Nat} (hN : HN N B) {x0 : Nat} {x1 : Int32} {σ : ST} (hx0 : isC 11 x0) : f_X11_common (B + x0) x1 (put N B σ) = (g_X11_common N x0 x1 σ).bind (fun q => some (q.1, put N B q.2)) := by
  unfold f_X11_common g_X11_common
  rw [if_pos (isOb_put hx0)]
  exact l_X11_common_0 hN _ _ _ hx0
noncomputable def g_X11_apart_174 (N : Mem) (k2 : Nat → Int32 → ST → Option (Int32 × ST)) (k14 : Nat → Int32 → Int32 → ST → Option (Int32 × ST)) (x0 : Nat) (x1 : Int32) (x2 : Int32) (x3 : Int32) (σ : ST) : Option (Int32 × ST) :=
  (yI 169 σ (x0 + 14) ((13 * x1) + x2) x3).bind fun r1 =>
  k14 x0 x1 (x2 + 1) r1
set_option maxHeartbeats 4000000 in
theorem l_X11_apart_174 {N : Mem} {B : Nat} (hN : HN N B) {fk2 : Nat → Int32 → Mem → Option (Int32 × Mem)} {k2 : Nat → Int32 → ST → Option (Int32 × ST)} (hk2 : ∀ (x0 : Nat) (x1 : Int32) (σ : ST), isC 11 x0 → fk2 (B + x0) x1 (put N B σ) = (k2 x0 x1 σ).bind (fun q => some (q.1, put N B q.2))) {fk14 : Nat → Int32 → Int32 → Mem → Option (Int32 × Mem)} {k14 : Nat → Int32 → Int32 → ST → Option (Int32 × ST)} (hk14 : ∀ (x0 : Nat) (x1 : Int32) (x2 : Int32) (σ : ST), isC 11 x0 → fk14 (B + x0) x1 x2 (put N B σ) = (k14 x0 x1 x2 σ).bind (fun q => some (q.1, put N B q.2))) : ∀ (x0 : Nat) (x1 : Int32) (x2 : Int32) (x3 : Int32) (σ : ST), isC 11 x0 → f_X11_apart_174 fk2 fk14 (B + x0) x1 x2 x3 (put N B σ) = (g_X11_apart_174 N k2 k14 x0 x1 x2 x3 σ).bind (fun q => some (q.1, put N B q.2)) := by
  intro x0 x1 x2 x3 σ hx0
  unfold f_X11_apart_174 g_X11_apart_174
  refine lg (gR_11_30 hx0) ?_
  refine lm (wI_put (sh_11_30 hx0)) (fun r1 => ?_)
  exact hk14 _ _ _ _ hx0
noncomputable def g_X11_apart_131 (N : Mem) (k2 : Nat → Int32 → ST → Option (Int32 × ST)) (k14 : Nat → Int32 → Int32 → ST → Option (Int32 × ST)) (x0 : Nat) (x1 : Int32) (x2 : Int32) (x3 : Int32) (σ : ST) : Option (Int32 × ST) :=
  if x1 ≤ 0 then
  (g_X11_apart_174 N k2 k14 x0 x1 x2 x3 σ)
  else
  (if x2 ≤ 0 then
  (g_X11_apart_174 N k2 k14 x0 x1 x2 x3 σ)
  else
  ((xI 169 σ (x0 + 14) (((13 * x1) + x2) - 1)).bind fun v2 =>
  if x3 ≤ (v2 + 1) then
  (g_X11_apart_174 N k2 k14 x0 x1 x2 x3 σ)
  else
  ((xI 169 σ (x0 + 14) (((13 * x1) + x2) - 1)).bind fun v3 =>
  g_X11_apart_174 N k2 k14 x0 x1 x2 (v3 + 1) σ)))
set_option maxHeartbeats 4000000 in
theorem l_X11_apart_131 {N : Mem} {B : Nat} (hN : HN N B) {fk2 : Nat → Int32 → Mem → Option (Int32 × Mem)} {k2 : Nat → Int32 → ST → Option (Int32 × ST)} (hk2 : ∀ (x0 : Nat) (x1 : Int32) (σ : ST), isC 11 x0 → fk2 (B + x0) x1 (put N B σ) = (k2 x0 x1 σ).bind (fun q => some (q.1, put N B q.2))) {fk14 : Nat → Int32 → Int32 → Mem → Option (Int32 × Mem)} {k14 : Nat → Int32 → Int32 → ST → Option (Int32 × ST)} (hk14 : ∀ (x0 : Nat) (x1 : Int32) (x2 : Int32) (σ : ST), isC 11 x0 → fk14 (B + x0) x1 x2 (put N B σ) = (k14 x0 x1 x2 σ).bind (fun q => some (q.1, put N B q.2))) : ∀ (x0 : Nat) (x1 : Int32) (x2 : Int32) (x3 : Int32) (σ : ST), isC 11 x0 → f_X11_apart_131 fk2 fk14 (B + x0) x1 x2 x3 (put N B σ) = (g_X11_apart_131 N k2 k14 x0 x1 x2 x3 σ).bind (fun q => some (q.1, put N B q.2)) := by
  intro x0 x1 x2 x3 σ hx0
  unfold f_X11_apart_131 g_X11_apart_131
  refine li (fun _ => ?_) (fun _ => ?_)
  · exact l_X11_apart_174 hN hk2 hk14 _ _ _ _ _ hx0
  · refine li (fun _ => ?_) (fun _ => ?_)
    · exact l_X11_apart_174 hN hk2 hk14 _ _ _ _ _ hx0
    · refine lg (gR_11_30 hx0) ?_
      refine lb (rI_put (sh_11_30 hx0)) (fun v2 => ?_)
      refine li (fun _ => ?_) (fun _ => ?_)
      · exact l_X11_apart_174 hN hk2 hk14 _ _ _ _ _ hx0
      · refine lg (gR_11_30 hx0) ?_
        refine lb (rI_put (sh_11_30 hx0)) (fun v3 => ?_)
        exact l_X11_apart_174 hN hk2 hk14 _ _ _ _ _ hx0
noncomputable def g_X11_apart_87 (N : Mem) (k2 : Nat → Int32 → ST → Option (Int32 × ST)) (k14 : Nat → Int32 → Int32 → ST → Option (Int32 × ST)) (x0 : Nat) (x1 : Int32) (x2 : Int32) (s0 : Int32) (σ : ST) : Option (Int32 × ST) :=
  if x1 ≤ 0 then
  (g_X11_apart_131 N k2 k14 x0 x1 x2 s0 σ)
  else
  (if x2 ≤ 0 then
  (g_X11_apart_131 N k2 k14 x0 x1 x2 s0 σ)
  else
  ((xI 169 σ (x0 + 14) ((13 * (x1 - 1)) + x2)).bind fun v4 =>
  if s0 ≤ (v4 + 1) then
  (g_X11_apart_131 N k2 k14 x0 x1 x2 s0 σ)
  else
  ((xI 169 σ (x0 + 14) ((13 * (x1 - 1)) + x2)).bind fun v5 =>
  g_X11_apart_131 N k2 k14 x0 x1 x2 (v5 + 1) σ)))
set_option maxHeartbeats 4000000 in
theorem l_X11_apart_87 {N : Mem} {B : Nat} (hN : HN N B) {fk2 : Nat → Int32 → Mem → Option (Int32 × Mem)} {k2 : Nat → Int32 → ST → Option (Int32 × ST)} (hk2 : ∀ (x0 : Nat) (x1 : Int32) (σ : ST), isC 11 x0 → fk2 (B + x0) x1 (put N B σ) = (k2 x0 x1 σ).bind (fun q => some (q.1, put N B q.2))) {fk14 : Nat → Int32 → Int32 → Mem → Option (Int32 × Mem)} {k14 : Nat → Int32 → Int32 → ST → Option (Int32 × ST)} (hk14 : ∀ (x0 : Nat) (x1 : Int32) (x2 : Int32) (σ : ST), isC 11 x0 → fk14 (B + x0) x1 x2 (put N B σ) = (k14 x0 x1 x2 σ).bind (fun q => some (q.1, put N B q.2))) : ∀ (x0 : Nat) (x1 : Int32) (x2 : Int32) (s0 : Int32) (σ : ST), isC 11 x0 → f_X11_apart_87 fk2 fk14 (B + x0) x1 x2 s0 (put N B σ) = (g_X11_apart_87 N k2 k14 x0 x1 x2 s0 σ).bind (fun q => some (q.1, put N B q.2)) := by
  intro x0 x1 x2 s0 σ hx0
  unfold f_X11_apart_87 g_X11_apart_87
  refine li (fun _ => ?_) (fun _ => ?_)
  · exact l_X11_apart_131 hN hk2 hk14 _ _ _ _ _ hx0
  · refine li (fun _ => ?_) (fun _ => ?_)
    · exact l_X11_apart_131 hN hk2 hk14 _ _ _ _ _ hx0
    · refine lg (gR_11_30 hx0) ?_
      refine lb (rI_put (sh_11_30 hx0)) (fun v4 => ?_)
      refine li (fun _ => ?_) (fun _ => ?_)
      · exact l_X11_apart_131 hN hk2 hk14 _ _ _ _ _ hx0
      · refine lg (gR_11_30 hx0) ?_
        refine lb (rI_put (sh_11_30 hx0)) (fun v5 => ?_)
        exact l_X11_apart_131 hN hk2 hk14 _ _ _ _ _ hx0
noncomputable def g_X11_apart_86 (N : Mem) (k2 : Nat → Int32 → ST → Option (Int32 × ST)) (k14 : Nat → Int32 → Int32 → ST → Option (Int32 × ST)) (x0 : Nat) (x1 : Int32) (x2 : Int32) (s0 : Bool) (s1 : Int32) (σ : ST) : Option (Int32 × ST) :=
  g_X11_apart_87 N k2 k14 x0 x1 x2 (s1 + (jz s0)) σ
set_option maxHeartbeats 4000000 in
theorem l_X11_apart_86 {N : Mem} {B : Nat} (hN : HN N B) {fk2 : Nat → Int32 → Mem → Option (Int32 × Mem)} {k2 : Nat → Int32 → ST → Option (Int32 × ST)} (hk2 : ∀ (x0 : Nat) (x1 : Int32) (σ : ST), isC 11 x0 → fk2 (B + x0) x1 (put N B σ) = (k2 x0 x1 σ).bind (fun q => some (q.1, put N B q.2))) {fk14 : Nat → Int32 → Int32 → Mem → Option (Int32 × Mem)} {k14 : Nat → Int32 → Int32 → ST → Option (Int32 × ST)} (hk14 : ∀ (x0 : Nat) (x1 : Int32) (x2 : Int32) (σ : ST), isC 11 x0 → fk14 (B + x0) x1 x2 (put N B σ) = (k14 x0 x1 x2 σ).bind (fun q => some (q.1, put N B q.2))) : ∀ (x0 : Nat) (x1 : Int32) (x2 : Int32) (s0 : Bool) (s1 : Int32) (σ : ST), isC 11 x0 → f_X11_apart_86 fk2 fk14 (B + x0) x1 x2 s0 s1 (put N B σ) = (g_X11_apart_86 N k2 k14 x0 x1 x2 s0 s1 σ).bind (fun q => some (q.1, put N B q.2)) := by
  intro x0 x1 x2 s0 s1 σ hx0
  unfold f_X11_apart_86 g_X11_apart_86
  exact l_X11_apart_87 hN hk2 hk14 _ _ _ _ _ hx0
noncomputable def g_X11_apart_14 (N : Mem) (n0 : Nat) (k2 : Nat → Int32 → ST → Option (Int32 × ST)) (x0 : Nat) (x1 : Int32) (x2 : Int32) (σ : ST) : Option (Int32 × ST) :=
  match n0 with
  | 0 => none
  | n + 1 =>
    (xI 4607 σ (x0 + 1) 5).bind fun v6 =>
    if v6 < x2 then
    (k2 x0 (x1 + 1) σ)
    else
    (if x1 = 0 then
    (g_X11_apart_87 N k2 (g_X11_apart_14 N n k2) x0 x1 x2 x2 σ)
    else
    (if x2 = 0 then
    (g_X11_apart_87 N k2 (g_X11_apart_14 N n k2) x0 x1 x2 x1 σ)
    else
    ((xI 169 σ (x0 + 14) (((13 * (x1 - 1)) + x2) - 1)).bind fun v7 =>
    (xI 4607 σ (x0 + 1) ((121 + x1) - 1)).bind fun v8 =>
    (xI 4607 σ (x0 + 1) ((133 + x2) - 1)).bind fun v9 =>
    if v8 = v9 then
    (g_X11_apart_86 N k2 (g_X11_apart_14 N n k2) x0 x1 x2 false v7 σ)
    else
    (g_X11_apart_86 N k2 (g_X11_apart_14 N n k2) x0 x1 x2 true v7 σ))))
set_option maxHeartbeats 4000000 in
theorem l_X11_apart_14 {N : Mem} {B : Nat} (hN : HN N B) {fk2 : Nat → Int32 → Mem → Option (Int32 × Mem)} {k2 : Nat → Int32 → ST → Option (Int32 × ST)} (hk2 : ∀ (x0 : Nat) (x1 : Int32) (σ : ST), isC 11 x0 → fk2 (B + x0) x1 (put N B σ) = (k2 x0 x1 σ).bind (fun q => some (q.1, put N B q.2))) : ∀ (n : Nat) (x0 : Nat) (x1 : Int32) (x2 : Int32) (σ : ST), isC 11 x0 → f_X11_apart_14 n fk2 (B + x0) x1 x2 (put N B σ) = (g_X11_apart_14 N n k2 x0 x1 x2 σ).bind (fun q => some (q.1, put N B q.2)) := by
  intro n
  induction n with
  | zero =>
    intro x0 x1 x2 σ hx0
    rfl
  | succ n ih =>
    intro x0 x1 x2 σ hx0
    unfold f_X11_apart_14 g_X11_apart_14
    refine lg (gR_11_0 hx0) ?_
    refine lb (rI_put (sh_11_0 hx0)) (fun v6 => ?_)
    refine li (fun _ => ?_) (fun _ => ?_)
    · exact hk2 _ _ _ hx0
    · refine li (fun _ => ?_) (fun _ => ?_)
      · exact l_X11_apart_87 hN hk2 ih _ _ _ _ _ hx0
      · refine li (fun _ => ?_) (fun _ => ?_)
        · exact l_X11_apart_87 hN hk2 ih _ _ _ _ _ hx0
        · refine lg (gR_11_30 hx0) ?_
          refine lb (rI_put (sh_11_30 hx0)) (fun v7 => ?_)
          refine lg (gR_11_0 hx0) ?_
          refine lb (rI_put (sh_11_0 hx0)) (fun v8 => ?_)
          refine lg (gR_11_0 hx0) ?_
          refine lb (rI_put (sh_11_0 hx0)) (fun v9 => ?_)
          refine li (fun _ => ?_) (fun _ => ?_)
          · exact l_X11_apart_86 hN hk2 ih _ _ _ _ _ _ hx0
          · exact l_X11_apart_86 hN hk2 ih _ _ _ _ _ _ hx0
noncomputable def g_X11_apart_2 (N : Mem) (n0 : Nat) (x0 : Nat) (x1 : Int32) (σ : ST) : Option (Int32 × ST) :=
  match n0 with
  | 0 => none
  | n + 1 =>
    (xI 4607 σ (x0 + 1) 4).bind fun v10 =>
    if v10 < x1 then
    ((xI 4607 σ (x0 + 1) 4).bind fun v11 =>
    (xI 4607 σ (x0 + 1) 5).bind fun v12 =>
    (xI 169 σ (x0 + 14) ((13 * v11) + v12)).bind fun v13 =>
    some (v13, σ))
    else
    (g_X11_apart_14 N fu (g_X11_apart_2 N n) x0 x1 0 σ)
set_option maxHeartbeats 4000000 in
theorem l_X11_apart_2 {N : Mem} {B : Nat} (hN : HN N B) : ∀ (n : Nat) (x0 : Nat) (x1 : Int32) (σ : ST), isC 11 x0 → f_X11_apart_2 n (B + x0) x1 (put N B σ) = (g_X11_apart_2 N n x0 x1 σ).bind (fun q => some (q.1, put N B q.2)) := by
  intro n
  induction n with
  | zero =>
    intro x0 x1 σ hx0
    rfl
  | succ n ih =>
    intro x0 x1 σ hx0
    unfold f_X11_apart_2 g_X11_apart_2
    refine lg (gR_11_0 hx0) ?_
    refine lb (rI_put (sh_11_0 hx0)) (fun v10 => ?_)
    refine li (fun _ => ?_) (fun _ => ?_)
    · refine lg (gR_11_30 hx0) ?_
      refine lg (gR_11_0 hx0) ?_
      refine lb (rI_put (sh_11_0 hx0)) (fun v11 => ?_)
      refine lg (gR_11_0 hx0) ?_
      refine lb (rI_put (sh_11_0 hx0)) (fun v12 => ?_)
      refine lb (rI_put (sh_11_30 hx0)) (fun v13 => ?_)
      rfl
    · exact l_X11_apart_14 hN ih _ _ _ _ _ hx0
noncomputable def g_X11_apart_0 (N : Mem) (x0 : Nat) (σ : ST) : Option (Int32 × ST) :=
  g_X11_apart_2 N fu x0 0 σ
set_option maxHeartbeats 4000000 in
theorem l_X11_apart_0 {N : Mem} {B : Nat} (hN : HN N B) : ∀ (x0 : Nat) (σ : ST), isC 11 x0 → f_X11_apart_0 (B + x0) (put N B σ) = (g_X11_apart_0 N x0 σ).bind (fun q => some (q.1, put N B q.2)) := by
  intro x0 σ hx0
  unfold f_X11_apart_0 g_X11_apart_0
  exact l_X11_apart_2 hN  _ _ _ _ hx0
noncomputable def g_X11_apart (N : Mem) (x0 : Nat) (σ : ST) : Option (Int32 × ST) := g_X11_apart_0 N x0 σ
theorem l_X11_apart {N : Mem} {B : Nat} (hN : HN N B) {x0 : Nat} {σ : ST} (hx0 : isC 11 x0) : f_X11_apart (B + x0) (put N B σ) = (g_X11_apart N x0 σ).bind (fun q => some (q.1, put N B q.2)) := by
  unfold f_X11_apart g_X11_apart
  rw [if_pos (isOb_put hx0)]
  exact l_X11_apart_0 hN _ _ hx0
noncomputable def g_X11_grows_114 (N : Mem) (n0 : Nat) (k72 : Nat → Int32 → Int32 → ST → Option (Int32 × ST)) (k104 : Nat → Int32 → Int32 → Int32 → ST → Option (Int32 × ST)) (x0 : Nat) (x2 : Int32) (x3 : Int32) (x4 : Int32) (x5 : Int32) (σ : ST) : Option (Int32 × ST) :=
  match n0 with
  | 0 => none
  | n + 1 =>
    (g_X11_ruleOf N x0 x4 0 σ).bind fun v1 =>
    (f_X11_wordLong v1).bind fun v2 =>
    if v2 ≤ x5 then
    (k104 x0 x2 x3 (x4 + 1) σ)
    else
    ((g_X11_ruleOf N x0 x4 0 σ).bind fun v3 =>
    (f_X11_wordDigit v3 x5).bind fun v4 =>
    (xI 10 σ (x0 + 16) v4).bind fun v5 =>
    (xI 10 σ (x0 + 15) x4).bind fun v6 =>
    (yI 10 σ (x0 + 16) v4 (v5 + v6)).bind fun r7 =>
    g_X11_grows_114 N n k72 k104 x0 x2 x3 x4 (x5 + 1) r7)
set_option maxHeartbeats 4000000 in
theorem l_X11_grows_114 {N : Mem} {B : Nat} (hN : HN N B) {fk72 : Nat → Int32 → Int32 → Mem → Option (Int32 × Mem)} {k72 : Nat → Int32 → Int32 → ST → Option (Int32 × ST)} (hk72 : ∀ (x0 : Nat) (x2 : Int32) (x3 : Int32) (σ : ST), isC 11 x0 → fk72 (B + x0) x2 x3 (put N B σ) = (k72 x0 x2 x3 σ).bind (fun q => some (q.1, put N B q.2))) {fk104 : Nat → Int32 → Int32 → Int32 → Mem → Option (Int32 × Mem)} {k104 : Nat → Int32 → Int32 → Int32 → ST → Option (Int32 × ST)} (hk104 : ∀ (x0 : Nat) (x2 : Int32) (x3 : Int32) (x4 : Int32) (σ : ST), isC 11 x0 → fk104 (B + x0) x2 x3 x4 (put N B σ) = (k104 x0 x2 x3 x4 σ).bind (fun q => some (q.1, put N B q.2))) : ∀ (n : Nat) (x0 : Nat) (x2 : Int32) (x3 : Int32) (x4 : Int32) (x5 : Int32) (σ : ST), isC 11 x0 → f_X11_grows_114 n fk72 fk104 (B + x0) x2 x3 x4 x5 (put N B σ) = (g_X11_grows_114 N n k72 k104 x0 x2 x3 x4 x5 σ).bind (fun q => some (q.1, put N B q.2)) := by
  intro n
  induction n with
  | zero =>
    intro x0 x2 x3 x4 x5 σ hx0
    rfl
  | succ n ih =>
    intro x0 x2 x3 x4 x5 σ hx0
    unfold f_X11_grows_114 g_X11_grows_114
    refine lb (l_X11_ruleOf hN hx0) (fun v1 => ?_)
    refine lb (rfl) (fun v2 => ?_)
    refine li (fun _ => ?_) (fun _ => ?_)
    · exact hk104 _ _ _ _ _ hx0
    · refine lg (gR_11_32 hx0) ?_
      refine lb (l_X11_ruleOf hN hx0) (fun v3 => ?_)
      refine lb (rfl) (fun v4 => ?_)
      refine lb (rI_put (sh_11_32 hx0)) (fun v5 => ?_)
      refine lg (gR_11_31 hx0) ?_
      refine lb (rI_put (sh_11_31 hx0)) (fun v6 => ?_)
      refine lm (wI_put (sh_11_32 hx0)) (fun r7 => ?_)
      exact ih _ _ _ _ _ _ hx0
noncomputable def g_X11_grows_171 (N : Mem) (n0 : Nat) (k72 : Nat → Int32 → Int32 → ST → Option (Int32 × ST)) (x0 : Nat) (x2 : Int32) (x3 : Int32) (x4 : Int32) (σ : ST) : Option (Int32 × ST) :=
  match n0 with
  | 0 => none
  | n + 1 =>
    if 10 ≤ x4 then
    (k72 x0 x2 (x3 + 1) σ)
    else
    ((xI 10 σ (x0 + 16) x4).bind fun v8 =>
    (yI 10 σ (x0 + 15) x4 v8).bind fun r9 =>
    g_X11_grows_171 N n k72 x0 x2 x3 (x4 + 1) r9)
set_option maxHeartbeats 4000000 in
theorem l_X11_grows_171 {N : Mem} {B : Nat} (hN : HN N B) {fk72 : Nat → Int32 → Int32 → Mem → Option (Int32 × Mem)} {k72 : Nat → Int32 → Int32 → ST → Option (Int32 × ST)} (hk72 : ∀ (x0 : Nat) (x2 : Int32) (x3 : Int32) (σ : ST), isC 11 x0 → fk72 (B + x0) x2 x3 (put N B σ) = (k72 x0 x2 x3 σ).bind (fun q => some (q.1, put N B q.2))) : ∀ (n : Nat) (x0 : Nat) (x2 : Int32) (x3 : Int32) (x4 : Int32) (σ : ST), isC 11 x0 → f_X11_grows_171 n fk72 (B + x0) x2 x3 x4 (put N B σ) = (g_X11_grows_171 N n k72 x0 x2 x3 x4 σ).bind (fun q => some (q.1, put N B q.2)) := by
  intro n
  induction n with
  | zero =>
    intro x0 x2 x3 x4 σ hx0
    rfl
  | succ n ih =>
    intro x0 x2 x3 x4 σ hx0
    unfold f_X11_grows_171 g_X11_grows_171
    refine li (fun _ => ?_) (fun _ => ?_)
    · exact hk72 _ _ _ _ hx0
    · refine lg (gR_11_31 hx0) ?_
      refine lg (gR_11_32 hx0) ?_
      refine lb (rI_put (sh_11_32 hx0)) (fun v8 => ?_)
      refine lm (wI_put (sh_11_31 hx0)) (fun r9 => ?_)
      exact ih _ _ _ _ _ hx0
noncomputable def g_X11_grows_104 (N : Mem) (n0 : Nat) (k72 : Nat → Int32 → Int32 → ST → Option (Int32 × ST)) (x0 : Nat) (x2 : Int32) (x3 : Int32) (x4 : Int32) (σ : ST) : Option (Int32 × ST) :=
  match n0 with
  | 0 => none
  | n + 1 =>
    if 10 ≤ x4 then
    (g_X11_grows_171 N fu k72 x0 x2 x3 0 σ)
    else
    (g_X11_grows_114 N fu k72 (g_X11_grows_104 N n k72) x0 x2 x3 x4 0 σ)
set_option maxHeartbeats 4000000 in
theorem l_X11_grows_104 {N : Mem} {B : Nat} (hN : HN N B) {fk72 : Nat → Int32 → Int32 → Mem → Option (Int32 × Mem)} {k72 : Nat → Int32 → Int32 → ST → Option (Int32 × ST)} (hk72 : ∀ (x0 : Nat) (x2 : Int32) (x3 : Int32) (σ : ST), isC 11 x0 → fk72 (B + x0) x2 x3 (put N B σ) = (k72 x0 x2 x3 σ).bind (fun q => some (q.1, put N B q.2))) : ∀ (n : Nat) (x0 : Nat) (x2 : Int32) (x3 : Int32) (x4 : Int32) (σ : ST), isC 11 x0 → f_X11_grows_104 n fk72 (B + x0) x2 x3 x4 (put N B σ) = (g_X11_grows_104 N n k72 x0 x2 x3 x4 σ).bind (fun q => some (q.1, put N B q.2)) := by
  intro n
  induction n with
  | zero =>
    intro x0 x2 x3 x4 σ hx0
    rfl
  | succ n ih =>
    intro x0 x2 x3 x4 σ hx0
    unfold f_X11_grows_104 g_X11_grows_104
    refine li (fun _ => ?_) (fun _ => ?_)
    · exact l_X11_grows_171 hN hk72 _ _ _ _ _ _ hx0
    · exact l_X11_grows_114 hN hk72 ih _ _ _ _ _ _ _ hx0
noncomputable def g_X11_grows_80 (N : Mem) (n0 : Nat) (k72 : Nat → Int32 → Int32 → ST → Option (Int32 × ST)) (x0 : Nat) (x2 : Int32) (x3 : Int32) (x4 : Int32) (σ : ST) : Option (Int32 × ST) :=
  match n0 with
  | 0 => none
  | n + 1 =>
    if 10 ≤ x4 then
    (g_X11_grows_104 N fu k72 x0 x2 x3 0 σ)
    else
    ((yI 10 σ (x0 + 16) x4 0).bind fun r10 =>
    g_X11_grows_80 N n k72 x0 x2 x3 (x4 + 1) r10)
set_option maxHeartbeats 4000000 in
theorem l_X11_grows_80 {N : Mem} {B : Nat} (hN : HN N B) {fk72 : Nat → Int32 → Int32 → Mem → Option (Int32 × Mem)} {k72 : Nat → Int32 → Int32 → ST → Option (Int32 × ST)} (hk72 : ∀ (x0 : Nat) (x2 : Int32) (x3 : Int32) (σ : ST), isC 11 x0 → fk72 (B + x0) x2 x3 (put N B σ) = (k72 x0 x2 x3 σ).bind (fun q => some (q.1, put N B q.2))) : ∀ (n : Nat) (x0 : Nat) (x2 : Int32) (x3 : Int32) (x4 : Int32) (σ : ST), isC 11 x0 → f_X11_grows_80 n fk72 (B + x0) x2 x3 x4 (put N B σ) = (g_X11_grows_80 N n k72 x0 x2 x3 x4 σ).bind (fun q => some (q.1, put N B q.2)) := by
  intro n
  induction n with
  | zero =>
    intro x0 x2 x3 x4 σ hx0
    rfl
  | succ n ih =>
    intro x0 x2 x3 x4 σ hx0
    unfold f_X11_grows_80 g_X11_grows_80
    refine li (fun _ => ?_) (fun _ => ?_)
    · exact l_X11_grows_104 hN hk72 _ _ _ _ _ _ hx0
    · refine lg (gR_11_32 hx0) ?_
      refine lm (wI_put (sh_11_32 hx0)) (fun r10 => ?_)
      exact ih _ _ _ _ _ hx0
noncomputable def g_X11_grows_209 (N : Mem) (n0 : Nat) (x0 : Nat) (x3 : Int32) (x4 : Int32) (σ : ST) : Option (Int32 × ST) :=
  match n0 with
  | 0 => none
  | n + 1 =>
    if 10 ≤ x4 then
    (if x3 ≤ 9999 then
    (some (x3, σ))
    else
    (some (9999, σ)))
    else
    ((xI 10 σ (x0 + 15) x4).bind fun v11 =>
    g_X11_grows_209 N n x0 (x3 + v11) (x4 + 1) σ)
set_option maxHeartbeats 4000000 in
theorem l_X11_grows_209 {N : Mem} {B : Nat} (hN : HN N B) : ∀ (n : Nat) (x0 : Nat) (x3 : Int32) (x4 : Int32) (σ : ST), isC 11 x0 → f_X11_grows_209 n (B + x0) x3 x4 (put N B σ) = (g_X11_grows_209 N n x0 x3 x4 σ).bind (fun q => some (q.1, put N B q.2)) := by
  intro n
  induction n with
  | zero =>
    intro x0 x3 x4 σ hx0
    rfl
  | succ n ih =>
    intro x0 x3 x4 σ hx0
    unfold f_X11_grows_209 g_X11_grows_209
    refine li (fun _ => ?_) (fun _ => ?_)
    · refine li (fun _ => ?_) (fun _ => ?_)
      · rfl
      · rfl
    · refine lg (gR_11_31 hx0) ?_
      refine lb (rI_put (sh_11_31 hx0)) (fun v11 => ?_)
      exact ih _ _ _ _ hx0
noncomputable def g_X11_grows_72 (N : Mem) (n0 : Nat) (x0 : Nat) (x2 : Int32) (x3 : Int32) (σ : ST) : Option (Int32 × ST) :=
  match n0 with
  | 0 => none
  | n + 1 =>
    if x2 ≤ x3 then
    (g_X11_grows_209 N fu x0 0 0 σ)
    else
    (g_X11_grows_80 N fu (g_X11_grows_72 N n) x0 x2 x3 0 σ)
set_option maxHeartbeats 4000000 in
theorem l_X11_grows_72 {N : Mem} {B : Nat} (hN : HN N B) : ∀ (n : Nat) (x0 : Nat) (x2 : Int32) (x3 : Int32) (σ : ST), isC 11 x0 → f_X11_grows_72 n (B + x0) x2 x3 (put N B σ) = (g_X11_grows_72 N n x0 x2 x3 σ).bind (fun q => some (q.1, put N B q.2)) := by
  intro n
  induction n with
  | zero =>
    intro x0 x2 x3 σ hx0
    rfl
  | succ n ih =>
    intro x0 x2 x3 σ hx0
    unfold f_X11_grows_72 g_X11_grows_72
    refine li (fun _ => ?_) (fun _ => ?_)
    · exact l_X11_grows_209 hN  _ _ _ _ _ hx0
    · exact l_X11_grows_80 hN ih _ _ _ _ _ _ hx0
noncomputable def g_X11_grows_42 (N : Mem) (n0 : Nat) (x0 : Nat) (x1 : Int32) (x2 : Int32) (x3 : Int32) (σ : ST) : Option (Int32 × ST) :=
  match n0 with
  | 0 => none
  | n + 1 =>
    (f_X11_longOf x1).bind fun v12 =>
    if v12 ≤ x3 then
    (g_X11_grows_72 N fu x0 x2 0 σ)
    else
    ((f_X11_digitOf x1 x3).bind fun v13 =>
    (xI 10 σ (x0 + 15) v13).bind fun v14 =>
    (yI 10 σ (x0 + 15) v13 (v14 + 1)).bind fun r15 =>
    g_X11_grows_42 N n x0 x1 x2 (x3 + 1) r15)
set_option maxHeartbeats 4000000 in
theorem l_X11_grows_42 {N : Mem} {B : Nat} (hN : HN N B) : ∀ (n : Nat) (x0 : Nat) (x1 : Int32) (x2 : Int32) (x3 : Int32) (σ : ST), isC 11 x0 → f_X11_grows_42 n (B + x0) x1 x2 x3 (put N B σ) = (g_X11_grows_42 N n x0 x1 x2 x3 σ).bind (fun q => some (q.1, put N B q.2)) := by
  intro n
  induction n with
  | zero =>
    intro x0 x1 x2 x3 σ hx0
    rfl
  | succ n ih =>
    intro x0 x1 x2 x3 σ hx0
    unfold f_X11_grows_42 g_X11_grows_42
    refine lb (rfl) (fun v12 => ?_)
    refine li (fun _ => ?_) (fun _ => ?_)
    · exact l_X11_grows_72 hN  _ _ _ _ _ hx0
    · refine lg (gR_11_31 hx0) ?_
      refine lb (rfl) (fun v13 => ?_)
      refine lb (rI_put (sh_11_31 hx0)) (fun v14 => ?_)
      refine lm (wI_put (sh_11_31 hx0)) (fun r15 => ?_)
      exact ih _ _ _ _ _ hx0
noncomputable def g_X11_grows_21 (N : Mem) (n0 : Nat) (x0 : Nat) (x1 : Int32) (x2 : Int32) (x3 : Int32) (σ : ST) : Option (Int32 × ST) :=
  match n0 with
  | 0 => none
  | n + 1 =>
    if 10 ≤ x3 then
    (g_X11_grows_42 N fu x0 x1 x2 0 σ)
    else
    ((yI 10 σ (x0 + 15) x3 0).bind fun r16 =>
    g_X11_grows_21 N n x0 x1 x2 (x3 + 1) r16)
set_option maxHeartbeats 4000000 in
theorem l_X11_grows_21 {N : Mem} {B : Nat} (hN : HN N B) : ∀ (n : Nat) (x0 : Nat) (x1 : Int32) (x2 : Int32) (x3 : Int32) (σ : ST), isC 11 x0 → f_X11_grows_21 n (B + x0) x1 x2 x3 (put N B σ) = (g_X11_grows_21 N n x0 x1 x2 x3 σ).bind (fun q => some (q.1, put N B q.2)) := by
  intro n
  induction n with
  | zero =>
    intro x0 x1 x2 x3 σ hx0
    rfl
  | succ n ih =>
    intro x0 x1 x2 x3 σ hx0
    unfold f_X11_grows_21 g_X11_grows_21
    refine li (fun _ => ?_) (fun _ => ?_)
    · exact l_X11_grows_42 hN  _ _ _ _ _ _ hx0
    · refine lg (gR_11_31 hx0) ?_
      refine lm (wI_put (sh_11_31 hx0)) (fun r16 => ?_)
      exact ih _ _ _ _ _ hx0
noncomputable def g_X11_grows_0 (N : Mem) (x0 : Nat) (x1 : Int32) (x2 : Int32) (σ : ST) : Option (Int32 × ST) :=
  (f_X11_isNumber x1).bind fun v17 =>
  if v17 = false then
  (some ((-1), σ))
  else
  ((f_X11_isIn x2 0 12).bind fun v18 =>
  if v18 = true then
  (g_X11_grows_21 N fu x0 x1 x2 0 σ)
  else
  (some ((-1), σ)))
set_option maxHeartbeats 4000000 in
theorem l_X11_grows_0 {N : Mem} {B : Nat} (hN : HN N B) : ∀ (x0 : Nat) (x1 : Int32) (x2 : Int32) (σ : ST), isC 11 x0 → f_X11_grows_0 (B + x0) x1 x2 (put N B σ) = (g_X11_grows_0 N x0 x1 x2 σ).bind (fun q => some (q.1, put N B q.2)) := by
  intro x0 x1 x2 σ hx0
  unfold f_X11_grows_0 g_X11_grows_0
  refine lb (rfl) (fun v17 => ?_)
  refine li (fun _ => ?_) (fun _ => ?_)
  · rfl
  · refine lb (rfl) (fun v18 => ?_)
    refine li (fun _ => ?_) (fun _ => ?_)
    · exact l_X11_grows_21 hN  _ _ _ _ _ _ hx0
    · rfl
noncomputable def g_X11_grows (N : Mem) (x0 : Nat) (x1 : Int32) (x2 : Int32) (σ : ST) : Option (Int32 × ST) := g_X11_grows_0 N x0 x1 x2 σ
theorem l_X11_grows {N : Mem} {B : Nat} (hN : HN N B) {x0 : Nat} {x1 : Int32} {x2 : Int32} {σ : ST} (hx0 : isC 11 x0) : f_X11_grows (B + x0) x1 x2 (put N B σ) = (g_X11_grows N x0 x1 x2 σ).bind (fun q => some (q.1, put N B q.2)) := by
  unfold f_X11_grows g_X11_grows
  rw [if_pos (isOb_put hx0)]
  exact l_X11_grows_0 hN _ _ _ _ hx0
noncomputable def g_X11_stays_65 (N : Mem) (k4 : Nat → Bool → Int32 → Int32 → ST → Option (Int32)) (k16 : Nat → Bool → Int32 → Int32 → Int32 → Int32 → ST → Option (Int32)) (x0 : Nat) (x1 : Bool) (x2 : Int32) (x3 : Int32) (x5 : Int32) (s0 : Int32) (σ : ST) : Option (Int32) :=
  if s0 = x3 then
  (k16 x0 x1 (x2 ||| (jshl 1 x3)) x3 s0 (x5 + 1) σ)
  else
  (k16 x0 x1 x2 x3 s0 (x5 + 1) σ)
set_option maxHeartbeats 4000000 in
theorem l_X11_stays_65 {N : Mem} {B : Nat} (hN : HN N B) {fk4 : Nat → Bool → Int32 → Int32 → Mem → Option (Int32)} {k4 : Nat → Bool → Int32 → Int32 → ST → Option (Int32)} (hk4 : ∀ (x0 : Nat) (x1 : Bool) (x2 : Int32) (x3 : Int32) (σ : ST), isC 11 x0 → fk4 (B + x0) x1 x2 x3 (put N B σ) = (k4 x0 x1 x2 x3 σ).bind some) {fk16 : Nat → Bool → Int32 → Int32 → Int32 → Int32 → Mem → Option (Int32)} {k16 : Nat → Bool → Int32 → Int32 → Int32 → Int32 → ST → Option (Int32)} (hk16 : ∀ (x0 : Nat) (x1 : Bool) (x2 : Int32) (x3 : Int32) (x4 : Int32) (x5 : Int32) (σ : ST), isC 11 x0 → fk16 (B + x0) x1 x2 x3 x4 x5 (put N B σ) = (k16 x0 x1 x2 x3 x4 x5 σ).bind some) : ∀ (x0 : Nat) (x1 : Bool) (x2 : Int32) (x3 : Int32) (x5 : Int32) (s0 : Int32) (σ : ST), isC 11 x0 → f_X11_stays_65 fk4 fk16 (B + x0) x1 x2 x3 x5 s0 (put N B σ) = (g_X11_stays_65 N k4 k16 x0 x1 x2 x3 x5 s0 σ).bind some := by
  intro x0 x1 x2 x3 x5 s0 σ hx0
  unfold f_X11_stays_65 g_X11_stays_65
  refine li (fun _ => ?_) (fun _ => ?_)
  · exact hk16 _ _ _ _ _ _ _ hx0
  · exact hk16 _ _ _ _ _ _ _ hx0
noncomputable def g_X11_stays_41 (N : Mem) (k4 : Nat → Bool → Int32 → Int32 → ST → Option (Int32)) (k16 : Nat → Bool → Int32 → Int32 → Int32 → Int32 → ST → Option (Int32)) (x0 : Nat) (x1 : Bool) (x2 : Int32) (x3 : Int32) (x5 : Int32) (s0 : Bool) (s1 : Int32) (s2 : Nat) (σ : ST) : Option (Int32) :=
  (g_X11_ruleOf N s2 s1 (jz s0) σ).bind fun v1 =>
  (f_X11_wordLong v1).bind fun v2 =>
  if v2 = 1 then
  ((f_X11_wordDigit v1 0).bind fun v3 =>
  g_X11_stays_65 N k4 k16 x0 x1 x2 x3 x5 v3 σ)
  else
  (g_X11_stays_65 N k4 k16 x0 x1 x2 x3 x5 (-1) σ)
set_option maxHeartbeats 4000000 in
theorem l_X11_stays_41 {N : Mem} {B : Nat} (hN : HN N B) {fk4 : Nat → Bool → Int32 → Int32 → Mem → Option (Int32)} {k4 : Nat → Bool → Int32 → Int32 → ST → Option (Int32)} (hk4 : ∀ (x0 : Nat) (x1 : Bool) (x2 : Int32) (x3 : Int32) (σ : ST), isC 11 x0 → fk4 (B + x0) x1 x2 x3 (put N B σ) = (k4 x0 x1 x2 x3 σ).bind some) {fk16 : Nat → Bool → Int32 → Int32 → Int32 → Int32 → Mem → Option (Int32)} {k16 : Nat → Bool → Int32 → Int32 → Int32 → Int32 → ST → Option (Int32)} (hk16 : ∀ (x0 : Nat) (x1 : Bool) (x2 : Int32) (x3 : Int32) (x4 : Int32) (x5 : Int32) (σ : ST), isC 11 x0 → fk16 (B + x0) x1 x2 x3 x4 x5 (put N B σ) = (k16 x0 x1 x2 x3 x4 x5 σ).bind some) : ∀ (x0 : Nat) (x1 : Bool) (x2 : Int32) (x3 : Int32) (x5 : Int32) (s0 : Bool) (s1 : Int32) (s2 : Nat) (σ : ST), isC 11 x0 → isC 11 s2 → f_X11_stays_41 fk4 fk16 (B + x0) x1 x2 x3 x5 s0 s1 (B + s2) (put N B σ) = (g_X11_stays_41 N k4 k16 x0 x1 x2 x3 x5 s0 s1 s2 σ).bind some := by
  intro x0 x1 x2 x3 x5 s0 s1 s2 σ hx0 hs2
  unfold f_X11_stays_41 g_X11_stays_41
  refine lb (l_X11_ruleOf hN hs2) (fun v1 => ?_)
  refine lb (rfl) (fun v2 => ?_)
  refine li (fun _ => ?_) (fun _ => ?_)
  · refine lb (rfl) (fun v3 => ?_)
    exact l_X11_stays_65 hN hk4 hk16 _ _ _ _ _ _ _ hx0
  · exact l_X11_stays_65 hN hk4 hk16 _ _ _ _ _ _ _ hx0
noncomputable def g_X11_stays_16 (N : Mem) (n0 : Nat) (k4 : Nat → Bool → Int32 → Int32 → ST → Option (Int32)) (x0 : Nat) (x1 : Bool) (x2 : Int32) (x3 : Int32) (x4 : Int32) (x5 : Int32) (σ : ST) : Option (Int32) :=
  match n0 with
  | 0 => none
  | n + 1 =>
    if 10 ≤ x5 then
    (k4 x0 x1 x2 (x3 + 1) σ)
    else
    (if x4 = (-1) then
    (k4 x0 x1 x2 (x3 + 1) σ)
    else
    (if x1 = false then
    (g_X11_stays_41 N k4 (g_X11_stays_16 N n k4) x0 x1 x2 x3 x5 false x4 x0 σ)
    else
    (g_X11_stays_41 N k4 (g_X11_stays_16 N n k4) x0 x1 x2 x3 x5 true x4 x0 σ)))
set_option maxHeartbeats 4000000 in
theorem l_X11_stays_16 {N : Mem} {B : Nat} (hN : HN N B) {fk4 : Nat → Bool → Int32 → Int32 → Mem → Option (Int32)} {k4 : Nat → Bool → Int32 → Int32 → ST → Option (Int32)} (hk4 : ∀ (x0 : Nat) (x1 : Bool) (x2 : Int32) (x3 : Int32) (σ : ST), isC 11 x0 → fk4 (B + x0) x1 x2 x3 (put N B σ) = (k4 x0 x1 x2 x3 σ).bind some) : ∀ (n : Nat) (x0 : Nat) (x1 : Bool) (x2 : Int32) (x3 : Int32) (x4 : Int32) (x5 : Int32) (σ : ST), isC 11 x0 → f_X11_stays_16 n fk4 (B + x0) x1 x2 x3 x4 x5 (put N B σ) = (g_X11_stays_16 N n k4 x0 x1 x2 x3 x4 x5 σ).bind some := by
  intro n
  induction n with
  | zero =>
    intro x0 x1 x2 x3 x4 x5 σ hx0
    rfl
  | succ n ih =>
    intro x0 x1 x2 x3 x4 x5 σ hx0
    unfold f_X11_stays_16 g_X11_stays_16
    refine li (fun _ => ?_) (fun _ => ?_)
    · exact hk4 _ _ _ _ _ hx0
    · refine li (fun _ => ?_) (fun _ => ?_)
      · exact hk4 _ _ _ _ _ hx0
      · refine li (fun _ => ?_) (fun _ => ?_)
        · exact l_X11_stays_41 hN hk4 ih _ _ _ _ _ _ _ _ _ hx0 hx0
        · exact l_X11_stays_41 hN hk4 ih _ _ _ _ _ _ _ _ _ hx0 hx0
noncomputable def g_X11_stays_4 (N : Mem) (n0 : Nat) (x0 : Nat) (x1 : Bool) (x2 : Int32) (x3 : Int32) (σ : ST) : Option (Int32) :=
  match n0 with
  | 0 => none
  | n + 1 =>
    if 10 ≤ x3 then
    (some x2)
    else
    (g_X11_stays_16 N fu (g_X11_stays_4 N n) x0 x1 x2 x3 x3 1 σ)
set_option maxHeartbeats 4000000 in
theorem l_X11_stays_4 {N : Mem} {B : Nat} (hN : HN N B) : ∀ (n : Nat) (x0 : Nat) (x1 : Bool) (x2 : Int32) (x3 : Int32) (σ : ST), isC 11 x0 → f_X11_stays_4 n (B + x0) x1 x2 x3 (put N B σ) = (g_X11_stays_4 N n x0 x1 x2 x3 σ).bind some := by
  intro n
  induction n with
  | zero =>
    intro x0 x1 x2 x3 σ hx0
    rfl
  | succ n ih =>
    intro x0 x1 x2 x3 σ hx0
    unfold f_X11_stays_4 g_X11_stays_4
    refine li (fun _ => ?_) (fun _ => ?_)
    · rfl
    · exact l_X11_stays_16 hN ih _ _ _ _ _ _ _ _ hx0
noncomputable def g_X11_stays_0 (N : Mem) (x0 : Nat) (x1 : Bool) (σ : ST) : Option (Int32) :=
  g_X11_stays_4 N fu x0 x1 0 0 σ
set_option maxHeartbeats 4000000 in
theorem l_X11_stays_0 {N : Mem} {B : Nat} (hN : HN N B) : ∀ (x0 : Nat) (x1 : Bool) (σ : ST), isC 11 x0 → f_X11_stays_0 (B + x0) x1 (put N B σ) = (g_X11_stays_0 N x0 x1 σ).bind some := by
  intro x0 x1 σ hx0
  unfold f_X11_stays_0 g_X11_stays_0
  exact l_X11_stays_4 hN  _ _ _ _ _ _ hx0
noncomputable def g_X11_stays (N : Mem) (x0 : Nat) (x1 : Bool) (σ : ST) : Option (Int32) := g_X11_stays_0 N x0 x1 σ
theorem l_X11_stays {N : Mem} {B : Nat} (hN : HN N B) {x0 : Nat} {x1 : Bool} {σ : ST} (hx0 : isC 11 x0) : f_X11_stays (B + x0) x1 (put N B σ) = g_X11_stays N x0 x1 σ := by
  unfold f_X11_stays g_X11_stays
  rw [if_pos (isOb_put hx0)]
  exact lsm (l_X11_stays_0 hN _ _ _ hx0)
noncomputable def g_X11_likes_45 (N : Mem) (x2 : Int32) (x3 : Int32) (x4 : Int32) (s0 : Int32) (s1 : Int32) (s2 : Nat) (σ : ST) : Option (Bool × ST) :=
  (yI 4607 σ s2 (((s1 + s0) + (5 * x2)) + x3) x4).bind fun r1 =>
  some (true, r1)
set_option maxHeartbeats 4000000 in
theorem l_X11_likes_45 {N : Mem} {B : Nat} (hN : HN N B) : ∀ (x2 : Int32) (x3 : Int32) (x4 : Int32) (s0 : Int32) (s1 : Int32) (s2 : Nat) (σ : ST), isA 4607 s2 → f_X11_likes_45 x2 x3 x4 s0 s1 (B + s2) (put N B σ) = (g_X11_likes_45 N x2 x3 x4 s0 s1 s2 σ).bind (fun q => some (q.1, put N B q.2)) := by
  intro x2 x3 x4 s0 s1 s2 σ hs2
  unfold f_X11_likes_45 g_X11_likes_45
  refine lm (wI_put hs2) (fun r1 => ?_)
  rfl
noncomputable def g_X11_likes_0 (N : Mem) (x0 : Nat) (x1 : Bool) (x2 : Int32) (x3 : Int32) (x4 : Int32) (σ : ST) : Option (Bool × ST) :=
  (f_X11_isIn x2 0 4).bind fun v2 =>
  if v2 = false then
  (some (false, σ))
  else
  ((f_X11_isIn x3 0 4).bind fun v3 =>
  if v3 = false then
  (some (false, σ))
  else
  ((f_X11_isDigit x4).bind fun v4 =>
  if v4 = true then
  (if x1 = false then
  (g_X11_likes_45 N x2 x3 x4 25 153 (x0 + 1) σ)
  else
  (g_X11_likes_45 N x2 x3 x4 0 153 (x0 + 1) σ))
  else
  (some (false, σ))))
set_option maxHeartbeats 4000000 in
theorem l_X11_likes_0 {N : Mem} {B : Nat} (hN : HN N B) : ∀ (x0 : Nat) (x1 : Bool) (x2 : Int32) (x3 : Int32) (x4 : Int32) (σ : ST), isC 11 x0 → f_X11_likes_0 (B + x0) x1 x2 x3 x4 (put N B σ) = (g_X11_likes_0 N x0 x1 x2 x3 x4 σ).bind (fun q => some (q.1, put N B q.2)) := by
  intro x0 x1 x2 x3 x4 σ hx0
  unfold f_X11_likes_0 g_X11_likes_0
  refine lb (rfl) (fun v2 => ?_)
  refine li (fun _ => ?_) (fun _ => ?_)
  · rfl
  · refine lb (rfl) (fun v3 => ?_)
    refine li (fun _ => ?_) (fun _ => ?_)
    · rfl
    · refine lb (rfl) (fun v4 => ?_)
      refine li (fun _ => ?_) (fun _ => ?_)
      · refine lg (gR_11_0 hx0) ?_
        refine li (fun _ => ?_) (fun _ => ?_)
        · exact l_X11_likes_45 hN  _ _ _ _ _ _ _ (sh_11_0 hx0)
        · exact l_X11_likes_45 hN  _ _ _ _ _ _ _ (sh_11_0 hx0)
      · rfl
noncomputable def g_X11_likes (N : Mem) (x0 : Nat) (x1 : Bool) (x2 : Int32) (x3 : Int32) (x4 : Int32) (σ : ST) : Option (Bool × ST) := g_X11_likes_0 N x0 x1 x2 x3 x4 σ
theorem l_X11_likes {N : Mem} {B : Nat} (hN : HN N B) {x0 : Nat} {x1 : Bool} {x2 : Int32} {x3 : Int32} {x4 : Int32} {σ : ST} (hx0 : isC 11 x0) : f_X11_likes (B + x0) x1 x2 x3 x4 (put N B σ) = (g_X11_likes N x0 x1 x2 x3 x4 σ).bind (fun q => some (q.1, put N B q.2)) := by
  unfold f_X11_likes g_X11_likes
  rw [if_pos (isOb_put hx0)]
  exact l_X11_likes_0 hN _ _ _ _ _ _ hx0
noncomputable def g_X11_isBetter_0 (N : Mem) (x0 : Nat) (x1 : Int32) (x2 : Int32) (x3 : Int32) (x4 : Int32) (σ : ST) : Option (Bool) :=
  (xI 4607 σ (x0 + 1) (((153 + x1) + (5 * x2)) + x3)).bind fun v1 =>
  (xI 4607 σ (x0 + 1) (((153 + x1) + (5 * x2)) + x4)).bind fun v2 =>
  if (v1 - v2) < 0 then
  (some true)
  else
  (if (v1 - v2) = 0 then
  (if x4 ≤ x3 then
  (some false)
  else
  (some true))
  else
  (some false))
set_option maxHeartbeats 4000000 in
theorem l_X11_isBetter_0 {N : Mem} {B : Nat} (hN : HN N B) : ∀ (x0 : Nat) (x1 : Int32) (x2 : Int32) (x3 : Int32) (x4 : Int32) (σ : ST), isC 11 x0 → f_X11_isBetter_0 (B + x0) x1 x2 x3 x4 (put N B σ) = (g_X11_isBetter_0 N x0 x1 x2 x3 x4 σ).bind some := by
  intro x0 x1 x2 x3 x4 σ hx0
  unfold f_X11_isBetter_0 g_X11_isBetter_0
  refine lg (gR_11_0 hx0) ?_
  refine lb (rI_put (sh_11_0 hx0)) (fun v1 => ?_)
  refine lg (gR_11_0 hx0) ?_
  refine lb (rI_put (sh_11_0 hx0)) (fun v2 => ?_)
  refine li (fun _ => ?_) (fun _ => ?_)
  · rfl
  · refine li (fun _ => ?_) (fun _ => ?_)
    · refine li (fun _ => ?_) (fun _ => ?_)
      · rfl
      · rfl
    · rfl
noncomputable def g_X11_isBetter (N : Mem) (x0 : Nat) (x1 : Int32) (x2 : Int32) (x3 : Int32) (x4 : Int32) (σ : ST) : Option (Bool) := g_X11_isBetter_0 N x0 x1 x2 x3 x4 σ
theorem l_X11_isBetter {N : Mem} {B : Nat} (hN : HN N B) {x0 : Nat} {x1 : Int32} {x2 : Int32} {x3 : Int32} {x4 : Int32} {σ : ST} (hx0 : isC 11 x0) : f_X11_isBetter (B + x0) x1 x2 x3 x4 (put N B σ) = g_X11_isBetter N x0 x1 x2 x3 x4 σ := by
  unfold f_X11_isBetter g_X11_isBetter
  rw [if_pos (isOb_put hx0)]
  exact lsm (l_X11_isBetter_0 hN _ _ _ _ _ _ hx0)
noncomputable def g_X11_bestOf_4 (N : Mem) (n0 : Nat) (x0 : Nat) (x1 : Int32) (x2 : Int32) (x3 : Int32) (σ : ST) : Option (Int32) :=
  match n0 with
  | 0 => none
  | n + 1 =>
    if 5 ≤ x3 then
    (some x2)
    else
    ((xI 5 σ (x0 + 18) x1).bind fun v1 =>
    (f_X11_has v1 x3).bind fun v2 =>
    if v2 = true then
    (g_X11_bestOf_4 N n x0 x1 x2 (x3 + 1) σ)
    else
    (if x2 = (-1) then
    (g_X11_bestOf_4 N n x0 x1 x3 (x3 + 1) σ)
    else
    ((g_X11_isBetter N x0 0 x1 x3 x2 σ).bind fun v3 =>
    if v3 = false then
    (g_X11_bestOf_4 N n x0 x1 x2 (x3 + 1) σ)
    else
    (g_X11_bestOf_4 N n x0 x1 x3 (x3 + 1) σ))))
set_option maxHeartbeats 4000000 in
theorem l_X11_bestOf_4 {N : Mem} {B : Nat} (hN : HN N B) : ∀ (n : Nat) (x0 : Nat) (x1 : Int32) (x2 : Int32) (x3 : Int32) (σ : ST), isC 11 x0 → f_X11_bestOf_4 n (B + x0) x1 x2 x3 (put N B σ) = (g_X11_bestOf_4 N n x0 x1 x2 x3 σ).bind some := by
  intro n
  induction n with
  | zero =>
    intro x0 x1 x2 x3 σ hx0
    rfl
  | succ n ih =>
    intro x0 x1 x2 x3 σ hx0
    unfold f_X11_bestOf_4 g_X11_bestOf_4
    refine li (fun _ => ?_) (fun _ => ?_)
    · rfl
    · refine lg (gR_11_34 hx0) ?_
      refine lb (rI_put (sh_11_34 hx0)) (fun v1 => ?_)
      refine lb (rfl) (fun v2 => ?_)
      refine li (fun _ => ?_) (fun _ => ?_)
      · exact ih _ _ _ _ _ hx0
      · refine li (fun _ => ?_) (fun _ => ?_)
        · exact ih _ _ _ _ _ hx0
        · refine lb (l_X11_isBetter hN hx0) (fun v3 => ?_)
          refine li (fun _ => ?_) (fun _ => ?_)
          · exact ih _ _ _ _ _ hx0
          · exact ih _ _ _ _ _ hx0
noncomputable def g_X11_bestOf_0 (N : Mem) (x0 : Nat) (x1 : Int32) (σ : ST) : Option (Int32) :=
  g_X11_bestOf_4 N fu x0 x1 (-1) 0 σ
set_option maxHeartbeats 4000000 in
theorem l_X11_bestOf_0 {N : Mem} {B : Nat} (hN : HN N B) : ∀ (x0 : Nat) (x1 : Int32) (σ : ST), isC 11 x0 → f_X11_bestOf_0 (B + x0) x1 (put N B σ) = (g_X11_bestOf_0 N x0 x1 σ).bind some := by
  intro x0 x1 σ hx0
  unfold f_X11_bestOf_0 g_X11_bestOf_0
  exact l_X11_bestOf_4 hN  _ _ _ _ _ _ hx0
noncomputable def g_X11_bestOf (N : Mem) (x0 : Nat) (x1 : Int32) (σ : ST) : Option (Int32) := g_X11_bestOf_0 N x0 x1 σ
theorem l_X11_bestOf {N : Mem} {B : Nat} (hN : HN N B) {x0 : Nat} {x1 : Int32} {σ : ST} (hx0 : isC 11 x0) : f_X11_bestOf (B + x0) x1 (put N B σ) = g_X11_bestOf N x0 x1 σ := by
  unfold f_X11_bestOf g_X11_bestOf
  rw [if_pos (isOb_put hx0)]
  exact lsm (l_X11_bestOf_0 hN _ _ _ hx0)
noncomputable def g_X11_layPairs_86 (N : Mem) (k29 : Nat → Int32 → ST → Option (ST)) (k36 : Nat → Int32 → Int32 → ST → Option (ST)) (x0 : Nat) (x1 : Int32) (x2 : Int32) (x3 : Int32) (x4 : Int32) (σ : ST) : Option (ST) :=
  (yI 5 σ (x0 + 17) x3 x2).bind fun r1 =>
  k36 x0 x1 x4 r1
set_option maxHeartbeats 4000000 in
theorem l_X11_layPairs_86 {N : Mem} {B : Nat} (hN : HN N B) {fk29 : Nat → Int32 → Mem → Option (Mem)} {k29 : Nat → Int32 → ST → Option (ST)} (hk29 : ∀ (x0 : Nat) (x1 : Int32) (σ : ST), isC 11 x0 → fk29 (B + x0) x1 (put N B σ) = (k29 x0 x1 σ).bind (fun q => some (put N B q))) {fk36 : Nat → Int32 → Int32 → Mem → Option (Mem)} {k36 : Nat → Int32 → Int32 → ST → Option (ST)} (hk36 : ∀ (x0 : Nat) (x1 : Int32) (x2 : Int32) (σ : ST), isC 11 x0 → fk36 (B + x0) x1 x2 (put N B σ) = (k36 x0 x1 x2 σ).bind (fun q => some (put N B q))) : ∀ (x0 : Nat) (x1 : Int32) (x2 : Int32) (x3 : Int32) (x4 : Int32) (σ : ST), isC 11 x0 → f_X11_layPairs_86 fk29 fk36 (B + x0) x1 x2 x3 x4 (put N B σ) = (g_X11_layPairs_86 N k29 k36 x0 x1 x2 x3 x4 σ).bind (fun q => some (put N B q)) := by
  intro x0 x1 x2 x3 x4 σ hx0
  unfold f_X11_layPairs_86 g_X11_layPairs_86
  refine lg (gR_11_33 hx0) ?_
  refine lm (wI_put (sh_11_33 hx0)) (fun r1 => ?_)
  exact hk36 _ _ _ _ hx0
noncomputable def g_X11_layPairs_36 (N : Mem) (n0 : Nat) (k29 : Nat → Int32 → ST → Option (ST)) (x0 : Nat) (x1 : Int32) (x2 : Int32) (σ : ST) : Option (ST) :=
  match n0 with
  | 0 => none
  | n + 1 =>
    if x2 = (-1) then
    (k29 x0 (x1 + 1) σ)
    else
    ((g_X11_bestOf N x0 x2 σ).bind fun v2 =>
    (xI 5 σ (x0 + 18) x2).bind fun v3 =>
    (yI 5 σ (x0 + 18) x2 (v3 ||| (jshl 1 v2))).bind fun r4 =>
    (xI 5 r4 (x0 + 17) v2).bind fun v5 =>
    if v5 = (-1) then
    (g_X11_layPairs_86 N k29 (g_X11_layPairs_36 N n k29) x0 x1 x2 v2 v5 r4)
    else
    ((g_X11_isBetter N x0 25 v2 x2 v5 r4).bind fun v6 =>
    if v6 = false then
    (g_X11_layPairs_36 N n k29 x0 x1 x2 r4)
    else
    (g_X11_layPairs_86 N k29 (g_X11_layPairs_36 N n k29) x0 x1 x2 v2 v5 r4)))
set_option maxHeartbeats 4000000 in
theorem l_X11_layPairs_36 {N : Mem} {B : Nat} (hN : HN N B) {fk29 : Nat → Int32 → Mem → Option (Mem)} {k29 : Nat → Int32 → ST → Option (ST)} (hk29 : ∀ (x0 : Nat) (x1 : Int32) (σ : ST), isC 11 x0 → fk29 (B + x0) x1 (put N B σ) = (k29 x0 x1 σ).bind (fun q => some (put N B q))) : ∀ (n : Nat) (x0 : Nat) (x1 : Int32) (x2 : Int32) (σ : ST), isC 11 x0 → f_X11_layPairs_36 n fk29 (B + x0) x1 x2 (put N B σ) = (g_X11_layPairs_36 N n k29 x0 x1 x2 σ).bind (fun q => some (put N B q)) := by
  intro n
  induction n with
  | zero =>
    intro x0 x1 x2 σ hx0
    rfl
  | succ n ih =>
    intro x0 x1 x2 σ hx0
    unfold f_X11_layPairs_36 g_X11_layPairs_36
    refine li (fun _ => ?_) (fun _ => ?_)
    · exact hk29 _ _ _ hx0
    · refine lb (l_X11_bestOf hN hx0) (fun v2 => ?_)
      refine lg (gR_11_34 hx0) ?_
      refine lb (rI_put (sh_11_34 hx0)) (fun v3 => ?_)
      refine lm (wI_put (sh_11_34 hx0)) (fun r4 => ?_)
      refine lg (gR_11_33 hx0) ?_
      refine lb (rI_put (sh_11_33 hx0)) (fun v5 => ?_)
      refine li (fun _ => ?_) (fun _ => ?_)
      · exact l_X11_layPairs_86 hN hk29 ih _ _ _ _ _ _ hx0
      · refine lb (l_X11_isBetter hN hx0) (fun v6 => ?_)
        refine li (fun _ => ?_) (fun _ => ?_)
        · exact ih _ _ _ _ hx0
        · exact l_X11_layPairs_86 hN hk29 ih _ _ _ _ _ _ hx0
noncomputable def g_X11_layPairs_29 (N : Mem) (n0 : Nat) (x0 : Nat) (x1 : Int32) (σ : ST) : Option (ST) :=
  match n0 with
  | 0 => none
  | n + 1 =>
    if 5 ≤ x1 then
    (some σ)
    else
    (g_X11_layPairs_36 N fu (g_X11_layPairs_29 N n) x0 x1 x1 σ)
set_option maxHeartbeats 4000000 in
theorem l_X11_layPairs_29 {N : Mem} {B : Nat} (hN : HN N B) : ∀ (n : Nat) (x0 : Nat) (x1 : Int32) (σ : ST), isC 11 x0 → f_X11_layPairs_29 n (B + x0) x1 (put N B σ) = (g_X11_layPairs_29 N n x0 x1 σ).bind (fun q => some (put N B q)) := by
  intro n
  induction n with
  | zero =>
    intro x0 x1 σ hx0
    rfl
  | succ n ih =>
    intro x0 x1 σ hx0
    unfold f_X11_layPairs_29 g_X11_layPairs_29
    refine li (fun _ => ?_) (fun _ => ?_)
    · rfl
    · exact l_X11_layPairs_36 hN ih _ _ _ _ _ hx0
noncomputable def g_X11_layPairs_2 (N : Mem) (n0 : Nat) (x0 : Nat) (x1 : Int32) (σ : ST) : Option (ST) :=
  match n0 with
  | 0 => none
  | n + 1 =>
    if 5 ≤ x1 then
    (g_X11_layPairs_29 N fu x0 0 σ)
    else
    ((yI 5 σ (x0 + 17) x1 (-1)).bind fun r7 =>
    (yI 5 r7 (x0 + 18) x1 0).bind fun r8 =>
    g_X11_layPairs_2 N n x0 (x1 + 1) r8)
set_option maxHeartbeats 4000000 in
theorem l_X11_layPairs_2 {N : Mem} {B : Nat} (hN : HN N B) : ∀ (n : Nat) (x0 : Nat) (x1 : Int32) (σ : ST), isC 11 x0 → f_X11_layPairs_2 n (B + x0) x1 (put N B σ) = (g_X11_layPairs_2 N n x0 x1 σ).bind (fun q => some (put N B q)) := by
  intro n
  induction n with
  | zero =>
    intro x0 x1 σ hx0
    rfl
  | succ n ih =>
    intro x0 x1 σ hx0
    unfold f_X11_layPairs_2 g_X11_layPairs_2
    refine li (fun _ => ?_) (fun _ => ?_)
    · exact l_X11_layPairs_29 hN  _ _ _ _ hx0
    · refine lg (gR_11_33 hx0) ?_
      refine lm (wI_put (sh_11_33 hx0)) (fun r7 => ?_)
      refine lg (gR_11_34 hx0) ?_
      refine lm (wI_put (sh_11_34 hx0)) (fun r8 => ?_)
      exact ih _ _ _ hx0
noncomputable def g_X11_layPairs_0 (N : Mem) (x0 : Nat) (σ : ST) : Option (ST) :=
  g_X11_layPairs_2 N fu x0 0 σ
set_option maxHeartbeats 4000000 in
theorem l_X11_layPairs_0 {N : Mem} {B : Nat} (hN : HN N B) : ∀ (x0 : Nat) (σ : ST), isC 11 x0 → f_X11_layPairs_0 (B + x0) (put N B σ) = (g_X11_layPairs_0 N x0 σ).bind (fun q => some (put N B q)) := by
  intro x0 σ hx0
  unfold f_X11_layPairs_0 g_X11_layPairs_0
  exact l_X11_layPairs_2 hN  _ _ _ _ hx0
noncomputable def g_X11_layPairs (N : Mem) (x0 : Nat) (σ : ST) : Option (ST) := g_X11_layPairs_0 N x0 σ
theorem l_X11_layPairs {N : Mem} {B : Nat} (hN : HN N B) {x0 : Nat} {σ : ST} (hx0 : isC 11 x0) : f_X11_layPairs (B + x0) (put N B σ) = (g_X11_layPairs N x0 σ).map (put N B) := by
  unfold f_X11_layPairs g_X11_layPairs
  rw [if_pos (isOb_put hx0)]
  exact lmap (l_X11_layPairs_0 hN _ _ hx0)
noncomputable def g_X11_paired_17 (N : Mem) (n0 : Nat) (x0 : Nat) (x1 : Int32) (x2 : Int32) (σ : ST) : Option (Int32 × ST) :=
  match n0 with
  | 0 => none
  | n + 1 =>
    (xI 5 σ (x0 + 17) x2).bind fun v1 =>
    if v1 = x1 then
    (some (x2, σ))
    else
    (g_X11_paired_17 N n x0 x1 (x2 + 1) σ)
set_option maxHeartbeats 4000000 in
theorem l_X11_paired_17 {N : Mem} {B : Nat} (hN : HN N B) : ∀ (n : Nat) (x0 : Nat) (x1 : Int32) (x2 : Int32) (σ : ST), isC 11 x0 → f_X11_paired_17 n (B + x0) x1 x2 (put N B σ) = (g_X11_paired_17 N n x0 x1 x2 σ).bind (fun q => some (q.1, put N B q.2)) := by
  intro n
  induction n with
  | zero =>
    intro x0 x1 x2 σ hx0
    rfl
  | succ n ih =>
    intro x0 x1 x2 σ hx0
    unfold f_X11_paired_17 g_X11_paired_17
    refine lg (gR_11_33 hx0) ?_
    refine lb (rI_put (sh_11_33 hx0)) (fun v1 => ?_)
    refine li (fun _ => ?_) (fun _ => ?_)
    · rfl
    · exact ih _ _ _ _ hx0
noncomputable def g_X11_paired_0 (N : Mem) (x0 : Nat) (x1 : Int32) (σ : ST) : Option (Int32 × ST) :=
  (f_X11_isIn x1 0 4).bind fun v2 =>
  if v2 = true then
  ((g_X11_layPairs N x0 σ).bind fun r3 =>
  g_X11_paired_17 N fu x0 x1 0 r3)
  else
  (some ((-1), σ))
set_option maxHeartbeats 4000000 in
theorem l_X11_paired_0 {N : Mem} {B : Nat} (hN : HN N B) : ∀ (x0 : Nat) (x1 : Int32) (σ : ST), isC 11 x0 → f_X11_paired_0 (B + x0) x1 (put N B σ) = (g_X11_paired_0 N x0 x1 σ).bind (fun q => some (q.1, put N B q.2)) := by
  intro x0 x1 σ hx0
  unfold f_X11_paired_0 g_X11_paired_0
  refine lb (rfl) (fun v2 => ?_)
  refine li (fun _ => ?_) (fun _ => ?_)
  · refine lm (l_X11_layPairs hN hx0) (fun r3 => ?_)
    exact l_X11_paired_17 hN  _ _ _ _ _ hx0
  · rfl
noncomputable def g_X11_paired (N : Mem) (x0 : Nat) (x1 : Int32) (σ : ST) : Option (Int32 × ST) := g_X11_paired_0 N x0 x1 σ
theorem l_X11_paired {N : Mem} {B : Nat} (hN : HN N B) {x0 : Nat} {x1 : Int32} {σ : ST} (hx0 : isC 11 x0) : f_X11_paired (B + x0) x1 (put N B σ) = (g_X11_paired N x0 x1 σ).bind (fun q => some (q.1, put N B q.2)) := by
  unfold f_X11_paired g_X11_paired
  rw [if_pos (isOb_put hx0)]
  exact l_X11_paired_0 hN _ _ _ hx0
noncomputable def g_X11_blocks_0 (N : Mem) (x0 : Nat) (x1 : Int32) (x2 : Int32) (σ : ST) : Option (Int32) :=
  (f_X11_isIn x1 0 4).bind fun v1 =>
  if v1 = false then
  (some (-1))
  else
  ((f_X11_isIn x2 0 4).bind fun v2 =>
  if v2 = true then
  ((g_X11_isBetter N x0 0 x1 x2 x1 σ).bind fun v3 =>
  if v3 = false then
  (some 0)
  else
  ((g_X11_isBetter N x0 25 x2 x1 x2 σ).bind fun v4 =>
  if v4 = false then
  (some 0)
  else
  (some 1)))
  else
  (some (-1)))
set_option maxHeartbeats 4000000 in
theorem l_X11_blocks_0 {N : Mem} {B : Nat} (hN : HN N B) : ∀ (x0 : Nat) (x1 : Int32) (x2 : Int32) (σ : ST), isC 11 x0 → f_X11_blocks_0 (B + x0) x1 x2 (put N B σ) = (g_X11_blocks_0 N x0 x1 x2 σ).bind some := by
  intro x0 x1 x2 σ hx0
  unfold f_X11_blocks_0 g_X11_blocks_0
  refine lb (rfl) (fun v1 => ?_)
  refine li (fun _ => ?_) (fun _ => ?_)
  · rfl
  · refine lb (rfl) (fun v2 => ?_)
    refine li (fun _ => ?_) (fun _ => ?_)
    · refine lb (l_X11_isBetter hN hx0) (fun v3 => ?_)
      refine li (fun _ => ?_) (fun _ => ?_)
      · rfl
      · refine lb (l_X11_isBetter hN hx0) (fun v4 => ?_)
        refine li (fun _ => ?_) (fun _ => ?_)
        · rfl
        · rfl
    · rfl
noncomputable def g_X11_blocks (N : Mem) (x0 : Nat) (x1 : Int32) (x2 : Int32) (σ : ST) : Option (Int32) := g_X11_blocks_0 N x0 x1 x2 σ
theorem l_X11_blocks {N : Mem} {B : Nat} (hN : HN N B) {x0 : Nat} {x1 : Int32} {x2 : Int32} {σ : ST} (hx0 : isC 11 x0) : f_X11_blocks (B + x0) x1 x2 (put N B σ) = g_X11_blocks N x0 x1 x2 σ := by
  unfold f_X11_blocks g_X11_blocks
  rw [if_pos (isOb_put hx0)]
  exact lsm (l_X11_blocks_0 hN _ _ _ _ hx0)
noncomputable def g_X11_needs_0 (N : Mem) (x0 : Nat) (x1 : Int32) (x2 : Int32) (σ : ST) : Option (Bool × ST) :=
  (f_X11_isIn x1 0 7).bind fun v1 =>
  if v1 = false then
  (some (false, σ))
  else
  ((f_X11_isIn x2 0 99).bind fun v2 =>
  if v2 = true then
  ((yI 4607 σ (x0 + 1) (203 + x1) x2).bind fun r3 =>
  some (true, r3))
  else
  (some (false, σ)))
set_option maxHeartbeats 4000000 in
theorem l_X11_needs_0 {N : Mem} {B : Nat} (hN : HN N B) : ∀ (x0 : Nat) (x1 : Int32) (x2 : Int32) (σ : ST), isC 11 x0 → f_X11_needs_0 (B + x0) x1 x2 (put N B σ) = (g_X11_needs_0 N x0 x1 x2 σ).bind (fun q => some (q.1, put N B q.2)) := by
  intro x0 x1 x2 σ hx0
  unfold f_X11_needs_0 g_X11_needs_0
  refine lb (rfl) (fun v1 => ?_)
  refine li (fun _ => ?_) (fun _ => ?_)
  · rfl
  · refine lb (rfl) (fun v2 => ?_)
    refine li (fun _ => ?_) (fun _ => ?_)
    · refine lg (gR_11_0 hx0) ?_
      refine lm (wI_put (sh_11_0 hx0)) (fun r3 => ?_)
      rfl
    · rfl
noncomputable def g_X11_needs (N : Mem) (x0 : Nat) (x1 : Int32) (x2 : Int32) (σ : ST) : Option (Bool × ST) := g_X11_needs_0 N x0 x1 x2 σ
theorem l_X11_needs {N : Mem} {B : Nat} (hN : HN N B) {x0 : Nat} {x1 : Int32} {x2 : Int32} {σ : ST} (hx0 : isC 11 x0) : f_X11_needs (B + x0) x1 x2 (put N B σ) = (g_X11_needs N x0 x1 x2 σ).bind (fun q => some (q.1, put N B q.2)) := by
  unfold f_X11_needs g_X11_needs
  rw [if_pos (isOb_put hx0)]
  exact l_X11_needs_0 hN _ _ _ _ hx0
noncomputable def g_X11_costBy_29 (N : Mem) (k9 : Nat → Int32 → Int32 → Int32 → Int32 → Int32 → Int32 → ST → Option (Int32 × ST)) (x0 : Nat) (x1 : Int32) (x2 : Int32) (x3 : Int32) (x4 : Int32) (x5 : Int32) (x6 : Int32) (σ : ST) : Option (Int32 × ST) :=
  (yI 8 σ (x0 + 19) x6 0).bind fun r1 =>
  (xI 8 r1 (x0 + 19) x5).bind fun v2 =>
  (xI 4607 r1 (x0 + 1) (203 + x6)).bind fun v3 =>
  (yI 8 r1 (x0 + 19) x5 (v2 + v3)).bind fun r4 =>
  (xI 4607 r4 (x0 + 1) (203 + x6)).bind fun v5 =>
  k9 x0 x1 x2 x3 (x4 + ((x3 * (x6 - x5)) * v5)) x5 (x6 + 1) r4
set_option maxHeartbeats 4000000 in
theorem l_X11_costBy_29 {N : Mem} {B : Nat} (hN : HN N B) {fk9 : Nat → Int32 → Int32 → Int32 → Int32 → Int32 → Int32 → Mem → Option (Int32 × Mem)} {k9 : Nat → Int32 → Int32 → Int32 → Int32 → Int32 → Int32 → ST → Option (Int32 × ST)} (hk9 : ∀ (x0 : Nat) (x1 : Int32) (x2 : Int32) (x3 : Int32) (x4 : Int32) (x5 : Int32) (x6 : Int32) (σ : ST), isC 11 x0 → fk9 (B + x0) x1 x2 x3 x4 x5 x6 (put N B σ) = (k9 x0 x1 x2 x3 x4 x5 x6 σ).bind (fun q => some (q.1, put N B q.2))) : ∀ (x0 : Nat) (x1 : Int32) (x2 : Int32) (x3 : Int32) (x4 : Int32) (x5 : Int32) (x6 : Int32) (σ : ST), isC 11 x0 → f_X11_costBy_29 fk9 (B + x0) x1 x2 x3 x4 x5 x6 (put N B σ) = (g_X11_costBy_29 N k9 x0 x1 x2 x3 x4 x5 x6 σ).bind (fun q => some (q.1, put N B q.2)) := by
  intro x0 x1 x2 x3 x4 x5 x6 σ hx0
  unfold f_X11_costBy_29 g_X11_costBy_29
  refine lg (gR_11_35 hx0) ?_
  refine lm (wI_put (sh_11_35 hx0)) (fun r1 => ?_)
  refine lg (gR_11_35 hx0) ?_
  refine lb (rI_put (sh_11_35 hx0)) (fun v2 => ?_)
  refine lg (gR_11_0 hx0) ?_
  refine lb (rI_put (sh_11_0 hx0)) (fun v3 => ?_)
  refine lm (wI_put (sh_11_35 hx0)) (fun r4 => ?_)
  refine lg (gR_11_0 hx0) ?_
  refine lb (rI_put (sh_11_0 hx0)) (fun v5 => ?_)
  exact hk9 _ _ _ _ _ _ _ _ hx0
noncomputable def g_X11_costBy_115 (N : Mem) (k91 : Nat → Int32 → Int32 → Int32 → ST → Option (Int32 × ST)) (x0 : Nat) (x2 : Int32) (x6 : Int32) (s0 : Int32) (s1 : Int32) (σ : ST) : Option (Int32 × ST) :=
  k91 x0 x2 (s1 + s0) (x6 + 1) σ
set_option maxHeartbeats 4000000 in
theorem l_X11_costBy_115 {N : Mem} {B : Nat} (hN : HN N B) {fk91 : Nat → Int32 → Int32 → Int32 → Mem → Option (Int32 × Mem)} {k91 : Nat → Int32 → Int32 → Int32 → ST → Option (Int32 × ST)} (hk91 : ∀ (x0 : Nat) (x2 : Int32) (x4 : Int32) (x6 : Int32) (σ : ST), isC 11 x0 → fk91 (B + x0) x2 x4 x6 (put N B σ) = (k91 x0 x2 x4 x6 σ).bind (fun q => some (q.1, put N B q.2))) : ∀ (x0 : Nat) (x2 : Int32) (x6 : Int32) (s0 : Int32) (s1 : Int32) (σ : ST), isC 11 x0 → f_X11_costBy_115 fk91 (B + x0) x2 x6 s0 s1 (put N B σ) = (g_X11_costBy_115 N k91 x0 x2 x6 s0 s1 σ).bind (fun q => some (q.1, put N B q.2)) := by
  intro x0 x2 x6 s0 s1 σ hx0
  unfold f_X11_costBy_115 g_X11_costBy_115
  exact hk91 _ _ _ _ _ hx0
noncomputable def g_X11_costBy_91 (N : Mem) (n0 : Nat) (x0 : Nat) (x2 : Int32) (x4 : Int32) (x6 : Int32) (σ : ST) : Option (Int32 × ST) :=
  match n0 with
  | 0 => none
  | n + 1 =>
    if 8 ≤ x6 then
    (some (x4, σ))
    else
    ((xI 8 σ (x0 + 19) x6).bind fun v6 =>
    if v6 ≤ 0 then
    (g_X11_costBy_115 N (g_X11_costBy_91 N n) x0 x2 x6 0 x4 σ)
    else
    (g_X11_costBy_115 N (g_X11_costBy_91 N n) x0 x2 x6 x2 x4 σ))
set_option maxHeartbeats 4000000 in
theorem l_X11_costBy_91 {N : Mem} {B : Nat} (hN : HN N B) : ∀ (n : Nat) (x0 : Nat) (x2 : Int32) (x4 : Int32) (x6 : Int32) (σ : ST), isC 11 x0 → f_X11_costBy_91 n (B + x0) x2 x4 x6 (put N B σ) = (g_X11_costBy_91 N n x0 x2 x4 x6 σ).bind (fun q => some (q.1, put N B q.2)) := by
  intro n
  induction n with
  | zero =>
    intro x0 x2 x4 x6 σ hx0
    rfl
  | succ n ih =>
    intro x0 x2 x4 x6 σ hx0
    unfold f_X11_costBy_91 g_X11_costBy_91
    refine li (fun _ => ?_) (fun _ => ?_)
    · rfl
    · refine lg (gR_11_35 hx0) ?_
      refine lb (rI_put (sh_11_35 hx0)) (fun v6 => ?_)
      refine li (fun _ => ?_) (fun _ => ?_)
      · exact l_X11_costBy_115 hN ih _ _ _ _ _ _ hx0
      · exact l_X11_costBy_115 hN ih _ _ _ _ _ _ hx0
noncomputable def g_X11_costBy_9 (N : Mem) (n0 : Nat) (x0 : Nat) (x1 : Int32) (x2 : Int32) (x3 : Int32) (x4 : Int32) (x5 : Int32) (x6 : Int32) (σ : ST) : Option (Int32 × ST) :=
  match n0 with
  | 0 => none
  | n + 1 =>
    if 8 ≤ x6 then
    (g_X11_costBy_91 N fu x0 x2 x4 0 σ)
    else
    ((f_X11_has x1 x6).bind fun v7 =>
    if v7 = false then
    (g_X11_costBy_29 N (g_X11_costBy_9 N n) x0 x1 x2 x3 x4 x5 x6 σ)
    else
    (g_X11_costBy_29 N (g_X11_costBy_9 N n) x0 x1 x2 x3 x4 x6 x6 σ))
set_option maxHeartbeats 4000000 in
theorem l_X11_costBy_9 {N : Mem} {B : Nat} (hN : HN N B) : ∀ (n : Nat) (x0 : Nat) (x1 : Int32) (x2 : Int32) (x3 : Int32) (x4 : Int32) (x5 : Int32) (x6 : Int32) (σ : ST), isC 11 x0 → f_X11_costBy_9 n (B + x0) x1 x2 x3 x4 x5 x6 (put N B σ) = (g_X11_costBy_9 N n x0 x1 x2 x3 x4 x5 x6 σ).bind (fun q => some (q.1, put N B q.2)) := by
  intro n
  induction n with
  | zero =>
    intro x0 x1 x2 x3 x4 x5 x6 σ hx0
    rfl
  | succ n ih =>
    intro x0 x1 x2 x3 x4 x5 x6 σ hx0
    unfold f_X11_costBy_9 g_X11_costBy_9
    refine li (fun _ => ?_) (fun _ => ?_)
    · exact l_X11_costBy_91 hN  _ _ _ _ _ _ hx0
    · refine lb (rfl) (fun v7 => ?_)
      refine li (fun _ => ?_) (fun _ => ?_)
      · exact l_X11_costBy_29 hN ih _ _ _ _ _ _ _ _ hx0
      · exact l_X11_costBy_29 hN ih _ _ _ _ _ _ _ _ hx0
noncomputable def g_X11_costBy_0 (N : Mem) (x0 : Nat) (x1 : Int32) (x2 : Int32) (x3 : Int32) (σ : ST) : Option (Int32 × ST) :=
  g_X11_costBy_9 N fu x0 x1 x2 x3 0 0 0 σ
set_option maxHeartbeats 4000000 in
theorem l_X11_costBy_0 {N : Mem} {B : Nat} (hN : HN N B) : ∀ (x0 : Nat) (x1 : Int32) (x2 : Int32) (x3 : Int32) (σ : ST), isC 11 x0 → f_X11_costBy_0 (B + x0) x1 x2 x3 (put N B σ) = (g_X11_costBy_0 N x0 x1 x2 x3 σ).bind (fun q => some (q.1, put N B q.2)) := by
  intro x0 x1 x2 x3 σ hx0
  unfold f_X11_costBy_0 g_X11_costBy_0
  exact l_X11_costBy_9 hN  _ _ _ _ _ _ _ _ _ hx0
noncomputable def g_X11_costBy (N : Mem) (x0 : Nat) (x1 : Int32) (x2 : Int32) (x3 : Int32) (σ : ST) : Option (Int32 × ST) := g_X11_costBy_0 N x0 x1 x2 x3 σ
theorem l_X11_costBy {N : Mem} {B : Nat} (hN : HN N B) {x0 : Nat} {x1 : Int32} {x2 : Int32} {x3 : Int32} {σ : ST} (hx0 : isC 11 x0) : f_X11_costBy (B + x0) x1 x2 x3 (put N B σ) = (g_X11_costBy N x0 x1 x2 x3 σ).bind (fun q => some (q.1, put N B q.2)) := by
  unfold f_X11_costBy g_X11_costBy
  rw [if_pos (isOb_put hx0)]
  exact l_X11_costBy_0 hN _ _ _ _ _ hx0
noncomputable def g_X11_isMore_2 (N : Mem) (n0 : Nat) (x0 : Nat) (x1 : Int32) (σ : ST) : Option (Bool) :=
  match n0 with
  | 0 => none
  | n + 1 =>
    if 8 ≤ x1 then
    (some false)
    else
    ((xI 8 σ (x0 + 19) x1).bind fun v1 =>
    (xI 8 σ (x0 + 20) x1).bind fun v2 =>
    if v1 = v2 then
    (g_X11_isMore_2 N n x0 (x1 + 1) σ)
    else
    ((xI 8 σ (x0 + 19) x1).bind fun v3 =>
    (xI 8 σ (x0 + 20) x1).bind fun v4 =>
    if v3 ≤ v4 then
    (some false)
    else
    (some true)))
set_option maxHeartbeats 4000000 in
theorem l_X11_isMore_2 {N : Mem} {B : Nat} (hN : HN N B) : ∀ (n : Nat) (x0 : Nat) (x1 : Int32) (σ : ST), isC 11 x0 → f_X11_isMore_2 n (B + x0) x1 (put N B σ) = (g_X11_isMore_2 N n x0 x1 σ).bind some := by
  intro n
  induction n with
  | zero =>
    intro x0 x1 σ hx0
    rfl
  | succ n ih =>
    intro x0 x1 σ hx0
    unfold f_X11_isMore_2 g_X11_isMore_2
    refine li (fun _ => ?_) (fun _ => ?_)
    · rfl
    · refine lg (gR_11_35 hx0) ?_
      refine lb (rI_put (sh_11_35 hx0)) (fun v1 => ?_)
      refine lg (gR_11_36 hx0) ?_
      refine lb (rI_put (sh_11_36 hx0)) (fun v2 => ?_)
      refine li (fun _ => ?_) (fun _ => ?_)
      · exact ih _ _ _ hx0
      · refine lg (gR_11_35 hx0) ?_
        refine lb (rI_put (sh_11_35 hx0)) (fun v3 => ?_)
        refine lg (gR_11_36 hx0) ?_
        refine lb (rI_put (sh_11_36 hx0)) (fun v4 => ?_)
        refine li (fun _ => ?_) (fun _ => ?_)
        · rfl
        · rfl
noncomputable def g_X11_isMore_0 (N : Mem) (x0 : Nat) (σ : ST) : Option (Bool) :=
  g_X11_isMore_2 N fu x0 0 σ
set_option maxHeartbeats 4000000 in
theorem l_X11_isMore_0 {N : Mem} {B : Nat} (hN : HN N B) : ∀ (x0 : Nat) (σ : ST), isC 11 x0 → f_X11_isMore_0 (B + x0) (put N B σ) = (g_X11_isMore_0 N x0 σ).bind some := by
  intro x0 σ hx0
  unfold f_X11_isMore_0 g_X11_isMore_0
  exact l_X11_isMore_2 hN  _ _ _ _ hx0
noncomputable def g_X11_isMore (N : Mem) (x0 : Nat) (σ : ST) : Option (Bool) := g_X11_isMore_0 N x0 σ
theorem l_X11_isMore {N : Mem} {B : Nat} (hN : HN N B) {x0 : Nat} {σ : ST} (hx0 : isC 11 x0) : f_X11_isMore (B + x0) (put N B σ) = g_X11_isMore N x0 σ := by
  unfold f_X11_isMore g_X11_isMore
  rw [if_pos (isOb_put hx0)]
  exact lsm (l_X11_isMore_0 hN _ _ hx0)
noncomputable def g_X11_stock_90 (N : Mem) (n0 : Nat) (k41 : Nat → Int32 → Int32 → Int32 → Int32 → Int32 → ST → Option (Int32 × ST)) (x0 : Nat) (x1 : Int32) (x2 : Int32) (x3 : Int32) (x4 : Int32) (x5 : Int32) (x7 : Int32) (σ : ST) : Option (Int32 × ST) :=
  match n0 with
  | 0 => none
  | n + 1 =>
    if 8 ≤ x7 then
    (k41 x0 x1 x2 x3 x4 (x5 + 2) σ)
    else
    ((xI 8 σ (x0 + 19) x7).bind fun v1 =>
    (yI 8 σ (x0 + 20) x7 v1).bind fun r2 =>
    g_X11_stock_90 N n k41 x0 x1 x2 x3 x4 x5 (x7 + 1) r2)
set_option maxHeartbeats 4000000 in
theorem l_X11_stock_90 {N : Mem} {B : Nat} (hN : HN N B) {fk41 : Nat → Int32 → Int32 → Int32 → Int32 → Int32 → Mem → Option (Int32 × Mem)} {k41 : Nat → Int32 → Int32 → Int32 → Int32 → Int32 → ST → Option (Int32 × ST)} (hk41 : ∀ (x0 : Nat) (x1 : Int32) (x2 : Int32) (x3 : Int32) (x4 : Int32) (x5 : Int32) (σ : ST), isC 11 x0 → fk41 (B + x0) x1 x2 x3 x4 x5 (put N B σ) = (k41 x0 x1 x2 x3 x4 x5 σ).bind (fun q => some (q.1, put N B q.2))) : ∀ (n : Nat) (x0 : Nat) (x1 : Int32) (x2 : Int32) (x3 : Int32) (x4 : Int32) (x5 : Int32) (x7 : Int32) (σ : ST), isC 11 x0 → f_X11_stock_90 n fk41 (B + x0) x1 x2 x3 x4 x5 x7 (put N B σ) = (g_X11_stock_90 N n k41 x0 x1 x2 x3 x4 x5 x7 σ).bind (fun q => some (q.1, put N B q.2)) := by
  intro n
  induction n with
  | zero =>
    intro x0 x1 x2 x3 x4 x5 x7 σ hx0
    rfl
  | succ n ih =>
    intro x0 x1 x2 x3 x4 x5 x7 σ hx0
    unfold f_X11_stock_90 g_X11_stock_90
    refine li (fun _ => ?_) (fun _ => ?_)
    · exact hk41 _ _ _ _ _ _ _ hx0
    · refine lg (gR_11_36 hx0) ?_
      refine lg (gR_11_35 hx0) ?_
      refine lb (rI_put (sh_11_35 hx0)) (fun v1 => ?_)
      refine lm (wI_put (sh_11_36 hx0)) (fun r2 => ?_)
      exact ih _ _ _ _ _ _ _ _ hx0
noncomputable def g_X11_stock_83 (N : Mem) (k41 : Nat → Int32 → Int32 → Int32 → Int32 → Int32 → ST → Option (Int32 × ST)) (x0 : Nat) (x1 : Int32) (x2 : Int32) (x3 : Int32) (x5 : Int32) (x6 : Int32) (σ : ST) : Option (Int32 × ST) :=
  g_X11_stock_90 N fu k41 x0 x1 x2 x3 x6 x5 0 σ
set_option maxHeartbeats 4000000 in
theorem l_X11_stock_83 {N : Mem} {B : Nat} (hN : HN N B) {fk41 : Nat → Int32 → Int32 → Int32 → Int32 → Int32 → Mem → Option (Int32 × Mem)} {k41 : Nat → Int32 → Int32 → Int32 → Int32 → Int32 → ST → Option (Int32 × ST)} (hk41 : ∀ (x0 : Nat) (x1 : Int32) (x2 : Int32) (x3 : Int32) (x4 : Int32) (x5 : Int32) (σ : ST), isC 11 x0 → fk41 (B + x0) x1 x2 x3 x4 x5 (put N B σ) = (k41 x0 x1 x2 x3 x4 x5 σ).bind (fun q => some (q.1, put N B q.2))) : ∀ (x0 : Nat) (x1 : Int32) (x2 : Int32) (x3 : Int32) (x5 : Int32) (x6 : Int32) (σ : ST), isC 11 x0 → f_X11_stock_83 fk41 (B + x0) x1 x2 x3 x5 x6 (put N B σ) = (g_X11_stock_83 N k41 x0 x1 x2 x3 x5 x6 σ).bind (fun q => some (q.1, put N B q.2)) := by
  intro x0 x1 x2 x3 x5 x6 σ hx0
  unfold f_X11_stock_83 g_X11_stock_83
  exact l_X11_stock_90 hN hk41 _ _ _ _ _ _ _ _ _ hx0
noncomputable def g_X11_stock_41 (N : Mem) (n0 : Nat) (x0 : Nat) (x1 : Int32) (x2 : Int32) (x3 : Int32) (x4 : Int32) (x5 : Int32) (σ : ST) : Option (Int32 × ST) :=
  match n0 with
  | 0 => none
  | n + 1 =>
    if 256 ≤ x5 then
    (if x3 = (-1) then
    (some (x4, σ))
    else
    ((xI 8 σ (x0 + 20) x3).bind fun v3 =>
    some (v3, σ)))
    else
    ((g_X11_costBy N x0 x5 x1 x2 σ).bind fun r4 =>
    if x4 < r4.1 then
    (g_X11_stock_41 N n x0 x1 x2 x3 x4 (x5 + 2) r4.2)
    else
    (if r4.1 = x4 then
    ((g_X11_isMore N x0 r4.2).bind fun v5 =>
    if v5 = true then
    (g_X11_stock_83 N (g_X11_stock_41 N n) x0 x1 x2 x3 x5 r4.1 r4.2)
    else
    (g_X11_stock_41 N n x0 x1 x2 x3 x4 (x5 + 2) r4.2))
    else
    (g_X11_stock_83 N (g_X11_stock_41 N n) x0 x1 x2 x3 x5 r4.1 r4.2)))
set_option maxHeartbeats 4000000 in
theorem l_X11_stock_41 {N : Mem} {B : Nat} (hN : HN N B) : ∀ (n : Nat) (x0 : Nat) (x1 : Int32) (x2 : Int32) (x3 : Int32) (x4 : Int32) (x5 : Int32) (σ : ST), isC 11 x0 → f_X11_stock_41 n (B + x0) x1 x2 x3 x4 x5 (put N B σ) = (g_X11_stock_41 N n x0 x1 x2 x3 x4 x5 σ).bind (fun q => some (q.1, put N B q.2)) := by
  intro n
  induction n with
  | zero =>
    intro x0 x1 x2 x3 x4 x5 σ hx0
    rfl
  | succ n ih =>
    intro x0 x1 x2 x3 x4 x5 σ hx0
    unfold f_X11_stock_41 g_X11_stock_41
    refine li (fun _ => ?_) (fun _ => ?_)
    · refine li (fun _ => ?_) (fun _ => ?_)
      · rfl
      · refine lg (gR_11_36 hx0) ?_
        refine lb (rI_put (sh_11_36 hx0)) (fun v3 => ?_)
        rfl
    · refine lc (l_X11_costBy hN hx0) (fun r4 => ?_)
      dsimp only
      refine li (fun _ => ?_) (fun _ => ?_)
      · exact ih _ _ _ _ _ _ _ hx0
      · refine li (fun _ => ?_) (fun _ => ?_)
        · refine lb (l_X11_isMore hN hx0) (fun v5 => ?_)
          refine li (fun _ => ?_) (fun _ => ?_)
          · exact l_X11_stock_83 hN ih _ _ _ _ _ _ _ hx0
          · exact ih _ _ _ _ _ _ _ hx0
        · exact l_X11_stock_83 hN ih _ _ _ _ _ _ _ hx0
noncomputable def g_X11_stock_0 (N : Mem) (x0 : Nat) (x1 : Int32) (x2 : Int32) (x3 : Int32) (σ : ST) : Option (Int32 × ST) :=
  (f_X11_isIn x1 0 999).bind fun v6 =>
  if v6 = false then
  (some ((-1), σ))
  else
  ((f_X11_isIn x2 0 99).bind fun v7 =>
  if v7 = false then
  (some ((-1), σ))
  else
  ((f_X11_isIn x3 (-1) 7).bind fun v8 =>
  if v8 = true then
  (g_X11_stock_41 N fu x0 x1 x2 x3 1000000000 1 σ)
  else
  (some ((-1), σ))))
set_option maxHeartbeats 4000000 in
theorem l_X11_stock_0 {N : Mem} {B : Nat} (hN : HN N B) : ∀ (x0 : Nat) (x1 : Int32) (x2 : Int32) (x3 : Int32) (σ : ST), isC 11 x0 → f_X11_stock_0 (B + x0) x1 x2 x3 (put N B σ) = (g_X11_stock_0 N x0 x1 x2 x3 σ).bind (fun q => some (q.1, put N B q.2)) := by
  intro x0 x1 x2 x3 σ hx0
  unfold f_X11_stock_0 g_X11_stock_0
  refine lb (rfl) (fun v6 => ?_)
  refine li (fun _ => ?_) (fun _ => ?_)
  · rfl
  · refine lb (rfl) (fun v7 => ?_)
    refine li (fun _ => ?_) (fun _ => ?_)
    · rfl
    · refine lb (rfl) (fun v8 => ?_)
      refine li (fun _ => ?_) (fun _ => ?_)
      · exact l_X11_stock_41 hN  _ _ _ _ _ _ _ _ hx0
      · rfl
noncomputable def g_X11_stock (N : Mem) (x0 : Nat) (x1 : Int32) (x2 : Int32) (x3 : Int32) (σ : ST) : Option (Int32 × ST) := g_X11_stock_0 N x0 x1 x2 x3 σ
theorem l_X11_stock {N : Mem} {B : Nat} (hN : HN N B) {x0 : Nat} {x1 : Int32} {x2 : Int32} {x3 : Int32} {σ : ST} (hx0 : isC 11 x0) : f_X11_stock (B + x0) x1 x2 x3 (put N B σ) = (g_X11_stock N x0 x1 x2 x3 σ).bind (fun q => some (q.1, put N B q.2)) := by
  unfold f_X11_stock g_X11_stock
  rw [if_pos (isOb_put hx0)]
  exact l_X11_stock_0 hN _ _ _ _ _ hx0
noncomputable def g_X11_looser_0 (N : Mem) (x0 : Nat) (x1 : Int32) (x2 : Int32) (σ : ST) : Option (Int32 × ST) :=
  if x1 = (-1) then
  ((yI 4607 σ (x0 + 1) 7 0).bind fun r11 =>
  some (0, r11))
  else
  ((g_X11_isMachine N x0 x1 σ).bind fun v1 =>
  if v1 = false then
  (some ((-2), σ))
  else
  ((f_X11_isIn x2 0 10).bind fun v2 =>
  if v2 = false then
  (some ((-2), σ))
  else
  ((xI 4607 σ (x0 + 1) 7).bind fun v3 =>
  if v3 = 8 then
  (some ((-2), σ))
  else
  ((xI 4607 σ (x0 + 1) 7).bind fun v4 =>
  (yI 4607 σ (x0 + 1) (211 + (2 * v4)) x1).bind fun r5 =>
  (xI 4607 r5 (x0 + 1) 7).bind fun v6 =>
  (yI 4607 r5 (x0 + 1) ((211 + (2 * v6)) + 1) x2).bind fun r7 =>
  (xI 4607 r7 (x0 + 1) 7).bind fun v8 =>
  (yI 4607 r7 (x0 + 1) 7 (v8 + 1)).bind fun r9 =>
  (xI 4607 r9 (x0 + 1) 7).bind fun v10 =>
  some (v10, r9)))))
set_option maxHeartbeats 4000000 in
theorem l_X11_looser_0 {N : Mem} {B : Nat} (hN : HN N B) : ∀ (x0 : Nat) (x1 : Int32) (x2 : Int32) (σ : ST), isC 11 x0 → f_X11_looser_0 (B + x0) x1 x2 (put N B σ) = (g_X11_looser_0 N x0 x1 x2 σ).bind (fun q => some (q.1, put N B q.2)) := by
  intro x0 x1 x2 σ hx0
  unfold f_X11_looser_0 g_X11_looser_0
  refine li (fun _ => ?_) (fun _ => ?_)
  · refine lg (gR_11_0 hx0) ?_
    refine lm (wI_put (sh_11_0 hx0)) (fun r11 => ?_)
    rfl
  · refine lb (l_X11_isMachine hN hx0) (fun v1 => ?_)
    refine li (fun _ => ?_) (fun _ => ?_)
    · rfl
    · refine lb (rfl) (fun v2 => ?_)
      refine li (fun _ => ?_) (fun _ => ?_)
      · rfl
      · refine lg (gR_11_0 hx0) ?_
        refine lb (rI_put (sh_11_0 hx0)) (fun v3 => ?_)
        refine li (fun _ => ?_) (fun _ => ?_)
        · rfl
        · refine lg (gR_11_0 hx0) ?_
          refine lg (gR_11_0 hx0) ?_
          refine lb (rI_put (sh_11_0 hx0)) (fun v4 => ?_)
          refine lm (wI_put (sh_11_0 hx0)) (fun r5 => ?_)
          refine lg (gR_11_0 hx0) ?_
          refine lg (gR_11_0 hx0) ?_
          refine lb (rI_put (sh_11_0 hx0)) (fun v6 => ?_)
          refine lm (wI_put (sh_11_0 hx0)) (fun r7 => ?_)
          refine lg (gR_11_0 hx0) ?_
          refine lb (rI_put (sh_11_0 hx0)) (fun v8 => ?_)
          refine lm (wI_put (sh_11_0 hx0)) (fun r9 => ?_)
          refine lg (gR_11_0 hx0) ?_
          refine lb (rI_put (sh_11_0 hx0)) (fun v10 => ?_)
          rfl
noncomputable def g_X11_looser (N : Mem) (x0 : Nat) (x1 : Int32) (x2 : Int32) (σ : ST) : Option (Int32 × ST) := g_X11_looser_0 N x0 x1 x2 σ
theorem l_X11_looser {N : Mem} {B : Nat} (hN : HN N B) {x0 : Nat} {x1 : Int32} {x2 : Int32} {σ : ST} (hx0 : isC 11 x0) : f_X11_looser (B + x0) x1 x2 (put N B σ) = (g_X11_looser N x0 x1 x2 σ).bind (fun q => some (q.1, put N B q.2)) := by
  unfold f_X11_looser g_X11_looser
  rw [if_pos (isOb_put hx0)]
  exact l_X11_looser_0 hN _ _ _ _ hx0
noncomputable def g_X11_whose_95 (N : Mem) (k4 : Nat → Int32 → Int32 → ST → Option (Int32 × ST)) (x0 : Nat) (x2 : Int32) (s0 : Int32) (s1 : Int32) (σ : ST) : Option (Int32 × ST) :=
  k4 x0 (s1 ||| s0) (x2 + 1) σ
set_option maxHeartbeats 4000000 in
theorem l_X11_whose_95 {N : Mem} {B : Nat} (hN : HN N B) {fk4 : Nat → Int32 → Int32 → Mem → Option (Int32 × Mem)} {k4 : Nat → Int32 → Int32 → ST → Option (Int32 × ST)} (hk4 : ∀ (x0 : Nat) (x1 : Int32) (x2 : Int32) (σ : ST), isC 11 x0 → fk4 (B + x0) x1 x2 (put N B σ) = (k4 x0 x1 x2 σ).bind (fun q => some (q.1, put N B q.2))) : ∀ (x0 : Nat) (x2 : Int32) (s0 : Int32) (s1 : Int32) (σ : ST), isC 11 x0 → f_X11_whose_95 fk4 (B + x0) x2 s0 s1 (put N B σ) = (g_X11_whose_95 N k4 x0 x2 s0 s1 σ).bind (fun q => some (q.1, put N B q.2)) := by
  intro x0 x2 s0 s1 σ hx0
  unfold f_X11_whose_95 g_X11_whose_95
  exact hk4 _ _ _ _ hx0
noncomputable def g_X11_whose_19 (N : Mem) (n0 : Nat) (k4 : Nat → Int32 → Int32 → ST → Option (Int32 × ST)) (x0 : Nat) (x1 : Int32) (x2 : Int32) (x3 : Bool) (x4 : Int32) (σ : ST) : Option (Int32 × ST) :=
  match n0 with
  | 0 => none
  | n + 1 =>
    (xI 4607 σ (x0 + 1) 7).bind fun v1 =>
    if v1 ≤ x4 then
    (if x3 = false then
    (g_X11_whose_95 N k4 x0 x2 0 x1 σ)
    else
    (g_X11_whose_95 N k4 x0 x2 (jshl 1 x2) x1 σ))
    else
    (if x3 = false then
    (g_X11_whose_19 N n k4 x0 x1 x2 false (x4 + 1) σ)
    else
    ((xI 4607 σ (x0 + 1) (211 + (2 * x4))).bind fun v2 =>
    (g_X11_looseOf N x0 x2 v2 σ).bind fun r3 =>
    (xI 4607 r3.2 (x0 + 1) ((211 + (2 * x4)) + 1)).bind fun v4 =>
    if r3.1 = v4 then
    (g_X11_whose_19 N n k4 x0 x1 x2 true (x4 + 1) r3.2)
    else
    (g_X11_whose_19 N n k4 x0 x1 x2 false (x4 + 1) r3.2)))
set_option maxHeartbeats 4000000 in
theorem l_X11_whose_19 {N : Mem} {B : Nat} (hN : HN N B) {fk4 : Nat → Int32 → Int32 → Mem → Option (Int32 × Mem)} {k4 : Nat → Int32 → Int32 → ST → Option (Int32 × ST)} (hk4 : ∀ (x0 : Nat) (x1 : Int32) (x2 : Int32) (σ : ST), isC 11 x0 → fk4 (B + x0) x1 x2 (put N B σ) = (k4 x0 x1 x2 σ).bind (fun q => some (q.1, put N B q.2))) : ∀ (n : Nat) (x0 : Nat) (x1 : Int32) (x2 : Int32) (x3 : Bool) (x4 : Int32) (σ : ST), isC 11 x0 → f_X11_whose_19 n fk4 (B + x0) x1 x2 x3 x4 (put N B σ) = (g_X11_whose_19 N n k4 x0 x1 x2 x3 x4 σ).bind (fun q => some (q.1, put N B q.2)) := by
  intro n
  induction n with
  | zero =>
    intro x0 x1 x2 x3 x4 σ hx0
    rfl
  | succ n ih =>
    intro x0 x1 x2 x3 x4 σ hx0
    unfold f_X11_whose_19 g_X11_whose_19
    refine lg (gR_11_0 hx0) ?_
    refine lb (rI_put (sh_11_0 hx0)) (fun v1 => ?_)
    refine li (fun _ => ?_) (fun _ => ?_)
    · refine li (fun _ => ?_) (fun _ => ?_)
      · exact l_X11_whose_95 hN hk4 _ _ _ _ _ hx0
      · exact l_X11_whose_95 hN hk4 _ _ _ _ _ hx0
    · refine li (fun _ => ?_) (fun _ => ?_)
      · exact ih _ _ _ _ _ _ hx0
      · refine lg (gR_11_0 hx0) ?_
        refine lb (rI_put (sh_11_0 hx0)) (fun v2 => ?_)
        refine lc (l_X11_looseOf hN hx0) (fun r3 => ?_)
        dsimp only
        refine lg (gR_11_0 hx0) ?_
        refine lb (rI_put (sh_11_0 hx0)) (fun v4 => ?_)
        refine li (fun _ => ?_) (fun _ => ?_)
        · exact ih _ _ _ _ _ _ hx0
        · exact ih _ _ _ _ _ _ hx0
noncomputable def g_X11_whose_4 (N : Mem) (n0 : Nat) (x0 : Nat) (x1 : Int32) (x2 : Int32) (σ : ST) : Option (Int32 × ST) :=
  match n0 with
  | 0 => none
  | n + 1 =>
    (xI 4607 σ (x0 + 1) 1).bind fun v5 =>
    if v5 ≤ x2 then
    (some (x1, σ))
    else
    (g_X11_whose_19 N fu (g_X11_whose_4 N n) x0 x1 x2 true 0 σ)
set_option maxHeartbeats 4000000 in
theorem l_X11_whose_4 {N : Mem} {B : Nat} (hN : HN N B) : ∀ (n : Nat) (x0 : Nat) (x1 : Int32) (x2 : Int32) (σ : ST), isC 11 x0 → f_X11_whose_4 n (B + x0) x1 x2 (put N B σ) = (g_X11_whose_4 N n x0 x1 x2 σ).bind (fun q => some (q.1, put N B q.2)) := by
  intro n
  induction n with
  | zero =>
    intro x0 x1 x2 σ hx0
    rfl
  | succ n ih =>
    intro x0 x1 x2 σ hx0
    unfold f_X11_whose_4 g_X11_whose_4
    refine lg (gR_11_0 hx0) ?_
    refine lb (rI_put (sh_11_0 hx0)) (fun v5 => ?_)
    refine li (fun _ => ?_) (fun _ => ?_)
    · rfl
    · exact l_X11_whose_19 hN ih _ _ _ _ _ _ _ hx0
noncomputable def g_X11_whose_0 (N : Mem) (x0 : Nat) (σ : ST) : Option (Int32 × ST) :=
  g_X11_whose_4 N fu x0 0 0 σ
set_option maxHeartbeats 4000000 in
theorem l_X11_whose_0 {N : Mem} {B : Nat} (hN : HN N B) : ∀ (x0 : Nat) (σ : ST), isC 11 x0 → f_X11_whose_0 (B + x0) (put N B σ) = (g_X11_whose_0 N x0 σ).bind (fun q => some (q.1, put N B q.2)) := by
  intro x0 σ hx0
  unfold f_X11_whose_0 g_X11_whose_0
  exact l_X11_whose_4 hN  _ _ _ _ _ hx0
noncomputable def g_X11_whose (N : Mem) (x0 : Nat) (σ : ST) : Option (Int32 × ST) := g_X11_whose_0 N x0 σ
theorem l_X11_whose {N : Mem} {B : Nat} (hN : HN N B) {x0 : Nat} {σ : ST} (hx0 : isC 11 x0) : f_X11_whose (B + x0) (put N B σ) = (g_X11_whose N x0 σ).bind (fun q => some (q.1, put N B q.2)) := by
  unfold f_X11_whose g_X11_whose
  rw [if_pos (isOb_put hx0)]
  exact l_X11_whose_0 hN _ _ hx0
noncomputable def g_X11_image_0 (N : Mem) (x0 : Nat) (σ : ST) : Option (Int32 × ST) :=
  (g_X11_copy N 4607 (x0 + 1) 4607 (x0 + 2) σ).bind fun r1 =>
  (xI 4607 r1 (x0 + 1) 8).bind fun v2 =>
  some (v2, r1)
set_option maxHeartbeats 4000000 in
theorem l_X11_image_0 {N : Mem} {B : Nat} (hN : HN N B) : ∀ (x0 : Nat) (σ : ST), isC 11 x0 → f_X11_image_0 (B + x0) (put N B σ) = (g_X11_image_0 N x0 σ).bind (fun q => some (q.1, put N B q.2)) := by
  intro x0 σ hx0
  unfold f_X11_image_0 g_X11_image_0
  refine lg (gR_11_0 hx0) ?_
  refine lg (gR_11_1 hx0) ?_
  refine lm (l_X11_copy hN (sh_11_0 hx0) (sh_11_1 hx0)) (fun r1 => ?_)
  refine lg (gR_11_0 hx0) ?_
  refine lb (rI_put (sh_11_0 hx0)) (fun v2 => ?_)
  rfl
noncomputable def g_X11_image (N : Mem) (x0 : Nat) (σ : ST) : Option (Int32 × ST) := g_X11_image_0 N x0 σ
theorem l_X11_image {N : Mem} {B : Nat} (hN : HN N B) {x0 : Nat} {σ : ST} (hx0 : isC 11 x0) : f_X11_image (B + x0) (put N B σ) = (g_X11_image N x0 σ).bind (fun q => some (q.1, put N B q.2)) := by
  unfold f_X11_image g_X11_image
  rw [if_pos (isOb_put hx0)]
  exact l_X11_image_0 hN _ _ hx0
noncomputable def g_X11_back_0 (N : Mem) (x0 : Nat) (σ : ST) : Option (Int32 × ST) :=
  (g_X11_copy N 4607 (x0 + 2) 4607 (x0 + 1) σ).bind fun r1 =>
  (xI 4607 r1 (x0 + 1) 8).bind fun v2 =>
  some (v2, r1)
set_option maxHeartbeats 4000000 in
theorem l_X11_back_0 {N : Mem} {B : Nat} (hN : HN N B) : ∀ (x0 : Nat) (σ : ST), isC 11 x0 → f_X11_back_0 (B + x0) (put N B σ) = (g_X11_back_0 N x0 σ).bind (fun q => some (q.1, put N B q.2)) := by
  intro x0 σ hx0
  unfold f_X11_back_0 g_X11_back_0
  refine lg (gR_11_1 hx0) ?_
  refine lg (gR_11_0 hx0) ?_
  refine lm (l_X11_copy hN (sh_11_1 hx0) (sh_11_0 hx0)) (fun r1 => ?_)
  refine lg (gR_11_0 hx0) ?_
  refine lb (rI_put (sh_11_0 hx0)) (fun v2 => ?_)
  rfl
noncomputable def g_X11_back (N : Mem) (x0 : Nat) (σ : ST) : Option (Int32 × ST) := g_X11_back_0 N x0 σ
theorem l_X11_back {N : Mem} {B : Nat} (hN : HN N B) {x0 : Nat} {σ : ST} (hx0 : isC 11 x0) : f_X11_back (B + x0) (put N B σ) = (g_X11_back N x0 σ).bind (fun q => some (q.1, put N B q.2)) := by
  unfold f_X11_back g_X11_back
  rw [if_pos (isOb_put hx0)]
  exact l_X11_back_0 hN _ _ hx0
noncomputable def g_X11_about_0 (N : Mem) (x0 : Nat) (x1 : Int32) (σ : ST) : Option (Int32) :=
  (f_X11_isIn x1 0 7).bind fun v1 =>
  if v1 = false then
  (if x1 = 8 then
  (some (σ.1 x0 4))
  else
  (some (-2)))
  else
  ((xI 4607 σ (x0 + 1) x1).bind fun v2 =>
  some v2)
set_option maxHeartbeats 4000000 in
theorem l_X11_about_0 {N : Mem} {B : Nat} (hN : HN N B) : ∀ (x0 : Nat) (x1 : Int32) (σ : ST), isC 11 x0 → f_X11_about_0 (B + x0) x1 (put N B σ) = (g_X11_about_0 N x0 x1 σ).bind some := by
  intro x0 x1 σ hx0
  unfold f_X11_about_0 g_X11_about_0
  refine lb (rfl) (fun v1 => ?_)
  refine li (fun _ => ?_) (fun _ => ?_)
  · refine li (fun _ => ?_) (fun _ => ?_)
    · refine lg (gI_11_4 hx0) ?_
      rfl
    · rfl
  · refine lg (gR_11_0 hx0) ?_
    refine lb (rI_put (sh_11_0 hx0)) (fun v2 => ?_)
    rfl
noncomputable def g_X11_about (N : Mem) (x0 : Nat) (x1 : Int32) (σ : ST) : Option (Int32) := g_X11_about_0 N x0 x1 σ
theorem l_X11_about {N : Mem} {B : Nat} (hN : HN N B) {x0 : Nat} {x1 : Int32} {σ : ST} (hx0 : isC 11 x0) : f_X11_about (B + x0) x1 (put N B σ) = g_X11_about N x0 x1 σ := by
  unfold f_X11_about g_X11_about
  rw [if_pos (isOb_put hx0)]
  exact lsm (l_X11_about_0 hN _ _ _ hx0)
