noncomputable def f_X0_init_0 (x0 : Nat) (M : Mem) : Option (Mem) :=
  (nwI M 300).bind fun q1 =>
  (pF q1 0 x0 0 (.ref M.1)).bind fun q2 =>
  some q2
set_option maxHeartbeats 4000000 in
theorem t_X0_init_0 {X : XV} {d : Nat} (hd : 1 ≤ d + 1) : ∀ (x0 : Nat) (M : Mem) (res : Mem), f_X0_init_0  x0 M = some res → Ex X (d + 1) mX0_init 0 [(0, .ref x0)] [] M none res := by
  intro x0 M res  h
  unfold f_X0_init_0 at h
  refine ex_aload_n (pc := 0) 0 dX0_init_0 rfl rfl ?_
  refine ex_obj (pc := 1) dX0_init_1 lmX0_3 (by omega) (Nat.le_of_ble_eq_true rfl) ?_
  refine ex_aload_n (pc := 4) 0 dX0_init_4 rfl rfl ?_
  refine ex_sipush (pc := 5) 300 dX0_init_5 (by decide) ?_
  obtain ⟨q1, eq1, h⟩ := ob_some h
  refine ex_nwI (pc := 8) eq1 dX0_init_8 ?_
  obtain ⟨q2, eq2, h⟩ := ob_some h
  refine ex_pFF (pc := 10) eq2 dX0_init_10 lfX0_9 rfl rfl (fun _ hq => by cases hq; exact ⟨rfl, rfl⟩) rfl ?_
  cases h
  exact ex_return (pc := 13) dX0_init_13
noncomputable def f_X0_init (x0 : Nat) (M : Mem) : Option (Mem) := f_X0_init_0 x0 M
set_option maxHeartbeats 4000000 in
theorem s_X0_init {X : XV} {d : Nat} (hd : 1 ≤ d) {x0 : Nat} {M : Mem} {res : Mem} (h : f_X0_init x0 M = some res) : Mx X d mX0_init [.ref x0] M none res := by
  obtain ⟨d, rfl⟩ : ∃ e, d = e + 1 := ⟨d - 1, by omega⟩
  unfold f_X0_init at h
  refine Mx.of (by decide) (Nat.le_of_ble_eq_true rfl) (rfl) ?_
  exact ex_sub (lo' := [(0, .ref x0)]) [0] rfl (t_X0_init_0 hd _ _ _  h)
noncomputable def f_X8_hasLaw_0 (x0 : Nat) (x1 : Int32) (M : Mem) : Option (Bool) :=
  if x1 < 0 then
  (some false)
  else
  ((gR M 8 x0 2).bind fun v2 =>
  (lnA M v2).bind fun v3 =>
  if v3 ≤ x1 then
  (some false)
  else
  ((gR M 8 x0 2).bind fun v5 =>
  (rI M v5 x1).bind fun v6 =>
  if v6 < 0 then
  (some false)
  else
  (some true)))
set_option maxHeartbeats 4000000 in
theorem t_X8_hasLaw_0 {X : XV} {d : Nat} (hd : 1 ≤ d + 1) : ∀ (x0 : Nat) (x1 : Int32) (M : Mem) (res : Bool), f_X8_hasLaw_0  x0 x1 M = some res → Ex X (d + 1) mX8_hasLaw 0 [(0, .ref x0), (1, .int x1)] [] M (some (.int (jz res))) M := by
  intro x0 x1 M res  h
  unfold f_X8_hasLaw_0 at h
  refine ex_iload_n (pc := 0) 1 dX8_hasLaw_0 rfl rfl ?_
  by_cases c1 : x1 < 0
  · rw [if_pos c1] at h
    refine ex_if_lt_t (pc := 1) 26 dX8_hasLaw_1 rfl c1 ?_
    refine ex_iconst (pc := 26) 0 dX8_hasLaw_26 rfl ?_
    cases h
    exact ex_ireturn (pc := 27) dX8_hasLaw_27
  · rw [if_neg c1] at h
    refine ex_if_lt_f (pc := 1) dX8_hasLaw_1 26 rfl c1 ?_
    refine ex_iload_n (pc := 4) 1 dX8_hasLaw_4 rfl rfl ?_
    refine ex_aload_n (pc := 5) 0 dX8_hasLaw_5 rfl rfl ?_
    obtain ⟨v2, ev2, h⟩ := ob_some h
    refine ex_gR (pc := 6) ev2 dX8_hasLaw_6 lfX8_18 ?_
    obtain ⟨v3, ev3, h⟩ := ob_some h
    refine ex_ln (pc := 9) ev3 dX8_hasLaw_9 ?_
    by_cases c4 : v3 ≤ x1
    · rw [if_pos c4] at h
      refine ex_icmp_ge_t (pc := 10) 26 dX8_hasLaw_10 rfl c4 ?_
      refine ex_iconst (pc := 26) 0 dX8_hasLaw_26 rfl ?_
      cases h
      exact ex_ireturn (pc := 27) dX8_hasLaw_27
    · rw [if_neg c4] at h
      refine ex_icmp_ge_f (pc := 10) dX8_hasLaw_10 26 rfl c4 ?_
      refine ex_aload_n (pc := 13) 0 dX8_hasLaw_13 rfl rfl ?_
      obtain ⟨v5, ev5, h⟩ := ob_some h
      refine ex_gR (pc := 14) ev5 dX8_hasLaw_14 lfX8_18 ?_
      refine ex_iload_n (pc := 17) 1 dX8_hasLaw_17 rfl rfl ?_
      obtain ⟨v6, ev6, h⟩ := ob_some h
      refine ex_rI (pc := 18) ev6 dX8_hasLaw_18 ?_
      by_cases c7 : v6 < 0
      · rw [if_pos c7] at h
        refine ex_if_lt_t (pc := 19) 26 dX8_hasLaw_19 rfl c7 ?_
        refine ex_iconst (pc := 26) 0 dX8_hasLaw_26 rfl ?_
        cases h
        exact ex_ireturn (pc := 27) dX8_hasLaw_27
      · rw [if_neg c7] at h
        refine ex_if_lt_f (pc := 19) dX8_hasLaw_19 26 rfl c7 ?_
        refine ex_iconst (pc := 22) 1 dX8_hasLaw_22 rfl ?_
        refine ex_goto (pc := 23) 27 dX8_hasLaw_23 rfl ?_
        cases h
        exact ex_ireturn (pc := 27) dX8_hasLaw_27
noncomputable def f_X8_hasLaw (x0 : Nat) (x1 : Int32) (M : Mem) : Option (Bool) := if isOb M 8 x0 = true then f_X8_hasLaw_0 x0 x1 M else none
theorem o_X8_hasLaw {x0 : Nat} {x1 : Int32} {M : Mem} {res : Bool} (h : f_X8_hasLaw x0 x1 M = some res) : isO M 8 x0 := by
  unfold f_X8_hasLaw at h
  split at h
  · rename_i hc; exact isOb_iff hc
  · cases h
set_option maxHeartbeats 4000000 in
theorem s_X8_hasLaw {X : XV} {d : Nat} (hd : 1 ≤ d) {x0 : Nat} {x1 : Int32} {M : Mem} {res : Bool} (h : f_X8_hasLaw x0 x1 M = some res) : Mx X d mX8_hasLaw [.ref x0, .int x1] M (some (.int (jz res))) M := by
  obtain ⟨d, rfl⟩ : ∃ e, d = e + 1 := ⟨d - 1, by omega⟩
  unfold f_X8_hasLaw at h
  split at h
  rotate_left
  · cases h
  refine Mx.of (by decide) (Nat.le_of_ble_eq_true rfl) (⟨_, rfl, jz_nar _⟩) ?_
  exact ex_sub (lo' := [(0, .ref x0), (1, .int x1)]) [0, 1] rfl (t_X8_hasLaw_0 hd _ _ _ _  h)
noncomputable def f_X10_within_0 (x0 : Int32) (x1 : Int32) (x2 : Int32) : Option (Bool) :=
  if x0 < x1 then
  (some false)
  else
  (if x2 < x0 then
  (some false)
  else
  (some true))
set_option maxHeartbeats 4000000 in
theorem t_X10_within_0 {X : XV} {d : Nat} {M : Mem} (hd : 1 ≤ d + 1) : ∀ (x0 : Int32) (x1 : Int32) (x2 : Int32) (res : Bool), f_X10_within_0  x0 x1 x2 = some res → Ex X (d + 1) mX10_within 0 [(0, .int x0), (1, .int x1), (2, .int x2)] [] M (some (.int (jz res))) M := by
  intro x0 x1 x2 res  h
  unfold f_X10_within_0 at h
  refine ex_iload_n (pc := 0) 0 dX10_within_0 rfl rfl ?_
  refine ex_iload_n (pc := 1) 1 dX10_within_1 rfl rfl ?_
  by_cases c1 : x0 < x1
  · rw [if_pos c1] at h
    refine ex_icmp_lt_t (pc := 2) 14 dX10_within_2 rfl c1 ?_
    refine ex_iconst (pc := 14) 0 dX10_within_14 rfl ?_
    cases h
    exact ex_ireturn (pc := 15) dX10_within_15
  · rw [if_neg c1] at h
    refine ex_icmp_lt_f (pc := 2) dX10_within_2 14 rfl c1 ?_
    refine ex_iload_n (pc := 5) 0 dX10_within_5 rfl rfl ?_
    refine ex_iload_n (pc := 6) 2 dX10_within_6 rfl rfl ?_
    by_cases c2 : x2 < x0
    · rw [if_pos c2] at h
      refine ex_icmp_gt_t (pc := 7) 14 dX10_within_7 rfl c2 ?_
      refine ex_iconst (pc := 14) 0 dX10_within_14 rfl ?_
      cases h
      exact ex_ireturn (pc := 15) dX10_within_15
    · rw [if_neg c2] at h
      refine ex_icmp_gt_f (pc := 7) dX10_within_7 14 rfl c2 ?_
      refine ex_iconst (pc := 10) 1 dX10_within_10 rfl ?_
      refine ex_goto (pc := 11) 15 dX10_within_11 rfl ?_
      cases h
      exact ex_ireturn (pc := 15) dX10_within_15
noncomputable def f_X10_within (x0 : Int32) (x1 : Int32) (x2 : Int32) : Option (Bool) := f_X10_within_0 x0 x1 x2
set_option maxHeartbeats 4000000 in
theorem s_X10_within {X : XV} {d : Nat} (hd : 1 ≤ d) {x0 : Int32} {x1 : Int32} {x2 : Int32} {M : Mem} {res : Bool} (h : f_X10_within x0 x1 x2 = some res) : Mx X d mX10_within [.int x0, .int x1, .int x2] M (some (.int (jz res))) M := by
  obtain ⟨d, rfl⟩ : ∃ e, d = e + 1 := ⟨d - 1, by omega⟩
  unfold f_X10_within at h
  refine Mx.of (by decide) (Nat.le_of_ble_eq_true rfl) (⟨_, rfl, jz_nar _⟩) ?_
  exact ex_sub (lo' := [(0, .int x0), (1, .int x1), (2, .int x2)]) [0, 1, 2] rfl (t_X10_within_0 hd _ _ _ _  h)
noncomputable def f_X0_pop_0 (x0 : Nat) (M : Mem) : Option (Int32 × Mem) :=
  (gI M 0 x0 1).bind fun v1 =>
  (gR M 0 x0 0).bind fun v2 =>
  (lnA M v2).bind fun v3 =>
  (f_X10_within v1 1 v3).bind fun v4 =>
  if v4 = true then
  ((gI M 0 x0 1).bind fun v6 =>
  (pF M 0 x0 1 (.int (v6 - 1))).bind fun q7 =>
  (gR q7 0 x0 0).bind fun v8 =>
  (gI q7 0 x0 1).bind fun v9 =>
  (rI q7 v8 v9).bind fun v10 =>
  some (v10, q7))
  else
  (some (0, M))
set_option maxHeartbeats 4000000 in
theorem t_X0_pop_0 {X : XV} {d : Nat} (hd : 2 ≤ d + 1) : ∀ (x0 : Nat) (M : Mem) (res : Int32 × Mem), f_X0_pop_0  x0 M = some res → Ex X (d + 1) mX0_pop 0 [(0, .ref x0)] [] M (some (.int res.1)) res.2 := by
  intro x0 M res  h
  unfold f_X0_pop_0 at h
  refine ex_aload_n (pc := 0) 0 dX0_pop_0 rfl rfl ?_
  obtain ⟨v1, ev1, h⟩ := ob_some h
  refine ex_gI (pc := 1) ev1 dX0_pop_1 lfX0_99 ?_
  refine ex_iconst (pc := 4) 1 dX0_pop_4 rfl ?_
  refine ex_aload_n (pc := 5) 0 dX0_pop_5 rfl rfl ?_
  obtain ⟨v2, ev2, h⟩ := ob_some h
  refine ex_gR (pc := 6) ev2 dX0_pop_6 lfX0_9 ?_
  obtain ⟨v3, ev3, h⟩ := ob_some h
  refine ex_ln (pc := 9) ev3 dX0_pop_9 ?_
  obtain ⟨v4, ev4, h⟩ := ob_some h
  refine ex_callSN3r (pc := 10) dX0_pop_10 jX10_within lnX0_91 jsX10_within (Nat.le_of_ble_eq_true rfl) (s_X10_within (by omega)  ev4) ?_
  by_cases c5 : v4 = true
  · rw [if_pos c5] at h
    refine ex_if_ne_t (pc := 13) 18 dX0_pop_13 rfl (jz_ne_t c5) ?_
    refine ex_aload_n (pc := 18) 0 dX0_pop_18 rfl rfl ?_
    refine ex_dup (pc := 19) dX0_pop_19 rfl ?_
    obtain ⟨v6, ev6, h⟩ := ob_some h
    refine ex_gI (pc := 20) ev6 dX0_pop_20 lfX0_99 ?_
    refine ex_iconst (pc := 23) 1 dX0_pop_23 rfl ?_
    refine ex_isub (pc := 24) dX0_pop_24 ?_
    obtain ⟨q7, eq7, h⟩ := ob_some h
    refine ex_pF (pc := 25) eq7 dX0_pop_25 lfX0_99 rfl rfl (fun _ hq => by cases hq; rfl) ?_
    refine ex_aload_n (pc := 28) 0 dX0_pop_28 rfl rfl ?_
    obtain ⟨v8, ev8, h⟩ := ob_some h
    refine ex_gR (pc := 29) ev8 dX0_pop_29 lfX0_9 ?_
    refine ex_aload_n (pc := 32) 0 dX0_pop_32 rfl rfl ?_
    obtain ⟨v9, ev9, h⟩ := ob_some h
    refine ex_gI (pc := 33) ev9 dX0_pop_33 lfX0_99 ?_
    obtain ⟨v10, ev10, h⟩ := ob_some h
    refine ex_rI (pc := 36) ev10 dX0_pop_36 ?_
    cases h
    exact ex_ireturn (pc := 37) dX0_pop_37
  · rw [if_neg c5] at h
    refine ex_if_ne_f (pc := 13) dX0_pop_13 18 rfl (jz_ne_f c5) ?_
    refine ex_iconst (pc := 16) 0 dX0_pop_16 rfl ?_
    cases h
    exact ex_ireturn (pc := 17) dX0_pop_17
noncomputable def f_X0_pop (x0 : Nat) (M : Mem) : Option (Int32 × Mem) := if isOb M 0 x0 = true then f_X0_pop_0 x0 M else none
theorem o_X0_pop {x0 : Nat} {M : Mem} {res : Int32 × Mem} (h : f_X0_pop x0 M = some res) : isO M 0 x0 := by
  unfold f_X0_pop at h
  split at h
  · rename_i hc; exact isOb_iff hc
  · cases h
set_option maxHeartbeats 4000000 in
theorem s_X0_pop {X : XV} {d : Nat} (hd : 2 ≤ d) {x0 : Nat} {M : Mem} {res : Int32 × Mem} (h : f_X0_pop x0 M = some res) : Mx X d mX0_pop [.ref x0] M (some (.int res.1)) res.2 := by
  obtain ⟨d, rfl⟩ : ∃ e, d = e + 1 := ⟨d - 1, by omega⟩
  unfold f_X0_pop at h
  split at h
  rotate_left
  · cases h
  refine Mx.of (by decide) (Nat.le_of_ble_eq_true rfl) (⟨_, rfl, rfl⟩) ?_
  exact ex_sub (lo' := [(0, .ref x0)]) [0] rfl (t_X0_pop_0 hd _ _ _  h)
noncomputable def f_X0_push_0 (x0 : Nat) (x1 : Int32) (M : Mem) : Option (Mem) :=
  (gI M 0 x0 1).bind fun v1 =>
  (gR M 0 x0 0).bind fun v2 =>
  (lnA M v2).bind fun v3 =>
  (f_X10_within v1 0 (v3 - 1)).bind fun v4 =>
  if v4 = false then
  (some M)
  else
  ((gR M 0 x0 0).bind fun v6 =>
  (gI M 0 x0 1).bind fun v7 =>
  (wI M v6 v7 x1).bind fun q8 =>
  (gI q8 0 x0 1).bind fun v9 =>
  (pF q8 0 x0 1 (.int (v9 + 1))).bind fun q10 =>
  some q10)
set_option maxHeartbeats 4000000 in
theorem t_X0_push_0 {X : XV} {d : Nat} (hd : 2 ≤ d + 1) : ∀ (x0 : Nat) (x1 : Int32) (M : Mem) (res : Mem), f_X0_push_0  x0 x1 M = some res → Ex X (d + 1) mX0_push 0 [(0, .ref x0), (1, .int x1)] [] M none res := by
  intro x0 x1 M res  h
  unfold f_X0_push_0 at h
  refine ex_aload_n (pc := 0) 0 dX0_push_0 rfl rfl ?_
  obtain ⟨v1, ev1, h⟩ := ob_some h
  refine ex_gI (pc := 1) ev1 dX0_push_1 lfX0_99 ?_
  refine ex_iconst (pc := 4) 0 dX0_push_4 rfl ?_
  refine ex_aload_n (pc := 5) 0 dX0_push_5 rfl rfl ?_
  obtain ⟨v2, ev2, h⟩ := ob_some h
  refine ex_gR (pc := 6) ev2 dX0_push_6 lfX0_9 ?_
  obtain ⟨v3, ev3, h⟩ := ob_some h
  refine ex_ln (pc := 9) ev3 dX0_push_9 ?_
  refine ex_iconst (pc := 10) 1 dX0_push_10 rfl ?_
  refine ex_isub (pc := 11) dX0_push_11 ?_
  obtain ⟨v4, ev4, h⟩ := ob_some h
  refine ex_callSN3r (pc := 12) dX0_push_12 jX10_within lnX0_91 jsX10_within (Nat.le_of_ble_eq_true rfl) (s_X10_within (by omega)  ev4) ?_
  by_cases c5 : v4 = false
  · rw [if_pos c5] at h
    refine ex_if_eq_t (pc := 15) 38 dX0_push_15 rfl (jz_eq_t c5) ?_
    cases h
    exact ex_return (pc := 38) dX0_push_38
  · rw [if_neg c5] at h
    refine ex_if_eq_f (pc := 15) dX0_push_15 38 rfl (jz_eq_f c5) ?_
    refine ex_aload_n (pc := 18) 0 dX0_push_18 rfl rfl ?_
    obtain ⟨v6, ev6, h⟩ := ob_some h
    refine ex_gR (pc := 19) ev6 dX0_push_19 lfX0_9 ?_
    refine ex_aload_n (pc := 22) 0 dX0_push_22 rfl rfl ?_
    obtain ⟨v7, ev7, h⟩ := ob_some h
    refine ex_gI (pc := 23) ev7 dX0_push_23 lfX0_99 ?_
    refine ex_iload_n (pc := 26) 1 dX0_push_26 rfl rfl ?_
    obtain ⟨q8, eq8, h⟩ := ob_some h
    refine ex_wI (pc := 27) eq8 dX0_push_27 ?_
    refine ex_aload_n (pc := 28) 0 dX0_push_28 rfl rfl ?_
    refine ex_dup (pc := 29) dX0_push_29 rfl ?_
    obtain ⟨v9, ev9, h⟩ := ob_some h
    refine ex_gI (pc := 30) ev9 dX0_push_30 lfX0_99 ?_
    refine ex_iconst (pc := 33) 1 dX0_push_33 rfl ?_
    refine ex_iadd (pc := 34) dX0_push_34 ?_
    obtain ⟨q10, eq10, h⟩ := ob_some h
    refine ex_pF (pc := 35) eq10 dX0_push_35 lfX0_99 rfl rfl (fun _ hq => by cases hq; rfl) ?_
    cases h
    exact ex_return (pc := 38) dX0_push_38
noncomputable def f_X0_push (x0 : Nat) (x1 : Int32) (M : Mem) : Option (Mem) := if isOb M 0 x0 = true then f_X0_push_0 x0 x1 M else none
theorem o_X0_push {x0 : Nat} {x1 : Int32} {M : Mem} {res : Mem} (h : f_X0_push x0 x1 M = some res) : isO M 0 x0 := by
  unfold f_X0_push at h
  split at h
  · rename_i hc; exact isOb_iff hc
  · cases h
set_option maxHeartbeats 4000000 in
theorem s_X0_push {X : XV} {d : Nat} (hd : 2 ≤ d) {x0 : Nat} {x1 : Int32} {M : Mem} {res : Mem} (h : f_X0_push x0 x1 M = some res) : Mx X d mX0_push [.ref x0, .int x1] M none res := by
  obtain ⟨d, rfl⟩ : ∃ e, d = e + 1 := ⟨d - 1, by omega⟩
  unfold f_X0_push at h
  split at h
  rotate_left
  · cases h
  refine Mx.of (by decide) (Nat.le_of_ble_eq_true rfl) (rfl) ?_
  exact ex_sub (lo' := [(0, .ref x0), (1, .int x1)]) [0, 1] rfl (t_X0_push_0 hd _ _ _ _  h)
noncomputable def f_X10_digitCount_4 (n0 : Nat) (x0 : Int32) (x1 : Int32) (x2 : Int32) : Option (Int32) :=
  match n0 with
  | 0 => none
  | n + 1 =>
    if 4 ≤ x2 then
    (some x1)
    else
    ((powR x2).bind fun v2 =>
    if x0 < v2 then
    (f_X10_digitCount_4 n x0 x1 (x2 + 1))
    else
    (f_X10_digitCount_4 n x0 (x2 + 1) (x2 + 1)))
set_option maxHeartbeats 4000000 in
theorem t_X10_digitCount_4 {X : XV} {d : Nat} {M : Mem} (hd : 1 ≤ d + 1) : ∀ (n : Nat) (x0 : Int32) (x1 : Int32) (x2 : Int32) (res : Int32), f_X10_digitCount_4 n  x0 x1 x2 = some res → Ex X (d + 1) mX10_digitCount 4 [(0, .int x0), (1, .int x1), (2, .int x2)] [] M (some (.int res)) M := by
  intro n
  induction n with
  | zero =>
    intro x0 x1 x2 res  h
    unfold f_X10_digitCount_4 at h
    cases h
  | succ n ih =>
    intro x0 x1 x2 res  h
    unfold f_X10_digitCount_4 at h
    refine ex_iload_n (pc := 4) 2 dX10_digitCount_4 rfl rfl ?_
    refine ex_pows (pc := 5) dX10_digitCount_5 lsX10_366 ?_
    refine ex_powlen (pc := 8) dX10_digitCount_8 ?_
    by_cases c1 : 4 ≤ x2
    · rw [if_pos c1] at h
      refine ex_icmp_ge_t (pc := 9) 31 dX10_digitCount_9 rfl c1 ?_
      refine ex_iload_n (pc := 31) 1 dX10_digitCount_31 rfl rfl ?_
      cases h
      exact ex_ireturn (pc := 32) dX10_digitCount_32
    · rw [if_neg c1] at h
      refine ex_icmp_ge_f (pc := 9) dX10_digitCount_9 31 rfl c1 ?_
      refine ex_iload_n (pc := 12) 0 dX10_digitCount_12 rfl rfl ?_
      refine ex_pows (pc := 13) dX10_digitCount_13 lsX10_366 ?_
      refine ex_iload_n (pc := 16) 2 dX10_digitCount_16 rfl rfl ?_
      obtain ⟨v2, ev2, h⟩ := ob_some h
      refine ex_powR (pc := 17) ev2 dX10_digitCount_17 ?_
      by_cases c3 : x0 < v2
      · rw [if_pos c3] at h
        refine ex_icmp_lt_t (pc := 18) 25 dX10_digitCount_18 rfl c3 ?_
        refine ex_iinc (pc := 25) (x2 + 1) 2 [(2, .int (x2 + 1)), (0, .int x0), (1, .int x1)] dX10_digitCount_25 rfl rfl (by decide) rfl ?_
        refine ex_goto (pc := 28) 4 dX10_digitCount_28 rfl ?_
        refine ex_sub (lo' := [(0, .int x0), (1, .int x1), (2, .int (x2 + 1))]) [1, 2, 0] rfl ?_
        exact ih _ _ _ _  h
      · rw [if_neg c3] at h
        refine ex_icmp_lt_f (pc := 18) dX10_digitCount_18 25 rfl c3 ?_
        refine ex_iload_n (pc := 21) 2 dX10_digitCount_21 rfl rfl ?_
        refine ex_iconst (pc := 22) 1 dX10_digitCount_22 rfl ?_
        refine ex_iadd (pc := 23) dX10_digitCount_23 ?_
        refine ex_istore_n (pc := 24) [(1, .int (x2 + 1)), (0, .int x0), (2, .int x2)] dX10_digitCount_24 rfl (by decide) rfl ?_
        refine ex_iinc (pc := 25) (x2 + 1) 2 [(2, .int (x2 + 1)), (1, .int (x2 + 1)), (0, .int x0)] dX10_digitCount_25 rfl rfl (by decide) rfl ?_
        refine ex_goto (pc := 28) 4 dX10_digitCount_28 rfl ?_
        refine ex_sub (lo' := [(0, .int x0), (1, .int (x2 + 1)), (2, .int (x2 + 1))]) [2, 1, 0] rfl ?_
        exact ih _ _ _ _  h
noncomputable def f_X10_digitCount_0 (x0 : Int32) : Option (Int32) :=
  f_X10_digitCount_4 fu x0 1 1
set_option maxHeartbeats 4000000 in
theorem t_X10_digitCount_0 {X : XV} {d : Nat} {M : Mem} (hd : 1 ≤ d + 1) : ∀ (x0 : Int32) (res : Int32), f_X10_digitCount_0  x0 = some res → Ex X (d + 1) mX10_digitCount 0 [(0, .int x0)] [] M (some (.int res)) M := by
  intro x0 res  h
  unfold f_X10_digitCount_0 at h
  refine ex_iconst (pc := 0) 1 dX10_digitCount_0 rfl ?_
  refine ex_istore_n (pc := 1) [(1, .int 1), (0, .int x0)] dX10_digitCount_1 rfl (by decide) rfl ?_
  refine ex_iconst (pc := 2) 1 dX10_digitCount_2 rfl ?_
  refine ex_istore_n (pc := 3) [(2, .int 1), (1, .int 1), (0, .int x0)] dX10_digitCount_3 rfl (by decide) rfl ?_
  refine ex_sub (lo' := [(0, .int x0), (1, .int 1), (2, .int 1)]) [2, 1, 0] rfl ?_
  exact t_X10_digitCount_4 hd  _ _ _ _ _  h
noncomputable def f_X10_digitCount (x0 : Int32) : Option (Int32) := f_X10_digitCount_0 x0
set_option maxHeartbeats 4000000 in
theorem s_X10_digitCount {X : XV} {d : Nat} (hd : 1 ≤ d) {x0 : Int32} {M : Mem} {res : Int32} (h : f_X10_digitCount x0 = some res) : Mx X d mX10_digitCount [.int x0] M (some (.int res)) M := by
  obtain ⟨d, rfl⟩ : ∃ e, d = e + 1 := ⟨d - 1, by omega⟩
  unfold f_X10_digitCount at h
  refine Mx.of (by decide) (Nat.le_of_ble_eq_true rfl) (⟨_, rfl, rfl⟩) ?_
  exact ex_sub (lo' := [(0, .int x0)]) [0] rfl (t_X10_digitCount_0 hd _ _  h)
noncomputable def f_X0_named_0 (x0 : Int32) (x1 : Nat) (x2 : Int32) (M : Mem) : Option (Int32) :=
  if x0 = 8 then
  ((gR M 9 x1 7).bind fun v2 =>
  (rI M v2 x2).bind fun v3 =>
  some v3)
  else
  (if x0 = 9 then
  ((gI M 9 x1 1).bind fun v5 =>
  some v5)
  else
  (if x0 = 10 then
  ((gR M 9 x1 4).bind fun v7 =>
  (rI M v7 x2).bind fun v8 =>
  some v8)
  else
  (if x0 = 11 then
  ((gR M 9 x1 6).bind fun v10 =>
  (rI M v10 x2).bind fun v11 =>
  some v11)
  else
  (if x0 = 12 then
  ((gR M 9 x1 8).bind fun v13 =>
  (rI M v13 x2).bind fun v14 =>
  some v14)
  else
  (if x0 = 13 then
  (some x2)
  else
  (if x0 = 14 then
  ((gR M 9 x1 9).bind fun v17 =>
  (rI M v17 x2).bind fun v18 =>
  some v18)
  else
  (if x0 = 15 then
  ((gR M 9 x1 9).bind fun v20 =>
  (rI M v20 x2).bind fun v21 =>
  (gR M 9 x1 8).bind fun v22 =>
  (rI M v22 x2).bind fun v23 =>
  (f_X10_digitCount v23).bind fun v24 =>
  if v21 = v24 then
  (some 1)
  else
  (some 0))
  else
  (some 0))))))))
set_option maxHeartbeats 4000000 in
theorem t_X0_named_0 {X : XV} {d : Nat} (hd : 2 ≤ d + 1) : ∀ (x0 : Int32) (x1 : Nat) (x2 : Int32) (M : Mem) (res : Int32), f_X0_named_0  x0 x1 x2 M = some res → Ex X (d + 1) mX0_named 0 [(0, .int x0), (1, .ref x1), (2, .int x2)] [] M (some (.int res)) M := by
  intro x0 x1 x2 M res  h
  unfold f_X0_named_0 at h
  refine ex_iload_n (pc := 0) 0 dX0_named_0 rfl rfl ?_
  by_cases c1 : x0 = 8
  · rw [if_pos c1] at h
    refine ex_tabIn (pc := 1) 67 dX0_named_1 (by rw [c1]; decide) (by rw [c1]; decide) (by rw [c1]; rfl) rfl ?_
    refine ex_aload_n (pc := 67) 1 dX0_named_67 rfl rfl ?_
    obtain ⟨v2, ev2, h⟩ := ob_some h
    refine ex_gR (pc := 68) ev2 dX0_named_68 lfX0_15 ?_
    refine ex_iload_n (pc := 71) 2 dX0_named_71 rfl rfl ?_
    obtain ⟨v3, ev3, h⟩ := ob_some h
    refine ex_rI (pc := 72) ev3 dX0_named_72 ?_
    cases h
    exact ex_ireturn (pc := 73) dX0_named_73
  · rw [if_neg c1] at h
    by_cases c4 : x0 = 9
    · rw [if_pos c4] at h
      refine ex_tabIn (pc := 1) 48 dX0_named_1 (by rw [c4]; decide) (by rw [c4]; decide) (by rw [c4]; rfl) rfl ?_
      refine ex_aload_n (pc := 48) 1 dX0_named_48 rfl rfl ?_
      obtain ⟨v5, ev5, h⟩ := ob_some h
      refine ex_gI (pc := 49) ev5 dX0_named_49 lfX0_71 ?_
      cases h
      exact ex_ireturn (pc := 52) dX0_named_52
    · rw [if_neg c4] at h
      by_cases c6 : x0 = 10
      · rw [if_pos c6] at h
        refine ex_tabIn (pc := 1) 53 dX0_named_1 (by rw [c6]; decide) (by rw [c6]; decide) (by rw [c6]; rfl) rfl ?_
        refine ex_aload_n (pc := 53) 1 dX0_named_53 rfl rfl ?_
        obtain ⟨v7, ev7, h⟩ := ob_some h
        refine ex_gR (pc := 54) ev7 dX0_named_54 lfX0_20 ?_
        refine ex_iload_n (pc := 57) 2 dX0_named_57 rfl rfl ?_
        obtain ⟨v8, ev8, h⟩ := ob_some h
        refine ex_rI (pc := 58) ev8 dX0_named_58 ?_
        cases h
        exact ex_ireturn (pc := 59) dX0_named_59
      · rw [if_neg c6] at h
        by_cases c9 : x0 = 11
        · rw [if_pos c9] at h
          refine ex_tabIn (pc := 1) 60 dX0_named_1 (by rw [c9]; decide) (by rw [c9]; decide) (by rw [c9]; rfl) rfl ?_
          refine ex_aload_n (pc := 60) 1 dX0_named_60 rfl rfl ?_
          obtain ⟨v10, ev10, h⟩ := ob_some h
          refine ex_gR (pc := 61) ev10 dX0_named_61 lfX0_65 ?_
          refine ex_iload_n (pc := 64) 2 dX0_named_64 rfl rfl ?_
          obtain ⟨v11, ev11, h⟩ := ob_some h
          refine ex_rI (pc := 65) ev11 dX0_named_65 ?_
          cases h
          exact ex_ireturn (pc := 66) dX0_named_66
        · rw [if_neg c9] at h
          by_cases c12 : x0 = 12
          · rw [if_pos c12] at h
            refine ex_tabIn (pc := 1) 74 dX0_named_1 (by rw [c12]; decide) (by rw [c12]; decide) (by rw [c12]; rfl) rfl ?_
            refine ex_aload_n (pc := 74) 1 dX0_named_74 rfl rfl ?_
            obtain ⟨v13, ev13, h⟩ := ob_some h
            refine ex_gR (pc := 75) ev13 dX0_named_75 lfX0_77 ?_
            refine ex_iload_n (pc := 78) 2 dX0_named_78 rfl rfl ?_
            obtain ⟨v14, ev14, h⟩ := ob_some h
            refine ex_rI (pc := 79) ev14 dX0_named_79 ?_
            cases h
            exact ex_ireturn (pc := 80) dX0_named_80
          · rw [if_neg c12] at h
            by_cases c15 : x0 = 13
            · rw [if_pos c15] at h
              refine ex_tabIn (pc := 1) 81 dX0_named_1 (by rw [c15]; decide) (by rw [c15]; decide) (by rw [c15]; rfl) rfl ?_
              refine ex_iload_n (pc := 81) 2 dX0_named_81 rfl rfl ?_
              cases h
              exact ex_ireturn (pc := 82) dX0_named_82
            · rw [if_neg c15] at h
              by_cases c16 : x0 = 14
              · rw [if_pos c16] at h
                refine ex_tabIn (pc := 1) 83 dX0_named_1 (by rw [c16]; decide) (by rw [c16]; decide) (by rw [c16]; rfl) rfl ?_
                refine ex_aload_n (pc := 83) 1 dX0_named_83 rfl rfl ?_
                obtain ⟨v17, ev17, h⟩ := ob_some h
                refine ex_gR (pc := 84) ev17 dX0_named_84 lfX0_74 ?_
                refine ex_iload_n (pc := 87) 2 dX0_named_87 rfl rfl ?_
                obtain ⟨v18, ev18, h⟩ := ob_some h
                refine ex_rI (pc := 88) ev18 dX0_named_88 ?_
                cases h
                exact ex_ireturn (pc := 89) dX0_named_89
              · rw [if_neg c16] at h
                by_cases c19 : x0 = 15
                · rw [if_pos c19] at h
                  refine ex_tabIn (pc := 1) 90 dX0_named_1 (by rw [c19]; decide) (by rw [c19]; decide) (by rw [c19]; rfl) rfl ?_
                  refine ex_aload_n (pc := 90) 1 dX0_named_90 rfl rfl ?_
                  obtain ⟨v20, ev20, h⟩ := ob_some h
                  refine ex_gR (pc := 91) ev20 dX0_named_91 lfX0_74 ?_
                  refine ex_iload_n (pc := 94) 2 dX0_named_94 rfl rfl ?_
                  obtain ⟨v21, ev21, h⟩ := ob_some h
                  refine ex_rI (pc := 95) ev21 dX0_named_95 ?_
                  refine ex_aload_n (pc := 96) 1 dX0_named_96 rfl rfl ?_
                  obtain ⟨v22, ev22, h⟩ := ob_some h
                  refine ex_gR (pc := 97) ev22 dX0_named_97 lfX0_77 ?_
                  refine ex_iload_n (pc := 100) 2 dX0_named_100 rfl rfl ?_
                  obtain ⟨v23, ev23, h⟩ := ob_some h
                  refine ex_rI (pc := 101) ev23 dX0_named_101 ?_
                  obtain ⟨v24, ev24, h⟩ := ob_some h
                  refine ex_callSN1r (pc := 102) dX0_named_102 jX10_digitCount lnX0_80 jsX10_digitCount (Nat.le_of_ble_eq_true rfl) (s_X10_digitCount (by omega)  ev24) ?_
                  by_cases c25 : v21 = v24
                  · rw [if_pos c25] at h
                    refine ex_icmp_ne_f (pc := 105) dX0_named_105 112 rfl c25 ?_
                    refine ex_iconst (pc := 108) 1 dX0_named_108 rfl ?_
                    refine ex_goto (pc := 109) 113 dX0_named_109 rfl ?_
                    cases h
                    exact ex_ireturn (pc := 113) dX0_named_113
                  · rw [if_neg c25] at h
                    refine ex_icmp_ne_t (pc := 105) 112 dX0_named_105 rfl c25 ?_
                    refine ex_iconst (pc := 112) 0 dX0_named_112 rfl ?_
                    cases h
                    exact ex_ireturn (pc := 113) dX0_named_113
                · rw [if_neg c19] at h
                  have zc1 : ¬ (x0).toInt = 8 := fun e9 => c1 (i32_of e9 (by decide))
                  have zc4 : ¬ (x0).toInt = 9 := fun e9 => c4 (i32_of e9 (by decide))
                  have zc6 : ¬ (x0).toInt = 10 := fun e9 => c6 (i32_of e9 (by decide))
                  have zc9 : ¬ (x0).toInt = 11 := fun e9 => c9 (i32_of e9 (by decide))
                  have zc12 : ¬ (x0).toInt = 12 := fun e9 => c12 (i32_of e9 (by decide))
                  have zc15 : ¬ (x0).toInt = 13 := fun e9 => c15 (i32_of e9 (by decide))
                  have zc16 : ¬ (x0).toInt = 14 := fun e9 => c16 (i32_of e9 (by decide))
                  have zc19 : ¬ (x0).toInt = 15 := fun e9 => c19 (i32_of e9 (by decide))
                  refine ex_tabOut (pc := 1) 114 dX0_named_1 (by omega) rfl ?_
                  refine ex_iconst (pc := 114) 0 dX0_named_114 rfl ?_
                  cases h
                  exact ex_ireturn (pc := 115) dX0_named_115
noncomputable def f_X0_named (x0 : Int32) (x1 : Nat) (x2 : Int32) (M : Mem) : Option (Int32) := f_X0_named_0 x0 x1 x2 M
set_option maxHeartbeats 4000000 in
theorem s_X0_named {X : XV} {d : Nat} (hd : 2 ≤ d) {x0 : Int32} {x1 : Nat} {x2 : Int32} {M : Mem} {res : Int32} (h : f_X0_named x0 x1 x2 M = some res) : Mx X d mX0_named [.int x0, .ref x1, .int x2] M (some (.int res)) M := by
  obtain ⟨d, rfl⟩ : ∃ e, d = e + 1 := ⟨d - 1, by omega⟩
  unfold f_X0_named at h
  refine Mx.of (by decide) (Nat.le_of_ble_eq_true rfl) (⟨_, rfl, rfl⟩) ?_
  exact ex_sub (lo' := [(0, .int x0), (1, .ref x1), (2, .int x2)]) [0, 1, 2] rfl (t_X0_named_0 hd _ _ _ _ _  h)
noncomputable def f_X9_has_0 (x0 : Nat) (x1 : Int32) (M : Mem) : Option (Bool) :=
  if x1 < 0 then
  (some false)
  else
  ((gI M 9 x0 0).bind fun v2 =>
  if v2 ≤ x1 then
  (some false)
  else
  (if 5 ≤ x1 then
  (some false)
  else
  (some true)))
set_option maxHeartbeats 4000000 in
theorem t_X9_has_0 {X : XV} {d : Nat} (hd : 1 ≤ d + 1) : ∀ (x0 : Nat) (x1 : Int32) (M : Mem) (res : Bool), f_X9_has_0  x0 x1 M = some res → Ex X (d + 1) mX9_has 0 [(0, .ref x0), (1, .int x1)] [] M (some (.int (jz res))) M := by
  intro x0 x1 M res  h
  unfold f_X9_has_0 at h
  refine ex_iload_n (pc := 0) 1 dX9_has_0 rfl rfl ?_
  by_cases c1 : x1 < 0
  · rw [if_pos c1] at h
    refine ex_if_lt_t (pc := 1) 21 dX9_has_1 rfl c1 ?_
    refine ex_iconst (pc := 21) 0 dX9_has_21 rfl ?_
    cases h
    exact ex_ireturn (pc := 22) dX9_has_22
  · rw [if_neg c1] at h
    refine ex_if_lt_f (pc := 1) dX9_has_1 21 rfl c1 ?_
    refine ex_iload_n (pc := 4) 1 dX9_has_4 rfl rfl ?_
    refine ex_aload_n (pc := 5) 0 dX9_has_5 rfl rfl ?_
    obtain ⟨v2, ev2, h⟩ := ob_some h
    refine ex_gI (pc := 6) ev2 dX9_has_6 lfX9_40 ?_
    by_cases c3 : v2 ≤ x1
    · rw [if_pos c3] at h
      refine ex_icmp_ge_t (pc := 9) 21 dX9_has_9 rfl c3 ?_
      refine ex_iconst (pc := 21) 0 dX9_has_21 rfl ?_
      cases h
      exact ex_ireturn (pc := 22) dX9_has_22
    · rw [if_neg c3] at h
      refine ex_icmp_ge_f (pc := 9) dX9_has_9 21 rfl c3 ?_
      refine ex_iload_n (pc := 12) 1 dX9_has_12 rfl rfl ?_
      refine ex_iconst (pc := 13) 5 dX9_has_13 rfl ?_
      by_cases c4 : 5 ≤ x1
      · rw [if_pos c4] at h
        refine ex_icmp_ge_t (pc := 14) 21 dX9_has_14 rfl c4 ?_
        refine ex_iconst (pc := 21) 0 dX9_has_21 rfl ?_
        cases h
        exact ex_ireturn (pc := 22) dX9_has_22
      · rw [if_neg c4] at h
        refine ex_icmp_ge_f (pc := 14) dX9_has_14 21 rfl c4 ?_
        refine ex_iconst (pc := 17) 1 dX9_has_17 rfl ?_
        refine ex_goto (pc := 18) 22 dX9_has_18 rfl ?_
        cases h
        exact ex_ireturn (pc := 22) dX9_has_22
noncomputable def f_X9_has (x0 : Nat) (x1 : Int32) (M : Mem) : Option (Bool) := if isOb M 9 x0 = true then f_X9_has_0 x0 x1 M else none
theorem o_X9_has {x0 : Nat} {x1 : Int32} {M : Mem} {res : Bool} (h : f_X9_has x0 x1 M = some res) : isO M 9 x0 := by
  unfold f_X9_has at h
  split at h
  · rename_i hc; exact isOb_iff hc
  · cases h
set_option maxHeartbeats 4000000 in
theorem s_X9_has {X : XV} {d : Nat} (hd : 1 ≤ d) {x0 : Nat} {x1 : Int32} {M : Mem} {res : Bool} (h : f_X9_has x0 x1 M = some res) : Mx X d mX9_has [.ref x0, .int x1] M (some (.int (jz res))) M := by
  obtain ⟨d, rfl⟩ : ∃ e, d = e + 1 := ⟨d - 1, by omega⟩
  unfold f_X9_has at h
  split at h
  rotate_left
  · cases h
  refine Mx.of (by decide) (Nat.le_of_ble_eq_true rfl) (⟨_, rfl, jz_nar _⟩) ?_
  exact ex_sub (lo' := [(0, .ref x0), (1, .int x1)]) [0, 1] rfl (t_X9_has_0 hd _ _ _ _  h)
noncomputable def f_X0_crossSum_6 (n0 : Nat) (x1 : Int32) (x2 : Int32) (x3 : Int32) : Option (Int32) :=
  match n0 with
  | 0 => none
  | n + 1 =>
    if 10 ≤ x3 then
    (some x1)
    else
    (f_X0_crossSum_6 n (x1 + (jrem x2 10)) (x2 / 10) (x3 + 1))
set_option maxHeartbeats 4000000 in
theorem t_X0_crossSum_6 {X : XV} {d : Nat} {M : Mem} (hd : 1 ≤ d + 1) : ∀ (n : Nat) (x1 : Int32) (x2 : Int32) (x3 : Int32) (res : Int32), f_X0_crossSum_6 n  x1 x2 x3 = some res → Ex X (d + 1) mX0_crossSum 6 [(1, .int x1), (2, .int x2), (3, .int x3)] [] M (some (.int res)) M := by
  intro n
  induction n with
  | zero =>
    intro x1 x2 x3 res  h
    unfold f_X0_crossSum_6 at h
    cases h
  | succ n ih =>
    intro x1 x2 x3 res  h
    unfold f_X0_crossSum_6 at h
    refine ex_iload_n (pc := 6) 2 dX0_crossSum_6 rfl rfl ?_
    refine ex_bipush (pc := 7) 10 dX0_crossSum_7 (by decide) ?_
    by_cases c1 : 10 ≤ x3
    · rw [if_pos c1] at h
      refine ex_icmp_ge_t (pc := 9) 30 dX0_crossSum_9 rfl c1 ?_
      refine ex_iload_n (pc := 30) 0 dX0_crossSum_30 rfl rfl ?_
      cases h
      exact ex_ireturn (pc := 31) dX0_crossSum_31
    · rw [if_neg c1] at h
      refine ex_icmp_ge_f (pc := 9) dX0_crossSum_9 30 rfl c1 ?_
      refine ex_iload_n (pc := 12) 0 dX0_crossSum_12 rfl rfl ?_
      refine ex_iload_n (pc := 13) 1 dX0_crossSum_13 rfl rfl ?_
      refine ex_bipush (pc := 14) 10 dX0_crossSum_14 (by decide) ?_
      refine ex_irem (pc := 16) dX0_crossSum_16 (by decide) ?_
      refine ex_iadd (pc := 17) dX0_crossSum_17 ?_
      refine ex_istore_n (pc := 18) [(1, .int (x1 + (jrem x2 10))), (2, .int x2), (3, .int x3)] dX0_crossSum_18 rfl (by decide) rfl ?_
      refine ex_iload_n (pc := 19) 1 dX0_crossSum_19 rfl rfl ?_
      refine ex_bipush (pc := 20) 10 dX0_crossSum_20 (by decide) ?_
      refine ex_idiv (pc := 22) dX0_crossSum_22 (by decide) ?_
      refine ex_istore_n (pc := 23) [(2, .int (x2 / 10)), (1, .int (x1 + (jrem x2 10))), (3, .int x3)] dX0_crossSum_23 rfl (by decide) rfl ?_
      refine ex_iinc (pc := 24) (x3 + 1) 2 [(3, .int (x3 + 1)), (2, .int (x2 / 10)), (1, .int (x1 + (jrem x2 10)))] dX0_crossSum_24 rfl rfl (by decide) rfl ?_
      refine ex_goto (pc := 27) 6 dX0_crossSum_27 rfl ?_
      refine ex_sub (lo' := [(1, .int (x1 + (jrem x2 10))), (2, .int (x2 / 10)), (3, .int (x3 + 1))]) [2, 1, 0] rfl ?_
      exact ih _ _ _ _  h
noncomputable def f_X0_crossSum_0 (x0 : Int32) : Option (Int32) :=
  f_X0_crossSum_6 fu 0 x0 0
set_option maxHeartbeats 4000000 in
theorem t_X0_crossSum_0 {X : XV} {d : Nat} {M : Mem} (hd : 1 ≤ d + 1) : ∀ (x0 : Int32) (res : Int32), f_X0_crossSum_0  x0 = some res → Ex X (d + 1) mX0_crossSum 0 [(0, .int x0)] [] M (some (.int res)) M := by
  intro x0 res  h
  unfold f_X0_crossSum_0 at h
  refine ex_iconst (pc := 0) 0 dX0_crossSum_0 rfl ?_
  refine ex_istore_n (pc := 1) [(1, .int 0), (0, .int x0)] dX0_crossSum_1 rfl (by decide) rfl ?_
  refine ex_iload_n (pc := 2) 1 dX0_crossSum_2 rfl rfl ?_
  refine ex_istore_n (pc := 3) [(2, .int x0), (1, .int 0), (0, .int x0)] dX0_crossSum_3 rfl (by decide) rfl ?_
  refine ex_iconst (pc := 4) 0 dX0_crossSum_4 rfl ?_
  refine ex_istore_n (pc := 5) [(3, .int 0), (2, .int x0), (1, .int 0), (0, .int x0)] dX0_crossSum_5 rfl (by decide) rfl ?_
  refine ex_sub (lo' := [(1, .int 0), (2, .int x0), (3, .int 0)]) [2, 1, 0] rfl ?_
  exact t_X0_crossSum_6 hd  _ _ _ _ _  h
noncomputable def f_X0_crossSum (x0 : Int32) : Option (Int32) := f_X0_crossSum_0 x0
set_option maxHeartbeats 4000000 in
theorem s_X0_crossSum {X : XV} {d : Nat} (hd : 1 ≤ d) {x0 : Int32} {M : Mem} {res : Int32} (h : f_X0_crossSum x0 = some res) : Mx X d mX0_crossSum [.int x0] M (some (.int res)) M := by
  obtain ⟨d, rfl⟩ : ∃ e, d = e + 1 := ⟨d - 1, by omega⟩
  unfold f_X0_crossSum at h
  refine Mx.of (by decide) (Nat.le_of_ble_eq_true rfl) (⟨_, rfl, rfl⟩) ?_
  exact ex_sub (lo' := [(0, .int x0)]) [0] rfl (t_X0_crossSum_0 hd _ _  h)
noncomputable def f_X0_ofOne_0 (x0 : Int32) (x1 : Int32) (x2 : Nat) (M : Mem) : Option (Int32) :=
  if x0 = 19 then
  ((f_X9_has x2 x1 M).bind fun v2 =>
  if v2 = false then
  (some 0)
  else
  ((gR M 9 x2 8).bind fun v4 =>
  (rI M v4 x1).bind fun v5 =>
  some v5))
  else
  (if x0 = 26 then
  (if x1 = 0 then
  (some 1)
  else
  (some 0))
  else
  (if x0 = 43 then
  (some (-x1))
  else
  ((f_X0_crossSum (jabs x1)).bind fun v9 =>
  some v9)))
set_option maxHeartbeats 4000000 in
theorem t_X0_ofOne_0 {X : XV} {d : Nat} (hd : 2 ≤ d + 1) : ∀ (x0 : Int32) (x1 : Int32) (x2 : Nat) (M : Mem) (res : Int32), f_X0_ofOne_0  x0 x1 x2 M = some res → Ex X (d + 1) mX0_ofOne 0 [(0, .int x0), (1, .int x1), (2, .ref x2)] [] M (some (.int res)) M := by
  intro x0 x1 x2 M res  h
  unfold f_X0_ofOne_0 at h
  refine ex_iload_n (pc := 0) 0 dX0_ofOne_0 rfl rfl ?_
  by_cases c1 : x0 = 19
  · rw [if_pos c1] at h
    refine ex_look (pc := 1) 49 dX0_ofOne_1 (by decide) (by rw [c1]) rfl ?_
    refine ex_aload_n (pc := 49) 2 dX0_ofOne_49 rfl rfl ?_
    refine ex_iload_n (pc := 50) 1 dX0_ofOne_50 rfl rfl ?_
    obtain ⟨v2, ev2, h⟩ := ob_some h
    refine ex_callV1r (pc := 51) dX0_ofOne_51 jX9_has lmX0_132 jiX9_has jvX9_has (o_X9_has ev2) rfl (Nat.le_of_ble_eq_true rfl) (s_X9_has (by omega)  ev2) ?_
    by_cases c3 : v2 = false
    · rw [if_pos c3] at h
      refine ex_if_eq_t (pc := 54) 66 dX0_ofOne_54 rfl (jz_eq_t c3) ?_
      refine ex_iconst (pc := 66) 0 dX0_ofOne_66 rfl ?_
      cases h
      exact ex_ireturn (pc := 67) dX0_ofOne_67
    · rw [if_neg c3] at h
      refine ex_if_eq_f (pc := 54) dX0_ofOne_54 66 rfl (jz_eq_f c3) ?_
      refine ex_aload_n (pc := 57) 2 dX0_ofOne_57 rfl rfl ?_
      obtain ⟨v4, ev4, h⟩ := ob_some h
      refine ex_gR (pc := 58) ev4 dX0_ofOne_58 lfX0_77 ?_
      refine ex_iload_n (pc := 61) 1 dX0_ofOne_61 rfl rfl ?_
      obtain ⟨v5, ev5, h⟩ := ob_some h
      refine ex_rI (pc := 62) ev5 dX0_ofOne_62 ?_
      refine ex_goto (pc := 63) 67 dX0_ofOne_63 rfl ?_
      cases h
      exact ex_ireturn (pc := 67) dX0_ofOne_67
  · rw [if_neg c1] at h
    by_cases c6 : x0 = 26
    · rw [if_pos c6] at h
      refine ex_look (pc := 1) 39 dX0_ofOne_1 (by decide) (by rw [c6]) rfl ?_
      refine ex_iload_n (pc := 39) 1 dX0_ofOne_39 rfl rfl ?_
      by_cases c7 : x1 = 0
      · rw [if_pos c7] at h
        refine ex_if_ne_f (pc := 40) dX0_ofOne_40 47 rfl c7 ?_
        refine ex_iconst (pc := 43) 1 dX0_ofOne_43 rfl ?_
        refine ex_goto (pc := 44) 48 dX0_ofOne_44 rfl ?_
        cases h
        exact ex_ireturn (pc := 48) dX0_ofOne_48
      · rw [if_neg c7] at h
        refine ex_if_ne_t (pc := 40) 47 dX0_ofOne_40 rfl c7 ?_
        refine ex_iconst (pc := 47) 0 dX0_ofOne_47 rfl ?_
        cases h
        exact ex_ireturn (pc := 48) dX0_ofOne_48
    · rw [if_neg c6] at h
      by_cases c8 : x0 = 43
      · rw [if_pos c8] at h
        refine ex_look (pc := 1) 36 dX0_ofOne_1 (by decide) (by rw [c8]) rfl ?_
        refine ex_iload_n (pc := 36) 1 dX0_ofOne_36 rfl rfl ?_
        refine ex_ineg (pc := 37) dX0_ofOne_37 ?_
        cases h
        exact ex_ireturn (pc := 38) dX0_ofOne_38
      · rw [if_neg c8] at h
        have zc1 : ¬ (x0).toInt = 19 := fun e9 => c1 (i32_of e9 (by decide))
        have zc6 : ¬ (x0).toInt = 26 := fun e9 => c6 (i32_of e9 (by decide))
        have zc8 : ¬ (x0).toInt = 43 := fun e9 => c8 (i32_of e9 (by decide))
        refine ex_look (pc := 1) (off := 67) 68 dX0_ofOne_1 (by decide) (by simp [Op.lookupswitch.offset]; rw [if_neg (fun e9 => zc1 e9.symm), if_neg (fun e9 => zc6 e9.symm), if_neg (fun e9 => zc8 e9.symm)]) rfl ?_
        refine ex_iload_n (pc := 68) 1 dX0_ofOne_68 rfl rfl ?_
        refine ex_mabs (pc := 69) dX0_ofOne_69 lmX0_135 (by omega) (Nat.le_of_ble_eq_true rfl) ?_
        obtain ⟨v9, ev9, h⟩ := ob_some h
        refine ex_callS1r (pc := 72) dX0_ofOne_72 jX0_crossSum lmX0_138 jsX0_crossSum (Nat.le_of_ble_eq_true rfl) (s_X0_crossSum (by omega)  ev9) ?_
        cases h
        exact ex_ireturn (pc := 75) dX0_ofOne_75
noncomputable def f_X0_ofOne (x0 : Int32) (x1 : Int32) (x2 : Nat) (M : Mem) : Option (Int32) := f_X0_ofOne_0 x0 x1 x2 M
set_option maxHeartbeats 4000000 in
theorem s_X0_ofOne {X : XV} {d : Nat} (hd : 2 ≤ d) {x0 : Int32} {x1 : Int32} {x2 : Nat} {M : Mem} {res : Int32} (h : f_X0_ofOne x0 x1 x2 M = some res) : Mx X d mX0_ofOne [.int x0, .int x1, .ref x2] M (some (.int res)) M := by
  obtain ⟨d, rfl⟩ : ∃ e, d = e + 1 := ⟨d - 1, by omega⟩
  unfold f_X0_ofOne at h
  refine Mx.of (by decide) (Nat.le_of_ble_eq_true rfl) (⟨_, rfl, rfl⟩) ?_
  exact ex_sub (lo' := [(0, .int x0), (1, .int x1), (2, .ref x2)]) [0, 1, 2] rfl (t_X0_ofOne_0 hd _ _ _ _ _  h)
noncomputable def f_X0_held_0 (x0 : Int64) : Option (Int32) :=
  if (lg_cmp x0 1000000) ≤ 0 then
  (if 0 ≤ (lg_cmp x0 (-1000000)) then
  (some (Int64.toInt32 x0))
  else
  (some (-1000000)))
  else
  (some 1000000)
set_option maxHeartbeats 4000000 in
theorem t_X0_held_0 {X : XV} {d : Nat} {M : Mem} (hd : 1 ≤ d + 1) : ∀ (x0 : Int64) (res : Int32), f_X0_held_0  x0 = some res → Ex X (d + 1) mX0_held 0 [(0, .long x0)] [] M (some (.int res)) M := by
  intro x0 res  h
  unfold f_X0_held_0 at h
  refine ex_lload_n (pc := 0) 0 dX0_held_0 rfl rfl ?_
  refine ex_ldc2 (pc := 1) dX0_held_1 lkX0_145 ?_
  refine ex_lcmp (pc := 4) dX0_held_4 ?_
  by_cases c1 : (lg_cmp x0 1000000) ≤ 0
  · rw [if_pos c1] at h
    refine ex_if_le_t (pc := 5) 11 dX0_held_5 rfl c1 ?_
    refine ex_lload_n (pc := 11) 0 dX0_held_11 rfl rfl ?_
    refine ex_ldc2 (pc := 12) dX0_held_12 lkX0_148 ?_
    refine ex_lcmp (pc := 15) dX0_held_15 ?_
    by_cases c2 : 0 ≤ (lg_cmp x0 (-1000000))
    · rw [if_pos c2] at h
      refine ex_if_ge_t (pc := 16) 24 dX0_held_16 rfl c2 ?_
      refine ex_lload_n (pc := 24) 0 dX0_held_24 rfl rfl ?_
      refine ex_l2i (pc := 25) dX0_held_25 ?_
      cases h
      exact ex_ireturn (pc := 26) dX0_held_26
    · rw [if_neg c2] at h
      refine ex_if_ge_f (pc := 16) dX0_held_16 24 rfl c2 ?_
      refine ex_ldc (pc := 19) dX0_held_19 lkX0_150 ?_
      refine ex_goto (pc := 21) 26 dX0_held_21 rfl ?_
      cases h
      exact ex_ireturn (pc := 26) dX0_held_26
  · rw [if_neg c1] at h
    refine ex_if_le_f (pc := 5) dX0_held_5 11 rfl c1 ?_
    refine ex_ldc (pc := 8) dX0_held_8 lkX0_147 ?_
    cases h
    exact ex_ireturn (pc := 10) dX0_held_10
noncomputable def f_X0_held (x0 : Int64) : Option (Int32) := f_X0_held_0 x0
set_option maxHeartbeats 4000000 in
theorem s_X0_held {X : XV} {d : Nat} (hd : 1 ≤ d) {x0 : Int64} {M : Mem} {res : Int32} (h : f_X0_held x0 = some res) : Mx X d mX0_held [.long x0] M (some (.int res)) M := by
  obtain ⟨d, rfl⟩ : ∃ e, d = e + 1 := ⟨d - 1, by omega⟩
  unfold f_X0_held at h
  refine Mx.of (by decide) (Nat.le_of_ble_eq_true rfl) (⟨_, rfl, rfl⟩) ?_
  exact ex_sub (lo' := [(0, .long x0)]) [0] rfl (t_X0_held_0 hd _ _  h)
noncomputable def f_X0_ofTwo_0 (x0 : Int32) (x1 : Int32) (x2 : Int32) : Option (Int32) :=
  if x0 = 24 then
  (some (x1 ||| x2))
  else
  (if x0 = 25 then
  (some (x1 &&& x2))
  else
  (if x0 = 28 then
  (if x2 ≤ x1 then
  (some 0)
  else
  (some 1))
  else
  (if x0 = 29 then
  (if x1 ≤ x2 then
  (some 0)
  else
  (some 1))
  else
  (if x0 = 30 then
  (if x1 = x2 then
  (some 1)
  else
  (some 0))
  else
  (if x0 = 31 then
  (if x1 = x2 then
  (some 0)
  else
  (some 1))
  else
  (if x0 = 32 then
  ((f_X0_held (Int32.toInt64 (x1 + x2))).bind fun v12 =>
  some v12)
  else
  (if x0 = 33 then
  ((f_X0_held (Int32.toInt64 (x1 - x2))).bind fun v14 =>
  some v14)
  else
  (if x0 = 34 then
  ((f_X0_held ((Int32.toInt64 x1) * (Int32.toInt64 x2))).bind fun v16 =>
  some v16)
  else
  (if x0 = 35 then
  (if x2 = 0 then
  (some 0)
  else
  ((dvI x1 x2).bind fun v19 =>
  some v19))
  else
  (if x0 = 39 then
  (if x2 < x1 then
  (some 0)
  else
  (some 1))
  else
  (if x0 = 40 then
  (if x1 < x2 then
  (some 0)
  else
  (some 1))
  else
  (some 0))))))))))))
set_option maxHeartbeats 4000000 in
theorem t_X0_ofTwo_0 {X : XV} {d : Nat} {M : Mem} (hd : 2 ≤ d + 1) : ∀ (x0 : Int32) (x1 : Int32) (x2 : Int32) (res : Int32), f_X0_ofTwo_0  x0 x1 x2 = some res → Ex X (d + 1) mX0_ofTwo 0 [(0, .int x0), (1, .int x1), (2, .int x2)] [] M (some (.int res)) M := by
  intro x0 x1 x2 res  h
  unfold f_X0_ofTwo_0 at h
  refine ex_iload_n (pc := 0) 0 dX0_ofTwo_0 rfl rfl ?_
  by_cases c1 : x0 = 24
  · rw [if_pos c1] at h
    refine ex_tabIn (pc := 1) 191 dX0_ofTwo_1 (by rw [c1]; decide) (by rw [c1]; decide) (by rw [c1]; rfl) rfl ?_
    refine ex_iload_n (pc := 191) 1 dX0_ofTwo_191 rfl rfl ?_
    refine ex_iload_n (pc := 192) 2 dX0_ofTwo_192 rfl rfl ?_
    refine ex_ior (pc := 193) dX0_ofTwo_193 ?_
    cases h
    exact ex_ireturn (pc := 194) dX0_ofTwo_194
  · rw [if_neg c1] at h
    by_cases c2 : x0 = 25
    · rw [if_pos c2] at h
      refine ex_tabIn (pc := 1) 187 dX0_ofTwo_1 (by rw [c2]; decide) (by rw [c2]; decide) (by rw [c2]; rfl) rfl ?_
      refine ex_iload_n (pc := 187) 1 dX0_ofTwo_187 rfl rfl ?_
      refine ex_iload_n (pc := 188) 2 dX0_ofTwo_188 rfl rfl ?_
      refine ex_iand (pc := 189) dX0_ofTwo_189 ?_
      cases h
      exact ex_ireturn (pc := 190) dX0_ofTwo_190
    · rw [if_neg c2] at h
      by_cases c3 : x0 = 28
      · rw [if_pos c3] at h
        refine ex_tabIn (pc := 1) 121 dX0_ofTwo_1 (by rw [c3]; decide) (by rw [c3]; decide) (by rw [c3]; rfl) rfl ?_
        refine ex_iload_n (pc := 121) 1 dX0_ofTwo_121 rfl rfl ?_
        refine ex_iload_n (pc := 122) 2 dX0_ofTwo_122 rfl rfl ?_
        by_cases c4 : x2 ≤ x1
        · rw [if_pos c4] at h
          refine ex_icmp_ge_t (pc := 123) 130 dX0_ofTwo_123 rfl c4 ?_
          refine ex_iconst (pc := 130) 0 dX0_ofTwo_130 rfl ?_
          cases h
          exact ex_ireturn (pc := 131) dX0_ofTwo_131
        · rw [if_neg c4] at h
          refine ex_icmp_ge_f (pc := 123) dX0_ofTwo_123 130 rfl c4 ?_
          refine ex_iconst (pc := 126) 1 dX0_ofTwo_126 rfl ?_
          refine ex_goto (pc := 127) 131 dX0_ofTwo_127 rfl ?_
          cases h
          exact ex_ireturn (pc := 131) dX0_ofTwo_131
      · rw [if_neg c3] at h
        by_cases c5 : x0 = 29
        · rw [if_pos c5] at h
          refine ex_tabIn (pc := 1) 132 dX0_ofTwo_1 (by rw [c5]; decide) (by rw [c5]; decide) (by rw [c5]; rfl) rfl ?_
          refine ex_iload_n (pc := 132) 1 dX0_ofTwo_132 rfl rfl ?_
          refine ex_iload_n (pc := 133) 2 dX0_ofTwo_133 rfl rfl ?_
          by_cases c6 : x1 ≤ x2
          · rw [if_pos c6] at h
            refine ex_icmp_le_t (pc := 134) 141 dX0_ofTwo_134 rfl c6 ?_
            refine ex_iconst (pc := 141) 0 dX0_ofTwo_141 rfl ?_
            cases h
            exact ex_ireturn (pc := 142) dX0_ofTwo_142
          · rw [if_neg c6] at h
            refine ex_icmp_le_f (pc := 134) dX0_ofTwo_134 141 rfl c6 ?_
            refine ex_iconst (pc := 137) 1 dX0_ofTwo_137 rfl ?_
            refine ex_goto (pc := 138) 142 dX0_ofTwo_138 rfl ?_
            cases h
            exact ex_ireturn (pc := 142) dX0_ofTwo_142
        · rw [if_neg c5] at h
          by_cases c7 : x0 = 30
          · rw [if_pos c7] at h
            refine ex_tabIn (pc := 1) 143 dX0_ofTwo_1 (by rw [c7]; decide) (by rw [c7]; decide) (by rw [c7]; rfl) rfl ?_
            refine ex_iload_n (pc := 143) 1 dX0_ofTwo_143 rfl rfl ?_
            refine ex_iload_n (pc := 144) 2 dX0_ofTwo_144 rfl rfl ?_
            by_cases c8 : x1 = x2
            · rw [if_pos c8] at h
              refine ex_icmp_ne_f (pc := 145) dX0_ofTwo_145 152 rfl c8 ?_
              refine ex_iconst (pc := 148) 1 dX0_ofTwo_148 rfl ?_
              refine ex_goto (pc := 149) 153 dX0_ofTwo_149 rfl ?_
              cases h
              exact ex_ireturn (pc := 153) dX0_ofTwo_153
            · rw [if_neg c8] at h
              refine ex_icmp_ne_t (pc := 145) 152 dX0_ofTwo_145 rfl c8 ?_
              refine ex_iconst (pc := 152) 0 dX0_ofTwo_152 rfl ?_
              cases h
              exact ex_ireturn (pc := 153) dX0_ofTwo_153
          · rw [if_neg c7] at h
            by_cases c9 : x0 = 31
            · rw [if_pos c9] at h
              refine ex_tabIn (pc := 1) 154 dX0_ofTwo_1 (by rw [c9]; decide) (by rw [c9]; decide) (by rw [c9]; rfl) rfl ?_
              refine ex_iload_n (pc := 154) 1 dX0_ofTwo_154 rfl rfl ?_
              refine ex_iload_n (pc := 155) 2 dX0_ofTwo_155 rfl rfl ?_
              by_cases c10 : x1 = x2
              · rw [if_pos c10] at h
                refine ex_icmp_eq_t (pc := 156) 163 dX0_ofTwo_156 rfl c10 ?_
                refine ex_iconst (pc := 163) 0 dX0_ofTwo_163 rfl ?_
                cases h
                exact ex_ireturn (pc := 164) dX0_ofTwo_164
              · rw [if_neg c10] at h
                refine ex_icmp_eq_f (pc := 156) dX0_ofTwo_156 163 rfl c10 ?_
                refine ex_iconst (pc := 159) 1 dX0_ofTwo_159 rfl ?_
                refine ex_goto (pc := 160) 164 dX0_ofTwo_160 rfl ?_
                cases h
                exact ex_ireturn (pc := 164) dX0_ofTwo_164
            · rw [if_neg c9] at h
              by_cases c11 : x0 = 32
              · rw [if_pos c11] at h
                refine ex_tabIn (pc := 1) 84 dX0_ofTwo_1 (by rw [c11]; decide) (by rw [c11]; decide) (by rw [c11]; rfl) rfl ?_
                refine ex_iload_n (pc := 84) 1 dX0_ofTwo_84 rfl rfl ?_
                refine ex_iload_n (pc := 85) 2 dX0_ofTwo_85 rfl rfl ?_
                refine ex_iadd (pc := 86) dX0_ofTwo_86 ?_
                refine ex_i2l (pc := 87) dX0_ofTwo_87 ?_
                obtain ⟨v12, ev12, h⟩ := ob_some h
                refine ex_callS1r (pc := 88) dX0_ofTwo_88 jX0_held lmX0_141 jsX0_held (Nat.le_of_ble_eq_true rfl) (s_X0_held (by omega)  ev12) ?_
                cases h
                exact ex_ireturn (pc := 91) dX0_ofTwo_91
              · rw [if_neg c11] at h
                by_cases c13 : x0 = 33
                · rw [if_pos c13] at h
                  refine ex_tabIn (pc := 1) 92 dX0_ofTwo_1 (by rw [c13]; decide) (by rw [c13]; decide) (by rw [c13]; rfl) rfl ?_
                  refine ex_iload_n (pc := 92) 1 dX0_ofTwo_92 rfl rfl ?_
                  refine ex_iload_n (pc := 93) 2 dX0_ofTwo_93 rfl rfl ?_
                  refine ex_isub (pc := 94) dX0_ofTwo_94 ?_
                  refine ex_i2l (pc := 95) dX0_ofTwo_95 ?_
                  obtain ⟨v14, ev14, h⟩ := ob_some h
                  refine ex_callS1r (pc := 96) dX0_ofTwo_96 jX0_held lmX0_141 jsX0_held (Nat.le_of_ble_eq_true rfl) (s_X0_held (by omega)  ev14) ?_
                  cases h
                  exact ex_ireturn (pc := 99) dX0_ofTwo_99
                · rw [if_neg c13] at h
                  by_cases c15 : x0 = 34
                  · rw [if_pos c15] at h
                    refine ex_tabIn (pc := 1) 100 dX0_ofTwo_1 (by rw [c15]; decide) (by rw [c15]; decide) (by rw [c15]; rfl) rfl ?_
                    refine ex_iload_n (pc := 100) 1 dX0_ofTwo_100 rfl rfl ?_
                    refine ex_i2l (pc := 101) dX0_ofTwo_101 ?_
                    refine ex_iload_n (pc := 102) 2 dX0_ofTwo_102 rfl rfl ?_
                    refine ex_i2l (pc := 103) dX0_ofTwo_103 ?_
                    refine ex_lmul (pc := 104) dX0_ofTwo_104 ?_
                    obtain ⟨v16, ev16, h⟩ := ob_some h
                    refine ex_callS1r (pc := 105) dX0_ofTwo_105 jX0_held lmX0_141 jsX0_held (Nat.le_of_ble_eq_true rfl) (s_X0_held (by omega)  ev16) ?_
                    cases h
                    exact ex_ireturn (pc := 108) dX0_ofTwo_108
                  · rw [if_neg c15] at h
                    by_cases c17 : x0 = 35
                    · rw [if_pos c17] at h
                      refine ex_tabIn (pc := 1) 109 dX0_ofTwo_1 (by rw [c17]; decide) (by rw [c17]; decide) (by rw [c17]; rfl) rfl ?_
                      refine ex_iload_n (pc := 109) 2 dX0_ofTwo_109 rfl rfl ?_
                      by_cases c18 : x2 = 0
                      · rw [if_pos c18] at h
                        refine ex_if_ne_f (pc := 110) dX0_ofTwo_110 117 rfl c18 ?_
                        refine ex_iconst (pc := 113) 0 dX0_ofTwo_113 rfl ?_
                        refine ex_goto (pc := 114) 120 dX0_ofTwo_114 rfl ?_
                        cases h
                        exact ex_ireturn (pc := 120) dX0_ofTwo_120
                      · rw [if_neg c18] at h
                        refine ex_if_ne_t (pc := 110) 117 dX0_ofTwo_110 rfl c18 ?_
                        refine ex_iload_n (pc := 117) 1 dX0_ofTwo_117 rfl rfl ?_
                        refine ex_iload_n (pc := 118) 2 dX0_ofTwo_118 rfl rfl ?_
                        obtain ⟨v19, ev19, h⟩ := ob_some h
                        refine ex_idivq (pc := 119) ev19 dX0_ofTwo_119 ?_
                        cases h
                        exact ex_ireturn (pc := 120) dX0_ofTwo_120
                    · rw [if_neg c17] at h
                      by_cases c20 : x0 = 39
                      · rw [if_pos c20] at h
                        refine ex_tabIn (pc := 1) 165 dX0_ofTwo_1 (by rw [c20]; decide) (by rw [c20]; decide) (by rw [c20]; rfl) rfl ?_
                        refine ex_iload_n (pc := 165) 1 dX0_ofTwo_165 rfl rfl ?_
                        refine ex_iload_n (pc := 166) 2 dX0_ofTwo_166 rfl rfl ?_
                        by_cases c21 : x2 < x1
                        · rw [if_pos c21] at h
                          refine ex_icmp_gt_t (pc := 167) 174 dX0_ofTwo_167 rfl c21 ?_
                          refine ex_iconst (pc := 174) 0 dX0_ofTwo_174 rfl ?_
                          cases h
                          exact ex_ireturn (pc := 175) dX0_ofTwo_175
                        · rw [if_neg c21] at h
                          refine ex_icmp_gt_f (pc := 167) dX0_ofTwo_167 174 rfl c21 ?_
                          refine ex_iconst (pc := 170) 1 dX0_ofTwo_170 rfl ?_
                          refine ex_goto (pc := 171) 175 dX0_ofTwo_171 rfl ?_
                          cases h
                          exact ex_ireturn (pc := 175) dX0_ofTwo_175
                      · rw [if_neg c20] at h
                        by_cases c22 : x0 = 40
                        · rw [if_pos c22] at h
                          refine ex_tabIn (pc := 1) 176 dX0_ofTwo_1 (by rw [c22]; decide) (by rw [c22]; decide) (by rw [c22]; rfl) rfl ?_
                          refine ex_iload_n (pc := 176) 1 dX0_ofTwo_176 rfl rfl ?_
                          refine ex_iload_n (pc := 177) 2 dX0_ofTwo_177 rfl rfl ?_
                          by_cases c23 : x1 < x2
                          · rw [if_pos c23] at h
                            refine ex_icmp_lt_t (pc := 178) 185 dX0_ofTwo_178 rfl c23 ?_
                            refine ex_iconst (pc := 185) 0 dX0_ofTwo_185 rfl ?_
                            cases h
                            exact ex_ireturn (pc := 186) dX0_ofTwo_186
                          · rw [if_neg c23] at h
                            refine ex_icmp_lt_f (pc := 178) dX0_ofTwo_178 185 rfl c23 ?_
                            refine ex_iconst (pc := 181) 1 dX0_ofTwo_181 rfl ?_
                            refine ex_goto (pc := 182) 186 dX0_ofTwo_182 rfl ?_
                            cases h
                            exact ex_ireturn (pc := 186) dX0_ofTwo_186
                        · rw [if_neg c22] at h
                          have zc1 : ¬ (x0).toInt = 24 := fun e9 => c1 (i32_of e9 (by decide))
                          have zc2 : ¬ (x0).toInt = 25 := fun e9 => c2 (i32_of e9 (by decide))
                          have zc3 : ¬ (x0).toInt = 28 := fun e9 => c3 (i32_of e9 (by decide))
                          have zc5 : ¬ (x0).toInt = 29 := fun e9 => c5 (i32_of e9 (by decide))
                          have zc7 : ¬ (x0).toInt = 30 := fun e9 => c7 (i32_of e9 (by decide))
                          have zc9 : ¬ (x0).toInt = 31 := fun e9 => c9 (i32_of e9 (by decide))
                          have zc11 : ¬ (x0).toInt = 32 := fun e9 => c11 (i32_of e9 (by decide))
                          have zc13 : ¬ (x0).toInt = 33 := fun e9 => c13 (i32_of e9 (by decide))
                          have zc15 : ¬ (x0).toInt = 34 := fun e9 => c15 (i32_of e9 (by decide))
                          have zc17 : ¬ (x0).toInt = 35 := fun e9 => c17 (i32_of e9 (by decide))
                          have zc20 : ¬ (x0).toInt = 39 := fun e9 => c20 (i32_of e9 (by decide))
                          have zc22 : ¬ (x0).toInt = 40 := fun e9 => c22 (i32_of e9 (by decide))
                          have hg : (x0).toInt < 24 ∨ 40 < (x0).toInt ∨ (x0).toInt = 26 ∨ (x0).toInt = 27 ∨ (x0).toInt = 36 ∨ (x0).toInt = 37 ∨ (x0).toInt = 38 := by omega
                          suffices hsw : Ex _ _ _ 195 [(0, .int x0), (1, .int x1), (2, .int x2)] [] M _ _ by
                            rcases hg with hg | hg | hg | hg | hg | hg | hg
                            · exact ex_tabOut (pc := 1) 195 dX0_ofTwo_1 (Or.inl hg) rfl hsw
                            · exact ex_tabOut (pc := 1) 195 dX0_ofTwo_1 (Or.inr hg) rfl hsw
                            · exact ex_tabIn (pc := 1) 195 dX0_ofTwo_1 (by omega) (by omega) (by rw [hg]; rfl) rfl hsw
                            · exact ex_tabIn (pc := 1) 195 dX0_ofTwo_1 (by omega) (by omega) (by rw [hg]; rfl) rfl hsw
                            · exact ex_tabIn (pc := 1) 195 dX0_ofTwo_1 (by omega) (by omega) (by rw [hg]; rfl) rfl hsw
                            · exact ex_tabIn (pc := 1) 195 dX0_ofTwo_1 (by omega) (by omega) (by rw [hg]; rfl) rfl hsw
                            · exact ex_tabIn (pc := 1) 195 dX0_ofTwo_1 (by omega) (by omega) (by rw [hg]; rfl) rfl hsw
                          refine ex_iconst (pc := 195) 0 dX0_ofTwo_195 rfl ?_
                          cases h
                          exact ex_ireturn (pc := 196) dX0_ofTwo_196
noncomputable def f_X0_ofTwo (x0 : Int32) (x1 : Int32) (x2 : Int32) : Option (Int32) := f_X0_ofTwo_0 x0 x1 x2
set_option maxHeartbeats 4000000 in
theorem s_X0_ofTwo {X : XV} {d : Nat} (hd : 2 ≤ d) {x0 : Int32} {x1 : Int32} {x2 : Int32} {M : Mem} {res : Int32} (h : f_X0_ofTwo x0 x1 x2 = some res) : Mx X d mX0_ofTwo [.int x0, .int x1, .int x2] M (some (.int res)) M := by
  obtain ⟨d, rfl⟩ : ∃ e, d = e + 1 := ⟨d - 1, by omega⟩
  unfold f_X0_ofTwo at h
  refine Mx.of (by decide) (Nat.le_of_ble_eq_true rfl) (⟨_, rfl, rfl⟩) ?_
  exact ex_sub (lo' := [(0, .int x0), (1, .int x1), (2, .int x2)]) [0, 1, 2] rfl (t_X0_ofTwo_0 hd _ _ _ _  h)
noncomputable def f_X0_asked_178 (k33 : Nat → Option Nat → Nat → Int32 → Int32 → Int32 → Mem → Option (Int32 × Mem)) (x0 : Nat) (x1 : Option Nat) (x3 : Nat) (x4 : Int32) (x5 : Int32) (x6 : Int32) (x7 : Int32) (M : Mem) : Option (Int32 × Mem) :=
  (f_X0_pop x0 M).bind fun q1 =>
  (f_X0_ofOne x7 q1.1 x3 q1.2).bind fun v2 =>
  (f_X0_push x0 v2 q1.2).bind fun q3 =>
  k33 x0 x1 x3 x4 x5 (x6 + 1) q3
set_option maxHeartbeats 4000000 in
theorem t_X0_asked_178 {X : XV} {d : Nat} (hd : 3 ≤ d + 1) {k33 : Nat → Option Nat → Nat → Int32 → Int32 → Int32 → Mem → Option (Int32 × Mem)} (hk33 : ∀ (x0 : Nat) (x1 : Option Nat) (x3 : Nat) (x4 : Int32) (x5 : Int32) (x6 : Int32) (M : Mem) (res : Int32 × Mem), k33 x0 x1 x3 x4 x5 x6 M = some res → Ex X (d + 1) mX0_asked 33 [(0, .ref x0), (1, va_rf x1), (3, .ref x3), (4, .int x4), (5, .int x5), (6, .int x6)] [] M (some (.int res.1)) res.2) : ∀ (x0 : Nat) (x1 : Option Nat) (x3 : Nat) (x4 : Int32) (x5 : Int32) (x6 : Int32) (x7 : Int32) (M : Mem) (res : Int32 × Mem), f_X0_asked_178 k33 x0 x1 x3 x4 x5 x6 x7 M = some res → Ex X (d + 1) mX0_asked 178 [(0, .ref x0), (1, va_rf x1), (3, .ref x3), (4, .int x4), (5, .int x5), (6, .int x6), (7, .int x7)] [] M (some (.int res.1)) res.2 := by
  intro x0 x1 x3 x4 x5 x6 x7 M res  h
  unfold f_X0_asked_178 at h
  refine ex_aload_n (pc := 178) 0 dX0_asked_178 rfl rfl ?_
  refine ex_iload (pc := 179) 6 dX0_asked_179 rfl ?_
  refine ex_aload_n (pc := 181) 0 dX0_asked_181 rfl rfl ?_
  obtain ⟨q1, eq1, h⟩ := ob_some h
  refine ex_callV0r (pc := 182) dX0_asked_182 jX0_pop lmX0_114 jiX0_pop jvX0_pop (o_X0_pop eq1) rfl (Nat.le_of_ble_eq_true rfl) (s_X0_pop (by omega)  eq1) ?_
  refine ex_aload_n (pc := 185) 2 dX0_asked_185 rfl rfl ?_
  obtain ⟨v2, ev2, h⟩ := ob_some h
  refine ex_callS3r (pc := 186) dX0_asked_186 jX0_ofOne lmX0_124 jsX0_ofOne (Nat.le_of_ble_eq_true rfl) (s_X0_ofOne (by omega)  ev2) ?_
  obtain ⟨q3, eq3, h⟩ := ob_some h
  refine ex_callV1v (pc := 189) dX0_asked_189 jX0_push lmX0_117 jiX0_push jvX0_push (o_X0_push eq3) rfl (Nat.le_of_ble_eq_true rfl) (s_X0_push (by omega)  eq3) ?_
  refine ex_goto (pc := 192) 216 dX0_asked_192 rfl ?_
  refine ex_iinc (pc := 216) (x6 + 1) 5 [(6, .int (x6 + 1)), (0, .ref x0), (1, va_rf x1), (3, .ref x3), (4, .int x4), (5, .int x5), (7, .int x7)] dX0_asked_216 rfl rfl (by decide) rfl ?_
  refine ex_goto (pc := 219) 33 dX0_asked_219 rfl ?_
  refine ex_sub (lo' := [(0, .ref x0), (1, va_rf x1), (3, .ref x3), (4, .int x4), (5, .int x5), (6, .int (x6 + 1))]) [1, 2, 3, 4, 5, 0] rfl ?_
  exact hk33 _ _ _ _ _ _ _ _  h
noncomputable def f_X0_asked_33 (n0 : Nat) (x0 : Nat) (x1 : Option Nat) (x3 : Nat) (x4 : Int32) (x5 : Int32) (x6 : Int32) (M : Mem) : Option (Int32 × Mem) :=
  match n0 with
  | 0 => none
  | n + 1 =>
    if x5 ≤ x6 then
    ((f_X0_pop x0 M).bind fun q5 =>
    some (q5.1, q5.2))
    else
    ((x1).bind fun t6 =>
    (gR M 8 t6 0).bind fun v7 =>
    (rI M v7 x6).bind fun v8 =>
    (gR M 8 t6 1).bind fun v9 =>
    (rI M v9 x6).bind fun v10 =>
    if v8 = 21 then
    ((f_X0_pop x0 M).bind fun q26 =>
    if q26.1 = 0 then
    (f_X0_asked_33 n x0 (some t6) x3 x4 x5 ((jmax x6 (v10 - 1)) + 1) q26.2)
    else
    (f_X0_asked_33 n x0 (some t6) x3 x4 x5 (x6 + 1) q26.2))
    else
    (if v8 = 22 then
    (f_X0_asked_33 n x0 (some t6) x3 x4 x5 ((jmax x6 (v10 - 1)) + 1) M)
    else
    (if v8 = 27 then
    ((f_X0_push x0 v10 M).bind fun q25 =>
    f_X0_asked_33 n x0 (some t6) x3 x4 x5 (x6 + 1) q25)
    else
    (if 15 < v8 then
    (if v8 = 18 then
    (f_X0_asked_178 (f_X0_asked_33 n) x0 (some t6) x3 x4 x5 x6 v8 M)
    else
    (if v8 = 19 then
    (f_X0_asked_178 (f_X0_asked_33 n) x0 (some t6) x3 x4 x5 x6 v8 M)
    else
    (if v8 = 26 then
    (f_X0_asked_178 (f_X0_asked_33 n) x0 (some t6) x3 x4 x5 x6 v8 M)
    else
    (if v8 = 43 then
    (f_X0_asked_178 (f_X0_asked_33 n) x0 (some t6) x3 x4 x5 x6 v8 M)
    else
    ((f_X0_pop x0 M).bind fun q19 =>
    (f_X0_pop x0 q19.2).bind fun q20 =>
    (f_X0_ofTwo v8 q20.1 q19.1).bind fun v21 =>
    (f_X0_push x0 v21 q20.2).bind fun q22 =>
    f_X0_asked_33 n x0 (some t6) x3 x4 x5 (x6 + 1) q22)))))
    else
    ((f_X0_named v8 x3 x4 M).bind fun v23 =>
    (f_X0_push x0 v23 M).bind fun q24 =>
    f_X0_asked_33 n x0 (some t6) x3 x4 x5 (x6 + 1) q24)))))
set_option maxHeartbeats 4000000 in
theorem t_X0_asked_33 {X : XV} {d : Nat} (hd : 3 ≤ d + 1) : ∀ (n : Nat) (x0 : Nat) (x1 : Option Nat) (x3 : Nat) (x4 : Int32) (x5 : Int32) (x6 : Int32) (M : Mem) (res : Int32 × Mem), f_X0_asked_33 n  x0 x1 x3 x4 x5 x6 M = some res → Ex X (d + 1) mX0_asked 33 [(0, .ref x0), (1, va_rf x1), (3, .ref x3), (4, .int x4), (5, .int x5), (6, .int x6)] [] M (some (.int res.1)) res.2 := by
  intro n
  induction n with
  | zero =>
    intro x0 x1 x3 x4 x5 x6 M res  h
    unfold f_X0_asked_33 at h
    cases h
  | succ n ih =>
    intro x0 x1 x3 x4 x5 x6 M res  h
    unfold f_X0_asked_33 at h
    refine ex_iload (pc := 33) 5 dX0_asked_33 rfl ?_
    refine ex_iload (pc := 35) 4 dX0_asked_35 rfl ?_
    by_cases c4 : x5 ≤ x6
    · rw [if_pos c4] at h
      refine ex_icmp_ge_t (pc := 37) 222 dX0_asked_37 rfl c4 ?_
      refine ex_aload_n (pc := 222) 0 dX0_asked_222 rfl rfl ?_
      obtain ⟨q5, eq5, h⟩ := ob_some h
      refine ex_callV0r (pc := 223) dX0_asked_223 jX0_pop lmX0_114 jiX0_pop jvX0_pop (o_X0_pop eq5) rfl (Nat.le_of_ble_eq_true rfl) (s_X0_pop (by omega)  eq5) ?_
      cases h
      exact ex_ireturn (pc := 226) dX0_asked_226
    · rw [if_neg c4] at h
      refine ex_icmp_ge_f (pc := 37) dX0_asked_37 222 rfl c4 ?_
      refine ex_aloadq_n (pc := 40) 1 dX0_asked_40 rfl rfl ?_
      obtain ⟨t6, et6, h⟩ := ob_some h
      rw [et6]
      obtain ⟨v7, ev7, h⟩ := ob_some h
      refine ex_gR (pc := 41) ev7 dX0_asked_41 lfX0_105 ?_
      refine ex_iload (pc := 44) 5 dX0_asked_44 rfl ?_
      obtain ⟨v8, ev8, h⟩ := ob_some h
      refine ex_rI (pc := 46) ev8 dX0_asked_46 ?_
      refine ex_istore (pc := 47) [(7, .int v8), (0, .ref x0), (1, .ref t6), (3, .ref x3), (4, .int x4), (5, .int x5), (6, .int x6)] dX0_asked_47 (by decide) rfl ?_
      refine ex_aload_n (pc := 49) 2 dX0_asked_49 rfl rfl ?_
      obtain ⟨v9, ev9, h⟩ := ob_some h
      refine ex_gR (pc := 50) ev9 dX0_asked_50 lfX0_111 ?_
      refine ex_iload (pc := 53) 6 dX0_asked_53 rfl ?_
      obtain ⟨v10, ev10, h⟩ := ob_some h
      refine ex_rI (pc := 55) ev10 dX0_asked_55 ?_
      refine ex_istore (pc := 56) [(8, .int v10), (7, .int v8), (0, .ref x0), (1, .ref t6), (3, .ref x3), (4, .int x4), (5, .int x5), (6, .int x6)] dX0_asked_56 (by decide) rfl ?_
      refine ex_iload (pc := 58) 1 dX0_asked_58 rfl ?_
      refine ex_bipush (pc := 60) 21 dX0_asked_60 (by decide) ?_
      by_cases c11 : v8 = 21
      · rw [if_pos c11] at h
        refine ex_icmp_ne_f (pc := 62) dX0_asked_62 91 rfl c11 ?_
        refine ex_aload_n (pc := 65) 2 dX0_asked_65 rfl rfl ?_
        obtain ⟨q26, eq26, h⟩ := ob_some h
        refine ex_callV0r (pc := 66) dX0_asked_66 jX0_pop lmX0_114 jiX0_pop jvX0_pop (o_X0_pop eq26) rfl (Nat.le_of_ble_eq_true rfl) (s_X0_pop (by omega)  eq26) ?_
        by_cases c27 : q26.1 = 0
        · rw [if_pos c27] at h
          refine ex_if_ne_f (pc := 69) dX0_asked_69 84 rfl c27 ?_
          refine ex_iload (pc := 72) 7 dX0_asked_72 rfl ?_
          refine ex_iload (pc := 74) 0 dX0_asked_74 rfl ?_
          refine ex_iconst (pc := 76) 1 dX0_asked_76 rfl ?_
          refine ex_isub (pc := 77) dX0_asked_77 ?_
          refine ex_mmax (pc := 78) dX0_asked_78 lmX0_39 (by omega) (Nat.le_of_ble_eq_true rfl) ?_
          refine ex_goto (pc := 81) 86 dX0_asked_81 rfl ?_
          refine ex_istore (pc := 86) [(6, .int (jmax x6 (v10 - 1))), (8, .int v10), (7, .int v8), (0, .ref x0), (1, .ref t6), (3, .ref x3), (4, .int x4), (5, .int x5)] dX0_asked_86 (by decide) rfl ?_
          refine ex_goto (pc := 88) 216 dX0_asked_88 rfl ?_
          refine ex_iinc (pc := 216) ((jmax x6 (v10 - 1)) + 1) 0 [(6, .int ((jmax x6 (v10 - 1)) + 1)), (8, .int v10), (7, .int v8), (0, .ref x0), (1, .ref t6), (3, .ref x3), (4, .int x4), (5, .int x5)] dX0_asked_216 rfl rfl (by decide) rfl ?_
          refine ex_goto (pc := 219) 33 dX0_asked_219 rfl ?_
          refine ex_sub (lo' := [(0, .ref x0), (1, va_rf (some t6)), (3, .ref x3), (4, .int x4), (5, .int x5), (6, .int ((jmax x6 (v10 - 1)) + 1))]) [3, 4, 5, 6, 7, 0] rfl ?_
          exact ih _ _ _ _ _ _ _ _  h
        · rw [if_neg c27] at h
          refine ex_if_ne_t (pc := 69) 84 dX0_asked_69 rfl c27 ?_
          refine ex_iload (pc := 84) 7 dX0_asked_84 rfl ?_
          refine ex_istore (pc := 86) [(6, .int x6), (8, .int v10), (7, .int v8), (0, .ref x0), (1, .ref t6), (3, .ref x3), (4, .int x4), (5, .int x5)] dX0_asked_86 (by decide) rfl ?_
          refine ex_goto (pc := 88) 216 dX0_asked_88 rfl ?_
          refine ex_iinc (pc := 216) (x6 + 1) 0 [(6, .int (x6 + 1)), (8, .int v10), (7, .int v8), (0, .ref x0), (1, .ref t6), (3, .ref x3), (4, .int x4), (5, .int x5)] dX0_asked_216 rfl rfl (by decide) rfl ?_
          refine ex_goto (pc := 219) 33 dX0_asked_219 rfl ?_
          refine ex_sub (lo' := [(0, .ref x0), (1, va_rf (some t6)), (3, .ref x3), (4, .int x4), (5, .int x5), (6, .int (x6 + 1))]) [3, 4, 5, 6, 7, 0] rfl ?_
          exact ih _ _ _ _ _ _ _ _  h
      · rw [if_neg c11] at h
        refine ex_icmp_ne_t (pc := 62) 91 dX0_asked_62 rfl c11 ?_
        refine ex_iload (pc := 91) 1 dX0_asked_91 rfl ?_
        refine ex_bipush (pc := 93) 22 dX0_asked_93 (by decide) ?_
        by_cases c12 : v8 = 22
        · rw [if_pos c12] at h
          refine ex_icmp_ne_f (pc := 95) dX0_asked_95 112 rfl c12 ?_
          refine ex_iload (pc := 98) 7 dX0_asked_98 rfl ?_
          refine ex_iload (pc := 100) 0 dX0_asked_100 rfl ?_
          refine ex_iconst (pc := 102) 1 dX0_asked_102 rfl ?_
          refine ex_isub (pc := 103) dX0_asked_103 ?_
          refine ex_mmax (pc := 104) dX0_asked_104 lmX0_39 (by omega) (Nat.le_of_ble_eq_true rfl) ?_
          refine ex_istore (pc := 107) [(6, .int (jmax x6 (v10 - 1))), (8, .int v10), (7, .int v8), (0, .ref x0), (1, .ref t6), (3, .ref x3), (4, .int x4), (5, .int x5)] dX0_asked_107 (by decide) rfl ?_
          refine ex_goto (pc := 109) 216 dX0_asked_109 rfl ?_
          refine ex_iinc (pc := 216) ((jmax x6 (v10 - 1)) + 1) 0 [(6, .int ((jmax x6 (v10 - 1)) + 1)), (8, .int v10), (7, .int v8), (0, .ref x0), (1, .ref t6), (3, .ref x3), (4, .int x4), (5, .int x5)] dX0_asked_216 rfl rfl (by decide) rfl ?_
          refine ex_goto (pc := 219) 33 dX0_asked_219 rfl ?_
          refine ex_sub (lo' := [(0, .ref x0), (1, va_rf (some t6)), (3, .ref x3), (4, .int x4), (5, .int x5), (6, .int ((jmax x6 (v10 - 1)) + 1))]) [3, 4, 5, 6, 7, 0] rfl ?_
          exact ih _ _ _ _ _ _ _ _  h
        · rw [if_neg c12] at h
          refine ex_icmp_ne_t (pc := 95) 112 dX0_asked_95 rfl c12 ?_
          refine ex_iload (pc := 112) 1 dX0_asked_112 rfl ?_
          refine ex_bipush (pc := 114) 27 dX0_asked_114 (by decide) ?_
          by_cases c13 : v8 = 27
          · rw [if_pos c13] at h
            refine ex_icmp_ne_f (pc := 116) dX0_asked_116 128 rfl c13 ?_
            refine ex_aload_n (pc := 119) 2 dX0_asked_119 rfl rfl ?_
            refine ex_iload (pc := 120) 0 dX0_asked_120 rfl ?_
            obtain ⟨q25, eq25, h⟩ := ob_some h
            refine ex_callV1v (pc := 122) dX0_asked_122 jX0_push lmX0_117 jiX0_push jvX0_push (o_X0_push eq25) rfl (Nat.le_of_ble_eq_true rfl) (s_X0_push (by omega)  eq25) ?_
            refine ex_goto (pc := 125) 216 dX0_asked_125 rfl ?_
            refine ex_iinc (pc := 216) (x6 + 1) 7 [(6, .int (x6 + 1)), (8, .int v10), (7, .int v8), (0, .ref x0), (1, .ref t6), (3, .ref x3), (4, .int x4), (5, .int x5)] dX0_asked_216 rfl rfl (by decide) rfl ?_
            refine ex_goto (pc := 219) 33 dX0_asked_219 rfl ?_
            refine ex_sub (lo' := [(0, .ref x0), (1, va_rf (some t6)), (3, .ref x3), (4, .int x4), (5, .int x5), (6, .int (x6 + 1))]) [3, 4, 5, 6, 7, 0] rfl ?_
            exact ih _ _ _ _ _ _ _ _  h
          · rw [if_neg c13] at h
            refine ex_icmp_ne_t (pc := 116) 128 dX0_asked_116 rfl c13 ?_
            refine ex_iload (pc := 128) 1 dX0_asked_128 rfl ?_
            refine ex_bipush (pc := 130) 15 dX0_asked_130 (by decide) ?_
            by_cases c14 : 15 < v8
            · rw [if_pos c14] at h
              refine ex_icmp_gt_t (pc := 132) 150 dX0_asked_132 rfl c14 ?_
              refine ex_iload (pc := 150) 1 dX0_asked_150 rfl ?_
              refine ex_bipush (pc := 152) 18 dX0_asked_152 (by decide) ?_
              by_cases c15 : v8 = 18
              · rw [if_pos c15] at h
                refine ex_icmp_eq_t (pc := 154) 178 dX0_asked_154 rfl c15 ?_
                refine ex_sub (lo' := [(0, .ref x0), (1, va_rf (some t6)), (3, .ref x3), (4, .int x4), (5, .int x5), (6, .int x6), (7, .int v8)]) [2, 3, 4, 5, 6, 7, 1] rfl ?_
                exact t_X0_asked_178 hd ih _ _ _ _ _ _ _ _ _  h
              · rw [if_neg c15] at h
                refine ex_icmp_eq_f (pc := 154) dX0_asked_154 178 rfl c15 ?_
                refine ex_iload (pc := 157) 1 dX0_asked_157 rfl ?_
                refine ex_bipush (pc := 159) 19 dX0_asked_159 (by decide) ?_
                by_cases c16 : v8 = 19
                · rw [if_pos c16] at h
                  refine ex_icmp_eq_t (pc := 161) 178 dX0_asked_161 rfl c16 ?_
                  refine ex_sub (lo' := [(0, .ref x0), (1, va_rf (some t6)), (3, .ref x3), (4, .int x4), (5, .int x5), (6, .int x6), (7, .int v8)]) [2, 3, 4, 5, 6, 7, 1] rfl ?_
                  exact t_X0_asked_178 hd ih _ _ _ _ _ _ _ _ _  h
                · rw [if_neg c16] at h
                  refine ex_icmp_eq_f (pc := 161) dX0_asked_161 178 rfl c16 ?_
                  refine ex_iload (pc := 164) 1 dX0_asked_164 rfl ?_
                  refine ex_bipush (pc := 166) 26 dX0_asked_166 (by decide) ?_
                  by_cases c17 : v8 = 26
                  · rw [if_pos c17] at h
                    refine ex_icmp_eq_t (pc := 168) 178 dX0_asked_168 rfl c17 ?_
                    refine ex_sub (lo' := [(0, .ref x0), (1, va_rf (some t6)), (3, .ref x3), (4, .int x4), (5, .int x5), (6, .int x6), (7, .int v8)]) [2, 3, 4, 5, 6, 7, 1] rfl ?_
                    exact t_X0_asked_178 hd ih _ _ _ _ _ _ _ _ _  h
                  · rw [if_neg c17] at h
                    refine ex_icmp_eq_f (pc := 168) dX0_asked_168 178 rfl c17 ?_
                    refine ex_iload (pc := 171) 1 dX0_asked_171 rfl ?_
                    refine ex_bipush (pc := 173) 43 dX0_asked_173 (by decide) ?_
                    by_cases c18 : v8 = 43
                    · rw [if_pos c18] at h
                      refine ex_icmp_ne_f (pc := 175) dX0_asked_175 195 rfl c18 ?_
                      refine ex_sub (lo' := [(0, .ref x0), (1, va_rf (some t6)), (3, .ref x3), (4, .int x4), (5, .int x5), (6, .int x6), (7, .int v8)]) [2, 3, 4, 5, 6, 7, 1] rfl ?_
                      exact t_X0_asked_178 hd ih _ _ _ _ _ _ _ _ _  h
                    · rw [if_neg c18] at h
                      refine ex_icmp_ne_t (pc := 175) 195 dX0_asked_175 rfl c18 ?_
                      refine ex_aload_n (pc := 195) 2 dX0_asked_195 rfl rfl ?_
                      obtain ⟨q19, eq19, h⟩ := ob_some h
                      refine ex_callV0r (pc := 196) dX0_asked_196 jX0_pop lmX0_114 jiX0_pop jvX0_pop (o_X0_pop eq19) rfl (Nat.le_of_ble_eq_true rfl) (s_X0_pop (by omega)  eq19) ?_
                      refine ex_istore (pc := 199) [(9, .int q19.1), (8, .int v10), (7, .int v8), (0, .ref x0), (1, .ref t6), (3, .ref x3), (4, .int x4), (5, .int x5), (6, .int x6)] dX0_asked_199 (by decide) rfl ?_
                      refine ex_aload_n (pc := 201) 3 dX0_asked_201 rfl rfl ?_
                      refine ex_iload (pc := 202) 2 dX0_asked_202 rfl ?_
                      refine ex_aload_n (pc := 204) 3 dX0_asked_204 rfl rfl ?_
                      obtain ⟨q20, eq20, h⟩ := ob_some h
                      refine ex_callV0r (pc := 205) dX0_asked_205 jX0_pop lmX0_114 jiX0_pop jvX0_pop (o_X0_pop eq20) rfl (Nat.le_of_ble_eq_true rfl) (s_X0_pop (by omega)  eq20) ?_
                      refine ex_iload (pc := 208) 0 dX0_asked_208 rfl ?_
                      obtain ⟨v21, ev21, h⟩ := ob_some h
                      refine ex_callS3r (pc := 210) dX0_asked_210 jX0_ofTwo lmX0_128 jsX0_ofTwo (Nat.le_of_ble_eq_true rfl) (s_X0_ofTwo (by omega)  ev21) ?_
                      obtain ⟨q22, eq22, h⟩ := ob_some h
                      refine ex_callV1v (pc := 213) dX0_asked_213 jX0_push lmX0_117 jiX0_push jvX0_push (o_X0_push eq22) rfl (Nat.le_of_ble_eq_true rfl) (s_X0_push (by omega)  eq22) ?_
                      refine ex_iinc (pc := 216) (x6 + 1) 8 [(6, .int (x6 + 1)), (9, .int q19.1), (8, .int v10), (7, .int v8), (0, .ref x0), (1, .ref t6), (3, .ref x3), (4, .int x4), (5, .int x5)] dX0_asked_216 rfl rfl (by decide) rfl ?_
                      refine ex_goto (pc := 219) 33 dX0_asked_219 rfl ?_
                      refine ex_sub (lo' := [(0, .ref x0), (1, va_rf (some t6)), (3, .ref x3), (4, .int x4), (5, .int x5), (6, .int (x6 + 1))]) [4, 5, 6, 7, 8, 0] rfl ?_
                      exact ih _ _ _ _ _ _ _ _  h
            · rw [if_neg c14] at h
              refine ex_icmp_gt_f (pc := 132) dX0_asked_132 150 rfl c14 ?_
              refine ex_aload_n (pc := 135) 2 dX0_asked_135 rfl rfl ?_
              refine ex_iload (pc := 136) 1 dX0_asked_136 rfl ?_
              refine ex_aload_n (pc := 138) 4 dX0_asked_138 rfl rfl ?_
              refine ex_iload (pc := 139) 5 dX0_asked_139 rfl ?_
              obtain ⟨v23, ev23, h⟩ := ob_some h
              refine ex_callS3r (pc := 141) dX0_asked_141 jX0_named lmX0_120 jsX0_named (Nat.le_of_ble_eq_true rfl) (s_X0_named (by omega)  ev23) ?_
              obtain ⟨q24, eq24, h⟩ := ob_some h
              refine ex_callV1v (pc := 144) dX0_asked_144 jX0_push lmX0_117 jiX0_push jvX0_push (o_X0_push eq24) rfl (Nat.le_of_ble_eq_true rfl) (s_X0_push (by omega)  eq24) ?_
              refine ex_goto (pc := 147) 216 dX0_asked_147 rfl ?_
              refine ex_iinc (pc := 216) (x6 + 1) 7 [(6, .int (x6 + 1)), (8, .int v10), (7, .int v8), (0, .ref x0), (1, .ref t6), (3, .ref x3), (4, .int x4), (5, .int x5)] dX0_asked_216 rfl rfl (by decide) rfl ?_
              refine ex_goto (pc := 219) 33 dX0_asked_219 rfl ?_
              refine ex_sub (lo' := [(0, .ref x0), (1, va_rf (some t6)), (3, .ref x3), (4, .int x4), (5, .int x5), (6, .int (x6 + 1))]) [3, 4, 5, 6, 7, 0] rfl ?_
              exact ih _ _ _ _ _ _ _ _  h
noncomputable def f_X0_asked_0 (x0 : Nat) (x1 : Option Nat) (x2 : Int32) (x3 : Nat) (x4 : Int32) (M : Mem) : Option (Int32 × Mem) :=
  (pF M 0 x0 1 (.int 0)).bind fun q28 =>
  (x1).bind fun t29 =>
  (gR q28 8 t29 3).bind fun v30 =>
  (rI q28 v30 x2).bind fun v31 =>
  (gR q28 8 t29 0).bind fun v32 =>
  (lnA q28 v32).bind fun v33 =>
  (gR q28 8 t29 2).bind fun v34 =>
  (rI q28 v34 x2).bind fun v35 =>
  f_X0_asked_33 fu x0 (some t29) x3 x4 (jmin v31 v33) (jmax 0 v35) q28
set_option maxHeartbeats 4000000 in
theorem t_X0_asked_0 {X : XV} {d : Nat} (hd : 3 ≤ d + 1) : ∀ (x0 : Nat) (x1 : Option Nat) (x2 : Int32) (x3 : Nat) (x4 : Int32) (M : Mem) (res : Int32 × Mem), f_X0_asked_0  x0 x1 x2 x3 x4 M = some res → Ex X (d + 1) mX0_asked 0 [(0, .ref x0), (1, va_rf x1), (2, .int x2), (3, .ref x3), (4, .int x4)] [] M (some (.int res.1)) res.2 := by
  intro x0 x1 x2 x3 x4 M res  h
  unfold f_X0_asked_0 at h
  refine ex_aload_n (pc := 0) 0 dX0_asked_0 rfl rfl ?_
  refine ex_iconst (pc := 1) 0 dX0_asked_1 rfl ?_
  obtain ⟨q28, eq28, h⟩ := ob_some h
  refine ex_pF (pc := 2) eq28 dX0_asked_2 lfX0_99 rfl rfl (fun _ hq => by cases hq; rfl) ?_
  refine ex_aloadq_n (pc := 5) 1 dX0_asked_5 rfl rfl ?_
  obtain ⟨t29, et29, h⟩ := ob_some h
  rw [et29]
  obtain ⟨v30, ev30, h⟩ := ob_some h
  refine ex_gR (pc := 6) ev30 dX0_asked_6 lfX0_102 ?_
  refine ex_iload_n (pc := 9) 2 dX0_asked_9 rfl rfl ?_
  obtain ⟨v31, ev31, h⟩ := ob_some h
  refine ex_rI (pc := 10) ev31 dX0_asked_10 ?_
  refine ex_aload_n (pc := 11) 1 dX0_asked_11 rfl rfl ?_
  obtain ⟨v32, ev32, h⟩ := ob_some h
  refine ex_gR (pc := 12) ev32 dX0_asked_12 lfX0_105 ?_
  obtain ⟨v33, ev33, h⟩ := ob_some h
  refine ex_ln (pc := 15) ev33 dX0_asked_15 ?_
  refine ex_mmin (pc := 16) dX0_asked_16 lmX0_33 (by omega) (Nat.le_of_ble_eq_true rfl) ?_
  refine ex_istore (pc := 19) [(5, .int (jmin v31 v33)), (0, .ref x0), (1, .ref t29), (2, .int x2), (3, .ref x3), (4, .int x4)] dX0_asked_19 (by decide) rfl ?_
  refine ex_iconst (pc := 21) 0 dX0_asked_21 rfl ?_
  refine ex_aload_n (pc := 22) 2 dX0_asked_22 rfl rfl ?_
  obtain ⟨v34, ev34, h⟩ := ob_some h
  refine ex_gR (pc := 23) ev34 dX0_asked_23 lfX0_108 ?_
  refine ex_iload_n (pc := 26) 3 dX0_asked_26 rfl rfl ?_
  obtain ⟨v35, ev35, h⟩ := ob_some h
  refine ex_rI (pc := 27) ev35 dX0_asked_27 ?_
  refine ex_mmax (pc := 28) dX0_asked_28 lmX0_39 (by omega) (Nat.le_of_ble_eq_true rfl) ?_
  refine ex_istore (pc := 31) [(6, .int (jmax 0 v35)), (5, .int (jmin v31 v33)), (0, .ref x0), (1, .ref t29), (2, .int x2), (3, .ref x3), (4, .int x4)] dX0_asked_31 (by decide) rfl ?_
  refine ex_sub (lo' := [(0, .ref x0), (1, va_rf (some t29)), (3, .ref x3), (4, .int x4), (5, .int (jmin v31 v33)), (6, .int (jmax 0 v35))]) [2, 3, 5, 6, 1, 0] rfl ?_
  exact t_X0_asked_33 hd  _ _ _ _ _ _ _ _ _  h
noncomputable def f_X0_asked (x0 : Nat) (x1 : Option Nat) (x2 : Int32) (x3 : Nat) (x4 : Int32) (M : Mem) : Option (Int32 × Mem) := if isOb M 0 x0 = true then f_X0_asked_0 x0 x1 x2 x3 x4 M else none
theorem o_X0_asked {x0 : Nat} {x1 : Option Nat} {x2 : Int32} {x3 : Nat} {x4 : Int32} {M : Mem} {res : Int32 × Mem} (h : f_X0_asked x0 x1 x2 x3 x4 M = some res) : isO M 0 x0 := by
  unfold f_X0_asked at h
  split at h
  · rename_i hc; exact isOb_iff hc
  · cases h
set_option maxHeartbeats 4000000 in
theorem s_X0_asked {X : XV} {d : Nat} (hd : 3 ≤ d) {x0 : Nat} {x1 : Option Nat} {x2 : Int32} {x3 : Nat} {x4 : Int32} {M : Mem} {res : Int32 × Mem} (h : f_X0_asked x0 x1 x2 x3 x4 M = some res) : Mx X d mX0_asked [.ref x0, va_rf x1, .int x2, .ref x3, .int x4] M (some (.int res.1)) res.2 := by
  obtain ⟨d, rfl⟩ : ∃ e, d = e + 1 := ⟨d - 1, by omega⟩
  unfold f_X0_asked at h
  split at h
  rotate_left
  · cases h
  cases x1 <;>
    (refine Mx.of (by decide) (Nat.le_of_ble_eq_true rfl) (⟨_, rfl, rfl⟩) ?_; exact ex_sub [0, 1, 2, 3, 4] rfl (t_X0_asked_0 hd _ _ _ _ _ _ _  h))
noncomputable def f_X0_loose_0 (x0 : Nat) (x1 : Option Nat) (x2 : Nat) (x3 : Int32) (M : Mem) : Option (Int32 × Mem) :=
  (gR M 9 x2 7).bind fun v1 =>
  (rI M v1 x3).bind fun v2 =>
  (gR M 9 x2 4).bind fun v3 =>
  (rI M v3 x3).bind fun v4 =>
  if x1 = none then
  (some ((jmax 0 (jmin 10 (v2 - (v4 / 3)))), M))
  else
  ((x1).bind fun t7 =>
  (f_X8_hasLaw t7 0 M).bind fun v8 =>
  if v8 = false then
  (some ((jmax 0 (jmin 10 (v2 - (v4 / 3)))), M))
  else
  ((f_X0_asked x0 (some t7) 0 x2 x3 M).bind fun q10 =>
  some ((jmax 0 (jmin 10 q10.1)), q10.2)))
set_option maxHeartbeats 4000000 in
theorem t_X0_loose_0 {X : XV} {d : Nat} (hd : 4 ≤ d + 1) : ∀ (x0 : Nat) (x1 : Option Nat) (x2 : Nat) (x3 : Int32) (M : Mem) (res : Int32 × Mem), f_X0_loose_0  x0 x1 x2 x3 M = some res → Ex X (d + 1) mX0_loose 0 [(0, .ref x0), (1, va_rf x1), (2, .ref x2), (3, .int x3)] [] M (some (.int res.1)) res.2 := by
  intro x0 x1 x2 x3 M res  h
  unfold f_X0_loose_0 at h
  refine ex_aload_n (pc := 0) 2 dX0_loose_0 rfl rfl ?_
  obtain ⟨v1, ev1, h⟩ := ob_some h
  refine ex_gR (pc := 1) ev1 dX0_loose_1 lfX0_15 ?_
  refine ex_iload_n (pc := 4) 3 dX0_loose_4 rfl rfl ?_
  obtain ⟨v2, ev2, h⟩ := ob_some h
  refine ex_rI (pc := 5) ev2 dX0_loose_5 ?_
  refine ex_aload_n (pc := 6) 2 dX0_loose_6 rfl rfl ?_
  obtain ⟨v3, ev3, h⟩ := ob_some h
  refine ex_gR (pc := 7) ev3 dX0_loose_7 lfX0_20 ?_
  refine ex_iload_n (pc := 10) 3 dX0_loose_10 rfl rfl ?_
  obtain ⟨v4, ev4, h⟩ := ob_some h
  refine ex_rI (pc := 11) ev4 dX0_loose_11 ?_
  refine ex_iconst (pc := 12) 3 dX0_loose_12 rfl ?_
  refine ex_idiv (pc := 13) dX0_loose_13 (by decide) ?_
  refine ex_isub (pc := 14) dX0_loose_14 ?_
  refine ex_istore (pc := 15) [(4, .int (v2 - (v4 / 3))), (0, .ref x0), (1, va_rf x1), (2, .ref x2), (3, .int x3)] dX0_loose_15 (by decide) rfl ?_
  refine ex_aloadq_n (pc := 17) 2 dX0_loose_17 rfl rfl ?_
  by_cases c5 : x1 = none
  · rw [if_pos c5] at h
    refine ex_ifnullq_t (pc := 18) 39 dX0_loose_18 rfl c5 ?_
    refine ex_iconst (pc := 39) 0 dX0_loose_39 rfl ?_
    refine ex_bipush (pc := 40) 10 dX0_loose_40 (by decide) ?_
    refine ex_iload (pc := 42) 0 dX0_loose_42 rfl ?_
    refine ex_mmin (pc := 44) dX0_loose_44 lmX0_33 (by omega) (Nat.le_of_ble_eq_true rfl) ?_
    refine ex_mmax (pc := 47) dX0_loose_47 lmX0_39 (by omega) (Nat.le_of_ble_eq_true rfl) ?_
    cases h
    exact ex_ireturn (pc := 50) dX0_loose_50
  · rw [if_neg c5] at h
    obtain ⟨t6, et6⟩ := Option.ne_none_iff_exists'.mp c5
    refine ex_ifnullq_f (pc := 18) dX0_loose_18 et6 ?_
    refine ex_aloadq_n (pc := 21) 2 dX0_loose_21 rfl rfl ?_
    refine ex_iconst (pc := 22) 0 dX0_loose_22 rfl ?_
    obtain ⟨t7, et7, h⟩ := ob_some h
    rw [et7]
    obtain ⟨v8, ev8, h⟩ := ob_some h
    refine ex_callV1r (pc := 23) dX0_loose_23 jX8_hasLaw lmX0_23 jiX8_hasLaw jvX8_hasLaw (o_X8_hasLaw ev8) rfl (Nat.le_of_ble_eq_true rfl) (s_X8_hasLaw (by omega)  ev8) ?_
    by_cases c9 : v8 = false
    · rw [if_pos c9] at h
      refine ex_if_eq_t (pc := 26) 39 dX0_loose_26 rfl (jz_eq_t c9) ?_
      refine ex_iconst (pc := 39) 0 dX0_loose_39 rfl ?_
      refine ex_bipush (pc := 40) 10 dX0_loose_40 (by decide) ?_
      refine ex_iload (pc := 42) 0 dX0_loose_42 rfl ?_
      refine ex_mmin (pc := 44) dX0_loose_44 lmX0_33 (by omega) (Nat.le_of_ble_eq_true rfl) ?_
      refine ex_mmax (pc := 47) dX0_loose_47 lmX0_39 (by omega) (Nat.le_of_ble_eq_true rfl) ?_
      cases h
      exact ex_ireturn (pc := 50) dX0_loose_50
    · rw [if_neg c9] at h
      refine ex_if_eq_f (pc := 26) dX0_loose_26 39 rfl (jz_eq_f c9) ?_
      refine ex_aload_n (pc := 29) 1 dX0_loose_29 rfl rfl ?_
      refine ex_aload_n (pc := 30) 2 dX0_loose_30 rfl rfl ?_
      refine ex_iconst (pc := 31) 0 dX0_loose_31 rfl ?_
      refine ex_aload_n (pc := 32) 3 dX0_loose_32 rfl rfl ?_
      refine ex_iload_n (pc := 33) 4 dX0_loose_33 rfl rfl ?_
      obtain ⟨q10, eq10, h⟩ := ob_some h
      refine ex_callV4r (pc := 34) dX0_loose_34 jX0_asked lmX0_29 jiX0_asked jvX0_asked (o_X0_asked eq10) rfl (Nat.le_of_ble_eq_true rfl) (s_X0_asked (by omega)  eq10) ?_
      refine ex_istore (pc := 37) [(4, .int q10.1), (0, .ref x0), (1, .ref t7), (2, .ref x2), (3, .int x3)] dX0_loose_37 (by decide) rfl ?_
      refine ex_iconst (pc := 39) 0 dX0_loose_39 rfl ?_
      refine ex_bipush (pc := 40) 10 dX0_loose_40 (by decide) ?_
      refine ex_iload (pc := 42) 0 dX0_loose_42 rfl ?_
      refine ex_mmin (pc := 44) dX0_loose_44 lmX0_33 (by omega) (Nat.le_of_ble_eq_true rfl) ?_
      refine ex_mmax (pc := 47) dX0_loose_47 lmX0_39 (by omega) (Nat.le_of_ble_eq_true rfl) ?_
      cases h
      exact ex_ireturn (pc := 50) dX0_loose_50
noncomputable def f_X0_loose (x0 : Nat) (x1 : Option Nat) (x2 : Nat) (x3 : Int32) (M : Mem) : Option (Int32 × Mem) := if isOb M 0 x0 = true then f_X0_loose_0 x0 x1 x2 x3 M else none
theorem o_X0_loose {x0 : Nat} {x1 : Option Nat} {x2 : Nat} {x3 : Int32} {M : Mem} {res : Int32 × Mem} (h : f_X0_loose x0 x1 x2 x3 M = some res) : isO M 0 x0 := by
  unfold f_X0_loose at h
  split at h
  · rename_i hc; exact isOb_iff hc
  · cases h
set_option maxHeartbeats 4000000 in
theorem s_X0_loose {X : XV} {d : Nat} (hd : 4 ≤ d) {x0 : Nat} {x1 : Option Nat} {x2 : Nat} {x3 : Int32} {M : Mem} {res : Int32 × Mem} (h : f_X0_loose x0 x1 x2 x3 M = some res) : Mx X d mX0_loose [.ref x0, va_rf x1, .ref x2, .int x3] M (some (.int res.1)) res.2 := by
  obtain ⟨d, rfl⟩ : ∃ e, d = e + 1 := ⟨d - 1, by omega⟩
  unfold f_X0_loose at h
  split at h
  rotate_left
  · cases h
  cases x1 <;>
    (refine Mx.of (by decide) (Nat.le_of_ble_eq_true rfl) (⟨_, rfl, rfl⟩) ?_; exact ex_sub [0, 1, 2, 3] rfl (t_X0_loose_0 hd _ _ _ _ _ _  h))
noncomputable def f_X0_believes_0 (x0 : Nat) (x1 : Option Nat) (x2 : Nat) (x3 : Int32) (M : Mem) : Option (Int32 × Mem) :=
  if x1 = none then
  (some ((jmax 0 (jmin 10 2)), M))
  else
  ((x1).bind fun t3 =>
  (f_X8_hasLaw t3 1 M).bind fun v4 =>
  if v4 = false then
  (some ((jmax 0 (jmin 10 2)), M))
  else
  ((f_X0_asked x0 (some t3) 1 x2 x3 M).bind fun q6 =>
  some ((jmax 0 (jmin 10 q6.1)), q6.2)))
set_option maxHeartbeats 4000000 in
theorem t_X0_believes_0 {X : XV} {d : Nat} (hd : 4 ≤ d + 1) : ∀ (x0 : Nat) (x1 : Option Nat) (x2 : Nat) (x3 : Int32) (M : Mem) (res : Int32 × Mem), f_X0_believes_0  x0 x1 x2 x3 M = some res → Ex X (d + 1) mX0_believes 0 [(0, .ref x0), (1, va_rf x1), (2, .ref x2), (3, .int x3)] [] M (some (.int res.1)) res.2 := by
  intro x0 x1 x2 x3 M res  h
  unfold f_X0_believes_0 at h
  refine ex_iconst (pc := 0) 2 dX0_believes_0 rfl ?_
  refine ex_istore (pc := 1) [(4, .int 2), (0, .ref x0), (1, va_rf x1), (2, .ref x2), (3, .int x3)] dX0_believes_1 (by decide) rfl ?_
  refine ex_aloadq_n (pc := 3) 2 dX0_believes_3 rfl rfl ?_
  by_cases c1 : x1 = none
  · rw [if_pos c1] at h
    refine ex_ifnullq_t (pc := 4) 25 dX0_believes_4 rfl c1 ?_
    refine ex_iconst (pc := 25) 0 dX0_believes_25 rfl ?_
    refine ex_bipush (pc := 26) 10 dX0_believes_26 (by decide) ?_
    refine ex_iload (pc := 28) 0 dX0_believes_28 rfl ?_
    refine ex_mmin (pc := 30) dX0_believes_30 lmX0_33 (by omega) (Nat.le_of_ble_eq_true rfl) ?_
    refine ex_mmax (pc := 33) dX0_believes_33 lmX0_39 (by omega) (Nat.le_of_ble_eq_true rfl) ?_
    cases h
    exact ex_ireturn (pc := 36) dX0_believes_36
  · rw [if_neg c1] at h
    obtain ⟨t2, et2⟩ := Option.ne_none_iff_exists'.mp c1
    refine ex_ifnullq_f (pc := 4) dX0_believes_4 et2 ?_
    refine ex_aloadq_n (pc := 7) 2 dX0_believes_7 rfl rfl ?_
    refine ex_iconst (pc := 8) 1 dX0_believes_8 rfl ?_
    obtain ⟨t3, et3, h⟩ := ob_some h
    rw [et3]
    obtain ⟨v4, ev4, h⟩ := ob_some h
    refine ex_callV1r (pc := 9) dX0_believes_9 jX8_hasLaw lmX0_23 jiX8_hasLaw jvX8_hasLaw (o_X8_hasLaw ev4) rfl (Nat.le_of_ble_eq_true rfl) (s_X8_hasLaw (by omega)  ev4) ?_
    by_cases c5 : v4 = false
    · rw [if_pos c5] at h
      refine ex_if_eq_t (pc := 12) 25 dX0_believes_12 rfl (jz_eq_t c5) ?_
      refine ex_iconst (pc := 25) 0 dX0_believes_25 rfl ?_
      refine ex_bipush (pc := 26) 10 dX0_believes_26 (by decide) ?_
      refine ex_iload (pc := 28) 0 dX0_believes_28 rfl ?_
      refine ex_mmin (pc := 30) dX0_believes_30 lmX0_33 (by omega) (Nat.le_of_ble_eq_true rfl) ?_
      refine ex_mmax (pc := 33) dX0_believes_33 lmX0_39 (by omega) (Nat.le_of_ble_eq_true rfl) ?_
      cases h
      exact ex_ireturn (pc := 36) dX0_believes_36
    · rw [if_neg c5] at h
      refine ex_if_eq_f (pc := 12) dX0_believes_12 25 rfl (jz_eq_f c5) ?_
      refine ex_aload_n (pc := 15) 1 dX0_believes_15 rfl rfl ?_
      refine ex_aload_n (pc := 16) 2 dX0_believes_16 rfl rfl ?_
      refine ex_iconst (pc := 17) 1 dX0_believes_17 rfl ?_
      refine ex_aload_n (pc := 18) 3 dX0_believes_18 rfl rfl ?_
      refine ex_iload_n (pc := 19) 4 dX0_believes_19 rfl rfl ?_
      obtain ⟨q6, eq6, h⟩ := ob_some h
      refine ex_callV4r (pc := 20) dX0_believes_20 jX0_asked lmX0_29 jiX0_asked jvX0_asked (o_X0_asked eq6) rfl (Nat.le_of_ble_eq_true rfl) (s_X0_asked (by omega)  eq6) ?_
      refine ex_istore (pc := 23) [(4, .int q6.1), (0, .ref x0), (1, .ref t3), (2, .ref x2), (3, .int x3)] dX0_believes_23 (by decide) rfl ?_
      refine ex_iconst (pc := 25) 0 dX0_believes_25 rfl ?_
      refine ex_bipush (pc := 26) 10 dX0_believes_26 (by decide) ?_
      refine ex_iload (pc := 28) 0 dX0_believes_28 rfl ?_
      refine ex_mmin (pc := 30) dX0_believes_30 lmX0_33 (by omega) (Nat.le_of_ble_eq_true rfl) ?_
      refine ex_mmax (pc := 33) dX0_believes_33 lmX0_39 (by omega) (Nat.le_of_ble_eq_true rfl) ?_
      cases h
      exact ex_ireturn (pc := 36) dX0_believes_36
noncomputable def f_X0_believes (x0 : Nat) (x1 : Option Nat) (x2 : Nat) (x3 : Int32) (M : Mem) : Option (Int32 × Mem) := if isOb M 0 x0 = true then f_X0_believes_0 x0 x1 x2 x3 M else none
theorem o_X0_believes {x0 : Nat} {x1 : Option Nat} {x2 : Nat} {x3 : Int32} {M : Mem} {res : Int32 × Mem} (h : f_X0_believes x0 x1 x2 x3 M = some res) : isO M 0 x0 := by
  unfold f_X0_believes at h
  split at h
  · rename_i hc; exact isOb_iff hc
  · cases h
set_option maxHeartbeats 4000000 in
theorem s_X0_believes {X : XV} {d : Nat} (hd : 4 ≤ d) {x0 : Nat} {x1 : Option Nat} {x2 : Nat} {x3 : Int32} {M : Mem} {res : Int32 × Mem} (h : f_X0_believes x0 x1 x2 x3 M = some res) : Mx X d mX0_believes [.ref x0, va_rf x1, .ref x2, .int x3] M (some (.int res.1)) res.2 := by
  obtain ⟨d, rfl⟩ : ∃ e, d = e + 1 := ⟨d - 1, by omega⟩
  unfold f_X0_believes at h
  split at h
  rotate_left
  · cases h
  cases x1 <;>
    (refine Mx.of (by decide) (Nat.le_of_ble_eq_true rfl) (⟨_, rfl, rfl⟩) ?_; exact ex_sub [0, 1, 2, 3] rfl (t_X0_believes_0 hd _ _ _ _ _ _  h))
noncomputable def f_X0_wears_14 (x0 : Nat) (x1 : Option Nat) (x2 : Nat) (x3 : Int32) (s0 : Bool) (M : Mem) : Option (Int32 × Mem) :=
  if x1 = none then
  (some ((jmax 0 (jmin 9 (jz s0))), M))
  else
  ((x1).bind fun t3 =>
  (f_X8_hasLaw t3 2 M).bind fun v4 =>
  if v4 = false then
  (some ((jmax 0 (jmin 9 (jz s0))), M))
  else
  ((f_X0_asked x0 (some t3) 2 x2 x3 M).bind fun q6 =>
  some ((jmax 0 (jmin 9 q6.1)), q6.2)))
set_option maxHeartbeats 4000000 in
theorem t_X0_wears_14 {X : XV} {d : Nat} (hd : 4 ≤ d + 1) : ∀ (x0 : Nat) (x1 : Option Nat) (x2 : Nat) (x3 : Int32) (s0 : Bool) (M : Mem) (res : Int32 × Mem), f_X0_wears_14  x0 x1 x2 x3 s0 M = some res → Ex X (d + 1) mX0_wears 14 [(0, .ref x0), (1, va_rf x1), (2, .ref x2), (3, .int x3)] [.int (jz s0)] M (some (.int res.1)) res.2 := by
  intro x0 x1 x2 x3 s0 M res  h
  unfold f_X0_wears_14 at h
  refine ex_istore (pc := 14) [(4, .int (jz s0)), (0, .ref x0), (1, va_rf x1), (2, .ref x2), (3, .int x3)] dX0_wears_14 (by decide) rfl ?_
  refine ex_aloadq_n (pc := 16) 2 dX0_wears_16 rfl rfl ?_
  by_cases c1 : x1 = none
  · rw [if_pos c1] at h
    refine ex_ifnullq_t (pc := 17) 38 dX0_wears_17 rfl c1 ?_
    refine ex_iconst (pc := 38) 0 dX0_wears_38 rfl ?_
    refine ex_bipush (pc := 39) 9 dX0_wears_39 (by decide) ?_
    refine ex_iload (pc := 41) 0 dX0_wears_41 rfl ?_
    refine ex_mmin (pc := 43) dX0_wears_43 lmX0_33 (by omega) (Nat.le_of_ble_eq_true rfl) ?_
    refine ex_mmax (pc := 46) dX0_wears_46 lmX0_39 (by omega) (Nat.le_of_ble_eq_true rfl) ?_
    cases h
    exact ex_ireturn (pc := 49) dX0_wears_49
  · rw [if_neg c1] at h
    obtain ⟨t2, et2⟩ := Option.ne_none_iff_exists'.mp c1
    refine ex_ifnullq_f (pc := 17) dX0_wears_17 et2 ?_
    refine ex_aloadq_n (pc := 20) 2 dX0_wears_20 rfl rfl ?_
    refine ex_iconst (pc := 21) 2 dX0_wears_21 rfl ?_
    obtain ⟨t3, et3, h⟩ := ob_some h
    rw [et3]
    obtain ⟨v4, ev4, h⟩ := ob_some h
    refine ex_callV1r (pc := 22) dX0_wears_22 jX8_hasLaw lmX0_23 jiX8_hasLaw jvX8_hasLaw (o_X8_hasLaw ev4) rfl (Nat.le_of_ble_eq_true rfl) (s_X8_hasLaw (by omega)  ev4) ?_
    by_cases c5 : v4 = false
    · rw [if_pos c5] at h
      refine ex_if_eq_t (pc := 25) 38 dX0_wears_25 rfl (jz_eq_t c5) ?_
      refine ex_iconst (pc := 38) 0 dX0_wears_38 rfl ?_
      refine ex_bipush (pc := 39) 9 dX0_wears_39 (by decide) ?_
      refine ex_iload (pc := 41) 0 dX0_wears_41 rfl ?_
      refine ex_mmin (pc := 43) dX0_wears_43 lmX0_33 (by omega) (Nat.le_of_ble_eq_true rfl) ?_
      refine ex_mmax (pc := 46) dX0_wears_46 lmX0_39 (by omega) (Nat.le_of_ble_eq_true rfl) ?_
      cases h
      exact ex_ireturn (pc := 49) dX0_wears_49
    · rw [if_neg c5] at h
      refine ex_if_eq_f (pc := 25) dX0_wears_25 38 rfl (jz_eq_f c5) ?_
      refine ex_aload_n (pc := 28) 1 dX0_wears_28 rfl rfl ?_
      refine ex_aload_n (pc := 29) 2 dX0_wears_29 rfl rfl ?_
      refine ex_iconst (pc := 30) 2 dX0_wears_30 rfl ?_
      refine ex_aload_n (pc := 31) 3 dX0_wears_31 rfl rfl ?_
      refine ex_iload_n (pc := 32) 4 dX0_wears_32 rfl rfl ?_
      obtain ⟨q6, eq6, h⟩ := ob_some h
      refine ex_callV4r (pc := 33) dX0_wears_33 jX0_asked lmX0_29 jiX0_asked jvX0_asked (o_X0_asked eq6) rfl (Nat.le_of_ble_eq_true rfl) (s_X0_asked (by omega)  eq6) ?_
      refine ex_istore (pc := 36) [(4, .int q6.1), (0, .ref x0), (1, .ref t3), (2, .ref x2), (3, .int x3)] dX0_wears_36 (by decide) rfl ?_
      refine ex_iconst (pc := 38) 0 dX0_wears_38 rfl ?_
      refine ex_bipush (pc := 39) 9 dX0_wears_39 (by decide) ?_
      refine ex_iload (pc := 41) 0 dX0_wears_41 rfl ?_
      refine ex_mmin (pc := 43) dX0_wears_43 lmX0_33 (by omega) (Nat.le_of_ble_eq_true rfl) ?_
      refine ex_mmax (pc := 46) dX0_wears_46 lmX0_39 (by omega) (Nat.le_of_ble_eq_true rfl) ?_
      cases h
      exact ex_ireturn (pc := 49) dX0_wears_49
noncomputable def f_X0_wears_0 (x0 : Nat) (x1 : Option Nat) (x2 : Nat) (x3 : Int32) (M : Mem) : Option (Int32 × Mem) :=
  (gR M 9 x2 7).bind fun v7 =>
  (rI M v7 x3).bind fun v8 =>
  if v8 = 0 then
  (f_X0_wears_14 x0 x1 x2 x3 true M)
  else
  (f_X0_wears_14 x0 x1 x2 x3 false M)
set_option maxHeartbeats 4000000 in
theorem t_X0_wears_0 {X : XV} {d : Nat} (hd : 4 ≤ d + 1) : ∀ (x0 : Nat) (x1 : Option Nat) (x2 : Nat) (x3 : Int32) (M : Mem) (res : Int32 × Mem), f_X0_wears_0  x0 x1 x2 x3 M = some res → Ex X (d + 1) mX0_wears 0 [(0, .ref x0), (1, va_rf x1), (2, .ref x2), (3, .int x3)] [] M (some (.int res.1)) res.2 := by
  intro x0 x1 x2 x3 M res  h
  unfold f_X0_wears_0 at h
  refine ex_aload_n (pc := 0) 2 dX0_wears_0 rfl rfl ?_
  obtain ⟨v7, ev7, h⟩ := ob_some h
  refine ex_gR (pc := 1) ev7 dX0_wears_1 lfX0_15 ?_
  refine ex_iload_n (pc := 4) 3 dX0_wears_4 rfl rfl ?_
  obtain ⟨v8, ev8, h⟩ := ob_some h
  refine ex_rI (pc := 5) ev8 dX0_wears_5 ?_
  by_cases c9 : v8 = 0
  · rw [if_pos c9] at h
    refine ex_if_ne_f (pc := 6) dX0_wears_6 13 rfl c9 ?_
    refine ex_iconst (pc := 9) 1 dX0_wears_9 rfl ?_
    refine ex_goto (pc := 10) 14 dX0_wears_10 rfl ?_
    refine ex_sub (lo' := [(0, .ref x0), (1, va_rf x1), (2, .ref x2), (3, .int x3)]) [0, 1, 2, 3] rfl ?_
    exact t_X0_wears_14 hd  _ _ _ _ _ _ _  h
  · rw [if_neg c9] at h
    refine ex_if_ne_t (pc := 6) 13 dX0_wears_6 rfl c9 ?_
    refine ex_iconst (pc := 13) 0 dX0_wears_13 rfl ?_
    refine ex_sub (lo' := [(0, .ref x0), (1, va_rf x1), (2, .ref x2), (3, .int x3)]) [0, 1, 2, 3] rfl ?_
    exact t_X0_wears_14 hd  _ _ _ _ _ _ _  h
noncomputable def f_X0_wears (x0 : Nat) (x1 : Option Nat) (x2 : Nat) (x3 : Int32) (M : Mem) : Option (Int32 × Mem) := if isOb M 0 x0 = true then f_X0_wears_0 x0 x1 x2 x3 M else none
theorem o_X0_wears {x0 : Nat} {x1 : Option Nat} {x2 : Nat} {x3 : Int32} {M : Mem} {res : Int32 × Mem} (h : f_X0_wears x0 x1 x2 x3 M = some res) : isO M 0 x0 := by
  unfold f_X0_wears at h
  split at h
  · rename_i hc; exact isOb_iff hc
  · cases h
set_option maxHeartbeats 4000000 in
theorem s_X0_wears {X : XV} {d : Nat} (hd : 4 ≤ d) {x0 : Nat} {x1 : Option Nat} {x2 : Nat} {x3 : Int32} {M : Mem} {res : Int32 × Mem} (h : f_X0_wears x0 x1 x2 x3 M = some res) : Mx X d mX0_wears [.ref x0, va_rf x1, .ref x2, .int x3] M (some (.int res.1)) res.2 := by
  obtain ⟨d, rfl⟩ : ∃ e, d = e + 1 := ⟨d - 1, by omega⟩
  unfold f_X0_wears at h
  split at h
  rotate_left
  · cases h
  cases x1 <;>
    (refine Mx.of (by decide) (Nat.le_of_ble_eq_true rfl) (⟨_, rfl, rfl⟩) ?_; exact ex_sub [0, 1, 2, 3] rfl (t_X0_wears_0 hd _ _ _ _ _ _  h))
noncomputable def f_X10_digitAt_0 (x0 : Int32) (x1 : Int32) : Option (Int32) :=
  (f_X10_digitCount x0).bind fun v1 =>
  (f_X10_within ((v1 - 1) - x1) 0 (4 - 1)).bind fun v2 =>
  if v2 = false then
  (some 0)
  else
  ((powR ((v1 - 1) - x1)).bind fun v4 =>
  (dvI x0 v4).bind fun v5 =>
  some (jrem v5 10))
set_option maxHeartbeats 4000000 in
theorem t_X10_digitAt_0 {X : XV} {d : Nat} {M : Mem} (hd : 2 ≤ d + 1) : ∀ (x0 : Int32) (x1 : Int32) (res : Int32), f_X10_digitAt_0  x0 x1 = some res → Ex X (d + 1) mX10_digitAt 0 [(0, .int x0), (1, .int x1)] [] M (some (.int res)) M := by
  intro x0 x1 res  h
  unfold f_X10_digitAt_0 at h
  refine ex_iload_n (pc := 0) 0 dX10_digitAt_0 rfl rfl ?_
  obtain ⟨v1, ev1, h⟩ := ob_some h
  refine ex_callS1r (pc := 1) dX10_digitAt_1 jX10_digitCount lmX10_335 jsX10_digitCount (Nat.le_of_ble_eq_true rfl) (s_X10_digitCount (by omega)  ev1) ?_
  refine ex_iconst (pc := 4) 1 dX10_digitAt_4 rfl ?_
  refine ex_isub (pc := 5) dX10_digitAt_5 ?_
  refine ex_iload_n (pc := 6) 1 dX10_digitAt_6 rfl rfl ?_
  refine ex_isub (pc := 7) dX10_digitAt_7 ?_
  refine ex_istore_n (pc := 8) [(2, .int ((v1 - 1) - x1)), (0, .int x0), (1, .int x1)] dX10_digitAt_8 rfl (by decide) rfl ?_
  refine ex_iload_n (pc := 9) 0 dX10_digitAt_9 rfl rfl ?_
  refine ex_iconst (pc := 10) 0 dX10_digitAt_10 rfl ?_
  refine ex_pows (pc := 11) dX10_digitAt_11 lsX10_366 ?_
  refine ex_powlen (pc := 14) dX10_digitAt_14 ?_
  refine ex_iconst (pc := 15) 1 dX10_digitAt_15 rfl ?_
  refine ex_isub (pc := 16) dX10_digitAt_16 ?_
  obtain ⟨v2, ev2, h⟩ := ob_some h
  refine ex_callS3r (pc := 17) dX10_digitAt_17 jX10_within lmX10_70 jsX10_within (Nat.le_of_ble_eq_true rfl) (s_X10_within (by omega)  ev2) ?_
  by_cases c3 : v2 = false
  · rw [if_pos c3] at h
    refine ex_if_eq_t (pc := 20) 36 dX10_digitAt_20 rfl (jz_eq_t c3) ?_
    refine ex_iconst (pc := 36) 0 dX10_digitAt_36 rfl ?_
    cases h
    exact ex_ireturn (pc := 37) dX10_digitAt_37
  · rw [if_neg c3] at h
    refine ex_if_eq_f (pc := 20) dX10_digitAt_20 36 rfl (jz_eq_f c3) ?_
    refine ex_iload_n (pc := 23) 1 dX10_digitAt_23 rfl rfl ?_
    refine ex_pows (pc := 24) dX10_digitAt_24 lsX10_366 ?_
    refine ex_iload_n (pc := 27) 0 dX10_digitAt_27 rfl rfl ?_
    obtain ⟨v4, ev4, h⟩ := ob_some h
    refine ex_powR (pc := 28) ev4 dX10_digitAt_28 ?_
    obtain ⟨v5, ev5, h⟩ := ob_some h
    refine ex_idivq (pc := 29) ev5 dX10_digitAt_29 ?_
    refine ex_bipush (pc := 30) 10 dX10_digitAt_30 (by decide) ?_
    refine ex_irem (pc := 32) dX10_digitAt_32 (by decide) ?_
    refine ex_goto (pc := 33) 37 dX10_digitAt_33 rfl ?_
    cases h
    exact ex_ireturn (pc := 37) dX10_digitAt_37
noncomputable def f_X10_digitAt (x0 : Int32) (x1 : Int32) : Option (Int32) := f_X10_digitAt_0 x0 x1
set_option maxHeartbeats 4000000 in
theorem s_X10_digitAt {X : XV} {d : Nat} (hd : 2 ≤ d) {x0 : Int32} {x1 : Int32} {M : Mem} {res : Int32} (h : f_X10_digitAt x0 x1 = some res) : Mx X d mX10_digitAt [.int x0, .int x1] M (some (.int res)) M := by
  obtain ⟨d, rfl⟩ : ∃ e, d = e + 1 := ⟨d - 1, by omega⟩
  unfold f_X10_digitAt at h
  refine Mx.of (by decide) (Nat.le_of_ble_eq_true rfl) (⟨_, rfl, rfl⟩) ?_
  exact ex_sub (lo' := [(0, .int x0), (1, .int x1)]) [0, 1] rfl (t_X10_digitAt_0 hd _ _ _  h)
noncomputable def f_X9_renewX_0 (x0 : Nat) (M : Mem) : Option (Mem) :=
  (gI M 9 x0 2).bind fun v1 =>
  (pF M 9 x0 2 (.int (jrem ((v1 * 433) + 313) 30557))).bind fun q2 =>
  some q2
set_option maxHeartbeats 4000000 in
theorem t_X9_renewX_0 {X : XV} {d : Nat} (hd : 1 ≤ d + 1) : ∀ (x0 : Nat) (M : Mem) (res : Mem), f_X9_renewX_0  x0 M = some res → Ex X (d + 1) mX9_renewX 0 [(0, .ref x0)] [] M none res := by
  intro x0 M res  h
  unfold f_X9_renewX_0 at h
  refine ex_aload_n (pc := 0) 0 dX9_renewX_0 rfl rfl ?_
  refine ex_aload_n (pc := 1) 0 dX9_renewX_1 rfl rfl ?_
  obtain ⟨v1, ev1, h⟩ := ob_some h
  refine ex_gI (pc := 2) ev1 dX9_renewX_2 lfX9_9 ?_
  refine ex_sipush (pc := 5) 433 dX9_renewX_5 (by decide) ?_
  refine ex_imul (pc := 8) dX9_renewX_8 ?_
  refine ex_sipush (pc := 9) 313 dX9_renewX_9 (by decide) ?_
  refine ex_iadd (pc := 12) dX9_renewX_12 ?_
  refine ex_sipush (pc := 13) 30557 dX9_renewX_13 (by decide) ?_
  refine ex_irem (pc := 16) dX9_renewX_16 (by decide) ?_
  obtain ⟨q2, eq2, h⟩ := ob_some h
  refine ex_pF (pc := 17) eq2 dX9_renewX_17 lfX9_9 rfl rfl (fun _ hq => by cases hq; rfl) ?_
  cases h
  exact ex_return (pc := 20) dX9_renewX_20
noncomputable def f_X9_renewX (x0 : Nat) (M : Mem) : Option (Mem) := if isOb M 9 x0 = true then f_X9_renewX_0 x0 M else none
theorem o_X9_renewX {x0 : Nat} {M : Mem} {res : Mem} (h : f_X9_renewX x0 M = some res) : isO M 9 x0 := by
  unfold f_X9_renewX at h
  split at h
  · rename_i hc; exact isOb_iff hc
  · cases h
set_option maxHeartbeats 4000000 in
theorem s_X9_renewX {X : XV} {d : Nat} (hd : 1 ≤ d) {x0 : Nat} {M : Mem} {res : Mem} (h : f_X9_renewX x0 M = some res) : Mx X d mX9_renewX [.ref x0] M none res := by
  obtain ⟨d, rfl⟩ : ∃ e, d = e + 1 := ⟨d - 1, by omega⟩
  unfold f_X9_renewX at h
  split at h
  rotate_left
  · cases h
  refine Mx.of (by decide) (Nat.le_of_ble_eq_true rfl) (rfl) ?_
  exact ex_sub (lo' := [(0, .ref x0)]) [0] rfl (t_X9_renewX_0 hd _ _ _  h)
noncomputable def f_X9_draw_0 (x0 : Nat) (M : Mem) : Option (Int32 × Mem) :=
  (gI M 9 x0 2).bind fun v1 =>
  (f_X9_renewX x0 M).bind fun q2 =>
  some ((jrem v1 10), q2)
set_option maxHeartbeats 4000000 in
theorem t_X9_draw_0 {X : XV} {d : Nat} (hd : 2 ≤ d + 1) : ∀ (x0 : Nat) (M : Mem) (res : Int32 × Mem), f_X9_draw_0  x0 M = some res → Ex X (d + 1) mX9_draw 0 [(0, .ref x0)] [] M (some (.int res.1)) res.2 := by
  intro x0 M res  h
  unfold f_X9_draw_0 at h
  refine ex_aload_n (pc := 0) 0 dX9_draw_0 rfl rfl ?_
  obtain ⟨v1, ev1, h⟩ := ob_some h
  refine ex_gI (pc := 1) ev1 dX9_draw_1 lfX9_9 ?_
  refine ex_bipush (pc := 4) 10 dX9_draw_4 (by decide) ?_
  refine ex_irem (pc := 6) dX9_draw_6 (by decide) ?_
  refine ex_istore_n (pc := 7) [(1, .int (jrem v1 10)), (0, .ref x0)] dX9_draw_7 rfl (by decide) rfl ?_
  refine ex_aload_n (pc := 8) 1 dX9_draw_8 rfl rfl ?_
  obtain ⟨q2, eq2, h⟩ := ob_some h
  refine ex_callV0v (pc := 9) dX9_draw_9 jX9_renewX lmX9_68 jiX9_renewX jvX9_renewX (o_X9_renewX eq2) rfl (Nat.le_of_ble_eq_true rfl) (s_X9_renewX (by omega)  eq2) ?_
  refine ex_iload_n (pc := 12) 0 dX9_draw_12 rfl rfl ?_
  cases h
  exact ex_ireturn (pc := 13) dX9_draw_13
noncomputable def f_X9_draw (x0 : Nat) (M : Mem) : Option (Int32 × Mem) := if isOb M 9 x0 = true then f_X9_draw_0 x0 M else none
theorem o_X9_draw {x0 : Nat} {M : Mem} {res : Int32 × Mem} (h : f_X9_draw x0 M = some res) : isO M 9 x0 := by
  unfold f_X9_draw at h
  split at h
  · rename_i hc; exact isOb_iff hc
  · cases h
set_option maxHeartbeats 4000000 in
theorem s_X9_draw {X : XV} {d : Nat} (hd : 2 ≤ d) {x0 : Nat} {M : Mem} {res : Int32 × Mem} (h : f_X9_draw x0 M = some res) : Mx X d mX9_draw [.ref x0] M (some (.int res.1)) res.2 := by
  obtain ⟨d, rfl⟩ : ∃ e, d = e + 1 := ⟨d - 1, by omega⟩
  unfold f_X9_draw at h
  split at h
  rotate_left
  · cases h
  refine Mx.of (by decide) (Nat.le_of_ble_eq_true rfl) (⟨_, rfl, rfl⟩) ?_
  exact ex_sub (lo' := [(0, .ref x0)]) [0] rfl (t_X9_draw_0 hd _ _ _  h)
noncomputable def f_X10_ruleIndex_0 (x0 : Int32) (x1 : Bool) : Option (Int32) :=
  if x1 = false then
  (some ((x0 * 2) + 0))
  else
  (some ((x0 * 2) + 1))
set_option maxHeartbeats 4000000 in
theorem t_X10_ruleIndex_0 {X : XV} {d : Nat} {M : Mem} (hd : 1 ≤ d + 1) : ∀ (x0 : Int32) (x1 : Bool) (res : Int32), f_X10_ruleIndex_0  x0 x1 = some res → Ex X (d + 1) mX10_ruleIndex 0 [(0, .int x0), (1, .int (jz x1))] [] M (some (.int res)) M := by
  intro x0 x1 res  h
  unfold f_X10_ruleIndex_0 at h
  refine ex_iload_n (pc := 0) 0 dX10_ruleIndex_0 rfl rfl ?_
  refine ex_iconst (pc := 1) 2 dX10_ruleIndex_1 rfl ?_
  refine ex_imul (pc := 2) dX10_ruleIndex_2 ?_
  refine ex_iload_n (pc := 3) 1 dX10_ruleIndex_3 rfl rfl ?_
  by_cases c1 : x1 = false
  · rw [if_pos c1] at h
    refine ex_if_eq_t (pc := 4) 11 dX10_ruleIndex_4 rfl (jz_eq_t c1) ?_
    refine ex_iconst (pc := 11) 0 dX10_ruleIndex_11 rfl ?_
    refine ex_iadd (pc := 12) dX10_ruleIndex_12 ?_
    cases h
    exact ex_ireturn (pc := 13) dX10_ruleIndex_13
  · rw [if_neg c1] at h
    refine ex_if_eq_f (pc := 4) dX10_ruleIndex_4 11 rfl (jz_eq_f c1) ?_
    refine ex_iconst (pc := 7) 1 dX10_ruleIndex_7 rfl ?_
    refine ex_goto (pc := 8) 12 dX10_ruleIndex_8 rfl ?_
    refine ex_iadd (pc := 12) dX10_ruleIndex_12 ?_
    cases h
    exact ex_ireturn (pc := 13) dX10_ruleIndex_13
noncomputable def f_X10_ruleIndex (x0 : Int32) (x1 : Bool) : Option (Int32) := f_X10_ruleIndex_0 x0 x1
set_option maxHeartbeats 4000000 in
theorem s_X10_ruleIndex {X : XV} {d : Nat} (hd : 1 ≤ d) {x0 : Int32} {x1 : Bool} {M : Mem} {res : Int32} (h : f_X10_ruleIndex x0 x1 = some res) : Mx X d mX10_ruleIndex [.int x0, .int (jz x1)] M (some (.int res)) M := by
  obtain ⟨d, rfl⟩ : ∃ e, d = e + 1 := ⟨d - 1, by omega⟩
  unfold f_X10_ruleIndex at h
  refine Mx.of (by decide) (Nat.le_of_ble_eq_true rfl) (⟨_, rfl, rfl⟩) ?_
  exact ex_sub (lo' := [(0, .int x0), (1, .int (jz x1))]) [0, 1] rfl (t_X10_ruleIndex_0 hd _ _ _  h)
noncomputable def f_X9_printDigit_0 (x0 : Nat) (x1 : Int32) (x2 : Int32) (M : Mem) : Option (Mem) :=
  (gR M 9 x0 9).bind fun v1 =>
  (rI M v1 x1).bind fun v2 =>
  (f_X10_within v2 0 11).bind fun v3 =>
  if v3 = false then
  (some M)
  else
  ((gR M 9 x0 10).bind fun v5 =>
  (wI M v5 ((x1 * 12) + v2) x2).bind fun q6 =>
  (gR q6 9 x0 9).bind fun v7 =>
  (wI q6 v7 x1 (v2 + 1)).bind fun q8 =>
  some q8)
set_option maxHeartbeats 4000000 in
theorem t_X9_printDigit_0 {X : XV} {d : Nat} (hd : 2 ≤ d + 1) : ∀ (x0 : Nat) (x1 : Int32) (x2 : Int32) (M : Mem) (res : Mem), f_X9_printDigit_0  x0 x1 x2 M = some res → Ex X (d + 1) mX9_printDigit 0 [(0, .ref x0), (1, .int x1), (2, .int x2)] [] M none res := by
  intro x0 x1 x2 M res  h
  unfold f_X9_printDigit_0 at h
  refine ex_aload_n (pc := 0) 0 dX9_printDigit_0 rfl rfl ?_
  obtain ⟨v1, ev1, h⟩ := ob_some h
  refine ex_gR (pc := 1) ev1 dX9_printDigit_1 lfX9_31 ?_
  refine ex_iload_n (pc := 4) 1 dX9_printDigit_4 rfl rfl ?_
  obtain ⟨v2, ev2, h⟩ := ob_some h
  refine ex_rI (pc := 5) ev2 dX9_printDigit_5 ?_
  refine ex_istore_n (pc := 6) [(3, .int v2), (0, .ref x0), (1, .int x1), (2, .int x2)] dX9_printDigit_6 rfl (by decide) rfl ?_
  refine ex_iload_n (pc := 7) 0 dX9_printDigit_7 rfl rfl ?_
  refine ex_iconst (pc := 8) 0 dX9_printDigit_8 rfl ?_
  refine ex_bipush (pc := 9) 11 dX9_printDigit_9 (by decide) ?_
  obtain ⟨v3, ev3, h⟩ := ob_some h
  refine ex_callSN3r (pc := 11) dX9_printDigit_11 jX10_within lnX9_43 jsX10_within (Nat.le_of_ble_eq_true rfl) (s_X10_within (by omega)  ev3) ?_
  by_cases c4 : v3 = false
  · rw [if_pos c4] at h
    refine ex_if_eq_t (pc := 14) 38 dX9_printDigit_14 rfl (jz_eq_t c4) ?_
    cases h
    exact ex_return (pc := 38) dX9_printDigit_38
  · rw [if_neg c4] at h
    refine ex_if_eq_f (pc := 14) dX9_printDigit_14 38 rfl (jz_eq_f c4) ?_
    refine ex_aload_n (pc := 17) 1 dX9_printDigit_17 rfl rfl ?_
    obtain ⟨v5, ev5, h⟩ := ob_some h
    refine ex_gR (pc := 18) ev5 dX9_printDigit_18 lfX9_34 ?_
    refine ex_iload_n (pc := 21) 2 dX9_printDigit_21 rfl rfl ?_
    refine ex_bipush (pc := 22) 12 dX9_printDigit_22 (by decide) ?_
    refine ex_imul (pc := 24) dX9_printDigit_24 ?_
    refine ex_iload_n (pc := 25) 0 dX9_printDigit_25 rfl rfl ?_
    refine ex_iadd (pc := 26) dX9_printDigit_26 ?_
    refine ex_iload_n (pc := 27) 3 dX9_printDigit_27 rfl rfl ?_
    obtain ⟨q6, eq6, h⟩ := ob_some h
    refine ex_wI (pc := 28) eq6 dX9_printDigit_28 ?_
    refine ex_aload_n (pc := 29) 1 dX9_printDigit_29 rfl rfl ?_
    obtain ⟨v7, ev7, h⟩ := ob_some h
    refine ex_gR (pc := 30) ev7 dX9_printDigit_30 lfX9_31 ?_
    refine ex_iload_n (pc := 33) 2 dX9_printDigit_33 rfl rfl ?_
    refine ex_iload_n (pc := 34) 0 dX9_printDigit_34 rfl rfl ?_
    refine ex_iconst (pc := 35) 1 dX9_printDigit_35 rfl ?_
    refine ex_iadd (pc := 36) dX9_printDigit_36 ?_
    obtain ⟨q8, eq8, h⟩ := ob_some h
    refine ex_wI (pc := 37) eq8 dX9_printDigit_37 ?_
    cases h
    exact ex_return (pc := 38) dX9_printDigit_38
noncomputable def f_X9_printDigit (x0 : Nat) (x1 : Int32) (x2 : Int32) (M : Mem) : Option (Mem) := if isOb M 9 x0 = true then f_X9_printDigit_0 x0 x1 x2 M else none
theorem o_X9_printDigit {x0 : Nat} {x1 : Int32} {x2 : Int32} {M : Mem} {res : Mem} (h : f_X9_printDigit x0 x1 x2 M = some res) : isO M 9 x0 := by
  unfold f_X9_printDigit at h
  split at h
  · rename_i hc; exact isOb_iff hc
  · cases h
set_option maxHeartbeats 4000000 in
theorem s_X9_printDigit {X : XV} {d : Nat} (hd : 2 ≤ d) {x0 : Nat} {x1 : Int32} {x2 : Int32} {M : Mem} {res : Mem} (h : f_X9_printDigit x0 x1 x2 M = some res) : Mx X d mX9_printDigit [.ref x0, .int x1, .int x2] M none res := by
  obtain ⟨d, rfl⟩ : ∃ e, d = e + 1 := ⟨d - 1, by omega⟩
  unfold f_X9_printDigit at h
  split at h
  rotate_left
  · cases h
  refine Mx.of (by decide) (Nat.le_of_ble_eq_true rfl) (rfl) ?_
  exact ex_sub (lo' := [(0, .ref x0), (1, .int x1), (2, .int x2)]) [0, 1, 2] rfl (t_X9_printDigit_0 hd _ _ _ _ _  h)
noncomputable def f_X9_printWord_0 (x0 : Nat) (x1 : Int32) (x2 : Int32) (M : Mem) : Option (Mem) :=
  if x2 < 11 then
  (if x2 ≤ 0 then
  (some M)
  else
  ((f_X9_printDigit x0 x1 (x2 - 1) M).bind fun q3 =>
  some q3))
  else
  ((f_X9_printDigit x0 x1 ((x2 - 11) / 10) M).bind fun q4 =>
  (f_X9_printDigit x0 x1 (jrem (x2 - 11) 10) q4).bind fun q5 =>
  some q5)
set_option maxHeartbeats 4000000 in
theorem t_X9_printWord_0 {X : XV} {d : Nat} (hd : 3 ≤ d + 1) : ∀ (x0 : Nat) (x1 : Int32) (x2 : Int32) (M : Mem) (res : Mem), f_X9_printWord_0  x0 x1 x2 M = some res → Ex X (d + 1) mX9_printWord 0 [(0, .ref x0), (1, .int x1), (2, .int x2)] [] M none res := by
  intro x0 x1 x2 M res  h
  unfold f_X9_printWord_0 at h
  refine ex_iload_n (pc := 0) 2 dX9_printWord_0 rfl rfl ?_
  refine ex_bipush (pc := 1) 11 dX9_printWord_1 (by decide) ?_
  by_cases c1 : x2 < 11
  · rw [if_pos c1] at h
    refine ex_icmp_lt_t (pc := 3) 33 dX9_printWord_3 rfl c1 ?_
    refine ex_iload_n (pc := 33) 2 dX9_printWord_33 rfl rfl ?_
    by_cases c2 : x2 ≤ 0
    · rw [if_pos c2] at h
      refine ex_if_le_t (pc := 34) 45 dX9_printWord_34 rfl c2 ?_
      cases h
      exact ex_return (pc := 45) dX9_printWord_45
    · rw [if_neg c2] at h
      refine ex_if_le_f (pc := 34) dX9_printWord_34 45 rfl c2 ?_
      refine ex_aload_n (pc := 37) 0 dX9_printWord_37 rfl rfl ?_
      refine ex_iload_n (pc := 38) 1 dX9_printWord_38 rfl rfl ?_
      refine ex_iload_n (pc := 39) 2 dX9_printWord_39 rfl rfl ?_
      refine ex_iconst (pc := 40) 1 dX9_printWord_40 rfl ?_
      refine ex_isub (pc := 41) dX9_printWord_41 ?_
      obtain ⟨q3, eq3, h⟩ := ob_some h
      refine ex_callV2v (pc := 42) dX9_printWord_42 jX9_printDigit lmX9_55 jiX9_printDigit jvX9_printDigit (o_X9_printDigit eq3) rfl (Nat.le_of_ble_eq_true rfl) (s_X9_printDigit (by omega)  eq3) ?_
      cases h
      exact ex_return (pc := 45) dX9_printWord_45
  · rw [if_neg c1] at h
    refine ex_icmp_lt_f (pc := 3) dX9_printWord_3 33 rfl c1 ?_
    refine ex_aload_n (pc := 6) 0 dX9_printWord_6 rfl rfl ?_
    refine ex_iload_n (pc := 7) 1 dX9_printWord_7 rfl rfl ?_
    refine ex_iload_n (pc := 8) 2 dX9_printWord_8 rfl rfl ?_
    refine ex_bipush (pc := 9) 11 dX9_printWord_9 (by decide) ?_
    refine ex_isub (pc := 11) dX9_printWord_11 ?_
    refine ex_bipush (pc := 12) 10 dX9_printWord_12 (by decide) ?_
    refine ex_idiv (pc := 14) dX9_printWord_14 (by decide) ?_
    obtain ⟨q4, eq4, h⟩ := ob_some h
    refine ex_callV2v (pc := 15) dX9_printWord_15 jX9_printDigit lmX9_55 jiX9_printDigit jvX9_printDigit (o_X9_printDigit eq4) rfl (Nat.le_of_ble_eq_true rfl) (s_X9_printDigit (by omega)  eq4) ?_
    refine ex_aload_n (pc := 18) 0 dX9_printWord_18 rfl rfl ?_
    refine ex_iload_n (pc := 19) 1 dX9_printWord_19 rfl rfl ?_
    refine ex_iload_n (pc := 20) 2 dX9_printWord_20 rfl rfl ?_
    refine ex_bipush (pc := 21) 11 dX9_printWord_21 (by decide) ?_
    refine ex_isub (pc := 23) dX9_printWord_23 ?_
    refine ex_bipush (pc := 24) 10 dX9_printWord_24 (by decide) ?_
    refine ex_irem (pc := 26) dX9_printWord_26 (by decide) ?_
    obtain ⟨q5, eq5, h⟩ := ob_some h
    refine ex_callV2v (pc := 27) dX9_printWord_27 jX9_printDigit lmX9_55 jiX9_printDigit jvX9_printDigit (o_X9_printDigit eq5) rfl (Nat.le_of_ble_eq_true rfl) (s_X9_printDigit (by omega)  eq5) ?_
    refine ex_goto (pc := 30) 45 dX9_printWord_30 rfl ?_
    cases h
    exact ex_return (pc := 45) dX9_printWord_45
noncomputable def f_X9_printWord (x0 : Nat) (x1 : Int32) (x2 : Int32) (M : Mem) : Option (Mem) := if isOb M 9 x0 = true then f_X9_printWord_0 x0 x1 x2 M else none
theorem o_X9_printWord {x0 : Nat} {x1 : Int32} {x2 : Int32} {M : Mem} {res : Mem} (h : f_X9_printWord x0 x1 x2 M = some res) : isO M 9 x0 := by
  unfold f_X9_printWord at h
  split at h
  · rename_i hc; exact isOb_iff hc
  · cases h
set_option maxHeartbeats 4000000 in
theorem s_X9_printWord {X : XV} {d : Nat} (hd : 3 ≤ d) {x0 : Nat} {x1 : Int32} {x2 : Int32} {M : Mem} {res : Mem} (h : f_X9_printWord x0 x1 x2 M = some res) : Mx X d mX9_printWord [.ref x0, .int x1, .int x2] M none res := by
  obtain ⟨d, rfl⟩ : ∃ e, d = e + 1 := ⟨d - 1, by omega⟩
  unfold f_X9_printWord at h
  split at h
  rotate_left
  · cases h
  refine Mx.of (by decide) (Nat.le_of_ble_eq_true rfl) (rfl) ?_
  exact ex_sub (lo' := [(0, .ref x0), (1, .int x1), (2, .int x2)]) [0, 1, 2] rfl (t_X9_printWord_0 hd _ _ _ _ _  h)
noncomputable def f_X0_printRoll_52 (k25 : Nat → Int32 → Nat → Int32 → Int32 → Int32 → Int32 → Mem → Option (Mem)) (x0 : Nat) (x1 : Int32) (x2 : Nat) (x3 : Int32) (x4 : Int32) (x5 : Int32) (x6 : Int32) (s0 : Bool) (s1 : Int32) (M : Mem) : Option (Mem) :=
  (f_X10_ruleIndex s1 s0).bind fun v1 =>
  (lnA M x2).bind fun v2 =>
  (f_X10_within v1 0 (v2 - 1)).bind fun v3 =>
  if v3 = false then
  (k25 x0 x1 x2 x3 x4 x5 (x6 + 1) M)
  else
  ((rI M x2 v1).bind fun v5 =>
  (f_X9_printWord x0 x1 v5 M).bind fun q6 =>
  k25 x0 x1 x2 x3 x4 x5 (x6 + 1) q6)
set_option maxHeartbeats 4000000 in
theorem t_X0_printRoll_52 {X : XV} {d : Nat} (hd : 4 ≤ d + 1) {k25 : Nat → Int32 → Nat → Int32 → Int32 → Int32 → Int32 → Mem → Option (Mem)} (hk25 : ∀ (x0 : Nat) (x1 : Int32) (x2 : Nat) (x3 : Int32) (x4 : Int32) (x5 : Int32) (x6 : Int32) (M : Mem) (res : Mem), k25 x0 x1 x2 x3 x4 x5 x6 M = some res → Ex X (d + 1) mX0_printRoll 25 [(0, .ref x0), (1, .int x1), (2, .ref x2), (3, .int x3), (4, .int x4), (5, .int x5), (6, .int x6)] [] M none res) : ∀ (x0 : Nat) (x1 : Int32) (x2 : Nat) (x3 : Int32) (x4 : Int32) (x5 : Int32) (x6 : Int32) (s0 : Bool) (s1 : Int32) (M : Mem) (res : Mem), f_X0_printRoll_52 k25 x0 x1 x2 x3 x4 x5 x6 s0 s1 M = some res → Ex X (d + 1) mX0_printRoll 52 [(0, .ref x0), (1, .int x1), (2, .ref x2), (3, .int x3), (4, .int x4), (5, .int x5), (6, .int x6)] [.int (jz s0), .int s1] M none res := by
  intro x0 x1 x2 x3 x4 x5 x6 s0 s1 M res  h
  unfold f_X0_printRoll_52 at h
  obtain ⟨v1, ev1, h⟩ := ob_some h
  refine ex_callSN2r (pc := 52) dX0_printRoll_52 jX10_ruleIndex lnX0_87 jsX10_ruleIndex (Nat.le_of_ble_eq_true rfl) (s_X10_ruleIndex (by omega)  ev1) ?_
  refine ex_istore (pc := 55) [(7, .int v1), (0, .ref x0), (1, .int x1), (2, .ref x2), (3, .int x3), (4, .int x4), (5, .int x5), (6, .int x6)] dX0_printRoll_55 (by decide) rfl ?_
  refine ex_iload (pc := 57) 0 dX0_printRoll_57 rfl ?_
  refine ex_iconst (pc := 59) 0 dX0_printRoll_59 rfl ?_
  refine ex_aload_n (pc := 60) 3 dX0_printRoll_60 rfl rfl ?_
  obtain ⟨v2, ev2, h⟩ := ob_some h
  refine ex_ln (pc := 61) ev2 dX0_printRoll_61 ?_
  refine ex_iconst (pc := 62) 1 dX0_printRoll_62 rfl ?_
  refine ex_isub (pc := 63) dX0_printRoll_63 ?_
  obtain ⟨v3, ev3, h⟩ := ob_some h
  refine ex_callSN3r (pc := 64) dX0_printRoll_64 jX10_within lnX0_91 jsX10_within (Nat.le_of_ble_eq_true rfl) (s_X10_within (by omega)  ev3) ?_
  by_cases c4 : v3 = false
  · rw [if_pos c4] at h
    refine ex_if_eq_t (pc := 67) 79 dX0_printRoll_67 rfl (jz_eq_t c4) ?_
    refine ex_iinc (pc := 79) (x6 + 1) 7 [(6, .int (x6 + 1)), (7, .int v1), (0, .ref x0), (1, .int x1), (2, .ref x2), (3, .int x3), (4, .int x4), (5, .int x5)] dX0_printRoll_79 rfl rfl (by decide) rfl ?_
    refine ex_goto (pc := 82) 25 dX0_printRoll_82 rfl ?_
    refine ex_sub (lo' := [(0, .ref x0), (1, .int x1), (2, .ref x2), (3, .int x3), (4, .int x4), (5, .int x5), (6, .int (x6 + 1))]) [2, 3, 4, 5, 6, 7, 0] rfl ?_
    exact hk25 _ _ _ _ _ _ _ _ _  h
  · rw [if_neg c4] at h
    refine ex_if_eq_f (pc := 67) dX0_printRoll_67 79 rfl (jz_eq_f c4) ?_
    refine ex_aload_n (pc := 70) 1 dX0_printRoll_70 rfl rfl ?_
    refine ex_iload_n (pc := 71) 2 dX0_printRoll_71 rfl rfl ?_
    refine ex_aload_n (pc := 72) 3 dX0_printRoll_72 rfl rfl ?_
    refine ex_iload (pc := 73) 0 dX0_printRoll_73 rfl ?_
    obtain ⟨v5, ev5, h⟩ := ob_some h
    refine ex_rI (pc := 75) ev5 dX0_printRoll_75 ?_
    obtain ⟨q6, eq6, h⟩ := ob_some h
    refine ex_callV2v (pc := 76) dX0_printRoll_76 jX9_printWord lmX0_95 jiX9_printWord jvX9_printWord (o_X9_printWord eq6) rfl (Nat.le_of_ble_eq_true rfl) (s_X9_printWord (by omega)  eq6) ?_
    refine ex_iinc (pc := 79) (x6 + 1) 7 [(6, .int (x6 + 1)), (7, .int v1), (0, .ref x0), (1, .int x1), (2, .ref x2), (3, .int x3), (4, .int x4), (5, .int x5)] dX0_printRoll_79 rfl rfl (by decide) rfl ?_
    refine ex_goto (pc := 82) 25 dX0_printRoll_82 rfl ?_
    refine ex_sub (lo' := [(0, .ref x0), (1, .int x1), (2, .ref x2), (3, .int x3), (4, .int x4), (5, .int x5), (6, .int (x6 + 1))]) [2, 3, 4, 5, 6, 7, 0] rfl ?_
    exact hk25 _ _ _ _ _ _ _ _ _  h
noncomputable def f_X0_printRoll_25 (n0 : Nat) (x0 : Nat) (x1 : Int32) (x2 : Nat) (x3 : Int32) (x4 : Int32) (x5 : Int32) (x6 : Int32) (M : Mem) : Option (Mem) :=
  match n0 with
  | 0 => none
  | n + 1 =>
    if x5 ≤ x6 then
    (some M)
    else
    ((f_X10_digitAt x4 x6).bind fun v8 =>
    (f_X9_draw x0 M).bind fun q9 =>
    if x3 ≤ q9.1 then
    (f_X0_printRoll_52 (f_X0_printRoll_25 n) x0 x1 x2 x3 x4 x5 x6 false v8 q9.2)
    else
    (f_X0_printRoll_52 (f_X0_printRoll_25 n) x0 x1 x2 x3 x4 x5 x6 true v8 q9.2))
set_option maxHeartbeats 4000000 in
theorem t_X0_printRoll_25 {X : XV} {d : Nat} (hd : 4 ≤ d + 1) : ∀ (n : Nat) (x0 : Nat) (x1 : Int32) (x2 : Nat) (x3 : Int32) (x4 : Int32) (x5 : Int32) (x6 : Int32) (M : Mem) (res : Mem), f_X0_printRoll_25 n  x0 x1 x2 x3 x4 x5 x6 M = some res → Ex X (d + 1) mX0_printRoll 25 [(0, .ref x0), (1, .int x1), (2, .ref x2), (3, .int x3), (4, .int x4), (5, .int x5), (6, .int x6)] [] M none res := by
  intro n
  induction n with
  | zero =>
    intro x0 x1 x2 x3 x4 x5 x6 M res  h
    unfold f_X0_printRoll_25 at h
    cases h
  | succ n ih =>
    intro x0 x1 x2 x3 x4 x5 x6 M res  h
    unfold f_X0_printRoll_25 at h
    refine ex_iload (pc := 25) 6 dX0_printRoll_25 rfl ?_
    refine ex_iload (pc := 27) 5 dX0_printRoll_27 rfl ?_
    by_cases c7 : x5 ≤ x6
    · rw [if_pos c7] at h
      refine ex_icmp_ge_t (pc := 29) 85 dX0_printRoll_29 rfl c7 ?_
      cases h
      exact ex_return (pc := 85) dX0_printRoll_85
    · rw [if_neg c7] at h
      refine ex_icmp_ge_f (pc := 29) dX0_printRoll_29 85 rfl c7 ?_
      refine ex_iload (pc := 32) 4 dX0_printRoll_32 rfl ?_
      refine ex_iload (pc := 34) 6 dX0_printRoll_34 rfl ?_
      obtain ⟨v8, ev8, h⟩ := ob_some h
      refine ex_callSN2r (pc := 36) dX0_printRoll_36 jX10_digitAt lnX0_84 jsX10_digitAt (Nat.le_of_ble_eq_true rfl) (s_X10_digitAt (by omega)  ev8) ?_
      refine ex_aload_n (pc := 39) 0 dX0_printRoll_39 rfl rfl ?_
      obtain ⟨q9, eq9, h⟩ := ob_some h
      refine ex_callV0r (pc := 40) dX0_printRoll_40 jX9_draw lmX0_54 jiX9_draw jvX9_draw (o_X9_draw eq9) rfl (Nat.le_of_ble_eq_true rfl) (s_X9_draw (by omega)  eq9) ?_
      refine ex_iload_n (pc := 43) 3 dX0_printRoll_43 rfl rfl ?_
      by_cases c10 : x3 ≤ q9.1
      · rw [if_pos c10] at h
        refine ex_icmp_ge_t (pc := 44) 51 dX0_printRoll_44 rfl c10 ?_
        refine ex_iconst (pc := 51) 0 dX0_printRoll_51 rfl ?_
        refine ex_sub (lo' := [(0, .ref x0), (1, .int x1), (2, .ref x2), (3, .int x3), (4, .int x4), (5, .int x5), (6, .int x6)]) [0, 1, 2, 3, 4, 5, 6] rfl ?_
        exact t_X0_printRoll_52 hd ih _ _ _ _ _ _ _ _ _ _ _  h
      · rw [if_neg c10] at h
        refine ex_icmp_ge_f (pc := 44) dX0_printRoll_44 51 rfl c10 ?_
        refine ex_iconst (pc := 47) 1 dX0_printRoll_47 rfl ?_
        refine ex_goto (pc := 48) 52 dX0_printRoll_48 rfl ?_
        refine ex_sub (lo' := [(0, .ref x0), (1, .int x1), (2, .ref x2), (3, .int x3), (4, .int x4), (5, .int x5), (6, .int x6)]) [0, 1, 2, 3, 4, 5, 6] rfl ?_
        exact t_X0_printRoll_52 hd ih _ _ _ _ _ _ _ _ _ _ _  h
noncomputable def f_X0_printRoll_0 (x0 : Nat) (x1 : Int32) (x2 : Nat) (x3 : Int32) (M : Mem) : Option (Mem) :=
  (gR M 9 x0 9).bind fun v11 =>
  (wI M v11 x1 0).bind fun q12 =>
  (gR q12 9 x0 8).bind fun v13 =>
  (rI q12 v13 x1).bind fun v14 =>
  (f_X10_digitCount v14).bind fun v15 =>
  f_X0_printRoll_25 fu x0 x1 x2 x3 v14 v15 0 q12
set_option maxHeartbeats 4000000 in
theorem t_X0_printRoll_0 {X : XV} {d : Nat} (hd : 4 ≤ d + 1) : ∀ (x0 : Nat) (x1 : Int32) (x2 : Nat) (x3 : Int32) (M : Mem) (res : Mem), f_X0_printRoll_0  x0 x1 x2 x3 M = some res → Ex X (d + 1) mX0_printRoll 0 [(0, .ref x0), (1, .int x1), (2, .ref x2), (3, .int x3)] [] M none res := by
  intro x0 x1 x2 x3 M res  h
  unfold f_X0_printRoll_0 at h
  refine ex_aload_n (pc := 0) 0 dX0_printRoll_0 rfl rfl ?_
  obtain ⟨v11, ev11, h⟩ := ob_some h
  refine ex_gR (pc := 1) ev11 dX0_printRoll_1 lfX0_74 ?_
  refine ex_iload_n (pc := 4) 1 dX0_printRoll_4 rfl rfl ?_
  refine ex_iconst (pc := 5) 0 dX0_printRoll_5 rfl ?_
  obtain ⟨q12, eq12, h⟩ := ob_some h
  refine ex_wI (pc := 6) eq12 dX0_printRoll_6 ?_
  refine ex_aload_n (pc := 7) 0 dX0_printRoll_7 rfl rfl ?_
  obtain ⟨v13, ev13, h⟩ := ob_some h
  refine ex_gR (pc := 8) ev13 dX0_printRoll_8 lfX0_77 ?_
  refine ex_iload_n (pc := 11) 1 dX0_printRoll_11 rfl rfl ?_
  obtain ⟨v14, ev14, h⟩ := ob_some h
  refine ex_rI (pc := 12) ev14 dX0_printRoll_12 ?_
  refine ex_istore (pc := 13) [(4, .int v14), (0, .ref x0), (1, .int x1), (2, .ref x2), (3, .int x3)] dX0_printRoll_13 (by decide) rfl ?_
  refine ex_iload (pc := 15) 0 dX0_printRoll_15 rfl ?_
  obtain ⟨v15, ev15, h⟩ := ob_some h
  refine ex_callSN1r (pc := 17) dX0_printRoll_17 jX10_digitCount lnX0_80 jsX10_digitCount (Nat.le_of_ble_eq_true rfl) (s_X10_digitCount (by omega)  ev15) ?_
  refine ex_istore (pc := 20) [(5, .int v15), (4, .int v14), (0, .ref x0), (1, .int x1), (2, .ref x2), (3, .int x3)] dX0_printRoll_20 (by decide) rfl ?_
  refine ex_iconst (pc := 22) 0 dX0_printRoll_22 rfl ?_
  refine ex_istore (pc := 23) [(6, .int 0), (5, .int v15), (4, .int v14), (0, .ref x0), (1, .int x1), (2, .ref x2), (3, .int x3)] dX0_printRoll_23 (by decide) rfl ?_
  refine ex_sub (lo' := [(0, .ref x0), (1, .int x1), (2, .ref x2), (3, .int x3), (4, .int v14), (5, .int v15), (6, .int 0)]) [3, 4, 5, 6, 2, 1, 0] rfl ?_
  exact t_X0_printRoll_25 hd  _ _ _ _ _ _ _ _ _ _  h
noncomputable def f_X0_printRoll (x0 : Nat) (x1 : Int32) (x2 : Nat) (x3 : Int32) (M : Mem) : Option (Mem) := f_X0_printRoll_0 x0 x1 x2 x3 M
set_option maxHeartbeats 4000000 in
theorem s_X0_printRoll {X : XV} {d : Nat} (hd : 4 ≤ d) {x0 : Nat} {x1 : Int32} {x2 : Nat} {x3 : Int32} {M : Mem} {res : Mem} (h : f_X0_printRoll x0 x1 x2 x3 M = some res) : Mx X d mX0_printRoll [.ref x0, .int x1, .ref x2, .int x3] M none res := by
  obtain ⟨d, rfl⟩ : ∃ e, d = e + 1 := ⟨d - 1, by omega⟩
  unfold f_X0_printRoll at h
  refine Mx.of (by decide) (Nat.le_of_ble_eq_true rfl) (rfl) ?_
  exact ex_sub (lo' := [(0, .ref x0), (1, .int x1), (2, .ref x2), (3, .int x3)]) [0, 1, 2, 3] rfl (t_X0_printRoll_0 hd _ _ _ _ _ _  h)
noncomputable def f_X9_rollDigit_0 (x0 : Nat) (x1 : Int32) (x2 : Int32) (M : Mem) : Option (Int32) :=
  (f_X9_has x0 x1 M).bind fun v1 =>
  if v1 = false then
  (some (-1))
  else
  ((gR M 9 x0 9).bind fun v3 =>
  (rI M v3 x1).bind fun v4 =>
  (f_X10_within x2 0 (v4 - 1)).bind fun v5 =>
  if v5 = false then
  (some (-1))
  else
  (if x2 < 12 then
  ((gR M 9 x0 10).bind fun v8 =>
  (rI M v8 ((x1 * 12) + x2)).bind fun v9 =>
  some v9)
  else
  (some (-1))))
set_option maxHeartbeats 4000000 in
theorem t_X9_rollDigit_0 {X : XV} {d : Nat} (hd : 2 ≤ d + 1) : ∀ (x0 : Nat) (x1 : Int32) (x2 : Int32) (M : Mem) (res : Int32), f_X9_rollDigit_0  x0 x1 x2 M = some res → Ex X (d + 1) mX9_rollDigit 0 [(0, .ref x0), (1, .int x1), (2, .int x2)] [] M (some (.int res)) M := by
  intro x0 x1 x2 M res  h
  unfold f_X9_rollDigit_0 at h
  refine ex_aload_n (pc := 0) 0 dX9_rollDigit_0 rfl rfl ?_
  refine ex_iload_n (pc := 1) 1 dX9_rollDigit_1 rfl rfl ?_
  obtain ⟨v1, ev1, h⟩ := ob_some h
  refine ex_callV1r (pc := 2) dX9_rollDigit_2 jX9_has lmX9_51 jiX9_has jvX9_has (o_X9_has ev1) rfl (Nat.le_of_ble_eq_true rfl) (s_X9_has (by omega)  ev1) ?_
  by_cases c2 : v1 = false
  · rw [if_pos c2] at h
    refine ex_if_eq_t (pc := 5) 30 dX9_rollDigit_5 rfl (jz_eq_t c2) ?_
    refine ex_iconst (pc := 30) (-1) dX9_rollDigit_30 rfl ?_
    cases h
    exact ex_ireturn (pc := 31) dX9_rollDigit_31
  · rw [if_neg c2] at h
    refine ex_if_eq_f (pc := 5) dX9_rollDigit_5 30 rfl (jz_eq_f c2) ?_
    refine ex_iload_n (pc := 8) 2 dX9_rollDigit_8 rfl rfl ?_
    refine ex_iconst (pc := 9) 0 dX9_rollDigit_9 rfl ?_
    refine ex_aload_n (pc := 10) 0 dX9_rollDigit_10 rfl rfl ?_
    obtain ⟨v3, ev3, h⟩ := ob_some h
    refine ex_gR (pc := 11) ev3 dX9_rollDigit_11 lfX9_31 ?_
    refine ex_iload_n (pc := 14) 1 dX9_rollDigit_14 rfl rfl ?_
    obtain ⟨v4, ev4, h⟩ := ob_some h
    refine ex_rI (pc := 15) ev4 dX9_rollDigit_15 ?_
    refine ex_iconst (pc := 16) 1 dX9_rollDigit_16 rfl ?_
    refine ex_isub (pc := 17) dX9_rollDigit_17 ?_
    obtain ⟨v5, ev5, h⟩ := ob_some h
    refine ex_callSN3r (pc := 18) dX9_rollDigit_18 jX10_within lnX9_43 jsX10_within (Nat.le_of_ble_eq_true rfl) (s_X10_within (by omega)  ev5) ?_
    by_cases c6 : v5 = false
    · rw [if_pos c6] at h
      refine ex_if_eq_t (pc := 21) 30 dX9_rollDigit_21 rfl (jz_eq_t c6) ?_
      refine ex_iconst (pc := 30) (-1) dX9_rollDigit_30 rfl ?_
      cases h
      exact ex_ireturn (pc := 31) dX9_rollDigit_31
    · rw [if_neg c6] at h
      refine ex_if_eq_f (pc := 21) dX9_rollDigit_21 30 rfl (jz_eq_f c6) ?_
      refine ex_iload_n (pc := 24) 2 dX9_rollDigit_24 rfl rfl ?_
      refine ex_bipush (pc := 25) 12 dX9_rollDigit_25 (by decide) ?_
      by_cases c7 : x2 < 12
      · rw [if_pos c7] at h
        refine ex_icmp_lt_t (pc := 27) 32 dX9_rollDigit_27 rfl c7 ?_
        refine ex_aload_n (pc := 32) 0 dX9_rollDigit_32 rfl rfl ?_
        obtain ⟨v8, ev8, h⟩ := ob_some h
        refine ex_gR (pc := 33) ev8 dX9_rollDigit_33 lfX9_34 ?_
        refine ex_iload_n (pc := 36) 1 dX9_rollDigit_36 rfl rfl ?_
        refine ex_bipush (pc := 37) 12 dX9_rollDigit_37 (by decide) ?_
        refine ex_imul (pc := 39) dX9_rollDigit_39 ?_
        refine ex_iload_n (pc := 40) 2 dX9_rollDigit_40 rfl rfl ?_
        refine ex_iadd (pc := 41) dX9_rollDigit_41 ?_
        obtain ⟨v9, ev9, h⟩ := ob_some h
        refine ex_rI (pc := 42) ev9 dX9_rollDigit_42 ?_
        cases h
        exact ex_ireturn (pc := 43) dX9_rollDigit_43
      · rw [if_neg c7] at h
        refine ex_icmp_lt_f (pc := 27) dX9_rollDigit_27 32 rfl c7 ?_
        refine ex_iconst (pc := 30) (-1) dX9_rollDigit_30 rfl ?_
        cases h
        exact ex_ireturn (pc := 31) dX9_rollDigit_31
noncomputable def f_X9_rollDigit (x0 : Nat) (x1 : Int32) (x2 : Int32) (M : Mem) : Option (Int32) := if isOb M 9 x0 = true then f_X9_rollDigit_0 x0 x1 x2 M else none
theorem o_X9_rollDigit {x0 : Nat} {x1 : Int32} {x2 : Int32} {M : Mem} {res : Int32} (h : f_X9_rollDigit x0 x1 x2 M = some res) : isO M 9 x0 := by
  unfold f_X9_rollDigit at h
  split at h
  · rename_i hc; exact isOb_iff hc
  · cases h
set_option maxHeartbeats 4000000 in
theorem s_X9_rollDigit {X : XV} {d : Nat} (hd : 2 ≤ d) {x0 : Nat} {x1 : Int32} {x2 : Int32} {M : Mem} {res : Int32} (h : f_X9_rollDigit x0 x1 x2 M = some res) : Mx X d mX9_rollDigit [.ref x0, .int x1, .int x2] M (some (.int res)) M := by
  obtain ⟨d, rfl⟩ : ∃ e, d = e + 1 := ⟨d - 1, by omega⟩
  unfold f_X9_rollDigit at h
  split at h
  rotate_left
  · cases h
  refine Mx.of (by decide) (Nat.le_of_ble_eq_true rfl) (⟨_, rfl, rfl⟩) ?_
  exact ex_sub (lo' := [(0, .ref x0), (1, .int x1), (2, .int x2)]) [0, 1, 2] rfl (t_X9_rollDigit_0 hd _ _ _ _ _  h)
noncomputable def f_X9_rollNumber_15 (n0 : Nat) (x0 : Nat) (x1 : Int32) (x2 : Int32) (x3 : Int32) (M : Mem) : Option (Int32) :=
  match n0 with
  | 0 => none
  | n + 1 =>
    (gR M 9 x0 9).bind fun v1 =>
    (rI M v1 x1).bind fun v2 =>
    if v2 ≤ x3 then
    (some x2)
    else
    ((f_X9_rollDigit x0 x1 x3 M).bind fun v4 =>
    f_X9_rollNumber_15 n x0 x1 ((x2 * 10) + v4) (x3 + 1) M)
set_option maxHeartbeats 4000000 in
theorem t_X9_rollNumber_15 {X : XV} {d : Nat} (hd : 3 ≤ d + 1) : ∀ (n : Nat) (x0 : Nat) (x1 : Int32) (x2 : Int32) (x3 : Int32) (M : Mem) (res : Int32), f_X9_rollNumber_15 n  x0 x1 x2 x3 M = some res → Ex X (d + 1) mX9_rollNumber 15 [(0, .ref x0), (1, .int x1), (2, .int x2), (3, .int x3)] [] M (some (.int res)) M := by
  intro n
  induction n with
  | zero =>
    intro x0 x1 x2 x3 M res  h
    unfold f_X9_rollNumber_15 at h
    cases h
  | succ n ih =>
    intro x0 x1 x2 x3 M res  h
    unfold f_X9_rollNumber_15 at h
    refine ex_iload_n (pc := 15) 3 dX9_rollNumber_15 rfl rfl ?_
    refine ex_aload_n (pc := 16) 0 dX9_rollNumber_16 rfl rfl ?_
    obtain ⟨v1, ev1, h⟩ := ob_some h
    refine ex_gR (pc := 17) ev1 dX9_rollNumber_17 lfX9_31 ?_
    refine ex_iload_n (pc := 20) 1 dX9_rollNumber_20 rfl rfl ?_
    obtain ⟨v2, ev2, h⟩ := ob_some h
    refine ex_rI (pc := 21) ev2 dX9_rollNumber_21 ?_
    by_cases c3 : v2 ≤ x3
    · rw [if_pos c3] at h
      refine ex_icmp_ge_t (pc := 22) 43 dX9_rollNumber_22 rfl c3 ?_
      refine ex_iload_n (pc := 43) 2 dX9_rollNumber_43 rfl rfl ?_
      cases h
      exact ex_ireturn (pc := 44) dX9_rollNumber_44
    · rw [if_neg c3] at h
      refine ex_icmp_ge_f (pc := 22) dX9_rollNumber_22 43 rfl c3 ?_
      refine ex_iload_n (pc := 25) 2 dX9_rollNumber_25 rfl rfl ?_
      refine ex_bipush (pc := 26) 10 dX9_rollNumber_26 (by decide) ?_
      refine ex_imul (pc := 28) dX9_rollNumber_28 ?_
      refine ex_aload_n (pc := 29) 0 dX9_rollNumber_29 rfl rfl ?_
      refine ex_iload_n (pc := 30) 1 dX9_rollNumber_30 rfl rfl ?_
      refine ex_iload_n (pc := 31) 3 dX9_rollNumber_31 rfl rfl ?_
      obtain ⟨v4, ev4, h⟩ := ob_some h
      refine ex_callV2r (pc := 32) dX9_rollNumber_32 jX9_rollDigit lmX9_65 jiX9_rollDigit jvX9_rollDigit (o_X9_rollDigit ev4) rfl (Nat.le_of_ble_eq_true rfl) (s_X9_rollDigit (by omega)  ev4) ?_
      refine ex_iadd (pc := 35) dX9_rollNumber_35 ?_
      refine ex_istore_n (pc := 36) [(2, .int ((x2 * 10) + v4)), (0, .ref x0), (1, .int x1), (3, .int x3)] dX9_rollNumber_36 rfl (by decide) rfl ?_
      refine ex_iinc (pc := 37) (x3 + 1) 3 [(3, .int (x3 + 1)), (2, .int ((x2 * 10) + v4)), (0, .ref x0), (1, .int x1)] dX9_rollNumber_37 rfl rfl (by decide) rfl ?_
      refine ex_goto (pc := 40) 15 dX9_rollNumber_40 rfl ?_
      refine ex_sub (lo' := [(0, .ref x0), (1, .int x1), (2, .int ((x2 * 10) + v4)), (3, .int (x3 + 1))]) [2, 3, 1, 0] rfl ?_
      exact ih _ _ _ _ _ _  h
noncomputable def f_X9_rollNumber_0 (x0 : Nat) (x1 : Int32) (M : Mem) : Option (Int32) :=
  (gR M 9 x0 9).bind fun v5 =>
  (rI M v5 x1).bind fun v6 =>
  f_X9_rollNumber_15 fu x0 x1 0 (jmax 0 (v6 - 4)) M
set_option maxHeartbeats 4000000 in
theorem t_X9_rollNumber_0 {X : XV} {d : Nat} (hd : 3 ≤ d + 1) : ∀ (x0 : Nat) (x1 : Int32) (M : Mem) (res : Int32), f_X9_rollNumber_0  x0 x1 M = some res → Ex X (d + 1) mX9_rollNumber 0 [(0, .ref x0), (1, .int x1)] [] M (some (.int res)) M := by
  intro x0 x1 M res  h
  unfold f_X9_rollNumber_0 at h
  refine ex_iconst (pc := 0) 0 dX9_rollNumber_0 rfl ?_
  refine ex_istore_n (pc := 1) [(2, .int 0), (0, .ref x0), (1, .int x1)] dX9_rollNumber_1 rfl (by decide) rfl ?_
  refine ex_iconst (pc := 2) 0 dX9_rollNumber_2 rfl ?_
  refine ex_aload_n (pc := 3) 1 dX9_rollNumber_3 rfl rfl ?_
  obtain ⟨v5, ev5, h⟩ := ob_some h
  refine ex_gR (pc := 4) ev5 dX9_rollNumber_4 lfX9_31 ?_
  refine ex_iload_n (pc := 7) 2 dX9_rollNumber_7 rfl rfl ?_
  obtain ⟨v6, ev6, h⟩ := ob_some h
  refine ex_rI (pc := 8) ev6 dX9_rollNumber_8 ?_
  refine ex_iconst (pc := 9) 4 dX9_rollNumber_9 rfl ?_
  refine ex_isub (pc := 10) dX9_rollNumber_10 ?_
  refine ex_mmax (pc := 11) dX9_rollNumber_11 lmX9_59 (by omega) (Nat.le_of_ble_eq_true rfl) ?_
  refine ex_istore_n (pc := 14) [(3, .int (jmax 0 (v6 - 4))), (2, .int 0), (0, .ref x0), (1, .int x1)] dX9_rollNumber_14 rfl (by decide) rfl ?_
  refine ex_sub (lo' := [(0, .ref x0), (1, .int x1), (2, .int 0), (3, .int (jmax 0 (v6 - 4)))]) [2, 3, 1, 0] rfl ?_
  exact t_X9_rollNumber_15 hd  _ _ _ _ _ _ _  h
noncomputable def f_X9_rollNumber (x0 : Nat) (x1 : Int32) (M : Mem) : Option (Int32) := if isOb M 9 x0 = true then f_X9_rollNumber_0 x0 x1 M else none
theorem o_X9_rollNumber {x0 : Nat} {x1 : Int32} {M : Mem} {res : Int32} (h : f_X9_rollNumber x0 x1 M = some res) : isO M 9 x0 := by
  unfold f_X9_rollNumber at h
  split at h
  · rename_i hc; exact isOb_iff hc
  · cases h
set_option maxHeartbeats 4000000 in
theorem s_X9_rollNumber {X : XV} {d : Nat} (hd : 3 ≤ d) {x0 : Nat} {x1 : Int32} {M : Mem} {res : Int32} (h : f_X9_rollNumber x0 x1 M = some res) : Mx X d mX9_rollNumber [.ref x0, .int x1] M (some (.int res)) M := by
  obtain ⟨d, rfl⟩ : ∃ e, d = e + 1 := ⟨d - 1, by omega⟩
  unfold f_X9_rollNumber at h
  split at h
  rotate_left
  · cases h
  refine Mx.of (by decide) (Nat.le_of_ble_eq_true rfl) (⟨_, rfl, rfl⟩) ?_
  exact ex_sub (lo' := [(0, .ref x0), (1, .int x1)]) [0, 1] rfl (t_X9_rollNumber_0 hd _ _ _ _  h)
noncomputable def f_X9_believe_36 (x0 : Nat) (x1 : Int32) (x2 : Int32) (M : Mem) : Option (Mem) :=
  (gI M 9 x0 3).bind fun v1 =>
  (gR M 9 x0 11).bind fun v2 =>
  (gI M 9 x0 1).bind fun v3 =>
  (wI M v2 (v1 * 4) v3).bind fun q4 =>
  (gR q4 9 x0 11).bind fun v5 =>
  (wI q4 v5 ((v1 * 4) + 1) x1).bind fun q6 =>
  (gR q6 9 x0 11).bind fun v7 =>
  (gR q6 9 x0 8).bind fun v8 =>
  (rI q6 v8 x1).bind fun v9 =>
  (wI q6 v7 ((v1 * 4) + 2) v9).bind fun q10 =>
  (gR q10 9 x0 11).bind fun v11 =>
  (wI q10 v11 ((v1 * 4) + 3) x2).bind fun q12 =>
  (gI q12 9 x0 3).bind fun v13 =>
  (pF q12 9 x0 3 (.int (v13 + 1))).bind fun q14 =>
  (gR q14 9 x0 8).bind fun v15 =>
  (wI q14 v15 x1 x2).bind fun q16 =>
  some q16
set_option maxHeartbeats 4000000 in
theorem t_X9_believe_36 {X : XV} {d : Nat} (hd : 4 ≤ d + 1) : ∀ (x0 : Nat) (x1 : Int32) (x2 : Int32) (M : Mem) (res : Mem), f_X9_believe_36  x0 x1 x2 M = some res → Ex X (d + 1) mX9_believe 36 [(0, .ref x0), (1, .int x1), (2, .int x2)] [] M none res := by
  intro x0 x1 x2 M res  h
  unfold f_X9_believe_36 at h
  refine ex_aload_n (pc := 36) 0 dX9_believe_36 rfl rfl ?_
  obtain ⟨v1, ev1, h⟩ := ob_some h
  refine ex_gI (pc := 37) ev1 dX9_believe_37 lfX9_75 ?_
  refine ex_iconst (pc := 40) 4 dX9_believe_40 rfl ?_
  refine ex_imul (pc := 41) dX9_believe_41 ?_
  refine ex_istore_n (pc := 42) [(3, .int (v1 * 4)), (0, .ref x0), (1, .int x1), (2, .int x2)] dX9_believe_42 rfl (by decide) rfl ?_
  refine ex_aload_n (pc := 43) 1 dX9_believe_43 rfl rfl ?_
  obtain ⟨v2, ev2, h⟩ := ob_some h
  refine ex_gR (pc := 44) ev2 dX9_believe_44 lfX9_37 ?_
  refine ex_iload_n (pc := 47) 0 dX9_believe_47 rfl rfl ?_
  refine ex_aload_n (pc := 48) 1 dX9_believe_48 rfl rfl ?_
  obtain ⟨v3, ev3, h⟩ := ob_some h
  refine ex_gI (pc := 49) ev3 dX9_believe_49 lfX9_84 ?_
  obtain ⟨q4, eq4, h⟩ := ob_some h
  refine ex_wI (pc := 52) eq4 dX9_believe_52 ?_
  refine ex_aload_n (pc := 53) 1 dX9_believe_53 rfl rfl ?_
  obtain ⟨v5, ev5, h⟩ := ob_some h
  refine ex_gR (pc := 54) ev5 dX9_believe_54 lfX9_37 ?_
  refine ex_iload_n (pc := 57) 0 dX9_believe_57 rfl rfl ?_
  refine ex_iconst (pc := 58) 1 dX9_believe_58 rfl ?_
  refine ex_iadd (pc := 59) dX9_believe_59 ?_
  refine ex_iload_n (pc := 60) 2 dX9_believe_60 rfl rfl ?_
  obtain ⟨q6, eq6, h⟩ := ob_some h
  refine ex_wI (pc := 61) eq6 dX9_believe_61 ?_
  refine ex_aload_n (pc := 62) 1 dX9_believe_62 rfl rfl ?_
  obtain ⟨v7, ev7, h⟩ := ob_some h
  refine ex_gR (pc := 63) ev7 dX9_believe_63 lfX9_37 ?_
  refine ex_iload_n (pc := 66) 0 dX9_believe_66 rfl rfl ?_
  refine ex_iconst (pc := 67) 2 dX9_believe_67 rfl ?_
  refine ex_iadd (pc := 68) dX9_believe_68 ?_
  refine ex_aload_n (pc := 69) 1 dX9_believe_69 rfl rfl ?_
  obtain ⟨v8, ev8, h⟩ := ob_some h
  refine ex_gR (pc := 70) ev8 dX9_believe_70 lfX9_28 ?_
  refine ex_iload_n (pc := 73) 2 dX9_believe_73 rfl rfl ?_
  obtain ⟨v9, ev9, h⟩ := ob_some h
  refine ex_rI (pc := 74) ev9 dX9_believe_74 ?_
  obtain ⟨q10, eq10, h⟩ := ob_some h
  refine ex_wI (pc := 75) eq10 dX9_believe_75 ?_
  refine ex_aload_n (pc := 76) 1 dX9_believe_76 rfl rfl ?_
  obtain ⟨v11, ev11, h⟩ := ob_some h
  refine ex_gR (pc := 77) ev11 dX9_believe_77 lfX9_37 ?_
  refine ex_iload_n (pc := 80) 0 dX9_believe_80 rfl rfl ?_
  refine ex_iconst (pc := 81) 3 dX9_believe_81 rfl ?_
  refine ex_iadd (pc := 82) dX9_believe_82 ?_
  refine ex_iload_n (pc := 83) 3 dX9_believe_83 rfl rfl ?_
  obtain ⟨q12, eq12, h⟩ := ob_some h
  refine ex_wI (pc := 84) eq12 dX9_believe_84 ?_
  refine ex_aload_n (pc := 85) 1 dX9_believe_85 rfl rfl ?_
  refine ex_dup (pc := 86) dX9_believe_86 rfl ?_
  obtain ⟨v13, ev13, h⟩ := ob_some h
  refine ex_gI (pc := 87) ev13 dX9_believe_87 lfX9_75 ?_
  refine ex_iconst (pc := 90) 1 dX9_believe_90 rfl ?_
  refine ex_iadd (pc := 91) dX9_believe_91 ?_
  obtain ⟨q14, eq14, h⟩ := ob_some h
  refine ex_pF (pc := 92) eq14 dX9_believe_92 lfX9_75 rfl rfl (fun _ hq => by cases hq; rfl) ?_
  refine ex_aload_n (pc := 95) 1 dX9_believe_95 rfl rfl ?_
  obtain ⟨v15, ev15, h⟩ := ob_some h
  refine ex_gR (pc := 96) ev15 dX9_believe_96 lfX9_28 ?_
  refine ex_iload_n (pc := 99) 2 dX9_believe_99 rfl rfl ?_
  refine ex_iload_n (pc := 100) 3 dX9_believe_100 rfl rfl ?_
  obtain ⟨q16, eq16, h⟩ := ob_some h
  refine ex_wI (pc := 101) eq16 dX9_believe_101 ?_
  cases h
  exact ex_return (pc := 102) dX9_believe_102
noncomputable def f_X9_believe_0 (x0 : Nat) (x1 : Int32) (M : Mem) : Option (Mem) :=
  (f_X9_rollNumber x0 x1 M).bind fun v17 =>
  (gI M 9 x0 3).bind fun v18 =>
  if v18 < 30 then
  (f_X9_believe_36 x0 x1 v17 M)
  else
  ((gR M 9 x0 11).bind fun v20 =>
  (gR M 9 x0 11).bind fun v21 =>
  (cpI M v20 4 v21 0 116).bind fun q22 =>
  (pF q22 9 x0 3 (.int 29)).bind fun q23 =>
  f_X9_believe_36 x0 x1 v17 q23)
set_option maxHeartbeats 4000000 in
theorem t_X9_believe_0 {X : XV} {d : Nat} (hd : 4 ≤ d + 1) : ∀ (x0 : Nat) (x1 : Int32) (M : Mem) (res : Mem), f_X9_believe_0  x0 x1 M = some res → Ex X (d + 1) mX9_believe 0 [(0, .ref x0), (1, .int x1)] [] M none res := by
  intro x0 x1 M res  h
  unfold f_X9_believe_0 at h
  refine ex_aload_n (pc := 0) 0 dX9_believe_0 rfl rfl ?_
  refine ex_iload_n (pc := 1) 1 dX9_believe_1 rfl rfl ?_
  obtain ⟨v17, ev17, h⟩ := ob_some h
  refine ex_callV1r (pc := 2) dX9_believe_2 jX9_rollNumber lmX9_71 jiX9_rollNumber jvX9_rollNumber (o_X9_rollNumber ev17) rfl (Nat.le_of_ble_eq_true rfl) (s_X9_rollNumber (by omega)  ev17) ?_
  refine ex_istore_n (pc := 5) [(2, .int v17), (0, .ref x0), (1, .int x1)] dX9_believe_5 rfl (by decide) rfl ?_
  refine ex_aload_n (pc := 6) 1 dX9_believe_6 rfl rfl ?_
  obtain ⟨v18, ev18, h⟩ := ob_some h
  refine ex_gI (pc := 7) ev18 dX9_believe_7 lfX9_75 ?_
  refine ex_bipush (pc := 10) 30 dX9_believe_10 (by decide) ?_
  by_cases c19 : v18 < 30
  · rw [if_pos c19] at h
    refine ex_icmp_lt_t (pc := 12) 36 dX9_believe_12 rfl c19 ?_
    refine ex_sub (lo' := [(0, .ref x0), (1, .int x1), (2, .int v17)]) [1, 2, 0] rfl ?_
    exact t_X9_believe_36 hd  _ _ _ _ _  h
  · rw [if_neg c19] at h
    refine ex_icmp_lt_f (pc := 12) dX9_believe_12 36 rfl c19 ?_
    refine ex_aload_n (pc := 15) 1 dX9_believe_15 rfl rfl ?_
    obtain ⟨v20, ev20, h⟩ := ob_some h
    refine ex_gR (pc := 16) ev20 dX9_believe_16 lfX9_37 ?_
    refine ex_iconst (pc := 19) 4 dX9_believe_19 rfl ?_
    refine ex_aload_n (pc := 20) 1 dX9_believe_20 rfl rfl ?_
    obtain ⟨v21, ev21, h⟩ := ob_some h
    refine ex_gR (pc := 21) ev21 dX9_believe_21 lfX9_37 ?_
    refine ex_iconst (pc := 24) 0 dX9_believe_24 rfl ?_
    refine ex_bipush (pc := 25) 116 dX9_believe_25 (by decide) ?_
    obtain ⟨q22, eq22, h⟩ := ob_some h
    refine ex_cp (pc := 27) eq22 dX9_believe_27 lmX9_78 (by omega) (Nat.le_of_ble_eq_true rfl) ?_
    refine ex_aload_n (pc := 30) 1 dX9_believe_30 rfl rfl ?_
    refine ex_bipush (pc := 31) 29 dX9_believe_31 (by decide) ?_
    obtain ⟨q23, eq23, h⟩ := ob_some h
    refine ex_pF (pc := 33) eq23 dX9_believe_33 lfX9_75 rfl rfl (fun _ hq => by cases hq; rfl) ?_
    refine ex_sub (lo' := [(0, .ref x0), (1, .int x1), (2, .int v17)]) [1, 2, 0] rfl ?_
    exact t_X9_believe_36 hd  _ _ _ _ _  h
noncomputable def f_X9_believe (x0 : Nat) (x1 : Int32) (M : Mem) : Option (Mem) := if isOb M 9 x0 = true then f_X9_believe_0 x0 x1 M else none
theorem o_X9_believe {x0 : Nat} {x1 : Int32} {M : Mem} {res : Mem} (h : f_X9_believe x0 x1 M = some res) : isO M 9 x0 := by
  unfold f_X9_believe at h
  split at h
  · rename_i hc; exact isOb_iff hc
  · cases h
set_option maxHeartbeats 4000000 in
theorem s_X9_believe {X : XV} {d : Nat} (hd : 4 ≤ d) {x0 : Nat} {x1 : Int32} {M : Mem} {res : Mem} (h : f_X9_believe x0 x1 M = some res) : Mx X d mX9_believe [.ref x0, .int x1] M none res := by
  obtain ⟨d, rfl⟩ : ∃ e, d = e + 1 := ⟨d - 1, by omega⟩
  unfold f_X9_believe at h
  split at h
  rotate_left
  · cases h
  refine Mx.of (by decide) (Nat.le_of_ble_eq_true rfl) (rfl) ?_
  exact ex_sub (lo' := [(0, .ref x0), (1, .int x1)]) [0, 1] rfl (t_X9_believe_0 hd _ _ _ _  h)
noncomputable def f_X0_pass_60 (k6 : Nat → Nat → Nat → Option Nat → Int32 → Int32 → Mem → Option (Int32 × Mem)) (x0 : Nat) (x1 : Nat) (x2 : Nat) (x3 : Option Nat) (x4 : Int32) (x5 : Int32) (M : Mem) : Option (Int32 × Mem) :=
  (gR M 9 x1 6).bind fun v1 =>
  (gR M 9 x1 6).bind fun v2 =>
  (rI M v2 x5).bind fun v3 =>
  (f_X0_wears x0 x3 x1 x5 M).bind fun q4 =>
  (wI q4.2 v1 x5 (jmin 99 (v3 + q4.1))).bind fun q5 =>
  (gR q5 9 x1 7).bind fun v6 =>
  (gR q5 9 x1 7).bind fun v7 =>
  (rI q5 v7 x5).bind fun v8 =>
  (wI q5 v6 x5 (jmax 0 (v8 - 1))).bind fun q9 =>
  k6 x0 x1 x2 x3 x4 (x5 + 1) q9
set_option maxHeartbeats 4000000 in
theorem t_X0_pass_60 {X : XV} {d : Nat} (hd : 5 ≤ d + 1) {k6 : Nat → Nat → Nat → Option Nat → Int32 → Int32 → Mem → Option (Int32 × Mem)} (hk6 : ∀ (x0 : Nat) (x1 : Nat) (x2 : Nat) (x3 : Option Nat) (x4 : Int32) (x5 : Int32) (M : Mem) (res : Int32 × Mem), k6 x0 x1 x2 x3 x4 x5 M = some res → Ex X (d + 1) mX0_pass 6 [(0, .ref x0), (1, .ref x1), (2, .ref x2), (3, va_rf x3), (4, .int x4), (5, .int x5)] [] M (some (.int res.1)) res.2) : ∀ (x0 : Nat) (x1 : Nat) (x2 : Nat) (x3 : Option Nat) (x4 : Int32) (x5 : Int32) (M : Mem) (res : Int32 × Mem), f_X0_pass_60 k6 x0 x1 x2 x3 x4 x5 M = some res → Ex X (d + 1) mX0_pass 60 [(0, .ref x0), (1, .ref x1), (2, .ref x2), (3, va_rf x3), (4, .int x4), (5, .int x5)] [] M (some (.int res.1)) res.2 := by
  intro x0 x1 x2 x3 x4 x5 M res  h
  unfold f_X0_pass_60 at h
  refine ex_aload_n (pc := 60) 1 dX0_pass_60 rfl rfl ?_
  obtain ⟨v1, ev1, h⟩ := ob_some h
  refine ex_gR (pc := 61) ev1 dX0_pass_61 lfX0_65 ?_
  refine ex_iload (pc := 64) 5 dX0_pass_64 rfl ?_
  refine ex_bipush (pc := 66) 99 dX0_pass_66 (by decide) ?_
  refine ex_aload_n (pc := 68) 1 dX0_pass_68 rfl rfl ?_
  obtain ⟨v2, ev2, h⟩ := ob_some h
  refine ex_gR (pc := 69) ev2 dX0_pass_69 lfX0_65 ?_
  refine ex_iload (pc := 72) 5 dX0_pass_72 rfl ?_
  obtain ⟨v3, ev3, h⟩ := ob_some h
  refine ex_rI (pc := 74) ev3 dX0_pass_74 ?_
  refine ex_aload_n (pc := 75) 0 dX0_pass_75 rfl rfl ?_
  refine ex_aloadq_n (pc := 76) 3 dX0_pass_76 rfl rfl ?_
  refine ex_aload_n (pc := 77) 1 dX0_pass_77 rfl rfl ?_
  refine ex_iload (pc := 78) 5 dX0_pass_78 rfl ?_
  obtain ⟨q4, eq4, h⟩ := ob_some h
  refine ex_callV3r (pc := 80) dX0_pass_80 jX0_wears lmX0_68 jiX0_wears jvX0_wears (o_X0_wears eq4) rfl (Nat.le_of_ble_eq_true rfl) (s_X0_wears (by omega)  eq4) ?_
  refine ex_iadd (pc := 83) dX0_pass_83 ?_
  refine ex_mmin (pc := 84) dX0_pass_84 lmX0_33 (by omega) (Nat.le_of_ble_eq_true rfl) ?_
  obtain ⟨q5, eq5, h⟩ := ob_some h
  refine ex_wI (pc := 87) eq5 dX0_pass_87 ?_
  refine ex_aload_n (pc := 88) 1 dX0_pass_88 rfl rfl ?_
  obtain ⟨v6, ev6, h⟩ := ob_some h
  refine ex_gR (pc := 89) ev6 dX0_pass_89 lfX0_15 ?_
  refine ex_iload (pc := 92) 5 dX0_pass_92 rfl ?_
  refine ex_iconst (pc := 94) 0 dX0_pass_94 rfl ?_
  refine ex_aload_n (pc := 95) 1 dX0_pass_95 rfl rfl ?_
  obtain ⟨v7, ev7, h⟩ := ob_some h
  refine ex_gR (pc := 96) ev7 dX0_pass_96 lfX0_15 ?_
  refine ex_iload (pc := 99) 5 dX0_pass_99 rfl ?_
  obtain ⟨v8, ev8, h⟩ := ob_some h
  refine ex_rI (pc := 101) ev8 dX0_pass_101 ?_
  refine ex_iconst (pc := 102) 1 dX0_pass_102 rfl ?_
  refine ex_isub (pc := 103) dX0_pass_103 ?_
  refine ex_mmax (pc := 104) dX0_pass_104 lmX0_39 (by omega) (Nat.le_of_ble_eq_true rfl) ?_
  obtain ⟨q9, eq9, h⟩ := ob_some h
  refine ex_wI (pc := 107) eq9 dX0_pass_107 ?_
  refine ex_iinc (pc := 108) (x5 + 1) 5 [(5, .int (x5 + 1)), (0, .ref x0), (1, .ref x1), (2, .ref x2), (3, va_rf x3), (4, .int x4)] dX0_pass_108 rfl rfl (by decide) rfl ?_
  refine ex_goto (pc := 111) 6 dX0_pass_111 rfl ?_
  refine ex_sub (lo' := [(0, .ref x0), (1, .ref x1), (2, .ref x2), (3, va_rf x3), (4, .int x4), (5, .int (x5 + 1))]) [1, 2, 3, 4, 5, 0] rfl ?_
  exact hk6 _ _ _ _ _ _ _ _  h
noncomputable def f_X0_pass_114 (x1 : Nat) (x4 : Int32) (M : Mem) : Option (Int32 × Mem) :=
  (gI M 9 x1 1).bind fun v10 =>
  (pF M 9 x1 1 (.int (v10 + 1))).bind fun q11 =>
  some (x4, q11)
set_option maxHeartbeats 4000000 in
theorem t_X0_pass_114 {X : XV} {d : Nat} (hd : 5 ≤ d + 1) : ∀ (x1 : Nat) (x4 : Int32) (M : Mem) (res : Int32 × Mem), f_X0_pass_114  x1 x4 M = some res → Ex X (d + 1) mX0_pass 114 [(1, .ref x1), (4, .int x4)] [] M (some (.int res.1)) res.2 := by
  intro x1 x4 M res  h
  unfold f_X0_pass_114 at h
  refine ex_aload_n (pc := 114) 0 dX0_pass_114 rfl rfl ?_
  refine ex_dup (pc := 115) dX0_pass_115 rfl ?_
  obtain ⟨v10, ev10, h⟩ := ob_some h
  refine ex_gI (pc := 116) ev10 dX0_pass_116 lfX0_71 ?_
  refine ex_iconst (pc := 119) 1 dX0_pass_119 rfl ?_
  refine ex_iadd (pc := 120) dX0_pass_120 ?_
  obtain ⟨q11, eq11, h⟩ := ob_some h
  refine ex_pF (pc := 121) eq11 dX0_pass_121 lfX0_71 rfl rfl (fun _ hq => by cases hq; rfl) ?_
  refine ex_iload (pc := 124) 1 dX0_pass_124 rfl ?_
  cases h
  exact ex_ireturn (pc := 126) dX0_pass_126
noncomputable def f_X0_pass_6 (n0 : Nat) (x0 : Nat) (x1 : Nat) (x2 : Nat) (x3 : Option Nat) (x4 : Int32) (x5 : Int32) (M : Mem) : Option (Int32 × Mem) :=
  match n0 with
  | 0 => none
  | n + 1 =>
    (gI M 9 x1 0).bind fun v12 =>
    if v12 ≤ x5 then
    (f_X0_pass_114 x1 x4 M)
    else
    (if 5 ≤ x5 then
    (f_X0_pass_114 x1 x4 M)
    else
    ((f_X0_loose x0 x3 x1 x5 M).bind fun q15 =>
    (f_X0_printRoll x1 x5 x2 q15.1 q15.2).bind fun q16 =>
    (f_X9_draw x1 q16).bind fun q17 =>
    (f_X0_believes x0 x3 x1 x5 q17.2).bind fun q18 =>
    if q18.1 ≤ q17.1 then
    (f_X0_pass_60 (f_X0_pass_6 n) x0 x1 x2 x3 x4 x5 q18.2)
    else
    ((f_X9_believe x1 x5 q18.2).bind fun q20 =>
    f_X0_pass_60 (f_X0_pass_6 n) x0 x1 x2 x3 (x4 + 1) x5 q20)))
set_option maxHeartbeats 4000000 in
theorem t_X0_pass_6 {X : XV} {d : Nat} (hd : 5 ≤ d + 1) : ∀ (n : Nat) (x0 : Nat) (x1 : Nat) (x2 : Nat) (x3 : Option Nat) (x4 : Int32) (x5 : Int32) (M : Mem) (res : Int32 × Mem), f_X0_pass_6 n  x0 x1 x2 x3 x4 x5 M = some res → Ex X (d + 1) mX0_pass 6 [(0, .ref x0), (1, .ref x1), (2, .ref x2), (3, va_rf x3), (4, .int x4), (5, .int x5)] [] M (some (.int res.1)) res.2 := by
  intro n
  induction n with
  | zero =>
    intro x0 x1 x2 x3 x4 x5 M res  h
    unfold f_X0_pass_6 at h
    cases h
  | succ n ih =>
    intro x0 x1 x2 x3 x4 x5 M res  h
    unfold f_X0_pass_6 at h
    refine ex_iload (pc := 6) 5 dX0_pass_6 rfl ?_
    refine ex_aload_n (pc := 8) 1 dX0_pass_8 rfl rfl ?_
    obtain ⟨v12, ev12, h⟩ := ob_some h
    refine ex_gI (pc := 9) ev12 dX0_pass_9 lfX0_42 ?_
    by_cases c13 : v12 ≤ x5
    · rw [if_pos c13] at h
      refine ex_icmp_ge_t (pc := 12) 114 dX0_pass_12 rfl c13 ?_
      refine ex_sub (lo' := [(1, .ref x1), (4, .int x4)]) [1, 4] rfl ?_
      exact t_X0_pass_114 hd  _ _ _ _  h
    · rw [if_neg c13] at h
      refine ex_icmp_ge_f (pc := 12) dX0_pass_12 114 rfl c13 ?_
      refine ex_iload (pc := 15) 5 dX0_pass_15 rfl ?_
      refine ex_iconst (pc := 17) 5 dX0_pass_17 rfl ?_
      by_cases c14 : 5 ≤ x5
      · rw [if_pos c14] at h
        refine ex_icmp_ge_t (pc := 18) 114 dX0_pass_18 rfl c14 ?_
        refine ex_sub (lo' := [(1, .ref x1), (4, .int x4)]) [1, 4] rfl ?_
        exact t_X0_pass_114 hd  _ _ _ _  h
      · rw [if_neg c14] at h
        refine ex_icmp_ge_f (pc := 18) dX0_pass_18 114 rfl c14 ?_
        refine ex_aload_n (pc := 21) 1 dX0_pass_21 rfl rfl ?_
        refine ex_iload (pc := 22) 5 dX0_pass_22 rfl ?_
        refine ex_aload_n (pc := 24) 2 dX0_pass_24 rfl rfl ?_
        refine ex_aload_n (pc := 25) 0 dX0_pass_25 rfl rfl ?_
        refine ex_aloadq_n (pc := 26) 3 dX0_pass_26 rfl rfl ?_
        refine ex_aload_n (pc := 27) 1 dX0_pass_27 rfl rfl ?_
        refine ex_iload (pc := 28) 5 dX0_pass_28 rfl ?_
        obtain ⟨q15, eq15, h⟩ := ob_some h
        refine ex_callV3r (pc := 30) dX0_pass_30 jX0_loose lmX0_46 jiX0_loose jvX0_loose (o_X0_loose eq15) rfl (Nat.le_of_ble_eq_true rfl) (s_X0_loose (by omega)  eq15) ?_
        obtain ⟨q16, eq16, h⟩ := ob_some h
        refine ex_callS4v (pc := 33) dX0_pass_33 jX0_printRoll lmX0_50 jsX0_printRoll (Nat.le_of_ble_eq_true rfl) (s_X0_printRoll (by omega)  eq16) ?_
        refine ex_aload_n (pc := 36) 1 dX0_pass_36 rfl rfl ?_
        obtain ⟨q17, eq17, h⟩ := ob_some h
        refine ex_callV0r (pc := 37) dX0_pass_37 jX9_draw lmX0_54 jiX9_draw jvX9_draw (o_X9_draw eq17) rfl (Nat.le_of_ble_eq_true rfl) (s_X9_draw (by omega)  eq17) ?_
        refine ex_aload_n (pc := 40) 0 dX0_pass_40 rfl rfl ?_
        refine ex_aloadq_n (pc := 41) 3 dX0_pass_41 rfl rfl ?_
        refine ex_aload_n (pc := 42) 1 dX0_pass_42 rfl rfl ?_
        refine ex_iload (pc := 43) 5 dX0_pass_43 rfl ?_
        obtain ⟨q18, eq18, h⟩ := ob_some h
        refine ex_callV3r (pc := 45) dX0_pass_45 jX0_believes lmX0_58 jiX0_believes jvX0_believes (o_X0_believes eq18) rfl (Nat.le_of_ble_eq_true rfl) (s_X0_believes (by omega)  eq18) ?_
        by_cases c19 : q18.1 ≤ q17.1
        · rw [if_pos c19] at h
          refine ex_icmp_ge_t (pc := 48) 60 dX0_pass_48 rfl c19 ?_
          refine ex_sub (lo' := [(0, .ref x0), (1, .ref x1), (2, .ref x2), (3, va_rf x3), (4, .int x4), (5, .int x5)]) [0, 1, 2, 3, 4, 5] rfl ?_
          exact t_X0_pass_60 hd ih _ _ _ _ _ _ _ _  h
        · rw [if_neg c19] at h
          refine ex_icmp_ge_f (pc := 48) dX0_pass_48 60 rfl c19 ?_
          refine ex_aload_n (pc := 51) 1 dX0_pass_51 rfl rfl ?_
          refine ex_iload (pc := 52) 5 dX0_pass_52 rfl ?_
          obtain ⟨q20, eq20, h⟩ := ob_some h
          refine ex_callV1v (pc := 54) dX0_pass_54 jX9_believe lmX0_61 jiX9_believe jvX9_believe (o_X9_believe eq20) rfl (Nat.le_of_ble_eq_true rfl) (s_X9_believe (by omega)  eq20) ?_
          refine ex_iinc (pc := 57) (x4 + 1) 4 [(4, .int (x4 + 1)), (0, .ref x0), (1, .ref x1), (2, .ref x2), (3, va_rf x3), (5, .int x5)] dX0_pass_57 rfl rfl (by decide) (by cases x3 <;> rfl) ?_
          refine ex_sub (lo' := [(0, .ref x0), (1, .ref x1), (2, .ref x2), (3, va_rf x3), (4, .int (x4 + 1)), (5, .int x5)]) [1, 2, 3, 4, 0, 5] rfl ?_
          exact t_X0_pass_60 hd ih _ _ _ _ _ _ _ _  h
noncomputable def f_X0_pass_0 (x0 : Nat) (x1 : Nat) (x2 : Nat) (x3 : Option Nat) (M : Mem) : Option (Int32 × Mem) :=
  f_X0_pass_6 fu x0 x1 x2 x3 0 0 M
set_option maxHeartbeats 4000000 in
theorem t_X0_pass_0 {X : XV} {d : Nat} (hd : 5 ≤ d + 1) : ∀ (x0 : Nat) (x1 : Nat) (x2 : Nat) (x3 : Option Nat) (M : Mem) (res : Int32 × Mem), f_X0_pass_0  x0 x1 x2 x3 M = some res → Ex X (d + 1) mX0_pass 0 [(0, .ref x0), (1, .ref x1), (2, .ref x2), (3, va_rf x3)] [] M (some (.int res.1)) res.2 := by
  intro x0 x1 x2 x3 M res  h
  unfold f_X0_pass_0 at h
  refine ex_iconst (pc := 0) 0 dX0_pass_0 rfl ?_
  refine ex_istore (pc := 1) [(4, .int 0), (0, .ref x0), (1, .ref x1), (2, .ref x2), (3, va_rf x3)] dX0_pass_1 (by decide) (by cases x3 <;> rfl) ?_
  refine ex_iconst (pc := 3) 0 dX0_pass_3 rfl ?_
  refine ex_istore (pc := 4) [(5, .int 0), (4, .int 0), (0, .ref x0), (1, .ref x1), (2, .ref x2), (3, va_rf x3)] dX0_pass_4 (by decide) rfl ?_
  refine ex_sub (lo' := [(0, .ref x0), (1, .ref x1), (2, .ref x2), (3, va_rf x3), (4, .int 0), (5, .int 0)]) [2, 3, 4, 5, 1, 0] rfl ?_
  exact t_X0_pass_6 hd  _ _ _ _ _ _ _ _ _  h
noncomputable def f_X0_pass (x0 : Nat) (x1 : Nat) (x2 : Nat) (x3 : Option Nat) (M : Mem) : Option (Int32 × Mem) := if isOb M 0 x0 = true then f_X0_pass_0 x0 x1 x2 x3 M else none
theorem o_X0_pass {x0 : Nat} {x1 : Nat} {x2 : Nat} {x3 : Option Nat} {M : Mem} {res : Int32 × Mem} (h : f_X0_pass x0 x1 x2 x3 M = some res) : isO M 0 x0 := by
  unfold f_X0_pass at h
  split at h
  · rename_i hc; exact isOb_iff hc
  · cases h
set_option maxHeartbeats 4000000 in
theorem s_X0_pass {X : XV} {d : Nat} (hd : 5 ≤ d) {x0 : Nat} {x1 : Nat} {x2 : Nat} {x3 : Option Nat} {M : Mem} {res : Int32 × Mem} (h : f_X0_pass x0 x1 x2 x3 M = some res) : Mx X d mX0_pass [.ref x0, .ref x1, .ref x2, va_rf x3] M (some (.int res.1)) res.2 := by
  obtain ⟨d, rfl⟩ : ∃ e, d = e + 1 := ⟨d - 1, by omega⟩
  unfold f_X0_pass at h
  split at h
  rotate_left
  · cases h
  cases x3 <;>
    (refine Mx.of (by decide) (Nat.le_of_ble_eq_true rfl) (⟨_, rfl, rfl⟩) ?_; exact ex_sub [0, 1, 2, 3] rfl (t_X0_pass_0 hd _ _ _ _ _ _  h))
