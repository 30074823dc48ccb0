noncomputable def f_X1_init_0 (x0 : Nat) (M : Mem) : Option (Mem) :=
  (nwI M 5).bind fun q1 =>
  (pF q1 1 x0 0 (.ref M.1)).bind fun q2 =>
  (nwI q2 5).bind fun q3 =>
  (pF q3 1 x0 1 (.ref q2.1)).bind fun q4 =>
  (nwI q4 5).bind fun q5 =>
  (pF q5 1 x0 2 (.ref q4.1)).bind fun q6 =>
  some q6
set_option maxHeartbeats 4000000 in
theorem t_X1_init_0 {X : XV} {d : Nat} (hd : 1 ≤ d + 1) : ∀ (x0 : Nat) (M : Mem) (res : Mem), f_X1_init_0  x0 M = some res → Ex X (d + 1) mX1_init 0 [(0, .ref x0)] [] M none res := by
  intro x0 M res  h
  unfold f_X1_init_0 at h
  refine ex_aload_n (pc := 0) 0 dX1_init_0 rfl rfl ?_
  refine ex_obj (pc := 1) dX1_init_1 lmX1_3 (by omega) (Nat.le_of_ble_eq_true rfl) ?_
  refine ex_aload_n (pc := 4) 0 dX1_init_4 rfl rfl ?_
  refine ex_iconst (pc := 5) 5 dX1_init_5 rfl ?_
  obtain ⟨q1, eq1, h⟩ := ob_some h
  refine ex_nwI (pc := 6) eq1 dX1_init_6 ?_
  obtain ⟨q2, eq2, h⟩ := ob_some h
  refine ex_pFF (pc := 8) eq2 dX1_init_8 lfX1_9 rfl rfl (fun _ hq => by cases hq; exact ⟨rfl, rfl⟩) rfl ?_
  refine ex_aload_n (pc := 11) 0 dX1_init_11 rfl rfl ?_
  refine ex_iconst (pc := 12) 5 dX1_init_12 rfl ?_
  obtain ⟨q3, eq3, h⟩ := ob_some h
  refine ex_nwI (pc := 13) eq3 dX1_init_13 ?_
  obtain ⟨q4, eq4, h⟩ := ob_some h
  refine ex_pFF (pc := 15) eq4 dX1_init_15 lfX1_15 rfl rfl (fun _ hq => by cases hq; exact ⟨rfl, rfl⟩) rfl ?_
  refine ex_aload_n (pc := 18) 0 dX1_init_18 rfl rfl ?_
  refine ex_iconst (pc := 19) 5 dX1_init_19 rfl ?_
  obtain ⟨q5, eq5, h⟩ := ob_some h
  refine ex_nwI (pc := 20) eq5 dX1_init_20 ?_
  obtain ⟨q6, eq6, h⟩ := ob_some h
  refine ex_pFF (pc := 22) eq6 dX1_init_22 lfX1_18 rfl rfl (fun _ hq => by cases hq; exact ⟨rfl, rfl⟩) rfl ?_
  cases h
  exact ex_return (pc := 25) dX1_init_25
noncomputable def f_X1_init (x0 : Nat) (M : Mem) : Option (Mem) := f_X1_init_0 x0 M
set_option maxHeartbeats 4000000 in
theorem s_X1_init {X : XV} {d : Nat} (hd : 1 ≤ d) {x0 : Nat} {M : Mem} {res : Mem} (h : f_X1_init x0 M = some res) : Mx X d mX1_init [.ref x0] M none res := by
  obtain ⟨d, rfl⟩ : ∃ e, d = e + 1 := ⟨d - 1, by omega⟩
  unfold f_X1_init at h
  refine Mx.of (by decide) (Nat.le_of_ble_eq_true rfl) (rfl) ?_
  exact ex_sub (lo' := [(0, .ref x0)]) [0] rfl (t_X1_init_0 hd _ _ _  h)
noncomputable def f_X1_prefers_0 (x0 : Nat) (x1 : Int32) (x2 : Int32) (x3 : Int32) (M : Mem) : Option (Bool) :=
  (rI M x0 ((x1 * 5) + x2)).bind fun v1 =>
  (rI M x0 ((x1 * 5) + x3)).bind fun v2 =>
  if v1 < v2 then
  (some true)
  else
  (if v1 = v2 then
  (if x3 ≤ x2 then
  (some false)
  else
  (some true))
  else
  (some false))
set_option maxHeartbeats 4000000 in
theorem t_X1_prefers_0 {X : XV} {d : Nat} (hd : 1 ≤ d + 1) : ∀ (x0 : Nat) (x1 : Int32) (x2 : Int32) (x3 : Int32) (M : Mem) (res : Bool), f_X1_prefers_0  x0 x1 x2 x3 M = some res → Ex X (d + 1) mX1_prefers 0 [(0, .ref x0), (1, .int x1), (2, .int x2), (3, .int x3)] [] M (some (.int (jz res))) M := by
  intro x0 x1 x2 x3 M res  h
  unfold f_X1_prefers_0 at h
  refine ex_aload_n (pc := 0) 0 dX1_prefers_0 rfl rfl ?_
  refine ex_iload_n (pc := 1) 1 dX1_prefers_1 rfl rfl ?_
  refine ex_iconst (pc := 2) 5 dX1_prefers_2 rfl ?_
  refine ex_imul (pc := 3) dX1_prefers_3 ?_
  refine ex_iload_n (pc := 4) 2 dX1_prefers_4 rfl rfl ?_
  refine ex_iadd (pc := 5) dX1_prefers_5 ?_
  obtain ⟨v1, ev1, h⟩ := ob_some h
  refine ex_rI (pc := 6) ev1 dX1_prefers_6 ?_
  refine ex_istore (pc := 7) [(4, .int v1), (0, .ref x0), (1, .int x1), (2, .int x2), (3, .int x3)] dX1_prefers_7 (by decide) rfl ?_
  refine ex_aload_n (pc := 9) 1 dX1_prefers_9 rfl rfl ?_
  refine ex_iload_n (pc := 10) 2 dX1_prefers_10 rfl rfl ?_
  refine ex_iconst (pc := 11) 5 dX1_prefers_11 rfl ?_
  refine ex_imul (pc := 12) dX1_prefers_12 ?_
  refine ex_iload_n (pc := 13) 4 dX1_prefers_13 rfl rfl ?_
  refine ex_iadd (pc := 14) dX1_prefers_14 ?_
  obtain ⟨v2, ev2, h⟩ := ob_some h
  refine ex_rI (pc := 15) ev2 dX1_prefers_15 ?_
  refine ex_istore (pc := 16) [(5, .int v2), (4, .int v1), (0, .ref x0), (1, .int x1), (2, .int x2), (3, .int x3)] dX1_prefers_16 (by decide) rfl ?_
  refine ex_iload (pc := 18) 1 dX1_prefers_18 rfl ?_
  refine ex_iload (pc := 20) 0 dX1_prefers_20 rfl ?_
  by_cases c3 : v1 < v2
  · rw [if_pos c3] at h
    refine ex_icmp_lt_t (pc := 22) 37 dX1_prefers_22 rfl c3 ?_
    refine ex_iconst (pc := 37) 1 dX1_prefers_37 rfl ?_
    refine ex_goto (pc := 38) 42 dX1_prefers_38 rfl ?_
    cases h
    exact ex_ireturn (pc := 42) dX1_prefers_42
  · rw [if_neg c3] at h
    refine ex_icmp_lt_f (pc := 22) dX1_prefers_22 37 rfl c3 ?_
    refine ex_iload (pc := 25) 1 dX1_prefers_25 rfl ?_
    refine ex_iload (pc := 27) 0 dX1_prefers_27 rfl ?_
    by_cases c4 : v1 = v2
    · rw [if_pos c4] at h
      refine ex_icmp_ne_f (pc := 29) dX1_prefers_29 41 rfl c4 ?_
      refine ex_iload_n (pc := 32) 4 dX1_prefers_32 rfl rfl ?_
      refine ex_iload_n (pc := 33) 5 dX1_prefers_33 rfl rfl ?_
      by_cases c5 : x3 ≤ x2
      · rw [if_pos c5] at h
        refine ex_icmp_ge_t (pc := 34) 41 dX1_prefers_34 rfl c5 ?_
        refine ex_iconst (pc := 41) 0 dX1_prefers_41 rfl ?_
        cases h
        exact ex_ireturn (pc := 42) dX1_prefers_42
      · rw [if_neg c5] at h
        refine ex_icmp_ge_f (pc := 34) dX1_prefers_34 41 rfl c5 ?_
        refine ex_iconst (pc := 37) 1 dX1_prefers_37 rfl ?_
        refine ex_goto (pc := 38) 42 dX1_prefers_38 rfl ?_
        cases h
        exact ex_ireturn (pc := 42) dX1_prefers_42
    · rw [if_neg c4] at h
      refine ex_icmp_ne_t (pc := 29) 41 dX1_prefers_29 rfl c4 ?_
      refine ex_iconst (pc := 41) 0 dX1_prefers_41 rfl ?_
      cases h
      exact ex_ireturn (pc := 42) dX1_prefers_42
noncomputable def f_X1_prefers (x0 : Nat) (x1 : Int32) (x2 : Int32) (x3 : Int32) (M : Mem) : Option (Bool) := f_X1_prefers_0 x0 x1 x2 x3 M
set_option maxHeartbeats 4000000 in
theorem s_X1_prefers {X : XV} {d : Nat} (hd : 1 ≤ d) {x0 : Nat} {x1 : Int32} {x2 : Int32} {x3 : Int32} {M : Mem} {res : Bool} (h : f_X1_prefers x0 x1 x2 x3 M = some res) : Mx X d mX1_prefers [.ref x0, .int x1, .int x2, .int x3] M (some (.int (jz res))) M := by
  obtain ⟨d, rfl⟩ : ∃ e, d = e + 1 := ⟨d - 1, by omega⟩
  unfold f_X1_prefers at h
  refine Mx.of (by decide) (Nat.le_of_ble_eq_true rfl) (⟨_, rfl, jz_nar _⟩) ?_
  exact ex_sub (lo' := [(0, .ref x0), (1, .int x1), (2, .int x2), (3, .int x3)]) [0, 1, 2, 3] rfl (t_X1_prefers_0 hd _ _ _ _ _ _  h)
noncomputable def f_J7_fill_53178_5 (n0 : Nat) (x0 : Nat) (x1 : Int32) (x2 : Int32) (x3 : Int32) (M : Mem) : Option (Mem) :=
  match n0 with
  | 0 => none
  | n + 1 =>
    if x3 ≤ x2 then
    (some M)
    else
    ((wI M x0 x2 x1).bind fun q2 =>
    f_J7_fill_53178_5 n x0 x1 (x2 + 1) x3 q2)
set_option maxHeartbeats 4000000 in
theorem t_J7_fill_53178_5 {X : XV} {d : Nat} (hd : 1 ≤ d + 1) : ∀ (n : Nat) (x0 : Nat) (x1 : Int32) (x2 : Int32) (x3 : Int32) (M : Mem) (res : Mem), f_J7_fill_53178_5 n  x0 x1 x2 x3 M = some res → Ex X (d + 1) mJ7_fill_53178 5 [(0, .ref x0), (1, .int x1), (2, .int x2), (3, .int x3)] [] M none res := by
  intro n
  induction n with
  | zero =>
    intro x0 x1 x2 x3 M res  h
    unfold f_J7_fill_53178_5 at h
    cases h
  | succ n ih =>
    intro x0 x1 x2 x3 M res  h
    unfold f_J7_fill_53178_5 at h
    refine ex_iload_n (pc := 5) 2 dJ7_fill_53178_5 rfl rfl ?_
    refine ex_iload_n (pc := 6) 3 dJ7_fill_53178_6 rfl rfl ?_
    by_cases c1 : x3 ≤ x2
    · rw [if_pos c1] at h
      refine ex_icmp_ge_t (pc := 7) 20 dJ7_fill_53178_7 rfl c1 ?_
      cases h
      exact ex_return (pc := 20) dJ7_fill_53178_20
    · rw [if_neg c1] at h
      refine ex_icmp_ge_f (pc := 7) dJ7_fill_53178_7 20 rfl c1 ?_
      refine ex_aload_n (pc := 10) 0 dJ7_fill_53178_10 rfl rfl ?_
      refine ex_iload_n (pc := 11) 2 dJ7_fill_53178_11 rfl rfl ?_
      refine ex_iload_n (pc := 12) 1 dJ7_fill_53178_12 rfl rfl ?_
      obtain ⟨q2, eq2, h⟩ := ob_some h
      refine ex_wI (pc := 13) eq2 dJ7_fill_53178_13 ?_
      refine ex_iinc (pc := 14) (x2 + 1) 2 [(2, .int (x2 + 1)), (0, .ref x0), (1, .int x1), (3, .int x3)] dJ7_fill_53178_14 rfl rfl (by decide) rfl ?_
      refine ex_goto (pc := 17) 5 dJ7_fill_53178_17 rfl ?_
      refine ex_sub (lo' := [(0, .ref x0), (1, .int x1), (2, .int (x2 + 1)), (3, .int x3)]) [1, 2, 0, 3] rfl ?_
      exact ih _ _ _ _ _ _  h
noncomputable def f_J7_fill_53178_0 (x0 : Nat) (x1 : Int32) (M : Mem) : Option (Mem) :=
  (lnA M x0).bind fun v3 =>
  f_J7_fill_53178_5 fu x0 x1 0 v3 M
set_option maxHeartbeats 4000000 in
theorem t_J7_fill_53178_0 {X : XV} {d : Nat} (hd : 1 ≤ d + 1) : ∀ (x0 : Nat) (x1 : Int32) (M : Mem) (res : Mem), f_J7_fill_53178_0  x0 x1 M = some res → Ex X (d + 1) mJ7_fill_53178 0 [(0, .ref x0), (1, .int x1)] [] M none res := by
  intro x0 x1 M res  h
  unfold f_J7_fill_53178_0 at h
  refine ex_iconst (pc := 0) 0 dJ7_fill_53178_0 rfl ?_
  refine ex_istore_n (pc := 1) [(2, .int 0), (0, .ref x0), (1, .int x1)] dJ7_fill_53178_1 rfl (by decide) rfl ?_
  refine ex_aload_n (pc := 2) 1 dJ7_fill_53178_2 rfl rfl ?_
  obtain ⟨v3, ev3, h⟩ := ob_some h
  refine ex_ln (pc := 3) ev3 dJ7_fill_53178_3 ?_
  refine ex_istore_n (pc := 4) [(3, .int v3), (2, .int 0), (0, .ref x0), (1, .int x1)] dJ7_fill_53178_4 rfl (by decide) rfl ?_
  refine ex_sub (lo' := [(0, .ref x0), (1, .int x1), (2, .int 0), (3, .int v3)]) [2, 3, 1, 0] rfl ?_
  exact t_J7_fill_53178_5 hd  _ _ _ _ _ _ _  h
noncomputable def f_J7_fill_53178 (x0 : Nat) (x1 : Int32) (M : Mem) : Option (Mem) := f_J7_fill_53178_0 x0 x1 M
set_option maxHeartbeats 4000000 in
theorem s_J7_fill_53178 {X : XV} {d : Nat} (hd : 1 ≤ d) {x0 : Nat} {x1 : Int32} {M : Mem} {res : Mem} (h : f_J7_fill_53178 x0 x1 M = some res) : Mx X d mJ7_fill_53178 [.ref x0, .int x1] M none res := by
  obtain ⟨d, rfl⟩ : ∃ e, d = e + 1 := ⟨d - 1, by omega⟩
  unfold f_J7_fill_53178 at h
  refine Mx.of (by decide) (Nat.le_of_ble_eq_true rfl) (rfl) ?_
  exact ex_sub (lo' := [(0, .ref x0), (1, .int x1)]) [0, 1] rfl (t_J7_fill_53178_0 hd _ _ _ _  h)
noncomputable def f_X1_lowestFree_2 (n0 : Nat) (x0 : Nat) (x1 : Int32) (M : Mem) : Option (Int32) :=
  match n0 with
  | 0 => none
  | n + 1 =>
    if 5 ≤ x1 then
    (some (-1))
    else
    ((gR M 1 x0 0).bind fun v2 =>
    (rI M v2 x1).bind fun v3 =>
    if 0 ≤ v3 then
    (f_X1_lowestFree_2 n x0 (x1 + 1) M)
    else
    (some x1))
set_option maxHeartbeats 4000000 in
theorem t_X1_lowestFree_2 {X : XV} {d : Nat} (hd : 1 ≤ d + 1) : ∀ (n : Nat) (x0 : Nat) (x1 : Int32) (M : Mem) (res : Int32), f_X1_lowestFree_2 n  x0 x1 M = some res → Ex X (d + 1) mX1_lowestFree 2 [(0, .ref x0), (1, .int x1)] [] M (some (.int res)) M := by
  intro n
  induction n with
  | zero =>
    intro x0 x1 M res  h
    unfold f_X1_lowestFree_2 at h
    cases h
  | succ n ih =>
    intro x0 x1 M res  h
    unfold f_X1_lowestFree_2 at h
    refine ex_iload_n (pc := 2) 1 dX1_lowestFree_2 rfl rfl ?_
    refine ex_iconst (pc := 3) 5 dX1_lowestFree_3 rfl ?_
    by_cases c1 : 5 ≤ x1
    · rw [if_pos c1] at h
      refine ex_icmp_ge_t (pc := 4) 24 dX1_lowestFree_4 rfl c1 ?_
      refine ex_iconst (pc := 24) (-1) dX1_lowestFree_24 rfl ?_
      cases h
      exact ex_ireturn (pc := 25) dX1_lowestFree_25
    · rw [if_neg c1] at h
      refine ex_icmp_ge_f (pc := 4) dX1_lowestFree_4 24 rfl c1 ?_
      refine ex_aload_n (pc := 7) 0 dX1_lowestFree_7 rfl rfl ?_
      obtain ⟨v2, ev2, h⟩ := ob_some h
      refine ex_gR (pc := 8) ev2 dX1_lowestFree_8 lfX1_9 ?_
      refine ex_iload_n (pc := 11) 1 dX1_lowestFree_11 rfl rfl ?_
      obtain ⟨v3, ev3, h⟩ := ob_some h
      refine ex_rI (pc := 12) ev3 dX1_lowestFree_12 ?_
      by_cases c4 : 0 ≤ v3
      · rw [if_pos c4] at h
        refine ex_if_ge_t (pc := 13) 18 dX1_lowestFree_13 rfl c4 ?_
        refine ex_iinc (pc := 18) (x1 + 1) 1 [(1, .int (x1 + 1)), (0, .ref x0)] dX1_lowestFree_18 rfl rfl (by decide) rfl ?_
        refine ex_goto (pc := 21) 2 dX1_lowestFree_21 rfl ?_
        refine ex_sub (lo' := [(0, .ref x0), (1, .int (x1 + 1))]) [1, 0] rfl ?_
        exact ih _ _ _ _  h
      · rw [if_neg c4] at h
        refine ex_if_ge_f (pc := 13) dX1_lowestFree_13 18 rfl c4 ?_
        refine ex_iload_n (pc := 16) 1 dX1_lowestFree_16 rfl rfl ?_
        cases h
        exact ex_ireturn (pc := 17) dX1_lowestFree_17
noncomputable def f_X1_lowestFree_0 (x0 : Nat) (M : Mem) : Option (Int32) :=
  f_X1_lowestFree_2 fu x0 0 M
set_option maxHeartbeats 4000000 in
theorem t_X1_lowestFree_0 {X : XV} {d : Nat} (hd : 1 ≤ d + 1) : ∀ (x0 : Nat) (M : Mem) (res : Int32), f_X1_lowestFree_0  x0 M = some res → Ex X (d + 1) mX1_lowestFree 0 [(0, .ref x0)] [] M (some (.int res)) M := by
  intro x0 M res  h
  unfold f_X1_lowestFree_0 at h
  refine ex_iconst (pc := 0) 0 dX1_lowestFree_0 rfl ?_
  refine ex_istore_n (pc := 1) [(1, .int 0), (0, .ref x0)] dX1_lowestFree_1 rfl (by decide) rfl ?_
  refine ex_sub (lo' := [(0, .ref x0), (1, .int 0)]) [1, 0] rfl ?_
  exact t_X1_lowestFree_2 hd  _ _ _ _ _  h
noncomputable def f_X1_lowestFree (x0 : Nat) (M : Mem) : Option (Int32) := if isOb M 1 x0 = true then f_X1_lowestFree_0 x0 M else none
theorem o_X1_lowestFree {x0 : Nat} {M : Mem} {res : Int32} (h : f_X1_lowestFree x0 M = some res) : isO M 1 x0 := by
  unfold f_X1_lowestFree at h
  split at h
  · rename_i hc; exact isOb_iff hc
  · cases h
set_option maxHeartbeats 4000000 in
theorem s_X1_lowestFree {X : XV} {d : Nat} (hd : 1 ≤ d) {x0 : Nat} {M : Mem} {res : Int32} (h : f_X1_lowestFree x0 M = some res) : Mx X d mX1_lowestFree [.ref x0] M (some (.int res)) M := by
  obtain ⟨d, rfl⟩ : ∃ e, d = e + 1 := ⟨d - 1, by omega⟩
  unfold f_X1_lowestFree at h
  split at h
  rotate_left
  · cases h
  refine Mx.of (by decide) (Nat.le_of_ble_eq_true rfl) (⟨_, rfl, rfl⟩) ?_
  exact ex_sub (lo' := [(0, .ref x0)]) [0] rfl (t_X1_lowestFree_0 hd _ _ _  h)
noncomputable def f_X1_bestUnasked_30 (k5 : Nat → Nat → Int32 → Int32 → Int32 → Mem → Option (Int32)) (x0 : Nat) (x1 : Nat) (x2 : Int32) (x3 : Int32) (x4 : Int32) (s0 : Bool) (M : Mem) : Option (Int32) :=
  if s0 = false then
  (k5 x0 x1 x2 x3 (x4 + 1) M)
  else
  (if x3 < 0 then
  (k5 x0 x1 x2 x4 (x4 + 1) M)
  else
  ((f_X1_prefers x1 x2 x4 x3 M).bind fun v3 =>
  if v3 = false then
  (k5 x0 x1 x2 x3 (x4 + 1) M)
  else
  (k5 x0 x1 x2 x4 (x4 + 1) M)))
set_option maxHeartbeats 4000000 in
theorem t_X1_bestUnasked_30 {X : XV} {d : Nat} (hd : 2 ≤ d + 1) {k5 : Nat → Nat → Int32 → Int32 → Int32 → Mem → Option (Int32)} (hk5 : ∀ (x0 : Nat) (x1 : Nat) (x2 : Int32) (x3 : Int32) (x4 : Int32) (M : Mem) (res : Int32), k5 x0 x1 x2 x3 x4 M = some res → Ex X (d + 1) mX1_bestUnasked 5 [(0, .ref x0), (1, .ref x1), (2, .int x2), (3, .int x3), (4, .int x4)] [] M (some (.int res)) M) : ∀ (x0 : Nat) (x1 : Nat) (x2 : Int32) (x3 : Int32) (x4 : Int32) (s0 : Bool) (M : Mem) (res : Int32), f_X1_bestUnasked_30 k5 x0 x1 x2 x3 x4 s0 M = some res → Ex X (d + 1) mX1_bestUnasked 30 [(0, .ref x0), (1, .ref x1), (2, .int x2), (3, .int x3), (4, .int x4)] [.int (jz s0)] M (some (.int res)) M := by
  intro x0 x1 x2 x3 x4 s0 M res  h
  unfold f_X1_bestUnasked_30 at h
  refine ex_istore (pc := 30) [(5, .int (jz s0)), (0, .ref x0), (1, .ref x1), (2, .int x2), (3, .int x3), (4, .int x4)] dX1_bestUnasked_30 (by decide) rfl ?_
  refine ex_iload (pc := 32) 0 dX1_bestUnasked_32 rfl ?_
  by_cases c1 : s0 = false
  · rw [if_pos c1] at h
    refine ex_if_eq_t (pc := 34) 55 dX1_bestUnasked_34 rfl (jz_eq_t c1) ?_
    refine ex_iinc (pc := 55) (x4 + 1) 5 [(4, .int (x4 + 1)), (5, .int (jz s0)), (0, .ref x0), (1, .ref x1), (2, .int x2), (3, .int x3)] dX1_bestUnasked_55 rfl rfl (by decide) rfl ?_
    refine ex_goto (pc := 58) 5 dX1_bestUnasked_58 rfl ?_
    refine ex_sub (lo' := [(0, .ref x0), (1, .ref x1), (2, .int x2), (3, .int x3), (4, .int (x4 + 1))]) [2, 3, 4, 5, 0] rfl ?_
    exact hk5 _ _ _ _ _ _ _  h
  · rw [if_neg c1] at h
    refine ex_if_eq_f (pc := 34) dX1_bestUnasked_34 55 rfl (jz_eq_f c1) ?_
    refine ex_iload_n (pc := 37) 4 dX1_bestUnasked_37 rfl rfl ?_
    by_cases c2 : x3 < 0
    · rw [if_pos c2] at h
      refine ex_if_lt_t (pc := 38) 52 dX1_bestUnasked_38 rfl c2 ?_
      refine ex_iload (pc := 52) 5 dX1_bestUnasked_52 rfl ?_
      refine ex_istore_n (pc := 54) [(3, .int x4), (5, .int (jz s0)), (0, .ref x0), (1, .ref x1), (2, .int x2), (4, .int x4)] dX1_bestUnasked_54 rfl (by decide) rfl ?_
      refine ex_iinc (pc := 55) (x4 + 1) 5 [(4, .int (x4 + 1)), (3, .int x4), (5, .int (jz s0)), (0, .ref x0), (1, .ref x1), (2, .int x2)] dX1_bestUnasked_55 rfl rfl (by decide) rfl ?_
      refine ex_goto (pc := 58) 5 dX1_bestUnasked_58 rfl ?_
      refine ex_sub (lo' := [(0, .ref x0), (1, .ref x1), (2, .int x2), (3, .int x4), (4, .int (x4 + 1))]) [3, 4, 5, 1, 0] rfl ?_
      exact hk5 _ _ _ _ _ _ _  h
    · rw [if_neg c2] at h
      refine ex_if_lt_f (pc := 38) dX1_bestUnasked_38 52 rfl c2 ?_
      refine ex_aload_n (pc := 41) 2 dX1_bestUnasked_41 rfl rfl ?_
      refine ex_iload_n (pc := 42) 3 dX1_bestUnasked_42 rfl rfl ?_
      refine ex_iload (pc := 43) 5 dX1_bestUnasked_43 rfl ?_
      refine ex_iload_n (pc := 45) 4 dX1_bestUnasked_45 rfl rfl ?_
      obtain ⟨v3, ev3, h⟩ := ob_some h
      refine ex_callS4r (pc := 46) dX1_bestUnasked_46 jX1_prefers lmX1_35 jsX1_prefers (Nat.le_of_ble_eq_true rfl) (s_X1_prefers (by omega)  ev3) ?_
      by_cases c4 : v3 = false
      · rw [if_pos c4] at h
        refine ex_if_eq_t (pc := 49) 55 dX1_bestUnasked_49 rfl (jz_eq_t c4) ?_
        refine ex_iinc (pc := 55) (x4 + 1) 5 [(4, .int (x4 + 1)), (5, .int (jz s0)), (0, .ref x0), (1, .ref x1), (2, .int x2), (3, .int x3)] dX1_bestUnasked_55 rfl rfl (by decide) rfl ?_
        refine ex_goto (pc := 58) 5 dX1_bestUnasked_58 rfl ?_
        refine ex_sub (lo' := [(0, .ref x0), (1, .ref x1), (2, .int x2), (3, .int x3), (4, .int (x4 + 1))]) [2, 3, 4, 5, 0] rfl ?_
        exact hk5 _ _ _ _ _ _ _  h
      · rw [if_neg c4] at h
        refine ex_if_eq_f (pc := 49) dX1_bestUnasked_49 55 rfl (jz_eq_f c4) ?_
        refine ex_iload (pc := 52) 5 dX1_bestUnasked_52 rfl ?_
        refine ex_istore_n (pc := 54) [(3, .int x4), (5, .int (jz s0)), (0, .ref x0), (1, .ref x1), (2, .int x2), (4, .int x4)] dX1_bestUnasked_54 rfl (by decide) rfl ?_
        refine ex_iinc (pc := 55) (x4 + 1) 5 [(4, .int (x4 + 1)), (3, .int x4), (5, .int (jz s0)), (0, .ref x0), (1, .ref x1), (2, .int x2)] dX1_bestUnasked_55 rfl rfl (by decide) rfl ?_
        refine ex_goto (pc := 58) 5 dX1_bestUnasked_58 rfl ?_
        refine ex_sub (lo' := [(0, .ref x0), (1, .ref x1), (2, .int x2), (3, .int x4), (4, .int (x4 + 1))]) [3, 4, 5, 1, 0] rfl ?_
        exact hk5 _ _ _ _ _ _ _  h
noncomputable def f_X1_bestUnasked_5 (n0 : Nat) (x0 : Nat) (x1 : Nat) (x2 : Int32) (x3 : Int32) (x4 : Int32) (M : Mem) : Option (Int32) :=
  match n0 with
  | 0 => none
  | n + 1 =>
    if 5 ≤ x4 then
    (some x3)
    else
    ((gR M 1 x0 2).bind fun v6 =>
    (rI M v6 x2).bind fun v7 =>
    if ((jshr v7 x4) &&& 1) = 0 then
    (f_X1_bestUnasked_30 (f_X1_bestUnasked_5 n) x0 x1 x2 x3 x4 true M)
    else
    (f_X1_bestUnasked_30 (f_X1_bestUnasked_5 n) x0 x1 x2 x3 x4 false M))
set_option maxHeartbeats 4000000 in
theorem t_X1_bestUnasked_5 {X : XV} {d : Nat} (hd : 2 ≤ d + 1) : ∀ (n : Nat) (x0 : Nat) (x1 : Nat) (x2 : Int32) (x3 : Int32) (x4 : Int32) (M : Mem) (res : Int32), f_X1_bestUnasked_5 n  x0 x1 x2 x3 x4 M = some res → Ex X (d + 1) mX1_bestUnasked 5 [(0, .ref x0), (1, .ref x1), (2, .int x2), (3, .int x3), (4, .int x4)] [] M (some (.int res)) M := by
  intro n
  induction n with
  | zero =>
    intro x0 x1 x2 x3 x4 M res  h
    unfold f_X1_bestUnasked_5 at h
    cases h
  | succ n ih =>
    intro x0 x1 x2 x3 x4 M res  h
    unfold f_X1_bestUnasked_5 at h
    refine ex_iload (pc := 5) 4 dX1_bestUnasked_5 rfl ?_
    refine ex_iconst (pc := 7) 5 dX1_bestUnasked_7 rfl ?_
    by_cases c5 : 5 ≤ x4
    · rw [if_pos c5] at h
      refine ex_icmp_ge_t (pc := 8) 61 dX1_bestUnasked_8 rfl c5 ?_
      refine ex_iload_n (pc := 61) 3 dX1_bestUnasked_61 rfl rfl ?_
      cases h
      exact ex_ireturn (pc := 62) dX1_bestUnasked_62
    · rw [if_neg c5] at h
      refine ex_icmp_ge_f (pc := 8) dX1_bestUnasked_8 61 rfl c5 ?_
      refine ex_aload_n (pc := 11) 0 dX1_bestUnasked_11 rfl rfl ?_
      obtain ⟨v6, ev6, h⟩ := ob_some h
      refine ex_gR (pc := 12) ev6 dX1_bestUnasked_12 lfX1_18 ?_
      refine ex_iload_n (pc := 15) 2 dX1_bestUnasked_15 rfl rfl ?_
      obtain ⟨v7, ev7, h⟩ := ob_some h
      refine ex_rI (pc := 16) ev7 dX1_bestUnasked_16 ?_
      refine ex_iload (pc := 17) 4 dX1_bestUnasked_17 rfl ?_
      refine ex_ishr (pc := 19) dX1_bestUnasked_19 ?_
      refine ex_iconst (pc := 20) 1 dX1_bestUnasked_20 rfl ?_
      refine ex_iand (pc := 21) dX1_bestUnasked_21 ?_
      by_cases c8 : ((jshr v7 x4) &&& 1) = 0
      · rw [if_pos c8] at h
        refine ex_if_ne_f (pc := 22) dX1_bestUnasked_22 29 rfl c8 ?_
        refine ex_iconst (pc := 25) 1 dX1_bestUnasked_25 rfl ?_
        refine ex_goto (pc := 26) 30 dX1_bestUnasked_26 rfl ?_
        refine ex_sub (lo' := [(0, .ref x0), (1, .ref x1), (2, .int x2), (3, .int x3), (4, .int x4)]) [0, 1, 2, 3, 4] rfl ?_
        exact t_X1_bestUnasked_30 hd ih _ _ _ _ _ _ _ _  h
      · rw [if_neg c8] at h
        refine ex_if_ne_t (pc := 22) 29 dX1_bestUnasked_22 rfl c8 ?_
        refine ex_iconst (pc := 29) 0 dX1_bestUnasked_29 rfl ?_
        refine ex_sub (lo' := [(0, .ref x0), (1, .ref x1), (2, .int x2), (3, .int x3), (4, .int x4)]) [0, 1, 2, 3, 4] rfl ?_
        exact t_X1_bestUnasked_30 hd ih _ _ _ _ _ _ _ _  h
noncomputable def f_X1_bestUnasked_0 (x0 : Nat) (x1 : Nat) (x2 : Int32) (M : Mem) : Option (Int32) :=
  f_X1_bestUnasked_5 fu x0 x1 x2 (-1) 0 M
set_option maxHeartbeats 4000000 in
theorem t_X1_bestUnasked_0 {X : XV} {d : Nat} (hd : 2 ≤ d + 1) : ∀ (x0 : Nat) (x1 : Nat) (x2 : Int32) (M : Mem) (res : Int32), f_X1_bestUnasked_0  x0 x1 x2 M = some res → Ex X (d + 1) mX1_bestUnasked 0 [(0, .ref x0), (1, .ref x1), (2, .int x2)] [] M (some (.int res)) M := by
  intro x0 x1 x2 M res  h
  unfold f_X1_bestUnasked_0 at h
  refine ex_iconst (pc := 0) (-1) dX1_bestUnasked_0 rfl ?_
  refine ex_istore_n (pc := 1) [(3, .int (-1)), (0, .ref x0), (1, .ref x1), (2, .int x2)] dX1_bestUnasked_1 rfl (by decide) rfl ?_
  refine ex_iconst (pc := 2) 0 dX1_bestUnasked_2 rfl ?_
  refine ex_istore (pc := 3) [(4, .int 0), (3, .int (-1)), (0, .ref x0), (1, .ref x1), (2, .int x2)] dX1_bestUnasked_3 (by decide) rfl ?_
  refine ex_sub (lo' := [(0, .ref x0), (1, .ref x1), (2, .int x2), (3, .int (-1)), (4, .int 0)]) [2, 3, 4, 1, 0] rfl ?_
  exact t_X1_bestUnasked_5 hd  _ _ _ _ _ _ _ _  h
noncomputable def f_X1_bestUnasked (x0 : Nat) (x1 : Nat) (x2 : Int32) (M : Mem) : Option (Int32) := if isOb M 1 x0 = true then f_X1_bestUnasked_0 x0 x1 x2 M else none
theorem o_X1_bestUnasked {x0 : Nat} {x1 : Nat} {x2 : Int32} {M : Mem} {res : Int32} (h : f_X1_bestUnasked x0 x1 x2 M = some res) : isO M 1 x0 := by
  unfold f_X1_bestUnasked at h
  split at h
  · rename_i hc; exact isOb_iff hc
  · cases h
set_option maxHeartbeats 4000000 in
theorem s_X1_bestUnasked {X : XV} {d : Nat} (hd : 2 ≤ d) {x0 : Nat} {x1 : Nat} {x2 : Int32} {M : Mem} {res : Int32} (h : f_X1_bestUnasked x0 x1 x2 M = some res) : Mx X d mX1_bestUnasked [.ref x0, .ref x1, .int x2] M (some (.int res)) M := by
  obtain ⟨d, rfl⟩ : ∃ e, d = e + 1 := ⟨d - 1, by omega⟩
  unfold f_X1_bestUnasked at h
  split at h
  rotate_left
  · cases h
  refine Mx.of (by decide) (Nat.le_of_ble_eq_true rfl) (⟨_, rfl, rfl⟩) ?_
  exact ex_sub (lo' := [(0, .ref x0), (1, .ref x1), (2, .int x2)]) [0, 1, 2] rfl (t_X1_bestUnasked_0 hd _ _ _ _ _  h)
noncomputable def f_X1_pairAll_116 (k26 : Nat → Nat → Nat → Int32 → Mem → Option (Mem)) (x0 : Nat) (x1 : Nat) (x2 : Nat) (x3 : Int32) (x4 : Int32) (x5 : Int32) (M : Mem) : Option (Mem) :=
  (gR M 1 x0 1).bind fun v1 =>
  (wI M v1 x5 x4).bind fun q2 =>
  (gR q2 1 x0 0).bind fun v3 =>
  (wI q2 v3 x4 x5).bind fun q4 =>
  k26 x0 x1 x2 (x3 + 1) q4
set_option maxHeartbeats 4000000 in
theorem t_X1_pairAll_116 {X : XV} {d : Nat} (hd : 3 ≤ d + 1) {k26 : Nat → Nat → Nat → Int32 → Mem → Option (Mem)} (hk26 : ∀ (x0 : Nat) (x1 : Nat) (x2 : Nat) (x3 : Int32) (M : Mem) (res : Mem), k26 x0 x1 x2 x3 M = some res → Ex X (d + 1) mX1_pairAll 26 [(0, .ref x0), (1, .ref x1), (2, .ref x2), (3, .int x3)] [] M none res) : ∀ (x0 : Nat) (x1 : Nat) (x2 : Nat) (x3 : Int32) (x4 : Int32) (x5 : Int32) (M : Mem) (res : Mem), f_X1_pairAll_116 k26 x0 x1 x2 x3 x4 x5 M = some res → Ex X (d + 1) mX1_pairAll 116 [(0, .ref x0), (1, .ref x1), (2, .ref x2), (3, .int x3), (4, .int x4), (5, .int x5)] [] M none res := by
  intro x0 x1 x2 x3 x4 x5 M res  h
  unfold f_X1_pairAll_116 at h
  refine ex_aload_n (pc := 116) 0 dX1_pairAll_116 rfl rfl ?_
  obtain ⟨v1, ev1, h⟩ := ob_some h
  refine ex_gR (pc := 117) ev1 dX1_pairAll_117 lfX1_15 ?_
  refine ex_iload (pc := 120) 5 dX1_pairAll_120 rfl ?_
  refine ex_iload (pc := 122) 4 dX1_pairAll_122 rfl ?_
  obtain ⟨q2, eq2, h⟩ := ob_some h
  refine ex_wI (pc := 124) eq2 dX1_pairAll_124 ?_
  refine ex_aload_n (pc := 125) 0 dX1_pairAll_125 rfl rfl ?_
  obtain ⟨v3, ev3, h⟩ := ob_some h
  refine ex_gR (pc := 126) ev3 dX1_pairAll_126 lfX1_9 ?_
  refine ex_iload (pc := 129) 4 dX1_pairAll_129 rfl ?_
  refine ex_iload (pc := 131) 5 dX1_pairAll_131 rfl ?_
  obtain ⟨q4, eq4, h⟩ := ob_some h
  refine ex_wI (pc := 133) eq4 dX1_pairAll_133 ?_
  refine ex_iinc (pc := 134) (x3 + 1) 3 [(3, .int (x3 + 1)), (0, .ref x0), (1, .ref x1), (2, .ref x2), (4, .int x4), (5, .int x5)] dX1_pairAll_134 rfl rfl (by decide) rfl ?_
  refine ex_goto (pc := 137) 26 dX1_pairAll_137 rfl ?_
  refine ex_sub (lo' := [(0, .ref x0), (1, .ref x1), (2, .ref x2), (3, .int (x3 + 1))]) [1, 2, 3, 0] rfl ?_
  exact hk26 _ _ _ _ _ _  h
noncomputable def f_X1_pairAll_103 (k26 : Nat → Nat → Nat → Int32 → Mem → Option (Mem)) (x0 : Nat) (x1 : Nat) (x2 : Nat) (x3 : Int32) (x4 : Int32) (x5 : Int32) (x6 : Int32) (M : Mem) : Option (Mem) :=
  if x6 < 0 then
  (f_X1_pairAll_116 k26 x0 x1 x2 x3 x4 x5 M)
  else
  ((gR M 1 x0 0).bind fun v6 =>
  (wI M v6 x6 (-1)).bind fun q7 =>
  f_X1_pairAll_116 k26 x0 x1 x2 x3 x4 x5 q7)
set_option maxHeartbeats 4000000 in
theorem t_X1_pairAll_103 {X : XV} {d : Nat} (hd : 3 ≤ d + 1) {k26 : Nat → Nat → Nat → Int32 → Mem → Option (Mem)} (hk26 : ∀ (x0 : Nat) (x1 : Nat) (x2 : Nat) (x3 : Int32) (M : Mem) (res : Mem), k26 x0 x1 x2 x3 M = some res → Ex X (d + 1) mX1_pairAll 26 [(0, .ref x0), (1, .ref x1), (2, .ref x2), (3, .int x3)] [] M none res) : ∀ (x0 : Nat) (x1 : Nat) (x2 : Nat) (x3 : Int32) (x4 : Int32) (x5 : Int32) (x6 : Int32) (M : Mem) (res : Mem), f_X1_pairAll_103 k26 x0 x1 x2 x3 x4 x5 x6 M = some res → Ex X (d + 1) mX1_pairAll 103 [(0, .ref x0), (1, .ref x1), (2, .ref x2), (3, .int x3), (4, .int x4), (5, .int x5), (6, .int x6)] [] M none res := by
  intro x0 x1 x2 x3 x4 x5 x6 M res  h
  unfold f_X1_pairAll_103 at h
  refine ex_iload (pc := 103) 6 dX1_pairAll_103 rfl ?_
  by_cases c5 : x6 < 0
  · rw [if_pos c5] at h
    refine ex_if_lt_t (pc := 105) 116 dX1_pairAll_105 rfl c5 ?_
    refine ex_sub (lo' := [(0, .ref x0), (1, .ref x1), (2, .ref x2), (3, .int x3), (4, .int x4), (5, .int x5)]) [0, 1, 2, 3, 4, 5] rfl ?_
    exact t_X1_pairAll_116 hd hk26 _ _ _ _ _ _ _ _  h
  · rw [if_neg c5] at h
    refine ex_if_lt_f (pc := 105) dX1_pairAll_105 116 rfl c5 ?_
    refine ex_aload_n (pc := 108) 0 dX1_pairAll_108 rfl rfl ?_
    obtain ⟨v6, ev6, h⟩ := ob_some h
    refine ex_gR (pc := 109) ev6 dX1_pairAll_109 lfX1_9 ?_
    refine ex_iload (pc := 112) 6 dX1_pairAll_112 rfl ?_
    refine ex_iconst (pc := 114) (-1) dX1_pairAll_114 rfl ?_
    obtain ⟨q7, eq7, h⟩ := ob_some h
    refine ex_wI (pc := 115) eq7 dX1_pairAll_115 ?_
    refine ex_sub (lo' := [(0, .ref x0), (1, .ref x1), (2, .ref x2), (3, .int x3), (4, .int x4), (5, .int x5)]) [0, 1, 2, 3, 4, 5] rfl ?_
    exact t_X1_pairAll_116 hd hk26 _ _ _ _ _ _ _ _  h
noncomputable def f_X1_pairAll_54 (k26 : Nat → Nat → Nat → Int32 → Mem → Option (Mem)) (x0 : Nat) (x1 : Nat) (x2 : Nat) (x3 : Int32) (x4 : Int32) (s0 : Int32) (M : Mem) : Option (Mem) :=
  if 0 ≤ s0 then
  ((gR M 1 x0 2).bind fun v9 =>
  (rI M v9 x4).bind fun v10 =>
  (wI M v9 x4 (v10 ||| (jshl 1 s0))).bind fun q11 =>
  (gR q11 1 x0 1).bind fun v12 =>
  (rI q11 v12 s0).bind fun v13 =>
  if v13 < 0 then
  (f_X1_pairAll_103 k26 x0 x1 x2 x3 x4 s0 v13 q11)
  else
  ((f_X1_prefers x2 s0 x4 v13 q11).bind fun v15 =>
  if v15 = false then
  (k26 x0 x1 x2 (x3 + 1) q11)
  else
  (f_X1_pairAll_103 k26 x0 x1 x2 x3 x4 s0 v13 q11)))
  else
  (some M)
set_option maxHeartbeats 4000000 in
theorem t_X1_pairAll_54 {X : XV} {d : Nat} (hd : 3 ≤ d + 1) {k26 : Nat → Nat → Nat → Int32 → Mem → Option (Mem)} (hk26 : ∀ (x0 : Nat) (x1 : Nat) (x2 : Nat) (x3 : Int32) (M : Mem) (res : Mem), k26 x0 x1 x2 x3 M = some res → Ex X (d + 1) mX1_pairAll 26 [(0, .ref x0), (1, .ref x1), (2, .ref x2), (3, .int x3)] [] M none res) : ∀ (x0 : Nat) (x1 : Nat) (x2 : Nat) (x3 : Int32) (x4 : Int32) (s0 : Int32) (M : Mem) (res : Mem), f_X1_pairAll_54 k26 x0 x1 x2 x3 x4 s0 M = some res → Ex X (d + 1) mX1_pairAll 54 [(0, .ref x0), (1, .ref x1), (2, .ref x2), (3, .int x3), (4, .int x4)] [.int s0] M none res := by
  intro x0 x1 x2 x3 x4 s0 M res  h
  unfold f_X1_pairAll_54 at h
  refine ex_istore (pc := 54) [(5, .int s0), (0, .ref x0), (1, .ref x1), (2, .ref x2), (3, .int x3), (4, .int x4)] dX1_pairAll_54 (by decide) rfl ?_
  refine ex_iload (pc := 56) 0 dX1_pairAll_56 rfl ?_
  by_cases c8 : 0 ≤ s0
  · rw [if_pos c8] at h
    refine ex_if_ge_t (pc := 58) 62 dX1_pairAll_58 rfl c8 ?_
    refine ex_aload_n (pc := 62) 1 dX1_pairAll_62 rfl rfl ?_
    obtain ⟨v9, ev9, h⟩ := ob_some h
    refine ex_gR (pc := 63) ev9 dX1_pairAll_63 lfX1_18 ?_
    refine ex_iload (pc := 66) 5 dX1_pairAll_66 rfl ?_
    refine ex_dup2 (pc := 68) dX1_pairAll_68 rfl rfl ?_
    obtain ⟨v10, ev10, h⟩ := ob_some h
    refine ex_rI (pc := 69) ev10 dX1_pairAll_69 ?_
    refine ex_iconst (pc := 70) 1 dX1_pairAll_70 rfl ?_
    refine ex_iload (pc := 71) 0 dX1_pairAll_71 rfl ?_
    refine ex_ishl (pc := 73) dX1_pairAll_73 ?_
    refine ex_ior (pc := 74) dX1_pairAll_74 ?_
    obtain ⟨q11, eq11, h⟩ := ob_some h
    refine ex_wI (pc := 75) eq11 dX1_pairAll_75 ?_
    refine ex_aload_n (pc := 76) 1 dX1_pairAll_76 rfl rfl ?_
    obtain ⟨v12, ev12, h⟩ := ob_some h
    refine ex_gR (pc := 77) ev12 dX1_pairAll_77 lfX1_15 ?_
    refine ex_iload (pc := 80) 0 dX1_pairAll_80 rfl ?_
    obtain ⟨v13, ev13, h⟩ := ob_some h
    refine ex_rI (pc := 82) ev13 dX1_pairAll_82 ?_
    refine ex_istore (pc := 83) [(6, .int v13), (5, .int s0), (0, .ref x0), (1, .ref x1), (2, .ref x2), (3, .int x3), (4, .int x4)] dX1_pairAll_83 (by decide) rfl ?_
    refine ex_iload (pc := 85) 0 dX1_pairAll_85 rfl ?_
    by_cases c14 : v13 < 0
    · rw [if_pos c14] at h
      refine ex_if_lt_t (pc := 87) 103 dX1_pairAll_87 rfl c14 ?_
      refine ex_sub (lo' := [(0, .ref x0), (1, .ref x1), (2, .ref x2), (3, .int x3), (4, .int x4), (5, .int s0), (6, .int v13)]) [2, 3, 4, 5, 6, 1, 0] rfl ?_
      exact t_X1_pairAll_103 hd hk26 _ _ _ _ _ _ _ _ _  h
    · rw [if_neg c14] at h
      refine ex_if_lt_f (pc := 87) dX1_pairAll_87 103 rfl c14 ?_
      refine ex_aload_n (pc := 90) 4 dX1_pairAll_90 rfl rfl ?_
      refine ex_iload (pc := 91) 1 dX1_pairAll_91 rfl ?_
      refine ex_iload (pc := 93) 6 dX1_pairAll_93 rfl ?_
      refine ex_iload (pc := 95) 0 dX1_pairAll_95 rfl ?_
      obtain ⟨v15, ev15, h⟩ := ob_some h
      refine ex_callS4r (pc := 97) dX1_pairAll_97 jX1_prefers lmX1_35 jsX1_prefers (Nat.le_of_ble_eq_true rfl) (s_X1_prefers (by omega)  ev15) ?_
      by_cases c16 : v15 = false
      · rw [if_pos c16] at h
        refine ex_if_eq_t (pc := 100) 134 dX1_pairAll_100 rfl (jz_eq_t c16) ?_
        refine ex_iinc (pc := 134) (x3 + 1) 5 [(3, .int (x3 + 1)), (6, .int v13), (5, .int s0), (0, .ref x0), (1, .ref x1), (2, .ref x2), (4, .int x4)] dX1_pairAll_134 rfl rfl (by decide) rfl ?_
        refine ex_goto (pc := 137) 26 dX1_pairAll_137 rfl ?_
        refine ex_sub (lo' := [(0, .ref x0), (1, .ref x1), (2, .ref x2), (3, .int (x3 + 1))]) [3, 4, 5, 0] rfl ?_
        exact hk26 _ _ _ _ _ _  h
      · rw [if_neg c16] at h
        refine ex_if_eq_f (pc := 100) dX1_pairAll_100 134 rfl (jz_eq_f c16) ?_
        refine ex_sub (lo' := [(0, .ref x0), (1, .ref x1), (2, .ref x2), (3, .int x3), (4, .int x4), (5, .int s0), (6, .int v13)]) [2, 3, 4, 5, 6, 1, 0] rfl ?_
        exact t_X1_pairAll_103 hd hk26 _ _ _ _ _ _ _ _ _  h
  · rw [if_neg c8] at h
    refine ex_if_ge_f (pc := 58) dX1_pairAll_58 62 rfl c8 ?_
    cases h
    exact ex_return (pc := 61) dX1_pairAll_61
noncomputable def f_X1_pairAll_26 (n0 : Nat) (x0 : Nat) (x1 : Nat) (x2 : Nat) (x3 : Int32) (M : Mem) : Option (Mem) :=
  match n0 with
  | 0 => none
  | n + 1 =>
    if 25 ≤ x3 then
    (some M)
    else
    ((f_X1_lowestFree x0 M).bind fun v18 =>
    if 0 ≤ v18 then
    ((f_X1_bestUnasked x0 x1 v18 M).bind fun v20 =>
    f_X1_pairAll_54 (f_X1_pairAll_26 n) x0 x1 x2 x3 v18 v20 M)
    else
    (f_X1_pairAll_54 (f_X1_pairAll_26 n) x0 x1 x2 x3 v18 (-1) M))
set_option maxHeartbeats 4000000 in
theorem t_X1_pairAll_26 {X : XV} {d : Nat} (hd : 3 ≤ d + 1) : ∀ (n : Nat) (x0 : Nat) (x1 : Nat) (x2 : Nat) (x3 : Int32) (M : Mem) (res : Mem), f_X1_pairAll_26 n  x0 x1 x2 x3 M = some res → Ex X (d + 1) mX1_pairAll 26 [(0, .ref x0), (1, .ref x1), (2, .ref x2), (3, .int x3)] [] M none res := by
  intro n
  induction n with
  | zero =>
    intro x0 x1 x2 x3 M res  h
    unfold f_X1_pairAll_26 at h
    cases h
  | succ n ih =>
    intro x0 x1 x2 x3 M res  h
    unfold f_X1_pairAll_26 at h
    refine ex_iload_n (pc := 26) 3 dX1_pairAll_26 rfl rfl ?_
    refine ex_bipush (pc := 27) 25 dX1_pairAll_27 (by decide) ?_
    by_cases c17 : 25 ≤ x3
    · rw [if_pos c17] at h
      refine ex_icmp_ge_t (pc := 29) 140 dX1_pairAll_29 rfl c17 ?_
      cases h
      exact ex_return (pc := 140) dX1_pairAll_140
    · rw [if_neg c17] at h
      refine ex_icmp_ge_f (pc := 29) dX1_pairAll_29 140 rfl c17 ?_
      refine ex_aload_n (pc := 32) 0 dX1_pairAll_32 rfl rfl ?_
      obtain ⟨v18, ev18, h⟩ := ob_some h
      refine ex_callV0r (pc := 33) dX1_pairAll_33 jX1_lowestFree lmX1_27 jiX1_lowestFree jvX1_lowestFree (o_X1_lowestFree ev18) rfl (Nat.le_of_ble_eq_true rfl) (s_X1_lowestFree (by omega)  ev18) ?_
      refine ex_istore (pc := 36) [(4, .int v18), (0, .ref x0), (1, .ref x1), (2, .ref x2), (3, .int x3)] dX1_pairAll_36 (by decide) rfl ?_
      refine ex_iload (pc := 38) 0 dX1_pairAll_38 rfl ?_
      by_cases c19 : 0 ≤ v18
      · rw [if_pos c19] at h
        refine ex_if_ge_t (pc := 40) 47 dX1_pairAll_40 rfl c19 ?_
        refine ex_aload_n (pc := 47) 1 dX1_pairAll_47 rfl rfl ?_
        refine ex_aload_n (pc := 48) 2 dX1_pairAll_48 rfl rfl ?_
        refine ex_iload (pc := 49) 0 dX1_pairAll_49 rfl ?_
        obtain ⟨v20, ev20, h⟩ := ob_some h
        refine ex_callV2r (pc := 51) dX1_pairAll_51 jX1_bestUnasked lmX1_31 jiX1_bestUnasked jvX1_bestUnasked (o_X1_bestUnasked ev20) rfl (Nat.le_of_ble_eq_true rfl) (s_X1_bestUnasked (by omega)  ev20) ?_
        refine ex_sub (lo' := [(0, .ref x0), (1, .ref x1), (2, .ref x2), (3, .int x3), (4, .int v18)]) [1, 2, 3, 4, 0] rfl ?_
        exact t_X1_pairAll_54 hd ih _ _ _ _ _ _ _ _  h
      · rw [if_neg c19] at h
        refine ex_if_ge_f (pc := 40) dX1_pairAll_40 47 rfl c19 ?_
        refine ex_iconst (pc := 43) (-1) dX1_pairAll_43 rfl ?_
        refine ex_goto (pc := 44) 54 dX1_pairAll_44 rfl ?_
        refine ex_sub (lo' := [(0, .ref x0), (1, .ref x1), (2, .ref x2), (3, .int x3), (4, .int v18)]) [1, 2, 3, 4, 0] rfl ?_
        exact t_X1_pairAll_54 hd ih _ _ _ _ _ _ _ _  h
noncomputable def f_X1_pairAll_0 (x0 : Nat) (x1 : Nat) (x2 : Nat) (M : Mem) : Option (Mem) :=
  (gR M 1 x0 0).bind fun v21 =>
  (f_J7_fill_53178 v21 (-1) M).bind fun q22 =>
  (gR q22 1 x0 1).bind fun v23 =>
  (f_J7_fill_53178 v23 (-1) q22).bind fun q24 =>
  (gR q24 1 x0 2).bind fun v25 =>
  (f_J7_fill_53178 v25 0 q24).bind fun q26 =>
  f_X1_pairAll_26 fu x0 x1 x2 0 q26
set_option maxHeartbeats 4000000 in
theorem t_X1_pairAll_0 {X : XV} {d : Nat} (hd : 3 ≤ d + 1) : ∀ (x0 : Nat) (x1 : Nat) (x2 : Nat) (M : Mem) (res : Mem), f_X1_pairAll_0  x0 x1 x2 M = some res → Ex X (d + 1) mX1_pairAll 0 [(0, .ref x0), (1, .ref x1), (2, .ref x2)] [] M none res := by
  intro x0 x1 x2 M res  h
  unfold f_X1_pairAll_0 at h
  refine ex_aload_n (pc := 0) 0 dX1_pairAll_0 rfl rfl ?_
  obtain ⟨v21, ev21, h⟩ := ob_some h
  refine ex_gR (pc := 1) ev21 dX1_pairAll_1 lfX1_9 ?_
  refine ex_iconst (pc := 4) (-1) dX1_pairAll_4 rfl ?_
  obtain ⟨q22, eq22, h⟩ := ob_some h
  refine ex_callS2v (pc := 5) dX1_pairAll_5 jJ7_fill_53178 lmX1_21 jsJ7_fill_53178 (Nat.le_of_ble_eq_true rfl) (s_J7_fill_53178 (by omega)  eq22) ?_
  refine ex_aload_n (pc := 8) 0 dX1_pairAll_8 rfl rfl ?_
  obtain ⟨v23, ev23, h⟩ := ob_some h
  refine ex_gR (pc := 9) ev23 dX1_pairAll_9 lfX1_15 ?_
  refine ex_iconst (pc := 12) (-1) dX1_pairAll_12 rfl ?_
  obtain ⟨q24, eq24, h⟩ := ob_some h
  refine ex_callS2v (pc := 13) dX1_pairAll_13 jJ7_fill_53178 lmX1_21 jsJ7_fill_53178 (Nat.le_of_ble_eq_true rfl) (s_J7_fill_53178 (by omega)  eq24) ?_
  refine ex_aload_n (pc := 16) 0 dX1_pairAll_16 rfl rfl ?_
  obtain ⟨v25, ev25, h⟩ := ob_some h
  refine ex_gR (pc := 17) ev25 dX1_pairAll_17 lfX1_18 ?_
  refine ex_iconst (pc := 20) 0 dX1_pairAll_20 rfl ?_
  obtain ⟨q26, eq26, h⟩ := ob_some h
  refine ex_callS2v (pc := 21) dX1_pairAll_21 jJ7_fill_53178 lmX1_21 jsJ7_fill_53178 (Nat.le_of_ble_eq_true rfl) (s_J7_fill_53178 (by omega)  eq26) ?_
  refine ex_iconst (pc := 24) 0 dX1_pairAll_24 rfl ?_
  refine ex_istore_n (pc := 25) [(3, .int 0), (0, .ref x0), (1, .ref x1), (2, .ref x2)] dX1_pairAll_25 rfl (by decide) rfl ?_
  refine ex_sub (lo' := [(0, .ref x0), (1, .ref x1), (2, .ref x2), (3, .int 0)]) [1, 2, 3, 0] rfl ?_
  exact t_X1_pairAll_26 hd  _ _ _ _ _ _ _  h
noncomputable def f_X1_pairAll (x0 : Nat) (x1 : Nat) (x2 : Nat) (M : Mem) : Option (Mem) := if isOb M 1 x0 = true then f_X1_pairAll_0 x0 x1 x2 M else none
theorem o_X1_pairAll {x0 : Nat} {x1 : Nat} {x2 : Nat} {M : Mem} {res : Mem} (h : f_X1_pairAll x0 x1 x2 M = some res) : isO M 1 x0 := by
  unfold f_X1_pairAll at h
  split at h
  · rename_i hc; exact isOb_iff hc
  · cases h
set_option maxHeartbeats 4000000 in
theorem s_X1_pairAll {X : XV} {d : Nat} (hd : 3 ≤ d) {x0 : Nat} {x1 : Nat} {x2 : Nat} {M : Mem} {res : Mem} (h : f_X1_pairAll x0 x1 x2 M = some res) : Mx X d mX1_pairAll [.ref x0, .ref x1, .ref x2] M none res := by
  obtain ⟨d, rfl⟩ : ∃ e, d = e + 1 := ⟨d - 1, by omega⟩
  unfold f_X1_pairAll at h
  split at h
  rotate_left
  · cases h
  refine Mx.of (by decide) (Nat.le_of_ble_eq_true rfl) (rfl) ?_
  exact ex_sub (lo' := [(0, .ref x0), (1, .ref x1), (2, .ref x2)]) [0, 1, 2] rfl (t_X1_pairAll_0 hd _ _ _ _ _  h)
noncomputable def f_X2_init_0 (x0 : Nat) (x1 : Nat) (M : Mem) : Option (Mem) :=
  (pF M 2 x0 1 (.int (-1))).bind fun q1 =>
  (pF q1 2 x0 2 (.int (-1))).bind fun q2 =>
  (nwI q2 300).bind fun q3 =>
  (pF q3 2 x0 7 (.ref q2.1)).bind fun q4 =>
  (nwI q4 300).bind fun q5 =>
  (pF q5 2 x0 8 (.ref q4.1)).bind fun q6 =>
  (nwI q6 3).bind fun q7 =>
  (pF q7 2 x0 9 (.ref q6.1)).bind fun q8 =>
  (nwI q8 3).bind fun q9 =>
  (pF q9 2 x0 10 (.ref q8.1)).bind fun q10 =>
  (nwI q10 72).bind fun q11 =>
  (pF q11 2 x0 11 (.ref q10.1)).bind fun q12 =>
  (pF q12 2 x0 0 (.ref x1)).bind fun q13 =>
  some q13
set_option maxHeartbeats 4000000 in
theorem t_X2_init_0 {X : XV} {d : Nat} (hd : 1 ≤ d + 1) : ∀ (x0 : Nat) (x1 : Nat) (M : Mem) (res : Mem), f_X2_init_0  x0 x1 M = some res → Ex X (d + 1) mX2_init 0 [(0, .ref x0), (1, .ref x1)] [] M none res := by
  intro x0 x1 M res  h
  unfold f_X2_init_0 at h
  refine ex_aload_n (pc := 0) 0 dX2_init_0 rfl rfl ?_
  refine ex_obj (pc := 1) dX2_init_1 lmX2_3 (by omega) (Nat.le_of_ble_eq_true rfl) ?_
  refine ex_aload_n (pc := 4) 0 dX2_init_4 rfl rfl ?_
  refine ex_iconst (pc := 5) (-1) dX2_init_5 rfl ?_
  obtain ⟨q1, eq1, h⟩ := ob_some h
  refine ex_pF (pc := 6) eq1 dX2_init_6 lfX2_9 rfl rfl (fun _ hq => by cases hq; rfl) ?_
  refine ex_aload_n (pc := 9) 0 dX2_init_9 rfl rfl ?_
  refine ex_iconst (pc := 10) (-1) dX2_init_10 rfl ?_
  obtain ⟨q2, eq2, h⟩ := ob_some h
  refine ex_pF (pc := 11) eq2 dX2_init_11 lfX2_15 rfl rfl (fun _ hq => by cases hq; rfl) ?_
  refine ex_aload_n (pc := 14) 0 dX2_init_14 rfl rfl ?_
  refine ex_sipush (pc := 15) 300 dX2_init_15 (by decide) ?_
  obtain ⟨q3, eq3, h⟩ := ob_some h
  refine ex_nwI (pc := 18) eq3 dX2_init_18 ?_
  obtain ⟨q4, eq4, h⟩ := ob_some h
  refine ex_pFF (pc := 20) eq4 dX2_init_20 lfX2_18 rfl rfl (fun _ hq => by cases hq; exact ⟨rfl, rfl⟩) rfl ?_
  refine ex_aload_n (pc := 23) 0 dX2_init_23 rfl rfl ?_
  refine ex_sipush (pc := 24) 300 dX2_init_24 (by decide) ?_
  obtain ⟨q5, eq5, h⟩ := ob_some h
  refine ex_nwI (pc := 27) eq5 dX2_init_27 ?_
  obtain ⟨q6, eq6, h⟩ := ob_some h
  refine ex_pFF (pc := 29) eq6 dX2_init_29 lfX2_22 rfl rfl (fun _ hq => by cases hq; exact ⟨rfl, rfl⟩) rfl ?_
  refine ex_aload_n (pc := 32) 0 dX2_init_32 rfl rfl ?_
  refine ex_iconst (pc := 33) 3 dX2_init_33 rfl ?_
  obtain ⟨q7, eq7, h⟩ := ob_some h
  refine ex_nwI (pc := 34) eq7 dX2_init_34 ?_
  obtain ⟨q8, eq8, h⟩ := ob_some h
  refine ex_pFF (pc := 36) eq8 dX2_init_36 lfX2_25 rfl rfl (fun _ hq => by cases hq; exact ⟨rfl, rfl⟩) rfl ?_
  refine ex_aload_n (pc := 39) 0 dX2_init_39 rfl rfl ?_
  refine ex_iconst (pc := 40) 3 dX2_init_40 rfl ?_
  obtain ⟨q9, eq9, h⟩ := ob_some h
  refine ex_nwI (pc := 41) eq9 dX2_init_41 ?_
  obtain ⟨q10, eq10, h⟩ := ob_some h
  refine ex_pFF (pc := 43) eq10 dX2_init_43 lfX2_28 rfl rfl (fun _ hq => by cases hq; exact ⟨rfl, rfl⟩) rfl ?_
  refine ex_aload_n (pc := 46) 0 dX2_init_46 rfl rfl ?_
  refine ex_bipush (pc := 47) 72 dX2_init_47 (by decide) ?_
  obtain ⟨q11, eq11, h⟩ := ob_some h
  refine ex_nwI (pc := 49) eq11 dX2_init_49 ?_
  obtain ⟨q12, eq12, h⟩ := ob_some h
  refine ex_pFF (pc := 51) eq12 dX2_init_51 lfX2_31 rfl rfl (fun _ hq => by cases hq; exact ⟨rfl, rfl⟩) rfl ?_
  refine ex_aload_n (pc := 54) 0 dX2_init_54 rfl rfl ?_
  refine ex_aload_n (pc := 55) 1 dX2_init_55 rfl rfl ?_
  obtain ⟨q13, eq13, h⟩ := ob_some h
  refine ex_pFF (pc := 56) eq13 dX2_init_56 lfX2_34 rfl rfl (fun _ hq => by cases hq; exact ⟨rfl, rfl⟩) rfl ?_
  cases h
  exact ex_return (pc := 59) dX2_init_59
noncomputable def f_X2_init (x0 : Nat) (x1 : Nat) (M : Mem) : Option (Mem) := f_X2_init_0 x0 x1 M
set_option maxHeartbeats 4000000 in
theorem s_X2_init {X : XV} {d : Nat} (hd : 1 ≤ d) {x0 : Nat} {x1 : Nat} {M : Mem} {res : Mem} (h : f_X2_init x0 x1 M = some res) : Mx X d mX2_init [.ref x0, .ref x1] M none res := by
  obtain ⟨d, rfl⟩ : ∃ e, d = e + 1 := ⟨d - 1, by omega⟩
  unfold f_X2_init at h
  refine Mx.of (by decide) (Nat.le_of_ble_eq_true rfl) (rfl) ?_
  exact ex_sub (lo' := [(0, .ref x0), (1, .ref x1)]) [0, 1] rfl (t_X2_init_0 hd _ _ _ _  h)
noncomputable def f_X7_byteAt_0 (x0 : Nat) (x1 : Int32) (M : Mem) : Option (Int32) :=
  if x1 < 0 then
  (some (-1))
  else
  ((gI M 7 x0 1).bind fun v2 =>
  if v2 ≤ x1 then
  (some (-1))
  else
  (if 300 ≤ x1 then
  (some (-1))
  else
  ((gR M 7 x0 0).bind fun v5 =>
  (rI M v5 x1).bind fun v6 =>
  some v6)))
set_option maxHeartbeats 4000000 in
theorem t_X7_byteAt_0 {X : XV} {d : Nat} (hd : 1 ≤ d + 1) : ∀ (x0 : Nat) (x1 : Int32) (M : Mem) (res : Int32), f_X7_byteAt_0  x0 x1 M = some res → Ex X (d + 1) mX7_byteAt 0 [(0, .ref x0), (1, .int x1)] [] M (some (.int res)) M := by
  intro x0 x1 M res  h
  unfold f_X7_byteAt_0 at h
  refine ex_iload_n (pc := 0) 1 dX7_byteAt_0 rfl rfl ?_
  by_cases c1 : x1 < 0
  · rw [if_pos c1] at h
    refine ex_if_lt_t (pc := 1) 28 dX7_byteAt_1 rfl c1 ?_
    refine ex_iconst (pc := 28) (-1) dX7_byteAt_28 rfl ?_
    cases h
    exact ex_ireturn (pc := 29) dX7_byteAt_29
  · rw [if_neg c1] at h
    refine ex_if_lt_f (pc := 1) dX7_byteAt_1 28 rfl c1 ?_
    refine ex_iload_n (pc := 4) 1 dX7_byteAt_4 rfl rfl ?_
    refine ex_aload_n (pc := 5) 0 dX7_byteAt_5 rfl rfl ?_
    obtain ⟨v2, ev2, h⟩ := ob_some h
    refine ex_gI (pc := 6) ev2 dX7_byteAt_6 lfX7_15 ?_
    by_cases c3 : v2 ≤ x1
    · rw [if_pos c3] at h
      refine ex_icmp_ge_t (pc := 9) 28 dX7_byteAt_9 rfl c3 ?_
      refine ex_iconst (pc := 28) (-1) dX7_byteAt_28 rfl ?_
      cases h
      exact ex_ireturn (pc := 29) dX7_byteAt_29
    · rw [if_neg c3] at h
      refine ex_icmp_ge_f (pc := 9) dX7_byteAt_9 28 rfl c3 ?_
      refine ex_iload_n (pc := 12) 1 dX7_byteAt_12 rfl rfl ?_
      refine ex_sipush (pc := 13) 300 dX7_byteAt_13 (by decide) ?_
      by_cases c4 : 300 ≤ x1
      · rw [if_pos c4] at h
        refine ex_icmp_ge_t (pc := 16) 28 dX7_byteAt_16 rfl c4 ?_
        refine ex_iconst (pc := 28) (-1) dX7_byteAt_28 rfl ?_
        cases h
        exact ex_ireturn (pc := 29) dX7_byteAt_29
      · rw [if_neg c4] at h
        refine ex_icmp_ge_f (pc := 16) dX7_byteAt_16 28 rfl c4 ?_
        refine ex_aload_n (pc := 19) 0 dX7_byteAt_19 rfl rfl ?_
        obtain ⟨v5, ev5, h⟩ := ob_some h
        refine ex_gR (pc := 20) ev5 dX7_byteAt_20 lfX7_9 ?_
        refine ex_iload_n (pc := 23) 1 dX7_byteAt_23 rfl rfl ?_
        obtain ⟨v6, ev6, h⟩ := ob_some h
        refine ex_rI (pc := 24) ev6 dX7_byteAt_24 ?_
        refine ex_goto (pc := 25) 29 dX7_byteAt_25 rfl ?_
        cases h
        exact ex_ireturn (pc := 29) dX7_byteAt_29
noncomputable def f_X7_byteAt (x0 : Nat) (x1 : Int32) (M : Mem) : Option (Int32) := if isOb M 7 x0 = true then f_X7_byteAt_0 x0 x1 M else none
theorem o_X7_byteAt {x0 : Nat} {x1 : Int32} {M : Mem} {res : Int32} (h : f_X7_byteAt x0 x1 M = some res) : isO M 7 x0 := by
  unfold f_X7_byteAt at h
  split at h
  · rename_i hc; exact isOb_iff hc
  · cases h
set_option maxHeartbeats 4000000 in
theorem s_X7_byteAt {X : XV} {d : Nat} (hd : 1 ≤ d) {x0 : Nat} {x1 : Int32} {M : Mem} {res : Int32} (h : f_X7_byteAt x0 x1 M = some res) : Mx X d mX7_byteAt [.ref x0, .int x1] M (some (.int res)) M := by
  obtain ⟨d, rfl⟩ : ∃ e, d = e + 1 := ⟨d - 1, by omega⟩
  unfold f_X7_byteAt at h
  split at h
  rotate_left
  · cases h
  refine Mx.of (by decide) (Nat.le_of_ble_eq_true rfl) (⟨_, rfl, rfl⟩) ?_
  exact ex_sub (lo' := [(0, .ref x0), (1, .int x1)]) [0, 1] rfl (t_X7_byteAt_0 hd _ _ _ _  h)
noncomputable def f_X7_isLetter_12 (x0 : Int32) : Option (Bool) :=
  if x0 < 65 then
  (some false)
  else
  (if 90 < x0 then
  (some false)
  else
  (some true))
set_option maxHeartbeats 4000000 in
theorem t_X7_isLetter_12 {X : XV} {d : Nat} {M : Mem} (hd : 1 ≤ d + 1) : ∀ (x0 : Int32) (res : Bool), f_X7_isLetter_12  x0 = some res → Ex X (d + 1) mX7_isLetter 12 [(0, .int x0)] [] M (some (.int (jz res))) M := by
  intro x0 res  h
  unfold f_X7_isLetter_12 at h
  refine ex_iload_n (pc := 12) 0 dX7_isLetter_12 rfl rfl ?_
  refine ex_bipush (pc := 13) 65 dX7_isLetter_13 (by decide) ?_
  by_cases c1 : x0 < 65
  · rw [if_pos c1] at h
    refine ex_icmp_lt_t (pc := 15) 28 dX7_isLetter_15 rfl c1 ?_
    refine ex_iconst (pc := 28) 0 dX7_isLetter_28 rfl ?_
    cases h
    exact ex_ireturn (pc := 29) dX7_isLetter_29
  · rw [if_neg c1] at h
    refine ex_icmp_lt_f (pc := 15) dX7_isLetter_15 28 rfl c1 ?_
    refine ex_iload_n (pc := 18) 0 dX7_isLetter_18 rfl rfl ?_
    refine ex_bipush (pc := 19) 90 dX7_isLetter_19 (by decide) ?_
    by_cases c2 : 90 < x0
    · rw [if_pos c2] at h
      refine ex_icmp_gt_t (pc := 21) 28 dX7_isLetter_21 rfl c2 ?_
      refine ex_iconst (pc := 28) 0 dX7_isLetter_28 rfl ?_
      cases h
      exact ex_ireturn (pc := 29) dX7_isLetter_29
    · rw [if_neg c2] at h
      refine ex_icmp_gt_f (pc := 21) dX7_isLetter_21 28 rfl c2 ?_
      refine ex_iconst (pc := 24) 1 dX7_isLetter_24 rfl ?_
      refine ex_goto (pc := 25) 29 dX7_isLetter_25 rfl ?_
      cases h
      exact ex_ireturn (pc := 29) dX7_isLetter_29
noncomputable def f_X7_isLetter_0 (x0 : Int32) : Option (Bool) :=
  if x0 < 97 then
  (f_X7_isLetter_12 x0)
  else
  (if x0 ≤ 122 then
  (some true)
  else
  (f_X7_isLetter_12 x0))
set_option maxHeartbeats 4000000 in
theorem t_X7_isLetter_0 {X : XV} {d : Nat} {M : Mem} (hd : 1 ≤ d + 1) : ∀ (x0 : Int32) (res : Bool), f_X7_isLetter_0  x0 = some res → Ex X (d + 1) mX7_isLetter 0 [(0, .int x0)] [] M (some (.int (jz res))) M := by
  intro x0 res  h
  unfold f_X7_isLetter_0 at h
  refine ex_iload_n (pc := 0) 0 dX7_isLetter_0 rfl rfl ?_
  refine ex_bipush (pc := 1) 97 dX7_isLetter_1 (by decide) ?_
  by_cases c3 : x0 < 97
  · rw [if_pos c3] at h
    refine ex_icmp_lt_t (pc := 3) 12 dX7_isLetter_3 rfl c3 ?_
    refine ex_sub (lo' := [(0, .int x0)]) [0] rfl ?_
    exact t_X7_isLetter_12 hd  _ _  h
  · rw [if_neg c3] at h
    refine ex_icmp_lt_f (pc := 3) dX7_isLetter_3 12 rfl c3 ?_
    refine ex_iload_n (pc := 6) 0 dX7_isLetter_6 rfl rfl ?_
    refine ex_bipush (pc := 7) 122 dX7_isLetter_7 (by decide) ?_
    by_cases c4 : x0 ≤ 122
    · rw [if_pos c4] at h
      refine ex_icmp_le_t (pc := 9) 24 dX7_isLetter_9 rfl c4 ?_
      refine ex_iconst (pc := 24) 1 dX7_isLetter_24 rfl ?_
      refine ex_goto (pc := 25) 29 dX7_isLetter_25 rfl ?_
      cases h
      exact ex_ireturn (pc := 29) dX7_isLetter_29
    · rw [if_neg c4] at h
      refine ex_icmp_le_f (pc := 9) dX7_isLetter_9 24 rfl c4 ?_
      refine ex_sub (lo' := [(0, .int x0)]) [0] rfl ?_
      exact t_X7_isLetter_12 hd  _ _  h
noncomputable def f_X7_isLetter (x0 : Int32) : Option (Bool) := f_X7_isLetter_0 x0
set_option maxHeartbeats 4000000 in
theorem s_X7_isLetter {X : XV} {d : Nat} (hd : 1 ≤ d) {x0 : Int32} {M : Mem} {res : Bool} (h : f_X7_isLetter x0 = some res) : Mx X d mX7_isLetter [.int x0] M (some (.int (jz res))) M := by
  obtain ⟨d, rfl⟩ : ∃ e, d = e + 1 := ⟨d - 1, by omega⟩
  unfold f_X7_isLetter at h
  refine Mx.of (by decide) (Nat.le_of_ble_eq_true rfl) (⟨_, rfl, jz_nar _⟩) ?_
  exact ex_sub (lo' := [(0, .int x0)]) [0] rfl (t_X7_isLetter_0 hd _ _  h)
noncomputable def f_J0_coder_7d493_0 (x0 : Nat) : Option (Int32) :=
  if true = false then
  (some 1)
  else
  (some 0)
set_option maxHeartbeats 4000000 in
theorem t_J0_coder_7d493_0 {X : XV} {d : Nat} {M : Mem} (hd : 1 ≤ d + 1) : ∀ (x0 : Nat) (res : Int32), x0 < 2 → f_J0_coder_7d493_0  x0 = some res → Ex X (d + 1) mJ0_coder_7d493 0 [(0, .ref (X.2.2.2 (2 + x0)))] [] M (some (.int res)) M := by
  intro x0 res hq0 h
  unfold f_J0_coder_7d493_0 at h
  refine ex_comp (pc := 0) dJ0_coder_7d493_0 lsJ0_38 ?_
  by_cases c1 : true = false
  · rw [if_pos c1] at h
    refine ex_if_eq_t (pc := 3) 13 dJ0_coder_7d493_3 rfl (jz_eq_t c1) ?_
    refine ex_iconst (pc := 13) 1 dJ0_coder_7d493_13 rfl ?_
    cases h
    exact ex_ireturn (pc := 14) dJ0_coder_7d493_14
  · rw [if_neg c1] at h
    refine ex_if_eq_f (pc := 3) dJ0_coder_7d493_3 13 rfl (jz_eq_f c1) ?_
    refine ex_aload_n (pc := 6) 0 dJ0_coder_7d493_6 rfl rfl ?_
    refine ex_scod (pc := 7) dJ0_coder_7d493_7 hq0 lsJ0_15 ?_
    refine ex_goto (pc := 10) 14 dJ0_coder_7d493_10 rfl ?_
    cases h
    exact ex_ireturn (pc := 14) dJ0_coder_7d493_14
noncomputable def f_J0_coder_7d493 (x0 : Nat) : Option (Int32) := (f_J0_coder_7d493_0 x0).bind ckB
set_option maxHeartbeats 4000000 in
theorem s_J0_coder_7d493 {X : XV} {d : Nat} (hd : 1 ≤ d) {x0 : Nat} {M : Mem} (hq0 : x0 < 2) {res : Int32} (h : f_J0_coder_7d493 x0 = some res) : Mx X d mJ0_coder_7d493 [.ref (X.2.2.2 (2 + x0))] M (some (.int res)) M := by
  obtain ⟨d, rfl⟩ : ∃ e, d = e + 1 := ⟨d - 1, by omega⟩
  unfold f_J0_coder_7d493 at h
  obtain ⟨v0, e0, h0⟩ := ob_some h
  obtain ⟨rfl, hck⟩ := ckB_some h0
  have h := e0
  refine Mx.of (by decide) (Nat.le_of_ble_eq_true rfl) (⟨_, rfl, hck⟩) ?_
  exact ex_sub (lo' := [(0, .ref (X.2.2.2 (2 + x0)))]) [0] rfl (t_J0_coder_7d493_0 hd _ _ hq0 h)
noncomputable def f_J0_length_8abf5_0 (x0 : Nat) : Option (Int32) :=
  (f_J0_coder_7d493 x0).bind fun v1 =>
  some (jshr (Int32.ofNat (mx_len.getD x0 0)) v1)
set_option maxHeartbeats 4000000 in
theorem t_J0_length_8abf5_0 {X : XV} {d : Nat} {M : Mem} (hd : 2 ≤ d + 1) : ∀ (x0 : Nat) (res : Int32), x0 < 2 → f_J0_length_8abf5_0  x0 = some res → Ex X (d + 1) mJ0_length_8abf5 0 [(0, .ref (X.2.2.2 (2 + x0)))] [] M (some (.int res)) M := by
  intro x0 res hq0 h
  unfold f_J0_length_8abf5_0 at h
  refine ex_aload_n (pc := 0) 0 dJ0_length_8abf5_0 rfl rfl ?_
  refine ex_sval (pc := 1) dJ0_length_8abf5_1 hq0 lsJ0_9 ?_
  refine ex_sbln (pc := 4) dJ0_length_8abf5_4 hq0 ?_
  refine ex_aload_n (pc := 5) 0 dJ0_length_8abf5_5 rfl rfl ?_
  obtain ⟨v1, ev1, h⟩ := ob_some h
  refine ex_callVS0r (pc := 6) dJ0_length_8abf5_6 jJ0_coder_7d493 lmJ0_335 jiJ0_coder_7d493 jvJ0_coder_7d493 hq0 (Nat.le_of_ble_eq_true rfl) (s_J0_coder_7d493 (by omega) hq0 ev1) ?_
  refine ex_ishr (pc := 9) dJ0_length_8abf5_9 ?_
  cases h
  exact ex_ireturn (pc := 10) dJ0_length_8abf5_10
noncomputable def f_J0_length_8abf5 (x0 : Nat) : Option (Int32) := f_J0_length_8abf5_0 x0
set_option maxHeartbeats 4000000 in
theorem s_J0_length_8abf5 {X : XV} {d : Nat} (hd : 2 ≤ d) {x0 : Nat} {M : Mem} (hq0 : x0 < 2) {res : Int32} (h : f_J0_length_8abf5 x0 = some res) : Mx X d mJ0_length_8abf5 [.ref (X.2.2.2 (2 + x0))] M (some (.int res)) M := by
  obtain ⟨d, rfl⟩ : ∃ e, d = e + 1 := ⟨d - 1, by omega⟩
  unfold f_J0_length_8abf5 at h
  refine Mx.of (by decide) (Nat.le_of_ble_eq_true rfl) (⟨_, rfl, rfl⟩) ?_
  exact ex_sub (lo' := [(0, .ref (X.2.2.2 (2 + x0)))]) [0] rfl (t_J0_length_8abf5_0 hd _ _ hq0 h)
noncomputable def f_J0_isLatin1_aae02_0 (x0 : Nat) : Option (Bool) :=
  if true = false then
  (some false)
  else
  (if false = true then
  (some false)
  else
  (some true))
set_option maxHeartbeats 4000000 in
theorem t_J0_isLatin1_aae02_0 {X : XV} {d : Nat} {M : Mem} (hd : 1 ≤ d + 1) : ∀ (x0 : Nat) (res : Bool), x0 < 2 → f_J0_isLatin1_aae02_0  x0 = some res → Ex X (d + 1) mJ0_isLatin1_aae02 0 [(0, .ref (X.2.2.2 (2 + x0)))] [] M (some (.int (jz res))) M := by
  intro x0 res hq0 h
  unfold f_J0_isLatin1_aae02_0 at h
  refine ex_comp (pc := 0) dJ0_isLatin1_aae02_0 lsJ0_38 ?_
  by_cases c1 : true = false
  · rw [if_pos c1] at h
    refine ex_if_eq_t (pc := 3) 17 dJ0_isLatin1_aae02_3 rfl (jz_eq_t c1) ?_
    refine ex_iconst (pc := 17) 0 dJ0_isLatin1_aae02_17 rfl ?_
    cases h
    exact ex_ireturn (pc := 18) dJ0_isLatin1_aae02_18
  · rw [if_neg c1] at h
    refine ex_if_eq_f (pc := 3) dJ0_isLatin1_aae02_3 17 rfl (jz_eq_f c1) ?_
    refine ex_aload_n (pc := 6) 0 dJ0_isLatin1_aae02_6 rfl rfl ?_
    refine ex_scod (pc := 7) dJ0_isLatin1_aae02_7 hq0 lsJ0_15 ?_
    by_cases c2 : false = true
    · rw [if_pos c2] at h
      refine ex_if_ne_t (pc := 10) 17 dJ0_isLatin1_aae02_10 rfl (jz_ne_t c2) ?_
      refine ex_iconst (pc := 17) 0 dJ0_isLatin1_aae02_17 rfl ?_
      cases h
      exact ex_ireturn (pc := 18) dJ0_isLatin1_aae02_18
    · rw [if_neg c2] at h
      refine ex_if_ne_f (pc := 10) dJ0_isLatin1_aae02_10 17 rfl (jz_ne_f c2) ?_
      refine ex_iconst (pc := 13) 1 dJ0_isLatin1_aae02_13 rfl ?_
      refine ex_goto (pc := 14) 18 dJ0_isLatin1_aae02_14 rfl ?_
      cases h
      exact ex_ireturn (pc := 18) dJ0_isLatin1_aae02_18
noncomputable def f_J0_isLatin1_aae02 (x0 : Nat) : Option (Bool) := f_J0_isLatin1_aae02_0 x0
set_option maxHeartbeats 4000000 in
theorem s_J0_isLatin1_aae02 {X : XV} {d : Nat} (hd : 1 ≤ d) {x0 : Nat} {M : Mem} (hq0 : x0 < 2) {res : Bool} (h : f_J0_isLatin1_aae02 x0 = some res) : Mx X d mJ0_isLatin1_aae02 [.ref (X.2.2.2 (2 + x0))] M (some (.int (jz res))) M := by
  obtain ⟨d, rfl⟩ : ∃ e, d = e + 1 := ⟨d - 1, by omega⟩
  unfold f_J0_isLatin1_aae02 at h
  refine Mx.of (by decide) (Nat.le_of_ble_eq_true rfl) (⟨_, rfl, jz_nar _⟩) ?_
  exact ex_sub (lo' := [(0, .ref (X.2.2.2 (2 + x0)))]) [0] rfl (t_J0_isLatin1_aae02_0 hd _ _ hq0 h)
noncomputable def f_J3_checkIndex_8e157_9 : Option (Int32) :=
  none
set_option maxHeartbeats 4000000 in
theorem t_J3_checkIndex_8e157_9 {X : XV} {d : Nat} {M : Mem} (hd : 1 ≤ d + 1) : ∀  (res : Int32), f_J3_checkIndex_8e157_9   = some res → Ex X (d + 1) mJ3_checkIndex_8e157 9 [] [] M (some (.int res)) M := by
  intro  res  h
  unfold f_J3_checkIndex_8e157_9 at h
  cases h
noncomputable def f_J3_checkIndex_8e157_0 (x0 : Int32) (x1 : Int32) : Option (Int32) :=
  if x0 < 0 then
  (f_J3_checkIndex_8e157_9 )
  else
  (if x0 < x1 then
  (some x0)
  else
  (f_J3_checkIndex_8e157_9 ))
set_option maxHeartbeats 4000000 in
theorem t_J3_checkIndex_8e157_0 {X : XV} {d : Nat} {M : Mem} (hd : 1 ≤ d + 1) : ∀ (x0 : Int32) (x1 : Int32) (res : Int32), f_J3_checkIndex_8e157_0  x0 x1 = some res → Ex X (d + 1) mJ3_checkIndex_8e157 0 [(0, .int x0), (1, .int x1)] [] M (some (.int res)) M := by
  intro x0 x1 res  h
  unfold f_J3_checkIndex_8e157_0 at h
  refine ex_iload_n (pc := 0) 0 dJ3_checkIndex_8e157_0 rfl rfl ?_
  by_cases c1 : x0 < 0
  · rw [if_pos c1] at h
    refine ex_if_lt_t (pc := 1) 9 dJ3_checkIndex_8e157_1 rfl c1 ?_
    refine ex_sub (lo' := []) [] rfl ?_
    exact t_J3_checkIndex_8e157_9 hd   _  h
  · rw [if_neg c1] at h
    refine ex_if_lt_f (pc := 1) dJ3_checkIndex_8e157_1 9 rfl c1 ?_
    refine ex_iload_n (pc := 4) 0 dJ3_checkIndex_8e157_4 rfl rfl ?_
    refine ex_iload_n (pc := 5) 1 dJ3_checkIndex_8e157_5 rfl rfl ?_
    by_cases c2 : x0 < x1
    · rw [if_pos c2] at h
      refine ex_icmp_lt_t (pc := 6) 16 dJ3_checkIndex_8e157_6 rfl c2 ?_
      refine ex_iload_n (pc := 16) 0 dJ3_checkIndex_8e157_16 rfl rfl ?_
      cases h
      exact ex_ireturn (pc := 17) dJ3_checkIndex_8e157_17
    · rw [if_neg c2] at h
      refine ex_icmp_lt_f (pc := 6) dJ3_checkIndex_8e157_6 16 rfl c2 ?_
      refine ex_sub (lo' := []) [] rfl ?_
      exact t_J3_checkIndex_8e157_9 hd   _  h
noncomputable def f_J3_checkIndex_8e157 (x0 : Int32) (x1 : Int32) : Option (Int32) := f_J3_checkIndex_8e157_0 x0 x1
set_option maxHeartbeats 4000000 in
theorem s_J3_checkIndex_8e157 {X : XV} {d : Nat} (hd : 1 ≤ d) {x0 : Int32} {x1 : Int32} {x2 : Option Nat} {M : Mem} {res : Int32} (h : f_J3_checkIndex_8e157 x0 x1 = some res) : Mx X d mJ3_checkIndex_8e157 [.int x0, .int x1, va_rf x2] M (some (.int res)) M := by
  obtain ⟨d, rfl⟩ : ∃ e, d = e + 1 := ⟨d - 1, by omega⟩
  unfold f_J3_checkIndex_8e157 at h
  cases x2 <;>
    (refine Mx.of (by decide) (Nat.le_of_ble_eq_true rfl) (⟨_, rfl, rfl⟩) ?_; exact ex_sub [0, 1] rfl (t_J3_checkIndex_8e157_0 hd _ _ _  h))
noncomputable def f_J0_checkIndex_df160_0 (x0 : Int32) (x1 : Int32) : Option (Unit) :=
  (f_J3_checkIndex_8e157 x0 x1).bind fun v2 =>
  some ()
set_option maxHeartbeats 4000000 in
theorem t_J0_checkIndex_df160_0 {X : XV} {d : Nat} {M : Mem} (hd : 2 ≤ d + 1) : ∀ (x0 : Int32) (x1 : Int32) (res : Unit), f_J0_checkIndex_df160_0  x0 x1 = some res → Ex X (d + 1) mJ0_checkIndex_df160 0 [(0, .int x0), (1, .int x1)] [] M none M := by
  intro x0 x1 res  h
  unfold f_J0_checkIndex_df160_0 at h
  refine ex_iload_n (pc := 0) 0 dJ0_checkIndex_df160_0 rfl rfl ?_
  refine ex_iload_n (pc := 1) 1 dJ0_checkIndex_df160_1 rfl rfl ?_
  refine ex_fmt (pc := 2) dJ0_checkIndex_df160_2 lsJ0_1053 (fun o1 => ?_)
  obtain ⟨v2, ev2, h⟩ := ob_some h
  refine ex_callS3r (pc := 5) dJ0_checkIndex_df160_5 jJ3_checkIndex_8e157 lmJ0_1059 jsJ3_checkIndex_8e157 (Nat.le_of_ble_eq_true rfl) (s_J3_checkIndex_8e157 (by omega)  ev2) ?_
  refine ex_pop (pc := 8) dJ0_checkIndex_df160_8 rfl ?_
  cases h
  exact ex_return (pc := 9) dJ0_checkIndex_df160_9
noncomputable def f_J0_checkIndex_df160 (x0 : Int32) (x1 : Int32) : Option (Unit) := f_J0_checkIndex_df160_0 x0 x1
set_option maxHeartbeats 4000000 in
theorem s_J0_checkIndex_df160 {X : XV} {d : Nat} (hd : 2 ≤ d) {x0 : Int32} {x1 : Int32} {M : Mem} {res : Unit} (h : f_J0_checkIndex_df160 x0 x1 = some res) : Mx X d mJ0_checkIndex_df160 [.int x0, .int x1] M none M := by
  obtain ⟨d, rfl⟩ : ∃ e, d = e + 1 := ⟨d - 1, by omega⟩
  unfold f_J0_checkIndex_df160 at h
  refine Mx.of (by decide) (Nat.le_of_ble_eq_true rfl) (rfl) ?_
  exact ex_sub (lo' := [(0, .int x0), (1, .int x1)]) [0, 1] rfl (t_J0_checkIndex_df160_0 hd _ _ _  h)
noncomputable def f_J1_charAt_3b067_0 (x0 : Nat) (x1 : Int32) : Option (Int32) :=
  (f_J0_checkIndex_df160 x1 (Int32.ofNat (mx_len.getD x0 0))).bind fun v1 =>
  (sbR x0 x1).bind fun v2 =>
  some ((Int32.toUInt32 (v2 &&& 255) % 65536).toInt32)
set_option maxHeartbeats 4000000 in
theorem t_J1_charAt_3b067_0 {X : XV} {d : Nat} {M : Mem} (hd : 3 ≤ d + 1) : ∀ (x0 : Nat) (x1 : Int32) (res : Int32), x0 < 2 → f_J1_charAt_3b067_0  x0 x1 = some res → Ex X (d + 1) mJ1_charAt_3b067 0 [(0, .ref (X.2.2.2 (4 + x0))), (1, .int x1)] [] M (some (.int res)) M := by
  intro x0 x1 res hq0 h
  unfold f_J1_charAt_3b067_0 at h
  refine ex_iload_n (pc := 0) 1 dJ1_charAt_3b067_0 rfl rfl ?_
  refine ex_aload_n (pc := 1) 0 dJ1_charAt_3b067_1 rfl rfl ?_
  refine ex_sbln (pc := 2) dJ1_charAt_3b067_2 hq0 ?_
  obtain ⟨v1, ev1, h⟩ := ob_some h
  refine ex_callS2v (pc := 3) dJ1_charAt_3b067_3 jJ0_checkIndex_df160 lmJ1_9 jsJ0_checkIndex_df160 (Nat.le_of_ble_eq_true rfl) (s_J0_checkIndex_df160 (by omega)  ev1) ?_
  refine ex_aload_n (pc := 6) 0 dJ1_charAt_3b067_6 rfl rfl ?_
  refine ex_iload_n (pc := 7) 1 dJ1_charAt_3b067_7 rfl rfl ?_
  obtain ⟨v2, ev2, h⟩ := ob_some h
  refine ex_sbR (pc := 8) hq0 ev2 dJ1_charAt_3b067_8 ?_
  refine ex_sipush (pc := 9) 255 dJ1_charAt_3b067_9 (by decide) ?_
  refine ex_iand (pc := 12) dJ1_charAt_3b067_12 ?_
  refine ex_i2c (pc := 13) dJ1_charAt_3b067_13 ?_
  cases h
  exact ex_ireturn (pc := 14) dJ1_charAt_3b067_14
noncomputable def f_J1_charAt_3b067 (x0 : Nat) (x1 : Int32) : Option (Int32) := (f_J1_charAt_3b067_0 x0 x1).bind ckC
set_option maxHeartbeats 4000000 in
theorem s_J1_charAt_3b067 {X : XV} {d : Nat} (hd : 3 ≤ d) {x0 : Nat} {x1 : Int32} {M : Mem} (hq0 : x0 < 2) {res : Int32} (h : f_J1_charAt_3b067 x0 x1 = some res) : Mx X d mJ1_charAt_3b067 [.ref (X.2.2.2 (4 + x0)), .int x1] M (some (.int res)) M := by
  obtain ⟨d, rfl⟩ : ∃ e, d = e + 1 := ⟨d - 1, by omega⟩
  unfold f_J1_charAt_3b067 at h
  obtain ⟨v0, e0, h0⟩ := ob_some h
  obtain ⟨rfl, hck⟩ := ckC_some h0
  have h := e0
  refine Mx.of (by decide) (Nat.le_of_ble_eq_true rfl) (⟨_, rfl, hck⟩) ?_
  exact ex_sub (lo' := [(0, .ref (X.2.2.2 (4 + x0))), (1, .int x1)]) [0, 1] rfl (t_J1_charAt_3b067_0 hd _ _ _ hq0 h)
noncomputable def f_J0_charAt_5068e_0 (x0 : Nat) (x1 : Int32) : Option (Int32) :=
  (f_J0_isLatin1_aae02 x0).bind fun v1 =>
  if v1 = false then
  (none)
  else
  ((f_J1_charAt_3b067 x0 x1).bind fun v3 =>
  some v3)
set_option maxHeartbeats 4000000 in
theorem t_J0_charAt_5068e_0 {X : XV} {d : Nat} {M : Mem} (hd : 4 ≤ d + 1) : ∀ (x0 : Nat) (x1 : Int32) (res : Int32), x0 < 2 → f_J0_charAt_5068e_0  x0 x1 = some res → Ex X (d + 1) mJ0_charAt_5068e 0 [(0, .ref (X.2.2.2 (2 + x0))), (1, .int x1)] [] M (some (.int res)) M := by
  intro x0 x1 res hq0 h
  unfold f_J0_charAt_5068e_0 at h
  refine ex_aload_n (pc := 0) 0 dJ0_charAt_5068e_0 rfl rfl ?_
  obtain ⟨v1, ev1, h⟩ := ob_some h
  refine ex_callVS0r (pc := 1) dJ0_charAt_5068e_1 jJ0_isLatin1_aae02 lmJ0_492 jiJ0_isLatin1_aae02 jvJ0_isLatin1_aae02 hq0 (Nat.le_of_ble_eq_true rfl) (s_J0_isLatin1_aae02 (by omega) hq0 ev1) ?_
  by_cases c2 : v1 = false
  · rw [if_pos c2] at h
    refine ex_if_eq_t (pc := 4) 16 dJ0_charAt_5068e_4 rfl (jz_eq_t c2) ?_
    cases h
  · rw [if_neg c2] at h
    refine ex_if_eq_f (pc := 4) dJ0_charAt_5068e_4 16 rfl (jz_eq_f c2) ?_
    refine ex_aload_n (pc := 7) 0 dJ0_charAt_5068e_7 rfl rfl ?_
    refine ex_sval (pc := 8) dJ0_charAt_5068e_8 hq0 lsJ0_9 ?_
    refine ex_iload_n (pc := 11) 1 dJ0_charAt_5068e_11 rfl rfl ?_
    obtain ⟨v3, ev3, h⟩ := ob_some h
    refine ex_callS2r (pc := 12) dJ0_charAt_5068e_12 jJ1_charAt_3b067 lmJ0_495 jsJ1_charAt_3b067 (Nat.le_of_ble_eq_true rfl) (s_J1_charAt_3b067 (by omega) hq0 ev3) ?_
    cases h
    exact ex_ireturn (pc := 15) dJ0_charAt_5068e_15
noncomputable def f_J0_charAt_5068e (x0 : Nat) (x1 : Int32) : Option (Int32) := (f_J0_charAt_5068e_0 x0 x1).bind ckC
set_option maxHeartbeats 4000000 in
theorem s_J0_charAt_5068e {X : XV} {d : Nat} (hd : 4 ≤ d) {x0 : Nat} {x1 : Int32} {M : Mem} (hq0 : x0 < 2) {res : Int32} (h : f_J0_charAt_5068e x0 x1 = some res) : Mx X d mJ0_charAt_5068e [.ref (X.2.2.2 (2 + x0)), .int x1] M (some (.int res)) M := by
  obtain ⟨d, rfl⟩ : ∃ e, d = e + 1 := ⟨d - 1, by omega⟩
  unfold f_J0_charAt_5068e at h
  obtain ⟨v0, e0, h0⟩ := ob_some h
  obtain ⟨rfl, hck⟩ := ckC_some h0
  have h := e0
  refine Mx.of (by decide) (Nat.le_of_ble_eq_true rfl) (⟨_, rfl, hck⟩) ?_
  exact ex_sub (lo' := [(0, .ref (X.2.2.2 (2 + x0))), (1, .int x1)]) [0, 1] rfl (t_J0_charAt_5068e_0 hd _ _ _ hq0 h)
noncomputable def f_X7_scanWord_53 (n0 : Nat) (x0 : Nat) (x1 : Int32) (x2 : Int32) (x3 : Int32) (M : Mem) : Option (Mem) :=
  match n0 with
  | 0 => none
  | n + 1 =>
    (f_J0_length_8abf5 0).bind fun v1 =>
    if v1 ≤ x3 then
    (some M)
    else
    ((f_J0_charAt_5068e 0 x3).bind fun v3 =>
    if v3 = 32 then
    ((gI M 7 x0 5).bind fun v5 =>
    if x2 = v5 then
    ((pF M 7 x0 2 (.int x1)).bind fun q8 =>
    some q8)
    else
    ((gI M 7 x0 4).bind fun v7 =>
    f_X7_scanWord_53 n x0 (x1 + 1) v7 (x3 + 1) M))
    else
    (if x2 < 0 then
    (f_X7_scanWord_53 n x0 x1 (-1) (x3 + 1) M)
    else
    ((gI M 7 x0 5).bind fun v10 =>
    if v10 ≤ x2 then
    (f_X7_scanWord_53 n x0 x1 (-1) (x3 + 1) M)
    else
    ((f_X7_byteAt x0 x2 M).bind fun v12 =>
    if v12 = v3 then
    (f_X7_scanWord_53 n x0 x1 (x2 + 1) (x3 + 1) M)
    else
    (f_X7_scanWord_53 n x0 x1 (-1) (x3 + 1) M)))))
set_option maxHeartbeats 4000000 in
theorem t_X7_scanWord_53 {X : XV} {d : Nat} (hd : 5 ≤ d + 1) : ∀ (n : Nat) (x0 : Nat) (x1 : Int32) (x2 : Int32) (x3 : Int32) (M : Mem) (res : Mem), f_X7_scanWord_53 n  x0 x1 x2 x3 M = some res → Ex X (d + 1) mX7_scanWord 53 [(0, .ref x0), (1, .int x1), (2, .int x2), (3, .int x3)] [] M none res := by
  intro n
  induction n with
  | zero =>
    intro x0 x1 x2 x3 M res  h
    unfold f_X7_scanWord_53 at h
    cases h
  | succ n ih =>
    intro x0 x1 x2 x3 M res  h
    unfold f_X7_scanWord_53 at h
    refine ex_iload_n (pc := 53) 3 dX7_scanWord_53 rfl rfl ?_
    refine ex_ldcS (pc := 54) (q := 0) dX7_scanWord_54 rfl (by decide) ?_
    obtain ⟨v1, ev1, h⟩ := ob_some h
    refine ex_callVS0r (pc := 56) dX7_scanWord_56 jJ0_length_8abf5 lmX7_58 jiJ0_length_8abf5 jvJ0_length_8abf5 (by decide) (Nat.le_of_ble_eq_true rfl) (s_J0_length_8abf5 (by omega) (by decide) ev1) ?_
    by_cases c2 : v1 ≤ x3
    · rw [if_pos c2] at h
      refine ex_icmp_ge_t (pc := 59) 138 dX7_scanWord_59 rfl c2 ?_
      cases h
      exact ex_return (pc := 138) dX7_scanWord_138
    · rw [if_neg c2] at h
      refine ex_icmp_ge_f (pc := 59) dX7_scanWord_59 138 rfl c2 ?_
      refine ex_ldcS (pc := 62) (q := 0) dX7_scanWord_62 rfl (by decide) ?_
      refine ex_iload_n (pc := 64) 3 dX7_scanWord_64 rfl rfl ?_
      obtain ⟨v3, ev3, h⟩ := ob_some h
      refine ex_callVS1r (pc := 65) dX7_scanWord_65 jJ0_charAt_5068e lmX7_63 jiJ0_charAt_5068e jvJ0_charAt_5068e (by decide) (Nat.le_of_ble_eq_true rfl) (s_J0_charAt_5068e (by omega) (by decide) ev3) ?_
      refine ex_istore (pc := 68) [(4, .int v3), (0, .ref x0), (1, .int x1), (2, .int x2), (3, .int x3)] dX7_scanWord_68 (by decide) rfl ?_
      refine ex_iload (pc := 70) 0 dX7_scanWord_70 rfl ?_
      refine ex_bipush (pc := 72) 32 dX7_scanWord_72 (by decide) ?_
      by_cases c4 : v3 = 32
      · rw [if_pos c4] at h
        refine ex_icmp_eq_t (pc := 74) 110 dX7_scanWord_74 rfl c4 ?_
        refine ex_iload_n (pc := 110) 3 dX7_scanWord_110 rfl rfl ?_
        refine ex_aload_n (pc := 111) 1 dX7_scanWord_111 rfl rfl ?_
        obtain ⟨v5, ev5, h⟩ := ob_some h
        refine ex_gI (pc := 112) ev5 dX7_scanWord_112 lfX7_23 ?_
        by_cases c6 : x2 = v5
        · rw [if_pos c6] at h
          refine ex_icmp_ne_f (pc := 115) dX7_scanWord_115 124 rfl c6 ?_
          refine ex_aload_n (pc := 118) 1 dX7_scanWord_118 rfl rfl ?_
          refine ex_iload_n (pc := 119) 2 dX7_scanWord_119 rfl rfl ?_
          obtain ⟨q8, eq8, h⟩ := ob_some h
          refine ex_pF (pc := 120) eq8 dX7_scanWord_120 lfX7_36 rfl rfl (fun _ hq => by cases hq; rfl) ?_
          cases h
          exact ex_return (pc := 123) dX7_scanWord_123
        · rw [if_neg c6] at h
          refine ex_icmp_ne_t (pc := 115) 124 dX7_scanWord_115 rfl c6 ?_
          refine ex_iinc (pc := 124) (x1 + 1) 2 [(1, .int (x1 + 1)), (4, .int v3), (0, .ref x0), (2, .int x2), (3, .int x3)] dX7_scanWord_124 rfl rfl (by decide) rfl ?_
          refine ex_aload_n (pc := 127) 2 dX7_scanWord_127 rfl rfl ?_
          obtain ⟨v7, ev7, h⟩ := ob_some h
          refine ex_gI (pc := 128) ev7 dX7_scanWord_128 lfX7_29 ?_
          refine ex_istore_n (pc := 131) [(2, .int v7), (1, .int (x1 + 1)), (4, .int v3), (0, .ref x0), (3, .int x3)] dX7_scanWord_131 rfl (by decide) rfl ?_
          refine ex_iinc (pc := 132) (x3 + 1) 4 [(3, .int (x3 + 1)), (2, .int v7), (1, .int (x1 + 1)), (4, .int v3), (0, .ref x0)] dX7_scanWord_132 rfl rfl (by decide) rfl ?_
          refine ex_goto (pc := 135) 53 dX7_scanWord_135 rfl ?_
          refine ex_sub (lo' := [(0, .ref x0), (1, .int (x1 + 1)), (2, .int v7), (3, .int (x3 + 1))]) [4, 2, 1, 0] rfl ?_
          exact ih _ _ _ _ _ _  h
      · rw [if_neg c4] at h
        refine ex_icmp_eq_f (pc := 74) dX7_scanWord_74 110 rfl c4 ?_
        refine ex_iload_n (pc := 77) 3 dX7_scanWord_77 rfl rfl ?_
        by_cases c9 : x2 < 0
        · rw [if_pos c9] at h
          refine ex_if_lt_t (pc := 78) 105 dX7_scanWord_78 rfl c9 ?_
          refine ex_iconst (pc := 105) (-1) dX7_scanWord_105 rfl ?_
          refine ex_istore_n (pc := 106) [(2, .int (-1)), (4, .int v3), (0, .ref x0), (1, .int x1), (3, .int x3)] dX7_scanWord_106 rfl (by decide) rfl ?_
          refine ex_goto (pc := 107) 132 dX7_scanWord_107 rfl ?_
          refine ex_iinc (pc := 132) (x3 + 1) 4 [(3, .int (x3 + 1)), (2, .int (-1)), (4, .int v3), (0, .ref x0), (1, .int x1)] dX7_scanWord_132 rfl rfl (by decide) rfl ?_
          refine ex_goto (pc := 135) 53 dX7_scanWord_135 rfl ?_
          refine ex_sub (lo' := [(0, .ref x0), (1, .int x1), (2, .int (-1)), (3, .int (x3 + 1))]) [3, 4, 1, 0] rfl ?_
          exact ih _ _ _ _ _ _  h
        · rw [if_neg c9] at h
          refine ex_if_lt_f (pc := 78) dX7_scanWord_78 105 rfl c9 ?_
          refine ex_iload_n (pc := 81) 3 dX7_scanWord_81 rfl rfl ?_
          refine ex_aload_n (pc := 82) 1 dX7_scanWord_82 rfl rfl ?_
          obtain ⟨v10, ev10, h⟩ := ob_some h
          refine ex_gI (pc := 83) ev10 dX7_scanWord_83 lfX7_23 ?_
          by_cases c11 : v10 ≤ x2
          · rw [if_pos c11] at h
            refine ex_icmp_ge_t (pc := 86) 105 dX7_scanWord_86 rfl c11 ?_
            refine ex_iconst (pc := 105) (-1) dX7_scanWord_105 rfl ?_
            refine ex_istore_n (pc := 106) [(2, .int (-1)), (4, .int v3), (0, .ref x0), (1, .int x1), (3, .int x3)] dX7_scanWord_106 rfl (by decide) rfl ?_
            refine ex_goto (pc := 107) 132 dX7_scanWord_107 rfl ?_
            refine ex_iinc (pc := 132) (x3 + 1) 4 [(3, .int (x3 + 1)), (2, .int (-1)), (4, .int v3), (0, .ref x0), (1, .int x1)] dX7_scanWord_132 rfl rfl (by decide) rfl ?_
            refine ex_goto (pc := 135) 53 dX7_scanWord_135 rfl ?_
            refine ex_sub (lo' := [(0, .ref x0), (1, .int x1), (2, .int (-1)), (3, .int (x3 + 1))]) [3, 4, 1, 0] rfl ?_
            exact ih _ _ _ _ _ _  h
          · rw [if_neg c11] at h
            refine ex_icmp_ge_f (pc := 86) dX7_scanWord_86 105 rfl c11 ?_
            refine ex_aload_n (pc := 89) 1 dX7_scanWord_89 rfl rfl ?_
            refine ex_iload_n (pc := 90) 3 dX7_scanWord_90 rfl rfl ?_
            obtain ⟨v12, ev12, h⟩ := ob_some h
            refine ex_callV1r (pc := 91) dX7_scanWord_91 jX7_byteAt lmX7_32 jiX7_byteAt jvX7_byteAt (o_X7_byteAt ev12) rfl (Nat.le_of_ble_eq_true rfl) (s_X7_byteAt (by omega)  ev12) ?_
            refine ex_iload (pc := 94) 0 dX7_scanWord_94 rfl ?_
            by_cases c13 : v12 = v3
            · rw [if_pos c13] at h
              refine ex_icmp_ne_f (pc := 96) dX7_scanWord_96 105 rfl c13 ?_
              refine ex_iload_n (pc := 99) 3 dX7_scanWord_99 rfl rfl ?_
              refine ex_iconst (pc := 100) 1 dX7_scanWord_100 rfl ?_
              refine ex_iadd (pc := 101) dX7_scanWord_101 ?_
              refine ex_goto (pc := 102) 106 dX7_scanWord_102 rfl ?_
              refine ex_istore_n (pc := 106) [(2, .int (x2 + 1)), (4, .int v3), (0, .ref x0), (1, .int x1), (3, .int x3)] dX7_scanWord_106 rfl (by decide) rfl ?_
              refine ex_goto (pc := 107) 132 dX7_scanWord_107 rfl ?_
              refine ex_iinc (pc := 132) (x3 + 1) 4 [(3, .int (x3 + 1)), (2, .int (x2 + 1)), (4, .int v3), (0, .ref x0), (1, .int x1)] dX7_scanWord_132 rfl rfl (by decide) rfl ?_
              refine ex_goto (pc := 135) 53 dX7_scanWord_135 rfl ?_
              refine ex_sub (lo' := [(0, .ref x0), (1, .int x1), (2, .int (x2 + 1)), (3, .int (x3 + 1))]) [3, 4, 1, 0] rfl ?_
              exact ih _ _ _ _ _ _  h
            · rw [if_neg c13] at h
              refine ex_icmp_ne_t (pc := 96) 105 dX7_scanWord_96 rfl c13 ?_
              refine ex_iconst (pc := 105) (-1) dX7_scanWord_105 rfl ?_
              refine ex_istore_n (pc := 106) [(2, .int (-1)), (4, .int v3), (0, .ref x0), (1, .int x1), (3, .int x3)] dX7_scanWord_106 rfl (by decide) rfl ?_
              refine ex_goto (pc := 107) 132 dX7_scanWord_107 rfl ?_
              refine ex_iinc (pc := 132) (x3 + 1) 4 [(3, .int (x3 + 1)), (2, .int (-1)), (4, .int v3), (0, .ref x0), (1, .int x1)] dX7_scanWord_132 rfl rfl (by decide) rfl ?_
              refine ex_goto (pc := 135) 53 dX7_scanWord_135 rfl ?_
              refine ex_sub (lo' := [(0, .ref x0), (1, .int x1), (2, .int (-1)), (3, .int (x3 + 1))]) [3, 4, 1, 0] rfl ?_
              exact ih _ _ _ _ _ _  h
noncomputable def f_X7_scanWord_38 (x0 : Nat) (M : Mem) : Option (Mem) :=
  (pF M 7 x0 2 (.int 42)).bind fun q14 =>
  (gI q14 7 x0 4).bind fun v15 =>
  f_X7_scanWord_53 fu x0 0 v15 0 q14
set_option maxHeartbeats 4000000 in
theorem t_X7_scanWord_38 {X : XV} {d : Nat} (hd : 5 ≤ d + 1) : ∀ (x0 : Nat) (M : Mem) (res : Mem), f_X7_scanWord_38  x0 M = some res → Ex X (d + 1) mX7_scanWord 38 [(0, .ref x0)] [] M none res := by
  intro x0 M res  h
  unfold f_X7_scanWord_38 at h
  refine ex_aload_n (pc := 38) 0 dX7_scanWord_38 rfl rfl ?_
  refine ex_bipush (pc := 39) 42 dX7_scanWord_39 (by decide) ?_
  obtain ⟨q14, eq14, h⟩ := ob_some h
  refine ex_pF (pc := 41) eq14 dX7_scanWord_41 lfX7_36 rfl rfl (fun _ hq => by cases hq; rfl) ?_
  refine ex_iconst (pc := 44) 0 dX7_scanWord_44 rfl ?_
  refine ex_istore_n (pc := 45) [(1, .int 0), (0, .ref x0)] dX7_scanWord_45 rfl (by decide) rfl ?_
  refine ex_aload_n (pc := 46) 1 dX7_scanWord_46 rfl rfl ?_
  obtain ⟨v15, ev15, h⟩ := ob_some h
  refine ex_gI (pc := 47) ev15 dX7_scanWord_47 lfX7_29 ?_
  refine ex_istore_n (pc := 50) [(2, .int v15), (1, .int 0), (0, .ref x0)] dX7_scanWord_50 rfl (by decide) rfl ?_
  refine ex_iconst (pc := 51) 0 dX7_scanWord_51 rfl ?_
  refine ex_istore_n (pc := 52) [(3, .int 0), (2, .int v15), (1, .int 0), (0, .ref x0)] dX7_scanWord_52 rfl (by decide) rfl ?_
  refine ex_sub (lo' := [(0, .ref x0), (1, .int 0), (2, .int v15), (3, .int 0)]) [3, 2, 1, 0] rfl ?_
  exact t_X7_scanWord_53 hd  _ _ _ _ _ _ _  h
noncomputable def f_X7_scanWord_0 (n0 : Nat) (x0 : Nat) (M : Mem) : Option (Mem) :=
  match n0 with
  | 0 => none
  | n + 1 =>
    (gI M 7 x0 5).bind fun v16 =>
    (gI M 7 x0 1).bind fun v17 =>
    if v17 ≤ v16 then
    (f_X7_scanWord_38 x0 M)
    else
    ((gI M 7 x0 5).bind fun v19 =>
    (f_X7_byteAt x0 v19 M).bind fun v20 =>
    (f_X7_isLetter v20).bind fun v21 =>
    if v21 = false then
    (f_X7_scanWord_38 x0 M)
    else
    ((gI M 7 x0 5).bind fun v23 =>
    (pF M 7 x0 5 (.int (v23 + 1))).bind fun q24 =>
    f_X7_scanWord_0 n x0 q24))
set_option maxHeartbeats 4000000 in
theorem t_X7_scanWord_0 {X : XV} {d : Nat} (hd : 5 ≤ d + 1) : ∀ (n : Nat) (x0 : Nat) (M : Mem) (res : Mem), f_X7_scanWord_0 n  x0 M = some res → Ex X (d + 1) mX7_scanWord 0 [(0, .ref x0)] [] M none res := by
  intro n
  induction n with
  | zero =>
    intro x0 M res  h
    unfold f_X7_scanWord_0 at h
    cases h
  | succ n ih =>
    intro x0 M res  h
    unfold f_X7_scanWord_0 at h
    refine ex_aload_n (pc := 0) 0 dX7_scanWord_0 rfl rfl ?_
    obtain ⟨v16, ev16, h⟩ := ob_some h
    refine ex_gI (pc := 1) ev16 dX7_scanWord_1 lfX7_23 ?_
    refine ex_aload_n (pc := 4) 0 dX7_scanWord_4 rfl rfl ?_
    obtain ⟨v17, ev17, h⟩ := ob_some h
    refine ex_gI (pc := 5) ev17 dX7_scanWord_5 lfX7_15 ?_
    by_cases c18 : v17 ≤ v16
    · rw [if_pos c18] at h
      refine ex_icmp_ge_t (pc := 8) 38 dX7_scanWord_8 rfl c18 ?_
      refine ex_sub (lo' := [(0, .ref x0)]) [0] rfl ?_
      exact t_X7_scanWord_38 hd  _ _ _  h
    · rw [if_neg c18] at h
      refine ex_icmp_ge_f (pc := 8) dX7_scanWord_8 38 rfl c18 ?_
      refine ex_aload_n (pc := 11) 0 dX7_scanWord_11 rfl rfl ?_
      refine ex_aload_n (pc := 12) 0 dX7_scanWord_12 rfl rfl ?_
      obtain ⟨v19, ev19, h⟩ := ob_some h
      refine ex_gI (pc := 13) ev19 dX7_scanWord_13 lfX7_23 ?_
      obtain ⟨v20, ev20, h⟩ := ob_some h
      refine ex_callV1r (pc := 16) dX7_scanWord_16 jX7_byteAt lmX7_32 jiX7_byteAt jvX7_byteAt (o_X7_byteAt ev20) rfl (Nat.le_of_ble_eq_true rfl) (s_X7_byteAt (by omega)  ev20) ?_
      obtain ⟨v21, ev21, h⟩ := ob_some h
      refine ex_callS1r (pc := 19) dX7_scanWord_19 jX7_isLetter lmX7_39 jsX7_isLetter (Nat.le_of_ble_eq_true rfl) (s_X7_isLetter (by omega)  ev21) ?_
      by_cases c22 : v21 = false
      · rw [if_pos c22] at h
        refine ex_if_eq_t (pc := 22) 38 dX7_scanWord_22 rfl (jz_eq_t c22) ?_
        refine ex_sub (lo' := [(0, .ref x0)]) [0] rfl ?_
        exact t_X7_scanWord_38 hd  _ _ _  h
      · rw [if_neg c22] at h
        refine ex_if_eq_f (pc := 22) dX7_scanWord_22 38 rfl (jz_eq_f c22) ?_
        refine ex_aload_n (pc := 25) 0 dX7_scanWord_25 rfl rfl ?_
        refine ex_dup (pc := 26) dX7_scanWord_26 rfl ?_
        obtain ⟨v23, ev23, h⟩ := ob_some h
        refine ex_gI (pc := 27) ev23 dX7_scanWord_27 lfX7_23 ?_
        refine ex_iconst (pc := 30) 1 dX7_scanWord_30 rfl ?_
        refine ex_iadd (pc := 31) dX7_scanWord_31 ?_
        obtain ⟨q24, eq24, h⟩ := ob_some h
        refine ex_pF (pc := 32) eq24 dX7_scanWord_32 lfX7_23 rfl rfl (fun _ hq => by cases hq; rfl) ?_
        refine ex_goto (pc := 35) 0 dX7_scanWord_35 rfl ?_
        refine ex_sub (lo' := [(0, .ref x0)]) [0] rfl ?_
        exact ih _ _ _  h
noncomputable def f_X7_scanWord (x0 : Nat) (M : Mem) : Option (Mem) := if isOb M 7 x0 = true then f_X7_scanWord_0 fu x0 M else none
theorem o_X7_scanWord {x0 : Nat} {M : Mem} {res : Mem} (h : f_X7_scanWord x0 M = some res) : isO M 7 x0 := by
  unfold f_X7_scanWord at h
  split at h
  · rename_i hc; exact isOb_iff hc
  · cases h
set_option maxHeartbeats 4000000 in
theorem s_X7_scanWord {X : XV} {d : Nat} (hd : 5 ≤ d) {x0 : Nat} {M : Mem} {res : Mem} (h : f_X7_scanWord x0 M = some res) : Mx X d mX7_scanWord [.ref x0] M none res := by
  obtain ⟨d, rfl⟩ : ∃ e, d = e + 1 := ⟨d - 1, by omega⟩
  unfold f_X7_scanWord at h
  split at h
  rotate_left
  · cases h
  refine Mx.of (by decide) (Nat.le_of_ble_eq_true rfl) (rfl) ?_
  exact ex_sub (lo' := [(0, .ref x0)]) [0] rfl (t_X7_scanWord_0 hd _ _ _ _  h)
noncomputable def f_X7_isDigit_0 (x0 : Int32) : Option (Bool) :=
  if x0 < 48 then
  (some false)
  else
  (if 57 < x0 then
  (some false)
  else
  (some true))
set_option maxHeartbeats 4000000 in
theorem t_X7_isDigit_0 {X : XV} {d : Nat} {M : Mem} (hd : 1 ≤ d + 1) : ∀ (x0 : Int32) (res : Bool), f_X7_isDigit_0  x0 = some res → Ex X (d + 1) mX7_isDigit 0 [(0, .int x0)] [] M (some (.int (jz res))) M := by
  intro x0 res  h
  unfold f_X7_isDigit_0 at h
  refine ex_iload_n (pc := 0) 0 dX7_isDigit_0 rfl rfl ?_
  refine ex_bipush (pc := 1) 48 dX7_isDigit_1 (by decide) ?_
  by_cases c1 : x0 < 48
  · rw [if_pos c1] at h
    refine ex_icmp_lt_t (pc := 3) 16 dX7_isDigit_3 rfl c1 ?_
    refine ex_iconst (pc := 16) 0 dX7_isDigit_16 rfl ?_
    cases h
    exact ex_ireturn (pc := 17) dX7_isDigit_17
  · rw [if_neg c1] at h
    refine ex_icmp_lt_f (pc := 3) dX7_isDigit_3 16 rfl c1 ?_
    refine ex_iload_n (pc := 6) 0 dX7_isDigit_6 rfl rfl ?_
    refine ex_bipush (pc := 7) 57 dX7_isDigit_7 (by decide) ?_
    by_cases c2 : 57 < x0
    · rw [if_pos c2] at h
      refine ex_icmp_gt_t (pc := 9) 16 dX7_isDigit_9 rfl c2 ?_
      refine ex_iconst (pc := 16) 0 dX7_isDigit_16 rfl ?_
      cases h
      exact ex_ireturn (pc := 17) dX7_isDigit_17
    · rw [if_neg c2] at h
      refine ex_icmp_gt_f (pc := 9) dX7_isDigit_9 16 rfl c2 ?_
      refine ex_iconst (pc := 12) 1 dX7_isDigit_12 rfl ?_
      refine ex_goto (pc := 13) 17 dX7_isDigit_13 rfl ?_
      cases h
      exact ex_ireturn (pc := 17) dX7_isDigit_17
noncomputable def f_X7_isDigit (x0 : Int32) : Option (Bool) := f_X7_isDigit_0 x0
set_option maxHeartbeats 4000000 in
theorem s_X7_isDigit {X : XV} {d : Nat} (hd : 1 ≤ d) {x0 : Int32} {M : Mem} {res : Bool} (h : f_X7_isDigit x0 = some res) : Mx X d mX7_isDigit [.int x0] M (some (.int (jz res))) M := by
  obtain ⟨d, rfl⟩ : ∃ e, d = e + 1 := ⟨d - 1, by omega⟩
  unfold f_X7_isDigit at h
  refine Mx.of (by decide) (Nat.le_of_ble_eq_true rfl) (⟨_, rfl, jz_nar _⟩) ?_
  exact ex_sub (lo' := [(0, .int x0)]) [0] rfl (t_X7_isDigit_0 hd _ _  h)
noncomputable def f_X7_scanNumber_21 (n0 : Nat) (x0 : Nat) (M : Mem) : Option (Mem) :=
  match n0 with
  | 0 => none
  | n + 1 =>
    (gI M 7 x0 5).bind fun v1 =>
    (gI M 7 x0 1).bind fun v2 =>
    if v2 ≤ v1 then
    (some M)
    else
    ((gI M 7 x0 5).bind fun v4 =>
    (f_X7_byteAt x0 v4 M).bind fun v5 =>
    (f_X7_isDigit v5).bind fun v6 =>
    if v6 = false then
    (some M)
    else
    ((gI M 7 x0 3).bind fun v8 =>
    (gI M 7 x0 5).bind fun v9 =>
    (f_X7_byteAt x0 v9 M).bind fun v10 =>
    (pF M 7 x0 3 (.int (jmin (((v8 * 10) + v10) - 48) 10000))).bind fun q11 =>
    (gI q11 7 x0 5).bind fun v12 =>
    (pF q11 7 x0 5 (.int (v12 + 1))).bind fun q13 =>
    f_X7_scanNumber_21 n x0 q13))
set_option maxHeartbeats 4000000 in
theorem t_X7_scanNumber_21 {X : XV} {d : Nat} (hd : 2 ≤ d + 1) : ∀ (n : Nat) (x0 : Nat) (M : Mem) (res : Mem), f_X7_scanNumber_21 n  x0 M = some res → Ex X (d + 1) mX7_scanNumber 21 [(0, .ref x0)] [] M none res := by
  intro n
  induction n with
  | zero =>
    intro x0 M res  h
    unfold f_X7_scanNumber_21 at h
    cases h
  | succ n ih =>
    intro x0 M res  h
    unfold f_X7_scanNumber_21 at h
    refine ex_aload_n (pc := 21) 0 dX7_scanNumber_21 rfl rfl ?_
    obtain ⟨v1, ev1, h⟩ := ob_some h
    refine ex_gI (pc := 22) ev1 dX7_scanNumber_22 lfX7_23 ?_
    refine ex_aload_n (pc := 25) 0 dX7_scanNumber_25 rfl rfl ?_
    obtain ⟨v2, ev2, h⟩ := ob_some h
    refine ex_gI (pc := 26) ev2 dX7_scanNumber_26 lfX7_15 ?_
    by_cases c3 : v2 ≤ v1
    · rw [if_pos c3] at h
      refine ex_icmp_ge_t (pc := 29) 88 dX7_scanNumber_29 rfl c3 ?_
      cases h
      exact ex_return (pc := 88) dX7_scanNumber_88
    · rw [if_neg c3] at h
      refine ex_icmp_ge_f (pc := 29) dX7_scanNumber_29 88 rfl c3 ?_
      refine ex_aload_n (pc := 32) 0 dX7_scanNumber_32 rfl rfl ?_
      refine ex_aload_n (pc := 33) 0 dX7_scanNumber_33 rfl rfl ?_
      obtain ⟨v4, ev4, h⟩ := ob_some h
      refine ex_gI (pc := 34) ev4 dX7_scanNumber_34 lfX7_23 ?_
      obtain ⟨v5, ev5, h⟩ := ob_some h
      refine ex_callV1r (pc := 37) dX7_scanNumber_37 jX7_byteAt lmX7_32 jiX7_byteAt jvX7_byteAt (o_X7_byteAt ev5) rfl (Nat.le_of_ble_eq_true rfl) (s_X7_byteAt (by omega)  ev5) ?_
      obtain ⟨v6, ev6, h⟩ := ob_some h
      refine ex_callS1r (pc := 40) dX7_scanNumber_40 jX7_isDigit lmX7_46 jsX7_isDigit (Nat.le_of_ble_eq_true rfl) (s_X7_isDigit (by omega)  ev6) ?_
      by_cases c7 : v6 = false
      · rw [if_pos c7] at h
        refine ex_if_eq_t (pc := 43) 88 dX7_scanNumber_43 rfl (jz_eq_t c7) ?_
        cases h
        exact ex_return (pc := 88) dX7_scanNumber_88
      · rw [if_neg c7] at h
        refine ex_if_eq_f (pc := 43) dX7_scanNumber_43 88 rfl (jz_eq_f c7) ?_
        refine ex_aload_n (pc := 46) 0 dX7_scanNumber_46 rfl rfl ?_
        refine ex_aload_n (pc := 47) 0 dX7_scanNumber_47 rfl rfl ?_
        obtain ⟨v8, ev8, h⟩ := ob_some h
        refine ex_gI (pc := 48) ev8 dX7_scanNumber_48 lfX7_67 ?_
        refine ex_bipush (pc := 51) 10 dX7_scanNumber_51 (by decide) ?_
        refine ex_imul (pc := 53) dX7_scanNumber_53 ?_
        refine ex_aload_n (pc := 54) 0 dX7_scanNumber_54 rfl rfl ?_
        refine ex_aload_n (pc := 55) 0 dX7_scanNumber_55 rfl rfl ?_
        obtain ⟨v9, ev9, h⟩ := ob_some h
        refine ex_gI (pc := 56) ev9 dX7_scanNumber_56 lfX7_23 ?_
        obtain ⟨v10, ev10, h⟩ := ob_some h
        refine ex_callV1r (pc := 59) dX7_scanNumber_59 jX7_byteAt lmX7_32 jiX7_byteAt jvX7_byteAt (o_X7_byteAt ev10) rfl (Nat.le_of_ble_eq_true rfl) (s_X7_byteAt (by omega)  ev10) ?_
        refine ex_iadd (pc := 62) dX7_scanNumber_62 ?_
        refine ex_bipush (pc := 63) 48 dX7_scanNumber_63 (by decide) ?_
        refine ex_isub (pc := 65) dX7_scanNumber_65 ?_
        refine ex_sipush (pc := 66) 10000 dX7_scanNumber_66 (by decide) ?_
        refine ex_mmin (pc := 69) dX7_scanNumber_69 lmX7_70 (by omega) (Nat.le_of_ble_eq_true rfl) ?_
        obtain ⟨q11, eq11, h⟩ := ob_some h
        refine ex_pF (pc := 72) eq11 dX7_scanNumber_72 lfX7_67 rfl rfl (fun _ hq => by cases hq; rfl) ?_
        refine ex_aload_n (pc := 75) 0 dX7_scanNumber_75 rfl rfl ?_
        refine ex_dup (pc := 76) dX7_scanNumber_76 rfl ?_
        obtain ⟨v12, ev12, h⟩ := ob_some h
        refine ex_gI (pc := 77) ev12 dX7_scanNumber_77 lfX7_23 ?_
        refine ex_iconst (pc := 80) 1 dX7_scanNumber_80 rfl ?_
        refine ex_iadd (pc := 81) dX7_scanNumber_81 ?_
        obtain ⟨q13, eq13, h⟩ := ob_some h
        refine ex_pF (pc := 82) eq13 dX7_scanNumber_82 lfX7_23 rfl rfl (fun _ hq => by cases hq; rfl) ?_
        refine ex_goto (pc := 85) 21 dX7_scanNumber_85 rfl ?_
        refine ex_sub (lo' := [(0, .ref x0)]) [0] rfl ?_
        exact ih _ _ _  h
noncomputable def f_X7_scanNumber_0 (x0 : Nat) (M : Mem) : Option (Mem) :=
  (pF M 7 x0 2 (.int 27)).bind fun q14 =>
  (gI q14 7 x0 4).bind fun v15 =>
  (f_X7_byteAt x0 v15 q14).bind fun v16 =>
  (pF q14 7 x0 3 (.int (v16 - 48))).bind fun q17 =>
  f_X7_scanNumber_21 fu x0 q17
set_option maxHeartbeats 4000000 in
theorem t_X7_scanNumber_0 {X : XV} {d : Nat} (hd : 2 ≤ d + 1) : ∀ (x0 : Nat) (M : Mem) (res : Mem), f_X7_scanNumber_0  x0 M = some res → Ex X (d + 1) mX7_scanNumber 0 [(0, .ref x0)] [] M none res := by
  intro x0 M res  h
  unfold f_X7_scanNumber_0 at h
  refine ex_aload_n (pc := 0) 0 dX7_scanNumber_0 rfl rfl ?_
  refine ex_bipush (pc := 1) 27 dX7_scanNumber_1 (by decide) ?_
  obtain ⟨q14, eq14, h⟩ := ob_some h
  refine ex_pF (pc := 3) eq14 dX7_scanNumber_3 lfX7_36 rfl rfl (fun _ hq => by cases hq; rfl) ?_
  refine ex_aload_n (pc := 6) 0 dX7_scanNumber_6 rfl rfl ?_
  refine ex_aload_n (pc := 7) 0 dX7_scanNumber_7 rfl rfl ?_
  refine ex_aload_n (pc := 8) 0 dX7_scanNumber_8 rfl rfl ?_
  obtain ⟨v15, ev15, h⟩ := ob_some h
  refine ex_gI (pc := 9) ev15 dX7_scanNumber_9 lfX7_29 ?_
  obtain ⟨v16, ev16, h⟩ := ob_some h
  refine ex_callV1r (pc := 12) dX7_scanNumber_12 jX7_byteAt lmX7_32 jiX7_byteAt jvX7_byteAt (o_X7_byteAt ev16) rfl (Nat.le_of_ble_eq_true rfl) (s_X7_byteAt (by omega)  ev16) ?_
  refine ex_bipush (pc := 15) 48 dX7_scanNumber_15 (by decide) ?_
  refine ex_isub (pc := 17) dX7_scanNumber_17 ?_
  obtain ⟨q17, eq17, h⟩ := ob_some h
  refine ex_pF (pc := 18) eq17 dX7_scanNumber_18 lfX7_67 rfl rfl (fun _ hq => by cases hq; rfl) ?_
  refine ex_sub (lo' := [(0, .ref x0)]) [0] rfl ?_
  exact t_X7_scanNumber_21 hd  _ _ _ _  h
noncomputable def f_X7_scanNumber (x0 : Nat) (M : Mem) : Option (Mem) := if isOb M 7 x0 = true then f_X7_scanNumber_0 x0 M else none
theorem o_X7_scanNumber {x0 : Nat} {M : Mem} {res : Mem} (h : f_X7_scanNumber x0 M = some res) : isO M 7 x0 := by
  unfold f_X7_scanNumber at h
  split at h
  · rename_i hc; exact isOb_iff hc
  · cases h
set_option maxHeartbeats 4000000 in
theorem s_X7_scanNumber {X : XV} {d : Nat} (hd : 2 ≤ d) {x0 : Nat} {M : Mem} {res : Mem} (h : f_X7_scanNumber x0 M = some res) : Mx X d mX7_scanNumber [.ref x0] M none res := by
  obtain ⟨d, rfl⟩ : ∃ e, d = e + 1 := ⟨d - 1, by omega⟩
  unfold f_X7_scanNumber at h
  split at h
  rotate_left
  · cases h
  refine Mx.of (by decide) (Nat.le_of_ble_eq_true rfl) (rfl) ?_
  exact ex_sub (lo' := [(0, .ref x0)]) [0] rfl (t_X7_scanNumber_0 hd _ _ _  h)
noncomputable def f_J1_canEncode_9a6ad_0 (x0 : Int32) : Option (Bool) :=
  if x0 < 0 then
  (some false)
  else
  (if 255 < x0 then
  (some false)
  else
  (some true))
set_option maxHeartbeats 4000000 in
theorem t_J1_canEncode_9a6ad_0 {X : XV} {d : Nat} {M : Mem} (hd : 1 ≤ d + 1) : ∀ (x0 : Int32) (res : Bool), f_J1_canEncode_9a6ad_0  x0 = some res → Ex X (d + 1) mJ1_canEncode_9a6ad 0 [(0, .int x0)] [] M (some (.int (jz res))) M := by
  intro x0 res  h
  unfold f_J1_canEncode_9a6ad_0 at h
  refine ex_iload_n (pc := 0) 0 dJ1_canEncode_9a6ad_0 rfl rfl ?_
  by_cases c1 : x0 < 0
  · rw [if_pos c1] at h
    refine ex_if_lt_t (pc := 1) 15 dJ1_canEncode_9a6ad_1 rfl c1 ?_
    refine ex_iconst (pc := 15) 0 dJ1_canEncode_9a6ad_15 rfl ?_
    cases h
    exact ex_ireturn (pc := 16) dJ1_canEncode_9a6ad_16
  · rw [if_neg c1] at h
    refine ex_if_lt_f (pc := 1) dJ1_canEncode_9a6ad_1 15 rfl c1 ?_
    refine ex_iload_n (pc := 4) 0 dJ1_canEncode_9a6ad_4 rfl rfl ?_
    refine ex_sipush (pc := 5) 255 dJ1_canEncode_9a6ad_5 (by decide) ?_
    by_cases c2 : 255 < x0
    · rw [if_pos c2] at h
      refine ex_icmp_gt_t (pc := 8) 15 dJ1_canEncode_9a6ad_8 rfl c2 ?_
      refine ex_iconst (pc := 15) 0 dJ1_canEncode_9a6ad_15 rfl ?_
      cases h
      exact ex_ireturn (pc := 16) dJ1_canEncode_9a6ad_16
    · rw [if_neg c2] at h
      refine ex_icmp_gt_f (pc := 8) dJ1_canEncode_9a6ad_8 15 rfl c2 ?_
      refine ex_iconst (pc := 11) 1 dJ1_canEncode_9a6ad_11 rfl ?_
      refine ex_goto (pc := 12) 16 dJ1_canEncode_9a6ad_12 rfl ?_
      cases h
      exact ex_ireturn (pc := 16) dJ1_canEncode_9a6ad_16
noncomputable def f_J1_canEncode_9a6ad (x0 : Int32) : Option (Bool) := f_J1_canEncode_9a6ad_0 x0
set_option maxHeartbeats 4000000 in
theorem s_J1_canEncode_9a6ad {X : XV} {d : Nat} (hd : 1 ≤ d) {x0 : Int32} {M : Mem} {res : Bool} (h : f_J1_canEncode_9a6ad x0 = some res) : Mx X d mJ1_canEncode_9a6ad [.int x0] M (some (.int (jz res))) M := by
  obtain ⟨d, rfl⟩ : ∃ e, d = e + 1 := ⟨d - 1, by omega⟩
  unfold f_J1_canEncode_9a6ad at h
  refine Mx.of (by decide) (Nat.le_of_ble_eq_true rfl) (⟨_, rfl, jz_nar _⟩) ?_
  exact ex_sub (lo' := [(0, .int x0)]) [0] rfl (t_J1_canEncode_9a6ad_0 hd _ _  h)
noncomputable def f_J1_indexOfChar_4cfef_7 (n0 : Nat) (x0 : Nat) (x3 : Int32) (x4 : Int32) (x5 : Int32) : Option (Int32) :=
  match n0 with
  | 0 => none
  | n + 1 =>
    if x3 ≤ x5 then
    (some (-1))
    else
    ((sbR x0 x5).bind fun v2 =>
    if v2 = x4 then
    (some x5)
    else
    (f_J1_indexOfChar_4cfef_7 n x0 x3 x4 (x5 + 1)))
set_option maxHeartbeats 4000000 in
theorem t_J1_indexOfChar_4cfef_7 {X : XV} {d : Nat} {M : Mem} (hd : 1 ≤ d + 1) : ∀ (n : Nat) (x0 : Nat) (x3 : Int32) (x4 : Int32) (x5 : Int32) (res : Int32), x0 < 2 → f_J1_indexOfChar_4cfef_7 n  x0 x3 x4 x5 = some res → Ex X (d + 1) mJ1_indexOfChar_4cfef 7 [(0, .ref (X.2.2.2 (4 + x0))), (3, .int x3), (4, .int x4), (5, .int x5)] [] M (some (.int res)) M := by
  intro n
  induction n with
  | zero =>
    intro x0 x3 x4 x5 res hq0 h
    unfold f_J1_indexOfChar_4cfef_7 at h
    cases h
  | succ n ih =>
    intro x0 x3 x4 x5 res hq0 h
    unfold f_J1_indexOfChar_4cfef_7 at h
    refine ex_iload (pc := 7) 3 dJ1_indexOfChar_4cfef_7 rfl ?_
    refine ex_iload_n (pc := 9) 1 dJ1_indexOfChar_4cfef_9 rfl rfl ?_
    by_cases c1 : x3 ≤ x5
    · rw [if_pos c1] at h
      refine ex_icmp_ge_t (pc := 10) 31 dJ1_indexOfChar_4cfef_10 rfl c1 ?_
      refine ex_iconst (pc := 31) (-1) dJ1_indexOfChar_4cfef_31 rfl ?_
      cases h
      exact ex_ireturn (pc := 32) dJ1_indexOfChar_4cfef_32
    · rw [if_neg c1] at h
      refine ex_icmp_ge_f (pc := 10) dJ1_indexOfChar_4cfef_10 31 rfl c1 ?_
      refine ex_aload_n (pc := 13) 0 dJ1_indexOfChar_4cfef_13 rfl rfl ?_
      refine ex_iload (pc := 14) 3 dJ1_indexOfChar_4cfef_14 rfl ?_
      obtain ⟨v2, ev2, h⟩ := ob_some h
      refine ex_sbR (pc := 16) hq0 ev2 dJ1_indexOfChar_4cfef_16 ?_
      refine ex_iload (pc := 17) 2 dJ1_indexOfChar_4cfef_17 rfl ?_
      by_cases c3 : v2 = x4
      · rw [if_pos c3] at h
        refine ex_icmp_ne_f (pc := 19) dJ1_indexOfChar_4cfef_19 25 rfl c3 ?_
        refine ex_iload (pc := 22) 3 dJ1_indexOfChar_4cfef_22 rfl ?_
        cases h
        exact ex_ireturn (pc := 24) dJ1_indexOfChar_4cfef_24
      · rw [if_neg c3] at h
        refine ex_icmp_ne_t (pc := 19) 25 dJ1_indexOfChar_4cfef_19 rfl c3 ?_
        refine ex_iinc (pc := 25) (x5 + 1) 3 [(5, .int (x5 + 1)), (0, .ref (X.2.2.2 (4 + x0))), (3, .int x3), (4, .int x4)] dJ1_indexOfChar_4cfef_25 rfl rfl (by decide) rfl ?_
        refine ex_goto (pc := 28) 7 dJ1_indexOfChar_4cfef_28 rfl ?_
        refine ex_sub (lo' := [(0, .ref (X.2.2.2 (4 + x0))), (3, .int x3), (4, .int x4), (5, .int (x5 + 1))]) [1, 2, 3, 0] rfl ?_
        exact ih _ _ _ _ _ hq0 h
noncomputable def f_J1_indexOfChar_4cfef_0 (x0 : Nat) (x1 : Int32) (x2 : Int32) (x3 : Int32) : Option (Int32) :=
  f_J1_indexOfChar_4cfef_7 fu x0 x3 ((Int32.toInt8 x1).toInt32) x2
set_option maxHeartbeats 4000000 in
theorem t_J1_indexOfChar_4cfef_0 {X : XV} {d : Nat} {M : Mem} (hd : 1 ≤ d + 1) : ∀ (x0 : Nat) (x1 : Int32) (x2 : Int32) (x3 : Int32) (res : Int32), x0 < 2 → f_J1_indexOfChar_4cfef_0  x0 x1 x2 x3 = some res → Ex X (d + 1) mJ1_indexOfChar_4cfef 0 [(0, .ref (X.2.2.2 (4 + x0))), (1, .int x1), (2, .int x2), (3, .int x3)] [] M (some (.int res)) M := by
  intro x0 x1 x2 x3 res hq0 h
  unfold f_J1_indexOfChar_4cfef_0 at h
  refine ex_iload_n (pc := 0) 1 dJ1_indexOfChar_4cfef_0 rfl rfl ?_
  refine ex_i2b (pc := 1) dJ1_indexOfChar_4cfef_1 ?_
  refine ex_istore (pc := 2) [(4, .int ((Int32.toInt8 x1).toInt32)), (0, .ref (X.2.2.2 (4 + x0))), (1, .int x1), (2, .int x2), (3, .int x3)] dJ1_indexOfChar_4cfef_2 (by decide) rfl ?_
  refine ex_iload_n (pc := 4) 3 dJ1_indexOfChar_4cfef_4 rfl rfl ?_
  refine ex_istore (pc := 5) [(5, .int x2), (4, .int ((Int32.toInt8 x1).toInt32)), (0, .ref (X.2.2.2 (4 + x0))), (1, .int x1), (2, .int x2), (3, .int x3)] dJ1_indexOfChar_4cfef_5 (by decide) rfl ?_
  refine ex_sub (lo' := [(0, .ref (X.2.2.2 (4 + x0))), (3, .int x3), (4, .int ((Int32.toInt8 x1).toInt32)), (5, .int x2)]) [2, 5, 1, 0] rfl ?_
  exact t_J1_indexOfChar_4cfef_7 hd  _ _ _ _ _ _ hq0 h
noncomputable def f_J1_indexOfChar_4cfef (x0 : Nat) (x1 : Int32) (x2 : Int32) (x3 : Int32) : Option (Int32) := f_J1_indexOfChar_4cfef_0 x0 x1 x2 x3
set_option maxHeartbeats 4000000 in
theorem s_J1_indexOfChar_4cfef {X : XV} {d : Nat} (hd : 1 ≤ d) {x0 : Nat} {x1 : Int32} {x2 : Int32} {x3 : Int32} {M : Mem} (hq0 : x0 < 2) {res : Int32} (h : f_J1_indexOfChar_4cfef x0 x1 x2 x3 = some res) : Mx X d mJ1_indexOfChar_4cfef [.ref (X.2.2.2 (4 + x0)), .int x1, .int x2, .int x3] M (some (.int res)) M := by
  obtain ⟨d, rfl⟩ : ∃ e, d = e + 1 := ⟨d - 1, by omega⟩
  unfold f_J1_indexOfChar_4cfef at h
  refine Mx.of (by decide) (Nat.le_of_ble_eq_true rfl) (⟨_, rfl, rfl⟩) ?_
  exact ex_sub (lo' := [(0, .ref (X.2.2.2 (4 + x0))), (1, .int x1), (2, .int x2), (3, .int x3)]) [0, 1, 2, 3] rfl (t_J1_indexOfChar_4cfef_0 hd _ _ _ _ _ hq0 h)
noncomputable def f_J1_indexOf_4cfef_0 (x0 : Nat) (x1 : Int32) (x2 : Int32) (x3 : Int32) : Option (Int32) :=
  (f_J1_canEncode_9a6ad x1).bind fun v1 =>
  if v1 = true then
  (if (jmax x2 0) < (jmin x3 (Int32.ofNat (mx_len.getD x0 0))) then
  ((f_J1_indexOfChar_4cfef x0 x1 (jmax x2 0) (jmin x3 (Int32.ofNat (mx_len.getD x0 0)))).bind fun v4 =>
  some v4)
  else
  (some (-1)))
  else
  (some (-1))
set_option maxHeartbeats 4000000 in
theorem t_J1_indexOf_4cfef_0 {X : XV} {d : Nat} {M : Mem} (hd : 2 ≤ d + 1) : ∀ (x0 : Nat) (x1 : Int32) (x2 : Int32) (x3 : Int32) (res : Int32), x0 < 2 → f_J1_indexOf_4cfef_0  x0 x1 x2 x3 = some res → Ex X (d + 1) mJ1_indexOf_4cfef 0 [(0, .ref (X.2.2.2 (4 + x0))), (1, .int x1), (2, .int x2), (3, .int x3)] [] M (some (.int res)) M := by
  intro x0 x1 x2 x3 res hq0 h
  unfold f_J1_indexOf_4cfef_0 at h
  refine ex_iload_n (pc := 0) 1 dJ1_indexOf_4cfef_0 rfl rfl ?_
  obtain ⟨v1, ev1, h⟩ := ob_some h
  refine ex_callS1r (pc := 1) dJ1_indexOf_4cfef_1 jJ1_canEncode_9a6ad lmJ1_88 jsJ1_canEncode_9a6ad (Nat.le_of_ble_eq_true rfl) (s_J1_canEncode_9a6ad (by omega)  ev1) ?_
  by_cases c2 : v1 = true
  · rw [if_pos c2] at h
    refine ex_if_ne_t (pc := 4) 9 dJ1_indexOf_4cfef_4 rfl (jz_ne_t c2) ?_
    refine ex_iload_n (pc := 9) 2 dJ1_indexOf_4cfef_9 rfl rfl ?_
    refine ex_iconst (pc := 10) 0 dJ1_indexOf_4cfef_10 rfl ?_
    refine ex_mmax (pc := 11) dJ1_indexOf_4cfef_11 lmJ1_92 (by omega) (Nat.le_of_ble_eq_true rfl) ?_
    refine ex_istore_n (pc := 14) [(2, .int (jmax x2 0)), (0, .ref (X.2.2.2 (4 + x0))), (1, .int x1), (3, .int x3)] dJ1_indexOf_4cfef_14 rfl (by decide) rfl ?_
    refine ex_iload_n (pc := 15) 3 dJ1_indexOf_4cfef_15 rfl rfl ?_
    refine ex_aload_n (pc := 16) 1 dJ1_indexOf_4cfef_16 rfl rfl ?_
    refine ex_sbln (pc := 17) dJ1_indexOf_4cfef_17 hq0 ?_
    refine ex_mmin (pc := 18) dJ1_indexOf_4cfef_18 lmJ1_38 (by omega) (Nat.le_of_ble_eq_true rfl) ?_
    refine ex_istore_n (pc := 21) [(3, .int (jmin x3 (Int32.ofNat (mx_len.getD x0 0)))), (2, .int (jmax x2 0)), (0, .ref (X.2.2.2 (4 + x0))), (1, .int x1)] dJ1_indexOf_4cfef_21 rfl (by decide) rfl ?_
    refine ex_iload_n (pc := 22) 1 dJ1_indexOf_4cfef_22 rfl rfl ?_
    refine ex_iload_n (pc := 23) 0 dJ1_indexOf_4cfef_23 rfl rfl ?_
    by_cases c3 : (jmax x2 0) < (jmin x3 (Int32.ofNat (mx_len.getD x0 0)))
    · rw [if_pos c3] at h
      refine ex_icmp_lt_t (pc := 24) 29 dJ1_indexOf_4cfef_24 rfl c3 ?_
      refine ex_aload_n (pc := 29) 2 dJ1_indexOf_4cfef_29 rfl rfl ?_
      refine ex_iload_n (pc := 30) 3 dJ1_indexOf_4cfef_30 rfl rfl ?_
      refine ex_iload_n (pc := 31) 1 dJ1_indexOf_4cfef_31 rfl rfl ?_
      refine ex_iload_n (pc := 32) 0 dJ1_indexOf_4cfef_32 rfl rfl ?_
      obtain ⟨v4, ev4, h⟩ := ob_some h
      refine ex_callS4r (pc := 33) dJ1_indexOf_4cfef_33 jJ1_indexOfChar_4cfef lmJ1_95 jsJ1_indexOfChar_4cfef (Nat.le_of_ble_eq_true rfl) (s_J1_indexOfChar_4cfef (by omega) hq0 ev4) ?_
      cases h
      exact ex_ireturn (pc := 36) dJ1_indexOf_4cfef_36
    · rw [if_neg c3] at h
      refine ex_icmp_lt_f (pc := 24) dJ1_indexOf_4cfef_24 29 rfl c3 ?_
      refine ex_iconst (pc := 27) (-1) dJ1_indexOf_4cfef_27 rfl ?_
      cases h
      exact ex_ireturn (pc := 28) dJ1_indexOf_4cfef_28
  · rw [if_neg c2] at h
    refine ex_if_ne_f (pc := 4) dJ1_indexOf_4cfef_4 9 rfl (jz_ne_f c2) ?_
    refine ex_iconst (pc := 7) (-1) dJ1_indexOf_4cfef_7 rfl ?_
    cases h
    exact ex_ireturn (pc := 8) dJ1_indexOf_4cfef_8
noncomputable def f_J1_indexOf_4cfef (x0 : Nat) (x1 : Int32) (x2 : Int32) (x3 : Int32) : Option (Int32) := f_J1_indexOf_4cfef_0 x0 x1 x2 x3
set_option maxHeartbeats 4000000 in
theorem s_J1_indexOf_4cfef {X : XV} {d : Nat} (hd : 2 ≤ d) {x0 : Nat} {x1 : Int32} {x2 : Int32} {x3 : Int32} {M : Mem} (hq0 : x0 < 2) {res : Int32} (h : f_J1_indexOf_4cfef x0 x1 x2 x3 = some res) : Mx X d mJ1_indexOf_4cfef [.ref (X.2.2.2 (4 + x0)), .int x1, .int x2, .int x3] M (some (.int res)) M := by
  obtain ⟨d, rfl⟩ : ∃ e, d = e + 1 := ⟨d - 1, by omega⟩
  unfold f_J1_indexOf_4cfef at h
  refine Mx.of (by decide) (Nat.le_of_ble_eq_true rfl) (⟨_, rfl, rfl⟩) ?_
  exact ex_sub (lo' := [(0, .ref (X.2.2.2 (4 + x0))), (1, .int x1), (2, .int x2), (3, .int x3)]) [0, 1, 2, 3] rfl (t_J1_indexOf_4cfef_0 hd _ _ _ _ _ hq0 h)
noncomputable def f_J0_indexOf_7cf53_0 (x0 : Nat) (x1 : Int32) (x2 : Int32) : Option (Int32) :=
  (f_J0_isLatin1_aae02 x0).bind fun v1 =>
  if v1 = false then
  (none)
  else
  ((f_J0_length_8abf5 x0).bind fun v3 =>
  (f_J1_indexOf_4cfef x0 x1 x2 v3).bind fun v4 =>
  some v4)
set_option maxHeartbeats 4000000 in
theorem t_J0_indexOf_7cf53_0 {X : XV} {d : Nat} {M : Mem} (hd : 3 ≤ d + 1) : ∀ (x0 : Nat) (x1 : Int32) (x2 : Int32) (res : Int32), x0 < 2 → f_J0_indexOf_7cf53_0  x0 x1 x2 = some res → Ex X (d + 1) mJ0_indexOf_7cf53 0 [(0, .ref (X.2.2.2 (2 + x0))), (1, .int x1), (2, .int x2)] [] M (some (.int res)) M := by
  intro x0 x1 x2 res hq0 h
  unfold f_J0_indexOf_7cf53_0 at h
  refine ex_aload_n (pc := 0) 0 dJ0_indexOf_7cf53_0 rfl rfl ?_
  obtain ⟨v1, ev1, h⟩ := ob_some h
  refine ex_callVS0r (pc := 1) dJ0_indexOf_7cf53_1 jJ0_isLatin1_aae02 lmJ0_492 jiJ0_isLatin1_aae02 jvJ0_isLatin1_aae02 hq0 (Nat.le_of_ble_eq_true rfl) (s_J0_isLatin1_aae02 (by omega) hq0 ev1) ?_
  by_cases c2 : v1 = false
  · rw [if_pos c2] at h
    refine ex_if_eq_t (pc := 4) 23 dJ0_indexOf_7cf53_4 rfl (jz_eq_t c2) ?_
    cases h
  · rw [if_neg c2] at h
    refine ex_if_eq_f (pc := 4) dJ0_indexOf_7cf53_4 23 rfl (jz_eq_f c2) ?_
    refine ex_aload_n (pc := 7) 0 dJ0_indexOf_7cf53_7 rfl rfl ?_
    refine ex_sval (pc := 8) dJ0_indexOf_7cf53_8 hq0 lsJ0_9 ?_
    refine ex_iload_n (pc := 11) 1 dJ0_indexOf_7cf53_11 rfl rfl ?_
    refine ex_iload_n (pc := 12) 2 dJ0_indexOf_7cf53_12 rfl rfl ?_
    refine ex_aload_n (pc := 13) 0 dJ0_indexOf_7cf53_13 rfl rfl ?_
    obtain ⟨v3, ev3, h⟩ := ob_some h
    refine ex_callVS0r (pc := 14) dJ0_indexOf_7cf53_14 jJ0_length_8abf5 lmJ0_505 jiJ0_length_8abf5 jvJ0_length_8abf5 hq0 (Nat.le_of_ble_eq_true rfl) (s_J0_length_8abf5 (by omega) hq0 ev3) ?_
    obtain ⟨v4, ev4, h⟩ := ob_some h
    refine ex_callS4r (pc := 17) dJ0_indexOf_7cf53_17 jJ1_indexOf_4cfef lmJ0_637 jsJ1_indexOf_4cfef (Nat.le_of_ble_eq_true rfl) (s_J1_indexOf_4cfef (by omega) hq0 ev4) ?_
    refine ex_goto (pc := 20) 36 dJ0_indexOf_7cf53_20 rfl ?_
    cases h
    exact ex_ireturn (pc := 36) dJ0_indexOf_7cf53_36
noncomputable def f_J0_indexOf_7cf53 (x0 : Nat) (x1 : Int32) (x2 : Int32) : Option (Int32) := f_J0_indexOf_7cf53_0 x0 x1 x2
set_option maxHeartbeats 4000000 in
theorem s_J0_indexOf_7cf53 {X : XV} {d : Nat} (hd : 3 ≤ d) {x0 : Nat} {x1 : Int32} {x2 : Int32} {M : Mem} (hq0 : x0 < 2) {res : Int32} (h : f_J0_indexOf_7cf53 x0 x1 x2 = some res) : Mx X d mJ0_indexOf_7cf53 [.ref (X.2.2.2 (2 + x0)), .int x1, .int x2] M (some (.int res)) M := by
  obtain ⟨d, rfl⟩ : ∃ e, d = e + 1 := ⟨d - 1, by omega⟩
  unfold f_J0_indexOf_7cf53 at h
  refine Mx.of (by decide) (Nat.le_of_ble_eq_true rfl) (⟨_, rfl, rfl⟩) ?_
  exact ex_sub (lo' := [(0, .ref (X.2.2.2 (2 + x0))), (1, .int x1), (2, .int x2)]) [0, 1, 2] rfl (t_J0_indexOf_7cf53_0 hd _ _ _ _ hq0 h)
noncomputable def f_J0_indexOf_0f7a4_0 (x0 : Nat) (x1 : Int32) : Option (Int32) :=
  (f_J0_indexOf_7cf53 x0 x1 0).bind fun v1 =>
  some v1
set_option maxHeartbeats 4000000 in
theorem t_J0_indexOf_0f7a4_0 {X : XV} {d : Nat} {M : Mem} (hd : 4 ≤ d + 1) : ∀ (x0 : Nat) (x1 : Int32) (res : Int32), x0 < 2 → f_J0_indexOf_0f7a4_0  x0 x1 = some res → Ex X (d + 1) mJ0_indexOf_0f7a4 0 [(0, .ref (X.2.2.2 (2 + x0))), (1, .int x1)] [] M (some (.int res)) M := by
  intro x0 x1 res hq0 h
  unfold f_J0_indexOf_0f7a4_0 at h
  refine ex_aload_n (pc := 0) 0 dJ0_indexOf_0f7a4_0 rfl rfl ?_
  refine ex_iload_n (pc := 1) 1 dJ0_indexOf_0f7a4_1 rfl rfl ?_
  refine ex_iconst (pc := 2) 0 dJ0_indexOf_0f7a4_2 rfl ?_
  obtain ⟨v1, ev1, h⟩ := ob_some h
  refine ex_callVS2r (pc := 3) dJ0_indexOf_0f7a4_3 jJ0_indexOf_7cf53 lmJ0_633 jiJ0_indexOf_7cf53 jvJ0_indexOf_7cf53 hq0 (Nat.le_of_ble_eq_true rfl) (s_J0_indexOf_7cf53 (by omega) hq0 ev1) ?_
  cases h
  exact ex_ireturn (pc := 6) dJ0_indexOf_0f7a4_6
noncomputable def f_J0_indexOf_0f7a4 (x0 : Nat) (x1 : Int32) : Option (Int32) := f_J0_indexOf_0f7a4_0 x0 x1
set_option maxHeartbeats 4000000 in
theorem s_J0_indexOf_0f7a4 {X : XV} {d : Nat} (hd : 4 ≤ d) {x0 : Nat} {x1 : Int32} {M : Mem} (hq0 : x0 < 2) {res : Int32} (h : f_J0_indexOf_0f7a4 x0 x1 = some res) : Mx X d mJ0_indexOf_0f7a4 [.ref (X.2.2.2 (2 + x0)), .int x1] M (some (.int res)) M := by
  obtain ⟨d, rfl⟩ : ∃ e, d = e + 1 := ⟨d - 1, by omega⟩
  unfold f_J0_indexOf_0f7a4 at h
  refine Mx.of (by decide) (Nat.le_of_ble_eq_true rfl) (⟨_, rfl, rfl⟩) ?_
  exact ex_sub (lo' := [(0, .ref (X.2.2.2 (2 + x0))), (1, .int x1)]) [0, 1] rfl (t_J0_indexOf_0f7a4_0 hd _ _ _ hq0 h)
noncomputable def f_X7_scanSymbol_83 (x0 : Nat) (s0 : Int32) (s1 : Nat) (M : Mem) : Option (Mem) :=
  (pF M 7 s1 2 (.int s0)).bind fun q1 =>
  (gI q1 7 x0 5).bind fun v2 =>
  (pF q1 7 x0 5 (.int (v2 + 1))).bind fun q3 =>
  some q3
set_option maxHeartbeats 4000000 in
theorem t_X7_scanSymbol_83 {X : XV} {d : Nat} (hd : 5 ≤ d + 1) : ∀ (x0 : Nat) (s0 : Int32) (s1 : Nat) (M : Mem) (res : Mem), f_X7_scanSymbol_83  x0 s0 s1 M = some res → Ex X (d + 1) mX7_scanSymbol 83 [(0, .ref x0)] [.int s0, .ref s1] M none res := by
  intro x0 s0 s1 M res  h
  unfold f_X7_scanSymbol_83 at h
  obtain ⟨q1, eq1, h⟩ := ob_some h
  refine ex_pF (pc := 83) eq1 dX7_scanSymbol_83 lfX7_36 rfl rfl (fun _ hq => by cases hq; rfl) ?_
  refine ex_aload_n (pc := 86) 0 dX7_scanSymbol_86 rfl rfl ?_
  refine ex_dup (pc := 87) dX7_scanSymbol_87 rfl ?_
  obtain ⟨v2, ev2, h⟩ := ob_some h
  refine ex_gI (pc := 88) ev2 dX7_scanSymbol_88 lfX7_23 ?_
  refine ex_iconst (pc := 91) 1 dX7_scanSymbol_91 rfl ?_
  refine ex_iadd (pc := 92) dX7_scanSymbol_92 ?_
  obtain ⟨q3, eq3, h⟩ := ob_some h
  refine ex_pF (pc := 93) eq3 dX7_scanSymbol_93 lfX7_23 rfl rfl (fun _ hq => by cases hq; rfl) ?_
  cases h
  exact ex_return (pc := 96) dX7_scanSymbol_96
noncomputable def f_X7_scanSymbol_42 (x0 : Nat) (M : Mem) : Option (Mem) :=
  (gI M 7 x0 5).bind fun v4 =>
  (gI M 7 x0 1).bind fun v5 =>
  if v5 ≤ v4 then
  (some M)
  else
  ((gI M 7 x0 5).bind fun v7 =>
  (f_X7_byteAt x0 v7 M).bind fun v8 =>
  if v8 = 61 then
  ((gI M 7 x0 2).bind fun v10 =>
  if v10 = 28 then
  (f_X7_scanSymbol_83 x0 39 x0 M)
  else
  (f_X7_scanSymbol_83 x0 40 x0 M))
  else
  (some M))
set_option maxHeartbeats 4000000 in
theorem t_X7_scanSymbol_42 {X : XV} {d : Nat} (hd : 5 ≤ d + 1) : ∀ (x0 : Nat) (M : Mem) (res : Mem), f_X7_scanSymbol_42  x0 M = some res → Ex X (d + 1) mX7_scanSymbol 42 [(0, .ref x0)] [] M none res := by
  intro x0 M res  h
  unfold f_X7_scanSymbol_42 at h
  refine ex_aload_n (pc := 42) 0 dX7_scanSymbol_42 rfl rfl ?_
  obtain ⟨v4, ev4, h⟩ := ob_some h
  refine ex_gI (pc := 43) ev4 dX7_scanSymbol_43 lfX7_23 ?_
  refine ex_aload_n (pc := 46) 0 dX7_scanSymbol_46 rfl rfl ?_
  obtain ⟨v5, ev5, h⟩ := ob_some h
  refine ex_gI (pc := 47) ev5 dX7_scanSymbol_47 lfX7_15 ?_
  by_cases c6 : v5 ≤ v4
  · rw [if_pos c6] at h
    refine ex_icmp_ge_t (pc := 50) 96 dX7_scanSymbol_50 rfl c6 ?_
    cases h
    exact ex_return (pc := 96) dX7_scanSymbol_96
  · rw [if_neg c6] at h
    refine ex_icmp_ge_f (pc := 50) dX7_scanSymbol_50 96 rfl c6 ?_
    refine ex_aload_n (pc := 53) 0 dX7_scanSymbol_53 rfl rfl ?_
    refine ex_aload_n (pc := 54) 0 dX7_scanSymbol_54 rfl rfl ?_
    obtain ⟨v7, ev7, h⟩ := ob_some h
    refine ex_gI (pc := 55) ev7 dX7_scanSymbol_55 lfX7_23 ?_
    obtain ⟨v8, ev8, h⟩ := ob_some h
    refine ex_callV1r (pc := 58) dX7_scanSymbol_58 jX7_byteAt lmX7_32 jiX7_byteAt jvX7_byteAt (o_X7_byteAt ev8) rfl (Nat.le_of_ble_eq_true rfl) (s_X7_byteAt (by omega)  ev8) ?_
    refine ex_bipush (pc := 61) 61 dX7_scanSymbol_61 (by decide) ?_
    by_cases c9 : v8 = 61
    · rw [if_pos c9] at h
      refine ex_icmp_ne_f (pc := 63) dX7_scanSymbol_63 96 rfl c9 ?_
      refine ex_aload_n (pc := 66) 0 dX7_scanSymbol_66 rfl rfl ?_
      refine ex_aload_n (pc := 67) 0 dX7_scanSymbol_67 rfl rfl ?_
      obtain ⟨v10, ev10, h⟩ := ob_some h
      refine ex_gI (pc := 68) ev10 dX7_scanSymbol_68 lfX7_36 ?_
      refine ex_bipush (pc := 71) 28 dX7_scanSymbol_71 (by decide) ?_
      by_cases c11 : v10 = 28
      · rw [if_pos c11] at h
        refine ex_icmp_ne_f (pc := 73) dX7_scanSymbol_73 81 rfl c11 ?_
        refine ex_bipush (pc := 76) 39 dX7_scanSymbol_76 (by decide) ?_
        refine ex_goto (pc := 78) 83 dX7_scanSymbol_78 rfl ?_
        refine ex_sub (lo' := [(0, .ref x0)]) [0] rfl ?_
        exact t_X7_scanSymbol_83 hd  _ _ _ _ _  h
      · rw [if_neg c11] at h
        refine ex_icmp_ne_t (pc := 73) 81 dX7_scanSymbol_73 rfl c11 ?_
        refine ex_bipush (pc := 81) 40 dX7_scanSymbol_81 (by decide) ?_
        refine ex_sub (lo' := [(0, .ref x0)]) [0] rfl ?_
        exact t_X7_scanSymbol_83 hd  _ _ _ _ _  h
    · rw [if_neg c9] at h
      refine ex_icmp_ne_t (pc := 63) 96 dX7_scanSymbol_63 rfl c9 ?_
      cases h
      exact ex_return (pc := 96) dX7_scanSymbol_96
noncomputable def f_X7_scanSymbol_21 (x0 : Nat) (s0 : Int32) (s1 : Nat) (M : Mem) : Option (Mem) :=
  (pF M 7 s1 2 (.int s0)).bind fun q12 =>
  (gI q12 7 x0 2).bind fun v13 =>
  if v13 = 28 then
  (f_X7_scanSymbol_42 x0 q12)
  else
  ((gI q12 7 x0 2).bind fun v15 =>
  if v15 = 29 then
  (f_X7_scanSymbol_42 x0 q12)
  else
  (some q12))
set_option maxHeartbeats 4000000 in
theorem t_X7_scanSymbol_21 {X : XV} {d : Nat} (hd : 5 ≤ d + 1) : ∀ (x0 : Nat) (s0 : Int32) (s1 : Nat) (M : Mem) (res : Mem), f_X7_scanSymbol_21  x0 s0 s1 M = some res → Ex X (d + 1) mX7_scanSymbol 21 [(0, .ref x0)] [.int s0, .ref s1] M none res := by
  intro x0 s0 s1 M res  h
  unfold f_X7_scanSymbol_21 at h
  obtain ⟨q12, eq12, h⟩ := ob_some h
  refine ex_pF (pc := 21) eq12 dX7_scanSymbol_21 lfX7_36 rfl rfl (fun _ hq => by cases hq; rfl) ?_
  refine ex_aload_n (pc := 24) 0 dX7_scanSymbol_24 rfl rfl ?_
  obtain ⟨v13, ev13, h⟩ := ob_some h
  refine ex_gI (pc := 25) ev13 dX7_scanSymbol_25 lfX7_36 ?_
  refine ex_bipush (pc := 28) 28 dX7_scanSymbol_28 (by decide) ?_
  by_cases c14 : v13 = 28
  · rw [if_pos c14] at h
    refine ex_icmp_eq_t (pc := 30) 42 dX7_scanSymbol_30 rfl c14 ?_
    refine ex_sub (lo' := [(0, .ref x0)]) [0] rfl ?_
    exact t_X7_scanSymbol_42 hd  _ _ _  h
  · rw [if_neg c14] at h
    refine ex_icmp_eq_f (pc := 30) dX7_scanSymbol_30 42 rfl c14 ?_
    refine ex_aload_n (pc := 33) 0 dX7_scanSymbol_33 rfl rfl ?_
    obtain ⟨v15, ev15, h⟩ := ob_some h
    refine ex_gI (pc := 34) ev15 dX7_scanSymbol_34 lfX7_36 ?_
    refine ex_bipush (pc := 37) 29 dX7_scanSymbol_37 (by decide) ?_
    by_cases c16 : v15 = 29
    · rw [if_pos c16] at h
      refine ex_icmp_ne_f (pc := 39) dX7_scanSymbol_39 96 rfl c16 ?_
      refine ex_sub (lo' := [(0, .ref x0)]) [0] rfl ?_
      exact t_X7_scanSymbol_42 hd  _ _ _  h
    · rw [if_neg c16] at h
      refine ex_icmp_ne_t (pc := 39) 96 dX7_scanSymbol_39 rfl c16 ?_
      cases h
      exact ex_return (pc := 96) dX7_scanSymbol_96
noncomputable def f_X7_scanSymbol_0 (x0 : Nat) (x1 : Int32) (M : Mem) : Option (Mem) :=
  (f_J0_indexOf_0f7a4 1 x1).bind fun v17 =>
  if 0 ≤ v17 then
  (f_X7_scanSymbol_21 x0 (28 + v17) x0 M)
  else
  (f_X7_scanSymbol_21 x0 42 x0 M)
set_option maxHeartbeats 4000000 in
theorem t_X7_scanSymbol_0 {X : XV} {d : Nat} (hd : 5 ≤ d + 1) : ∀ (x0 : Nat) (x1 : Int32) (M : Mem) (res : Mem), f_X7_scanSymbol_0  x0 x1 M = some res → Ex X (d + 1) mX7_scanSymbol 0 [(0, .ref x0), (1, .int x1)] [] M none res := by
  intro x0 x1 M res  h
  unfold f_X7_scanSymbol_0 at h
  refine ex_ldcS (pc := 0) (q := 1) dX7_scanSymbol_0 rfl (by decide) ?_
  refine ex_iload_n (pc := 2) 1 dX7_scanSymbol_2 rfl rfl ?_
  obtain ⟨v17, ev17, h⟩ := ob_some h
  refine ex_callVS1r (pc := 3) dX7_scanSymbol_3 jJ0_indexOf_0f7a4 lmX7_78 jiJ0_indexOf_0f7a4 jvJ0_indexOf_0f7a4 (by decide) (Nat.le_of_ble_eq_true rfl) (s_J0_indexOf_0f7a4 (by omega) (by decide) ev17) ?_
  refine ex_istore_n (pc := 6) [(2, .int v17), (0, .ref x0), (1, .int x1)] dX7_scanSymbol_6 rfl (by decide) rfl ?_
  refine ex_aload_n (pc := 7) 1 dX7_scanSymbol_7 rfl rfl ?_
  refine ex_iload_n (pc := 8) 0 dX7_scanSymbol_8 rfl rfl ?_
  by_cases c18 : 0 ≤ v17
  · rw [if_pos c18] at h
    refine ex_if_ge_t (pc := 9) 17 dX7_scanSymbol_9 rfl c18 ?_
    refine ex_bipush (pc := 17) 28 dX7_scanSymbol_17 (by decide) ?_
    refine ex_iload_n (pc := 19) 0 dX7_scanSymbol_19 rfl rfl ?_
    refine ex_iadd (pc := 20) dX7_scanSymbol_20 ?_
    refine ex_sub (lo' := [(0, .ref x0)]) [1] rfl ?_
    exact t_X7_scanSymbol_21 hd  _ _ _ _ _  h
  · rw [if_neg c18] at h
    refine ex_if_ge_f (pc := 9) dX7_scanSymbol_9 17 rfl c18 ?_
    refine ex_bipush (pc := 12) 42 dX7_scanSymbol_12 (by decide) ?_
    refine ex_goto (pc := 14) 21 dX7_scanSymbol_14 rfl ?_
    refine ex_sub (lo' := [(0, .ref x0)]) [1] rfl ?_
    exact t_X7_scanSymbol_21 hd  _ _ _ _ _  h
noncomputable def f_X7_scanSymbol (x0 : Nat) (x1 : Int32) (M : Mem) : Option (Mem) := if isOb M 7 x0 = true then f_X7_scanSymbol_0 x0 x1 M else none
theorem o_X7_scanSymbol {x0 : Nat} {x1 : Int32} {M : Mem} {res : Mem} (h : f_X7_scanSymbol x0 x1 M = some res) : isO M 7 x0 := by
  unfold f_X7_scanSymbol at h
  split at h
  · rename_i hc; exact isOb_iff hc
  · cases h
set_option maxHeartbeats 4000000 in
theorem s_X7_scanSymbol {X : XV} {d : Nat} (hd : 5 ≤ d) {x0 : Nat} {x1 : Int32} {M : Mem} {res : Mem} (h : f_X7_scanSymbol x0 x1 M = some res) : Mx X d mX7_scanSymbol [.ref x0, .int x1] M none res := by
  obtain ⟨d, rfl⟩ : ∃ e, d = e + 1 := ⟨d - 1, by omega⟩
  unfold f_X7_scanSymbol at h
  split at h
  rotate_left
  · cases h
  refine Mx.of (by decide) (Nat.le_of_ble_eq_true rfl) (rfl) ?_
  exact ex_sub (lo' := [(0, .ref x0), (1, .int x1)]) [0, 1] rfl (t_X7_scanSymbol_0 hd _ _ _ _  h)
noncomputable def f_X7_advance_45 (k8 : Nat → Mem → Option (Mem)) (x0 : Nat) (M : Mem) : Option (Mem) :=
  (gI M 7 x0 4).bind fun v1 =>
  (pF M 7 x0 4 (.int (v1 + 1))).bind fun q2 =>
  k8 x0 q2
set_option maxHeartbeats 4000000 in
theorem t_X7_advance_45 {X : XV} {d : Nat} (hd : 6 ≤ d + 1) {k8 : Nat → Mem → Option (Mem)} (hk8 : ∀ (x0 : Nat) (M : Mem) (res : Mem), k8 x0 M = some res → Ex X (d + 1) mX7_advance 8 [(0, .ref x0)] [] M none res) : ∀ (x0 : Nat) (M : Mem) (res : Mem), f_X7_advance_45 k8 x0 M = some res → Ex X (d + 1) mX7_advance 45 [(0, .ref x0)] [] M none res := by
  intro x0 M res  h
  unfold f_X7_advance_45 at h
  refine ex_aload_n (pc := 45) 0 dX7_advance_45 rfl rfl ?_
  refine ex_dup (pc := 46) dX7_advance_46 rfl ?_
  obtain ⟨v1, ev1, h⟩ := ob_some h
  refine ex_gI (pc := 47) ev1 dX7_advance_47 lfX7_29 ?_
  refine ex_iconst (pc := 50) 1 dX7_advance_50 rfl ?_
  refine ex_iadd (pc := 51) dX7_advance_51 ?_
  obtain ⟨q2, eq2, h⟩ := ob_some h
  refine ex_pF (pc := 52) eq2 dX7_advance_52 lfX7_29 rfl rfl (fun _ hq => by cases hq; rfl) ?_
  refine ex_goto (pc := 55) 8 dX7_advance_55 rfl ?_
  refine ex_sub (lo' := [(0, .ref x0)]) [0] rfl ?_
  exact hk8 _ _ _  h
noncomputable def f_X7_advance_58 (x0 : Nat) (M : Mem) : Option (Mem) :=
  (gI M 7 x0 4).bind fun v3 =>
  (pF M 7 x0 5 (.int (v3 + 1))).bind fun q4 =>
  (gI q4 7 x0 4).bind fun v5 =>
  (f_X7_byteAt x0 v5 q4).bind fun v6 =>
  (gI q4 7 x0 4).bind fun v7 =>
  (gI q4 7 x0 1).bind fun v8 =>
  if v7 < v8 then
  ((f_X7_isLetter v6).bind fun v10 =>
  if v10 = false then
  ((f_X7_isDigit v6).bind fun v12 =>
  if v12 = false then
  ((f_X7_scanSymbol x0 ((Int32.toUInt32 v6 % 65536).toInt32) q4).bind fun q14 =>
  some q14)
  else
  ((f_X7_scanNumber x0 q4).bind fun q15 =>
  some q15))
  else
  ((f_X7_scanWord x0 q4).bind fun q16 =>
  some q16))
  else
  ((gI q4 7 x0 1).bind fun v17 =>
  (pF q4 7 x0 5 (.int v17)).bind fun q18 =>
  (pF q18 7 x0 2 (.int 41)).bind fun q19 =>
  some q19)
set_option maxHeartbeats 4000000 in
theorem t_X7_advance_58 {X : XV} {d : Nat} (hd : 6 ≤ d + 1) : ∀ (x0 : Nat) (M : Mem) (res : Mem), f_X7_advance_58  x0 M = some res → Ex X (d + 1) mX7_advance 58 [(0, .ref x0)] [] M none res := by
  intro x0 M res  h
  unfold f_X7_advance_58 at h
  refine ex_aload_n (pc := 58) 0 dX7_advance_58 rfl rfl ?_
  refine ex_aload_n (pc := 59) 0 dX7_advance_59 rfl rfl ?_
  obtain ⟨v3, ev3, h⟩ := ob_some h
  refine ex_gI (pc := 60) ev3 dX7_advance_60 lfX7_29 ?_
  refine ex_iconst (pc := 63) 1 dX7_advance_63 rfl ?_
  refine ex_iadd (pc := 64) dX7_advance_64 ?_
  obtain ⟨q4, eq4, h⟩ := ob_some h
  refine ex_pF (pc := 65) eq4 dX7_advance_65 lfX7_23 rfl rfl (fun _ hq => by cases hq; rfl) ?_
  refine ex_aload_n (pc := 68) 0 dX7_advance_68 rfl rfl ?_
  refine ex_aload_n (pc := 69) 0 dX7_advance_69 rfl rfl ?_
  obtain ⟨v5, ev5, h⟩ := ob_some h
  refine ex_gI (pc := 70) ev5 dX7_advance_70 lfX7_29 ?_
  obtain ⟨v6, ev6, h⟩ := ob_some h
  refine ex_callV1r (pc := 73) dX7_advance_73 jX7_byteAt lmX7_32 jiX7_byteAt jvX7_byteAt (o_X7_byteAt ev6) rfl (Nat.le_of_ble_eq_true rfl) (s_X7_byteAt (by omega)  ev6) ?_
  refine ex_istore_n (pc := 76) [(1, .int v6), (0, .ref x0)] dX7_advance_76 rfl (by decide) rfl ?_
  refine ex_aload_n (pc := 77) 1 dX7_advance_77 rfl rfl ?_
  obtain ⟨v7, ev7, h⟩ := ob_some h
  refine ex_gI (pc := 78) ev7 dX7_advance_78 lfX7_29 ?_
  refine ex_aload_n (pc := 81) 1 dX7_advance_81 rfl rfl ?_
  obtain ⟨v8, ev8, h⟩ := ob_some h
  refine ex_gI (pc := 82) ev8 dX7_advance_82 lfX7_15 ?_
  by_cases c9 : v7 < v8
  · rw [if_pos c9] at h
    refine ex_icmp_lt_t (pc := 85) 105 dX7_advance_85 rfl c9 ?_
    refine ex_iload_n (pc := 105) 0 dX7_advance_105 rfl rfl ?_
    obtain ⟨v10, ev10, h⟩ := ob_some h
    refine ex_callS1r (pc := 106) dX7_advance_106 jX7_isLetter lmX7_39 jsX7_isLetter (Nat.le_of_ble_eq_true rfl) (s_X7_isLetter (by omega)  ev10) ?_
    by_cases c11 : v10 = false
    · rw [if_pos c11] at h
      refine ex_if_eq_t (pc := 109) 119 dX7_advance_109 rfl (jz_eq_t c11) ?_
      refine ex_iload_n (pc := 119) 0 dX7_advance_119 rfl rfl ?_
      obtain ⟨v12, ev12, h⟩ := ob_some h
      refine ex_callS1r (pc := 120) dX7_advance_120 jX7_isDigit lmX7_46 jsX7_isDigit (Nat.le_of_ble_eq_true rfl) (s_X7_isDigit (by omega)  ev12) ?_
      by_cases c13 : v12 = false
      · rw [if_pos c13] at h
        refine ex_if_eq_t (pc := 123) 133 dX7_advance_123 rfl (jz_eq_t c13) ?_
        refine ex_aload_n (pc := 133) 1 dX7_advance_133 rfl rfl ?_
        refine ex_iload_n (pc := 134) 0 dX7_advance_134 rfl rfl ?_
        refine ex_i2c (pc := 135) dX7_advance_135 ?_
        obtain ⟨q14, eq14, h⟩ := ob_some h
        refine ex_callV1v (pc := 136) dX7_advance_136 jX7_scanSymbol lmX7_52 jiX7_scanSymbol jvX7_scanSymbol (o_X7_scanSymbol eq14) rfl (Nat.le_of_ble_eq_true rfl) (s_X7_scanSymbol (by omega)  eq14) ?_
        cases h
        exact ex_return (pc := 139) dX7_advance_139
      · rw [if_neg c13] at h
        refine ex_if_eq_f (pc := 123) dX7_advance_123 133 rfl (jz_eq_f c13) ?_
        refine ex_aload_n (pc := 126) 1 dX7_advance_126 rfl rfl ?_
        obtain ⟨q15, eq15, h⟩ := ob_some h
        refine ex_callV0v (pc := 127) dX7_advance_127 jX7_scanNumber lmX7_49 jiX7_scanNumber jvX7_scanNumber (o_X7_scanNumber eq15) rfl (Nat.le_of_ble_eq_true rfl) (s_X7_scanNumber (by omega)  eq15) ?_
        refine ex_goto (pc := 130) 139 dX7_advance_130 rfl ?_
        cases h
        exact ex_return (pc := 139) dX7_advance_139
    · rw [if_neg c11] at h
      refine ex_if_eq_f (pc := 109) dX7_advance_109 119 rfl (jz_eq_f c11) ?_
      refine ex_aload_n (pc := 112) 1 dX7_advance_112 rfl rfl ?_
      obtain ⟨q16, eq16, h⟩ := ob_some h
      refine ex_callV0v (pc := 113) dX7_advance_113 jX7_scanWord lmX7_43 jiX7_scanWord jvX7_scanWord (o_X7_scanWord eq16) rfl (Nat.le_of_ble_eq_true rfl) (s_X7_scanWord (by omega)  eq16) ?_
      refine ex_goto (pc := 116) 139 dX7_advance_116 rfl ?_
      cases h
      exact ex_return (pc := 139) dX7_advance_139
  · rw [if_neg c9] at h
    refine ex_icmp_lt_f (pc := 85) dX7_advance_85 105 rfl c9 ?_
    refine ex_aload_n (pc := 88) 1 dX7_advance_88 rfl rfl ?_
    refine ex_aload_n (pc := 89) 1 dX7_advance_89 rfl rfl ?_
    obtain ⟨v17, ev17, h⟩ := ob_some h
    refine ex_gI (pc := 90) ev17 dX7_advance_90 lfX7_15 ?_
    obtain ⟨q18, eq18, h⟩ := ob_some h
    refine ex_pF (pc := 93) eq18 dX7_advance_93 lfX7_23 rfl rfl (fun _ hq => by cases hq; rfl) ?_
    refine ex_aload_n (pc := 96) 1 dX7_advance_96 rfl rfl ?_
    refine ex_bipush (pc := 97) 41 dX7_advance_97 (by decide) ?_
    obtain ⟨q19, eq19, h⟩ := ob_some h
    refine ex_pF (pc := 99) eq19 dX7_advance_99 lfX7_36 rfl rfl (fun _ hq => by cases hq; rfl) ?_
    refine ex_goto (pc := 102) 139 dX7_advance_102 rfl ?_
    cases h
    exact ex_return (pc := 139) dX7_advance_139
noncomputable def f_X7_advance_8 (n0 : Nat) (x0 : Nat) (M : Mem) : Option (Mem) :=
  match n0 with
  | 0 => none
  | n + 1 =>
    (gI M 7 x0 4).bind fun v20 =>
    (gI M 7 x0 1).bind fun v21 =>
    if v21 ≤ v20 then
    (f_X7_advance_58 x0 M)
    else
    ((gI M 7 x0 4).bind fun v23 =>
    (f_X7_byteAt x0 v23 M).bind fun v24 =>
    if v24 = 32 then
    (f_X7_advance_45 (f_X7_advance_8 n) x0 M)
    else
    ((gI M 7 x0 4).bind fun v26 =>
    (f_X7_byteAt x0 v26 M).bind fun v27 =>
    if v27 = 10 then
    (f_X7_advance_45 (f_X7_advance_8 n) x0 M)
    else
    (f_X7_advance_58 x0 M)))
set_option maxHeartbeats 4000000 in
theorem t_X7_advance_8 {X : XV} {d : Nat} (hd : 6 ≤ d + 1) : ∀ (n : Nat) (x0 : Nat) (M : Mem) (res : Mem), f_X7_advance_8 n  x0 M = some res → Ex X (d + 1) mX7_advance 8 [(0, .ref x0)] [] M none res := by
  intro n
  induction n with
  | zero =>
    intro x0 M res  h
    unfold f_X7_advance_8 at h
    cases h
  | succ n ih =>
    intro x0 M res  h
    unfold f_X7_advance_8 at h
    refine ex_aload_n (pc := 8) 0 dX7_advance_8 rfl rfl ?_
    obtain ⟨v20, ev20, h⟩ := ob_some h
    refine ex_gI (pc := 9) ev20 dX7_advance_9 lfX7_29 ?_
    refine ex_aload_n (pc := 12) 0 dX7_advance_12 rfl rfl ?_
    obtain ⟨v21, ev21, h⟩ := ob_some h
    refine ex_gI (pc := 13) ev21 dX7_advance_13 lfX7_15 ?_
    by_cases c22 : v21 ≤ v20
    · rw [if_pos c22] at h
      refine ex_icmp_ge_t (pc := 16) 58 dX7_advance_16 rfl c22 ?_
      refine ex_sub (lo' := [(0, .ref x0)]) [0] rfl ?_
      exact t_X7_advance_58 hd  _ _ _  h
    · rw [if_neg c22] at h
      refine ex_icmp_ge_f (pc := 16) dX7_advance_16 58 rfl c22 ?_
      refine ex_aload_n (pc := 19) 0 dX7_advance_19 rfl rfl ?_
      refine ex_aload_n (pc := 20) 0 dX7_advance_20 rfl rfl ?_
      obtain ⟨v23, ev23, h⟩ := ob_some h
      refine ex_gI (pc := 21) ev23 dX7_advance_21 lfX7_29 ?_
      obtain ⟨v24, ev24, h⟩ := ob_some h
      refine ex_callV1r (pc := 24) dX7_advance_24 jX7_byteAt lmX7_32 jiX7_byteAt jvX7_byteAt (o_X7_byteAt ev24) rfl (Nat.le_of_ble_eq_true rfl) (s_X7_byteAt (by omega)  ev24) ?_
      refine ex_bipush (pc := 27) 32 dX7_advance_27 (by decide) ?_
      by_cases c25 : v24 = 32
      · rw [if_pos c25] at h
        refine ex_icmp_eq_t (pc := 29) 45 dX7_advance_29 rfl c25 ?_
        refine ex_sub (lo' := [(0, .ref x0)]) [0] rfl ?_
        exact t_X7_advance_45 hd ih _ _ _  h
      · rw [if_neg c25] at h
        refine ex_icmp_eq_f (pc := 29) dX7_advance_29 45 rfl c25 ?_
        refine ex_aload_n (pc := 32) 0 dX7_advance_32 rfl rfl ?_
        refine ex_aload_n (pc := 33) 0 dX7_advance_33 rfl rfl ?_
        obtain ⟨v26, ev26, h⟩ := ob_some h
        refine ex_gI (pc := 34) ev26 dX7_advance_34 lfX7_29 ?_
        obtain ⟨v27, ev27, h⟩ := ob_some h
        refine ex_callV1r (pc := 37) dX7_advance_37 jX7_byteAt lmX7_32 jiX7_byteAt jvX7_byteAt (o_X7_byteAt ev27) rfl (Nat.le_of_ble_eq_true rfl) (s_X7_byteAt (by omega)  ev27) ?_
        refine ex_bipush (pc := 40) 10 dX7_advance_40 (by decide) ?_
        by_cases c28 : v27 = 10
        · rw [if_pos c28] at h
          refine ex_icmp_ne_f (pc := 42) dX7_advance_42 58 rfl c28 ?_
          refine ex_sub (lo' := [(0, .ref x0)]) [0] rfl ?_
          exact t_X7_advance_45 hd ih _ _ _  h
        · rw [if_neg c28] at h
          refine ex_icmp_ne_t (pc := 42) 58 dX7_advance_42 rfl c28 ?_
          refine ex_sub (lo' := [(0, .ref x0)]) [0] rfl ?_
          exact t_X7_advance_58 hd  _ _ _  h
noncomputable def f_X7_advance_0 (x0 : Nat) (M : Mem) : Option (Mem) :=
  (gI M 7 x0 5).bind fun v29 =>
  (pF M 7 x0 4 (.int v29)).bind fun q30 =>
  f_X7_advance_8 fu x0 q30
set_option maxHeartbeats 4000000 in
theorem t_X7_advance_0 {X : XV} {d : Nat} (hd : 6 ≤ d + 1) : ∀ (x0 : Nat) (M : Mem) (res : Mem), f_X7_advance_0  x0 M = some res → Ex X (d + 1) mX7_advance 0 [(0, .ref x0)] [] M none res := by
  intro x0 M res  h
  unfold f_X7_advance_0 at h
  refine ex_aload_n (pc := 0) 0 dX7_advance_0 rfl rfl ?_
  refine ex_aload_n (pc := 1) 0 dX7_advance_1 rfl rfl ?_
  obtain ⟨v29, ev29, h⟩ := ob_some h
  refine ex_gI (pc := 2) ev29 dX7_advance_2 lfX7_23 ?_
  obtain ⟨q30, eq30, h⟩ := ob_some h
  refine ex_pF (pc := 5) eq30 dX7_advance_5 lfX7_29 rfl rfl (fun _ hq => by cases hq; rfl) ?_
  refine ex_sub (lo' := [(0, .ref x0)]) [0] rfl ?_
  exact t_X7_advance_8 hd  _ _ _ _  h
noncomputable def f_X7_advance (x0 : Nat) (M : Mem) : Option (Mem) := if isOb M 7 x0 = true then f_X7_advance_0 x0 M else none
theorem o_X7_advance {x0 : Nat} {M : Mem} {res : Mem} (h : f_X7_advance x0 M = some res) : isO M 7 x0 := by
  unfold f_X7_advance at h
  split at h
  · rename_i hc; exact isOb_iff hc
  · cases h
set_option maxHeartbeats 4000000 in
theorem s_X7_advance {X : XV} {d : Nat} (hd : 6 ≤ d) {x0 : Nat} {M : Mem} {res : Mem} (h : f_X7_advance x0 M = some res) : Mx X d mX7_advance [.ref x0] M none res := by
  obtain ⟨d, rfl⟩ : ∃ e, d = e + 1 := ⟨d - 1, by omega⟩
  unfold f_X7_advance at h
  split at h
  rotate_left
  · cases h
  refine Mx.of (by decide) (Nat.le_of_ble_eq_true rfl) (rfl) ?_
  exact ex_sub (lo' := [(0, .ref x0)]) [0] rfl (t_X7_advance_0 hd _ _ _  h)
noncomputable def f_X7_rewind_0 (x0 : Nat) (M : Mem) : Option (Mem) :=
  (pF M 7 x0 5 (.int 0)).bind fun q1 =>
  (f_X7_advance x0 q1).bind fun q2 =>
  some q2
set_option maxHeartbeats 4000000 in
theorem t_X7_rewind_0 {X : XV} {d : Nat} (hd : 7 ≤ d + 1) : ∀ (x0 : Nat) (M : Mem) (res : Mem), f_X7_rewind_0  x0 M = some res → Ex X (d + 1) mX7_rewind 0 [(0, .ref x0)] [] M none res := by
  intro x0 M res  h
  unfold f_X7_rewind_0 at h
  refine ex_aload_n (pc := 0) 0 dX7_rewind_0 rfl rfl ?_
  refine ex_iconst (pc := 1) 0 dX7_rewind_1 rfl ?_
  obtain ⟨q1, eq1, h⟩ := ob_some h
  refine ex_pF (pc := 2) eq1 dX7_rewind_2 lfX7_23 rfl rfl (fun _ hq => by cases hq; rfl) ?_
  refine ex_aload_n (pc := 5) 0 dX7_rewind_5 rfl rfl ?_
  obtain ⟨q2, eq2, h⟩ := ob_some h
  refine ex_callV0v (pc := 6) dX7_rewind_6 jX7_advance lmX7_26 jiX7_advance jvX7_advance (o_X7_advance eq2) rfl (Nat.le_of_ble_eq_true rfl) (s_X7_advance (by omega)  eq2) ?_
  cases h
  exact ex_return (pc := 9) dX7_rewind_9
noncomputable def f_X7_rewind (x0 : Nat) (M : Mem) : Option (Mem) := if isOb M 7 x0 = true then f_X7_rewind_0 x0 M else none
theorem o_X7_rewind {x0 : Nat} {M : Mem} {res : Mem} (h : f_X7_rewind x0 M = some res) : isO M 7 x0 := by
  unfold f_X7_rewind at h
  split at h
  · rename_i hc; exact isOb_iff hc
  · cases h
set_option maxHeartbeats 4000000 in
theorem s_X7_rewind {X : XV} {d : Nat} (hd : 7 ≤ d) {x0 : Nat} {M : Mem} {res : Mem} (h : f_X7_rewind x0 M = some res) : Mx X d mX7_rewind [.ref x0] M none res := by
  obtain ⟨d, rfl⟩ : ∃ e, d = e + 1 := ⟨d - 1, by omega⟩
  unfold f_X7_rewind at h
  split at h
  rotate_left
  · cases h
  refine Mx.of (by decide) (Nat.le_of_ble_eq_true rfl) (rfl) ?_
  exact ex_sub (lo' := [(0, .ref x0)]) [0] rfl (t_X7_rewind_0 hd _ _ _  h)
noncomputable def f_X2_refuse_0 (x0 : Nat) (x1 : Int32) (M : Mem) : Option (Bool × Mem) :=
  (pF M 2 x0 1 (.int x1)).bind fun q1 =>
  (gR q1 2 x0 0).bind fun v2 =>
  (gI q1 7 v2 4).bind fun v3 =>
  (pF q1 2 x0 2 (.int v3)).bind fun q4 =>
  some (false, q4)
set_option maxHeartbeats 4000000 in
theorem t_X2_refuse_0 {X : XV} {d : Nat} (hd : 1 ≤ d + 1) : ∀ (x0 : Nat) (x1 : Int32) (M : Mem) (res : Bool × Mem), f_X2_refuse_0  x0 x1 M = some res → Ex X (d + 1) mX2_refuse 0 [(0, .ref x0), (1, .int x1)] [] M (some (.int (jz res.1))) res.2 := by
  intro x0 x1 M res  h
  unfold f_X2_refuse_0 at h
  refine ex_aload_n (pc := 0) 0 dX2_refuse_0 rfl rfl ?_
  refine ex_iload_n (pc := 1) 1 dX2_refuse_1 rfl rfl ?_
  obtain ⟨q1, eq1, h⟩ := ob_some h
  refine ex_pF (pc := 2) eq1 dX2_refuse_2 lfX2_9 rfl rfl (fun _ hq => by cases hq; rfl) ?_
  refine ex_aload_n (pc := 5) 0 dX2_refuse_5 rfl rfl ?_
  refine ex_aload_n (pc := 6) 0 dX2_refuse_6 rfl rfl ?_
  obtain ⟨v2, ev2, h⟩ := ob_some h
  refine ex_gR (pc := 7) ev2 dX2_refuse_7 lfX2_34 ?_
  obtain ⟨v3, ev3, h⟩ := ob_some h
  refine ex_gI (pc := 10) ev3 dX2_refuse_10 lfX2_79 ?_
  obtain ⟨q4, eq4, h⟩ := ob_some h
  refine ex_pF (pc := 13) eq4 dX2_refuse_13 lfX2_15 rfl rfl (fun _ hq => by cases hq; rfl) ?_
  refine ex_iconst (pc := 16) 0 dX2_refuse_16 rfl ?_
  cases h
  exact ex_ireturn (pc := 17) dX2_refuse_17
noncomputable def f_X2_refuse (x0 : Nat) (x1 : Int32) (M : Mem) : Option (Bool × Mem) := if isOb M 2 x0 = true then f_X2_refuse_0 x0 x1 M else none
theorem o_X2_refuse {x0 : Nat} {x1 : Int32} {M : Mem} {res : Bool × Mem} (h : f_X2_refuse x0 x1 M = some res) : isO M 2 x0 := by
  unfold f_X2_refuse at h
  split at h
  · rename_i hc; exact isOb_iff hc
  · cases h
set_option maxHeartbeats 4000000 in
theorem s_X2_refuse {X : XV} {d : Nat} (hd : 1 ≤ d) {x0 : Nat} {x1 : Int32} {M : Mem} {res : Bool × Mem} (h : f_X2_refuse x0 x1 M = some res) : Mx X d mX2_refuse [.ref x0, .int x1] M (some (.int (jz res.1))) res.2 := by
  obtain ⟨d, rfl⟩ : ∃ e, d = e + 1 := ⟨d - 1, by omega⟩
  unfold f_X2_refuse at h
  split at h
  rotate_left
  · cases h
  refine Mx.of (by decide) (Nat.le_of_ble_eq_true rfl) (⟨_, rfl, jz_nar _⟩) ?_
  exact ex_sub (lo' := [(0, .ref x0), (1, .int x1)]) [0, 1] rfl (t_X2_refuse_0 hd _ _ _ _  h)
noncomputable def f_X2_order_0 (x0 : Nat) (x1 : Int32) (x2 : Int32) (M : Mem) : Option (Int32 × Mem) :=
  (gI M 2 x0 5).bind fun v1 =>
  (f_X10_within v1 0 299).bind fun v2 =>
  if v2 = true then
  ((gR M 2 x0 7).bind fun v4 =>
  (gI M 2 x0 5).bind fun v5 =>
  (wI M v4 v5 x1).bind fun q6 =>
  (gR q6 2 x0 8).bind fun v7 =>
  (gI q6 2 x0 5).bind fun v8 =>
  (wI q6 v7 v8 x2).bind fun q9 =>
  (gI q9 2 x0 5).bind fun v10 =>
  (pF q9 2 x0 5 (.int (v10 + 1))).bind fun q11 =>
  (gI q11 2 x0 5).bind fun v12 =>
  some ((v12 - 1), q11))
  else
  (some ((-1), M))
set_option maxHeartbeats 4000000 in
theorem t_X2_order_0 {X : XV} {d : Nat} (hd : 2 ≤ d + 1) : ∀ (x0 : Nat) (x1 : Int32) (x2 : Int32) (M : Mem) (res : Int32 × Mem), f_X2_order_0  x0 x1 x2 M = some res → Ex X (d + 1) mX2_order 0 [(0, .ref x0), (1, .int x1), (2, .int x2)] [] M (some (.int res.1)) res.2 := by
  intro x0 x1 x2 M res  h
  unfold f_X2_order_0 at h
  refine ex_aload_n (pc := 0) 0 dX2_order_0 rfl rfl ?_
  obtain ⟨v1, ev1, h⟩ := ob_some h
  refine ex_gI (pc := 1) ev1 dX2_order_1 lfX2_41 ?_
  refine ex_iconst (pc := 4) 0 dX2_order_4 rfl ?_
  refine ex_sipush (pc := 5) 299 dX2_order_5 (by decide) ?_
  obtain ⟨v2, ev2, h⟩ := ob_some h
  refine ex_callSN3r (pc := 8) dX2_order_8 jX10_within lnX2_108 jsX10_within (Nat.le_of_ble_eq_true rfl) (s_X10_within (by omega)  ev2) ?_
  by_cases c3 : v2 = true
  · rw [if_pos c3] at h
    refine ex_if_ne_t (pc := 11) 16 dX2_order_11 rfl (jz_ne_t c3) ?_
    refine ex_aload_n (pc := 16) 0 dX2_order_16 rfl rfl ?_
    obtain ⟨v4, ev4, h⟩ := ob_some h
    refine ex_gR (pc := 17) ev4 dX2_order_17 lfX2_18 ?_
    refine ex_aload_n (pc := 20) 0 dX2_order_20 rfl rfl ?_
    obtain ⟨v5, ev5, h⟩ := ob_some h
    refine ex_gI (pc := 21) ev5 dX2_order_21 lfX2_41 ?_
    refine ex_iload_n (pc := 24) 1 dX2_order_24 rfl rfl ?_
    obtain ⟨q6, eq6, h⟩ := ob_some h
    refine ex_wI (pc := 25) eq6 dX2_order_25 ?_
    refine ex_aload_n (pc := 26) 0 dX2_order_26 rfl rfl ?_
    obtain ⟨v7, ev7, h⟩ := ob_some h
    refine ex_gR (pc := 27) ev7 dX2_order_27 lfX2_22 ?_
    refine ex_aload_n (pc := 30) 0 dX2_order_30 rfl rfl ?_
    obtain ⟨v8, ev8, h⟩ := ob_some h
    refine ex_gI (pc := 31) ev8 dX2_order_31 lfX2_41 ?_
    refine ex_iload_n (pc := 34) 2 dX2_order_34 rfl rfl ?_
    obtain ⟨q9, eq9, h⟩ := ob_some h
    refine ex_wI (pc := 35) eq9 dX2_order_35 ?_
    refine ex_aload_n (pc := 36) 0 dX2_order_36 rfl rfl ?_
    refine ex_dup (pc := 37) dX2_order_37 rfl ?_
    obtain ⟨v10, ev10, h⟩ := ob_some h
    refine ex_gI (pc := 38) ev10 dX2_order_38 lfX2_41 ?_
    refine ex_iconst (pc := 41) 1 dX2_order_41 rfl ?_
    refine ex_iadd (pc := 42) dX2_order_42 ?_
    obtain ⟨q11, eq11, h⟩ := ob_some h
    refine ex_pF (pc := 43) eq11 dX2_order_43 lfX2_41 rfl rfl (fun _ hq => by cases hq; rfl) ?_
    refine ex_aload_n (pc := 46) 0 dX2_order_46 rfl rfl ?_
    obtain ⟨v12, ev12, h⟩ := ob_some h
    refine ex_gI (pc := 47) ev12 dX2_order_47 lfX2_41 ?_
    refine ex_iconst (pc := 50) 1 dX2_order_50 rfl ?_
    refine ex_isub (pc := 51) dX2_order_51 ?_
    cases h
    exact ex_ireturn (pc := 52) dX2_order_52
  · rw [if_neg c3] at h
    refine ex_if_ne_f (pc := 11) dX2_order_11 16 rfl (jz_ne_f c3) ?_
    refine ex_iconst (pc := 14) (-1) dX2_order_14 rfl ?_
    cases h
    exact ex_ireturn (pc := 15) dX2_order_15
noncomputable def f_X2_order (x0 : Nat) (x1 : Int32) (x2 : Int32) (M : Mem) : Option (Int32 × Mem) := if isOb M 2 x0 = true then f_X2_order_0 x0 x1 x2 M else none
theorem o_X2_order {x0 : Nat} {x1 : Int32} {x2 : Int32} {M : Mem} {res : Int32 × Mem} (h : f_X2_order x0 x1 x2 M = some res) : isO M 2 x0 := by
  unfold f_X2_order at h
  split at h
  · rename_i hc; exact isOb_iff hc
  · cases h
set_option maxHeartbeats 4000000 in
theorem s_X2_order {X : XV} {d : Nat} (hd : 2 ≤ d) {x0 : Nat} {x1 : Int32} {x2 : Int32} {M : Mem} {res : Int32 × Mem} (h : f_X2_order x0 x1 x2 M = some res) : Mx X d mX2_order [.ref x0, .int x1, .int x2] M (some (.int res.1)) res.2 := by
  obtain ⟨d, rfl⟩ : ∃ e, d = e + 1 := ⟨d - 1, by omega⟩
  unfold f_X2_order at h
  split at h
  rotate_left
  · cases h
  refine Mx.of (by decide) (Nat.le_of_ble_eq_true rfl) (⟨_, rfl, rfl⟩) ?_
  exact ex_sub (lo' := [(0, .ref x0), (1, .int x1), (2, .int x2)]) [0, 1, 2] rfl (t_X2_order_0 hd _ _ _ _ _  h)
noncomputable def f_X2_readPart_0 (x0 : Nat) (x1 : Int32) (x2 : Int32) (x3 : Int32) (M : Mem) : Option (Bool × Mem) :=
  (gR M 2 x0 0).bind fun v1 =>
  (gI M 7 v1 2).bind fun v2 =>
  if v2 = 27 then
  ((gR M 2 x0 0).bind fun v4 =>
  (gI M 7 v4 3).bind fun v5 =>
  (f_X10_within v5 x2 x3).bind fun v6 =>
  if v6 = true then
  ((gR M 2 x0 11).bind fun v8 =>
  (gI M 2 x0 6).bind fun v9 =>
  (gR M 2 x0 0).bind fun v10 =>
  (gI M 7 v10 3).bind fun v11 =>
  (wI M v8 ((v9 * 3) + x1) v11).bind fun q12 =>
  (gR q12 2 x0 0).bind fun v13 =>
  (f_X7_advance v13 q12).bind fun q14 =>
  some (true, q14))
  else
  ((f_X2_refuse x0 2 M).bind fun q15 =>
  some (q15.1, q15.2)))
  else
  ((f_X2_refuse x0 1 M).bind fun q16 =>
  some (q16.1, q16.2))
set_option maxHeartbeats 4000000 in
theorem t_X2_readPart_0 {X : XV} {d : Nat} (hd : 7 ≤ d + 1) : ∀ (x0 : Nat) (x1 : Int32) (x2 : Int32) (x3 : Int32) (M : Mem) (res : Bool × Mem), f_X2_readPart_0  x0 x1 x2 x3 M = some res → Ex X (d + 1) mX2_readPart 0 [(0, .ref x0), (1, .int x1), (2, .int x2), (3, .int x3)] [] M (some (.int (jz res.1))) res.2 := by
  intro x0 x1 x2 x3 M res  h
  unfold f_X2_readPart_0 at h
  refine ex_aload_n (pc := 0) 0 dX2_readPart_0 rfl rfl ?_
  obtain ⟨v1, ev1, h⟩ := ob_some h
  refine ex_gR (pc := 1) ev1 dX2_readPart_1 lfX2_34 ?_
  obtain ⟨v2, ev2, h⟩ := ob_some h
  refine ex_gI (pc := 4) ev2 dX2_readPart_4 lfX2_58 ?_
  refine ex_bipush (pc := 7) 27 dX2_readPart_7 (by decide) ?_
  by_cases c3 : v2 = 27
  · rw [if_pos c3] at h
    refine ex_icmp_eq_t (pc := 9) 18 dX2_readPart_9 rfl c3 ?_
    refine ex_aload_n (pc := 18) 0 dX2_readPart_18 rfl rfl ?_
    obtain ⟨v4, ev4, h⟩ := ob_some h
    refine ex_gR (pc := 19) ev4 dX2_readPart_19 lfX2_34 ?_
    obtain ⟨v5, ev5, h⟩ := ob_some h
    refine ex_gI (pc := 22) ev5 dX2_readPart_22 lfX2_105 ?_
    refine ex_iload_n (pc := 25) 2 dX2_readPart_25 rfl rfl ?_
    refine ex_iload_n (pc := 26) 3 dX2_readPart_26 rfl rfl ?_
    obtain ⟨v6, ev6, h⟩ := ob_some h
    refine ex_callSN3r (pc := 27) dX2_readPart_27 jX10_within lnX2_108 jsX10_within (Nat.le_of_ble_eq_true rfl) (s_X10_within (by omega)  ev6) ?_
    by_cases c7 : v6 = true
    · rw [if_pos c7] at h
      refine ex_if_ne_t (pc := 30) 39 dX2_readPart_30 rfl (jz_ne_t c7) ?_
      refine ex_aload_n (pc := 39) 0 dX2_readPart_39 rfl rfl ?_
      obtain ⟨v8, ev8, h⟩ := ob_some h
      refine ex_gR (pc := 40) ev8 dX2_readPart_40 lfX2_31 ?_
      refine ex_aload_n (pc := 43) 0 dX2_readPart_43 rfl rfl ?_
      obtain ⟨v9, ev9, h⟩ := ob_some h
      refine ex_gI (pc := 44) ev9 dX2_readPart_44 lfX2_44 ?_
      refine ex_iconst (pc := 47) 3 dX2_readPart_47 rfl ?_
      refine ex_imul (pc := 48) dX2_readPart_48 ?_
      refine ex_iload_n (pc := 49) 1 dX2_readPart_49 rfl rfl ?_
      refine ex_iadd (pc := 50) dX2_readPart_50 ?_
      refine ex_aload_n (pc := 51) 0 dX2_readPart_51 rfl rfl ?_
      obtain ⟨v10, ev10, h⟩ := ob_some h
      refine ex_gR (pc := 52) ev10 dX2_readPart_52 lfX2_34 ?_
      obtain ⟨v11, ev11, h⟩ := ob_some h
      refine ex_gI (pc := 55) ev11 dX2_readPart_55 lfX2_105 ?_
      obtain ⟨q12, eq12, h⟩ := ob_some h
      refine ex_wI (pc := 58) eq12 dX2_readPart_58 ?_
      refine ex_aload_n (pc := 59) 0 dX2_readPart_59 rfl rfl ?_
      obtain ⟨v13, ev13, h⟩ := ob_some h
      refine ex_gR (pc := 60) ev13 dX2_readPart_60 lfX2_34 ?_
      obtain ⟨q14, eq14, h⟩ := ob_some h
      refine ex_callV0v (pc := 63) dX2_readPart_63 jX7_advance lmX2_86 jiX7_advance jvX7_advance (o_X7_advance eq14) rfl (Nat.le_of_ble_eq_true rfl) (s_X7_advance (by omega)  eq14) ?_
      refine ex_iconst (pc := 66) 1 dX2_readPart_66 rfl ?_
      cases h
      exact ex_ireturn (pc := 67) dX2_readPart_67
    · rw [if_neg c7] at h
      refine ex_if_ne_f (pc := 30) dX2_readPart_30 39 rfl (jz_ne_f c7) ?_
      refine ex_aload_n (pc := 33) 0 dX2_readPart_33 rfl rfl ?_
      refine ex_iconst (pc := 34) 2 dX2_readPart_34 rfl ?_
      obtain ⟨q15, eq15, h⟩ := ob_some h
      refine ex_callV1r (pc := 35) dX2_readPart_35 jX2_refuse lmX2_82 jiX2_refuse jvX2_refuse (o_X2_refuse eq15) rfl (Nat.le_of_ble_eq_true rfl) (s_X2_refuse (by omega)  eq15) ?_
      cases h
      exact ex_ireturn (pc := 38) dX2_readPart_38
  · rw [if_neg c3] at h
    refine ex_icmp_eq_f (pc := 9) dX2_readPart_9 18 rfl c3 ?_
    refine ex_aload_n (pc := 12) 0 dX2_readPart_12 rfl rfl ?_
    refine ex_iconst (pc := 13) 1 dX2_readPart_13 rfl ?_
    obtain ⟨q16, eq16, h⟩ := ob_some h
    refine ex_callV1r (pc := 14) dX2_readPart_14 jX2_refuse lmX2_82 jiX2_refuse jvX2_refuse (o_X2_refuse eq16) rfl (Nat.le_of_ble_eq_true rfl) (s_X2_refuse (by omega)  eq16) ?_
    cases h
    exact ex_ireturn (pc := 17) dX2_readPart_17
noncomputable def f_X2_readPart (x0 : Nat) (x1 : Int32) (x2 : Int32) (x3 : Int32) (M : Mem) : Option (Bool × Mem) := if isOb M 2 x0 = true then f_X2_readPart_0 x0 x1 x2 x3 M else none
theorem o_X2_readPart {x0 : Nat} {x1 : Int32} {x2 : Int32} {x3 : Int32} {M : Mem} {res : Bool × Mem} (h : f_X2_readPart x0 x1 x2 x3 M = some res) : isO M 2 x0 := by
  unfold f_X2_readPart at h
  split at h
  · rename_i hc; exact isOb_iff hc
  · cases h
set_option maxHeartbeats 4000000 in
theorem s_X2_readPart {X : XV} {d : Nat} (hd : 7 ≤ d) {x0 : Nat} {x1 : Int32} {x2 : Int32} {x3 : Int32} {M : Mem} {res : Bool × Mem} (h : f_X2_readPart x0 x1 x2 x3 M = some res) : Mx X d mX2_readPart [.ref x0, .int x1, .int x2, .int x3] M (some (.int (jz res.1))) res.2 := by
  obtain ⟨d, rfl⟩ : ∃ e, d = e + 1 := ⟨d - 1, by omega⟩
  unfold f_X2_readPart at h
  split at h
  rotate_left
  · cases h
  refine Mx.of (by decide) (Nat.le_of_ble_eq_true rfl) (⟨_, rfl, jz_nar _⟩) ?_
  exact ex_sub (lo' := [(0, .ref x0), (1, .int x1), (2, .int x2), (3, .int x3)]) [0, 1, 2, 3] rfl (t_X2_readPart_0 hd _ _ _ _ _ _  h)
noncomputable def f_X2_expect_0 (x0 : Nat) (x1 : Int32) (M : Mem) : Option (Bool × Mem) :=
  (gR M 2 x0 0).bind fun v1 =>
  (gI M 7 v1 2).bind fun v2 =>
  if v2 = x1 then
  ((gR M 2 x0 0).bind fun v4 =>
  (f_X7_advance v4 M).bind fun q5 =>
  some (true, q5))
  else
  ((f_X2_refuse x0 1 M).bind fun q6 =>
  some (q6.1, q6.2))
set_option maxHeartbeats 4000000 in
theorem t_X2_expect_0 {X : XV} {d : Nat} (hd : 7 ≤ d + 1) : ∀ (x0 : Nat) (x1 : Int32) (M : Mem) (res : Bool × Mem), f_X2_expect_0  x0 x1 M = some res → Ex X (d + 1) mX2_expect 0 [(0, .ref x0), (1, .int x1)] [] M (some (.int (jz res.1))) res.2 := by
  intro x0 x1 M res  h
  unfold f_X2_expect_0 at h
  refine ex_aload_n (pc := 0) 0 dX2_expect_0 rfl rfl ?_
  obtain ⟨v1, ev1, h⟩ := ob_some h
  refine ex_gR (pc := 1) ev1 dX2_expect_1 lfX2_34 ?_
  obtain ⟨v2, ev2, h⟩ := ob_some h
  refine ex_gI (pc := 4) ev2 dX2_expect_4 lfX2_58 ?_
  refine ex_iload_n (pc := 7) 1 dX2_expect_7 rfl rfl ?_
  by_cases c3 : v2 = x1
  · rw [if_pos c3] at h
    refine ex_icmp_eq_t (pc := 8) 17 dX2_expect_8 rfl c3 ?_
    refine ex_aload_n (pc := 17) 0 dX2_expect_17 rfl rfl ?_
    obtain ⟨v4, ev4, h⟩ := ob_some h
    refine ex_gR (pc := 18) ev4 dX2_expect_18 lfX2_34 ?_
    obtain ⟨q5, eq5, h⟩ := ob_some h
    refine ex_callV0v (pc := 21) dX2_expect_21 jX7_advance lmX2_86 jiX7_advance jvX7_advance (o_X7_advance eq5) rfl (Nat.le_of_ble_eq_true rfl) (s_X7_advance (by omega)  eq5) ?_
    refine ex_iconst (pc := 24) 1 dX2_expect_24 rfl ?_
    cases h
    exact ex_ireturn (pc := 25) dX2_expect_25
  · rw [if_neg c3] at h
    refine ex_icmp_eq_f (pc := 8) dX2_expect_8 17 rfl c3 ?_
    refine ex_aload_n (pc := 11) 0 dX2_expect_11 rfl rfl ?_
    refine ex_iconst (pc := 12) 1 dX2_expect_12 rfl ?_
    obtain ⟨q6, eq6, h⟩ := ob_some h
    refine ex_callV1r (pc := 13) dX2_expect_13 jX2_refuse lmX2_82 jiX2_refuse jvX2_refuse (o_X2_refuse eq6) rfl (Nat.le_of_ble_eq_true rfl) (s_X2_refuse (by omega)  eq6) ?_
    cases h
    exact ex_ireturn (pc := 16) dX2_expect_16
noncomputable def f_X2_expect (x0 : Nat) (x1 : Int32) (M : Mem) : Option (Bool × Mem) := if isOb M 2 x0 = true then f_X2_expect_0 x0 x1 M else none
theorem o_X2_expect {x0 : Nat} {x1 : Int32} {M : Mem} {res : Bool × Mem} (h : f_X2_expect x0 x1 M = some res) : isO M 2 x0 := by
  unfold f_X2_expect at h
  split at h
  · rename_i hc; exact isOb_iff hc
  · cases h
set_option maxHeartbeats 4000000 in
theorem s_X2_expect {X : XV} {d : Nat} (hd : 7 ≤ d) {x0 : Nat} {x1 : Int32} {M : Mem} {res : Bool × Mem} (h : f_X2_expect x0 x1 M = some res) : Mx X d mX2_expect [.ref x0, .int x1] M (some (.int (jz res.1))) res.2 := by
  obtain ⟨d, rfl⟩ : ∃ e, d = e + 1 := ⟨d - 1, by omega⟩
  unfold f_X2_expect at h
  split at h
  rotate_left
  · cases h
  refine Mx.of (by decide) (Nat.le_of_ble_eq_true rfl) (⟨_, rfl, jz_nar _⟩) ?_
  exact ex_sub (lo' := [(0, .ref x0), (1, .int x1)]) [0, 1] rfl (t_X2_expect_0 hd _ _ _ _  h)
noncomputable def f_X2_readOrder_0 (x0 : Nat) (x1 : Int32) (M : Mem) : Option (Bool × Mem) :=
  if x1 = 3 then
  ((f_X2_readPart x0 1 0 9 M).bind fun q2 =>
  if q2.1 = false then
  (some (false, q2.2))
  else
  ((f_X2_expect x0 11 q2.2).bind fun q4 =>
  if q4.1 = false then
  (some (false, q4.2))
  else
  ((f_X2_readPart x0 2 0 99 q4.2).bind fun q6 =>
  if q6.1 = false then
  (some (false, q6.2))
  else
  (some (true, q6.2)))))
  else
  (if x1 = 6 then
  ((f_X2_readPart x0 1 0 9999 M).bind fun q9 =>
  if q9.1 = false then
  (some (false, q9.2))
  else
  ((f_X2_expect x0 17 q9.2).bind fun q11 =>
  if q11.1 = false then
  (some (false, q11.2))
  else
  ((f_X2_readPart x0 2 0 4 q11.2).bind fun q13 =>
  if q13.1 = false then
  (some (false, q13.2))
  else
  (some (true, q13.2)))))
  else
  (if x1 = 7 then
  ((f_X2_readPart x0 1 0 4 M).bind fun q16 =>
  some (q16.1, q16.2))
  else
  (if x1 = 8 then
  ((f_X2_readPart x0 1 0 4 M).bind fun q18 =>
  if q18.1 = false then
  (some (false, q18.2))
  else
  ((f_X2_expect x0 17 q18.2).bind fun q20 =>
  if q20.1 = false then
  (some (false, q20.2))
  else
  ((f_X2_readPart x0 2 0 9 q20.2).bind fun q22 =>
  if q22.1 = false then
  (some (false, q22.2))
  else
  (some (true, q22.2)))))
  else
  (if x1 = 9 then
  ((f_X2_readPart x0 1 1 60 M).bind fun q25 =>
  some (q25.1, q25.2))
  else
  ((f_X2_readPart x0 1 0 9 M).bind fun q26 =>
  if q26.1 = false then
  (some (false, q26.2))
  else
  ((f_X2_expect x0 16 q26.2).bind fun q28 =>
  if q28.1 = false then
  (some (false, q28.2))
  else
  ((f_X2_readPart x0 2 0 110 q28.2).bind fun q30 =>
  if q30.1 = false then
  (some (false, q30.2))
  else
  (some (true, q30.2)))))))))
set_option maxHeartbeats 4000000 in
theorem t_X2_readOrder_0 {X : XV} {d : Nat} (hd : 8 ≤ d + 1) : ∀ (x0 : Nat) (x1 : Int32) (M : Mem) (res : Bool × Mem), f_X2_readOrder_0  x0 x1 M = some res → Ex X (d + 1) mX2_readOrder 0 [(0, .ref x0), (1, .int x1)] [] M (some (.int (jz res.1))) res.2 := by
  intro x0 x1 M res  h
  unfold f_X2_readOrder_0 at h
  refine ex_iload_n (pc := 0) 1 dX2_readOrder_0 rfl rfl ?_
  by_cases c1 : x1 = 3
  · rw [if_pos c1] at h
    refine ex_tabIn (pc := 1) 44 dX2_readOrder_1 (by rw [c1]; decide) (by rw [c1]; decide) (by rw [c1]; rfl) rfl ?_
    refine ex_aload_n (pc := 44) 0 dX2_readOrder_44 rfl rfl ?_
    refine ex_iconst (pc := 45) 1 dX2_readOrder_45 rfl ?_
    refine ex_iconst (pc := 46) 0 dX2_readOrder_46 rfl ?_
    refine ex_bipush (pc := 47) 9 dX2_readOrder_47 (by decide) ?_
    obtain ⟨q2, eq2, h⟩ := ob_some h
    refine ex_callV3r (pc := 49) dX2_readOrder_49 jX2_readPart lmX2_101 jiX2_readPart jvX2_readPart (o_X2_readPart eq2) rfl (Nat.le_of_ble_eq_true rfl) (s_X2_readPart (by omega)  eq2) ?_
    by_cases c3 : q2.1 = false
    · rw [if_pos c3] at h
      refine ex_if_eq_t (pc := 52) 79 dX2_readOrder_52 rfl (jz_eq_t c3) ?_
      refine ex_iconst (pc := 79) 0 dX2_readOrder_79 rfl ?_
      cases h
      exact ex_ireturn (pc := 80) dX2_readOrder_80
    · rw [if_neg c3] at h
      refine ex_if_eq_f (pc := 52) dX2_readOrder_52 79 rfl (jz_eq_f c3) ?_
      refine ex_aload_n (pc := 55) 0 dX2_readOrder_55 rfl rfl ?_
      refine ex_bipush (pc := 56) 11 dX2_readOrder_56 (by decide) ?_
      obtain ⟨q4, eq4, h⟩ := ob_some h
      refine ex_callV1r (pc := 58) dX2_readOrder_58 jX2_expect lmX2_98 jiX2_expect jvX2_expect (o_X2_expect eq4) rfl (Nat.le_of_ble_eq_true rfl) (s_X2_expect (by omega)  eq4) ?_
      by_cases c5 : q4.1 = false
      · rw [if_pos c5] at h
        refine ex_if_eq_t (pc := 61) 79 dX2_readOrder_61 rfl (jz_eq_t c5) ?_
        refine ex_iconst (pc := 79) 0 dX2_readOrder_79 rfl ?_
        cases h
        exact ex_ireturn (pc := 80) dX2_readOrder_80
      · rw [if_neg c5] at h
        refine ex_if_eq_f (pc := 61) dX2_readOrder_61 79 rfl (jz_eq_f c5) ?_
        refine ex_aload_n (pc := 64) 0 dX2_readOrder_64 rfl rfl ?_
        refine ex_iconst (pc := 65) 2 dX2_readOrder_65 rfl ?_
        refine ex_iconst (pc := 66) 0 dX2_readOrder_66 rfl ?_
        refine ex_bipush (pc := 67) 99 dX2_readOrder_67 (by decide) ?_
        obtain ⟨q6, eq6, h⟩ := ob_some h
        refine ex_callV3r (pc := 69) dX2_readOrder_69 jX2_readPart lmX2_101 jiX2_readPart jvX2_readPart (o_X2_readPart eq6) rfl (Nat.le_of_ble_eq_true rfl) (s_X2_readPart (by omega)  eq6) ?_
        by_cases c7 : q6.1 = false
        · rw [if_pos c7] at h
          refine ex_if_eq_t (pc := 72) 79 dX2_readOrder_72 rfl (jz_eq_t c7) ?_
          refine ex_iconst (pc := 79) 0 dX2_readOrder_79 rfl ?_
          cases h
          exact ex_ireturn (pc := 80) dX2_readOrder_80
        · rw [if_neg c7] at h
          refine ex_if_eq_f (pc := 72) dX2_readOrder_72 79 rfl (jz_eq_f c7) ?_
          refine ex_iconst (pc := 75) 1 dX2_readOrder_75 rfl ?_
          refine ex_goto (pc := 76) 80 dX2_readOrder_76 rfl ?_
          cases h
          exact ex_ireturn (pc := 80) dX2_readOrder_80
  · rw [if_neg c1] at h
    by_cases c8 : x1 = 6
    · rw [if_pos c8] at h
      refine ex_tabIn (pc := 1) 81 dX2_readOrder_1 (by rw [c8]; decide) (by rw [c8]; decide) (by rw [c8]; rfl) rfl ?_
      refine ex_aload_n (pc := 81) 0 dX2_readOrder_81 rfl rfl ?_
      refine ex_iconst (pc := 82) 1 dX2_readOrder_82 rfl ?_
      refine ex_iconst (pc := 83) 0 dX2_readOrder_83 rfl ?_
      refine ex_sipush (pc := 84) 9999 dX2_readOrder_84 (by decide) ?_
      obtain ⟨q9, eq9, h⟩ := ob_some h
      refine ex_callV3r (pc := 87) dX2_readOrder_87 jX2_readPart lmX2_101 jiX2_readPart jvX2_readPart (o_X2_readPart eq9) rfl (Nat.le_of_ble_eq_true rfl) (s_X2_readPart (by omega)  eq9) ?_
      by_cases c10 : q9.1 = false
      · rw [if_pos c10] at h
        refine ex_if_eq_t (pc := 90) 116 dX2_readOrder_90 rfl (jz_eq_t c10) ?_
        refine ex_iconst (pc := 116) 0 dX2_readOrder_116 rfl ?_
        cases h
        exact ex_ireturn (pc := 117) dX2_readOrder_117
      · rw [if_neg c10] at h
        refine ex_if_eq_f (pc := 90) dX2_readOrder_90 116 rfl (jz_eq_f c10) ?_
        refine ex_aload_n (pc := 93) 0 dX2_readOrder_93 rfl rfl ?_
        refine ex_bipush (pc := 94) 17 dX2_readOrder_94 (by decide) ?_
        obtain ⟨q11, eq11, h⟩ := ob_some h
        refine ex_callV1r (pc := 96) dX2_readOrder_96 jX2_expect lmX2_98 jiX2_expect jvX2_expect (o_X2_expect eq11) rfl (Nat.le_of_ble_eq_true rfl) (s_X2_expect (by omega)  eq11) ?_
        by_cases c12 : q11.1 = false
        · rw [if_pos c12] at h
          refine ex_if_eq_t (pc := 99) 116 dX2_readOrder_99 rfl (jz_eq_t c12) ?_
          refine ex_iconst (pc := 116) 0 dX2_readOrder_116 rfl ?_
          cases h
          exact ex_ireturn (pc := 117) dX2_readOrder_117
        · rw [if_neg c12] at h
          refine ex_if_eq_f (pc := 99) dX2_readOrder_99 116 rfl (jz_eq_f c12) ?_
          refine ex_aload_n (pc := 102) 0 dX2_readOrder_102 rfl rfl ?_
          refine ex_iconst (pc := 103) 2 dX2_readOrder_103 rfl ?_
          refine ex_iconst (pc := 104) 0 dX2_readOrder_104 rfl ?_
          refine ex_iconst (pc := 105) 4 dX2_readOrder_105 rfl ?_
          obtain ⟨q13, eq13, h⟩ := ob_some h
          refine ex_callV3r (pc := 106) dX2_readOrder_106 jX2_readPart lmX2_101 jiX2_readPart jvX2_readPart (o_X2_readPart eq13) rfl (Nat.le_of_ble_eq_true rfl) (s_X2_readPart (by omega)  eq13) ?_
          by_cases c14 : q13.1 = false
          · rw [if_pos c14] at h
            refine ex_if_eq_t (pc := 109) 116 dX2_readOrder_109 rfl (jz_eq_t c14) ?_
            refine ex_iconst (pc := 116) 0 dX2_readOrder_116 rfl ?_
            cases h
            exact ex_ireturn (pc := 117) dX2_readOrder_117
          · rw [if_neg c14] at h
            refine ex_if_eq_f (pc := 109) dX2_readOrder_109 116 rfl (jz_eq_f c14) ?_
            refine ex_iconst (pc := 112) 1 dX2_readOrder_112 rfl ?_
            refine ex_goto (pc := 113) 117 dX2_readOrder_113 rfl ?_
            cases h
            exact ex_ireturn (pc := 117) dX2_readOrder_117
    · rw [if_neg c8] at h
      by_cases c15 : x1 = 7
      · rw [if_pos c15] at h
        refine ex_tabIn (pc := 1) 154 dX2_readOrder_1 (by rw [c15]; decide) (by rw [c15]; decide) (by rw [c15]; rfl) rfl ?_
        refine ex_aload_n (pc := 154) 0 dX2_readOrder_154 rfl rfl ?_
        refine ex_iconst (pc := 155) 1 dX2_readOrder_155 rfl ?_
        refine ex_iconst (pc := 156) 0 dX2_readOrder_156 rfl ?_
        refine ex_iconst (pc := 157) 4 dX2_readOrder_157 rfl ?_
        obtain ⟨q16, eq16, h⟩ := ob_some h
        refine ex_callV3r (pc := 158) dX2_readOrder_158 jX2_readPart lmX2_101 jiX2_readPart jvX2_readPart (o_X2_readPart eq16) rfl (Nat.le_of_ble_eq_true rfl) (s_X2_readPart (by omega)  eq16) ?_
        cases h
        exact ex_ireturn (pc := 161) dX2_readOrder_161
      · rw [if_neg c15] at h
        by_cases c17 : x1 = 8
        · rw [if_pos c17] at h
          refine ex_tabIn (pc := 1) 118 dX2_readOrder_1 (by rw [c17]; decide) (by rw [c17]; decide) (by rw [c17]; rfl) rfl ?_
          refine ex_aload_n (pc := 118) 0 dX2_readOrder_118 rfl rfl ?_
          refine ex_iconst (pc := 119) 1 dX2_readOrder_119 rfl ?_
          refine ex_iconst (pc := 120) 0 dX2_readOrder_120 rfl ?_
          refine ex_iconst (pc := 121) 4 dX2_readOrder_121 rfl ?_
          obtain ⟨q18, eq18, h⟩ := ob_some h
          refine ex_callV3r (pc := 122) dX2_readOrder_122 jX2_readPart lmX2_101 jiX2_readPart jvX2_readPart (o_X2_readPart eq18) rfl (Nat.le_of_ble_eq_true rfl) (s_X2_readPart (by omega)  eq18) ?_
          by_cases c19 : q18.1 = false
          · rw [if_pos c19] at h
            refine ex_if_eq_t (pc := 125) 152 dX2_readOrder_125 rfl (jz_eq_t c19) ?_
            refine ex_iconst (pc := 152) 0 dX2_readOrder_152 rfl ?_
            cases h
            exact ex_ireturn (pc := 153) dX2_readOrder_153
          · rw [if_neg c19] at h
            refine ex_if_eq_f (pc := 125) dX2_readOrder_125 152 rfl (jz_eq_f c19) ?_
            refine ex_aload_n (pc := 128) 0 dX2_readOrder_128 rfl rfl ?_
            refine ex_bipush (pc := 129) 17 dX2_readOrder_129 (by decide) ?_
            obtain ⟨q20, eq20, h⟩ := ob_some h
            refine ex_callV1r (pc := 131) dX2_readOrder_131 jX2_expect lmX2_98 jiX2_expect jvX2_expect (o_X2_expect eq20) rfl (Nat.le_of_ble_eq_true rfl) (s_X2_expect (by omega)  eq20) ?_
            by_cases c21 : q20.1 = false
            · rw [if_pos c21] at h
              refine ex_if_eq_t (pc := 134) 152 dX2_readOrder_134 rfl (jz_eq_t c21) ?_
              refine ex_iconst (pc := 152) 0 dX2_readOrder_152 rfl ?_
              cases h
              exact ex_ireturn (pc := 153) dX2_readOrder_153
            · rw [if_neg c21] at h
              refine ex_if_eq_f (pc := 134) dX2_readOrder_134 152 rfl (jz_eq_f c21) ?_
              refine ex_aload_n (pc := 137) 0 dX2_readOrder_137 rfl rfl ?_
              refine ex_iconst (pc := 138) 2 dX2_readOrder_138 rfl ?_
              refine ex_iconst (pc := 139) 0 dX2_readOrder_139 rfl ?_
              refine ex_bipush (pc := 140) 9 dX2_readOrder_140 (by decide) ?_
              obtain ⟨q22, eq22, h⟩ := ob_some h
              refine ex_callV3r (pc := 142) dX2_readOrder_142 jX2_readPart lmX2_101 jiX2_readPart jvX2_readPart (o_X2_readPart eq22) rfl (Nat.le_of_ble_eq_true rfl) (s_X2_readPart (by omega)  eq22) ?_
              by_cases c23 : q22.1 = false
              · rw [if_pos c23] at h
                refine ex_if_eq_t (pc := 145) 152 dX2_readOrder_145 rfl (jz_eq_t c23) ?_
                refine ex_iconst (pc := 152) 0 dX2_readOrder_152 rfl ?_
                cases h
                exact ex_ireturn (pc := 153) dX2_readOrder_153
              · rw [if_neg c23] at h
                refine ex_if_eq_f (pc := 145) dX2_readOrder_145 152 rfl (jz_eq_f c23) ?_
                refine ex_iconst (pc := 148) 1 dX2_readOrder_148 rfl ?_
                refine ex_goto (pc := 149) 153 dX2_readOrder_149 rfl ?_
                cases h
                exact ex_ireturn (pc := 153) dX2_readOrder_153
        · rw [if_neg c17] at h
          by_cases c24 : x1 = 9
          · rw [if_pos c24] at h
            refine ex_tabIn (pc := 1) 162 dX2_readOrder_1 (by rw [c24]; decide) (by rw [c24]; decide) (by rw [c24]; rfl) rfl ?_
            refine ex_aload_n (pc := 162) 0 dX2_readOrder_162 rfl rfl ?_
            refine ex_iconst (pc := 163) 1 dX2_readOrder_163 rfl ?_
            refine ex_iconst (pc := 164) 1 dX2_readOrder_164 rfl ?_
            refine ex_bipush (pc := 165) 60 dX2_readOrder_165 (by decide) ?_
            obtain ⟨q25, eq25, h⟩ := ob_some h
            refine ex_callV3r (pc := 167) dX2_readOrder_167 jX2_readPart lmX2_101 jiX2_readPart jvX2_readPart (o_X2_readPart eq25) rfl (Nat.le_of_ble_eq_true rfl) (s_X2_readPart (by omega)  eq25) ?_
            cases h
            exact ex_ireturn (pc := 170) dX2_readOrder_170
          · rw [if_neg c24] at h
            have zc1 : ¬ (x1).toInt = 3 := fun e9 => c1 (i32_of e9 (by decide))
            have zc8 : ¬ (x1).toInt = 6 := fun e9 => c8 (i32_of e9 (by decide))
            have zc15 : ¬ (x1).toInt = 7 := fun e9 => c15 (i32_of e9 (by decide))
            have zc17 : ¬ (x1).toInt = 8 := fun e9 => c17 (i32_of e9 (by decide))
            have zc24 : ¬ (x1).toInt = 9 := fun e9 => c24 (i32_of e9 (by decide))
            have hg : (x1).toInt < 3 ∨ 9 < (x1).toInt ∨ (x1).toInt = 4 ∨ (x1).toInt = 5 := by omega
            suffices hsw : Ex _ _ _ 171 [(0, .ref x0), (1, .int x1)] [] M _ _ by
              rcases hg with hg | hg | hg | hg
              · exact ex_tabOut (pc := 1) 171 dX2_readOrder_1 (Or.inl hg) rfl hsw
              · exact ex_tabOut (pc := 1) 171 dX2_readOrder_1 (Or.inr hg) rfl hsw
              · exact ex_tabIn (pc := 1) 171 dX2_readOrder_1 (by omega) (by omega) (by rw [hg]; rfl) rfl hsw
              · exact ex_tabIn (pc := 1) 171 dX2_readOrder_1 (by omega) (by omega) (by rw [hg]; rfl) rfl hsw
            refine ex_aload_n (pc := 171) 0 dX2_readOrder_171 rfl rfl ?_
            refine ex_iconst (pc := 172) 1 dX2_readOrder_172 rfl ?_
            refine ex_iconst (pc := 173) 0 dX2_readOrder_173 rfl ?_
            refine ex_bipush (pc := 174) 9 dX2_readOrder_174 (by decide) ?_
            obtain ⟨q26, eq26, h⟩ := ob_some h
            refine ex_callV3r (pc := 176) dX2_readOrder_176 jX2_readPart lmX2_101 jiX2_readPart jvX2_readPart (o_X2_readPart eq26) rfl (Nat.le_of_ble_eq_true rfl) (s_X2_readPart (by omega)  eq26) ?_
            by_cases c27 : q26.1 = false
            · rw [if_pos c27] at h
              refine ex_if_eq_t (pc := 179) 206 dX2_readOrder_179 rfl (jz_eq_t c27) ?_
              refine ex_iconst (pc := 206) 0 dX2_readOrder_206 rfl ?_
              cases h
              exact ex_ireturn (pc := 207) dX2_readOrder_207
            · rw [if_neg c27] at h
              refine ex_if_eq_f (pc := 179) dX2_readOrder_179 206 rfl (jz_eq_f c27) ?_
              refine ex_aload_n (pc := 182) 0 dX2_readOrder_182 rfl rfl ?_
              refine ex_bipush (pc := 183) 16 dX2_readOrder_183 (by decide) ?_
              obtain ⟨q28, eq28, h⟩ := ob_some h
              refine ex_callV1r (pc := 185) dX2_readOrder_185 jX2_expect lmX2_98 jiX2_expect jvX2_expect (o_X2_expect eq28) rfl (Nat.le_of_ble_eq_true rfl) (s_X2_expect (by omega)  eq28) ?_
              by_cases c29 : q28.1 = false
              · rw [if_pos c29] at h
                refine ex_if_eq_t (pc := 188) 206 dX2_readOrder_188 rfl (jz_eq_t c29) ?_
                refine ex_iconst (pc := 206) 0 dX2_readOrder_206 rfl ?_
                cases h
                exact ex_ireturn (pc := 207) dX2_readOrder_207
              · rw [if_neg c29] at h
                refine ex_if_eq_f (pc := 188) dX2_readOrder_188 206 rfl (jz_eq_f c29) ?_
                refine ex_aload_n (pc := 191) 0 dX2_readOrder_191 rfl rfl ?_
                refine ex_iconst (pc := 192) 2 dX2_readOrder_192 rfl ?_
                refine ex_iconst (pc := 193) 0 dX2_readOrder_193 rfl ?_
                refine ex_bipush (pc := 194) 110 dX2_readOrder_194 (by decide) ?_
                obtain ⟨q30, eq30, h⟩ := ob_some h
                refine ex_callV3r (pc := 196) dX2_readOrder_196 jX2_readPart lmX2_101 jiX2_readPart jvX2_readPart (o_X2_readPart eq30) rfl (Nat.le_of_ble_eq_true rfl) (s_X2_readPart (by omega)  eq30) ?_
                by_cases c31 : q30.1 = false
                · rw [if_pos c31] at h
                  refine ex_if_eq_t (pc := 199) 206 dX2_readOrder_199 rfl (jz_eq_t c31) ?_
                  refine ex_iconst (pc := 206) 0 dX2_readOrder_206 rfl ?_
                  cases h
                  exact ex_ireturn (pc := 207) dX2_readOrder_207
                · rw [if_neg c31] at h
                  refine ex_if_eq_f (pc := 199) dX2_readOrder_199 206 rfl (jz_eq_f c31) ?_
                  refine ex_iconst (pc := 202) 1 dX2_readOrder_202 rfl ?_
                  refine ex_goto (pc := 203) 207 dX2_readOrder_203 rfl ?_
                  cases h
                  exact ex_ireturn (pc := 207) dX2_readOrder_207
noncomputable def f_X2_readOrder (x0 : Nat) (x1 : Int32) (M : Mem) : Option (Bool × Mem) := if isOb M 2 x0 = true then f_X2_readOrder_0 x0 x1 M else none
theorem o_X2_readOrder {x0 : Nat} {x1 : Int32} {M : Mem} {res : Bool × Mem} (h : f_X2_readOrder x0 x1 M = some res) : isO M 2 x0 := by
  unfold f_X2_readOrder at h
  split at h
  · rename_i hc; exact isOb_iff hc
  · cases h
set_option maxHeartbeats 4000000 in
theorem s_X2_readOrder {X : XV} {d : Nat} (hd : 8 ≤ d) {x0 : Nat} {x1 : Int32} {M : Mem} {res : Bool × Mem} (h : f_X2_readOrder x0 x1 M = some res) : Mx X d mX2_readOrder [.ref x0, .int x1] M (some (.int (jz res.1))) res.2 := by
  obtain ⟨d, rfl⟩ : ∃ e, d = e + 1 := ⟨d - 1, by omega⟩
  unfold f_X2_readOrder at h
  split at h
  rotate_left
  · cases h
  refine Mx.of (by decide) (Nat.le_of_ble_eq_true rfl) (⟨_, rfl, jz_nar _⟩) ?_
  exact ex_sub (lo' := [(0, .ref x0), (1, .int x1)]) [0, 1] rfl (t_X2_readOrder_0 hd _ _ _ _  h)
noncomputable def f_J7_copyOf_59c91_0 (x0 : Nat) (x1 : Int32) (M : Mem) : Option (Nat × Mem) :=
  (lnA M x0).bind fun v1 =>
  if x1 = v1 then
  ((clI M x0).bind fun q6 =>
  some (M.1, q6))
  else
  ((nwI M x1).bind fun q3 =>
  (lnA q3 x0).bind fun v4 =>
  (cpI q3 x0 0 M.1 0 (jmin v4 x1)).bind fun q5 =>
  some (M.1, q5))
set_option maxHeartbeats 4000000 in
theorem t_J7_copyOf_59c91_0 {X : XV} {d : Nat} (hd : 1 ≤ d + 1) : ∀ (x0 : Nat) (x1 : Int32) (M : Mem) (res : Nat × Mem), f_J7_copyOf_59c91_0  x0 x1 M = some res → Ex X (d + 1) mJ7_copyOf_59c91 0 [(0, .ref x0), (1, .int x1)] [] M (some (.ref res.1)) res.2 := by
  intro x0 x1 M res  h
  unfold f_J7_copyOf_59c91_0 at h
  refine ex_iload_n (pc := 0) 1 dJ7_copyOf_59c91_0 rfl rfl ?_
  refine ex_aload_n (pc := 1) 0 dJ7_copyOf_59c91_1 rfl rfl ?_
  obtain ⟨v1, ev1, h⟩ := ob_some h
  refine ex_ln (pc := 2) ev1 dJ7_copyOf_59c91_2 ?_
  by_cases c2 : x1 = v1
  · rw [if_pos c2] at h
    refine ex_icmp_ne_f (pc := 3) dJ7_copyOf_59c91_3 14 rfl c2 ?_
    refine ex_aload_n (pc := 6) 0 dJ7_copyOf_59c91_6 rfl rfl ?_
    obtain ⟨q6, eq6, h⟩ := ob_some h
    refine ex_clI (pc := 7) eq6 dJ7_copyOf_59c91_7 lmJ7_316 (by omega) (Nat.le_of_ble_eq_true rfl) ?_
    have hcast := clI_kind eq6
    refine ex_castI (pc := 10) (by first | assumption | skip) dJ7_copyOf_59c91_10 lcJ7_317 ?_
    cases h
    exact ex_areturn (pc := 13) dJ7_copyOf_59c91_13
  · rw [if_neg c2] at h
    refine ex_icmp_ne_t (pc := 3) 14 dJ7_copyOf_59c91_3 rfl c2 ?_
    refine ex_iload_n (pc := 14) 1 dJ7_copyOf_59c91_14 rfl rfl ?_
    obtain ⟨q3, eq3, h⟩ := ob_some h
    refine ex_nwI (pc := 15) eq3 dJ7_copyOf_59c91_15 ?_
    refine ex_astore_n (pc := 17) [(2, .ref M.1), (0, .ref x0), (1, .int x1)] dJ7_copyOf_59c91_17 rfl (by decide) rfl ?_
    refine ex_aload_n (pc := 18) 1 dJ7_copyOf_59c91_18 rfl rfl ?_
    refine ex_iconst (pc := 19) 0 dJ7_copyOf_59c91_19 rfl ?_
    refine ex_aload_n (pc := 20) 0 dJ7_copyOf_59c91_20 rfl rfl ?_
    refine ex_iconst (pc := 21) 0 dJ7_copyOf_59c91_21 rfl ?_
    refine ex_aload_n (pc := 22) 1 dJ7_copyOf_59c91_22 rfl rfl ?_
    obtain ⟨v4, ev4, h⟩ := ob_some h
    refine ex_ln (pc := 23) ev4 dJ7_copyOf_59c91_23 ?_
    refine ex_iload_n (pc := 24) 2 dJ7_copyOf_59c91_24 rfl rfl ?_
    refine ex_mmin (pc := 25) dJ7_copyOf_59c91_25 lmJ7_304 (by omega) (Nat.le_of_ble_eq_true rfl) ?_
    obtain ⟨q5, eq5, h⟩ := ob_some h
    refine ex_cp (pc := 28) eq5 dJ7_copyOf_59c91_28 lmJ7_150 (by omega) (Nat.le_of_ble_eq_true rfl) ?_
    refine ex_aload_n (pc := 31) 0 dJ7_copyOf_59c91_31 rfl rfl ?_
    cases h
    exact ex_areturn (pc := 32) dJ7_copyOf_59c91_32
noncomputable def f_J7_copyOf_59c91 (x0 : Nat) (x1 : Int32) (M : Mem) : Option (Nat × Mem) := f_J7_copyOf_59c91_0 x0 x1 M
set_option maxHeartbeats 4000000 in
theorem s_J7_copyOf_59c91 {X : XV} {d : Nat} (hd : 1 ≤ d) {x0 : Nat} {x1 : Int32} {M : Mem} {res : Nat × Mem} (h : f_J7_copyOf_59c91 x0 x1 M = some res) : Mx X d mJ7_copyOf_59c91 [.ref x0, .int x1] M (some (.ref res.1)) res.2 := by
  obtain ⟨d, rfl⟩ : ∃ e, d = e + 1 := ⟨d - 1, by omega⟩
  unfold f_J7_copyOf_59c91 at h
  refine Mx.of (by decide) (Nat.le_of_ble_eq_true rfl) (⟨_, rfl, by first | exact Or.inl ⟨_, rfl⟩ | exact Or.inr ⟨_, rfl⟩⟩) ?_
  exact ex_sub (lo' := [(0, .ref x0), (1, .int x1)]) [0, 1] rfl (t_J7_copyOf_59c91_0 hd _ _ _ _  h)
noncomputable def f_X8_init_0 (x0 : Nat) (x1 : Nat) (x2 : Nat) (x3 : Nat) (x4 : Nat) (x5 : Nat) (x6 : Int32) (M : Mem) : Option (Mem) :=
  (pF M 8 x0 0 (.ref x1)).bind fun q1 =>
  (pF q1 8 x0 1 (.ref x2)).bind fun q2 =>
  (pF q2 8 x0 2 (.ref x3)).bind fun q3 =>
  (pF q3 8 x0 3 (.ref x4)).bind fun q4 =>
  (pF q4 8 x0 4 (.ref x5)).bind fun q5 =>
  (pF q5 8 x0 5 (.int x6)).bind fun q6 =>
  some q6
set_option maxHeartbeats 4000000 in
theorem t_X8_init_0 {X : XV} {d : Nat} (hd : 1 ≤ d + 1) : ∀ (x0 : Nat) (x1 : Nat) (x2 : Nat) (x3 : Nat) (x4 : Nat) (x5 : Nat) (x6 : Int32) (M : Mem) (res : Mem), f_X8_init_0  x0 x1 x2 x3 x4 x5 x6 M = some res → Ex X (d + 1) mX8_init 0 [(0, .ref x0), (1, .ref x1), (2, .ref x2), (3, .ref x3), (4, .ref x4), (5, .ref x5), (6, .int x6)] [] M none res := by
  intro x0 x1 x2 x3 x4 x5 x6 M res  h
  unfold f_X8_init_0 at h
  refine ex_aload_n (pc := 0) 0 dX8_init_0 rfl rfl ?_
  refine ex_obj (pc := 1) dX8_init_1 lmX8_3 (by omega) (Nat.le_of_ble_eq_true rfl) ?_
  refine ex_aload_n (pc := 4) 0 dX8_init_4 rfl rfl ?_
  refine ex_aload_n (pc := 5) 1 dX8_init_5 rfl rfl ?_
  obtain ⟨q1, eq1, h⟩ := ob_some h
  refine ex_pFF (pc := 6) eq1 dX8_init_6 lfX8_9 rfl rfl (fun _ hq => by cases hq; exact ⟨rfl, rfl⟩) rfl ?_
  refine ex_aload_n (pc := 9) 0 dX8_init_9 rfl rfl ?_
  refine ex_aload_n (pc := 10) 2 dX8_init_10 rfl rfl ?_
  obtain ⟨q2, eq2, h⟩ := ob_some h
  refine ex_pFF (pc := 11) eq2 dX8_init_11 lfX8_15 rfl rfl (fun _ hq => by cases hq; exact ⟨rfl, rfl⟩) rfl ?_
  refine ex_aload_n (pc := 14) 0 dX8_init_14 rfl rfl ?_
  refine ex_aload_n (pc := 15) 3 dX8_init_15 rfl rfl ?_
  obtain ⟨q3, eq3, h⟩ := ob_some h
  refine ex_pFF (pc := 16) eq3 dX8_init_16 lfX8_18 rfl rfl (fun _ hq => by cases hq; exact ⟨rfl, rfl⟩) rfl ?_
  refine ex_aload_n (pc := 19) 0 dX8_init_19 rfl rfl ?_
  refine ex_aload (pc := 20) 4 dX8_init_20 rfl ?_
  obtain ⟨q4, eq4, h⟩ := ob_some h
  refine ex_pFF (pc := 22) eq4 dX8_init_22 lfX8_21 rfl rfl (fun _ hq => by cases hq; exact ⟨rfl, rfl⟩) rfl ?_
  refine ex_aload_n (pc := 25) 0 dX8_init_25 rfl rfl ?_
  refine ex_aload (pc := 26) 5 dX8_init_26 rfl ?_
  obtain ⟨q5, eq5, h⟩ := ob_some h
  refine ex_pFF (pc := 28) eq5 dX8_init_28 lfX8_24 rfl rfl (fun _ hq => by cases hq; exact ⟨rfl, rfl⟩) rfl ?_
  refine ex_aload_n (pc := 31) 0 dX8_init_31 rfl rfl ?_
  refine ex_iload (pc := 32) 6 dX8_init_32 rfl ?_
  obtain ⟨q6, eq6, h⟩ := ob_some h
  refine ex_pFF (pc := 34) eq6 dX8_init_34 lfX8_27 rfl rfl (fun _ hq => by cases hq; exact ⟨rfl, rfl⟩) rfl ?_
  cases h
  exact ex_return (pc := 37) dX8_init_37
noncomputable def f_X8_init (x0 : Nat) (x1 : Nat) (x2 : Nat) (x3 : Nat) (x4 : Nat) (x5 : Nat) (x6 : Int32) (M : Mem) : Option (Mem) := f_X8_init_0 x0 x1 x2 x3 x4 x5 x6 M
set_option maxHeartbeats 4000000 in
theorem s_X8_init {X : XV} {d : Nat} (hd : 1 ≤ d) {x0 : Nat} {x1 : Nat} {x2 : Nat} {x3 : Nat} {x4 : Nat} {x5 : Nat} {x6 : Int32} {M : Mem} {res : Mem} (h : f_X8_init x0 x1 x2 x3 x4 x5 x6 M = some res) : Mx X d mX8_init [.ref x0, .ref x1, .ref x2, .ref x3, .ref x4, .ref x5, .int x6] M none res := by
  obtain ⟨d, rfl⟩ : ∃ e, d = e + 1 := ⟨d - 1, by omega⟩
  unfold f_X8_init at h
  refine Mx.of (by decide) (Nat.le_of_ble_eq_true rfl) (rfl) ?_
  exact ex_sub (lo' := [(0, .ref x0), (1, .ref x1), (2, .ref x2), (3, .ref x3), (4, .ref x4), (5, .ref x5), (6, .int x6)]) [0, 1, 2, 3, 4, 5, 6] rfl (t_X8_init_0 hd _ _ _ _ _ _ _ _ _  h)
noncomputable def f_X2_compiled_0 (x0 : Nat) (M : Mem) : Option (Option Nat × Mem) :=
  (some (nwO M 8 6)).bind fun q1 =>
  (gR q1 2 x0 7).bind fun v2 =>
  (gI q1 2 x0 5).bind fun v3 =>
  (f_J7_copyOf_59c91 v2 v3 q1).bind fun q4 =>
  (gR q4.2 2 x0 8).bind fun v5 =>
  (gI q4.2 2 x0 5).bind fun v6 =>
  (f_J7_copyOf_59c91 v5 v6 q4.2).bind fun q7 =>
  (gR q7.2 2 x0 9).bind fun v8 =>
  (clI q7.2 v8).bind fun q9 =>
  (gR q9 2 x0 10).bind fun v10 =>
  (clI q9 v10).bind fun q11 =>
  (gR q11 2 x0 11).bind fun v12 =>
  (gI q11 2 x0 6).bind fun v13 =>
  (f_J7_copyOf_59c91 v12 (v13 * 3) q11).bind fun q14 =>
  (gI q14.2 2 x0 6).bind fun v15 =>
  (f_X8_init M.1 q4.1 q7.1 q7.2.1 q9.1 q14.1 v15 q14.2).bind fun q16 =>
  some ((some M.1), q16)
set_option maxHeartbeats 4000000 in
theorem t_X2_compiled_0 {X : XV} {d : Nat} (hd : 2 ≤ d + 1) : ∀ (x0 : Nat) (M : Mem) (res : Option Nat × Mem), f_X2_compiled_0  x0 M = some res → Ex X (d + 1) mX2_compiled 0 [(0, .ref x0)] [] M (some (va_rf res.1)) res.2 := by
  intro x0 M res  h
  unfold f_X2_compiled_0 at h
  obtain ⟨q1, eq1, h⟩ := ob_some h
  refine ex_nwO (pc := 0) eq1 dX2_compiled_0 lwX2_65 ?_
  refine ex_dup (pc := 3) dX2_compiled_3 rfl ?_
  refine ex_aload_n (pc := 4) 0 dX2_compiled_4 rfl rfl ?_
  obtain ⟨v2, ev2, h⟩ := ob_some h
  refine ex_gR (pc := 5) ev2 dX2_compiled_5 lfX2_18 ?_
  refine ex_aload_n (pc := 8) 0 dX2_compiled_8 rfl rfl ?_
  obtain ⟨v3, ev3, h⟩ := ob_some h
  refine ex_gI (pc := 9) ev3 dX2_compiled_9 lfX2_41 ?_
  obtain ⟨q4, eq4, h⟩ := ob_some h
  refine ex_callS2r (pc := 12) dX2_compiled_12 jJ7_copyOf_59c91 lmX2_67 jsJ7_copyOf_59c91 (Nat.le_of_ble_eq_true rfl) (s_J7_copyOf_59c91 (by omega)  eq4) ?_
  refine ex_aload_n (pc := 15) 0 dX2_compiled_15 rfl rfl ?_
  obtain ⟨v5, ev5, h⟩ := ob_some h
  refine ex_gR (pc := 16) ev5 dX2_compiled_16 lfX2_22 ?_
  refine ex_aload_n (pc := 19) 0 dX2_compiled_19 rfl rfl ?_
  obtain ⟨v6, ev6, h⟩ := ob_some h
  refine ex_gI (pc := 20) ev6 dX2_compiled_20 lfX2_41 ?_
  obtain ⟨q7, eq7, h⟩ := ob_some h
  refine ex_callS2r (pc := 23) dX2_compiled_23 jJ7_copyOf_59c91 lmX2_67 jsJ7_copyOf_59c91 (Nat.le_of_ble_eq_true rfl) (s_J7_copyOf_59c91 (by omega)  eq7) ?_
  refine ex_aload_n (pc := 26) 0 dX2_compiled_26 rfl rfl ?_
  obtain ⟨v8, ev8, h⟩ := ob_some h
  refine ex_gR (pc := 27) ev8 dX2_compiled_27 lfX2_25 ?_
  obtain ⟨q9, eq9, h⟩ := ob_some h
  refine ex_clI (pc := 30) eq9 dX2_compiled_30 lmX2_71 (by omega) (Nat.le_of_ble_eq_true rfl) ?_
  have hcast := clI_kind eq9
  refine ex_castI (pc := 33) (by first | assumption | skip) dX2_compiled_33 lcX2_72 ?_
  refine ex_aload_n (pc := 36) 0 dX2_compiled_36 rfl rfl ?_
  obtain ⟨v10, ev10, h⟩ := ob_some h
  refine ex_gR (pc := 37) ev10 dX2_compiled_37 lfX2_28 ?_
  obtain ⟨q11, eq11, h⟩ := ob_some h
  refine ex_clI (pc := 40) eq11 dX2_compiled_40 lmX2_71 (by omega) (Nat.le_of_ble_eq_true rfl) ?_
  have hcast := clI_kind eq11
  refine ex_castI (pc := 43) (by first | assumption | skip) dX2_compiled_43 lcX2_72 ?_
  refine ex_aload_n (pc := 46) 0 dX2_compiled_46 rfl rfl ?_
  obtain ⟨v12, ev12, h⟩ := ob_some h
  refine ex_gR (pc := 47) ev12 dX2_compiled_47 lfX2_31 ?_
  refine ex_aload_n (pc := 50) 0 dX2_compiled_50 rfl rfl ?_
  obtain ⟨v13, ev13, h⟩ := ob_some h
  refine ex_gI (pc := 51) ev13 dX2_compiled_51 lfX2_44 ?_
  refine ex_iconst (pc := 54) 3 dX2_compiled_54 rfl ?_
  refine ex_imul (pc := 55) dX2_compiled_55 ?_
  obtain ⟨q14, eq14, h⟩ := ob_some h
  refine ex_callS2r (pc := 56) dX2_compiled_56 jJ7_copyOf_59c91 lmX2_67 jsJ7_copyOf_59c91 (Nat.le_of_ble_eq_true rfl) (s_J7_copyOf_59c91 (by omega)  eq14) ?_
  refine ex_aload_n (pc := 59) 0 dX2_compiled_59 rfl rfl ?_
  obtain ⟨v15, ev15, h⟩ := ob_some h
  refine ex_gI (pc := 60) ev15 dX2_compiled_60 lfX2_44 ?_
  obtain ⟨q16, eq16, h⟩ := ob_some h
  refine ex_callI6v (pc := 63) dX2_compiled_63 jX8_init lmX2_76 jiX8_init rfl rfl (Nat.le_of_ble_eq_true rfl) (s_X8_init (by omega)  eq16) ?_
  cases h
  exact ex_areturn (pc := 66) dX2_compiled_66
noncomputable def f_X2_compiled (x0 : Nat) (M : Mem) : Option (Option Nat × Mem) := if isOb M 2 x0 = true then f_X2_compiled_0 x0 M else none
theorem o_X2_compiled {x0 : Nat} {M : Mem} {res : Option Nat × Mem} (h : f_X2_compiled x0 M = some res) : isO M 2 x0 := by
  unfold f_X2_compiled at h
  split at h
  · rename_i hc; exact isOb_iff hc
  · cases h
set_option maxHeartbeats 4000000 in
theorem s_X2_compiled {X : XV} {d : Nat} (hd : 2 ≤ d) {x0 : Nat} {M : Mem} {res : Option Nat × Mem} (h : f_X2_compiled x0 M = some res) : Mx X d mX2_compiled [.ref x0] M (some (va_rf res.1)) res.2 := by
  obtain ⟨d, rfl⟩ : ∃ e, d = e + 1 := ⟨d - 1, by omega⟩
  unfold f_X2_compiled at h
  split at h
  rotate_left
  · cases h
  have rok : mx_rok mX2_compiled (some (va_rf res.1)) := mx_rok_q (by exact ⟨_, rfl, Or.inl ⟨_, rfl⟩⟩)
  refine Mx.of (by decide) (Nat.le_of_ble_eq_true rfl) rok ?_
  exact ex_sub (lo' := [(0, .ref x0)]) [0] rfl (t_X2_compiled_0 hd _ _ _  h)
noncomputable def f_X2_readNumber_0 (x0 : Nat) (M : Mem) : Option (Bool × Mem) :=
  (gR M 2 x0 0).bind fun v1 =>
  (gI M 7 v1 3).bind fun v2 =>
  if v2 ≤ 9999 then
  ((gR M 2 x0 0).bind fun v4 =>
  (gI M 7 v4 3).bind fun v5 =>
  (f_X2_order x0 27 v5 M).bind fun q6 =>
  (gR q6.2 2 x0 0).bind fun v7 =>
  (f_X7_advance v7 q6.2).bind fun q8 =>
  some (true, q8))
  else
  ((f_X2_refuse x0 2 M).bind fun q9 =>
  some (q9.1, q9.2))
set_option maxHeartbeats 4000000 in
theorem t_X2_readNumber_0 {X : XV} {d : Nat} (hd : 7 ≤ d + 1) : ∀ (x0 : Nat) (M : Mem) (res : Bool × Mem), f_X2_readNumber_0  x0 M = some res → Ex X (d + 1) mX2_readNumber 0 [(0, .ref x0)] [] M (some (.int (jz res.1))) res.2 := by
  intro x0 M res  h
  unfold f_X2_readNumber_0 at h
  refine ex_aload_n (pc := 0) 0 dX2_readNumber_0 rfl rfl ?_
  obtain ⟨v1, ev1, h⟩ := ob_some h
  refine ex_gR (pc := 1) ev1 dX2_readNumber_1 lfX2_34 ?_
  obtain ⟨v2, ev2, h⟩ := ob_some h
  refine ex_gI (pc := 4) ev2 dX2_readNumber_4 lfX2_105 ?_
  refine ex_sipush (pc := 7) 9999 dX2_readNumber_7 (by decide) ?_
  by_cases c3 : v2 ≤ 9999
  · rw [if_pos c3] at h
    refine ex_icmp_le_t (pc := 10) 19 dX2_readNumber_10 rfl c3 ?_
    refine ex_aload_n (pc := 19) 0 dX2_readNumber_19 rfl rfl ?_
    refine ex_bipush (pc := 20) 27 dX2_readNumber_20 (by decide) ?_
    refine ex_aload_n (pc := 22) 0 dX2_readNumber_22 rfl rfl ?_
    obtain ⟨v4, ev4, h⟩ := ob_some h
    refine ex_gR (pc := 23) ev4 dX2_readNumber_23 lfX2_34 ?_
    obtain ⟨v5, ev5, h⟩ := ob_some h
    refine ex_gI (pc := 26) ev5 dX2_readNumber_26 lfX2_105 ?_
    obtain ⟨q6, eq6, h⟩ := ob_some h
    refine ex_callV2r (pc := 29) dX2_readNumber_29 jX2_order lmX2_114 jiX2_order jvX2_order (o_X2_order eq6) rfl (Nat.le_of_ble_eq_true rfl) (s_X2_order (by omega)  eq6) ?_
    refine ex_pop (pc := 32) dX2_readNumber_32 rfl ?_
    refine ex_aload_n (pc := 33) 0 dX2_readNumber_33 rfl rfl ?_
    obtain ⟨v7, ev7, h⟩ := ob_some h
    refine ex_gR (pc := 34) ev7 dX2_readNumber_34 lfX2_34 ?_
    obtain ⟨q8, eq8, h⟩ := ob_some h
    refine ex_callV0v (pc := 37) dX2_readNumber_37 jX7_advance lmX2_86 jiX7_advance jvX7_advance (o_X7_advance eq8) rfl (Nat.le_of_ble_eq_true rfl) (s_X7_advance (by omega)  eq8) ?_
    refine ex_iconst (pc := 40) 1 dX2_readNumber_40 rfl ?_
    cases h
    exact ex_ireturn (pc := 41) dX2_readNumber_41
  · rw [if_neg c3] at h
    refine ex_icmp_le_f (pc := 10) dX2_readNumber_10 19 rfl c3 ?_
    refine ex_aload_n (pc := 13) 0 dX2_readNumber_13 rfl rfl ?_
    refine ex_iconst (pc := 14) 2 dX2_readNumber_14 rfl ?_
    obtain ⟨q9, eq9, h⟩ := ob_some h
    refine ex_callV1r (pc := 15) dX2_readNumber_15 jX2_refuse lmX2_82 jiX2_refuse jvX2_refuse (o_X2_refuse eq9) rfl (Nat.le_of_ble_eq_true rfl) (s_X2_refuse (by omega)  eq9) ?_
    cases h
    exact ex_ireturn (pc := 18) dX2_readNumber_18
noncomputable def f_X2_readNumber (x0 : Nat) (M : Mem) : Option (Bool × Mem) := if isOb M 2 x0 = true then f_X2_readNumber_0 x0 M else none
theorem o_X2_readNumber {x0 : Nat} {M : Mem} {res : Bool × Mem} (h : f_X2_readNumber x0 M = some res) : isO M 2 x0 := by
  unfold f_X2_readNumber at h
  split at h
  · rename_i hc; exact isOb_iff hc
  · cases h
set_option maxHeartbeats 4000000 in
theorem s_X2_readNumber {X : XV} {d : Nat} (hd : 7 ≤ d) {x0 : Nat} {M : Mem} {res : Bool × Mem} (h : f_X2_readNumber x0 M = some res) : Mx X d mX2_readNumber [.ref x0] M (some (.int (jz res.1))) res.2 := by
  obtain ⟨d, rfl⟩ : ∃ e, d = e + 1 := ⟨d - 1, by omega⟩
  unfold f_X2_readNumber at h
  split at h
  rotate_left
  · cases h
  refine Mx.of (by decide) (Nat.le_of_ble_eq_true rfl) (⟨_, rfl, jz_nar _⟩) ?_
  exact ex_sub (lo' := [(0, .ref x0)]) [0] rfl (t_X2_readNumber_0 hd _ _ _  h)
noncomputable def f_X2_readName_33 (x0 : Nat) (x1 : Int32) (M : Mem) : Option (Bool × Mem) :=
  (f_X2_order x0 x1 0 M).bind fun q1 =>
  (gR q1.2 2 x0 0).bind fun v2 =>
  (f_X7_advance v2 q1.2).bind fun q3 =>
  some (true, q3)
set_option maxHeartbeats 4000000 in
theorem t_X2_readName_33 {X : XV} {d : Nat} (hd : 7 ≤ d + 1) : ∀ (x0 : Nat) (x1 : Int32) (M : Mem) (res : Bool × Mem), f_X2_readName_33  x0 x1 M = some res → Ex X (d + 1) mX2_readName 33 [(0, .ref x0), (1, .int x1)] [] M (some (.int (jz res.1))) res.2 := by
  intro x0 x1 M res  h
  unfold f_X2_readName_33 at h
  refine ex_aload_n (pc := 33) 0 dX2_readName_33 rfl rfl ?_
  refine ex_iload_n (pc := 34) 1 dX2_readName_34 rfl rfl ?_
  refine ex_iconst (pc := 35) 0 dX2_readName_35 rfl ?_
  obtain ⟨q1, eq1, h⟩ := ob_some h
  refine ex_callV2r (pc := 36) dX2_readName_36 jX2_order lmX2_114 jiX2_order jvX2_order (o_X2_order eq1) rfl (Nat.le_of_ble_eq_true rfl) (s_X2_order (by omega)  eq1) ?_
  refine ex_pop (pc := 39) dX2_readName_39 rfl ?_
  refine ex_aload_n (pc := 40) 0 dX2_readName_40 rfl rfl ?_
  obtain ⟨v2, ev2, h⟩ := ob_some h
  refine ex_gR (pc := 41) ev2 dX2_readName_41 lfX2_34 ?_
  obtain ⟨q3, eq3, h⟩ := ob_some h
  refine ex_callV0v (pc := 44) dX2_readName_44 jX7_advance lmX2_86 jiX7_advance jvX7_advance (o_X7_advance eq3) rfl (Nat.le_of_ble_eq_true rfl) (s_X7_advance (by omega)  eq3) ?_
  refine ex_iconst (pc := 47) 1 dX2_readName_47 rfl ?_
  cases h
  exact ex_ireturn (pc := 48) dX2_readName_48
noncomputable def f_X2_readName_13 (x0 : Nat) (x1 : Int32) (M : Mem) : Option (Bool × Mem) :=
  if x1 = 15 then
  ((gI M 2 x0 3).bind fun v5 =>
  if v5 = 1 then
  (f_X2_readName_33 x0 x1 M)
  else
  ((f_X2_refuse x0 5 M).bind fun q7 =>
  some (q7.1, q7.2)))
  else
  (f_X2_readName_33 x0 x1 M)
set_option maxHeartbeats 4000000 in
theorem t_X2_readName_13 {X : XV} {d : Nat} (hd : 7 ≤ d + 1) : ∀ (x0 : Nat) (x1 : Int32) (M : Mem) (res : Bool × Mem), f_X2_readName_13  x0 x1 M = some res → Ex X (d + 1) mX2_readName 13 [(0, .ref x0), (1, .int x1)] [] M (some (.int (jz res.1))) res.2 := by
  intro x0 x1 M res  h
  unfold f_X2_readName_13 at h
  refine ex_iload_n (pc := 13) 1 dX2_readName_13 rfl rfl ?_
  refine ex_bipush (pc := 14) 15 dX2_readName_14 (by decide) ?_
  by_cases c4 : x1 = 15
  · rw [if_pos c4] at h
    refine ex_icmp_ne_f (pc := 16) dX2_readName_16 33 rfl c4 ?_
    refine ex_aload_n (pc := 19) 0 dX2_readName_19 rfl rfl ?_
    obtain ⟨v5, ev5, h⟩ := ob_some h
    refine ex_gI (pc := 20) ev5 dX2_readName_20 lfX2_89 ?_
    refine ex_iconst (pc := 23) 1 dX2_readName_23 rfl ?_
    by_cases c6 : v5 = 1
    · rw [if_pos c6] at h
      refine ex_icmp_eq_t (pc := 24) 33 dX2_readName_24 rfl c6 ?_
      refine ex_sub (lo' := [(0, .ref x0), (1, .int x1)]) [0, 1] rfl ?_
      exact t_X2_readName_33 hd  _ _ _ _  h
    · rw [if_neg c6] at h
      refine ex_icmp_eq_f (pc := 24) dX2_readName_24 33 rfl c6 ?_
      refine ex_aload_n (pc := 27) 0 dX2_readName_27 rfl rfl ?_
      refine ex_iconst (pc := 28) 5 dX2_readName_28 rfl ?_
      obtain ⟨q7, eq7, h⟩ := ob_some h
      refine ex_callV1r (pc := 29) dX2_readName_29 jX2_refuse lmX2_82 jiX2_refuse jvX2_refuse (o_X2_refuse eq7) rfl (Nat.le_of_ble_eq_true rfl) (s_X2_refuse (by omega)  eq7) ?_
      cases h
      exact ex_ireturn (pc := 32) dX2_readName_32
  · rw [if_neg c4] at h
    refine ex_icmp_ne_t (pc := 16) 33 dX2_readName_16 rfl c4 ?_
    refine ex_sub (lo' := [(0, .ref x0), (1, .int x1)]) [0, 1] rfl ?_
    exact t_X2_readName_33 hd  _ _ _ _  h
noncomputable def f_X2_readName_0 (x0 : Nat) (x1 : Int32) (M : Mem) : Option (Bool × Mem) :=
  if x1 = 14 then
  ((gI M 2 x0 3).bind fun v9 =>
  if v9 = 0 then
  ((f_X2_refuse x0 5 M).bind fun q11 =>
  some (q11.1, q11.2))
  else
  (f_X2_readName_13 x0 x1 M))
  else
  (f_X2_readName_13 x0 x1 M)
set_option maxHeartbeats 4000000 in
theorem t_X2_readName_0 {X : XV} {d : Nat} (hd : 7 ≤ d + 1) : ∀ (x0 : Nat) (x1 : Int32) (M : Mem) (res : Bool × Mem), f_X2_readName_0  x0 x1 M = some res → Ex X (d + 1) mX2_readName 0 [(0, .ref x0), (1, .int x1)] [] M (some (.int (jz res.1))) res.2 := by
  intro x0 x1 M res  h
  unfold f_X2_readName_0 at h
  refine ex_iload_n (pc := 0) 1 dX2_readName_0 rfl rfl ?_
  refine ex_bipush (pc := 1) 14 dX2_readName_1 (by decide) ?_
  by_cases c8 : x1 = 14
  · rw [if_pos c8] at h
    refine ex_icmp_ne_f (pc := 3) dX2_readName_3 13 rfl c8 ?_
    refine ex_aload_n (pc := 6) 0 dX2_readName_6 rfl rfl ?_
    obtain ⟨v9, ev9, h⟩ := ob_some h
    refine ex_gI (pc := 7) ev9 dX2_readName_7 lfX2_89 ?_
    by_cases c10 : v9 = 0
    · rw [if_pos c10] at h
      refine ex_if_eq_t (pc := 10) 27 dX2_readName_10 rfl c10 ?_
      refine ex_aload_n (pc := 27) 0 dX2_readName_27 rfl rfl ?_
      refine ex_iconst (pc := 28) 5 dX2_readName_28 rfl ?_
      obtain ⟨q11, eq11, h⟩ := ob_some h
      refine ex_callV1r (pc := 29) dX2_readName_29 jX2_refuse lmX2_82 jiX2_refuse jvX2_refuse (o_X2_refuse eq11) rfl (Nat.le_of_ble_eq_true rfl) (s_X2_refuse (by omega)  eq11) ?_
      cases h
      exact ex_ireturn (pc := 32) dX2_readName_32
    · rw [if_neg c10] at h
      refine ex_if_eq_f (pc := 10) dX2_readName_10 27 rfl c10 ?_
      refine ex_sub (lo' := [(0, .ref x0), (1, .int x1)]) [0, 1] rfl ?_
      exact t_X2_readName_13 hd  _ _ _ _  h
  · rw [if_neg c8] at h
    refine ex_icmp_ne_t (pc := 3) 13 dX2_readName_3 rfl c8 ?_
    refine ex_sub (lo' := [(0, .ref x0), (1, .int x1)]) [0, 1] rfl ?_
    exact t_X2_readName_13 hd  _ _ _ _  h
noncomputable def f_X2_readName (x0 : Nat) (x1 : Int32) (M : Mem) : Option (Bool × Mem) := if isOb M 2 x0 = true then f_X2_readName_0 x0 x1 M else none
theorem o_X2_readName {x0 : Nat} {x1 : Int32} {M : Mem} {res : Bool × Mem} (h : f_X2_readName x0 x1 M = some res) : isO M 2 x0 := by
  unfold f_X2_readName at h
  split at h
  · rename_i hc; exact isOb_iff hc
  · cases h
set_option maxHeartbeats 4000000 in
theorem s_X2_readName {X : XV} {d : Nat} (hd : 7 ≤ d) {x0 : Nat} {x1 : Int32} {M : Mem} {res : Bool × Mem} (h : f_X2_readName x0 x1 M = some res) : Mx X d mX2_readName [.ref x0, .int x1] M (some (.int (jz res.1))) res.2 := by
  obtain ⟨d, rfl⟩ : ∃ e, d = e + 1 := ⟨d - 1, by omega⟩
  unfold f_X2_readName at h
  split at h
  rotate_left
  · cases h
  refine Mx.of (by decide) (Nat.le_of_ble_eq_true rfl) (⟨_, rfl, jz_nar _⟩) ?_
  exact ex_sub (lo' := [(0, .ref x0), (1, .int x1)]) [0, 1] rfl (t_X2_readName_0 hd _ _ _ _  h)
noncomputable def f_X2_aim_0 (x0 : Nat) (x1 : Int32) (M : Mem) : Option (Mem) :=
  (f_X10_within x1 0 299).bind fun v1 =>
  if v1 = false then
  (some M)
  else
  ((gR M 2 x0 8).bind fun v3 =>
  (gI M 2 x0 5).bind fun v4 =>
  (wI M v3 x1 v4).bind fun q5 =>
  some q5)
set_option maxHeartbeats 4000000 in
theorem t_X2_aim_0 {X : XV} {d : Nat} (hd : 2 ≤ d + 1) : ∀ (x0 : Nat) (x1 : Int32) (M : Mem) (res : Mem), f_X2_aim_0  x0 x1 M = some res → Ex X (d + 1) mX2_aim 0 [(0, .ref x0), (1, .int x1)] [] M none res := by
  intro x0 x1 M res  h
  unfold f_X2_aim_0 at h
  refine ex_iload_n (pc := 0) 1 dX2_aim_0 rfl rfl ?_
  refine ex_iconst (pc := 1) 0 dX2_aim_1 rfl ?_
  refine ex_sipush (pc := 2) 299 dX2_aim_2 (by decide) ?_
  obtain ⟨v1, ev1, h⟩ := ob_some h
  refine ex_callSN3r (pc := 5) dX2_aim_5 jX10_within lnX2_108 jsX10_within (Nat.le_of_ble_eq_true rfl) (s_X10_within (by omega)  ev1) ?_
  by_cases c2 : v1 = false
  · rw [if_pos c2] at h
    refine ex_if_eq_t (pc := 8) 21 dX2_aim_8 rfl (jz_eq_t c2) ?_
    cases h
    exact ex_return (pc := 21) dX2_aim_21
  · rw [if_neg c2] at h
    refine ex_if_eq_f (pc := 8) dX2_aim_8 21 rfl (jz_eq_f c2) ?_
    refine ex_aload_n (pc := 11) 0 dX2_aim_11 rfl rfl ?_
    obtain ⟨v3, ev3, h⟩ := ob_some h
    refine ex_gR (pc := 12) ev3 dX2_aim_12 lfX2_22 ?_
    refine ex_iload_n (pc := 15) 1 dX2_aim_15 rfl rfl ?_
    refine ex_aload_n (pc := 16) 0 dX2_aim_16 rfl rfl ?_
    obtain ⟨v4, ev4, h⟩ := ob_some h
    refine ex_gI (pc := 17) ev4 dX2_aim_17 lfX2_41 ?_
    obtain ⟨q5, eq5, h⟩ := ob_some h
    refine ex_wI (pc := 20) eq5 dX2_aim_20 ?_
    cases h
    exact ex_return (pc := 21) dX2_aim_21
noncomputable def f_X2_aim (x0 : Nat) (x1 : Int32) (M : Mem) : Option (Mem) := if isOb M 2 x0 = true then f_X2_aim_0 x0 x1 M else none
theorem o_X2_aim {x0 : Nat} {x1 : Int32} {M : Mem} {res : Mem} (h : f_X2_aim x0 x1 M = some res) : isO M 2 x0 := by
  unfold f_X2_aim at h
  split at h
  · rename_i hc; exact isOb_iff hc
  · cases h
set_option maxHeartbeats 4000000 in
theorem s_X2_aim {X : XV} {d : Nat} (hd : 2 ≤ d) {x0 : Nat} {x1 : Int32} {M : Mem} {res : Mem} (h : f_X2_aim x0 x1 M = some res) : Mx X d mX2_aim [.ref x0, .int x1] M none res := by
  obtain ⟨d, rfl⟩ : ∃ e, d = e + 1 := ⟨d - 1, by omega⟩
  unfold f_X2_aim at h
  split at h
  rotate_left
  · cases h
  refine Mx.of (by decide) (Nat.le_of_ble_eq_true rfl) (rfl) ?_
  exact ex_sub (lo' := [(0, .ref x0), (1, .int x1)]) [0, 1] rfl (t_X2_aim_0 hd _ _ _ _  h)
noncomputable def f_X3_init_0 (x0 : Nat) (x1 : Int32) (M : Mem) : Option (Mem) :=
  (nwI M (jmax x1 0)).bind fun q1 =>
  (pF q1 3 x0 0 (.ref M.1)).bind fun q2 =>
  some q2
set_option maxHeartbeats 4000000 in
theorem t_X3_init_0 {X : XV} {d : Nat} (hd : 1 ≤ d + 1) : ∀ (x0 : Nat) (x1 : Int32) (M : Mem) (res : Mem), f_X3_init_0  x0 x1 M = some res → Ex X (d + 1) mX3_init 0 [(0, .ref x0), (1, .int x1)] [] M none res := by
  intro x0 x1 M res  h
  unfold f_X3_init_0 at h
  refine ex_aload_n (pc := 0) 0 dX3_init_0 rfl rfl ?_
  refine ex_obj (pc := 1) dX3_init_1 lmX3_1 (by omega) (Nat.le_of_ble_eq_true rfl) ?_
  refine ex_aload_n (pc := 4) 0 dX3_init_4 rfl rfl ?_
  refine ex_iload_n (pc := 5) 1 dX3_init_5 rfl rfl ?_
  refine ex_iconst (pc := 6) 0 dX3_init_6 rfl ?_
  refine ex_mmax (pc := 7) dX3_init_7 lmX3_7 (by omega) (Nat.le_of_ble_eq_true rfl) ?_
  obtain ⟨q1, eq1, h⟩ := ob_some h
  refine ex_nwI (pc := 10) eq1 dX3_init_10 ?_
  obtain ⟨q2, eq2, h⟩ := ob_some h
  refine ex_pFF (pc := 12) eq2 dX3_init_12 lfX3_13 rfl rfl (fun _ hq => by cases hq; exact ⟨rfl, rfl⟩) rfl ?_
  cases h
  exact ex_return (pc := 15) dX3_init_15
noncomputable def f_X3_init (x0 : Nat) (x1 : Int32) (M : Mem) : Option (Mem) := f_X3_init_0 x0 x1 M
set_option maxHeartbeats 4000000 in
theorem s_X3_init {X : XV} {d : Nat} (hd : 1 ≤ d) {x0 : Nat} {x1 : Int32} {M : Mem} {res : Mem} (h : f_X3_init x0 x1 M = some res) : Mx X d mX3_init [.ref x0, .int x1] M none res := by
  obtain ⟨d, rfl⟩ : ∃ e, d = e + 1 := ⟨d - 1, by omega⟩
  unfold f_X3_init at h
  refine Mx.of (by decide) (Nat.le_of_ble_eq_true rfl) (rfl) ?_
  exact ex_sub (lo' := [(0, .ref x0), (1, .int x1)]) [0, 1] rfl (t_X3_init_0 hd _ _ _ _  h)
noncomputable def f_X3_has_0 (x0 : Nat) (x1 : Int32) (M : Mem) : Option (Bool) :=
  if x1 < 0 then
  (some false)
  else
  ((gI M 3 x0 1).bind fun v2 =>
  if v2 ≤ x1 then
  (some false)
  else
  ((gR M 3 x0 0).bind fun v4 =>
  (lnA M v4).bind fun v5 =>
  if v5 ≤ x1 then
  (some false)
  else
  (some true)))
set_option maxHeartbeats 4000000 in
theorem t_X3_has_0 {X : XV} {d : Nat} (hd : 1 ≤ d + 1) : ∀ (x0 : Nat) (x1 : Int32) (M : Mem) (res : Bool), f_X3_has_0  x0 x1 M = some res → Ex X (d + 1) mX3_has 0 [(0, .ref x0), (1, .int x1)] [] M (some (.int (jz res))) M := by
  intro x0 x1 M res  h
  unfold f_X3_has_0 at h
  refine ex_iload_n (pc := 0) 1 dX3_has_0 rfl rfl ?_
  by_cases c1 : x1 < 0
  · rw [if_pos c1] at h
    refine ex_if_lt_t (pc := 1) 25 dX3_has_1 rfl c1 ?_
    refine ex_iconst (pc := 25) 0 dX3_has_25 rfl ?_
    cases h
    exact ex_ireturn (pc := 26) dX3_has_26
  · rw [if_neg c1] at h
    refine ex_if_lt_f (pc := 1) dX3_has_1 25 rfl c1 ?_
    refine ex_iload_n (pc := 4) 1 dX3_has_4 rfl rfl ?_
    refine ex_aload_n (pc := 5) 0 dX3_has_5 rfl rfl ?_
    obtain ⟨v2, ev2, h⟩ := ob_some h
    refine ex_gI (pc := 6) ev2 dX3_has_6 lfX3_19 ?_
    by_cases c3 : v2 ≤ x1
    · rw [if_pos c3] at h
      refine ex_icmp_ge_t (pc := 9) 25 dX3_has_9 rfl c3 ?_
      refine ex_iconst (pc := 25) 0 dX3_has_25 rfl ?_
      cases h
      exact ex_ireturn (pc := 26) dX3_has_26
    · rw [if_neg c3] at h
      refine ex_icmp_ge_f (pc := 9) dX3_has_9 25 rfl c3 ?_
      refine ex_iload_n (pc := 12) 1 dX3_has_12 rfl rfl ?_
      refine ex_aload_n (pc := 13) 0 dX3_has_13 rfl rfl ?_
      obtain ⟨v4, ev4, h⟩ := ob_some h
      refine ex_gR (pc := 14) ev4 dX3_has_14 lfX3_13 ?_
      obtain ⟨v5, ev5, h⟩ := ob_some h
      refine ex_ln (pc := 17) ev5 dX3_has_17 ?_
      by_cases c6 : v5 ≤ x1
      · rw [if_pos c6] at h
        refine ex_icmp_ge_t (pc := 18) 25 dX3_has_18 rfl c6 ?_
        refine ex_iconst (pc := 25) 0 dX3_has_25 rfl ?_
        cases h
        exact ex_ireturn (pc := 26) dX3_has_26
      · rw [if_neg c6] at h
        refine ex_icmp_ge_f (pc := 18) dX3_has_18 25 rfl c6 ?_
        refine ex_iconst (pc := 21) 1 dX3_has_21 rfl ?_
        refine ex_goto (pc := 22) 26 dX3_has_22 rfl ?_
        cases h
        exact ex_ireturn (pc := 26) dX3_has_26
noncomputable def f_X3_has (x0 : Nat) (x1 : Int32) (M : Mem) : Option (Bool) := if isOb M 3 x0 = true then f_X3_has_0 x0 x1 M else none
theorem o_X3_has {x0 : Nat} {x1 : Int32} {M : Mem} {res : Bool} (h : f_X3_has x0 x1 M = some res) : isO M 3 x0 := by
  unfold f_X3_has at h
  split at h
  · rename_i hc; exact isOb_iff hc
  · cases h
set_option maxHeartbeats 4000000 in
theorem s_X3_has {X : XV} {d : Nat} (hd : 1 ≤ d) {x0 : Nat} {x1 : Int32} {M : Mem} {res : Bool} (h : f_X3_has x0 x1 M = some res) : Mx X d mX3_has [.ref x0, .int x1] M (some (.int (jz res))) M := by
  obtain ⟨d, rfl⟩ : ∃ e, d = e + 1 := ⟨d - 1, by omega⟩
  unfold f_X3_has at h
  split at h
  rotate_left
  · cases h
  refine Mx.of (by decide) (Nat.le_of_ble_eq_true rfl) (⟨_, rfl, jz_nar _⟩) ?_
  exact ex_sub (lo' := [(0, .ref x0), (1, .int x1)]) [0, 1] rfl (t_X3_has_0 hd _ _ _ _  h)
noncomputable def f_X3_get_0 (x0 : Nat) (x1 : Int32) (M : Mem) : Option (Int32) :=
  (f_X3_has x0 x1 M).bind fun v1 =>
  if v1 = false then
  (some 0)
  else
  ((gR M 3 x0 0).bind fun v3 =>
  (rI M v3 x1).bind fun v4 =>
  some v4)
set_option maxHeartbeats 4000000 in
theorem t_X3_get_0 {X : XV} {d : Nat} (hd : 2 ≤ d + 1) : ∀ (x0 : Nat) (x1 : Int32) (M : Mem) (res : Int32), f_X3_get_0  x0 x1 M = some res → Ex X (d + 1) mX3_get 0 [(0, .ref x0), (1, .int x1)] [] M (some (.int res)) M := by
  intro x0 x1 M res  h
  unfold f_X3_get_0 at h
  refine ex_aload_n (pc := 0) 0 dX3_get_0 rfl rfl ?_
  refine ex_iload_n (pc := 1) 1 dX3_get_1 rfl rfl ?_
  obtain ⟨v1, ev1, h⟩ := ob_some h
  refine ex_callV1r (pc := 2) dX3_get_2 jX3_has lmX3_23 jiX3_has jvX3_has (o_X3_has ev1) rfl (Nat.le_of_ble_eq_true rfl) (s_X3_has (by omega)  ev1) ?_
  by_cases c2 : v1 = false
  · rw [if_pos c2] at h
    refine ex_if_eq_t (pc := 5) 17 dX3_get_5 rfl (jz_eq_t c2) ?_
    refine ex_iconst (pc := 17) 0 dX3_get_17 rfl ?_
    cases h
    exact ex_ireturn (pc := 18) dX3_get_18
  · rw [if_neg c2] at h
    refine ex_if_eq_f (pc := 5) dX3_get_5 17 rfl (jz_eq_f c2) ?_
    refine ex_aload_n (pc := 8) 0 dX3_get_8 rfl rfl ?_
    obtain ⟨v3, ev3, h⟩ := ob_some h
    refine ex_gR (pc := 9) ev3 dX3_get_9 lfX3_13 ?_
    refine ex_iload_n (pc := 12) 1 dX3_get_12 rfl rfl ?_
    obtain ⟨v4, ev4, h⟩ := ob_some h
    refine ex_rI (pc := 13) ev4 dX3_get_13 ?_
    refine ex_goto (pc := 14) 18 dX3_get_14 rfl ?_
    cases h
    exact ex_ireturn (pc := 18) dX3_get_18
noncomputable def f_X3_get (x0 : Nat) (x1 : Int32) (M : Mem) : Option (Int32) := if isOb M 3 x0 = true then f_X3_get_0 x0 x1 M else none
theorem o_X3_get {x0 : Nat} {x1 : Int32} {M : Mem} {res : Int32} (h : f_X3_get x0 x1 M = some res) : isO M 3 x0 := by
  unfold f_X3_get at h
  split at h
  · rename_i hc; exact isOb_iff hc
  · cases h
set_option maxHeartbeats 4000000 in
theorem s_X3_get {X : XV} {d : Nat} (hd : 2 ≤ d) {x0 : Nat} {x1 : Int32} {M : Mem} {res : Int32} (h : f_X3_get x0 x1 M = some res) : Mx X d mX3_get [.ref x0, .int x1] M (some (.int res)) M := by
  obtain ⟨d, rfl⟩ : ∃ e, d = e + 1 := ⟨d - 1, by omega⟩
  unfold f_X3_get at h
  split at h
  rotate_left
  · cases h
  refine Mx.of (by decide) (Nat.le_of_ble_eq_true rfl) (⟨_, rfl, rfl⟩) ?_
  exact ex_sub (lo' := [(0, .ref x0), (1, .int x1)]) [0, 1] rfl (t_X3_get_0 hd _ _ _ _  h)
noncomputable def f_X3_append_0 (x0 : Nat) (x1 : Int32) (M : Mem) : Option (Bool × Mem) :=
  (gI M 3 x0 1).bind fun v1 =>
  (gR M 3 x0 0).bind fun v2 =>
  (lnA M v2).bind fun v3 =>
  (f_X10_within v1 0 (v3 - 1)).bind fun v4 =>
  if v4 = true then
  ((gR M 3 x0 0).bind fun v6 =>
  (gI M 3 x0 1).bind fun v7 =>
  (wI M v6 v7 x1).bind fun q8 =>
  (gI q8 3 x0 1).bind fun v9 =>
  (pF q8 3 x0 1 (.int (v9 + 1))).bind fun q10 =>
  some (true, q10))
  else
  (some (false, M))
set_option maxHeartbeats 4000000 in
theorem t_X3_append_0 {X : XV} {d : Nat} (hd : 2 ≤ d + 1) : ∀ (x0 : Nat) (x1 : Int32) (M : Mem) (res : Bool × Mem), f_X3_append_0  x0 x1 M = some res → Ex X (d + 1) mX3_append 0 [(0, .ref x0), (1, .int x1)] [] M (some (.int (jz res.1))) res.2 := by
  intro x0 x1 M res  h
  unfold f_X3_append_0 at h
  refine ex_aload_n (pc := 0) 0 dX3_append_0 rfl rfl ?_
  obtain ⟨v1, ev1, h⟩ := ob_some h
  refine ex_gI (pc := 1) ev1 dX3_append_1 lfX3_19 ?_
  refine ex_iconst (pc := 4) 0 dX3_append_4 rfl ?_
  refine ex_aload_n (pc := 5) 0 dX3_append_5 rfl rfl ?_
  obtain ⟨v2, ev2, h⟩ := ob_some h
  refine ex_gR (pc := 6) ev2 dX3_append_6 lfX3_13 ?_
  obtain ⟨v3, ev3, h⟩ := ob_some h
  refine ex_ln (pc := 9) ev3 dX3_append_9 ?_
  refine ex_iconst (pc := 10) 1 dX3_append_10 rfl ?_
  refine ex_isub (pc := 11) dX3_append_11 ?_
  obtain ⟨v4, ev4, h⟩ := ob_some h
  refine ex_callSN3r (pc := 12) dX3_append_12 jX10_within lnX3_27 jsX10_within (Nat.le_of_ble_eq_true rfl) (s_X10_within (by omega)  ev4) ?_
  by_cases c5 : v4 = true
  · rw [if_pos c5] at h
    refine ex_if_ne_t (pc := 15) 20 dX3_append_15 rfl (jz_ne_t c5) ?_
    refine ex_aload_n (pc := 20) 0 dX3_append_20 rfl rfl ?_
    obtain ⟨v6, ev6, h⟩ := ob_some h
    refine ex_gR (pc := 21) ev6 dX3_append_21 lfX3_13 ?_
    refine ex_aload_n (pc := 24) 0 dX3_append_24 rfl rfl ?_
    obtain ⟨v7, ev7, h⟩ := ob_some h
    refine ex_gI (pc := 25) ev7 dX3_append_25 lfX3_19 ?_
    refine ex_iload_n (pc := 28) 1 dX3_append_28 rfl rfl ?_
    obtain ⟨q8, eq8, h⟩ := ob_some h
    refine ex_wI (pc := 29) eq8 dX3_append_29 ?_
    refine ex_aload_n (pc := 30) 0 dX3_append_30 rfl rfl ?_
    refine ex_dup (pc := 31) dX3_append_31 rfl ?_
    obtain ⟨v9, ev9, h⟩ := ob_some h
    refine ex_gI (pc := 32) ev9 dX3_append_32 lfX3_19 ?_
    refine ex_iconst (pc := 35) 1 dX3_append_35 rfl ?_
    refine ex_iadd (pc := 36) dX3_append_36 ?_
    obtain ⟨q10, eq10, h⟩ := ob_some h
    refine ex_pF (pc := 37) eq10 dX3_append_37 lfX3_19 rfl rfl (fun _ hq => by cases hq; rfl) ?_
    refine ex_iconst (pc := 40) 1 dX3_append_40 rfl ?_
    cases h
    exact ex_ireturn (pc := 41) dX3_append_41
  · rw [if_neg c5] at h
    refine ex_if_ne_f (pc := 15) dX3_append_15 20 rfl (jz_ne_f c5) ?_
    refine ex_iconst (pc := 18) 0 dX3_append_18 rfl ?_
    cases h
    exact ex_ireturn (pc := 19) dX3_append_19
noncomputable def f_X3_append (x0 : Nat) (x1 : Int32) (M : Mem) : Option (Bool × Mem) := if isOb M 3 x0 = true then f_X3_append_0 x0 x1 M else none
theorem o_X3_append {x0 : Nat} {x1 : Int32} {M : Mem} {res : Bool × Mem} (h : f_X3_append x0 x1 M = some res) : isO M 3 x0 := by
  unfold f_X3_append at h
  split at h
  · rename_i hc; exact isOb_iff hc
  · cases h
set_option maxHeartbeats 4000000 in
theorem s_X3_append {X : XV} {d : Nat} (hd : 2 ≤ d) {x0 : Nat} {x1 : Int32} {M : Mem} {res : Bool × Mem} (h : f_X3_append x0 x1 M = some res) : Mx X d mX3_append [.ref x0, .int x1] M (some (.int (jz res.1))) res.2 := by
  obtain ⟨d, rfl⟩ : ∃ e, d = e + 1 := ⟨d - 1, by omega⟩
  unfold f_X3_append at h
  split at h
  rotate_left
  · cases h
  refine Mx.of (by decide) (Nat.le_of_ble_eq_true rfl) (⟨_, rfl, jz_nar _⟩) ?_
  exact ex_sub (lo' := [(0, .ref x0), (1, .int x1)]) [0, 1] rfl (t_X3_append_0 hd _ _ _ _  h)
noncomputable def f_X3_copyFrom_0 (x0 : Nat) (x1 : Nat) (M : Mem) : Option (Mem) :=
  (gR M 3 x1 0).bind fun v1 =>
  (gR M 3 x0 0).bind fun v2 =>
  (gR M 3 x0 0).bind fun v3 =>
  (lnA M v3).bind fun v4 =>
  (gR M 3 x1 0).bind fun v5 =>
  (lnA M v5).bind fun v6 =>
  (cpI M v1 0 v2 0 (jmin v4 v6)).bind fun q7 =>
  (gI q7 3 x1 1).bind fun v8 =>
  (gR q7 3 x0 0).bind fun v9 =>
  (lnA q7 v9).bind fun v10 =>
  (pF q7 3 x0 1 (.int (jmin v8 v10))).bind fun q11 =>
  some q11
set_option maxHeartbeats 4000000 in
theorem t_X3_copyFrom_0 {X : XV} {d : Nat} (hd : 1 ≤ d + 1) : ∀ (x0 : Nat) (x1 : Nat) (M : Mem) (res : Mem), f_X3_copyFrom_0  x0 x1 M = some res → Ex X (d + 1) mX3_copyFrom 0 [(0, .ref x0), (1, .ref x1)] [] M none res := by
  intro x0 x1 M res  h
  unfold f_X3_copyFrom_0 at h
  refine ex_aload_n (pc := 0) 1 dX3_copyFrom_0 rfl rfl ?_
  obtain ⟨v1, ev1, h⟩ := ob_some h
  refine ex_gR (pc := 1) ev1 dX3_copyFrom_1 lfX3_13 ?_
  refine ex_iconst (pc := 4) 0 dX3_copyFrom_4 rfl ?_
  refine ex_aload_n (pc := 5) 0 dX3_copyFrom_5 rfl rfl ?_
  obtain ⟨v2, ev2, h⟩ := ob_some h
  refine ex_gR (pc := 6) ev2 dX3_copyFrom_6 lfX3_13 ?_
  refine ex_iconst (pc := 9) 0 dX3_copyFrom_9 rfl ?_
  refine ex_aload_n (pc := 10) 0 dX3_copyFrom_10 rfl rfl ?_
  obtain ⟨v3, ev3, h⟩ := ob_some h
  refine ex_gR (pc := 11) ev3 dX3_copyFrom_11 lfX3_13 ?_
  obtain ⟨v4, ev4, h⟩ := ob_some h
  refine ex_ln (pc := 14) ev4 dX3_copyFrom_14 ?_
  refine ex_aload_n (pc := 15) 1 dX3_copyFrom_15 rfl rfl ?_
  obtain ⟨v5, ev5, h⟩ := ob_some h
  refine ex_gR (pc := 16) ev5 dX3_copyFrom_16 lfX3_13 ?_
  obtain ⟨v6, ev6, h⟩ := ob_some h
  refine ex_ln (pc := 19) ev6 dX3_copyFrom_19 ?_
  refine ex_mmin (pc := 20) dX3_copyFrom_20 lmX3_33 (by omega) (Nat.le_of_ble_eq_true rfl) ?_
  obtain ⟨q7, eq7, h⟩ := ob_some h
  refine ex_cp (pc := 23) eq7 dX3_copyFrom_23 lmX3_36 (by omega) (Nat.le_of_ble_eq_true rfl) ?_
  refine ex_aload_n (pc := 26) 0 dX3_copyFrom_26 rfl rfl ?_
  refine ex_aload_n (pc := 27) 1 dX3_copyFrom_27 rfl rfl ?_
  obtain ⟨v8, ev8, h⟩ := ob_some h
  refine ex_gI (pc := 28) ev8 dX3_copyFrom_28 lfX3_19 ?_
  refine ex_aload_n (pc := 31) 0 dX3_copyFrom_31 rfl rfl ?_
  obtain ⟨v9, ev9, h⟩ := ob_some h
  refine ex_gR (pc := 32) ev9 dX3_copyFrom_32 lfX3_13 ?_
  obtain ⟨v10, ev10, h⟩ := ob_some h
  refine ex_ln (pc := 35) ev10 dX3_copyFrom_35 ?_
  refine ex_mmin (pc := 36) dX3_copyFrom_36 lmX3_33 (by omega) (Nat.le_of_ble_eq_true rfl) ?_
  obtain ⟨q11, eq11, h⟩ := ob_some h
  refine ex_pF (pc := 39) eq11 dX3_copyFrom_39 lfX3_19 rfl rfl (fun _ hq => by cases hq; rfl) ?_
  cases h
  exact ex_return (pc := 42) dX3_copyFrom_42
noncomputable def f_X3_copyFrom (x0 : Nat) (x1 : Nat) (M : Mem) : Option (Mem) := if isOb M 3 x0 = true then f_X3_copyFrom_0 x0 x1 M else none
theorem o_X3_copyFrom {x0 : Nat} {x1 : Nat} {M : Mem} {res : Mem} (h : f_X3_copyFrom x0 x1 M = some res) : isO M 3 x0 := by
  unfold f_X3_copyFrom at h
  split at h
  · rename_i hc; exact isOb_iff hc
  · cases h
set_option maxHeartbeats 4000000 in
theorem s_X3_copyFrom {X : XV} {d : Nat} (hd : 1 ≤ d) {x0 : Nat} {x1 : Nat} {M : Mem} {res : Mem} (h : f_X3_copyFrom x0 x1 M = some res) : Mx X d mX3_copyFrom [.ref x0, .ref x1] M none res := by
  obtain ⟨d, rfl⟩ : ∃ e, d = e + 1 := ⟨d - 1, by omega⟩
  unfold f_X3_copyFrom at h
  split at h
  rotate_left
  · cases h
  refine Mx.of (by decide) (Nat.le_of_ble_eq_true rfl) (rfl) ?_
  exact ex_sub (lo' := [(0, .ref x0), (1, .ref x1)]) [0, 1] rfl (t_X3_copyFrom_0 hd _ _ _ _  h)
noncomputable def f_X9_init_0 (x0 : Nat) (M : Mem) : Option (Mem) :=
  (pF M 9 x0 2 (.int 193)).bind fun q1 =>
  (nwI q1 5).bind fun q2 =>
  (pF q2 9 x0 4 (.ref q1.1)).bind fun q3 =>
  (nwI q3 5).bind fun q4 =>
  (pF q4 9 x0 5 (.ref q3.1)).bind fun q5 =>
  (nwI q5 5).bind fun q6 =>
  (pF q6 9 x0 6 (.ref q5.1)).bind fun q7 =>
  (nwI q7 5).bind fun q8 =>
  (pF q8 9 x0 7 (.ref q7.1)).bind fun q9 =>
  (nwI q9 5).bind fun q10 =>
  (pF q10 9 x0 8 (.ref q9.1)).bind fun q11 =>
  (nwI q11 5).bind fun q12 =>
  (pF q12 9 x0 9 (.ref q11.1)).bind fun q13 =>
  (nwI q13 60).bind fun q14 =>
  (pF q14 9 x0 10 (.ref q13.1)).bind fun q15 =>
  (nwI q15 120).bind fun q16 =>
  (pF q16 9 x0 11 (.ref q15.1)).bind fun q17 =>
  some q17
set_option maxHeartbeats 4000000 in
theorem t_X9_init_0 {X : XV} {d : Nat} (hd : 1 ≤ d + 1) : ∀ (x0 : Nat) (M : Mem) (res : Mem), f_X9_init_0  x0 M = some res → Ex X (d + 1) mX9_init 0 [(0, .ref x0)] [] M none res := by
  intro x0 M res  h
  unfold f_X9_init_0 at h
  refine ex_aload_n (pc := 0) 0 dX9_init_0 rfl rfl ?_
  refine ex_obj (pc := 1) dX9_init_1 lmX9_3 (by omega) (Nat.le_of_ble_eq_true rfl) ?_
  refine ex_aload_n (pc := 4) 0 dX9_init_4 rfl rfl ?_
  refine ex_sipush (pc := 5) 193 dX9_init_5 (by decide) ?_
  obtain ⟨q1, eq1, h⟩ := ob_some h
  refine ex_pF (pc := 8) eq1 dX9_init_8 lfX9_9 rfl rfl (fun _ hq => by cases hq; rfl) ?_
  refine ex_aload_n (pc := 11) 0 dX9_init_11 rfl rfl ?_
  refine ex_iconst (pc := 12) 5 dX9_init_12 rfl ?_
  obtain ⟨q2, eq2, h⟩ := ob_some h
  refine ex_nwI (pc := 13) eq2 dX9_init_13 ?_
  obtain ⟨q3, eq3, h⟩ := ob_some h
  refine ex_pFF (pc := 15) eq3 dX9_init_15 lfX9_15 rfl rfl (fun _ hq => by cases hq; exact ⟨rfl, rfl⟩) rfl ?_
  refine ex_aload_n (pc := 18) 0 dX9_init_18 rfl rfl ?_
  refine ex_iconst (pc := 19) 5 dX9_init_19 rfl ?_
  obtain ⟨q4, eq4, h⟩ := ob_some h
  refine ex_nwI (pc := 20) eq4 dX9_init_20 ?_
  obtain ⟨q5, eq5, h⟩ := ob_some h
  refine ex_pFF (pc := 22) eq5 dX9_init_22 lfX9_19 rfl rfl (fun _ hq => by cases hq; exact ⟨rfl, rfl⟩) rfl ?_
  refine ex_aload_n (pc := 25) 0 dX9_init_25 rfl rfl ?_
  refine ex_iconst (pc := 26) 5 dX9_init_26 rfl ?_
  obtain ⟨q6, eq6, h⟩ := ob_some h
  refine ex_nwI (pc := 27) eq6 dX9_init_27 ?_
  obtain ⟨q7, eq7, h⟩ := ob_some h
  refine ex_pFF (pc := 29) eq7 dX9_init_29 lfX9_22 rfl rfl (fun _ hq => by cases hq; exact ⟨rfl, rfl⟩) rfl ?_
  refine ex_aload_n (pc := 32) 0 dX9_init_32 rfl rfl ?_
  refine ex_iconst (pc := 33) 5 dX9_init_33 rfl ?_
  obtain ⟨q8, eq8, h⟩ := ob_some h
  refine ex_nwI (pc := 34) eq8 dX9_init_34 ?_
  obtain ⟨q9, eq9, h⟩ := ob_some h
  refine ex_pFF (pc := 36) eq9 dX9_init_36 lfX9_25 rfl rfl (fun _ hq => by cases hq; exact ⟨rfl, rfl⟩) rfl ?_
  refine ex_aload_n (pc := 39) 0 dX9_init_39 rfl rfl ?_
  refine ex_iconst (pc := 40) 5 dX9_init_40 rfl ?_
  obtain ⟨q10, eq10, h⟩ := ob_some h
  refine ex_nwI (pc := 41) eq10 dX9_init_41 ?_
  obtain ⟨q11, eq11, h⟩ := ob_some h
  refine ex_pFF (pc := 43) eq11 dX9_init_43 lfX9_28 rfl rfl (fun _ hq => by cases hq; exact ⟨rfl, rfl⟩) rfl ?_
  refine ex_aload_n (pc := 46) 0 dX9_init_46 rfl rfl ?_
  refine ex_iconst (pc := 47) 5 dX9_init_47 rfl ?_
  obtain ⟨q12, eq12, h⟩ := ob_some h
  refine ex_nwI (pc := 48) eq12 dX9_init_48 ?_
  obtain ⟨q13, eq13, h⟩ := ob_some h
  refine ex_pFF (pc := 50) eq13 dX9_init_50 lfX9_31 rfl rfl (fun _ hq => by cases hq; exact ⟨rfl, rfl⟩) rfl ?_
  refine ex_aload_n (pc := 53) 0 dX9_init_53 rfl rfl ?_
  refine ex_bipush (pc := 54) 60 dX9_init_54 (by decide) ?_
  obtain ⟨q14, eq14, h⟩ := ob_some h
  refine ex_nwI (pc := 56) eq14 dX9_init_56 ?_
  obtain ⟨q15, eq15, h⟩ := ob_some h
  refine ex_pFF (pc := 58) eq15 dX9_init_58 lfX9_34 rfl rfl (fun _ hq => by cases hq; exact ⟨rfl, rfl⟩) rfl ?_
  refine ex_aload_n (pc := 61) 0 dX9_init_61 rfl rfl ?_
  refine ex_bipush (pc := 62) 120 dX9_init_62 (by decide) ?_
  obtain ⟨q16, eq16, h⟩ := ob_some h
  refine ex_nwI (pc := 64) eq16 dX9_init_64 ?_
  obtain ⟨q17, eq17, h⟩ := ob_some h
  refine ex_pFF (pc := 66) eq17 dX9_init_66 lfX9_37 rfl rfl (fun _ hq => by cases hq; exact ⟨rfl, rfl⟩) rfl ?_
  cases h
  exact ex_return (pc := 69) dX9_init_69
noncomputable def f_X9_init (x0 : Nat) (M : Mem) : Option (Mem) := f_X9_init_0 x0 M
set_option maxHeartbeats 4000000 in
theorem s_X9_init {X : XV} {d : Nat} (hd : 1 ≤ d) {x0 : Nat} {M : Mem} {res : Mem} (h : f_X9_init x0 M = some res) : Mx X d mX9_init [.ref x0] M none res := by
  obtain ⟨d, rfl⟩ : ∃ e, d = e + 1 := ⟨d - 1, by omega⟩
  unfold f_X9_init at h
  refine Mx.of (by decide) (Nat.le_of_ble_eq_true rfl) (rfl) ?_
  exact ex_sub (lo' := [(0, .ref x0)]) [0] rfl (t_X9_init_0 hd _ _ _  h)
noncomputable def f_X4_init_163 (n0 : Nat) (x0 : Nat) (x1 : Int32) (M : Mem) : Option (Mem) :=
  match n0 with
  | 0 => none
  | n + 1 =>
    if 10 ≤ x1 then
    (some M)
    else
    ((gR M 4 x0 7).bind fun v2 =>
    (wI M v2 (x1 * 2) (x1 + 1)).bind fun q3 =>
    (gR q3 4 x0 7).bind fun v4 =>
    (wI q3 v4 ((x1 * 2) + 1) ((11 + (x1 * 10)) + x1)).bind fun q5 =>
    f_X4_init_163 n x0 (x1 + 1) q5)
set_option maxHeartbeats 4000000 in
theorem t_X4_init_163 {X : XV} {d : Nat} (hd : 2 ≤ d + 1) : ∀ (n : Nat) (x0 : Nat) (x1 : Int32) (M : Mem) (res : Mem), f_X4_init_163 n  x0 x1 M = some res → Ex X (d + 1) mX4_init 163 [(0, .ref x0), (1, .int x1)] [] M none res := by
  intro n
  induction n with
  | zero =>
    intro x0 x1 M res  h
    unfold f_X4_init_163 at h
    cases h
  | succ n ih =>
    intro x0 x1 M res  h
    unfold f_X4_init_163 at h
    refine ex_iload_n (pc := 163) 1 dX4_init_163 rfl rfl ?_
    refine ex_bipush (pc := 164) 10 dX4_init_164 (by decide) ?_
    by_cases c1 : 10 ≤ x1
    · rw [if_pos c1] at h
      refine ex_icmp_ge_t (pc := 166) 205 dX4_init_166 rfl c1 ?_
      cases h
      exact ex_return (pc := 205) dX4_init_205
    · rw [if_neg c1] at h
      refine ex_icmp_ge_f (pc := 166) dX4_init_166 205 rfl c1 ?_
      refine ex_aload_n (pc := 169) 0 dX4_init_169 rfl rfl ?_
      obtain ⟨v2, ev2, h⟩ := ob_some h
      refine ex_gR (pc := 170) ev2 dX4_init_170 lfX4_32 ?_
      refine ex_iload_n (pc := 173) 1 dX4_init_173 rfl rfl ?_
      refine ex_iconst (pc := 174) 2 dX4_init_174 rfl ?_
      refine ex_imul (pc := 175) dX4_init_175 ?_
      refine ex_iload_n (pc := 176) 1 dX4_init_176 rfl rfl ?_
      refine ex_iconst (pc := 177) 1 dX4_init_177 rfl ?_
      refine ex_iadd (pc := 178) dX4_init_178 ?_
      obtain ⟨q3, eq3, h⟩ := ob_some h
      refine ex_wI (pc := 179) eq3 dX4_init_179 ?_
      refine ex_aload_n (pc := 180) 0 dX4_init_180 rfl rfl ?_
      obtain ⟨v4, ev4, h⟩ := ob_some h
      refine ex_gR (pc := 181) ev4 dX4_init_181 lfX4_32 ?_
      refine ex_iload_n (pc := 184) 1 dX4_init_184 rfl rfl ?_
      refine ex_iconst (pc := 185) 2 dX4_init_185 rfl ?_
      refine ex_imul (pc := 186) dX4_init_186 ?_
      refine ex_iconst (pc := 187) 1 dX4_init_187 rfl ?_
      refine ex_iadd (pc := 188) dX4_init_188 ?_
      refine ex_bipush (pc := 189) 11 dX4_init_189 (by decide) ?_
      refine ex_iload_n (pc := 191) 1 dX4_init_191 rfl rfl ?_
      refine ex_bipush (pc := 192) 10 dX4_init_192 (by decide) ?_
      refine ex_imul (pc := 194) dX4_init_194 ?_
      refine ex_iadd (pc := 195) dX4_init_195 ?_
      refine ex_iload_n (pc := 196) 1 dX4_init_196 rfl rfl ?_
      refine ex_iadd (pc := 197) dX4_init_197 ?_
      obtain ⟨q5, eq5, h⟩ := ob_some h
      refine ex_wI (pc := 198) eq5 dX4_init_198 ?_
      refine ex_iinc (pc := 199) (x1 + 1) 1 [(1, .int (x1 + 1)), (0, .ref x0)] dX4_init_199 rfl rfl (by decide) rfl ?_
      refine ex_goto (pc := 202) 163 dX4_init_202 rfl ?_
      refine ex_sub (lo' := [(0, .ref x0), (1, .int (x1 + 1))]) [1, 0] rfl ?_
      exact ih _ _ _ _  h
noncomputable def f_X4_init_136 (n0 : Nat) (x0 : Nat) (x1 : Int32) (M : Mem) : Option (Mem) :=
  match n0 with
  | 0 => none
  | n + 1 =>
    if 30 ≤ x1 then
    (f_X4_init_163 fu x0 0 M)
    else
    ((gR M 4 x0 1).bind fun v7 =>
    (some (nwO M 9 12)).bind fun q8 =>
    (f_X9_init M.1 q8).bind fun q9 =>
    (wQ 2 9 q9 v7 x1 (some M.1)).bind fun q10 =>
    f_X4_init_136 n x0 (x1 + 1) q10)
set_option maxHeartbeats 4000000 in
theorem t_X4_init_136 {X : XV} {d : Nat} (hd : 2 ≤ d + 1) : ∀ (n : Nat) (x0 : Nat) (x1 : Int32) (M : Mem) (res : Mem), f_X4_init_136 n  x0 x1 M = some res → Ex X (d + 1) mX4_init 136 [(0, .ref x0), (1, .int x1)] [] M none res := by
  intro n
  induction n with
  | zero =>
    intro x0 x1 M res  h
    unfold f_X4_init_136 at h
    cases h
  | succ n ih =>
    intro x0 x1 M res  h
    unfold f_X4_init_136 at h
    refine ex_iload_n (pc := 136) 1 dX4_init_136 rfl rfl ?_
    refine ex_bipush (pc := 137) 30 dX4_init_137 (by decide) ?_
    by_cases c6 : 30 ≤ x1
    · rw [if_pos c6] at h
      refine ex_icmp_ge_t (pc := 139) 161 dX4_init_139 rfl c6 ?_
      refine ex_iconst (pc := 161) 0 dX4_init_161 rfl ?_
      refine ex_istore_n (pc := 162) [(1, .int 0), (0, .ref x0)] dX4_init_162 rfl (by decide) rfl ?_
      refine ex_sub (lo' := [(0, .ref x0), (1, .int 0)]) [1, 0] rfl ?_
      exact t_X4_init_163 hd  _ _ _ _ _  h
    · rw [if_neg c6] at h
      refine ex_icmp_ge_f (pc := 139) dX4_init_139 161 rfl c6 ?_
      refine ex_aload_n (pc := 142) 0 dX4_init_142 rfl rfl ?_
      obtain ⟨v7, ev7, h⟩ := ob_some h
      refine ex_gR (pc := 143) ev7 dX4_init_143 lfX4_18 ?_
      refine ex_iload_n (pc := 146) 1 dX4_init_146 rfl rfl ?_
      obtain ⟨q8, eq8, h⟩ := ob_some h
      refine ex_nwO (pc := 147) eq8 dX4_init_147 lwX4_9 ?_
      refine ex_dup (pc := 150) dX4_init_150 rfl ?_
      obtain ⟨q9, eq9, h⟩ := ob_some h
      refine ex_callIN0v (pc := 151) dX4_init_151 jX9_init lnX4_11 jiX9_init rfl rfl (Nat.le_of_ble_eq_true rfl) (s_X9_init (by omega)  eq9) ?_
      obtain ⟨q10, eq10, h⟩ := ob_some h
      refine ex_wQ2 (pc := 154) eq10 dX4_init_154 ?_
      refine ex_iinc (pc := 155) (x1 + 1) 1 [(1, .int (x1 + 1)), (0, .ref x0)] dX4_init_155 rfl rfl (by decide) rfl ?_
      refine ex_goto (pc := 158) 136 dX4_init_158 rfl ?_
      refine ex_sub (lo' := [(0, .ref x0), (1, .int (x1 + 1))]) [1, 0] rfl ?_
      exact ih _ _ _ _  h
noncomputable def f_X4_init_0 (x0 : Nat) (M : Mem) : Option (Mem) :=
  (some (nwO M 9 12)).bind fun q11 =>
  (f_X9_init M.1 q11).bind fun q12 =>
  (pF q12 4 x0 0 (.ref M.1)).bind fun q13 =>
  (nwQ 2 q13 30).bind fun q14 =>
  (pF q14 4 x0 1 (.ref q13.1)).bind fun q15 =>
  (nwQ 3 q15 4).bind fun q16 =>
  (pF q16 4 x0 4 (.ref q15.1)).bind fun q17 =>
  (pF q17 4 x0 6 (.int (-1))).bind fun q18 =>
  (nwI q18 20).bind fun q19 =>
  (pF q19 4 x0 7 (.ref q18.1)).bind fun q20 =>
  (some (nwO q20 3 2)).bind fun q21 =>
  (f_X3_init q20.1 12 q21).bind fun q22 =>
  (pF q22 4 x0 8 (.ref q20.1)).bind fun q23 =>
  (some (nwO q23 3 2)).bind fun q24 =>
  (f_X3_init q23.1 12 q24).bind fun q25 =>
  (pF q25 4 x0 9 (.ref q23.1)).bind fun q26 =>
  (some (nwO q26 3 2)).bind fun q27 =>
  (f_X3_init q26.1 8 q27).bind fun q28 =>
  (pF q28 4 x0 10 (.ref q26.1)).bind fun q29 =>
  (some (nwO q29 3 2)).bind fun q30 =>
  (f_X3_init q29.1 8 q30).bind fun q31 =>
  (pF q31 4 x0 11 (.ref q29.1)).bind fun q32 =>
  (some (nwO q32 3 2)).bind fun q33 =>
  (f_X3_init q32.1 8 q33).bind fun q34 =>
  (pF q34 4 x0 12 (.ref q32.1)).bind fun q35 =>
  (nwI q35 25).bind fun q36 =>
  (pF q36 4 x0 13 (.ref q35.1)).bind fun q37 =>
  (nwI q37 25).bind fun q38 =>
  (pF q38 4 x0 14 (.ref q37.1)).bind fun q39 =>
  (nwI q39 8).bind fun q40 =>
  (pF q40 4 x0 15 (.ref q39.1)).bind fun q41 =>
  f_X4_init_136 fu x0 0 q41
set_option maxHeartbeats 4000000 in
theorem t_X4_init_0 {X : XV} {d : Nat} (hd : 2 ≤ d + 1) : ∀ (x0 : Nat) (M : Mem) (res : Mem), f_X4_init_0  x0 M = some res → Ex X (d + 1) mX4_init 0 [(0, .ref x0)] [] M none res := by
  intro x0 M res  h
  unfold f_X4_init_0 at h
  refine ex_aload_n (pc := 0) 0 dX4_init_0 rfl rfl ?_
  refine ex_obj (pc := 1) dX4_init_1 lmX4_3 (by omega) (Nat.le_of_ble_eq_true rfl) ?_
  refine ex_aload_n (pc := 4) 0 dX4_init_4 rfl rfl ?_
  obtain ⟨q11, eq11, h⟩ := ob_some h
  refine ex_nwO (pc := 5) eq11 dX4_init_5 lwX4_9 ?_
  refine ex_dup (pc := 8) dX4_init_8 rfl ?_
  obtain ⟨q12, eq12, h⟩ := ob_some h
  refine ex_callIN0v (pc := 9) dX4_init_9 jX9_init lnX4_11 jiX9_init rfl rfl (Nat.le_of_ble_eq_true rfl) (s_X9_init (by omega)  eq12) ?_
  obtain ⟨q13, eq13, h⟩ := ob_some h
  refine ex_pFF (pc := 12) eq13 dX4_init_12 lfX4_12 rfl rfl (fun _ hq => by cases hq; exact ⟨rfl, rfl⟩) rfl ?_
  refine ex_aload_n (pc := 15) 0 dX4_init_15 rfl rfl ?_
  refine ex_bipush (pc := 16) 30 dX4_init_16 (by decide) ?_
  obtain ⟨q14, eq14, h⟩ := ob_some h
  refine ex_nwQ (pc := 18) eq14 dX4_init_18 (by decide) lcX4_9 ?_
  obtain ⟨q15, eq15, h⟩ := ob_some h
  refine ex_pFF (pc := 21) eq15 dX4_init_21 lfX4_18 rfl rfl (fun _ hq => by cases hq; exact ⟨rfl, rfl⟩) rfl ?_
  refine ex_aload_n (pc := 24) 0 dX4_init_24 rfl rfl ?_
  refine ex_iconst (pc := 25) 4 dX4_init_25 rfl ?_
  obtain ⟨q16, eq16, h⟩ := ob_some h
  refine ex_nwQ (pc := 26) eq16 dX4_init_26 (by decide) lcX4_22 ?_
  obtain ⟨q17, eq17, h⟩ := ob_some h
  refine ex_pFF (pc := 29) eq17 dX4_init_29 lfX4_24 rfl rfl (fun _ hq => by cases hq; exact ⟨rfl, rfl⟩) rfl ?_
  refine ex_aload_n (pc := 32) 0 dX4_init_32 rfl rfl ?_
  refine ex_iconst (pc := 33) (-1) dX4_init_33 rfl ?_
  obtain ⟨q18, eq18, h⟩ := ob_some h
  refine ex_pF (pc := 34) eq18 dX4_init_34 lfX4_28 rfl rfl (fun _ hq => by cases hq; rfl) ?_
  refine ex_aload_n (pc := 37) 0 dX4_init_37 rfl rfl ?_
  refine ex_bipush (pc := 38) 20 dX4_init_38 (by decide) ?_
  obtain ⟨q19, eq19, h⟩ := ob_some h
  refine ex_nwI (pc := 40) eq19 dX4_init_40 ?_
  obtain ⟨q20, eq20, h⟩ := ob_some h
  refine ex_pFF (pc := 42) eq20 dX4_init_42 lfX4_32 rfl rfl (fun _ hq => by cases hq; exact ⟨rfl, rfl⟩) rfl ?_
  refine ex_aload_n (pc := 45) 0 dX4_init_45 rfl rfl ?_
  obtain ⟨q21, eq21, h⟩ := ob_some h
  refine ex_nwO (pc := 46) eq21 dX4_init_46 lwX4_36 ?_
  refine ex_dup (pc := 49) dX4_init_49 rfl ?_
  refine ex_bipush (pc := 50) 12 dX4_init_50 (by decide) ?_
  obtain ⟨q22, eq22, h⟩ := ob_some h
  refine ex_callI1v (pc := 52) dX4_init_52 jX3_init lmX4_38 jiX3_init rfl rfl (Nat.le_of_ble_eq_true rfl) (s_X3_init (by omega)  eq22) ?_
  obtain ⟨q23, eq23, h⟩ := ob_some h
  refine ex_pFF (pc := 55) eq23 dX4_init_55 lfX4_41 rfl rfl (fun _ hq => by cases hq; exact ⟨rfl, rfl⟩) rfl ?_
  refine ex_aload_n (pc := 58) 0 dX4_init_58 rfl rfl ?_
  obtain ⟨q24, eq24, h⟩ := ob_some h
  refine ex_nwO (pc := 59) eq24 dX4_init_59 lwX4_36 ?_
  refine ex_dup (pc := 62) dX4_init_62 rfl ?_
  refine ex_bipush (pc := 63) 12 dX4_init_63 (by decide) ?_
  obtain ⟨q25, eq25, h⟩ := ob_some h
  refine ex_callI1v (pc := 65) dX4_init_65 jX3_init lmX4_38 jiX3_init rfl rfl (Nat.le_of_ble_eq_true rfl) (s_X3_init (by omega)  eq25) ?_
  obtain ⟨q26, eq26, h⟩ := ob_some h
  refine ex_pFF (pc := 68) eq26 dX4_init_68 lfX4_45 rfl rfl (fun _ hq => by cases hq; exact ⟨rfl, rfl⟩) rfl ?_
  refine ex_aload_n (pc := 71) 0 dX4_init_71 rfl rfl ?_
  obtain ⟨q27, eq27, h⟩ := ob_some h
  refine ex_nwO (pc := 72) eq27 dX4_init_72 lwX4_36 ?_
  refine ex_dup (pc := 75) dX4_init_75 rfl ?_
  refine ex_bipush (pc := 76) 8 dX4_init_76 (by decide) ?_
  obtain ⟨q28, eq28, h⟩ := ob_some h
  refine ex_callI1v (pc := 78) dX4_init_78 jX3_init lmX4_38 jiX3_init rfl rfl (Nat.le_of_ble_eq_true rfl) (s_X3_init (by omega)  eq28) ?_
  obtain ⟨q29, eq29, h⟩ := ob_some h
  refine ex_pFF (pc := 81) eq29 dX4_init_81 lfX4_48 rfl rfl (fun _ hq => by cases hq; exact ⟨rfl, rfl⟩) rfl ?_
  refine ex_aload_n (pc := 84) 0 dX4_init_84 rfl rfl ?_
  obtain ⟨q30, eq30, h⟩ := ob_some h
  refine ex_nwO (pc := 85) eq30 dX4_init_85 lwX4_36 ?_
  refine ex_dup (pc := 88) dX4_init_88 rfl ?_
  refine ex_bipush (pc := 89) 8 dX4_init_89 (by decide) ?_
  obtain ⟨q31, eq31, h⟩ := ob_some h
  refine ex_callI1v (pc := 91) dX4_init_91 jX3_init lmX4_38 jiX3_init rfl rfl (Nat.le_of_ble_eq_true rfl) (s_X3_init (by omega)  eq31) ?_
  obtain ⟨q32, eq32, h⟩ := ob_some h
  refine ex_pFF (pc := 94) eq32 dX4_init_94 lfX4_51 rfl rfl (fun _ hq => by cases hq; exact ⟨rfl, rfl⟩) rfl ?_
  refine ex_aload_n (pc := 97) 0 dX4_init_97 rfl rfl ?_
  obtain ⟨q33, eq33, h⟩ := ob_some h
  refine ex_nwO (pc := 98) eq33 dX4_init_98 lwX4_36 ?_
  refine ex_dup (pc := 101) dX4_init_101 rfl ?_
  refine ex_bipush (pc := 102) 8 dX4_init_102 (by decide) ?_
  obtain ⟨q34, eq34, h⟩ := ob_some h
  refine ex_callI1v (pc := 104) dX4_init_104 jX3_init lmX4_38 jiX3_init rfl rfl (Nat.le_of_ble_eq_true rfl) (s_X3_init (by omega)  eq34) ?_
  obtain ⟨q35, eq35, h⟩ := ob_some h
  refine ex_pFF (pc := 107) eq35 dX4_init_107 lfX4_54 rfl rfl (fun _ hq => by cases hq; exact ⟨rfl, rfl⟩) rfl ?_
  refine ex_aload_n (pc := 110) 0 dX4_init_110 rfl rfl ?_
  refine ex_bipush (pc := 111) 25 dX4_init_111 (by decide) ?_
  obtain ⟨q36, eq36, h⟩ := ob_some h
  refine ex_nwI (pc := 113) eq36 dX4_init_113 ?_
  obtain ⟨q37, eq37, h⟩ := ob_some h
  refine ex_pFF (pc := 115) eq37 dX4_init_115 lfX4_57 rfl rfl (fun _ hq => by cases hq; exact ⟨rfl, rfl⟩) rfl ?_
  refine ex_aload_n (pc := 118) 0 dX4_init_118 rfl rfl ?_
  refine ex_bipush (pc := 119) 25 dX4_init_119 (by decide) ?_
  obtain ⟨q38, eq38, h⟩ := ob_some h
  refine ex_nwI (pc := 121) eq38 dX4_init_121 ?_
  obtain ⟨q39, eq39, h⟩ := ob_some h
  refine ex_pFF (pc := 123) eq39 dX4_init_123 lfX4_60 rfl rfl (fun _ hq => by cases hq; exact ⟨rfl, rfl⟩) rfl ?_
  refine ex_aload_n (pc := 126) 0 dX4_init_126 rfl rfl ?_
  refine ex_bipush (pc := 127) 8 dX4_init_127 (by decide) ?_
  obtain ⟨q40, eq40, h⟩ := ob_some h
  refine ex_nwI (pc := 129) eq40 dX4_init_129 ?_
  obtain ⟨q41, eq41, h⟩ := ob_some h
  refine ex_pFF (pc := 131) eq41 dX4_init_131 lfX4_63 rfl rfl (fun _ hq => by cases hq; exact ⟨rfl, rfl⟩) rfl ?_
  refine ex_iconst (pc := 134) 0 dX4_init_134 rfl ?_
  refine ex_istore_n (pc := 135) [(1, .int 0), (0, .ref x0)] dX4_init_135 rfl (by decide) rfl ?_
  refine ex_sub (lo' := [(0, .ref x0), (1, .int 0)]) [1, 0] rfl ?_
  exact t_X4_init_136 hd  _ _ _ _ _  h
noncomputable def f_X4_init (x0 : Nat) (M : Mem) : Option (Mem) := f_X4_init_0 x0 M
set_option maxHeartbeats 4000000 in
theorem s_X4_init {X : XV} {d : Nat} (hd : 2 ≤ d) {x0 : Nat} {M : Mem} {res : Mem} (h : f_X4_init x0 M = some res) : Mx X d mX4_init [.ref x0] M none res := by
  obtain ⟨d, rfl⟩ : ∃ e, d = e + 1 := ⟨d - 1, by omega⟩
  unfold f_X4_init at h
  refine Mx.of (by decide) (Nat.le_of_ble_eq_true rfl) (rfl) ?_
  exact ex_sub (lo' := [(0, .ref x0)]) [0] rfl (t_X4_init_0 hd _ _ _  h)
