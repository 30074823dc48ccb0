noncomputable def f_X10_commonDivisor_34 (x2 : Int32) : Option (Int32) :=
  if x2 = 0 then
  (some 1)
  else
  (some x2)
set_option maxHeartbeats 4000000 in
theorem t_X10_commonDivisor_34 {X : XV} {d : Nat} {M : Mem} (hd : 1 ≤ d + 1) : ∀ (x2 : Int32) (res : Int32), f_X10_commonDivisor_34  x2 = some res → Ex X (d + 1) mX10_commonDivisor 34 [(2, .int x2)] [] M (some (.int res)) M := by
  intro x2 res  h
  unfold f_X10_commonDivisor_34 at h
  refine ex_iload_n (pc := 34) 0 dX10_commonDivisor_34 rfl rfl ?_
  by_cases c1 : x2 = 0
  · rw [if_pos c1] at h
    refine ex_if_ne_f (pc := 35) dX10_commonDivisor_35 42 rfl c1 ?_
    refine ex_iconst (pc := 38) 1 dX10_commonDivisor_38 rfl ?_
    refine ex_goto (pc := 39) 43 dX10_commonDivisor_39 rfl ?_
    cases h
    exact ex_ireturn (pc := 43) dX10_commonDivisor_43
  · rw [if_neg c1] at h
    refine ex_if_ne_t (pc := 35) 42 dX10_commonDivisor_35 rfl c1 ?_
    refine ex_iload_n (pc := 42) 0 dX10_commonDivisor_42 rfl rfl ?_
    cases h
    exact ex_ireturn (pc := 43) dX10_commonDivisor_43
noncomputable def f_X10_commonDivisor_7 (n0 : Nat) (x2 : Int32) (x3 : Int32) (x4 : Int32) : Option (Int32) :=
  match n0 with
  | 0 => none
  | n + 1 =>
    if 64 ≤ x4 then
    (f_X10_commonDivisor_34 x2)
    else
    (if x3 = 0 then
    (f_X10_commonDivisor_34 x2)
    else
    ((rmI x2 x3).bind fun v4 =>
    f_X10_commonDivisor_7 n x3 v4 (x4 + 1)))
set_option maxHeartbeats 4000000 in
theorem t_X10_commonDivisor_7 {X : XV} {d : Nat} {M : Mem} (hd : 1 ≤ d + 1) : ∀ (n : Nat) (x2 : Int32) (x3 : Int32) (x4 : Int32) (res : Int32), f_X10_commonDivisor_7 n  x2 x3 x4 = some res → Ex X (d + 1) mX10_commonDivisor 7 [(2, .int x2), (3, .int x3), (4, .int x4)] [] M (some (.int res)) M := by
  intro n
  induction n with
  | zero =>
    intro x2 x3 x4 res  h
    unfold f_X10_commonDivisor_7 at h
    cases h
  | succ n ih =>
    intro x2 x3 x4 res  h
    unfold f_X10_commonDivisor_7 at h
    refine ex_iload (pc := 7) 2 dX10_commonDivisor_7 rfl ?_
    refine ex_bipush (pc := 9) 64 dX10_commonDivisor_9 (by decide) ?_
    by_cases c2 : 64 ≤ x4
    · rw [if_pos c2] at h
      refine ex_icmp_ge_t (pc := 11) 34 dX10_commonDivisor_11 rfl c2 ?_
      refine ex_sub (lo' := [(2, .int x2)]) [0] rfl ?_
      exact t_X10_commonDivisor_34 hd  _ _  h
    · rw [if_neg c2] at h
      refine ex_icmp_ge_f (pc := 11) dX10_commonDivisor_11 34 rfl c2 ?_
      refine ex_iload_n (pc := 14) 1 dX10_commonDivisor_14 rfl rfl ?_
      by_cases c3 : x3 = 0
      · rw [if_pos c3] at h
        refine ex_if_eq_t (pc := 15) 34 dX10_commonDivisor_15 rfl c3 ?_
        refine ex_sub (lo' := [(2, .int x2)]) [0] rfl ?_
        exact t_X10_commonDivisor_34 hd  _ _  h
      · rw [if_neg c3] at h
        refine ex_if_eq_f (pc := 15) dX10_commonDivisor_15 34 rfl c3 ?_
        refine ex_iload_n (pc := 18) 0 dX10_commonDivisor_18 rfl rfl ?_
        refine ex_iload_n (pc := 19) 1 dX10_commonDivisor_19 rfl rfl ?_
        obtain ⟨v4, ev4, h⟩ := ob_some h
        refine ex_iremq (pc := 20) ev4 dX10_commonDivisor_20 ?_
        refine ex_istore (pc := 21) [(5, .int v4), (2, .int x2), (3, .int x3), (4, .int x4)] dX10_commonDivisor_21 (by decide) rfl ?_
        refine ex_iload_n (pc := 23) 2 dX10_commonDivisor_23 rfl rfl ?_
        refine ex_istore_n (pc := 24) [(2, .int x3), (5, .int v4), (3, .int x3), (4, .int x4)] dX10_commonDivisor_24 rfl (by decide) rfl ?_
        refine ex_iload (pc := 25) 1 dX10_commonDivisor_25 rfl ?_
        refine ex_istore_n (pc := 27) [(3, .int v4), (2, .int x3), (5, .int v4), (4, .int x4)] dX10_commonDivisor_27 rfl (by decide) rfl ?_
        refine ex_iinc (pc := 28) (x4 + 1) 3 [(4, .int (x4 + 1)), (3, .int v4), (2, .int x3), (5, .int v4)] dX10_commonDivisor_28 rfl rfl (by decide) rfl ?_
        refine ex_goto (pc := 31) 7 dX10_commonDivisor_31 rfl ?_
        refine ex_sub (lo' := [(2, .int x3), (3, .int v4), (4, .int (x4 + 1))]) [2, 1, 0] rfl ?_
        exact ih _ _ _ _  h
noncomputable def f_X10_commonDivisor_0 (x0 : Int32) (x1 : Int32) : Option (Int32) :=
  f_X10_commonDivisor_7 fu x1 x0 0
set_option maxHeartbeats 4000000 in
theorem t_X10_commonDivisor_0 {X : XV} {d : Nat} {M : Mem} (hd : 1 ≤ d + 1) : ∀ (x0 : Int32) (x1 : Int32) (res : Int32), f_X10_commonDivisor_0  x0 x1 = some res → Ex X (d + 1) mX10_commonDivisor 0 [(0, .int x0), (1, .int x1)] [] M (some (.int res)) M := by
  intro x0 x1 res  h
  unfold f_X10_commonDivisor_0 at h
  refine ex_iload_n (pc := 0) 1 dX10_commonDivisor_0 rfl rfl ?_
  refine ex_istore_n (pc := 1) [(2, .int x1), (0, .int x0), (1, .int x1)] dX10_commonDivisor_1 rfl (by decide) rfl ?_
  refine ex_iload_n (pc := 2) 1 dX10_commonDivisor_2 rfl rfl ?_
  refine ex_istore_n (pc := 3) [(3, .int x0), (2, .int x1), (0, .int x0), (1, .int x1)] dX10_commonDivisor_3 rfl (by decide) rfl ?_
  refine ex_iconst (pc := 4) 0 dX10_commonDivisor_4 rfl ?_
  refine ex_istore (pc := 5) [(4, .int 0), (3, .int x0), (2, .int x1), (0, .int x0), (1, .int x1)] dX10_commonDivisor_5 (by decide) rfl ?_
  refine ex_sub (lo' := [(2, .int x1), (3, .int x0), (4, .int 0)]) [2, 1, 0] rfl ?_
  exact t_X10_commonDivisor_7 hd  _ _ _ _ _  h
noncomputable def f_X10_commonDivisor (x0 : Int32) (x1 : Int32) : Option (Int32) := f_X10_commonDivisor_0 x0 x1
set_option maxHeartbeats 4000000 in
theorem s_X10_commonDivisor {X : XV} {d : Nat} (hd : 1 ≤ d) {x0 : Int32} {x1 : Int32} {M : Mem} {res : Int32} (h : f_X10_commonDivisor x0 x1 = some res) : Mx X d mX10_commonDivisor [.int x0, .int x1] M (some (.int res)) M := by
  obtain ⟨d, rfl⟩ : ∃ e, d = e + 1 := ⟨d - 1, by omega⟩
  unfold f_X10_commonDivisor at h
  refine Mx.of (by decide) (Nat.le_of_ble_eq_true rfl) (⟨_, rfl, rfl⟩) ?_
  exact ex_sub (lo' := [(0, .int x0), (1, .int x1)]) [0, 1] rfl (t_X10_commonDivisor_0 hd _ _ _  h)
noncomputable def f_X10_odds_0 (x0 : Nat) (x1 : Int32) (x2 : Int32) (x3 : Bool) (M : Mem) : Option (Int64 × Mem) :=
  (f_X10_within x1 0 9999).bind fun v1 =>
  if v1 = false then
  (some ((-1), M))
  else
  ((f_X10_within x2 0 10).bind fun v3 =>
  if v3 = true then
  ((gR M 10 x0 5).bind fun v5 =>
  (gR M 10 x0 0).bind fun v6 =>
  (gR M 4 v6 8).bind fun v7 =>
  (gR M 10 x0 0).bind fun v8 =>
  (gR M 4 v8 7).bind fun v9 =>
  (f_X6_chance v5 x1 v7 v9 x2 M).bind fun q10 =>
  (f_X10_commonDivisor q10.1 10000).bind fun v11 =>
  if x3 = false then
  ((dvI q10.1 v11).bind fun v13 =>
  some ((Int32.toInt64 v13), q10.2))
  else
  ((dvI 10000 v11).bind fun v14 =>
  some ((Int32.toInt64 v14), q10.2)))
  else
  (some ((-1), M)))
set_option maxHeartbeats 4000000 in
theorem t_X10_odds_0 {X : XV} {d : Nat} (hd : 6 ≤ d + 1) : ∀ (x0 : Nat) (x1 : Int32) (x2 : Int32) (x3 : Bool) (M : Mem) (res : Int64 × Mem), f_X10_odds_0  x0 x1 x2 x3 M = some res → Ex X (d + 1) mX10_odds 0 [(0, .ref x0), (1, .int x1), (2, .int x2), (3, .int (jz x3))] [] M (some (.long res.1)) res.2 := by
  intro x0 x1 x2 x3 M res  h
  unfold f_X10_odds_0 at h
  refine ex_iload_n (pc := 0) 1 dX10_odds_0 rfl rfl ?_
  refine ex_iconst (pc := 1) 0 dX10_odds_1 rfl ?_
  refine ex_sipush (pc := 2) 9999 dX10_odds_2 (by decide) ?_
  obtain ⟨v1, ev1, h⟩ := ob_some h
  refine ex_callS3r (pc := 5) dX10_odds_5 jX10_within lmX10_70 jsX10_within (Nat.le_of_ble_eq_true rfl) (s_X10_within (by omega)  ev1) ?_
  by_cases c2 : v1 = false
  · rw [if_pos c2] at h
    refine ex_if_eq_t (pc := 8) 21 dX10_odds_8 rfl (jz_eq_t c2) ?_
    refine ex_ldc2 (pc := 21) dX10_odds_21 lkX10_230 ?_
    cases h
    exact ex_lreturn (pc := 24) dX10_odds_24
  · rw [if_neg c2] at h
    refine ex_if_eq_f (pc := 8) dX10_odds_8 21 rfl (jz_eq_f c2) ?_
    refine ex_iload_n (pc := 11) 2 dX10_odds_11 rfl rfl ?_
    refine ex_iconst (pc := 12) 0 dX10_odds_12 rfl ?_
    refine ex_bipush (pc := 13) 10 dX10_odds_13 (by decide) ?_
    obtain ⟨v3, ev3, h⟩ := ob_some h
    refine ex_callS3r (pc := 15) dX10_odds_15 jX10_within lmX10_70 jsX10_within (Nat.le_of_ble_eq_true rfl) (s_X10_within (by omega)  ev3) ?_
    by_cases c4 : v3 = true
    · rw [if_pos c4] at h
      refine ex_if_ne_t (pc := 18) 25 dX10_odds_18 rfl (jz_ne_t c4) ?_
      refine ex_aload_n (pc := 25) 0 dX10_odds_25 rfl rfl ?_
      obtain ⟨v5, ev5, h⟩ := ob_some h
      refine ex_gR (pc := 26) ev5 dX10_odds_26 lfX10_45 ?_
      refine ex_iload_n (pc := 29) 1 dX10_odds_29 rfl rfl ?_
      refine ex_aload_n (pc := 30) 0 dX10_odds_30 rfl rfl ?_
      obtain ⟨v6, ev6, h⟩ := ob_some h
      refine ex_gR (pc := 31) ev6 dX10_odds_31 lfX10_10 ?_
      obtain ⟨v7, ev7, h⟩ := ob_some h
      refine ex_gR (pc := 34) ev7 dX10_odds_34 lfX10_222 ?_
      refine ex_aload_n (pc := 37) 0 dX10_odds_37 rfl rfl ?_
      obtain ⟨v8, ev8, h⟩ := ob_some h
      refine ex_gR (pc := 38) ev8 dX10_odds_38 lfX10_10 ?_
      obtain ⟨v9, ev9, h⟩ := ob_some h
      refine ex_gR (pc := 41) ev9 dX10_odds_41 lfX10_81 ?_
      refine ex_iload_n (pc := 44) 2 dX10_odds_44 rfl rfl ?_
      obtain ⟨q10, eq10, h⟩ := ob_some h
      refine ex_callV4r (pc := 45) dX10_odds_45 jX6_chance lmX10_236 jiX6_chance jvX6_chance (o_X6_chance eq10) rfl (Nat.le_of_ble_eq_true rfl) (s_X6_chance (by omega)  eq10) ?_
      refine ex_istore (pc := 48) [(4, .int q10.1), (0, .ref x0), (1, .int x1), (2, .int x2), (3, .int (jz x3))] dX10_odds_48 (by decide) rfl ?_
      refine ex_iload (pc := 50) 0 dX10_odds_50 rfl ?_
      refine ex_sipush (pc := 52) 10000 dX10_odds_52 (by decide) ?_
      obtain ⟨v11, ev11, h⟩ := ob_some h
      refine ex_callS2r (pc := 55) dX10_odds_55 jX10_commonDivisor lmX10_240 jsX10_commonDivisor (Nat.le_of_ble_eq_true rfl) (s_X10_commonDivisor (by omega)  ev11) ?_
      refine ex_istore (pc := 58) [(5, .int v11), (4, .int q10.1), (0, .ref x0), (1, .int x1), (2, .int x2), (3, .int (jz x3))] dX10_odds_58 (by decide) rfl ?_
      refine ex_iload_n (pc := 60) 5 dX10_odds_60 rfl rfl ?_
      by_cases c12 : x3 = false
      · rw [if_pos c12] at h
        refine ex_if_eq_t (pc := 61) 70 dX10_odds_61 rfl (jz_eq_t c12) ?_
        refine ex_iload (pc := 70) 1 dX10_odds_70 rfl ?_
        refine ex_iload (pc := 72) 0 dX10_odds_72 rfl ?_
        obtain ⟨v13, ev13, h⟩ := ob_some h
        refine ex_idivq (pc := 74) ev13 dX10_odds_74 ?_
        refine ex_i2l (pc := 75) dX10_odds_75 ?_
        cases h
        exact ex_lreturn (pc := 76) dX10_odds_76
      · rw [if_neg c12] at h
        refine ex_if_eq_f (pc := 61) dX10_odds_61 70 rfl (jz_eq_f c12) ?_
        refine ex_sipush (pc := 64) 10000 dX10_odds_64 (by decide) ?_
        refine ex_goto (pc := 67) 72 dX10_odds_67 rfl ?_
        refine ex_iload (pc := 72) 0 dX10_odds_72 rfl ?_
        obtain ⟨v14, ev14, h⟩ := ob_some h
        refine ex_idivq (pc := 74) ev14 dX10_odds_74 ?_
        refine ex_i2l (pc := 75) dX10_odds_75 ?_
        cases h
        exact ex_lreturn (pc := 76) dX10_odds_76
    · rw [if_neg c4] at h
      refine ex_if_ne_f (pc := 18) dX10_odds_18 25 rfl (jz_ne_f c4) ?_
      refine ex_ldc2 (pc := 21) dX10_odds_21 lkX10_230 ?_
      cases h
      exact ex_lreturn (pc := 24) dX10_odds_24
noncomputable def f_X10_odds (x0 : Nat) (x1 : Int32) (x2 : Int32) (x3 : Bool) (M : Mem) : Option (Int64 × Mem) := if isOb M 10 x0 = true then f_X10_odds_0 x0 x1 x2 x3 M else none
theorem o_X10_odds {x0 : Nat} {x1 : Int32} {x2 : Int32} {x3 : Bool} {M : Mem} {res : Int64 × Mem} (h : f_X10_odds x0 x1 x2 x3 M = some res) : isO M 10 x0 := by
  unfold f_X10_odds at h
  split at h
  · rename_i hc; exact isOb_iff hc
  · cases h
set_option maxHeartbeats 4000000 in
theorem s_X10_odds {X : XV} {d : Nat} (hd : 6 ≤ d) {x0 : Nat} {x1 : Int32} {x2 : Int32} {x3 : Bool} {M : Mem} {res : Int64 × Mem} (h : f_X10_odds x0 x1 x2 x3 M = some res) : Mx X d mX10_odds [.ref x0, .int x1, .int x2, .int (jz x3)] M (some (.long res.1)) res.2 := by
  obtain ⟨d, rfl⟩ : ∃ e, d = e + 1 := ⟨d - 1, by omega⟩
  unfold f_X10_odds at h
  split at h
  rotate_left
  · cases h
  refine Mx.of (by decide) (Nat.le_of_ble_eq_true rfl) (rfl) ?_
  exact ex_sub (lo' := [(0, .ref x0), (1, .int x1), (2, .int x2), (3, .int (jz x3))]) [0, 1, 2, 3] rfl (t_X10_odds_0 hd _ _ _ _ _ _  h)
noncomputable def f_X10_day_0 (x0 : Nat) (x1 : Int32) (M : Mem) : Option (Int32 × Mem) :=
  if x1 = (-1) then
  ((gR M 10 x0 0).bind fun v11 =>
  (gR M 4 v11 10).bind fun v12 =>
  (pF M 3 v12 1 (.int 0)).bind fun q13 =>
  some (0, q13))
  else
  ((f_X10_within x1 0 9999).bind fun v2 =>
  if v2 = false then
  (some ((-2), M))
  else
  ((gR M 10 x0 0).bind fun v4 =>
  (gR M 4 v4 10).bind fun v5 =>
  (f_X3_append v5 x1 M).bind fun q6 =>
  if q6.1 = true then
  ((gR q6.2 10 x0 0).bind fun v8 =>
  (gR q6.2 4 v8 10).bind fun v9 =>
  (gI q6.2 3 v9 1).bind fun v10 =>
  some (v10, q6.2))
  else
  (some ((-2), q6.2))))
set_option maxHeartbeats 4000000 in
theorem t_X10_day_0 {X : XV} {d : Nat} (hd : 3 ≤ d + 1) : ∀ (x0 : Nat) (x1 : Int32) (M : Mem) (res : Int32 × Mem), f_X10_day_0  x0 x1 M = some res → Ex X (d + 1) mX10_day 0 [(0, .ref x0), (1, .int x1)] [] M (some (.int res.1)) res.2 := by
  intro x0 x1 M res  h
  unfold f_X10_day_0 at h
  refine ex_iload_n (pc := 0) 1 dX10_day_0 rfl rfl ?_
  refine ex_iconst (pc := 1) (-1) dX10_day_1 rfl ?_
  by_cases c1 : x1 = (-1)
  · rw [if_pos c1] at h
    refine ex_icmp_ne_f (pc := 2) dX10_day_2 18 rfl c1 ?_
    refine ex_aload_n (pc := 5) 0 dX10_day_5 rfl rfl ?_
    obtain ⟨v11, ev11, h⟩ := ob_some h
    refine ex_gR (pc := 6) ev11 dX10_day_6 lfX10_10 ?_
    obtain ⟨v12, ev12, h⟩ := ob_some h
    refine ex_gR (pc := 9) ev12 dX10_day_9 lfX10_243 ?_
    refine ex_iconst (pc := 12) 0 dX10_day_12 rfl ?_
    obtain ⟨q13, eq13, h⟩ := ob_some h
    refine ex_pF (pc := 13) eq13 dX10_day_13 lfX10_246 rfl rfl (fun _ hq => by cases hq; rfl) ?_
    refine ex_iconst (pc := 16) 0 dX10_day_16 rfl ?_
    cases h
    exact ex_ireturn (pc := 17) dX10_day_17
  · rw [if_neg c1] at h
    refine ex_icmp_ne_t (pc := 2) 18 dX10_day_2 rfl c1 ?_
    refine ex_iload_n (pc := 18) 1 dX10_day_18 rfl rfl ?_
    refine ex_iconst (pc := 19) 0 dX10_day_19 rfl ?_
    refine ex_sipush (pc := 20) 9999 dX10_day_20 (by decide) ?_
    obtain ⟨v2, ev2, h⟩ := ob_some h
    refine ex_callS3r (pc := 23) dX10_day_23 jX10_within lmX10_70 jsX10_within (Nat.le_of_ble_eq_true rfl) (s_X10_within (by omega)  ev2) ?_
    by_cases c3 : v2 = false
    · rw [if_pos c3] at h
      refine ex_if_eq_t (pc := 26) 43 dX10_day_26 rfl (jz_eq_t c3) ?_
      refine ex_bipush (pc := 43) (-2) dX10_day_43 (by decide) ?_
      cases h
      exact ex_ireturn (pc := 45) dX10_day_45
    · rw [if_neg c3] at h
      refine ex_if_eq_f (pc := 26) dX10_day_26 43 rfl (jz_eq_f c3) ?_
      refine ex_aload_n (pc := 29) 0 dX10_day_29 rfl rfl ?_
      obtain ⟨v4, ev4, h⟩ := ob_some h
      refine ex_gR (pc := 30) ev4 dX10_day_30 lfX10_10 ?_
      obtain ⟨v5, ev5, h⟩ := ob_some h
      refine ex_gR (pc := 33) ev5 dX10_day_33 lfX10_243 ?_
      refine ex_iload_n (pc := 36) 1 dX10_day_36 rfl rfl ?_
      obtain ⟨q6, eq6, h⟩ := ob_some h
      refine ex_callV1r (pc := 37) dX10_day_37 jX3_append lmX10_251 jiX3_append jvX3_append (o_X3_append eq6) rfl (Nat.le_of_ble_eq_true rfl) (s_X3_append (by omega)  eq6) ?_
      by_cases c7 : q6.1 = true
      · rw [if_pos c7] at h
        refine ex_if_ne_t (pc := 40) 46 dX10_day_40 rfl (jz_ne_t c7) ?_
        refine ex_aload_n (pc := 46) 0 dX10_day_46 rfl rfl ?_
        obtain ⟨v8, ev8, h⟩ := ob_some h
        refine ex_gR (pc := 47) ev8 dX10_day_47 lfX10_10 ?_
        obtain ⟨v9, ev9, h⟩ := ob_some h
        refine ex_gR (pc := 50) ev9 dX10_day_50 lfX10_243 ?_
        obtain ⟨v10, ev10, h⟩ := ob_some h
        refine ex_gI (pc := 53) ev10 dX10_day_53 lfX10_246 ?_
        cases h
        exact ex_ireturn (pc := 56) dX10_day_56
      · rw [if_neg c7] at h
        refine ex_if_ne_f (pc := 40) dX10_day_40 46 rfl (jz_ne_f c7) ?_
        refine ex_bipush (pc := 43) (-2) dX10_day_43 (by decide) ?_
        cases h
        exact ex_ireturn (pc := 45) dX10_day_45
noncomputable def f_X10_day (x0 : Nat) (x1 : Int32) (M : Mem) : Option (Int32 × Mem) := if isOb M 10 x0 = true then f_X10_day_0 x0 x1 M else none
theorem o_X10_day {x0 : Nat} {x1 : Int32} {M : Mem} {res : Int32 × Mem} (h : f_X10_day x0 x1 M = some res) : isO M 10 x0 := by
  unfold f_X10_day at h
  split at h
  · rename_i hc; exact isOb_iff hc
  · cases h
set_option maxHeartbeats 4000000 in
theorem s_X10_day {X : XV} {d : Nat} (hd : 3 ≤ d) {x0 : Nat} {x1 : Int32} {M : Mem} {res : Int32 × Mem} (h : f_X10_day x0 x1 M = some res) : Mx X d mX10_day [.ref x0, .int x1] M (some (.int res.1)) res.2 := by
  obtain ⟨d, rfl⟩ : ∃ e, d = e + 1 := ⟨d - 1, by omega⟩
  unfold f_X10_day at h
  split at h
  rotate_left
  · cases h
  refine Mx.of (by decide) (Nat.le_of_ble_eq_true rfl) (⟨_, rfl, rfl⟩) ?_
  exact ex_sub (lo' := [(0, .ref x0), (1, .int x1)]) [0, 1] rfl (t_X10_day_0 hd _ _ _ _  h)
noncomputable def f_X10_fits_4 (n0 : Nat) (x0 : Nat) (x1 : Int32) (x2 : Int32) (M : Mem) : Option (Int32 × Mem) :=
  match n0 with
  | 0 => none
  | n + 1 =>
    (gR M 10 x0 0).bind fun v1 =>
    (gR M 4 v1 10).bind fun v2 =>
    (gI M 3 v2 1).bind fun v3 =>
    if v3 ≤ x2 then
    (some (x1, M))
    else
    ((gR M 10 x0 5).bind fun v5 =>
    (gR M 10 x0 0).bind fun v6 =>
    (gR M 4 v6 10).bind fun v7 =>
    (f_X3_get v7 x2 M).bind fun v8 =>
    (gR M 10 x0 0).bind fun v9 =>
    (gR M 4 v9 8).bind fun v10 =>
    (gR M 10 x0 0).bind fun v11 =>
    (gR M 4 v11 7).bind fun v12 =>
    (f_X6_weigh v5 v8 v10 v12 1 1 M).bind fun q13 =>
    if q13.1 ≤ 0 then
    (f_X10_fits_4 n x0 x1 (x2 + 1) q13.2)
    else
    (f_X10_fits_4 n x0 (x1 ||| (jshl 1 x2)) (x2 + 1) q13.2))
set_option maxHeartbeats 4000000 in
theorem t_X10_fits_4 {X : XV} {d : Nat} (hd : 5 ≤ d + 1) : ∀ (n : Nat) (x0 : Nat) (x1 : Int32) (x2 : Int32) (M : Mem) (res : Int32 × Mem), f_X10_fits_4 n  x0 x1 x2 M = some res → Ex X (d + 1) mX10_fits 4 [(0, .ref x0), (1, .int x1), (2, .int x2)] [] M (some (.int res.1)) res.2 := by
  intro n
  induction n with
  | zero =>
    intro x0 x1 x2 M res  h
    unfold f_X10_fits_4 at h
    cases h
  | succ n ih =>
    intro x0 x1 x2 M res  h
    unfold f_X10_fits_4 at h
    refine ex_iload_n (pc := 4) 2 dX10_fits_4 rfl rfl ?_
    refine ex_aload_n (pc := 5) 0 dX10_fits_5 rfl rfl ?_
    obtain ⟨v1, ev1, h⟩ := ob_some h
    refine ex_gR (pc := 6) ev1 dX10_fits_6 lfX10_10 ?_
    obtain ⟨v2, ev2, h⟩ := ob_some h
    refine ex_gR (pc := 9) ev2 dX10_fits_9 lfX10_243 ?_
    obtain ⟨v3, ev3, h⟩ := ob_some h
    refine ex_gI (pc := 12) ev3 dX10_fits_12 lfX10_246 ?_
    by_cases c4 : v3 ≤ x2
    · rw [if_pos c4] at h
      refine ex_icmp_ge_t (pc := 15) 67 dX10_fits_15 rfl c4 ?_
      refine ex_iload_n (pc := 67) 1 dX10_fits_67 rfl rfl ?_
      cases h
      exact ex_ireturn (pc := 68) dX10_fits_68
    · rw [if_neg c4] at h
      refine ex_icmp_ge_f (pc := 15) dX10_fits_15 67 rfl c4 ?_
      refine ex_aload_n (pc := 18) 0 dX10_fits_18 rfl rfl ?_
      obtain ⟨v5, ev5, h⟩ := ob_some h
      refine ex_gR (pc := 19) ev5 dX10_fits_19 lfX10_45 ?_
      refine ex_aload_n (pc := 22) 0 dX10_fits_22 rfl rfl ?_
      obtain ⟨v6, ev6, h⟩ := ob_some h
      refine ex_gR (pc := 23) ev6 dX10_fits_23 lfX10_10 ?_
      obtain ⟨v7, ev7, h⟩ := ob_some h
      refine ex_gR (pc := 26) ev7 dX10_fits_26 lfX10_243 ?_
      refine ex_iload_n (pc := 29) 2 dX10_fits_29 rfl rfl ?_
      obtain ⟨v8, ev8, h⟩ := ob_some h
      refine ex_callV1r (pc := 30) dX10_fits_30 jX3_get lmX10_253 jiX3_get jvX3_get (o_X3_get ev8) rfl (Nat.le_of_ble_eq_true rfl) (s_X3_get (by omega)  ev8) ?_
      refine ex_aload_n (pc := 33) 0 dX10_fits_33 rfl rfl ?_
      obtain ⟨v9, ev9, h⟩ := ob_some h
      refine ex_gR (pc := 34) ev9 dX10_fits_34 lfX10_10 ?_
      obtain ⟨v10, ev10, h⟩ := ob_some h
      refine ex_gR (pc := 37) ev10 dX10_fits_37 lfX10_222 ?_
      refine ex_aload_n (pc := 40) 0 dX10_fits_40 rfl rfl ?_
      obtain ⟨v11, ev11, h⟩ := ob_some h
      refine ex_gR (pc := 41) ev11 dX10_fits_41 lfX10_10 ?_
      obtain ⟨v12, ev12, h⟩ := ob_some h
      refine ex_gR (pc := 44) ev12 dX10_fits_44 lfX10_81 ?_
      refine ex_iconst (pc := 47) 1 dX10_fits_47 rfl ?_
      refine ex_iconst (pc := 48) 1 dX10_fits_48 rfl ?_
      obtain ⟨q13, eq13, h⟩ := ob_some h
      refine ex_callV5r (pc := 49) dX10_fits_49 jX6_weigh lmX10_232 jiX6_weigh jvX6_weigh (o_X6_weigh eq13) rfl (Nat.le_of_ble_eq_true rfl) (s_X6_weigh (by omega)  eq13) ?_
      by_cases c14 : q13.1 ≤ 0
      · rw [if_pos c14] at h
        refine ex_if_le_t (pc := 52) 61 dX10_fits_52 rfl c14 ?_
        refine ex_iinc (pc := 61) (x2 + 1) 2 [(2, .int (x2 + 1)), (0, .ref x0), (1, .int x1)] dX10_fits_61 rfl rfl (by decide) rfl ?_
        refine ex_goto (pc := 64) 4 dX10_fits_64 rfl ?_
        refine ex_sub (lo' := [(0, .ref x0), (1, .int x1), (2, .int (x2 + 1))]) [1, 2, 0] rfl ?_
        exact ih _ _ _ _ _  h
      · rw [if_neg c14] at h
        refine ex_if_le_f (pc := 52) dX10_fits_52 61 rfl c14 ?_
        refine ex_iload_n (pc := 55) 1 dX10_fits_55 rfl rfl ?_
        refine ex_iconst (pc := 56) 1 dX10_fits_56 rfl ?_
        refine ex_iload_n (pc := 57) 2 dX10_fits_57 rfl rfl ?_
        refine ex_ishl (pc := 58) dX10_fits_58 ?_
        refine ex_ior (pc := 59) dX10_fits_59 ?_
        refine ex_istore_n (pc := 60) [(1, .int (x1 ||| (jshl 1 x2))), (0, .ref x0), (2, .int x2)] dX10_fits_60 rfl (by decide) rfl ?_
        refine ex_iinc (pc := 61) (x2 + 1) 2 [(2, .int (x2 + 1)), (1, .int (x1 ||| (jshl 1 x2))), (0, .ref x0)] dX10_fits_61 rfl rfl (by decide) rfl ?_
        refine ex_goto (pc := 64) 4 dX10_fits_64 rfl ?_
        refine ex_sub (lo' := [(0, .ref x0), (1, .int (x1 ||| (jshl 1 x2))), (2, .int (x2 + 1))]) [2, 1, 0] rfl ?_
        exact ih _ _ _ _ _  h
noncomputable def f_X10_fits_0 (x0 : Nat) (M : Mem) : Option (Int32 × Mem) :=
  f_X10_fits_4 fu x0 0 0 M
set_option maxHeartbeats 4000000 in
theorem t_X10_fits_0 {X : XV} {d : Nat} (hd : 5 ≤ d + 1) : ∀ (x0 : Nat) (M : Mem) (res : Int32 × Mem), f_X10_fits_0  x0 M = some res → Ex X (d + 1) mX10_fits 0 [(0, .ref x0)] [] M (some (.int res.1)) res.2 := by
  intro x0 M res  h
  unfold f_X10_fits_0 at h
  refine ex_iconst (pc := 0) 0 dX10_fits_0 rfl ?_
  refine ex_istore_n (pc := 1) [(1, .int 0), (0, .ref x0)] dX10_fits_1 rfl (by decide) rfl ?_
  refine ex_iconst (pc := 2) 0 dX10_fits_2 rfl ?_
  refine ex_istore_n (pc := 3) [(2, .int 0), (1, .int 0), (0, .ref x0)] dX10_fits_3 rfl (by decide) rfl ?_
  refine ex_sub (lo' := [(0, .ref x0), (1, .int 0), (2, .int 0)]) [2, 1, 0] rfl ?_
  exact t_X10_fits_4 hd  _ _ _ _ _ _  h
noncomputable def f_X10_fits (x0 : Nat) (M : Mem) : Option (Int32 × Mem) := if isOb M 10 x0 = true then f_X10_fits_0 x0 M else none
theorem o_X10_fits {x0 : Nat} {M : Mem} {res : Int32 × Mem} (h : f_X10_fits x0 M = some res) : isO M 10 x0 := by
  unfold f_X10_fits at h
  split at h
  · rename_i hc; exact isOb_iff hc
  · cases h
set_option maxHeartbeats 4000000 in
theorem s_X10_fits {X : XV} {d : Nat} (hd : 5 ≤ d) {x0 : Nat} {M : Mem} {res : Int32 × Mem} (h : f_X10_fits x0 M = some res) : Mx X d mX10_fits [.ref x0] M (some (.int res.1)) res.2 := by
  obtain ⟨d, rfl⟩ : ∃ e, d = e + 1 := ⟨d - 1, by omega⟩
  unfold f_X10_fits at h
  split at h
  rotate_left
  · cases h
  refine Mx.of (by decide) (Nat.le_of_ble_eq_true rfl) (⟨_, rfl, rfl⟩) ?_
  exact ex_sub (lo' := [(0, .ref x0)]) [0] rfl (t_X10_fits_0 hd _ _ _  h)
noncomputable def f_X10_likeliest_19 (n0 : Nat) (x0 : Nat) (x1 : Int32) (x2 : Int32) (x3 : Int32) (x4 : Int32) (M : Mem) : Option (Int32 × Mem) :=
  match n0 with
  | 0 => none
  | n + 1 =>
    (gR M 10 x0 0).bind fun v1 =>
    (gR M 4 v1 10).bind fun v2 =>
    (gI M 3 v2 1).bind fun v3 =>
    if v3 ≤ x4 then
    (some (x2, M))
    else
    ((gR M 10 x0 5).bind fun v5 =>
    (gR M 10 x0 0).bind fun v6 =>
    (gR M 4 v6 10).bind fun v7 =>
    (f_X3_get v7 x4 M).bind fun v8 =>
    (gR M 10 x0 0).bind fun v9 =>
    (gR M 4 v9 8).bind fun v10 =>
    (gR M 10 x0 0).bind fun v11 =>
    (gR M 4 v11 7).bind fun v12 =>
    (f_X6_chance v5 v8 v10 v12 x1 M).bind fun q13 =>
    if q13.1 ≤ x3 then
    (f_X10_likeliest_19 n x0 x1 x2 x3 (x4 + 1) q13.2)
    else
    (f_X10_likeliest_19 n x0 x1 x4 q13.1 (x4 + 1) q13.2))
set_option maxHeartbeats 4000000 in
theorem t_X10_likeliest_19 {X : XV} {d : Nat} (hd : 6 ≤ d + 1) : ∀ (n : Nat) (x0 : Nat) (x1 : Int32) (x2 : Int32) (x3 : Int32) (x4 : Int32) (M : Mem) (res : Int32 × Mem), f_X10_likeliest_19 n  x0 x1 x2 x3 x4 M = some res → Ex X (d + 1) mX10_likeliest 19 [(0, .ref x0), (1, .int x1), (2, .int x2), (3, .int x3), (4, .int x4)] [] M (some (.int res.1)) res.2 := by
  intro n
  induction n with
  | zero =>
    intro x0 x1 x2 x3 x4 M res  h
    unfold f_X10_likeliest_19 at h
    cases h
  | succ n ih =>
    intro x0 x1 x2 x3 x4 M res  h
    unfold f_X10_likeliest_19 at h
    refine ex_iload (pc := 19) 4 dX10_likeliest_19 rfl ?_
    refine ex_aload_n (pc := 21) 0 dX10_likeliest_21 rfl rfl ?_
    obtain ⟨v1, ev1, h⟩ := ob_some h
    refine ex_gR (pc := 22) ev1 dX10_likeliest_22 lfX10_10 ?_
    obtain ⟨v2, ev2, h⟩ := ob_some h
    refine ex_gR (pc := 25) ev2 dX10_likeliest_25 lfX10_243 ?_
    obtain ⟨v3, ev3, h⟩ := ob_some h
    refine ex_gI (pc := 28) ev3 dX10_likeliest_28 lfX10_246 ?_
    by_cases c4 : v3 ≤ x4
    · rw [if_pos c4] at h
      refine ex_icmp_ge_t (pc := 31) 88 dX10_likeliest_31 rfl c4 ?_
      refine ex_iload_n (pc := 88) 2 dX10_likeliest_88 rfl rfl ?_
      cases h
      exact ex_ireturn (pc := 89) dX10_likeliest_89
    · rw [if_neg c4] at h
      refine ex_icmp_ge_f (pc := 31) dX10_likeliest_31 88 rfl c4 ?_
      refine ex_aload_n (pc := 34) 0 dX10_likeliest_34 rfl rfl ?_
      obtain ⟨v5, ev5, h⟩ := ob_some h
      refine ex_gR (pc := 35) ev5 dX10_likeliest_35 lfX10_45 ?_
      refine ex_aload_n (pc := 38) 0 dX10_likeliest_38 rfl rfl ?_
      obtain ⟨v6, ev6, h⟩ := ob_some h
      refine ex_gR (pc := 39) ev6 dX10_likeliest_39 lfX10_10 ?_
      obtain ⟨v7, ev7, h⟩ := ob_some h
      refine ex_gR (pc := 42) ev7 dX10_likeliest_42 lfX10_243 ?_
      refine ex_iload (pc := 45) 4 dX10_likeliest_45 rfl ?_
      obtain ⟨v8, ev8, h⟩ := ob_some h
      refine ex_callV1r (pc := 47) dX10_likeliest_47 jX3_get lmX10_253 jiX3_get jvX3_get (o_X3_get ev8) rfl (Nat.le_of_ble_eq_true rfl) (s_X3_get (by omega)  ev8) ?_
      refine ex_aload_n (pc := 50) 0 dX10_likeliest_50 rfl rfl ?_
      obtain ⟨v9, ev9, h⟩ := ob_some h
      refine ex_gR (pc := 51) ev9 dX10_likeliest_51 lfX10_10 ?_
      obtain ⟨v10, ev10, h⟩ := ob_some h
      refine ex_gR (pc := 54) ev10 dX10_likeliest_54 lfX10_222 ?_
      refine ex_aload_n (pc := 57) 0 dX10_likeliest_57 rfl rfl ?_
      obtain ⟨v11, ev11, h⟩ := ob_some h
      refine ex_gR (pc := 58) ev11 dX10_likeliest_58 lfX10_10 ?_
      obtain ⟨v12, ev12, h⟩ := ob_some h
      refine ex_gR (pc := 61) ev12 dX10_likeliest_61 lfX10_81 ?_
      refine ex_iload_n (pc := 64) 1 dX10_likeliest_64 rfl rfl ?_
      obtain ⟨q13, eq13, h⟩ := ob_some h
      refine ex_callV4r (pc := 65) dX10_likeliest_65 jX6_chance lmX10_236 jiX6_chance jvX6_chance (o_X6_chance eq13) rfl (Nat.le_of_ble_eq_true rfl) (s_X6_chance (by omega)  eq13) ?_
      refine ex_istore (pc := 68) [(5, .int q13.1), (0, .ref x0), (1, .int x1), (2, .int x2), (3, .int x3), (4, .int x4)] dX10_likeliest_68 (by decide) rfl ?_
      refine ex_iload (pc := 70) 0 dX10_likeliest_70 rfl ?_
      refine ex_iload_n (pc := 72) 4 dX10_likeliest_72 rfl rfl ?_
      by_cases c14 : q13.1 ≤ x3
      · rw [if_pos c14] at h
        refine ex_icmp_le_t (pc := 73) 82 dX10_likeliest_73 rfl c14 ?_
        refine ex_iinc (pc := 82) (x4 + 1) 5 [(4, .int (x4 + 1)), (5, .int q13.1), (0, .ref x0), (1, .int x1), (2, .int x2), (3, .int x3)] dX10_likeliest_82 rfl rfl (by decide) rfl ?_
        refine ex_goto (pc := 85) 19 dX10_likeliest_85 rfl ?_
        refine ex_sub (lo' := [(0, .ref x0), (1, .int x1), (2, .int x2), (3, .int x3), (4, .int (x4 + 1))]) [2, 3, 4, 5, 0] rfl ?_
        exact ih _ _ _ _ _ _ _  h
      · rw [if_neg c14] at h
        refine ex_icmp_le_f (pc := 73) dX10_likeliest_73 82 rfl c14 ?_
        refine ex_iload (pc := 76) 0 dX10_likeliest_76 rfl ?_
        refine ex_istore_n (pc := 78) [(3, .int q13.1), (5, .int q13.1), (0, .ref x0), (1, .int x1), (2, .int x2), (4, .int x4)] dX10_likeliest_78 rfl (by decide) rfl ?_
        refine ex_iload (pc := 79) 5 dX10_likeliest_79 rfl ?_
        refine ex_istore_n (pc := 81) [(2, .int x4), (3, .int q13.1), (5, .int q13.1), (0, .ref x0), (1, .int x1), (4, .int x4)] dX10_likeliest_81 rfl (by decide) rfl ?_
        refine ex_iinc (pc := 82) (x4 + 1) 5 [(4, .int (x4 + 1)), (2, .int x4), (3, .int q13.1), (5, .int q13.1), (0, .ref x0), (1, .int x1)] dX10_likeliest_82 rfl rfl (by decide) rfl ?_
        refine ex_goto (pc := 85) 19 dX10_likeliest_85 rfl ?_
        refine ex_sub (lo' := [(0, .ref x0), (1, .int x1), (2, .int x4), (3, .int q13.1), (4, .int (x4 + 1))]) [4, 5, 1, 2, 0] rfl ?_
        exact ih _ _ _ _ _ _ _  h
noncomputable def f_X10_likeliest_0 (x0 : Nat) (x1 : Int32) (M : Mem) : Option (Int32 × Mem) :=
  (f_X10_within x1 0 10).bind fun v15 =>
  if v15 = true then
  (f_X10_likeliest_19 fu x0 x1 (-1) 0 0 M)
  else
  (some ((-1), M))
set_option maxHeartbeats 4000000 in
theorem t_X10_likeliest_0 {X : XV} {d : Nat} (hd : 6 ≤ d + 1) : ∀ (x0 : Nat) (x1 : Int32) (M : Mem) (res : Int32 × Mem), f_X10_likeliest_0  x0 x1 M = some res → Ex X (d + 1) mX10_likeliest 0 [(0, .ref x0), (1, .int x1)] [] M (some (.int res.1)) res.2 := by
  intro x0 x1 M res  h
  unfold f_X10_likeliest_0 at h
  refine ex_iload_n (pc := 0) 1 dX10_likeliest_0 rfl rfl ?_
  refine ex_iconst (pc := 1) 0 dX10_likeliest_1 rfl ?_
  refine ex_bipush (pc := 2) 10 dX10_likeliest_2 (by decide) ?_
  obtain ⟨v15, ev15, h⟩ := ob_some h
  refine ex_callS3r (pc := 4) dX10_likeliest_4 jX10_within lmX10_70 jsX10_within (Nat.le_of_ble_eq_true rfl) (s_X10_within (by omega)  ev15) ?_
  by_cases c16 : v15 = true
  · rw [if_pos c16] at h
    refine ex_if_ne_t (pc := 7) 12 dX10_likeliest_7 rfl (jz_ne_t c16) ?_
    refine ex_iconst (pc := 12) (-1) dX10_likeliest_12 rfl ?_
    refine ex_istore_n (pc := 13) [(2, .int (-1)), (0, .ref x0), (1, .int x1)] dX10_likeliest_13 rfl (by decide) rfl ?_
    refine ex_iconst (pc := 14) 0 dX10_likeliest_14 rfl ?_
    refine ex_istore_n (pc := 15) [(3, .int 0), (2, .int (-1)), (0, .ref x0), (1, .int x1)] dX10_likeliest_15 rfl (by decide) rfl ?_
    refine ex_iconst (pc := 16) 0 dX10_likeliest_16 rfl ?_
    refine ex_istore (pc := 17) [(4, .int 0), (3, .int 0), (2, .int (-1)), (0, .ref x0), (1, .int x1)] dX10_likeliest_17 (by decide) rfl ?_
    refine ex_sub (lo' := [(0, .ref x0), (1, .int x1), (2, .int (-1)), (3, .int 0), (4, .int 0)]) [3, 4, 2, 1, 0] rfl ?_
    exact t_X10_likeliest_19 hd  _ _ _ _ _ _ _ _  h
  · rw [if_neg c16] at h
    refine ex_if_ne_f (pc := 7) dX10_likeliest_7 12 rfl (jz_ne_f c16) ?_
    refine ex_iconst (pc := 10) (-1) dX10_likeliest_10 rfl ?_
    cases h
    exact ex_ireturn (pc := 11) dX10_likeliest_11
noncomputable def f_X10_likeliest (x0 : Nat) (x1 : Int32) (M : Mem) : Option (Int32 × Mem) := if isOb M 10 x0 = true then f_X10_likeliest_0 x0 x1 M else none
theorem o_X10_likeliest {x0 : Nat} {x1 : Int32} {M : Mem} {res : Int32 × Mem} (h : f_X10_likeliest x0 x1 M = some res) : isO M 10 x0 := by
  unfold f_X10_likeliest at h
  split at h
  · rename_i hc; exact isOb_iff hc
  · cases h
set_option maxHeartbeats 4000000 in
theorem s_X10_likeliest {X : XV} {d : Nat} (hd : 6 ≤ d) {x0 : Nat} {x1 : Int32} {M : Mem} {res : Int32 × Mem} (h : f_X10_likeliest x0 x1 M = some res) : Mx X d mX10_likeliest [.ref x0, .int x1] M (some (.int res.1)) res.2 := by
  obtain ⟨d, rfl⟩ : ∃ e, d = e + 1 := ⟨d - 1, by omega⟩
  unfold f_X10_likeliest at h
  split at h
  rotate_left
  · cases h
  refine Mx.of (by decide) (Nat.le_of_ble_eq_true rfl) (⟨_, rfl, rfl⟩) ?_
  exact ex_sub (lo' := [(0, .ref x0), (1, .int x1)]) [0, 1] rfl (t_X10_likeliest_0 hd _ _ _ _  h)
noncomputable def f_X10_add_0 (x0 : Nat) (x1 : Int32) (M : Mem) : Option (Int32 × Mem) :=
  (gR M 10 x0 5).bind fun v1 =>
  (gR M 10 x0 0).bind fun v2 =>
  (gR M 4 v2 8).bind fun v3 =>
  (gR M 10 x0 0).bind fun v4 =>
  (gR M 4 v4 7).bind fun v5 =>
  (f_X6_fewest v1 v3 v5 M).bind fun q6 =>
  if x1 = (-1) then
  ((gR q6 10 x0 5).bind fun v15 =>
  (gR q6 6 v15 0).bind fun v16 =>
  (gI q6 3 v16 1).bind fun v17 =>
  if v17 ≤ 0 then
  (some ((-2), q6))
  else
  ((gR q6 10 x0 5).bind fun v19 =>
  (gR q6 6 v19 0).bind fun v20 =>
  (gI q6 3 v20 1).bind fun v21 =>
  some (v21, q6)))
  else
  ((gR q6 10 x0 5).bind fun v8 =>
  (gR q6 6 v8 0).bind fun v9 =>
  (f_X3_has v9 x1 q6).bind fun v10 =>
  if v10 = false then
  (some ((-2), q6))
  else
  ((gR q6 10 x0 5).bind fun v12 =>
  (gR q6 6 v12 0).bind fun v13 =>
  (f_X3_get v13 x1 q6).bind fun v14 =>
  some (v14, q6)))
set_option maxHeartbeats 4000000 in
theorem t_X10_add_0 {X : XV} {d : Nat} (hd : 7 ≤ d + 1) : ∀ (x0 : Nat) (x1 : Int32) (M : Mem) (res : Int32 × Mem), f_X10_add_0  x0 x1 M = some res → Ex X (d + 1) mX10_add 0 [(0, .ref x0), (1, .int x1)] [] M (some (.int res.1)) res.2 := by
  intro x0 x1 M res  h
  unfold f_X10_add_0 at h
  refine ex_aload_n (pc := 0) 0 dX10_add_0 rfl rfl ?_
  obtain ⟨v1, ev1, h⟩ := ob_some h
  refine ex_gR (pc := 1) ev1 dX10_add_1 lfX10_45 ?_
  refine ex_aload_n (pc := 4) 0 dX10_add_4 rfl rfl ?_
  obtain ⟨v2, ev2, h⟩ := ob_some h
  refine ex_gR (pc := 5) ev2 dX10_add_5 lfX10_10 ?_
  obtain ⟨v3, ev3, h⟩ := ob_some h
  refine ex_gR (pc := 8) ev3 dX10_add_8 lfX10_222 ?_
  refine ex_aload_n (pc := 11) 0 dX10_add_11 rfl rfl ?_
  obtain ⟨v4, ev4, h⟩ := ob_some h
  refine ex_gR (pc := 12) ev4 dX10_add_12 lfX10_10 ?_
  obtain ⟨v5, ev5, h⟩ := ob_some h
  refine ex_gR (pc := 15) ev5 dX10_add_15 lfX10_81 ?_
  obtain ⟨q6, eq6, h⟩ := ob_some h
  refine ex_callV2v (pc := 18) dX10_add_18 jX6_fewest lmX10_256 jiX6_fewest jvX6_fewest (o_X6_fewest eq6) rfl (Nat.le_of_ble_eq_true rfl) (s_X6_fewest (by omega)  eq6) ?_
  refine ex_iload_n (pc := 21) 1 dX10_add_21 rfl rfl ?_
  refine ex_iconst (pc := 22) (-1) dX10_add_22 rfl ?_
  by_cases c7 : x1 = (-1)
  · rw [if_pos c7] at h
    refine ex_icmp_ne_f (pc := 23) dX10_add_23 55 rfl c7 ?_
    refine ex_aload_n (pc := 26) 0 dX10_add_26 rfl rfl ?_
    obtain ⟨v15, ev15, h⟩ := ob_some h
    refine ex_gR (pc := 27) ev15 dX10_add_27 lfX10_45 ?_
    obtain ⟨v16, ev16, h⟩ := ob_some h
    refine ex_gR (pc := 30) ev16 dX10_add_30 lfX10_260 ?_
    obtain ⟨v17, ev17, h⟩ := ob_some h
    refine ex_gI (pc := 33) ev17 dX10_add_33 lfX10_246 ?_
    by_cases c18 : v17 ≤ 0
    · rw [if_pos c18] at h
      refine ex_if_le_t (pc := 36) 52 dX10_add_36 rfl c18 ?_
      refine ex_bipush (pc := 52) (-2) dX10_add_52 (by decide) ?_
      cases h
      exact ex_ireturn (pc := 54) dX10_add_54
    · rw [if_neg c18] at h
      refine ex_if_le_f (pc := 36) dX10_add_36 52 rfl c18 ?_
      refine ex_aload_n (pc := 39) 0 dX10_add_39 rfl rfl ?_
      obtain ⟨v19, ev19, h⟩ := ob_some h
      refine ex_gR (pc := 40) ev19 dX10_add_40 lfX10_45 ?_
      obtain ⟨v20, ev20, h⟩ := ob_some h
      refine ex_gR (pc := 43) ev20 dX10_add_43 lfX10_260 ?_
      obtain ⟨v21, ev21, h⟩ := ob_some h
      refine ex_gI (pc := 46) ev21 dX10_add_46 lfX10_246 ?_
      refine ex_goto (pc := 49) 54 dX10_add_49 rfl ?_
      cases h
      exact ex_ireturn (pc := 54) dX10_add_54
  · rw [if_neg c7] at h
    refine ex_icmp_ne_t (pc := 23) 55 dX10_add_23 rfl c7 ?_
    refine ex_aload_n (pc := 55) 0 dX10_add_55 rfl rfl ?_
    obtain ⟨v8, ev8, h⟩ := ob_some h
    refine ex_gR (pc := 56) ev8 dX10_add_56 lfX10_45 ?_
    obtain ⟨v9, ev9, h⟩ := ob_some h
    refine ex_gR (pc := 59) ev9 dX10_add_59 lfX10_260 ?_
    refine ex_iload_n (pc := 62) 1 dX10_add_62 rfl rfl ?_
    obtain ⟨v10, ev10, h⟩ := ob_some h
    refine ex_callV1r (pc := 63) dX10_add_63 jX3_has lmX10_263 jiX3_has jvX3_has (o_X3_has ev10) rfl (Nat.le_of_ble_eq_true rfl) (s_X3_has (by omega)  ev10) ?_
    by_cases c11 : v10 = false
    · rw [if_pos c11] at h
      refine ex_if_eq_t (pc := 66) 83 dX10_add_66 rfl (jz_eq_t c11) ?_
      refine ex_bipush (pc := 83) (-2) dX10_add_83 (by decide) ?_
      cases h
      exact ex_ireturn (pc := 85) dX10_add_85
    · rw [if_neg c11] at h
      refine ex_if_eq_f (pc := 66) dX10_add_66 83 rfl (jz_eq_f c11) ?_
      refine ex_aload_n (pc := 69) 0 dX10_add_69 rfl rfl ?_
      obtain ⟨v12, ev12, h⟩ := ob_some h
      refine ex_gR (pc := 70) ev12 dX10_add_70 lfX10_45 ?_
      obtain ⟨v13, ev13, h⟩ := ob_some h
      refine ex_gR (pc := 73) ev13 dX10_add_73 lfX10_260 ?_
      refine ex_iload_n (pc := 76) 1 dX10_add_76 rfl rfl ?_
      obtain ⟨v14, ev14, h⟩ := ob_some h
      refine ex_callV1r (pc := 77) dX10_add_77 jX3_get lmX10_253 jiX3_get jvX3_get (o_X3_get ev14) rfl (Nat.le_of_ble_eq_true rfl) (s_X3_get (by omega)  ev14) ?_
      refine ex_goto (pc := 80) 85 dX10_add_80 rfl ?_
      cases h
      exact ex_ireturn (pc := 85) dX10_add_85
noncomputable def f_X10_add (x0 : Nat) (x1 : Int32) (M : Mem) : Option (Int32 × Mem) := if isOb M 10 x0 = true then f_X10_add_0 x0 x1 M else none
theorem o_X10_add {x0 : Nat} {x1 : Int32} {M : Mem} {res : Int32 × Mem} (h : f_X10_add x0 x1 M = some res) : isO M 10 x0 := by
  unfold f_X10_add at h
  split at h
  · rename_i hc; exact isOb_iff hc
  · cases h
set_option maxHeartbeats 4000000 in
theorem s_X10_add {X : XV} {d : Nat} (hd : 7 ≤ d) {x0 : Nat} {x1 : Int32} {M : Mem} {res : Int32 × Mem} (h : f_X10_add x0 x1 M = some res) : Mx X d mX10_add [.ref x0, .int x1] M (some (.int res.1)) res.2 := by
  obtain ⟨d, rfl⟩ : ∃ e, d = e + 1 := ⟨d - 1, by omega⟩
  unfold f_X10_add at h
  split at h
  rotate_left
  · cases h
  refine Mx.of (by decide) (Nat.le_of_ble_eq_true rfl) (⟨_, rfl, rfl⟩) ?_
  exact ex_sub (lo' := [(0, .ref x0), (1, .int x1)]) [0, 1] rfl (t_X10_add_0 hd _ _ _ _  h)
noncomputable def f_X10_second_0 (x0 : Nat) (x1 : Int32) (M : Mem) : Option (Int32 × Mem) :=
  (gR M 10 x0 0).bind fun v1 =>
  (gR M 4 v1 9).bind fun v2 =>
  (f_X10_lengthen v2 x1 M).bind fun q3 =>
  some (q3.1, q3.2)
set_option maxHeartbeats 4000000 in
theorem t_X10_second_0 {X : XV} {d : Nat} (hd : 4 ≤ d + 1) : ∀ (x0 : Nat) (x1 : Int32) (M : Mem) (res : Int32 × Mem), f_X10_second_0  x0 x1 M = some res → Ex X (d + 1) mX10_second 0 [(0, .ref x0), (1, .int x1)] [] M (some (.int res.1)) res.2 := by
  intro x0 x1 M res  h
  unfold f_X10_second_0 at h
  refine ex_aload_n (pc := 0) 0 dX10_second_0 rfl rfl ?_
  obtain ⟨v1, ev1, h⟩ := ob_some h
  refine ex_gR (pc := 1) ev1 dX10_second_1 lfX10_10 ?_
  obtain ⟨v2, ev2, h⟩ := ob_some h
  refine ex_gR (pc := 4) ev2 dX10_second_4 lfX10_264 ?_
  refine ex_iload_n (pc := 7) 1 dX10_second_7 rfl rfl ?_
  obtain ⟨q3, eq3, h⟩ := ob_some h
  refine ex_callS2r (pc := 8) dX10_second_8 jX10_lengthen lmX10_226 jsX10_lengthen (Nat.le_of_ble_eq_true rfl) (s_X10_lengthen (by omega)  eq3) ?_
  cases h
  exact ex_ireturn (pc := 11) dX10_second_11
noncomputable def f_X10_second (x0 : Nat) (x1 : Int32) (M : Mem) : Option (Int32 × Mem) := if isOb M 10 x0 = true then f_X10_second_0 x0 x1 M else none
theorem o_X10_second {x0 : Nat} {x1 : Int32} {M : Mem} {res : Int32 × Mem} (h : f_X10_second x0 x1 M = some res) : isO M 10 x0 := by
  unfold f_X10_second at h
  split at h
  · rename_i hc; exact isOb_iff hc
  · cases h
set_option maxHeartbeats 4000000 in
theorem s_X10_second {X : XV} {d : Nat} (hd : 4 ≤ d) {x0 : Nat} {x1 : Int32} {M : Mem} {res : Int32 × Mem} (h : f_X10_second x0 x1 M = some res) : Mx X d mX10_second [.ref x0, .int x1] M (some (.int res.1)) res.2 := by
  obtain ⟨d, rfl⟩ : ∃ e, d = e + 1 := ⟨d - 1, by omega⟩
  unfold f_X10_second at h
  split at h
  rotate_left
  · cases h
  refine Mx.of (by decide) (Nat.le_of_ble_eq_true rfl) (⟨_, rfl, rfl⟩) ?_
  exact ex_sub (lo' := [(0, .ref x0), (1, .int x1)]) [0, 1] rfl (t_X10_second_0 hd _ _ _ _  h)
noncomputable def f_X10_duet_0 (x0 : Nat) (x1 : Int32) (x2 : Int32) (M : Mem) : Option (Int32 × Mem) :=
  (f_X10_within x1 0 9999).bind fun v1 =>
  if v1 = false then
  (some ((-1), M))
  else
  ((f_X10_within x2 0 9999).bind fun v3 =>
  if v3 = true then
  ((gR M 10 x0 5).bind fun v5 =>
  (gR M 10 x0 0).bind fun v6 =>
  (gR M 4 v6 8).bind fun v7 =>
  (f_X6_woven v5 x1 x2 v7 M).bind fun q8 =>
  some (q8.1, q8.2))
  else
  (some ((-1), M)))
set_option maxHeartbeats 4000000 in
theorem t_X10_duet_0 {X : XV} {d : Nat} (hd : 4 ≤ d + 1) : ∀ (x0 : Nat) (x1 : Int32) (x2 : Int32) (M : Mem) (res : Int32 × Mem), f_X10_duet_0  x0 x1 x2 M = some res → Ex X (d + 1) mX10_duet 0 [(0, .ref x0), (1, .int x1), (2, .int x2)] [] M (some (.int res.1)) res.2 := by
  intro x0 x1 x2 M res  h
  unfold f_X10_duet_0 at h
  refine ex_iload_n (pc := 0) 1 dX10_duet_0 rfl rfl ?_
  refine ex_iconst (pc := 1) 0 dX10_duet_1 rfl ?_
  refine ex_sipush (pc := 2) 9999 dX10_duet_2 (by decide) ?_
  obtain ⟨v1, ev1, h⟩ := ob_some h
  refine ex_callS3r (pc := 5) dX10_duet_5 jX10_within lmX10_70 jsX10_within (Nat.le_of_ble_eq_true rfl) (s_X10_within (by omega)  ev1) ?_
  by_cases c2 : v1 = false
  · rw [if_pos c2] at h
    refine ex_if_eq_t (pc := 8) 22 dX10_duet_8 rfl (jz_eq_t c2) ?_
    refine ex_iconst (pc := 22) (-1) dX10_duet_22 rfl ?_
    cases h
    exact ex_ireturn (pc := 23) dX10_duet_23
  · rw [if_neg c2] at h
    refine ex_if_eq_f (pc := 8) dX10_duet_8 22 rfl (jz_eq_f c2) ?_
    refine ex_iload_n (pc := 11) 2 dX10_duet_11 rfl rfl ?_
    refine ex_iconst (pc := 12) 0 dX10_duet_12 rfl ?_
    refine ex_sipush (pc := 13) 9999 dX10_duet_13 (by decide) ?_
    obtain ⟨v3, ev3, h⟩ := ob_some h
    refine ex_callS3r (pc := 16) dX10_duet_16 jX10_within lmX10_70 jsX10_within (Nat.le_of_ble_eq_true rfl) (s_X10_within (by omega)  ev3) ?_
    by_cases c4 : v3 = true
    · rw [if_pos c4] at h
      refine ex_if_ne_t (pc := 19) 24 dX10_duet_19 rfl (jz_ne_t c4) ?_
      refine ex_aload_n (pc := 24) 0 dX10_duet_24 rfl rfl ?_
      obtain ⟨v5, ev5, h⟩ := ob_some h
      refine ex_gR (pc := 25) ev5 dX10_duet_25 lfX10_45 ?_
      refine ex_iload_n (pc := 28) 1 dX10_duet_28 rfl rfl ?_
      refine ex_iload_n (pc := 29) 2 dX10_duet_29 rfl rfl ?_
      refine ex_aload_n (pc := 30) 0 dX10_duet_30 rfl rfl ?_
      obtain ⟨v6, ev6, h⟩ := ob_some h
      refine ex_gR (pc := 31) ev6 dX10_duet_31 lfX10_10 ?_
      obtain ⟨v7, ev7, h⟩ := ob_some h
      refine ex_gR (pc := 34) ev7 dX10_duet_34 lfX10_222 ?_
      obtain ⟨q8, eq8, h⟩ := ob_some h
      refine ex_callV3r (pc := 37) dX10_duet_37 jX6_woven lmX10_267 jiX6_woven jvX6_woven (o_X6_woven eq8) rfl (Nat.le_of_ble_eq_true rfl) (s_X6_woven (by omega)  eq8) ?_
      cases h
      exact ex_ireturn (pc := 40) dX10_duet_40
    · rw [if_neg c4] at h
      refine ex_if_ne_f (pc := 19) dX10_duet_19 24 rfl (jz_ne_f c4) ?_
      refine ex_iconst (pc := 22) (-1) dX10_duet_22 rfl ?_
      cases h
      exact ex_ireturn (pc := 23) dX10_duet_23
noncomputable def f_X10_duet (x0 : Nat) (x1 : Int32) (x2 : Int32) (M : Mem) : Option (Int32 × Mem) := if isOb M 10 x0 = true then f_X10_duet_0 x0 x1 x2 M else none
theorem o_X10_duet {x0 : Nat} {x1 : Int32} {x2 : Int32} {M : Mem} {res : Int32 × Mem} (h : f_X10_duet x0 x1 x2 M = some res) : isO M 10 x0 := by
  unfold f_X10_duet at h
  split at h
  · rename_i hc; exact isOb_iff hc
  · cases h
set_option maxHeartbeats 4000000 in
theorem s_X10_duet {X : XV} {d : Nat} (hd : 4 ≤ d) {x0 : Nat} {x1 : Int32} {x2 : Int32} {M : Mem} {res : Int32 × Mem} (h : f_X10_duet x0 x1 x2 M = some res) : Mx X d mX10_duet [.ref x0, .int x1, .int x2] M (some (.int res.1)) res.2 := by
  obtain ⟨d, rfl⟩ : ∃ e, d = e + 1 := ⟨d - 1, by omega⟩
  unfold f_X10_duet at h
  split at h
  rotate_left
  · cases h
  refine Mx.of (by decide) (Nat.le_of_ble_eq_true rfl) (⟨_, rfl, rfl⟩) ?_
  exact ex_sub (lo' := [(0, .ref x0), (1, .int x1), (2, .int x2)]) [0, 1, 2] rfl (t_X10_duet_0 hd _ _ _ _ _  h)
noncomputable def f_X10_common_0 (x0 : Nat) (x1 : Int32) (M : Mem) : Option (Int32 × Mem) :=
  (gR M 10 x0 5).bind fun v1 =>
  (gR M 10 x0 0).bind fun v2 =>
  (gR M 4 v2 8).bind fun v3 =>
  (gR M 10 x0 0).bind fun v4 =>
  (gR M 4 v4 9).bind fun v5 =>
  (f_X6_longestInBoth v1 v3 v5 M).bind fun q6 =>
  if x1 = (-1) then
  ((gR q6 10 x0 5).bind fun v15 =>
  (gR q6 6 v15 0).bind fun v16 =>
  (gI q6 3 v16 1).bind fun v17 =>
  some (v17, q6))
  else
  ((gR q6 10 x0 5).bind fun v8 =>
  (gR q6 6 v8 0).bind fun v9 =>
  (f_X3_has v9 x1 q6).bind fun v10 =>
  if v10 = false then
  (some ((-2), q6))
  else
  ((gR q6 10 x0 5).bind fun v12 =>
  (gR q6 6 v12 0).bind fun v13 =>
  (f_X3_get v13 x1 q6).bind fun v14 =>
  some (v14, q6)))
set_option maxHeartbeats 4000000 in
theorem t_X10_common_0 {X : XV} {d : Nat} (hd : 6 ≤ d + 1) : ∀ (x0 : Nat) (x1 : Int32) (M : Mem) (res : Int32 × Mem), f_X10_common_0  x0 x1 M = some res → Ex X (d + 1) mX10_common 0 [(0, .ref x0), (1, .int x1)] [] M (some (.int res.1)) res.2 := by
  intro x0 x1 M res  h
  unfold f_X10_common_0 at h
  refine ex_aload_n (pc := 0) 0 dX10_common_0 rfl rfl ?_
  obtain ⟨v1, ev1, h⟩ := ob_some h
  refine ex_gR (pc := 1) ev1 dX10_common_1 lfX10_45 ?_
  refine ex_aload_n (pc := 4) 0 dX10_common_4 rfl rfl ?_
  obtain ⟨v2, ev2, h⟩ := ob_some h
  refine ex_gR (pc := 5) ev2 dX10_common_5 lfX10_10 ?_
  obtain ⟨v3, ev3, h⟩ := ob_some h
  refine ex_gR (pc := 8) ev3 dX10_common_8 lfX10_222 ?_
  refine ex_aload_n (pc := 11) 0 dX10_common_11 rfl rfl ?_
  obtain ⟨v4, ev4, h⟩ := ob_some h
  refine ex_gR (pc := 12) ev4 dX10_common_12 lfX10_10 ?_
  obtain ⟨v5, ev5, h⟩ := ob_some h
  refine ex_gR (pc := 15) ev5 dX10_common_15 lfX10_264 ?_
  obtain ⟨q6, eq6, h⟩ := ob_some h
  refine ex_callV2v (pc := 18) dX10_common_18 jX6_longestInBoth lmX10_271 jiX6_longestInBoth jvX6_longestInBoth (o_X6_longestInBoth eq6) rfl (Nat.le_of_ble_eq_true rfl) (s_X6_longestInBoth (by omega)  eq6) ?_
  refine ex_iload_n (pc := 21) 1 dX10_common_21 rfl rfl ?_
  refine ex_iconst (pc := 22) (-1) dX10_common_22 rfl ?_
  by_cases c7 : x1 = (-1)
  · rw [if_pos c7] at h
    refine ex_icmp_ne_f (pc := 23) dX10_common_23 37 rfl c7 ?_
    refine ex_aload_n (pc := 26) 0 dX10_common_26 rfl rfl ?_
    obtain ⟨v15, ev15, h⟩ := ob_some h
    refine ex_gR (pc := 27) ev15 dX10_common_27 lfX10_45 ?_
    obtain ⟨v16, ev16, h⟩ := ob_some h
    refine ex_gR (pc := 30) ev16 dX10_common_30 lfX10_260 ?_
    obtain ⟨v17, ev17, h⟩ := ob_some h
    refine ex_gI (pc := 33) ev17 dX10_common_33 lfX10_246 ?_
    cases h
    exact ex_ireturn (pc := 36) dX10_common_36
  · rw [if_neg c7] at h
    refine ex_icmp_ne_t (pc := 23) 37 dX10_common_23 rfl c7 ?_
    refine ex_aload_n (pc := 37) 0 dX10_common_37 rfl rfl ?_
    obtain ⟨v8, ev8, h⟩ := ob_some h
    refine ex_gR (pc := 38) ev8 dX10_common_38 lfX10_45 ?_
    obtain ⟨v9, ev9, h⟩ := ob_some h
    refine ex_gR (pc := 41) ev9 dX10_common_41 lfX10_260 ?_
    refine ex_iload_n (pc := 44) 1 dX10_common_44 rfl rfl ?_
    obtain ⟨v10, ev10, h⟩ := ob_some h
    refine ex_callV1r (pc := 45) dX10_common_45 jX3_has lmX10_263 jiX3_has jvX3_has (o_X3_has ev10) rfl (Nat.le_of_ble_eq_true rfl) (s_X3_has (by omega)  ev10) ?_
    by_cases c11 : v10 = false
    · rw [if_pos c11] at h
      refine ex_if_eq_t (pc := 48) 65 dX10_common_48 rfl (jz_eq_t c11) ?_
      refine ex_bipush (pc := 65) (-2) dX10_common_65 (by decide) ?_
      cases h
      exact ex_ireturn (pc := 67) dX10_common_67
    · rw [if_neg c11] at h
      refine ex_if_eq_f (pc := 48) dX10_common_48 65 rfl (jz_eq_f c11) ?_
      refine ex_aload_n (pc := 51) 0 dX10_common_51 rfl rfl ?_
      obtain ⟨v12, ev12, h⟩ := ob_some h
      refine ex_gR (pc := 52) ev12 dX10_common_52 lfX10_45 ?_
      obtain ⟨v13, ev13, h⟩ := ob_some h
      refine ex_gR (pc := 55) ev13 dX10_common_55 lfX10_260 ?_
      refine ex_iload_n (pc := 58) 1 dX10_common_58 rfl rfl ?_
      obtain ⟨v14, ev14, h⟩ := ob_some h
      refine ex_callV1r (pc := 59) dX10_common_59 jX3_get lmX10_253 jiX3_get jvX3_get (o_X3_get ev14) rfl (Nat.le_of_ble_eq_true rfl) (s_X3_get (by omega)  ev14) ?_
      refine ex_goto (pc := 62) 67 dX10_common_62 rfl ?_
      cases h
      exact ex_ireturn (pc := 67) dX10_common_67
noncomputable def f_X10_common (x0 : Nat) (x1 : Int32) (M : Mem) : Option (Int32 × Mem) := if isOb M 10 x0 = true then f_X10_common_0 x0 x1 M else none
theorem o_X10_common {x0 : Nat} {x1 : Int32} {M : Mem} {res : Int32 × Mem} (h : f_X10_common x0 x1 M = some res) : isO M 10 x0 := by
  unfold f_X10_common at h
  split at h
  · rename_i hc; exact isOb_iff hc
  · cases h
set_option maxHeartbeats 4000000 in
theorem s_X10_common {X : XV} {d : Nat} (hd : 6 ≤ d) {x0 : Nat} {x1 : Int32} {M : Mem} {res : Int32 × Mem} (h : f_X10_common x0 x1 M = some res) : Mx X d mX10_common [.ref x0, .int x1] M (some (.int res.1)) res.2 := by
  obtain ⟨d, rfl⟩ : ∃ e, d = e + 1 := ⟨d - 1, by omega⟩
  unfold f_X10_common at h
  split at h
  rotate_left
  · cases h
  refine Mx.of (by decide) (Nat.le_of_ble_eq_true rfl) (⟨_, rfl, rfl⟩) ?_
  exact ex_sub (lo' := [(0, .ref x0), (1, .int x1)]) [0, 1] rfl (t_X10_common_0 hd _ _ _ _  h)
noncomputable def f_X10_apart_0 (x0 : Nat) (M : Mem) : Option (Int32 × Mem) :=
  (gR M 10 x0 5).bind fun v1 =>
  (gR M 10 x0 0).bind fun v2 =>
  (gR M 4 v2 8).bind fun v3 =>
  (gR M 10 x0 0).bind fun v4 =>
  (gR M 4 v4 9).bind fun v5 =>
  (f_X6_distance v1 v3 v5 M).bind fun q6 =>
  some (q6.1, q6.2)
set_option maxHeartbeats 4000000 in
theorem t_X10_apart_0 {X : XV} {d : Nat} (hd : 4 ≤ d + 1) : ∀ (x0 : Nat) (M : Mem) (res : Int32 × Mem), f_X10_apart_0  x0 M = some res → Ex X (d + 1) mX10_apart 0 [(0, .ref x0)] [] M (some (.int res.1)) res.2 := by
  intro x0 M res  h
  unfold f_X10_apart_0 at h
  refine ex_aload_n (pc := 0) 0 dX10_apart_0 rfl rfl ?_
  obtain ⟨v1, ev1, h⟩ := ob_some h
  refine ex_gR (pc := 1) ev1 dX10_apart_1 lfX10_45 ?_
  refine ex_aload_n (pc := 4) 0 dX10_apart_4 rfl rfl ?_
  obtain ⟨v2, ev2, h⟩ := ob_some h
  refine ex_gR (pc := 5) ev2 dX10_apart_5 lfX10_10 ?_
  obtain ⟨v3, ev3, h⟩ := ob_some h
  refine ex_gR (pc := 8) ev3 dX10_apart_8 lfX10_222 ?_
  refine ex_aload_n (pc := 11) 0 dX10_apart_11 rfl rfl ?_
  obtain ⟨v4, ev4, h⟩ := ob_some h
  refine ex_gR (pc := 12) ev4 dX10_apart_12 lfX10_10 ?_
  obtain ⟨v5, ev5, h⟩ := ob_some h
  refine ex_gR (pc := 15) ev5 dX10_apart_15 lfX10_264 ?_
  obtain ⟨q6, eq6, h⟩ := ob_some h
  refine ex_callV2r (pc := 18) dX10_apart_18 jX6_distance lmX10_275 jiX6_distance jvX6_distance (o_X6_distance eq6) rfl (Nat.le_of_ble_eq_true rfl) (s_X6_distance (by omega)  eq6) ?_
  cases h
  exact ex_ireturn (pc := 21) dX10_apart_21
noncomputable def f_X10_apart (x0 : Nat) (M : Mem) : Option (Int32 × Mem) := if isOb M 10 x0 = true then f_X10_apart_0 x0 M else none
theorem o_X10_apart {x0 : Nat} {M : Mem} {res : Int32 × Mem} (h : f_X10_apart x0 M = some res) : isO M 10 x0 := by
  unfold f_X10_apart at h
  split at h
  · rename_i hc; exact isOb_iff hc
  · cases h
set_option maxHeartbeats 4000000 in
theorem s_X10_apart {X : XV} {d : Nat} (hd : 4 ≤ d) {x0 : Nat} {M : Mem} {res : Int32 × Mem} (h : f_X10_apart x0 M = some res) : Mx X d mX10_apart [.ref x0] M (some (.int res.1)) res.2 := by
  obtain ⟨d, rfl⟩ : ∃ e, d = e + 1 := ⟨d - 1, by omega⟩
  unfold f_X10_apart at h
  split at h
  rotate_left
  · cases h
  refine Mx.of (by decide) (Nat.le_of_ble_eq_true rfl) (⟨_, rfl, rfl⟩) ?_
  exact ex_sub (lo' := [(0, .ref x0)]) [0] rfl (t_X10_apart_0 hd _ _ _  h)
noncomputable def f_X10_grows_0 (x0 : Nat) (x1 : Int32) (x2 : Int32) (M : Mem) : Option (Int32 × Mem) :=
  (f_X10_within x1 0 9999).bind fun v1 =>
  if v1 = false then
  (some ((-1), M))
  else
  ((f_X10_within x2 0 12).bind fun v3 =>
  if v3 = true then
  ((gR M 10 x0 5).bind fun v5 =>
  (gR M 10 x0 0).bind fun v6 =>
  (gR M 4 v6 7).bind fun v7 =>
  (f_X6_grown v5 x1 x2 v7 M).bind fun q8 =>
  some (q8.1, q8.2))
  else
  (some ((-1), M)))
set_option maxHeartbeats 4000000 in
theorem t_X10_grows_0 {X : XV} {d : Nat} (hd : 4 ≤ d + 1) : ∀ (x0 : Nat) (x1 : Int32) (x2 : Int32) (M : Mem) (res : Int32 × Mem), f_X10_grows_0  x0 x1 x2 M = some res → Ex X (d + 1) mX10_grows 0 [(0, .ref x0), (1, .int x1), (2, .int x2)] [] M (some (.int res.1)) res.2 := by
  intro x0 x1 x2 M res  h
  unfold f_X10_grows_0 at h
  refine ex_iload_n (pc := 0) 1 dX10_grows_0 rfl rfl ?_
  refine ex_iconst (pc := 1) 0 dX10_grows_1 rfl ?_
  refine ex_sipush (pc := 2) 9999 dX10_grows_2 (by decide) ?_
  obtain ⟨v1, ev1, h⟩ := ob_some h
  refine ex_callS3r (pc := 5) dX10_grows_5 jX10_within lmX10_70 jsX10_within (Nat.le_of_ble_eq_true rfl) (s_X10_within (by omega)  ev1) ?_
  by_cases c2 : v1 = false
  · rw [if_pos c2] at h
    refine ex_if_eq_t (pc := 8) 21 dX10_grows_8 rfl (jz_eq_t c2) ?_
    refine ex_iconst (pc := 21) (-1) dX10_grows_21 rfl ?_
    cases h
    exact ex_ireturn (pc := 22) dX10_grows_22
  · rw [if_neg c2] at h
    refine ex_if_eq_f (pc := 8) dX10_grows_8 21 rfl (jz_eq_f c2) ?_
    refine ex_iload_n (pc := 11) 2 dX10_grows_11 rfl rfl ?_
    refine ex_iconst (pc := 12) 0 dX10_grows_12 rfl ?_
    refine ex_bipush (pc := 13) 12 dX10_grows_13 (by decide) ?_
    obtain ⟨v3, ev3, h⟩ := ob_some h
    refine ex_callS3r (pc := 15) dX10_grows_15 jX10_within lmX10_70 jsX10_within (Nat.le_of_ble_eq_true rfl) (s_X10_within (by omega)  ev3) ?_
    by_cases c4 : v3 = true
    · rw [if_pos c4] at h
      refine ex_if_ne_t (pc := 18) 23 dX10_grows_18 rfl (jz_ne_t c4) ?_
      refine ex_aload_n (pc := 23) 0 dX10_grows_23 rfl rfl ?_
      obtain ⟨v5, ev5, h⟩ := ob_some h
      refine ex_gR (pc := 24) ev5 dX10_grows_24 lfX10_45 ?_
      refine ex_iload_n (pc := 27) 1 dX10_grows_27 rfl rfl ?_
      refine ex_iload_n (pc := 28) 2 dX10_grows_28 rfl rfl ?_
      refine ex_aload_n (pc := 29) 0 dX10_grows_29 rfl rfl ?_
      obtain ⟨v6, ev6, h⟩ := ob_some h
      refine ex_gR (pc := 30) ev6 dX10_grows_30 lfX10_10 ?_
      obtain ⟨v7, ev7, h⟩ := ob_some h
      refine ex_gR (pc := 33) ev7 dX10_grows_33 lfX10_81 ?_
      obtain ⟨q8, eq8, h⟩ := ob_some h
      refine ex_callV3r (pc := 36) dX10_grows_36 jX6_grown lmX10_279 jiX6_grown jvX6_grown (o_X6_grown eq8) rfl (Nat.le_of_ble_eq_true rfl) (s_X6_grown (by omega)  eq8) ?_
      cases h
      exact ex_ireturn (pc := 39) dX10_grows_39
    · rw [if_neg c4] at h
      refine ex_if_ne_f (pc := 18) dX10_grows_18 23 rfl (jz_ne_f c4) ?_
      refine ex_iconst (pc := 21) (-1) dX10_grows_21 rfl ?_
      cases h
      exact ex_ireturn (pc := 22) dX10_grows_22
noncomputable def f_X10_grows (x0 : Nat) (x1 : Int32) (x2 : Int32) (M : Mem) : Option (Int32 × Mem) := if isOb M 10 x0 = true then f_X10_grows_0 x0 x1 x2 M else none
theorem o_X10_grows {x0 : Nat} {x1 : Int32} {x2 : Int32} {M : Mem} {res : Int32 × Mem} (h : f_X10_grows x0 x1 x2 M = some res) : isO M 10 x0 := by
  unfold f_X10_grows at h
  split at h
  · rename_i hc; exact isOb_iff hc
  · cases h
set_option maxHeartbeats 4000000 in
theorem s_X10_grows {X : XV} {d : Nat} (hd : 4 ≤ d) {x0 : Nat} {x1 : Int32} {x2 : Int32} {M : Mem} {res : Int32 × Mem} (h : f_X10_grows x0 x1 x2 M = some res) : Mx X d mX10_grows [.ref x0, .int x1, .int x2] M (some (.int res.1)) res.2 := by
  obtain ⟨d, rfl⟩ : ∃ e, d = e + 1 := ⟨d - 1, by omega⟩
  unfold f_X10_grows at h
  split at h
  rotate_left
  · cases h
  refine Mx.of (by decide) (Nat.le_of_ble_eq_true rfl) (⟨_, rfl, rfl⟩) ?_
  exact ex_sub (lo' := [(0, .ref x0), (1, .int x1), (2, .int x2)]) [0, 1, 2] rfl (t_X10_grows_0 hd _ _ _ _ _  h)
noncomputable def f_X10_comesBack_5 (n0 : Nat) (x0 : Nat) (x1 : Int32) (x2 : Bool) (x3 : Int32) (x4 : Int32) (M : Mem) : Option (Bool) :=
  match n0 with
  | 0 => none
  | n + 1 =>
    if 9 ≤ x4 then
    (some false)
    else
    ((gR M 10 x0 0).bind fun v2 =>
    (gR M 4 v2 7).bind fun v3 =>
    (f_X10_ruleIndex x3 x2).bind fun v4 =>
    (rI M v3 v4).bind fun v5 =>
    (f_X10_within v5 1 10).bind fun v6 =>
    if v6 = true then
    (if (v5 - 1) = x1 then
    (some true)
    else
    (f_X10_comesBack_5 n x0 x1 x2 (v5 - 1) (x4 + 1) M))
    else
    (some false))
set_option maxHeartbeats 4000000 in
theorem t_X10_comesBack_5 {X : XV} {d : Nat} (hd : 2 ≤ d + 1) : ∀ (n : Nat) (x0 : Nat) (x1 : Int32) (x2 : Bool) (x3 : Int32) (x4 : Int32) (M : Mem) (res : Bool), f_X10_comesBack_5 n  x0 x1 x2 x3 x4 M = some res → Ex X (d + 1) mX10_comesBack 5 [(0, .ref x0), (1, .int x1), (2, .int (jz x2)), (3, .int x3), (4, .int x4)] [] M (some (.int (jz res))) M := by
  intro n
  induction n with
  | zero =>
    intro x0 x1 x2 x3 x4 M res  h
    unfold f_X10_comesBack_5 at h
    cases h
  | succ n ih =>
    intro x0 x1 x2 x3 x4 M res  h
    unfold f_X10_comesBack_5 at h
    refine ex_iload (pc := 5) 4 dX10_comesBack_5 rfl ?_
    refine ex_bipush (pc := 7) 9 dX10_comesBack_7 (by decide) ?_
    by_cases c1 : 9 ≤ x4
    · rw [if_pos c1] at h
      refine ex_icmp_ge_t (pc := 9) 58 dX10_comesBack_9 rfl c1 ?_
      refine ex_iconst (pc := 58) 0 dX10_comesBack_58 rfl ?_
      cases h
      exact ex_ireturn (pc := 59) dX10_comesBack_59
    · rw [if_neg c1] at h
      refine ex_icmp_ge_f (pc := 9) dX10_comesBack_9 58 rfl c1 ?_
      refine ex_aload_n (pc := 12) 0 dX10_comesBack_12 rfl rfl ?_
      obtain ⟨v2, ev2, h⟩ := ob_some h
      refine ex_gR (pc := 13) ev2 dX10_comesBack_13 lfX10_10 ?_
      obtain ⟨v3, ev3, h⟩ := ob_some h
      refine ex_gR (pc := 16) ev3 dX10_comesBack_16 lfX10_81 ?_
      refine ex_iload_n (pc := 19) 3 dX10_comesBack_19 rfl rfl ?_
      refine ex_iload_n (pc := 20) 2 dX10_comesBack_20 rfl rfl ?_
      obtain ⟨v4, ev4, h⟩ := ob_some h
      refine ex_callS2r (pc := 21) dX10_comesBack_21 jX10_ruleIndex lmX10_85 jsX10_ruleIndex (Nat.le_of_ble_eq_true rfl) (s_X10_ruleIndex (by omega)  ev4) ?_
      obtain ⟨v5, ev5, h⟩ := ob_some h
      refine ex_rI (pc := 24) ev5 dX10_comesBack_24 ?_
      refine ex_istore (pc := 25) [(5, .int v5), (0, .ref x0), (1, .int x1), (2, .int (jz x2)), (3, .int x3), (4, .int x4)] dX10_comesBack_25 (by decide) rfl ?_
      refine ex_iload (pc := 27) 0 dX10_comesBack_27 rfl ?_
      refine ex_iconst (pc := 29) 1 dX10_comesBack_29 rfl ?_
      refine ex_bipush (pc := 30) 10 dX10_comesBack_30 (by decide) ?_
      obtain ⟨v6, ev6, h⟩ := ob_some h
      refine ex_callS3r (pc := 32) dX10_comesBack_32 jX10_within lmX10_70 jsX10_within (Nat.le_of_ble_eq_true rfl) (s_X10_within (by omega)  ev6) ?_
      by_cases c7 : v6 = true
      · rw [if_pos c7] at h
        refine ex_if_ne_t (pc := 35) 40 dX10_comesBack_35 rfl (jz_ne_t c7) ?_
        refine ex_iload (pc := 40) 0 dX10_comesBack_40 rfl ?_
        refine ex_iconst (pc := 42) 1 dX10_comesBack_42 rfl ?_
        refine ex_isub (pc := 43) dX10_comesBack_43 ?_
        refine ex_istore_n (pc := 44) [(3, .int (v5 - 1)), (5, .int v5), (0, .ref x0), (1, .int x1), (2, .int (jz x2)), (4, .int x4)] dX10_comesBack_44 rfl (by decide) rfl ?_
        refine ex_iload_n (pc := 45) 0 dX10_comesBack_45 rfl rfl ?_
        refine ex_iload_n (pc := 46) 3 dX10_comesBack_46 rfl rfl ?_
        by_cases c8 : (v5 - 1) = x1
        · rw [if_pos c8] at h
          refine ex_icmp_ne_f (pc := 47) dX10_comesBack_47 52 rfl c8 ?_
          refine ex_iconst (pc := 50) 1 dX10_comesBack_50 rfl ?_
          cases h
          exact ex_ireturn (pc := 51) dX10_comesBack_51
        · rw [if_neg c8] at h
          refine ex_icmp_ne_t (pc := 47) 52 dX10_comesBack_47 rfl c8 ?_
          refine ex_iinc (pc := 52) (x4 + 1) 5 [(4, .int (x4 + 1)), (3, .int (v5 - 1)), (5, .int v5), (0, .ref x0), (1, .int x1), (2, .int (jz x2))] dX10_comesBack_52 rfl rfl (by decide) rfl ?_
          refine ex_goto (pc := 55) 5 dX10_comesBack_55 rfl ?_
          refine ex_sub (lo' := [(0, .ref x0), (1, .int x1), (2, .int (jz x2)), (3, .int (v5 - 1)), (4, .int (x4 + 1))]) [3, 4, 5, 1, 0] rfl ?_
          exact ih _ _ _ _ _ _ _  h
      · rw [if_neg c7] at h
        refine ex_if_ne_f (pc := 35) dX10_comesBack_35 40 rfl (jz_ne_f c7) ?_
        refine ex_iconst (pc := 38) 0 dX10_comesBack_38 rfl ?_
        cases h
        exact ex_ireturn (pc := 39) dX10_comesBack_39
noncomputable def f_X10_comesBack_0 (x0 : Nat) (x1 : Int32) (x2 : Bool) (M : Mem) : Option (Bool) :=
  f_X10_comesBack_5 fu x0 x1 x2 x1 0 M
set_option maxHeartbeats 4000000 in
theorem t_X10_comesBack_0 {X : XV} {d : Nat} (hd : 2 ≤ d + 1) : ∀ (x0 : Nat) (x1 : Int32) (x2 : Bool) (M : Mem) (res : Bool), f_X10_comesBack_0  x0 x1 x2 M = some res → Ex X (d + 1) mX10_comesBack 0 [(0, .ref x0), (1, .int x1), (2, .int (jz x2))] [] M (some (.int (jz res))) M := by
  intro x0 x1 x2 M res  h
  unfold f_X10_comesBack_0 at h
  refine ex_iload_n (pc := 0) 1 dX10_comesBack_0 rfl rfl ?_
  refine ex_istore_n (pc := 1) [(3, .int x1), (0, .ref x0), (1, .int x1), (2, .int (jz x2))] dX10_comesBack_1 rfl (by decide) rfl ?_
  refine ex_iconst (pc := 2) 0 dX10_comesBack_2 rfl ?_
  refine ex_istore (pc := 3) [(4, .int 0), (3, .int x1), (0, .ref x0), (1, .int x1), (2, .int (jz x2))] dX10_comesBack_3 (by decide) rfl ?_
  refine ex_sub (lo' := [(0, .ref x0), (1, .int x1), (2, .int (jz x2)), (3, .int x1), (4, .int 0)]) [2, 3, 4, 1, 0] rfl ?_
  exact t_X10_comesBack_5 hd  _ _ _ _ _ _ _ _  h
noncomputable def f_X10_comesBack (x0 : Nat) (x1 : Int32) (x2 : Bool) (M : Mem) : Option (Bool) := if isOb M 10 x0 = true then f_X10_comesBack_0 x0 x1 x2 M else none
theorem o_X10_comesBack {x0 : Nat} {x1 : Int32} {x2 : Bool} {M : Mem} {res : Bool} (h : f_X10_comesBack x0 x1 x2 M = some res) : isO M 10 x0 := by
  unfold f_X10_comesBack at h
  split at h
  · rename_i hc; exact isOb_iff hc
  · cases h
set_option maxHeartbeats 4000000 in
theorem s_X10_comesBack {X : XV} {d : Nat} (hd : 2 ≤ d) {x0 : Nat} {x1 : Int32} {x2 : Bool} {M : Mem} {res : Bool} (h : f_X10_comesBack x0 x1 x2 M = some res) : Mx X d mX10_comesBack [.ref x0, .int x1, .int (jz x2)] M (some (.int (jz res))) M := by
  obtain ⟨d, rfl⟩ : ∃ e, d = e + 1 := ⟨d - 1, by omega⟩
  unfold f_X10_comesBack at h
  split at h
  rotate_left
  · cases h
  refine Mx.of (by decide) (Nat.le_of_ble_eq_true rfl) (⟨_, rfl, jz_nar _⟩) ?_
  exact ex_sub (lo' := [(0, .ref x0), (1, .int x1), (2, .int (jz x2))]) [0, 1, 2] rfl (t_X10_comesBack_0 hd _ _ _ _ _  h)
noncomputable def f_X10_stays_4 (n0 : Nat) (x0 : Nat) (x1 : Bool) (x2 : Int32) (x3 : Int32) (M : Mem) : Option (Int32) :=
  match n0 with
  | 0 => none
  | n + 1 =>
    if 10 ≤ x3 then
    (some x2)
    else
    ((f_X10_comesBack x0 x3 x1 M).bind fun v2 =>
    if v2 = false then
    (f_X10_stays_4 n x0 x1 x2 (x3 + 1) M)
    else
    (f_X10_stays_4 n x0 x1 (x2 ||| (jshl 1 x3)) (x3 + 1) M))
set_option maxHeartbeats 4000000 in
theorem t_X10_stays_4 {X : XV} {d : Nat} (hd : 3 ≤ d + 1) : ∀ (n : Nat) (x0 : Nat) (x1 : Bool) (x2 : Int32) (x3 : Int32) (M : Mem) (res : Int32), f_X10_stays_4 n  x0 x1 x2 x3 M = some res → Ex X (d + 1) mX10_stays 4 [(0, .ref x0), (1, .int (jz x1)), (2, .int x2), (3, .int x3)] [] M (some (.int res)) M := by
  intro n
  induction n with
  | zero =>
    intro x0 x1 x2 x3 M res  h
    unfold f_X10_stays_4 at h
    cases h
  | succ n ih =>
    intro x0 x1 x2 x3 M res  h
    unfold f_X10_stays_4 at h
    refine ex_iload_n (pc := 4) 3 dX10_stays_4 rfl rfl ?_
    refine ex_bipush (pc := 5) 10 dX10_stays_5 (by decide) ?_
    by_cases c1 : 10 ≤ x3
    · rw [if_pos c1] at h
      refine ex_icmp_ge_t (pc := 7) 31 dX10_stays_7 rfl c1 ?_
      refine ex_iload_n (pc := 31) 2 dX10_stays_31 rfl rfl ?_
      cases h
      exact ex_ireturn (pc := 32) dX10_stays_32
    · rw [if_neg c1] at h
      refine ex_icmp_ge_f (pc := 7) dX10_stays_7 31 rfl c1 ?_
      refine ex_aload_n (pc := 10) 0 dX10_stays_10 rfl rfl ?_
      refine ex_iload_n (pc := 11) 3 dX10_stays_11 rfl rfl ?_
      refine ex_iload_n (pc := 12) 1 dX10_stays_12 rfl rfl ?_
      obtain ⟨v2, ev2, h⟩ := ob_some h
      refine ex_callV2r (pc := 13) dX10_stays_13 jX10_comesBack lmX10_283 jiX10_comesBack jvX10_comesBack (o_X10_comesBack ev2) rfl (Nat.le_of_ble_eq_true rfl) (s_X10_comesBack (by omega)  ev2) ?_
      by_cases c3 : v2 = false
      · rw [if_pos c3] at h
        refine ex_if_eq_t (pc := 16) 25 dX10_stays_16 rfl (jz_eq_t c3) ?_
        refine ex_iinc (pc := 25) (x3 + 1) 3 [(3, .int (x3 + 1)), (0, .ref x0), (1, .int (jz x1)), (2, .int x2)] dX10_stays_25 rfl rfl (by decide) rfl ?_
        refine ex_goto (pc := 28) 4 dX10_stays_28 rfl ?_
        refine ex_sub (lo' := [(0, .ref x0), (1, .int (jz x1)), (2, .int x2), (3, .int (x3 + 1))]) [1, 2, 3, 0] rfl ?_
        exact ih _ _ _ _ _ _  h
      · rw [if_neg c3] at h
        refine ex_if_eq_f (pc := 16) dX10_stays_16 25 rfl (jz_eq_f c3) ?_
        refine ex_iload_n (pc := 19) 2 dX10_stays_19 rfl rfl ?_
        refine ex_iconst (pc := 20) 1 dX10_stays_20 rfl ?_
        refine ex_iload_n (pc := 21) 3 dX10_stays_21 rfl rfl ?_
        refine ex_ishl (pc := 22) dX10_stays_22 ?_
        refine ex_ior (pc := 23) dX10_stays_23 ?_
        refine ex_istore_n (pc := 24) [(2, .int (x2 ||| (jshl 1 x3))), (0, .ref x0), (1, .int (jz x1)), (3, .int x3)] dX10_stays_24 rfl (by decide) rfl ?_
        refine ex_iinc (pc := 25) (x3 + 1) 3 [(3, .int (x3 + 1)), (2, .int (x2 ||| (jshl 1 x3))), (0, .ref x0), (1, .int (jz x1))] dX10_stays_25 rfl rfl (by decide) rfl ?_
        refine ex_goto (pc := 28) 4 dX10_stays_28 rfl ?_
        refine ex_sub (lo' := [(0, .ref x0), (1, .int (jz x1)), (2, .int (x2 ||| (jshl 1 x3))), (3, .int (x3 + 1))]) [2, 3, 1, 0] rfl ?_
        exact ih _ _ _ _ _ _  h
noncomputable def f_X10_stays_0 (x0 : Nat) (x1 : Bool) (M : Mem) : Option (Int32) :=
  f_X10_stays_4 fu x0 x1 0 0 M
set_option maxHeartbeats 4000000 in
theorem t_X10_stays_0 {X : XV} {d : Nat} (hd : 3 ≤ d + 1) : ∀ (x0 : Nat) (x1 : Bool) (M : Mem) (res : Int32), f_X10_stays_0  x0 x1 M = some res → Ex X (d + 1) mX10_stays 0 [(0, .ref x0), (1, .int (jz x1))] [] M (some (.int res)) M := by
  intro x0 x1 M res  h
  unfold f_X10_stays_0 at h
  refine ex_iconst (pc := 0) 0 dX10_stays_0 rfl ?_
  refine ex_istore_n (pc := 1) [(2, .int 0), (0, .ref x0), (1, .int (jz x1))] dX10_stays_1 rfl (by decide) rfl ?_
  refine ex_iconst (pc := 2) 0 dX10_stays_2 rfl ?_
  refine ex_istore_n (pc := 3) [(3, .int 0), (2, .int 0), (0, .ref x0), (1, .int (jz x1))] dX10_stays_3 rfl (by decide) rfl ?_
  refine ex_sub (lo' := [(0, .ref x0), (1, .int (jz x1)), (2, .int 0), (3, .int 0)]) [2, 3, 1, 0] rfl ?_
  exact t_X10_stays_4 hd  _ _ _ _ _ _ _  h
noncomputable def f_X10_stays (x0 : Nat) (x1 : Bool) (M : Mem) : Option (Int32) := if isOb M 10 x0 = true then f_X10_stays_0 x0 x1 M else none
theorem o_X10_stays {x0 : Nat} {x1 : Bool} {M : Mem} {res : Int32} (h : f_X10_stays x0 x1 M = some res) : isO M 10 x0 := by
  unfold f_X10_stays at h
  split at h
  · rename_i hc; exact isOb_iff hc
  · cases h
set_option maxHeartbeats 4000000 in
theorem s_X10_stays {X : XV} {d : Nat} (hd : 3 ≤ d) {x0 : Nat} {x1 : Bool} {M : Mem} {res : Int32} (h : f_X10_stays x0 x1 M = some res) : Mx X d mX10_stays [.ref x0, .int (jz x1)] M (some (.int res)) M := by
  obtain ⟨d, rfl⟩ : ∃ e, d = e + 1 := ⟨d - 1, by omega⟩
  unfold f_X10_stays at h
  split at h
  rotate_left
  · cases h
  refine Mx.of (by decide) (Nat.le_of_ble_eq_true rfl) (⟨_, rfl, rfl⟩) ?_
  exact ex_sub (lo' := [(0, .ref x0), (1, .int (jz x1))]) [0, 1] rfl (t_X10_stays_0 hd _ _ _ _  h)
noncomputable def f_X10_likes_52 (x2 : Int32) (x3 : Int32) (x4 : Int32) (s0 : Nat) (M : Mem) : Option (Bool × Mem) :=
  (wI M s0 ((x2 * 5) + x3) x4).bind fun q1 =>
  some (true, q1)
set_option maxHeartbeats 4000000 in
theorem t_X10_likes_52 {X : XV} {d : Nat} (hd : 2 ≤ d + 1) : ∀ (x2 : Int32) (x3 : Int32) (x4 : Int32) (s0 : Nat) (M : Mem) (res : Bool × Mem), f_X10_likes_52  x2 x3 x4 s0 M = some res → Ex X (d + 1) mX10_likes 52 [(2, .int x2), (3, .int x3), (4, .int x4)] [.ref s0] M (some (.int (jz res.1))) res.2 := by
  intro x2 x3 x4 s0 M res  h
  unfold f_X10_likes_52 at h
  refine ex_astore (pc := 52) [(5, .ref s0), (2, .int x2), (3, .int x3), (4, .int x4)] dX10_likes_52 (by decide) rfl ?_
  refine ex_aload (pc := 54) 0 dX10_likes_54 rfl ?_
  refine ex_iload_n (pc := 56) 1 dX10_likes_56 rfl rfl ?_
  refine ex_iconst (pc := 57) 5 dX10_likes_57 rfl ?_
  refine ex_imul (pc := 58) dX10_likes_58 ?_
  refine ex_iload_n (pc := 59) 2 dX10_likes_59 rfl rfl ?_
  refine ex_iadd (pc := 60) dX10_likes_60 ?_
  refine ex_iload (pc := 61) 3 dX10_likes_61 rfl ?_
  obtain ⟨q1, eq1, h⟩ := ob_some h
  refine ex_wI (pc := 63) eq1 dX10_likes_63 ?_
  refine ex_iconst (pc := 64) 1 dX10_likes_64 rfl ?_
  cases h
  exact ex_ireturn (pc := 65) dX10_likes_65
noncomputable def f_X10_likes_0 (x0 : Nat) (x1 : Bool) (x2 : Int32) (x3 : Int32) (x4 : Int32) (M : Mem) : Option (Bool × Mem) :=
  (f_X10_within x2 0 4).bind fun v2 =>
  if v2 = false then
  (some (false, M))
  else
  ((f_X10_within x3 0 4).bind fun v4 =>
  if v4 = false then
  (some (false, M))
  else
  ((f_X10_within x4 0 9).bind fun v6 =>
  if v6 = true then
  (if x1 = false then
  ((gR M 10 x0 0).bind fun v9 =>
  (gR M 4 v9 14).bind fun v10 =>
  f_X10_likes_52 x2 x3 x4 v10 M)
  else
  ((gR M 10 x0 0).bind fun v11 =>
  (gR M 4 v11 13).bind fun v12 =>
  f_X10_likes_52 x2 x3 x4 v12 M))
  else
  (some (false, M))))
set_option maxHeartbeats 4000000 in
theorem t_X10_likes_0 {X : XV} {d : Nat} (hd : 2 ≤ d + 1) : ∀ (x0 : Nat) (x1 : Bool) (x2 : Int32) (x3 : Int32) (x4 : Int32) (M : Mem) (res : Bool × Mem), f_X10_likes_0  x0 x1 x2 x3 x4 M = some res → Ex X (d + 1) mX10_likes 0 [(0, .ref x0), (1, .int (jz x1)), (2, .int x2), (3, .int x3), (4, .int x4)] [] M (some (.int (jz res.1))) res.2 := by
  intro x0 x1 x2 x3 x4 M res  h
  unfold f_X10_likes_0 at h
  refine ex_iload_n (pc := 0) 2 dX10_likes_0 rfl rfl ?_
  refine ex_iconst (pc := 1) 0 dX10_likes_1 rfl ?_
  refine ex_iconst (pc := 2) 4 dX10_likes_2 rfl ?_
  obtain ⟨v2, ev2, h⟩ := ob_some h
  refine ex_callS3r (pc := 3) dX10_likes_3 jX10_within lmX10_70 jsX10_within (Nat.le_of_ble_eq_true rfl) (s_X10_within (by omega)  ev2) ?_
  by_cases c3 : v2 = false
  · rw [if_pos c3] at h
    refine ex_if_eq_t (pc := 6) 29 dX10_likes_6 rfl (jz_eq_t c3) ?_
    refine ex_iconst (pc := 29) 0 dX10_likes_29 rfl ?_
    cases h
    exact ex_ireturn (pc := 30) dX10_likes_30
  · rw [if_neg c3] at h
    refine ex_if_eq_f (pc := 6) dX10_likes_6 29 rfl (jz_eq_f c3) ?_
    refine ex_iload_n (pc := 9) 3 dX10_likes_9 rfl rfl ?_
    refine ex_iconst (pc := 10) 0 dX10_likes_10 rfl ?_
    refine ex_iconst (pc := 11) 4 dX10_likes_11 rfl ?_
    obtain ⟨v4, ev4, h⟩ := ob_some h
    refine ex_callS3r (pc := 12) dX10_likes_12 jX10_within lmX10_70 jsX10_within (Nat.le_of_ble_eq_true rfl) (s_X10_within (by omega)  ev4) ?_
    by_cases c5 : v4 = false
    · rw [if_pos c5] at h
      refine ex_if_eq_t (pc := 15) 29 dX10_likes_15 rfl (jz_eq_t c5) ?_
      refine ex_iconst (pc := 29) 0 dX10_likes_29 rfl ?_
      cases h
      exact ex_ireturn (pc := 30) dX10_likes_30
    · rw [if_neg c5] at h
      refine ex_if_eq_f (pc := 15) dX10_likes_15 29 rfl (jz_eq_f c5) ?_
      refine ex_iload (pc := 18) 4 dX10_likes_18 rfl ?_
      refine ex_iconst (pc := 20) 0 dX10_likes_20 rfl ?_
      refine ex_bipush (pc := 21) 9 dX10_likes_21 (by decide) ?_
      obtain ⟨v6, ev6, h⟩ := ob_some h
      refine ex_callS3r (pc := 23) dX10_likes_23 jX10_within lmX10_70 jsX10_within (Nat.le_of_ble_eq_true rfl) (s_X10_within (by omega)  ev6) ?_
      by_cases c7 : v6 = true
      · rw [if_pos c7] at h
        refine ex_if_ne_t (pc := 26) 31 dX10_likes_26 rfl (jz_ne_t c7) ?_
        refine ex_iload_n (pc := 31) 1 dX10_likes_31 rfl rfl ?_
        by_cases c8 : x1 = false
        · rw [if_pos c8] at h
          refine ex_if_eq_t (pc := 32) 45 dX10_likes_32 rfl (jz_eq_t c8) ?_
          refine ex_aload_n (pc := 45) 0 dX10_likes_45 rfl rfl ?_
          obtain ⟨v9, ev9, h⟩ := ob_some h
          refine ex_gR (pc := 46) ev9 dX10_likes_46 lfX10_10 ?_
          obtain ⟨v10, ev10, h⟩ := ob_some h
          refine ex_gR (pc := 49) ev10 dX10_likes_49 lfX10_290 ?_
          refine ex_sub (lo' := [(2, .int x2), (3, .int x3), (4, .int x4)]) [2, 3, 4] rfl ?_
          exact t_X10_likes_52 hd  _ _ _ _ _ _  h
        · rw [if_neg c8] at h
          refine ex_if_eq_f (pc := 32) dX10_likes_32 45 rfl (jz_eq_f c8) ?_
          refine ex_aload_n (pc := 35) 0 dX10_likes_35 rfl rfl ?_
          obtain ⟨v11, ev11, h⟩ := ob_some h
          refine ex_gR (pc := 36) ev11 dX10_likes_36 lfX10_10 ?_
          obtain ⟨v12, ev12, h⟩ := ob_some h
          refine ex_gR (pc := 39) ev12 dX10_likes_39 lfX10_287 ?_
          refine ex_goto (pc := 42) 52 dX10_likes_42 rfl ?_
          refine ex_sub (lo' := [(2, .int x2), (3, .int x3), (4, .int x4)]) [2, 3, 4] rfl ?_
          exact t_X10_likes_52 hd  _ _ _ _ _ _  h
      · rw [if_neg c7] at h
        refine ex_if_ne_f (pc := 26) dX10_likes_26 31 rfl (jz_ne_f c7) ?_
        refine ex_iconst (pc := 29) 0 dX10_likes_29 rfl ?_
        cases h
        exact ex_ireturn (pc := 30) dX10_likes_30
noncomputable def f_X10_likes (x0 : Nat) (x1 : Bool) (x2 : Int32) (x3 : Int32) (x4 : Int32) (M : Mem) : Option (Bool × Mem) := if isOb M 10 x0 = true then f_X10_likes_0 x0 x1 x2 x3 x4 M else none
theorem o_X10_likes {x0 : Nat} {x1 : Bool} {x2 : Int32} {x3 : Int32} {x4 : Int32} {M : Mem} {res : Bool × Mem} (h : f_X10_likes x0 x1 x2 x3 x4 M = some res) : isO M 10 x0 := by
  unfold f_X10_likes at h
  split at h
  · rename_i hc; exact isOb_iff hc
  · cases h
set_option maxHeartbeats 4000000 in
theorem s_X10_likes {X : XV} {d : Nat} (hd : 2 ≤ d) {x0 : Nat} {x1 : Bool} {x2 : Int32} {x3 : Int32} {x4 : Int32} {M : Mem} {res : Bool × Mem} (h : f_X10_likes x0 x1 x2 x3 x4 M = some res) : Mx X d mX10_likes [.ref x0, .int (jz x1), .int x2, .int x3, .int x4] M (some (.int (jz res.1))) res.2 := by
  obtain ⟨d, rfl⟩ : ∃ e, d = e + 1 := ⟨d - 1, by omega⟩
  unfold f_X10_likes at h
  split at h
  rotate_left
  · cases h
  refine Mx.of (by decide) (Nat.le_of_ble_eq_true rfl) (⟨_, rfl, jz_nar _⟩) ?_
  exact ex_sub (lo' := [(0, .ref x0), (1, .int (jz x1)), (2, .int x2), (3, .int x3), (4, .int x4)]) [0, 1, 2, 3, 4] rfl (t_X10_likes_0 hd _ _ _ _ _ _ _  h)
noncomputable def f_X10_paired_0 (x0 : Nat) (x1 : Int32) (M : Mem) : Option (Int32 × Mem) :=
  (f_X10_within x1 0 4).bind fun v1 =>
  if v1 = true then
  ((gR M 10 x0 6).bind fun v3 =>
  (gR M 10 x0 0).bind fun v4 =>
  (gR M 4 v4 13).bind fun v5 =>
  (gR M 10 x0 0).bind fun v6 =>
  (gR M 4 v6 14).bind fun v7 =>
  (f_X1_pairAll v3 v5 v7 M).bind fun q8 =>
  (gR q8 10 x0 6).bind fun v9 =>
  (gR q8 1 v9 0).bind fun v10 =>
  (rI q8 v10 x1).bind fun v11 =>
  some (v11, q8))
  else
  (some ((-1), M))
set_option maxHeartbeats 4000000 in
theorem t_X10_paired_0 {X : XV} {d : Nat} (hd : 4 ≤ d + 1) : ∀ (x0 : Nat) (x1 : Int32) (M : Mem) (res : Int32 × Mem), f_X10_paired_0  x0 x1 M = some res → Ex X (d + 1) mX10_paired 0 [(0, .ref x0), (1, .int x1)] [] M (some (.int res.1)) res.2 := by
  intro x0 x1 M res  h
  unfold f_X10_paired_0 at h
  refine ex_iload_n (pc := 0) 1 dX10_paired_0 rfl rfl ?_
  refine ex_iconst (pc := 1) 0 dX10_paired_1 rfl ?_
  refine ex_iconst (pc := 2) 4 dX10_paired_2 rfl ?_
  obtain ⟨v1, ev1, h⟩ := ob_some h
  refine ex_callS3r (pc := 3) dX10_paired_3 jX10_within lmX10_70 jsX10_within (Nat.le_of_ble_eq_true rfl) (s_X10_within (by omega)  ev1) ?_
  by_cases c2 : v1 = true
  · rw [if_pos c2] at h
    refine ex_if_ne_t (pc := 6) 11 dX10_paired_6 rfl (jz_ne_t c2) ?_
    refine ex_aload_n (pc := 11) 0 dX10_paired_11 rfl rfl ?_
    obtain ⟨v3, ev3, h⟩ := ob_some h
    refine ex_gR (pc := 12) ev3 dX10_paired_12 lfX10_52 ?_
    refine ex_aload_n (pc := 15) 0 dX10_paired_15 rfl rfl ?_
    obtain ⟨v4, ev4, h⟩ := ob_some h
    refine ex_gR (pc := 16) ev4 dX10_paired_16 lfX10_10 ?_
    obtain ⟨v5, ev5, h⟩ := ob_some h
    refine ex_gR (pc := 19) ev5 dX10_paired_19 lfX10_287 ?_
    refine ex_aload_n (pc := 22) 0 dX10_paired_22 rfl rfl ?_
    obtain ⟨v6, ev6, h⟩ := ob_some h
    refine ex_gR (pc := 23) ev6 dX10_paired_23 lfX10_10 ?_
    obtain ⟨v7, ev7, h⟩ := ob_some h
    refine ex_gR (pc := 26) ev7 dX10_paired_26 lfX10_290 ?_
    obtain ⟨q8, eq8, h⟩ := ob_some h
    refine ex_callV2v (pc := 29) dX10_paired_29 jX1_pairAll lmX10_293 jiX1_pairAll jvX1_pairAll (o_X1_pairAll eq8) rfl (Nat.le_of_ble_eq_true rfl) (s_X1_pairAll (by omega)  eq8) ?_
    refine ex_aload_n (pc := 32) 0 dX10_paired_32 rfl rfl ?_
    obtain ⟨v9, ev9, h⟩ := ob_some h
    refine ex_gR (pc := 33) ev9 dX10_paired_33 lfX10_52 ?_
    obtain ⟨v10, ev10, h⟩ := ob_some h
    refine ex_gR (pc := 36) ev10 dX10_paired_36 lfX10_297 ?_
    refine ex_iload_n (pc := 39) 1 dX10_paired_39 rfl rfl ?_
    obtain ⟨v11, ev11, h⟩ := ob_some h
    refine ex_rI (pc := 40) ev11 dX10_paired_40 ?_
    cases h
    exact ex_ireturn (pc := 41) dX10_paired_41
  · rw [if_neg c2] at h
    refine ex_if_ne_f (pc := 6) dX10_paired_6 11 rfl (jz_ne_f c2) ?_
    refine ex_iconst (pc := 9) (-1) dX10_paired_9 rfl ?_
    cases h
    exact ex_ireturn (pc := 10) dX10_paired_10
noncomputable def f_X10_paired (x0 : Nat) (x1 : Int32) (M : Mem) : Option (Int32 × Mem) := if isOb M 10 x0 = true then f_X10_paired_0 x0 x1 M else none
theorem o_X10_paired {x0 : Nat} {x1 : Int32} {M : Mem} {res : Int32 × Mem} (h : f_X10_paired x0 x1 M = some res) : isO M 10 x0 := by
  unfold f_X10_paired at h
  split at h
  · rename_i hc; exact isOb_iff hc
  · cases h
set_option maxHeartbeats 4000000 in
theorem s_X10_paired {X : XV} {d : Nat} (hd : 4 ≤ d) {x0 : Nat} {x1 : Int32} {M : Mem} {res : Int32 × Mem} (h : f_X10_paired x0 x1 M = some res) : Mx X d mX10_paired [.ref x0, .int x1] M (some (.int res.1)) res.2 := by
  obtain ⟨d, rfl⟩ : ∃ e, d = e + 1 := ⟨d - 1, by omega⟩
  unfold f_X10_paired at h
  split at h
  rotate_left
  · cases h
  refine Mx.of (by decide) (Nat.le_of_ble_eq_true rfl) (⟨_, rfl, rfl⟩) ?_
  exact ex_sub (lo' := [(0, .ref x0), (1, .int x1)]) [0, 1] rfl (t_X10_paired_0 hd _ _ _ _  h)
noncomputable def f_X10_blocks_57 (s0 : Bool) (M : Mem) : Option (Int32) :=
  if s0 = false then
  (some 0)
  else
  (some 1)
set_option maxHeartbeats 4000000 in
theorem t_X10_blocks_57 {X : XV} {d : Nat} (hd : 2 ≤ d + 1) : ∀ (s0 : Bool) (M : Mem) (res : Int32), f_X10_blocks_57  s0 M = some res → Ex X (d + 1) mX10_blocks 57 [] [.int (jz s0)] M (some (.int res)) M := by
  intro s0 M res  h
  unfold f_X10_blocks_57 at h
  refine ex_istore_n (pc := 57) [(3, .int (jz s0))] dX10_blocks_57 rfl (by decide) rfl ?_
  refine ex_iload_n (pc := 58) 0 dX10_blocks_58 rfl rfl ?_
  by_cases c1 : s0 = false
  · rw [if_pos c1] at h
    refine ex_if_eq_t (pc := 59) 66 dX10_blocks_59 rfl (jz_eq_t c1) ?_
    refine ex_iconst (pc := 66) 0 dX10_blocks_66 rfl ?_
    cases h
    exact ex_ireturn (pc := 67) dX10_blocks_67
  · rw [if_neg c1] at h
    refine ex_if_eq_f (pc := 59) dX10_blocks_59 66 rfl (jz_eq_f c1) ?_
    refine ex_iconst (pc := 62) 1 dX10_blocks_62 rfl ?_
    refine ex_goto (pc := 63) 67 dX10_blocks_63 rfl ?_
    cases h
    exact ex_ireturn (pc := 67) dX10_blocks_67
noncomputable def f_X10_blocks_56 (M : Mem) : Option (Int32) :=
  f_X10_blocks_57 false M
set_option maxHeartbeats 4000000 in
theorem t_X10_blocks_56 {X : XV} {d : Nat} (hd : 2 ≤ d + 1) : ∀  (M : Mem) (res : Int32), f_X10_blocks_56   M = some res → Ex X (d + 1) mX10_blocks 56 [] [] M (some (.int res)) M := by
  intro  M res  h
  unfold f_X10_blocks_56 at h
  refine ex_iconst (pc := 56) 0 dX10_blocks_56 rfl ?_
  refine ex_sub (lo' := []) [] rfl ?_
  exact t_X10_blocks_57 hd  _ _ _  h
noncomputable def f_X10_blocks_0 (x0 : Nat) (x1 : Int32) (x2 : Int32) (M : Mem) : Option (Int32) :=
  (f_X10_within x1 0 4).bind fun v2 =>
  if v2 = false then
  (some (-1))
  else
  ((f_X10_within x2 0 4).bind fun v4 =>
  if v4 = true then
  ((gR M 10 x0 0).bind fun v6 =>
  (gR M 4 v6 13).bind fun v7 =>
  (f_X1_prefers v7 x1 x2 x1 M).bind fun v8 =>
  if v8 = false then
  (f_X10_blocks_56 M)
  else
  ((gR M 10 x0 0).bind fun v10 =>
  (gR M 4 v10 14).bind fun v11 =>
  (f_X1_prefers v11 x2 x1 x2 M).bind fun v12 =>
  if v12 = false then
  (f_X10_blocks_56 M)
  else
  (f_X10_blocks_57 true M)))
  else
  (some (-1)))
set_option maxHeartbeats 4000000 in
theorem t_X10_blocks_0 {X : XV} {d : Nat} (hd : 2 ≤ d + 1) : ∀ (x0 : Nat) (x1 : Int32) (x2 : Int32) (M : Mem) (res : Int32), f_X10_blocks_0  x0 x1 x2 M = some res → Ex X (d + 1) mX10_blocks 0 [(0, .ref x0), (1, .int x1), (2, .int x2)] [] M (some (.int res)) M := by
  intro x0 x1 x2 M res  h
  unfold f_X10_blocks_0 at h
  refine ex_iload_n (pc := 0) 1 dX10_blocks_0 rfl rfl ?_
  refine ex_iconst (pc := 1) 0 dX10_blocks_1 rfl ?_
  refine ex_iconst (pc := 2) 4 dX10_blocks_2 rfl ?_
  obtain ⟨v2, ev2, h⟩ := ob_some h
  refine ex_callS3r (pc := 3) dX10_blocks_3 jX10_within lmX10_70 jsX10_within (Nat.le_of_ble_eq_true rfl) (s_X10_within (by omega)  ev2) ?_
  by_cases c3 : v2 = false
  · rw [if_pos c3] at h
    refine ex_if_eq_t (pc := 6) 18 dX10_blocks_6 rfl (jz_eq_t c3) ?_
    refine ex_iconst (pc := 18) (-1) dX10_blocks_18 rfl ?_
    cases h
    exact ex_ireturn (pc := 19) dX10_blocks_19
  · rw [if_neg c3] at h
    refine ex_if_eq_f (pc := 6) dX10_blocks_6 18 rfl (jz_eq_f c3) ?_
    refine ex_iload_n (pc := 9) 2 dX10_blocks_9 rfl rfl ?_
    refine ex_iconst (pc := 10) 0 dX10_blocks_10 rfl ?_
    refine ex_iconst (pc := 11) 4 dX10_blocks_11 rfl ?_
    obtain ⟨v4, ev4, h⟩ := ob_some h
    refine ex_callS3r (pc := 12) dX10_blocks_12 jX10_within lmX10_70 jsX10_within (Nat.le_of_ble_eq_true rfl) (s_X10_within (by omega)  ev4) ?_
    by_cases c5 : v4 = true
    · rw [if_pos c5] at h
      refine ex_if_ne_t (pc := 15) 20 dX10_blocks_15 rfl (jz_ne_t c5) ?_
      refine ex_aload_n (pc := 20) 0 dX10_blocks_20 rfl rfl ?_
      obtain ⟨v6, ev6, h⟩ := ob_some h
      refine ex_gR (pc := 21) ev6 dX10_blocks_21 lfX10_10 ?_
      obtain ⟨v7, ev7, h⟩ := ob_some h
      refine ex_gR (pc := 24) ev7 dX10_blocks_24 lfX10_287 ?_
      refine ex_iload_n (pc := 27) 1 dX10_blocks_27 rfl rfl ?_
      refine ex_iload_n (pc := 28) 2 dX10_blocks_28 rfl rfl ?_
      refine ex_iload_n (pc := 29) 1 dX10_blocks_29 rfl rfl ?_
      obtain ⟨v8, ev8, h⟩ := ob_some h
      refine ex_callS4r (pc := 30) dX10_blocks_30 jX1_prefers lmX10_300 jsX1_prefers (Nat.le_of_ble_eq_true rfl) (s_X1_prefers (by omega)  ev8) ?_
      by_cases c9 : v8 = false
      · rw [if_pos c9] at h
        refine ex_if_eq_t (pc := 33) 56 dX10_blocks_33 rfl (jz_eq_t c9) ?_
        refine ex_sub (lo' := []) [] rfl ?_
        exact t_X10_blocks_56 hd  _ _  h
      · rw [if_neg c9] at h
        refine ex_if_eq_f (pc := 33) dX10_blocks_33 56 rfl (jz_eq_f c9) ?_
        refine ex_aload_n (pc := 36) 0 dX10_blocks_36 rfl rfl ?_
        obtain ⟨v10, ev10, h⟩ := ob_some h
        refine ex_gR (pc := 37) ev10 dX10_blocks_37 lfX10_10 ?_
        obtain ⟨v11, ev11, h⟩ := ob_some h
        refine ex_gR (pc := 40) ev11 dX10_blocks_40 lfX10_290 ?_
        refine ex_iload_n (pc := 43) 2 dX10_blocks_43 rfl rfl ?_
        refine ex_iload_n (pc := 44) 1 dX10_blocks_44 rfl rfl ?_
        refine ex_iload_n (pc := 45) 2 dX10_blocks_45 rfl rfl ?_
        obtain ⟨v12, ev12, h⟩ := ob_some h
        refine ex_callS4r (pc := 46) dX10_blocks_46 jX1_prefers lmX10_300 jsX1_prefers (Nat.le_of_ble_eq_true rfl) (s_X1_prefers (by omega)  ev12) ?_
        by_cases c13 : v12 = false
        · rw [if_pos c13] at h
          refine ex_if_eq_t (pc := 49) 56 dX10_blocks_49 rfl (jz_eq_t c13) ?_
          refine ex_sub (lo' := []) [] rfl ?_
          exact t_X10_blocks_56 hd  _ _  h
        · rw [if_neg c13] at h
          refine ex_if_eq_f (pc := 49) dX10_blocks_49 56 rfl (jz_eq_f c13) ?_
          refine ex_iconst (pc := 52) 1 dX10_blocks_52 rfl ?_
          refine ex_goto (pc := 53) 57 dX10_blocks_53 rfl ?_
          refine ex_sub (lo' := []) [] rfl ?_
          exact t_X10_blocks_57 hd  _ _ _  h
    · rw [if_neg c5] at h
      refine ex_if_ne_f (pc := 15) dX10_blocks_15 20 rfl (jz_ne_f c5) ?_
      refine ex_iconst (pc := 18) (-1) dX10_blocks_18 rfl ?_
      cases h
      exact ex_ireturn (pc := 19) dX10_blocks_19
noncomputable def f_X10_blocks (x0 : Nat) (x1 : Int32) (x2 : Int32) (M : Mem) : Option (Int32) := if isOb M 10 x0 = true then f_X10_blocks_0 x0 x1 x2 M else none
theorem o_X10_blocks {x0 : Nat} {x1 : Int32} {x2 : Int32} {M : Mem} {res : Int32} (h : f_X10_blocks x0 x1 x2 M = some res) : isO M 10 x0 := by
  unfold f_X10_blocks at h
  split at h
  · rename_i hc; exact isOb_iff hc
  · cases h
set_option maxHeartbeats 4000000 in
theorem s_X10_blocks {X : XV} {d : Nat} (hd : 2 ≤ d) {x0 : Nat} {x1 : Int32} {x2 : Int32} {M : Mem} {res : Int32} (h : f_X10_blocks x0 x1 x2 M = some res) : Mx X d mX10_blocks [.ref x0, .int x1, .int x2] M (some (.int res)) M := by
  obtain ⟨d, rfl⟩ : ∃ e, d = e + 1 := ⟨d - 1, by omega⟩
  unfold f_X10_blocks at h
  split at h
  rotate_left
  · cases h
  refine Mx.of (by decide) (Nat.le_of_ble_eq_true rfl) (⟨_, rfl, rfl⟩) ?_
  exact ex_sub (lo' := [(0, .ref x0), (1, .int x1), (2, .int x2)]) [0, 1, 2] rfl (t_X10_blocks_0 hd _ _ _ _ _  h)
noncomputable def f_X10_needs_0 (x0 : Nat) (x1 : Int32) (x2 : Int32) (M : Mem) : Option (Bool × Mem) :=
  (f_X10_within x1 0 7).bind fun v1 =>
  if v1 = false then
  (some (false, M))
  else
  ((f_X10_within x2 0 99).bind fun v3 =>
  if v3 = true then
  ((gR M 10 x0 0).bind fun v5 =>
  (gR M 4 v5 15).bind fun v6 =>
  (wI M v6 x1 x2).bind fun q7 =>
  some (true, q7))
  else
  (some (false, M)))
set_option maxHeartbeats 4000000 in
theorem t_X10_needs_0 {X : XV} {d : Nat} (hd : 2 ≤ d + 1) : ∀ (x0 : Nat) (x1 : Int32) (x2 : Int32) (M : Mem) (res : Bool × Mem), f_X10_needs_0  x0 x1 x2 M = some res → Ex X (d + 1) mX10_needs 0 [(0, .ref x0), (1, .int x1), (2, .int x2)] [] M (some (.int (jz res.1))) res.2 := by
  intro x0 x1 x2 M res  h
  unfold f_X10_needs_0 at h
  refine ex_iload_n (pc := 0) 1 dX10_needs_0 rfl rfl ?_
  refine ex_iconst (pc := 1) 0 dX10_needs_1 rfl ?_
  refine ex_bipush (pc := 2) 7 dX10_needs_2 (by decide) ?_
  obtain ⟨v1, ev1, h⟩ := ob_some h
  refine ex_callS3r (pc := 4) dX10_needs_4 jX10_within lmX10_70 jsX10_within (Nat.le_of_ble_eq_true rfl) (s_X10_within (by omega)  ev1) ?_
  by_cases c2 : v1 = false
  · rw [if_pos c2] at h
    refine ex_if_eq_t (pc := 7) 20 dX10_needs_7 rfl (jz_eq_t c2) ?_
    refine ex_iconst (pc := 20) 0 dX10_needs_20 rfl ?_
    cases h
    exact ex_ireturn (pc := 21) dX10_needs_21
  · rw [if_neg c2] at h
    refine ex_if_eq_f (pc := 7) dX10_needs_7 20 rfl (jz_eq_f c2) ?_
    refine ex_iload_n (pc := 10) 2 dX10_needs_10 rfl rfl ?_
    refine ex_iconst (pc := 11) 0 dX10_needs_11 rfl ?_
    refine ex_bipush (pc := 12) 99 dX10_needs_12 (by decide) ?_
    obtain ⟨v3, ev3, h⟩ := ob_some h
    refine ex_callS3r (pc := 14) dX10_needs_14 jX10_within lmX10_70 jsX10_within (Nat.le_of_ble_eq_true rfl) (s_X10_within (by omega)  ev3) ?_
    by_cases c4 : v3 = true
    · rw [if_pos c4] at h
      refine ex_if_ne_t (pc := 17) 22 dX10_needs_17 rfl (jz_ne_t c4) ?_
      refine ex_aload_n (pc := 22) 0 dX10_needs_22 rfl rfl ?_
      obtain ⟨v5, ev5, h⟩ := ob_some h
      refine ex_gR (pc := 23) ev5 dX10_needs_23 lfX10_10 ?_
      obtain ⟨v6, ev6, h⟩ := ob_some h
      refine ex_gR (pc := 26) ev6 dX10_needs_26 lfX10_304 ?_
      refine ex_iload_n (pc := 29) 1 dX10_needs_29 rfl rfl ?_
      refine ex_iload_n (pc := 30) 2 dX10_needs_30 rfl rfl ?_
      obtain ⟨q7, eq7, h⟩ := ob_some h
      refine ex_wI (pc := 31) eq7 dX10_needs_31 ?_
      refine ex_iconst (pc := 32) 1 dX10_needs_32 rfl ?_
      cases h
      exact ex_ireturn (pc := 33) dX10_needs_33
    · rw [if_neg c4] at h
      refine ex_if_ne_f (pc := 17) dX10_needs_17 22 rfl (jz_ne_f c4) ?_
      refine ex_iconst (pc := 20) 0 dX10_needs_20 rfl ?_
      cases h
      exact ex_ireturn (pc := 21) dX10_needs_21
noncomputable def f_X10_needs (x0 : Nat) (x1 : Int32) (x2 : Int32) (M : Mem) : Option (Bool × Mem) := if isOb M 10 x0 = true then f_X10_needs_0 x0 x1 x2 M else none
theorem o_X10_needs {x0 : Nat} {x1 : Int32} {x2 : Int32} {M : Mem} {res : Bool × Mem} (h : f_X10_needs x0 x1 x2 M = some res) : isO M 10 x0 := by
  unfold f_X10_needs at h
  split at h
  · rename_i hc; exact isOb_iff hc
  · cases h
set_option maxHeartbeats 4000000 in
theorem s_X10_needs {X : XV} {d : Nat} (hd : 2 ≤ d) {x0 : Nat} {x1 : Int32} {x2 : Int32} {M : Mem} {res : Bool × Mem} (h : f_X10_needs x0 x1 x2 M = some res) : Mx X d mX10_needs [.ref x0, .int x1, .int x2] M (some (.int (jz res.1))) res.2 := by
  obtain ⟨d, rfl⟩ : ∃ e, d = e + 1 := ⟨d - 1, by omega⟩
  unfold f_X10_needs at h
  split at h
  rotate_left
  · cases h
  refine Mx.of (by decide) (Nat.le_of_ble_eq_true rfl) (⟨_, rfl, jz_nar _⟩) ?_
  exact ex_sub (lo' := [(0, .ref x0), (1, .int x1), (2, .int x2)]) [0, 1, 2] rfl (t_X10_needs_0 hd _ _ _ _ _  h)
noncomputable def f_X10_stock_0 (x0 : Nat) (x1 : Int32) (x2 : Int32) (x3 : Int32) (M : Mem) : Option (Int32 × Mem) :=
  (f_X10_within x1 0 999).bind fun v1 =>
  if v1 = false then
  (some ((-1), M))
  else
  ((f_X10_within x2 0 99).bind fun v3 =>
  if v3 = false then
  (some ((-1), M))
  else
  ((f_X10_within x3 (-1) 7).bind fun v5 =>
  if v5 = true then
  ((gR M 10 x0 7).bind fun v7 =>
  (gR M 10 x0 0).bind fun v8 =>
  (gR M 4 v8 15).bind fun v9 =>
  (f_X5_plan v7 v9 x1 x2 M).bind fun q10 =>
  if x3 = (-1) then
  ((gR q10 10 x0 7).bind fun v15 =>
  (gR q10 5 v15 0).bind fun v16 =>
  (rI q10 v16 0).bind fun v17 =>
  some (v17, q10))
  else
  ((gR q10 10 x0 7).bind fun v12 =>
  (gR q10 5 v12 1).bind fun v13 =>
  (rI q10 v13 x3).bind fun v14 =>
  some (v14, q10)))
  else
  (some ((-1), M))))
set_option maxHeartbeats 4000000 in
theorem t_X10_stock_0 {X : XV} {d : Nat} (hd : 2 ≤ d + 1) : ∀ (x0 : Nat) (x1 : Int32) (x2 : Int32) (x3 : Int32) (M : Mem) (res : Int32 × Mem), f_X10_stock_0  x0 x1 x2 x3 M = some res → Ex X (d + 1) mX10_stock 0 [(0, .ref x0), (1, .int x1), (2, .int x2), (3, .int x3)] [] M (some (.int res.1)) res.2 := by
  intro x0 x1 x2 x3 M res  h
  unfold f_X10_stock_0 at h
  refine ex_iload_n (pc := 0) 1 dX10_stock_0 rfl rfl ?_
  refine ex_iconst (pc := 1) 0 dX10_stock_1 rfl ?_
  refine ex_sipush (pc := 2) 999 dX10_stock_2 (by decide) ?_
  obtain ⟨v1, ev1, h⟩ := ob_some h
  refine ex_callS3r (pc := 5) dX10_stock_5 jX10_within lmX10_70 jsX10_within (Nat.le_of_ble_eq_true rfl) (s_X10_within (by omega)  ev1) ?_
  by_cases c2 : v1 = false
  · rw [if_pos c2] at h
    refine ex_if_eq_t (pc := 8) 31 dX10_stock_8 rfl (jz_eq_t c2) ?_
    refine ex_iconst (pc := 31) (-1) dX10_stock_31 rfl ?_
    cases h
    exact ex_ireturn (pc := 32) dX10_stock_32
  · rw [if_neg c2] at h
    refine ex_if_eq_f (pc := 8) dX10_stock_8 31 rfl (jz_eq_f c2) ?_
    refine ex_iload_n (pc := 11) 2 dX10_stock_11 rfl rfl ?_
    refine ex_iconst (pc := 12) 0 dX10_stock_12 rfl ?_
    refine ex_bipush (pc := 13) 99 dX10_stock_13 (by decide) ?_
    obtain ⟨v3, ev3, h⟩ := ob_some h
    refine ex_callS3r (pc := 15) dX10_stock_15 jX10_within lmX10_70 jsX10_within (Nat.le_of_ble_eq_true rfl) (s_X10_within (by omega)  ev3) ?_
    by_cases c4 : v3 = false
    · rw [if_pos c4] at h
      refine ex_if_eq_t (pc := 18) 31 dX10_stock_18 rfl (jz_eq_t c4) ?_
      refine ex_iconst (pc := 31) (-1) dX10_stock_31 rfl ?_
      cases h
      exact ex_ireturn (pc := 32) dX10_stock_32
    · rw [if_neg c4] at h
      refine ex_if_eq_f (pc := 18) dX10_stock_18 31 rfl (jz_eq_f c4) ?_
      refine ex_iload_n (pc := 21) 3 dX10_stock_21 rfl rfl ?_
      refine ex_iconst (pc := 22) (-1) dX10_stock_22 rfl ?_
      refine ex_bipush (pc := 23) 7 dX10_stock_23 (by decide) ?_
      obtain ⟨v5, ev5, h⟩ := ob_some h
      refine ex_callS3r (pc := 25) dX10_stock_25 jX10_within lmX10_70 jsX10_within (Nat.le_of_ble_eq_true rfl) (s_X10_within (by omega)  ev5) ?_
      by_cases c6 : v5 = true
      · rw [if_pos c6] at h
        refine ex_if_ne_t (pc := 28) 33 dX10_stock_28 rfl (jz_ne_t c6) ?_
        refine ex_aload_n (pc := 33) 0 dX10_stock_33 rfl rfl ?_
        obtain ⟨v7, ev7, h⟩ := ob_some h
        refine ex_gR (pc := 34) ev7 dX10_stock_34 lfX10_59 ?_
        refine ex_aload_n (pc := 37) 0 dX10_stock_37 rfl rfl ?_
        obtain ⟨v8, ev8, h⟩ := ob_some h
        refine ex_gR (pc := 38) ev8 dX10_stock_38 lfX10_10 ?_
        obtain ⟨v9, ev9, h⟩ := ob_some h
        refine ex_gR (pc := 41) ev9 dX10_stock_41 lfX10_304 ?_
        refine ex_iload_n (pc := 44) 1 dX10_stock_44 rfl rfl ?_
        refine ex_iload_n (pc := 45) 2 dX10_stock_45 rfl rfl ?_
        obtain ⟨q10, eq10, h⟩ := ob_some h
        refine ex_callV3v (pc := 46) dX10_stock_46 jX5_plan lmX10_307 jiX5_plan jvX5_plan (o_X5_plan eq10) rfl (Nat.le_of_ble_eq_true rfl) (s_X5_plan (by omega)  eq10) ?_
        refine ex_iload_n (pc := 49) 3 dX10_stock_49 rfl rfl ?_
        refine ex_iconst (pc := 50) (-1) dX10_stock_50 rfl ?_
        by_cases c11 : x3 = (-1)
        · rw [if_pos c11] at h
          refine ex_icmp_ne_f (pc := 51) dX10_stock_51 66 rfl c11 ?_
          refine ex_aload_n (pc := 54) 0 dX10_stock_54 rfl rfl ?_
          obtain ⟨v15, ev15, h⟩ := ob_some h
          refine ex_gR (pc := 55) ev15 dX10_stock_55 lfX10_59 ?_
          obtain ⟨v16, ev16, h⟩ := ob_some h
          refine ex_gR (pc := 58) ev16 dX10_stock_58 lfX10_311 ?_
          refine ex_iconst (pc := 61) 0 dX10_stock_61 rfl ?_
          obtain ⟨v17, ev17, h⟩ := ob_some h
          refine ex_rI (pc := 62) ev17 dX10_stock_62 ?_
          refine ex_goto (pc := 63) 75 dX10_stock_63 rfl ?_
          cases h
          exact ex_ireturn (pc := 75) dX10_stock_75
        · rw [if_neg c11] at h
          refine ex_icmp_ne_t (pc := 51) 66 dX10_stock_51 rfl c11 ?_
          refine ex_aload_n (pc := 66) 0 dX10_stock_66 rfl rfl ?_
          obtain ⟨v12, ev12, h⟩ := ob_some h
          refine ex_gR (pc := 67) ev12 dX10_stock_67 lfX10_59 ?_
          obtain ⟨v13, ev13, h⟩ := ob_some h
          refine ex_gR (pc := 70) ev13 dX10_stock_70 lfX10_314 ?_
          refine ex_iload_n (pc := 73) 3 dX10_stock_73 rfl rfl ?_
          obtain ⟨v14, ev14, h⟩ := ob_some h
          refine ex_rI (pc := 74) ev14 dX10_stock_74 ?_
          cases h
          exact ex_ireturn (pc := 75) dX10_stock_75
      · rw [if_neg c6] at h
        refine ex_if_ne_f (pc := 28) dX10_stock_28 33 rfl (jz_ne_f c6) ?_
        refine ex_iconst (pc := 31) (-1) dX10_stock_31 rfl ?_
        cases h
        exact ex_ireturn (pc := 32) dX10_stock_32
noncomputable def f_X10_stock (x0 : Nat) (x1 : Int32) (x2 : Int32) (x3 : Int32) (M : Mem) : Option (Int32 × Mem) := if isOb M 10 x0 = true then f_X10_stock_0 x0 x1 x2 x3 M else none
theorem o_X10_stock {x0 : Nat} {x1 : Int32} {x2 : Int32} {x3 : Int32} {M : Mem} {res : Int32 × Mem} (h : f_X10_stock x0 x1 x2 x3 M = some res) : isO M 10 x0 := by
  unfold f_X10_stock at h
  split at h
  · rename_i hc; exact isOb_iff hc
  · cases h
set_option maxHeartbeats 4000000 in
theorem s_X10_stock {X : XV} {d : Nat} (hd : 2 ≤ d) {x0 : Nat} {x1 : Int32} {x2 : Int32} {x3 : Int32} {M : Mem} {res : Int32 × Mem} (h : f_X10_stock x0 x1 x2 x3 M = some res) : Mx X d mX10_stock [.ref x0, .int x1, .int x2, .int x3] M (some (.int res.1)) res.2 := by
  obtain ⟨d, rfl⟩ : ∃ e, d = e + 1 := ⟨d - 1, by omega⟩
  unfold f_X10_stock at h
  split at h
  rotate_left
  · cases h
  refine Mx.of (by decide) (Nat.le_of_ble_eq_true rfl) (⟨_, rfl, rfl⟩) ?_
  exact ex_sub (lo' := [(0, .ref x0), (1, .int x1), (2, .int x2), (3, .int x3)]) [0, 1, 2, 3] rfl (t_X10_stock_0 hd _ _ _ _ _ _  h)
noncomputable def f_X10_looser_0 (x0 : Nat) (x1 : Int32) (x2 : Int32) (M : Mem) : Option (Int32 × Mem) :=
  if x1 = (-1) then
  ((gR M 10 x0 0).bind fun v18 =>
  (gR M 4 v18 11).bind fun v19 =>
  (pF M 3 v19 1 (.int 0)).bind fun q20 =>
  (gR q20 10 x0 0).bind fun v21 =>
  (gR q20 4 v21 12).bind fun v22 =>
  (pF q20 3 v22 1 (.int 0)).bind fun q23 =>
  some (0, q23))
  else
  ((gR M 10 x0 0).bind fun v2 =>
  (gR M 4 v2 0).bind fun v3 =>
  (f_X9_has v3 x1 M).bind fun v4 =>
  if v4 = false then
  (some ((-2), M))
  else
  ((f_X10_within x2 0 10).bind fun v6 =>
  if v6 = false then
  (some ((-2), M))
  else
  ((gR M 10 x0 0).bind fun v8 =>
  (gR M 4 v8 11).bind fun v9 =>
  (f_X3_append v9 x1 M).bind fun q10 =>
  if q10.1 = true then
  ((gR q10.2 10 x0 0).bind fun v12 =>
  (gR q10.2 4 v12 12).bind fun v13 =>
  (f_X3_append v13 x2 q10.2).bind fun q14 =>
  (gR q14.2 10 x0 0).bind fun v15 =>
  (gR q14.2 4 v15 11).bind fun v16 =>
  (gI q14.2 3 v16 1).bind fun v17 =>
  some (v17, q14.2))
  else
  (some ((-2), q10.2)))))
set_option maxHeartbeats 4000000 in
theorem t_X10_looser_0 {X : XV} {d : Nat} (hd : 3 ≤ d + 1) : ∀ (x0 : Nat) (x1 : Int32) (x2 : Int32) (M : Mem) (res : Int32 × Mem), f_X10_looser_0  x0 x1 x2 M = some res → Ex X (d + 1) mX10_looser 0 [(0, .ref x0), (1, .int x1), (2, .int x2)] [] M (some (.int res.1)) res.2 := by
  intro x0 x1 x2 M res  h
  unfold f_X10_looser_0 at h
  refine ex_iload_n (pc := 0) 1 dX10_looser_0 rfl rfl ?_
  refine ex_iconst (pc := 1) (-1) dX10_looser_1 rfl ?_
  by_cases c1 : x1 = (-1)
  · rw [if_pos c1] at h
    refine ex_icmp_ne_f (pc := 2) dX10_looser_2 29 rfl c1 ?_
    refine ex_aload_n (pc := 5) 0 dX10_looser_5 rfl rfl ?_
    obtain ⟨v18, ev18, h⟩ := ob_some h
    refine ex_gR (pc := 6) ev18 dX10_looser_6 lfX10_10 ?_
    obtain ⟨v19, ev19, h⟩ := ob_some h
    refine ex_gR (pc := 9) ev19 dX10_looser_9 lfX10_317 ?_
    refine ex_iconst (pc := 12) 0 dX10_looser_12 rfl ?_
    obtain ⟨q20, eq20, h⟩ := ob_some h
    refine ex_pF (pc := 13) eq20 dX10_looser_13 lfX10_246 rfl rfl (fun _ hq => by cases hq; rfl) ?_
    refine ex_aload_n (pc := 16) 0 dX10_looser_16 rfl rfl ?_
    obtain ⟨v21, ev21, h⟩ := ob_some h
    refine ex_gR (pc := 17) ev21 dX10_looser_17 lfX10_10 ?_
    obtain ⟨v22, ev22, h⟩ := ob_some h
    refine ex_gR (pc := 20) ev22 dX10_looser_20 lfX10_320 ?_
    refine ex_iconst (pc := 23) 0 dX10_looser_23 rfl ?_
    obtain ⟨q23, eq23, h⟩ := ob_some h
    refine ex_pF (pc := 24) eq23 dX10_looser_24 lfX10_246 rfl rfl (fun _ hq => by cases hq; rfl) ?_
    refine ex_iconst (pc := 27) 0 dX10_looser_27 rfl ?_
    cases h
    exact ex_ireturn (pc := 28) dX10_looser_28
  · rw [if_neg c1] at h
    refine ex_icmp_ne_t (pc := 2) 29 dX10_looser_2 rfl c1 ?_
    refine ex_aload_n (pc := 29) 0 dX10_looser_29 rfl rfl ?_
    obtain ⟨v2, ev2, h⟩ := ob_some h
    refine ex_gR (pc := 30) ev2 dX10_looser_30 lfX10_10 ?_
    obtain ⟨v3, ev3, h⟩ := ob_some h
    refine ex_gR (pc := 33) ev3 dX10_looser_33 lfX10_74 ?_
    refine ex_iload_n (pc := 36) 1 dX10_looser_36 rfl rfl ?_
    obtain ⟨v4, ev4, h⟩ := ob_some h
    refine ex_callV1r (pc := 37) dX10_looser_37 jX9_has lmX10_135 jiX9_has jvX9_has (o_X9_has ev4) rfl (Nat.le_of_ble_eq_true rfl) (s_X9_has (by omega)  ev4) ?_
    by_cases c5 : v4 = false
    · rw [if_pos c5] at h
      refine ex_if_eq_t (pc := 40) 67 dX10_looser_40 rfl (jz_eq_t c5) ?_
      refine ex_bipush (pc := 67) (-2) dX10_looser_67 (by decide) ?_
      cases h
      exact ex_ireturn (pc := 69) dX10_looser_69
    · rw [if_neg c5] at h
      refine ex_if_eq_f (pc := 40) dX10_looser_40 67 rfl (jz_eq_f c5) ?_
      refine ex_iload_n (pc := 43) 2 dX10_looser_43 rfl rfl ?_
      refine ex_iconst (pc := 44) 0 dX10_looser_44 rfl ?_
      refine ex_bipush (pc := 45) 10 dX10_looser_45 (by decide) ?_
      obtain ⟨v6, ev6, h⟩ := ob_some h
      refine ex_callS3r (pc := 47) dX10_looser_47 jX10_within lmX10_70 jsX10_within (Nat.le_of_ble_eq_true rfl) (s_X10_within (by omega)  ev6) ?_
      by_cases c7 : v6 = false
      · rw [if_pos c7] at h
        refine ex_if_eq_t (pc := 50) 67 dX10_looser_50 rfl (jz_eq_t c7) ?_
        refine ex_bipush (pc := 67) (-2) dX10_looser_67 (by decide) ?_
        cases h
        exact ex_ireturn (pc := 69) dX10_looser_69
      · rw [if_neg c7] at h
        refine ex_if_eq_f (pc := 50) dX10_looser_50 67 rfl (jz_eq_f c7) ?_
        refine ex_aload_n (pc := 53) 0 dX10_looser_53 rfl rfl ?_
        obtain ⟨v8, ev8, h⟩ := ob_some h
        refine ex_gR (pc := 54) ev8 dX10_looser_54 lfX10_10 ?_
        obtain ⟨v9, ev9, h⟩ := ob_some h
        refine ex_gR (pc := 57) ev9 dX10_looser_57 lfX10_317 ?_
        refine ex_iload_n (pc := 60) 1 dX10_looser_60 rfl rfl ?_
        obtain ⟨q10, eq10, h⟩ := ob_some h
        refine ex_callV1r (pc := 61) dX10_looser_61 jX3_append lmX10_251 jiX3_append jvX3_append (o_X3_append eq10) rfl (Nat.le_of_ble_eq_true rfl) (s_X3_append (by omega)  eq10) ?_
        by_cases c11 : q10.1 = true
        · rw [if_pos c11] at h
          refine ex_if_ne_t (pc := 64) 70 dX10_looser_64 rfl (jz_ne_t c11) ?_
          refine ex_aload_n (pc := 70) 0 dX10_looser_70 rfl rfl ?_
          obtain ⟨v12, ev12, h⟩ := ob_some h
          refine ex_gR (pc := 71) ev12 dX10_looser_71 lfX10_10 ?_
          obtain ⟨v13, ev13, h⟩ := ob_some h
          refine ex_gR (pc := 74) ev13 dX10_looser_74 lfX10_320 ?_
          refine ex_iload_n (pc := 77) 2 dX10_looser_77 rfl rfl ?_
          obtain ⟨q14, eq14, h⟩ := ob_some h
          refine ex_callV1r (pc := 78) dX10_looser_78 jX3_append lmX10_251 jiX3_append jvX3_append (o_X3_append eq14) rfl (Nat.le_of_ble_eq_true rfl) (s_X3_append (by omega)  eq14) ?_
          refine ex_pop (pc := 81) dX10_looser_81 rfl ?_
          refine ex_aload_n (pc := 82) 0 dX10_looser_82 rfl rfl ?_
          obtain ⟨v15, ev15, h⟩ := ob_some h
          refine ex_gR (pc := 83) ev15 dX10_looser_83 lfX10_10 ?_
          obtain ⟨v16, ev16, h⟩ := ob_some h
          refine ex_gR (pc := 86) ev16 dX10_looser_86 lfX10_317 ?_
          obtain ⟨v17, ev17, h⟩ := ob_some h
          refine ex_gI (pc := 89) ev17 dX10_looser_89 lfX10_246 ?_
          cases h
          exact ex_ireturn (pc := 92) dX10_looser_92
        · rw [if_neg c11] at h
          refine ex_if_ne_f (pc := 64) dX10_looser_64 70 rfl (jz_ne_f c11) ?_
          refine ex_bipush (pc := 67) (-2) dX10_looser_67 (by decide) ?_
          cases h
          exact ex_ireturn (pc := 69) dX10_looser_69
noncomputable def f_X10_looser (x0 : Nat) (x1 : Int32) (x2 : Int32) (M : Mem) : Option (Int32 × Mem) := if isOb M 10 x0 = true then f_X10_looser_0 x0 x1 x2 M else none
theorem o_X10_looser {x0 : Nat} {x1 : Int32} {x2 : Int32} {M : Mem} {res : Int32 × Mem} (h : f_X10_looser x0 x1 x2 M = some res) : isO M 10 x0 := by
  unfold f_X10_looser at h
  split at h
  · rename_i hc; exact isOb_iff hc
  · cases h
set_option maxHeartbeats 4000000 in
theorem s_X10_looser {X : XV} {d : Nat} (hd : 3 ≤ d) {x0 : Nat} {x1 : Int32} {x2 : Int32} {M : Mem} {res : Int32 × Mem} (h : f_X10_looser x0 x1 x2 M = some res) : Mx X d mX10_looser [.ref x0, .int x1, .int x2] M (some (.int res.1)) res.2 := by
  obtain ⟨d, rfl⟩ : ∃ e, d = e + 1 := ⟨d - 1, by omega⟩
  unfold f_X10_looser at h
  split at h
  rotate_left
  · cases h
  refine Mx.of (by decide) (Nat.le_of_ble_eq_true rfl) (⟨_, rfl, rfl⟩) ?_
  exact ex_sub (lo' := [(0, .ref x0), (1, .int x1), (2, .int x2)]) [0, 1, 2] rfl (t_X10_looser_0 hd _ _ _ _ _  h)
noncomputable def f_X10_agrees_2 (n0 : Nat) (x0 : Nat) (x1 : Option Nat) (x2 : Int32) (M : Mem) : Option (Bool × Mem) :=
  match n0 with
  | 0 => none
  | n + 1 =>
    (gR M 10 x0 0).bind fun v1 =>
    (gR M 4 v1 11).bind fun v2 =>
    (gI M 3 v2 1).bind fun v3 =>
    if v3 ≤ x2 then
    (some (true, M))
    else
    ((gR M 10 x0 0).bind fun v5 =>
    (gR M 4 v5 11).bind fun v6 =>
    (f_X3_get v6 x2 M).bind fun v7 =>
    (gR M 10 x0 0).bind fun v8 =>
    (gR M 4 v8 0).bind fun v9 =>
    (f_X9_has v9 v7 M).bind fun v10 =>
    if v10 = false then
    (f_X10_agrees_2 n x0 x1 (x2 + 1) M)
    else
    ((gR M 10 x0 4).bind fun v12 =>
    (gR M 10 x0 0).bind fun v13 =>
    (gR M 4 v13 0).bind fun v14 =>
    (f_X0_loose v12 x1 v14 v7 M).bind fun q15 =>
    (gR q15.2 10 x0 0).bind fun v16 =>
    (gR q15.2 4 v16 12).bind fun v17 =>
    (f_X3_get v17 x2 q15.2).bind fun v18 =>
    if q15.1 = v18 then
    (f_X10_agrees_2 n x0 x1 (x2 + 1) q15.2)
    else
    (some (false, q15.2))))
set_option maxHeartbeats 4000000 in
theorem t_X10_agrees_2 {X : XV} {d : Nat} (hd : 5 ≤ d + 1) : ∀ (n : Nat) (x0 : Nat) (x1 : Option Nat) (x2 : Int32) (M : Mem) (res : Bool × Mem), f_X10_agrees_2 n  x0 x1 x2 M = some res → Ex X (d + 1) mX10_agrees 2 [(0, .ref x0), (1, va_rf x1), (2, .int x2)] [] M (some (.int (jz res.1))) res.2 := by
  intro n
  induction n with
  | zero =>
    intro x0 x1 x2 M res  h
    unfold f_X10_agrees_2 at h
    cases h
  | succ n ih =>
    intro x0 x1 x2 M res  h
    unfold f_X10_agrees_2 at h
    refine ex_iload_n (pc := 2) 2 dX10_agrees_2 rfl rfl ?_
    refine ex_aload_n (pc := 3) 0 dX10_agrees_3 rfl rfl ?_
    obtain ⟨v1, ev1, h⟩ := ob_some h
    refine ex_gR (pc := 4) ev1 dX10_agrees_4 lfX10_10 ?_
    obtain ⟨v2, ev2, h⟩ := ob_some h
    refine ex_gR (pc := 7) ev2 dX10_agrees_7 lfX10_317 ?_
    obtain ⟨v3, ev3, h⟩ := ob_some h
    refine ex_gI (pc := 10) ev3 dX10_agrees_10 lfX10_246 ?_
    by_cases c4 : v3 ≤ x2
    · rw [if_pos c4] at h
      refine ex_icmp_ge_t (pc := 13) 80 dX10_agrees_13 rfl c4 ?_
      refine ex_iconst (pc := 80) 1 dX10_agrees_80 rfl ?_
      cases h
      exact ex_ireturn (pc := 81) dX10_agrees_81
    · rw [if_neg c4] at h
      refine ex_icmp_ge_f (pc := 13) dX10_agrees_13 80 rfl c4 ?_
      refine ex_aload_n (pc := 16) 0 dX10_agrees_16 rfl rfl ?_
      obtain ⟨v5, ev5, h⟩ := ob_some h
      refine ex_gR (pc := 17) ev5 dX10_agrees_17 lfX10_10 ?_
      obtain ⟨v6, ev6, h⟩ := ob_some h
      refine ex_gR (pc := 20) ev6 dX10_agrees_20 lfX10_317 ?_
      refine ex_iload_n (pc := 23) 2 dX10_agrees_23 rfl rfl ?_
      obtain ⟨v7, ev7, h⟩ := ob_some h
      refine ex_callV1r (pc := 24) dX10_agrees_24 jX3_get lmX10_253 jiX3_get jvX3_get (o_X3_get ev7) rfl (Nat.le_of_ble_eq_true rfl) (s_X3_get (by omega)  ev7) ?_
      refine ex_istore_n (pc := 27) [(3, .int v7), (0, .ref x0), (1, va_rf x1), (2, .int x2)] dX10_agrees_27 rfl (by decide) rfl ?_
      refine ex_aload_n (pc := 28) 1 dX10_agrees_28 rfl rfl ?_
      obtain ⟨v8, ev8, h⟩ := ob_some h
      refine ex_gR (pc := 29) ev8 dX10_agrees_29 lfX10_10 ?_
      obtain ⟨v9, ev9, h⟩ := ob_some h
      refine ex_gR (pc := 32) ev9 dX10_agrees_32 lfX10_74 ?_
      refine ex_iload_n (pc := 35) 0 dX10_agrees_35 rfl rfl ?_
      obtain ⟨v10, ev10, h⟩ := ob_some h
      refine ex_callV1r (pc := 36) dX10_agrees_36 jX9_has lmX10_135 jiX9_has jvX9_has (o_X9_has ev10) rfl (Nat.le_of_ble_eq_true rfl) (s_X9_has (by omega)  ev10) ?_
      by_cases c11 : v10 = false
      · rw [if_pos c11] at h
        refine ex_if_eq_t (pc := 39) 74 dX10_agrees_39 rfl (jz_eq_t c11) ?_
        refine ex_iinc (pc := 74) (x2 + 1) 3 [(2, .int (x2 + 1)), (3, .int v7), (0, .ref x0), (1, va_rf x1)] dX10_agrees_74 rfl rfl (by decide) (by cases x1 <;> rfl) ?_
        refine ex_goto (pc := 77) 2 dX10_agrees_77 rfl ?_
        refine ex_sub (lo' := [(0, .ref x0), (1, va_rf x1), (2, .int (x2 + 1))]) [2, 3, 0] rfl ?_
        exact ih _ _ _ _ _  h
      · rw [if_neg c11] at h
        refine ex_if_eq_f (pc := 39) dX10_agrees_39 74 rfl (jz_eq_f c11) ?_
        refine ex_aload_n (pc := 42) 1 dX10_agrees_42 rfl rfl ?_
        obtain ⟨v12, ev12, h⟩ := ob_some h
        refine ex_gR (pc := 43) ev12 dX10_agrees_43 lfX10_38 ?_
        refine ex_aloadq_n (pc := 46) 2 dX10_agrees_46 rfl rfl ?_
        refine ex_aload_n (pc := 47) 1 dX10_agrees_47 rfl rfl ?_
        obtain ⟨v13, ev13, h⟩ := ob_some h
        refine ex_gR (pc := 48) ev13 dX10_agrees_48 lfX10_10 ?_
        obtain ⟨v14, ev14, h⟩ := ob_some h
        refine ex_gR (pc := 51) ev14 dX10_agrees_51 lfX10_74 ?_
        refine ex_iload_n (pc := 54) 0 dX10_agrees_54 rfl rfl ?_
        obtain ⟨q15, eq15, h⟩ := ob_some h
        refine ex_callV3r (pc := 55) dX10_agrees_55 jX0_loose lmX10_194 jiX0_loose jvX0_loose (o_X0_loose eq15) rfl (Nat.le_of_ble_eq_true rfl) (s_X0_loose (by omega)  eq15) ?_
        refine ex_aload_n (pc := 58) 1 dX10_agrees_58 rfl rfl ?_
        obtain ⟨v16, ev16, h⟩ := ob_some h
        refine ex_gR (pc := 59) ev16 dX10_agrees_59 lfX10_10 ?_
        obtain ⟨v17, ev17, h⟩ := ob_some h
        refine ex_gR (pc := 62) ev17 dX10_agrees_62 lfX10_320 ?_
        refine ex_iload_n (pc := 65) 3 dX10_agrees_65 rfl rfl ?_
        obtain ⟨v18, ev18, h⟩ := ob_some h
        refine ex_callV1r (pc := 66) dX10_agrees_66 jX3_get lmX10_253 jiX3_get jvX3_get (o_X3_get ev18) rfl (Nat.le_of_ble_eq_true rfl) (s_X3_get (by omega)  ev18) ?_
        by_cases c19 : q15.1 = v18
        · rw [if_pos c19] at h
          refine ex_icmp_eq_t (pc := 69) 74 dX10_agrees_69 rfl c19 ?_
          refine ex_iinc (pc := 74) (x2 + 1) 3 [(2, .int (x2 + 1)), (3, .int v7), (0, .ref x0), (1, va_rf x1)] dX10_agrees_74 rfl rfl (by decide) (by cases x1 <;> rfl) ?_
          refine ex_goto (pc := 77) 2 dX10_agrees_77 rfl ?_
          refine ex_sub (lo' := [(0, .ref x0), (1, va_rf x1), (2, .int (x2 + 1))]) [2, 3, 0] rfl ?_
          exact ih _ _ _ _ _  h
        · rw [if_neg c19] at h
          refine ex_icmp_eq_f (pc := 69) dX10_agrees_69 74 rfl c19 ?_
          refine ex_iconst (pc := 72) 0 dX10_agrees_72 rfl ?_
          cases h
          exact ex_ireturn (pc := 73) dX10_agrees_73
noncomputable def f_X10_agrees_0 (x0 : Nat) (x1 : Option Nat) (M : Mem) : Option (Bool × Mem) :=
  f_X10_agrees_2 fu x0 x1 0 M
set_option maxHeartbeats 4000000 in
theorem t_X10_agrees_0 {X : XV} {d : Nat} (hd : 5 ≤ d + 1) : ∀ (x0 : Nat) (x1 : Option Nat) (M : Mem) (res : Bool × Mem), f_X10_agrees_0  x0 x1 M = some res → Ex X (d + 1) mX10_agrees 0 [(0, .ref x0), (1, va_rf x1)] [] M (some (.int (jz res.1))) res.2 := by
  intro x0 x1 M res  h
  unfold f_X10_agrees_0 at h
  refine ex_iconst (pc := 0) 0 dX10_agrees_0 rfl ?_
  refine ex_istore_n (pc := 1) [(2, .int 0), (0, .ref x0), (1, va_rf x1)] dX10_agrees_1 rfl (by decide) (by cases x1 <;> rfl) ?_
  refine ex_sub (lo' := [(0, .ref x0), (1, va_rf x1), (2, .int 0)]) [1, 2, 0] rfl ?_
  exact t_X10_agrees_2 hd  _ _ _ _ _ _  h
noncomputable def f_X10_agrees (x0 : Nat) (x1 : Option Nat) (M : Mem) : Option (Bool × Mem) := if isOb M 10 x0 = true then f_X10_agrees_0 x0 x1 M else none
theorem o_X10_agrees {x0 : Nat} {x1 : Option Nat} {M : Mem} {res : Bool × Mem} (h : f_X10_agrees x0 x1 M = some res) : isO M 10 x0 := by
  unfold f_X10_agrees at h
  split at h
  · rename_i hc; exact isOb_iff hc
  · cases h
set_option maxHeartbeats 4000000 in
theorem s_X10_agrees {X : XV} {d : Nat} (hd : 5 ≤ d) {x0 : Nat} {x1 : Option Nat} {M : Mem} {res : Bool × Mem} (h : f_X10_agrees x0 x1 M = some res) : Mx X d mX10_agrees [.ref x0, va_rf x1] M (some (.int (jz res.1))) res.2 := by
  obtain ⟨d, rfl⟩ : ∃ e, d = e + 1 := ⟨d - 1, by omega⟩
  unfold f_X10_agrees at h
  split at h
  rotate_left
  · cases h
  cases x1 <;>
    (refine Mx.of (by decide) (Nat.le_of_ble_eq_true rfl) (⟨_, rfl, jz_nar _⟩) ?_; exact ex_sub [0, 1] rfl (t_X10_agrees_0 hd _ _ _ _  h))
noncomputable def f_X10_whose_4 (n0 : Nat) (x0 : Nat) (x1 : Int32) (x2 : Int32) (M : Mem) : Option (Int32 × Mem) :=
  match n0 with
  | 0 => none
  | n + 1 =>
    (gR M 10 x0 0).bind fun v1 =>
    (gI M 4 v1 5).bind fun v2 =>
    if v2 ≤ x2 then
    (some (x1, M))
    else
    ((gR M 10 x0 0).bind fun v4 =>
    (gR M 4 v4 4).bind fun v5 =>
    (rQ 3 M v5 x2).bind fun o6 =>
    (f_X10_agrees x0 o6 M).bind fun q7 =>
    if q7.1 = false then
    (f_X10_whose_4 n x0 x1 (x2 + 1) q7.2)
    else
    (f_X10_whose_4 n x0 (x1 ||| (jshl 1 x2)) (x2 + 1) q7.2))
set_option maxHeartbeats 4000000 in
theorem t_X10_whose_4 {X : XV} {d : Nat} (hd : 6 ≤ d + 1) : ∀ (n : Nat) (x0 : Nat) (x1 : Int32) (x2 : Int32) (M : Mem) (res : Int32 × Mem), f_X10_whose_4 n  x0 x1 x2 M = some res → Ex X (d + 1) mX10_whose 4 [(0, .ref x0), (1, .int x1), (2, .int x2)] [] M (some (.int res.1)) res.2 := by
  intro n
  induction n with
  | zero =>
    intro x0 x1 x2 M res  h
    unfold f_X10_whose_4 at h
    cases h
  | succ n ih =>
    intro x0 x1 x2 M res  h
    unfold f_X10_whose_4 at h
    refine ex_iload_n (pc := 4) 2 dX10_whose_4 rfl rfl ?_
    refine ex_aload_n (pc := 5) 0 dX10_whose_5 rfl rfl ?_
    obtain ⟨v1, ev1, h⟩ := ob_some h
    refine ex_gR (pc := 6) ev1 dX10_whose_6 lfX10_10 ?_
    obtain ⟨v2, ev2, h⟩ := ob_some h
    refine ex_gI (pc := 9) ev2 dX10_whose_9 lfX10_97 ?_
    by_cases c3 : v2 ≤ x2
    · rw [if_pos c3] at h
      refine ex_icmp_ge_t (pc := 12) 43 dX10_whose_12 rfl c3 ?_
      refine ex_iload_n (pc := 43) 1 dX10_whose_43 rfl rfl ?_
      cases h
      exact ex_ireturn (pc := 44) dX10_whose_44
    · rw [if_neg c3] at h
      refine ex_icmp_ge_f (pc := 12) dX10_whose_12 43 rfl c3 ?_
      refine ex_aload_n (pc := 15) 0 dX10_whose_15 rfl rfl ?_
      refine ex_aload_n (pc := 16) 0 dX10_whose_16 rfl rfl ?_
      obtain ⟨v4, ev4, h⟩ := ob_some h
      refine ex_gR (pc := 17) ev4 dX10_whose_17 lfX10_10 ?_
      obtain ⟨v5, ev5, h⟩ := ob_some h
      refine ex_gR (pc := 20) ev5 dX10_whose_20 lfX10_104 ?_
      refine ex_iload_n (pc := 23) 2 dX10_whose_23 rfl rfl ?_
      obtain ⟨o6, eo6, h⟩ := ob_some h
      refine ex_rQ (pc := 24) eo6 (by decide) dX10_whose_24 ?_
      obtain ⟨q7, eq7, h⟩ := ob_some h
      refine ex_callV1r (pc := 25) dX10_whose_25 jX10_agrees lmX10_323 jiX10_agrees jvX10_agrees (o_X10_agrees eq7) rfl (Nat.le_of_ble_eq_true rfl) (s_X10_agrees (by omega)  eq7) ?_
      by_cases c8 : q7.1 = false
      · rw [if_pos c8] at h
        refine ex_if_eq_t (pc := 28) 37 dX10_whose_28 rfl (jz_eq_t c8) ?_
        refine ex_iinc (pc := 37) (x2 + 1) 2 [(2, .int (x2 + 1)), (0, .ref x0), (1, .int x1)] dX10_whose_37 rfl rfl (by decide) rfl ?_
        refine ex_goto (pc := 40) 4 dX10_whose_40 rfl ?_
        refine ex_sub (lo' := [(0, .ref x0), (1, .int x1), (2, .int (x2 + 1))]) [1, 2, 0] rfl ?_
        exact ih _ _ _ _ _  h
      · rw [if_neg c8] at h
        refine ex_if_eq_f (pc := 28) dX10_whose_28 37 rfl (jz_eq_f c8) ?_
        refine ex_iload_n (pc := 31) 1 dX10_whose_31 rfl rfl ?_
        refine ex_iconst (pc := 32) 1 dX10_whose_32 rfl ?_
        refine ex_iload_n (pc := 33) 2 dX10_whose_33 rfl rfl ?_
        refine ex_ishl (pc := 34) dX10_whose_34 ?_
        refine ex_ior (pc := 35) dX10_whose_35 ?_
        refine ex_istore_n (pc := 36) [(1, .int (x1 ||| (jshl 1 x2))), (0, .ref x0), (2, .int x2)] dX10_whose_36 rfl (by decide) rfl ?_
        refine ex_iinc (pc := 37) (x2 + 1) 2 [(2, .int (x2 + 1)), (1, .int (x1 ||| (jshl 1 x2))), (0, .ref x0)] dX10_whose_37 rfl rfl (by decide) rfl ?_
        refine ex_goto (pc := 40) 4 dX10_whose_40 rfl ?_
        refine ex_sub (lo' := [(0, .ref x0), (1, .int (x1 ||| (jshl 1 x2))), (2, .int (x2 + 1))]) [2, 1, 0] rfl ?_
        exact ih _ _ _ _ _  h
noncomputable def f_X10_whose_0 (x0 : Nat) (M : Mem) : Option (Int32 × Mem) :=
  f_X10_whose_4 fu x0 0 0 M
set_option maxHeartbeats 4000000 in
theorem t_X10_whose_0 {X : XV} {d : Nat} (hd : 6 ≤ d + 1) : ∀ (x0 : Nat) (M : Mem) (res : Int32 × Mem), f_X10_whose_0  x0 M = some res → Ex X (d + 1) mX10_whose 0 [(0, .ref x0)] [] M (some (.int res.1)) res.2 := by
  intro x0 M res  h
  unfold f_X10_whose_0 at h
  refine ex_iconst (pc := 0) 0 dX10_whose_0 rfl ?_
  refine ex_istore_n (pc := 1) [(1, .int 0), (0, .ref x0)] dX10_whose_1 rfl (by decide) rfl ?_
  refine ex_iconst (pc := 2) 0 dX10_whose_2 rfl ?_
  refine ex_istore_n (pc := 3) [(2, .int 0), (1, .int 0), (0, .ref x0)] dX10_whose_3 rfl (by decide) rfl ?_
  refine ex_sub (lo' := [(0, .ref x0), (1, .int 0), (2, .int 0)]) [2, 1, 0] rfl ?_
  exact t_X10_whose_4 hd  _ _ _ _ _ _  h
noncomputable def f_X10_whose (x0 : Nat) (M : Mem) : Option (Int32 × Mem) := if isOb M 10 x0 = true then f_X10_whose_0 x0 M else none
theorem o_X10_whose {x0 : Nat} {M : Mem} {res : Int32 × Mem} (h : f_X10_whose x0 M = some res) : isO M 10 x0 := by
  unfold f_X10_whose at h
  split at h
  · rename_i hc; exact isOb_iff hc
  · cases h
set_option maxHeartbeats 4000000 in
theorem s_X10_whose {X : XV} {d : Nat} (hd : 6 ≤ d) {x0 : Nat} {M : Mem} {res : Int32 × Mem} (h : f_X10_whose x0 M = some res) : Mx X d mX10_whose [.ref x0] M (some (.int res.1)) res.2 := by
  obtain ⟨d, rfl⟩ : ∃ e, d = e + 1 := ⟨d - 1, by omega⟩
  unfold f_X10_whose at h
  split at h
  rotate_left
  · cases h
  refine Mx.of (by decide) (Nat.le_of_ble_eq_true rfl) (⟨_, rfl, rfl⟩) ?_
  exact ex_sub (lo' := [(0, .ref x0)]) [0] rfl (t_X10_whose_0 hd _ _ _  h)
noncomputable def f_J6_bitCount_0f7a4_0 (x0 : Int32) : Option (Int32) :=
  some ((((((((x0 - ((jushr x0 1) &&& 1431655765)) &&& 858993459) + ((jushr (x0 - ((jushr x0 1) &&& 1431655765)) 2) &&& 858993459)) + (jushr (((x0 - ((jushr x0 1) &&& 1431655765)) &&& 858993459) + ((jushr (x0 - ((jushr x0 1) &&& 1431655765)) 2) &&& 858993459)) 4)) &&& 252645135) + (jushr (((((x0 - ((jushr x0 1) &&& 1431655765)) &&& 858993459) + ((jushr (x0 - ((jushr x0 1) &&& 1431655765)) 2) &&& 858993459)) + (jushr (((x0 - ((jushr x0 1) &&& 1431655765)) &&& 858993459) + ((jushr (x0 - ((jushr x0 1) &&& 1431655765)) 2) &&& 858993459)) 4)) &&& 252645135) 8)) + (jushr ((((((x0 - ((jushr x0 1) &&& 1431655765)) &&& 858993459) + ((jushr (x0 - ((jushr x0 1) &&& 1431655765)) 2) &&& 858993459)) + (jushr (((x0 - ((jushr x0 1) &&& 1431655765)) &&& 858993459) + ((jushr (x0 - ((jushr x0 1) &&& 1431655765)) 2) &&& 858993459)) 4)) &&& 252645135) + (jushr (((((x0 - ((jushr x0 1) &&& 1431655765)) &&& 858993459) + ((jushr (x0 - ((jushr x0 1) &&& 1431655765)) 2) &&& 858993459)) + (jushr (((x0 - ((jushr x0 1) &&& 1431655765)) &&& 858993459) + ((jushr (x0 - ((jushr x0 1) &&& 1431655765)) 2) &&& 858993459)) 4)) &&& 252645135) 8)) 16)) &&& 63)
set_option maxHeartbeats 4000000 in
theorem t_J6_bitCount_0f7a4_0 {X : XV} {d : Nat} {M : Mem} (hd : 1 ≤ d + 1) : ∀ (x0 : Int32) (res : Int32), f_J6_bitCount_0f7a4_0  x0 = some res → Ex X (d + 1) mJ6_bitCount_0f7a4 0 [(0, .int x0)] [] M (some (.int res)) M := by
  intro x0 res  h
  unfold f_J6_bitCount_0f7a4_0 at h
  refine ex_iload_n (pc := 0) 0 dJ6_bitCount_0f7a4_0 rfl rfl ?_
  refine ex_iload_n (pc := 1) 0 dJ6_bitCount_0f7a4_1 rfl rfl ?_
  refine ex_iconst (pc := 2) 1 dJ6_bitCount_0f7a4_2 rfl ?_
  refine ex_iushr (pc := 3) dJ6_bitCount_0f7a4_3 ?_
  refine ex_ldcw (pc := 4) dJ6_bitCount_0f7a4_4 lkJ6_265 ?_
  refine ex_iand (pc := 7) dJ6_bitCount_0f7a4_7 ?_
  refine ex_isub (pc := 8) dJ6_bitCount_0f7a4_8 ?_
  refine ex_istore_n (pc := 9) [(0, .int (x0 - ((jushr x0 1) &&& 1431655765)))] dJ6_bitCount_0f7a4_9 rfl (by decide) rfl ?_
  refine ex_iload_n (pc := 10) 0 dJ6_bitCount_0f7a4_10 rfl rfl ?_
  refine ex_ldcw (pc := 11) dJ6_bitCount_0f7a4_11 lkJ6_266 ?_
  refine ex_iand (pc := 14) dJ6_bitCount_0f7a4_14 ?_
  refine ex_iload_n (pc := 15) 0 dJ6_bitCount_0f7a4_15 rfl rfl ?_
  refine ex_iconst (pc := 16) 2 dJ6_bitCount_0f7a4_16 rfl ?_
  refine ex_iushr (pc := 17) dJ6_bitCount_0f7a4_17 ?_
  refine ex_ldcw (pc := 18) dJ6_bitCount_0f7a4_18 lkJ6_266 ?_
  refine ex_iand (pc := 21) dJ6_bitCount_0f7a4_21 ?_
  refine ex_iadd (pc := 22) dJ6_bitCount_0f7a4_22 ?_
  refine ex_istore_n (pc := 23) [(0, .int (((x0 - ((jushr x0 1) &&& 1431655765)) &&& 858993459) + ((jushr (x0 - ((jushr x0 1) &&& 1431655765)) 2) &&& 858993459)))] dJ6_bitCount_0f7a4_23 rfl (by decide) rfl ?_
  refine ex_iload_n (pc := 24) 0 dJ6_bitCount_0f7a4_24 rfl rfl ?_
  refine ex_iload_n (pc := 25) 0 dJ6_bitCount_0f7a4_25 rfl rfl ?_
  refine ex_iconst (pc := 26) 4 dJ6_bitCount_0f7a4_26 rfl ?_
  refine ex_iushr (pc := 27) dJ6_bitCount_0f7a4_27 ?_
  refine ex_iadd (pc := 28) dJ6_bitCount_0f7a4_28 ?_
  refine ex_ldcw (pc := 29) dJ6_bitCount_0f7a4_29 lkJ6_267 ?_
  refine ex_iand (pc := 32) dJ6_bitCount_0f7a4_32 ?_
  refine ex_istore_n (pc := 33) [(0, .int (((((x0 - ((jushr x0 1) &&& 1431655765)) &&& 858993459) + ((jushr (x0 - ((jushr x0 1) &&& 1431655765)) 2) &&& 858993459)) + (jushr (((x0 - ((jushr x0 1) &&& 1431655765)) &&& 858993459) + ((jushr (x0 - ((jushr x0 1) &&& 1431655765)) 2) &&& 858993459)) 4)) &&& 252645135))] dJ6_bitCount_0f7a4_33 rfl (by decide) rfl ?_
  refine ex_iload_n (pc := 34) 0 dJ6_bitCount_0f7a4_34 rfl rfl ?_
  refine ex_iload_n (pc := 35) 0 dJ6_bitCount_0f7a4_35 rfl rfl ?_
  refine ex_bipush (pc := 36) 8 dJ6_bitCount_0f7a4_36 (by decide) ?_
  refine ex_iushr (pc := 38) dJ6_bitCount_0f7a4_38 ?_
  refine ex_iadd (pc := 39) dJ6_bitCount_0f7a4_39 ?_
  refine ex_istore_n (pc := 40) [(0, .int ((((((x0 - ((jushr x0 1) &&& 1431655765)) &&& 858993459) + ((jushr (x0 - ((jushr x0 1) &&& 1431655765)) 2) &&& 858993459)) + (jushr (((x0 - ((jushr x0 1) &&& 1431655765)) &&& 858993459) + ((jushr (x0 - ((jushr x0 1) &&& 1431655765)) 2) &&& 858993459)) 4)) &&& 252645135) + (jushr (((((x0 - ((jushr x0 1) &&& 1431655765)) &&& 858993459) + ((jushr (x0 - ((jushr x0 1) &&& 1431655765)) 2) &&& 858993459)) + (jushr (((x0 - ((jushr x0 1) &&& 1431655765)) &&& 858993459) + ((jushr (x0 - ((jushr x0 1) &&& 1431655765)) 2) &&& 858993459)) 4)) &&& 252645135) 8)))] dJ6_bitCount_0f7a4_40 rfl (by decide) rfl ?_
  refine ex_iload_n (pc := 41) 0 dJ6_bitCount_0f7a4_41 rfl rfl ?_
  refine ex_iload_n (pc := 42) 0 dJ6_bitCount_0f7a4_42 rfl rfl ?_
  refine ex_bipush (pc := 43) 16 dJ6_bitCount_0f7a4_43 (by decide) ?_
  refine ex_iushr (pc := 45) dJ6_bitCount_0f7a4_45 ?_
  refine ex_iadd (pc := 46) dJ6_bitCount_0f7a4_46 ?_
  refine ex_istore_n (pc := 47) [(0, .int (((((((x0 - ((jushr x0 1) &&& 1431655765)) &&& 858993459) + ((jushr (x0 - ((jushr x0 1) &&& 1431655765)) 2) &&& 858993459)) + (jushr (((x0 - ((jushr x0 1) &&& 1431655765)) &&& 858993459) + ((jushr (x0 - ((jushr x0 1) &&& 1431655765)) 2) &&& 858993459)) 4)) &&& 252645135) + (jushr (((((x0 - ((jushr x0 1) &&& 1431655765)) &&& 858993459) + ((jushr (x0 - ((jushr x0 1) &&& 1431655765)) 2) &&& 858993459)) + (jushr (((x0 - ((jushr x0 1) &&& 1431655765)) &&& 858993459) + ((jushr (x0 - ((jushr x0 1) &&& 1431655765)) 2) &&& 858993459)) 4)) &&& 252645135) 8)) + (jushr ((((((x0 - ((jushr x0 1) &&& 1431655765)) &&& 858993459) + ((jushr (x0 - ((jushr x0 1) &&& 1431655765)) 2) &&& 858993459)) + (jushr (((x0 - ((jushr x0 1) &&& 1431655765)) &&& 858993459) + ((jushr (x0 - ((jushr x0 1) &&& 1431655765)) 2) &&& 858993459)) 4)) &&& 252645135) + (jushr (((((x0 - ((jushr x0 1) &&& 1431655765)) &&& 858993459) + ((jushr (x0 - ((jushr x0 1) &&& 1431655765)) 2) &&& 858993459)) + (jushr (((x0 - ((jushr x0 1) &&& 1431655765)) &&& 858993459) + ((jushr (x0 - ((jushr x0 1) &&& 1431655765)) 2) &&& 858993459)) 4)) &&& 252645135) 8)) 16)))] dJ6_bitCount_0f7a4_47 rfl (by decide) rfl ?_
  refine ex_iload_n (pc := 48) 0 dJ6_bitCount_0f7a4_48 rfl rfl ?_
  refine ex_bipush (pc := 49) 63 dJ6_bitCount_0f7a4_49 (by decide) ?_
  refine ex_iand (pc := 51) dJ6_bitCount_0f7a4_51 ?_
  cases h
  exact ex_ireturn (pc := 52) dJ6_bitCount_0f7a4_52
noncomputable def f_J6_bitCount_0f7a4 (x0 : Int32) : Option (Int32) := f_J6_bitCount_0f7a4_0 x0
set_option maxHeartbeats 4000000 in
theorem s_J6_bitCount_0f7a4 {X : XV} {d : Nat} (hd : 1 ≤ d) {x0 : Int32} {M : Mem} {res : Int32} (h : f_J6_bitCount_0f7a4 x0 = some res) : Mx X d mJ6_bitCount_0f7a4 [.int x0] M (some (.int res)) M := by
  obtain ⟨d, rfl⟩ : ∃ e, d = e + 1 := ⟨d - 1, by omega⟩
  unfold f_J6_bitCount_0f7a4 at h
  refine Mx.of (by decide) (Nat.le_of_ble_eq_true rfl) (⟨_, rfl, rfl⟩) ?_
  exact ex_sub (lo' := [(0, .int x0)]) [0] rfl (t_J6_bitCount_0f7a4_0 hd _ _  h)
noncomputable def f_X10_forgiven_20 (n0 : Nat) (x0 : Nat) (x1 : Int32) (x2 : Int32) (x3 : Int32) (x4 : Int32) (M : Mem) : Option (Int32) :=
  match n0 with
  | 0 => none
  | n + 1 =>
    (gR M 10 x0 0).bind fun v1 =>
    (gR M 4 v1 0).bind fun v2 =>
    (gI M 9 v2 0).bind fun v3 =>
    if (jshl 1 v3) ≤ x4 then
    (some x2)
    else
    ((gR M 10 x0 0).bind fun v5 =>
    (gR M 4 v5 0).bind fun v6 =>
    (f_X9_sumOf v6 x4 M).bind fun v7 =>
    (f_J6_bitCount_0f7a4 x4).bind fun v8 =>
    (f_J6_bitCount_0f7a4 x2).bind fun v9 =>
    if x1 < v7 then
    (f_X10_forgiven_20 n x0 x1 x2 x3 (x4 + 1) M)
    else
    (if 0 < (v8 - v9) then
    (f_X10_forgiven_20 n x0 x1 x4 v7 (x4 + 1) M)
    else
    (if (v8 - v9) = 0 then
    (if x3 ≤ v7 then
    (f_X10_forgiven_20 n x0 x1 x2 x3 (x4 + 1) M)
    else
    (f_X10_forgiven_20 n x0 x1 x4 v7 (x4 + 1) M))
    else
    (f_X10_forgiven_20 n x0 x1 x2 x3 (x4 + 1) M))))
set_option maxHeartbeats 4000000 in
theorem t_X10_forgiven_20 {X : XV} {d : Nat} (hd : 2 ≤ d + 1) : ∀ (n : Nat) (x0 : Nat) (x1 : Int32) (x2 : Int32) (x3 : Int32) (x4 : Int32) (M : Mem) (res : Int32), f_X10_forgiven_20 n  x0 x1 x2 x3 x4 M = some res → Ex X (d + 1) mX10_forgiven 20 [(0, .ref x0), (1, .int x1), (2, .int x2), (3, .int x3), (4, .int x4)] [] M (some (.int res)) M := by
  intro n
  induction n with
  | zero =>
    intro x0 x1 x2 x3 x4 M res  h
    unfold f_X10_forgiven_20 at h
    cases h
  | succ n ih =>
    intro x0 x1 x2 x3 x4 M res  h
    unfold f_X10_forgiven_20 at h
    refine ex_iload (pc := 20) 4 dX10_forgiven_20 rfl ?_
    refine ex_iconst (pc := 22) 1 dX10_forgiven_22 rfl ?_
    refine ex_aload_n (pc := 23) 0 dX10_forgiven_23 rfl rfl ?_
    obtain ⟨v1, ev1, h⟩ := ob_some h
    refine ex_gR (pc := 24) ev1 dX10_forgiven_24 lfX10_10 ?_
    obtain ⟨v2, ev2, h⟩ := ob_some h
    refine ex_gR (pc := 27) ev2 dX10_forgiven_27 lfX10_74 ?_
    obtain ⟨v3, ev3, h⟩ := ob_some h
    refine ex_gI (pc := 30) ev3 dX10_forgiven_30 lfX10_176 ?_
    refine ex_ishl (pc := 33) dX10_forgiven_33 ?_
    by_cases c4 : (jshl 1 v3) ≤ x4
    · rw [if_pos c4] at h
      refine ex_icmp_ge_t (pc := 34) 97 dX10_forgiven_34 rfl c4 ?_
      refine ex_iload_n (pc := 97) 2 dX10_forgiven_97 rfl rfl ?_
      cases h
      exact ex_ireturn (pc := 98) dX10_forgiven_98
    · rw [if_neg c4] at h
      refine ex_icmp_ge_f (pc := 34) dX10_forgiven_34 97 rfl c4 ?_
      refine ex_aload_n (pc := 37) 0 dX10_forgiven_37 rfl rfl ?_
      obtain ⟨v5, ev5, h⟩ := ob_some h
      refine ex_gR (pc := 38) ev5 dX10_forgiven_38 lfX10_10 ?_
      obtain ⟨v6, ev6, h⟩ := ob_some h
      refine ex_gR (pc := 41) ev6 dX10_forgiven_41 lfX10_74 ?_
      refine ex_iload (pc := 44) 4 dX10_forgiven_44 rfl ?_
      obtain ⟨v7, ev7, h⟩ := ob_some h
      refine ex_callV1r (pc := 46) dX10_forgiven_46 jX9_sumOf lmX10_327 jiX9_sumOf jvX9_sumOf (o_X9_sumOf ev7) rfl (Nat.le_of_ble_eq_true rfl) (s_X9_sumOf (by omega)  ev7) ?_
      refine ex_istore (pc := 49) [(5, .int v7), (0, .ref x0), (1, .int x1), (2, .int x2), (3, .int x3), (4, .int x4)] dX10_forgiven_49 (by decide) rfl ?_
      refine ex_iload (pc := 51) 5 dX10_forgiven_51 rfl ?_
      obtain ⟨v8, ev8, h⟩ := ob_some h
      refine ex_callS1r (pc := 53) dX10_forgiven_53 jJ6_bitCount_0f7a4 lmX10_330 jsJ6_bitCount_0f7a4 (Nat.le_of_ble_eq_true rfl) (s_J6_bitCount_0f7a4 (by omega)  ev8) ?_
      refine ex_iload_n (pc := 56) 3 dX10_forgiven_56 rfl rfl ?_
      obtain ⟨v9, ev9, h⟩ := ob_some h
      refine ex_callS1r (pc := 57) dX10_forgiven_57 jJ6_bitCount_0f7a4 lmX10_330 jsJ6_bitCount_0f7a4 (Nat.le_of_ble_eq_true rfl) (s_J6_bitCount_0f7a4 (by omega)  ev9) ?_
      refine ex_isub (pc := 60) dX10_forgiven_60 ?_
      refine ex_istore (pc := 61) [(6, .int (v8 - v9)), (5, .int v7), (0, .ref x0), (1, .int x1), (2, .int x2), (3, .int x3), (4, .int x4)] dX10_forgiven_61 (by decide) rfl ?_
      refine ex_iload (pc := 63) 1 dX10_forgiven_63 rfl ?_
      refine ex_iload_n (pc := 65) 3 dX10_forgiven_65 rfl rfl ?_
      by_cases c10 : x1 < v7
      · rw [if_pos c10] at h
        refine ex_icmp_gt_t (pc := 66) 91 dX10_forgiven_66 rfl c10 ?_
        refine ex_iinc (pc := 91) (x4 + 1) 6 [(4, .int (x4 + 1)), (6, .int (v8 - v9)), (5, .int v7), (0, .ref x0), (1, .int x1), (2, .int x2), (3, .int x3)] dX10_forgiven_91 rfl rfl (by decide) rfl ?_
        refine ex_goto (pc := 94) 20 dX10_forgiven_94 rfl ?_
        refine ex_sub (lo' := [(0, .ref x0), (1, .int x1), (2, .int x2), (3, .int x3), (4, .int (x4 + 1))]) [3, 4, 5, 6, 0] rfl ?_
        exact ih _ _ _ _ _ _ _  h
      · rw [if_neg c10] at h
        refine ex_icmp_gt_f (pc := 66) dX10_forgiven_66 91 rfl c10 ?_
        refine ex_iload (pc := 69) 0 dX10_forgiven_69 rfl ?_
        by_cases c11 : 0 < (v8 - v9)
        · rw [if_pos c11] at h
          refine ex_if_gt_t (pc := 71) 85 dX10_forgiven_71 rfl c11 ?_
          refine ex_iload (pc := 85) 6 dX10_forgiven_85 rfl ?_
          refine ex_istore_n (pc := 87) [(2, .int x4), (6, .int (v8 - v9)), (5, .int v7), (0, .ref x0), (1, .int x1), (3, .int x3), (4, .int x4)] dX10_forgiven_87 rfl (by decide) rfl ?_
          refine ex_iload (pc := 88) 2 dX10_forgiven_88 rfl ?_
          refine ex_istore_n (pc := 90) [(3, .int v7), (2, .int x4), (6, .int (v8 - v9)), (5, .int v7), (0, .ref x0), (1, .int x1), (4, .int x4)] dX10_forgiven_90 rfl (by decide) rfl ?_
          refine ex_iinc (pc := 91) (x4 + 1) 6 [(4, .int (x4 + 1)), (3, .int v7), (2, .int x4), (6, .int (v8 - v9)), (5, .int v7), (0, .ref x0), (1, .int x1)] dX10_forgiven_91 rfl rfl (by decide) rfl ?_
          refine ex_goto (pc := 94) 20 dX10_forgiven_94 rfl ?_
          refine ex_sub (lo' := [(0, .ref x0), (1, .int x1), (2, .int x4), (3, .int v7), (4, .int (x4 + 1))]) [5, 6, 2, 1, 0] rfl ?_
          exact ih _ _ _ _ _ _ _  h
        · rw [if_neg c11] at h
          refine ex_if_gt_f (pc := 71) dX10_forgiven_71 85 rfl c11 ?_
          refine ex_iload (pc := 74) 0 dX10_forgiven_74 rfl ?_
          by_cases c12 : (v8 - v9) = 0
          · rw [if_pos c12] at h
            refine ex_if_ne_f (pc := 76) dX10_forgiven_76 91 rfl c12 ?_
            refine ex_iload (pc := 79) 1 dX10_forgiven_79 rfl ?_
            refine ex_iload_n (pc := 81) 5 dX10_forgiven_81 rfl rfl ?_
            by_cases c13 : x3 ≤ v7
            · rw [if_pos c13] at h
              refine ex_icmp_ge_t (pc := 82) 91 dX10_forgiven_82 rfl c13 ?_
              refine ex_iinc (pc := 91) (x4 + 1) 6 [(4, .int (x4 + 1)), (6, .int (v8 - v9)), (5, .int v7), (0, .ref x0), (1, .int x1), (2, .int x2), (3, .int x3)] dX10_forgiven_91 rfl rfl (by decide) rfl ?_
              refine ex_goto (pc := 94) 20 dX10_forgiven_94 rfl ?_
              refine ex_sub (lo' := [(0, .ref x0), (1, .int x1), (2, .int x2), (3, .int x3), (4, .int (x4 + 1))]) [3, 4, 5, 6, 0] rfl ?_
              exact ih _ _ _ _ _ _ _  h
            · rw [if_neg c13] at h
              refine ex_icmp_ge_f (pc := 82) dX10_forgiven_82 91 rfl c13 ?_
              refine ex_iload (pc := 85) 6 dX10_forgiven_85 rfl ?_
              refine ex_istore_n (pc := 87) [(2, .int x4), (6, .int (v8 - v9)), (5, .int v7), (0, .ref x0), (1, .int x1), (3, .int x3), (4, .int x4)] dX10_forgiven_87 rfl (by decide) rfl ?_
              refine ex_iload (pc := 88) 2 dX10_forgiven_88 rfl ?_
              refine ex_istore_n (pc := 90) [(3, .int v7), (2, .int x4), (6, .int (v8 - v9)), (5, .int v7), (0, .ref x0), (1, .int x1), (4, .int x4)] dX10_forgiven_90 rfl (by decide) rfl ?_
              refine ex_iinc (pc := 91) (x4 + 1) 6 [(4, .int (x4 + 1)), (3, .int v7), (2, .int x4), (6, .int (v8 - v9)), (5, .int v7), (0, .ref x0), (1, .int x1)] dX10_forgiven_91 rfl rfl (by decide) rfl ?_
              refine ex_goto (pc := 94) 20 dX10_forgiven_94 rfl ?_
              refine ex_sub (lo' := [(0, .ref x0), (1, .int x1), (2, .int x4), (3, .int v7), (4, .int (x4 + 1))]) [5, 6, 2, 1, 0] rfl ?_
              exact ih _ _ _ _ _ _ _  h
          · rw [if_neg c12] at h
            refine ex_if_ne_t (pc := 76) 91 dX10_forgiven_76 rfl c12 ?_
            refine ex_iinc (pc := 91) (x4 + 1) 6 [(4, .int (x4 + 1)), (6, .int (v8 - v9)), (5, .int v7), (0, .ref x0), (1, .int x1), (2, .int x2), (3, .int x3)] dX10_forgiven_91 rfl rfl (by decide) rfl ?_
            refine ex_goto (pc := 94) 20 dX10_forgiven_94 rfl ?_
            refine ex_sub (lo' := [(0, .ref x0), (1, .int x1), (2, .int x2), (3, .int x3), (4, .int (x4 + 1))]) [3, 4, 5, 6, 0] rfl ?_
            exact ih _ _ _ _ _ _ _  h
noncomputable def f_X10_forgiven_0 (x0 : Nat) (x1 : Int32) (M : Mem) : Option (Int32) :=
  (f_X10_within x1 0 9999).bind fun v14 =>
  if v14 = true then
  (f_X10_forgiven_20 fu x0 x1 0 0 1 M)
  else
  (some (-1))
set_option maxHeartbeats 4000000 in
theorem t_X10_forgiven_0 {X : XV} {d : Nat} (hd : 2 ≤ d + 1) : ∀ (x0 : Nat) (x1 : Int32) (M : Mem) (res : Int32), f_X10_forgiven_0  x0 x1 M = some res → Ex X (d + 1) mX10_forgiven 0 [(0, .ref x0), (1, .int x1)] [] M (some (.int res)) M := by
  intro x0 x1 M res  h
  unfold f_X10_forgiven_0 at h
  refine ex_iload_n (pc := 0) 1 dX10_forgiven_0 rfl rfl ?_
  refine ex_iconst (pc := 1) 0 dX10_forgiven_1 rfl ?_
  refine ex_sipush (pc := 2) 9999 dX10_forgiven_2 (by decide) ?_
  obtain ⟨v14, ev14, h⟩ := ob_some h
  refine ex_callS3r (pc := 5) dX10_forgiven_5 jX10_within lmX10_70 jsX10_within (Nat.le_of_ble_eq_true rfl) (s_X10_within (by omega)  ev14) ?_
  by_cases c15 : v14 = true
  · rw [if_pos c15] at h
    refine ex_if_ne_t (pc := 8) 13 dX10_forgiven_8 rfl (jz_ne_t c15) ?_
    refine ex_iconst (pc := 13) 0 dX10_forgiven_13 rfl ?_
    refine ex_istore_n (pc := 14) [(2, .int 0), (0, .ref x0), (1, .int x1)] dX10_forgiven_14 rfl (by decide) rfl ?_
    refine ex_iconst (pc := 15) 0 dX10_forgiven_15 rfl ?_
    refine ex_istore_n (pc := 16) [(3, .int 0), (2, .int 0), (0, .ref x0), (1, .int x1)] dX10_forgiven_16 rfl (by decide) rfl ?_
    refine ex_iconst (pc := 17) 1 dX10_forgiven_17 rfl ?_
    refine ex_istore (pc := 18) [(4, .int 1), (3, .int 0), (2, .int 0), (0, .ref x0), (1, .int x1)] dX10_forgiven_18 (by decide) rfl ?_
    refine ex_sub (lo' := [(0, .ref x0), (1, .int x1), (2, .int 0), (3, .int 0), (4, .int 1)]) [3, 4, 2, 1, 0] rfl ?_
    exact t_X10_forgiven_20 hd  _ _ _ _ _ _ _ _  h
  · rw [if_neg c15] at h
    refine ex_if_ne_f (pc := 8) dX10_forgiven_8 13 rfl (jz_ne_f c15) ?_
    refine ex_iconst (pc := 11) (-1) dX10_forgiven_11 rfl ?_
    cases h
    exact ex_ireturn (pc := 12) dX10_forgiven_12
noncomputable def f_X10_forgiven (x0 : Nat) (x1 : Int32) (M : Mem) : Option (Int32) := if isOb M 10 x0 = true then f_X10_forgiven_0 x0 x1 M else none
theorem o_X10_forgiven {x0 : Nat} {x1 : Int32} {M : Mem} {res : Int32} (h : f_X10_forgiven x0 x1 M = some res) : isO M 10 x0 := by
  unfold f_X10_forgiven at h
  split at h
  · rename_i hc; exact isOb_iff hc
  · cases h
set_option maxHeartbeats 4000000 in
theorem s_X10_forgiven {X : XV} {d : Nat} (hd : 2 ≤ d) {x0 : Nat} {x1 : Int32} {M : Mem} {res : Int32} (h : f_X10_forgiven x0 x1 M = some res) : Mx X d mX10_forgiven [.ref x0, .int x1] M (some (.int res)) M := by
  obtain ⟨d, rfl⟩ : ∃ e, d = e + 1 := ⟨d - 1, by omega⟩
  unfold f_X10_forgiven at h
  split at h
  rotate_left
  · cases h
  refine Mx.of (by decide) (Nat.le_of_ble_eq_true rfl) (⟨_, rfl, rfl⟩) ?_
  exact ex_sub (lo' := [(0, .ref x0), (1, .int x1)]) [0, 1] rfl (t_X10_forgiven_0 hd _ _ _ _  h)
noncomputable def f_X10_snow_37 (n0 : Nat) (k4 : Nat → Int32 → Int32 → Mem → Option (Int32)) (x0 : Nat) (x1 : Int32) (x2 : Int32) (x3 : Int32) (x4 : Int32) (M : Mem) : Option (Int32) :=
  match n0 with
  | 0 => none
  | n + 1 =>
    if x3 ≤ x4 then
    (k4 x0 x1 (x2 + 1) M)
    else
    ((gR M 10 x0 0).bind fun v2 =>
    (gR M 4 v2 0).bind fun v3 =>
    (gR M 9 v3 8).bind fun v4 =>
    (rI M v4 x2).bind fun v5 =>
    (f_X10_digitAt v5 x4).bind fun v6 =>
    if v6 = 0 then
    (f_X10_snow_37 n k4 x0 (x1 + 1) x2 x3 (x4 + 1) M)
    else
    (f_X10_snow_37 n k4 x0 x1 x2 x3 (x4 + 1) M))
set_option maxHeartbeats 4000000 in
theorem t_X10_snow_37 {X : XV} {d : Nat} (hd : 3 ≤ d + 1) {k4 : Nat → Int32 → Int32 → Mem → Option (Int32)} (hk4 : ∀ (x0 : Nat) (x1 : Int32) (x2 : Int32) (M : Mem) (res : Int32), k4 x0 x1 x2 M = some res → Ex X (d + 1) mX10_snow 4 [(0, .ref x0), (1, .int x1), (2, .int x2)] [] M (some (.int res)) M) : ∀ (n : Nat) (x0 : Nat) (x1 : Int32) (x2 : Int32) (x3 : Int32) (x4 : Int32) (M : Mem) (res : Int32), f_X10_snow_37 n k4 x0 x1 x2 x3 x4 M = some res → Ex X (d + 1) mX10_snow 37 [(0, .ref x0), (1, .int x1), (2, .int x2), (3, .int x3), (4, .int x4)] [] M (some (.int res)) M := by
  intro n
  induction n with
  | zero =>
    intro x0 x1 x2 x3 x4 M res  h
    unfold f_X10_snow_37 at h
    cases h
  | succ n ih =>
    intro x0 x1 x2 x3 x4 M res  h
    unfold f_X10_snow_37 at h
    refine ex_iload (pc := 37) 4 dX10_snow_37 rfl ?_
    refine ex_iload_n (pc := 39) 3 dX10_snow_39 rfl rfl ?_
    by_cases c1 : x3 ≤ x4
    · rw [if_pos c1] at h
      refine ex_icmp_ge_t (pc := 40) 72 dX10_snow_40 rfl c1 ?_
      refine ex_iinc (pc := 72) (x2 + 1) 2 [(2, .int (x2 + 1)), (0, .ref x0), (1, .int x1), (3, .int x3), (4, .int x4)] dX10_snow_72 rfl rfl (by decide) rfl ?_
      refine ex_goto (pc := 75) 4 dX10_snow_75 rfl ?_
      refine ex_sub (lo' := [(0, .ref x0), (1, .int x1), (2, .int (x2 + 1))]) [1, 2, 0] rfl ?_
      exact hk4 _ _ _ _ _  h
    · rw [if_neg c1] at h
      refine ex_icmp_ge_f (pc := 40) dX10_snow_40 72 rfl c1 ?_
      refine ex_aload_n (pc := 43) 0 dX10_snow_43 rfl rfl ?_
      obtain ⟨v2, ev2, h⟩ := ob_some h
      refine ex_gR (pc := 44) ev2 dX10_snow_44 lfX10_10 ?_
      obtain ⟨v3, ev3, h⟩ := ob_some h
      refine ex_gR (pc := 47) ev3 dX10_snow_47 lfX10_74 ?_
      obtain ⟨v4, ev4, h⟩ := ob_some h
      refine ex_gR (pc := 50) ev4 dX10_snow_50 lfX10_132 ?_
      refine ex_iload_n (pc := 53) 2 dX10_snow_53 rfl rfl ?_
      obtain ⟨v5, ev5, h⟩ := ob_some h
      refine ex_rI (pc := 54) ev5 dX10_snow_54 ?_
      refine ex_iload (pc := 55) 4 dX10_snow_55 rfl ?_
      obtain ⟨v6, ev6, h⟩ := ob_some h
      refine ex_callS2r (pc := 57) dX10_snow_57 jX10_digitAt lmX10_338 jsX10_digitAt (Nat.le_of_ble_eq_true rfl) (s_X10_digitAt (by omega)  ev6) ?_
      by_cases c7 : v6 = 0
      · rw [if_pos c7] at h
        refine ex_if_ne_f (pc := 60) dX10_snow_60 66 rfl c7 ?_
        refine ex_iinc (pc := 63) (x1 + 1) 1 [(1, .int (x1 + 1)), (0, .ref x0), (2, .int x2), (3, .int x3), (4, .int x4)] dX10_snow_63 rfl rfl (by decide) rfl ?_
        refine ex_iinc (pc := 66) (x4 + 1) 4 [(4, .int (x4 + 1)), (1, .int (x1 + 1)), (0, .ref x0), (2, .int x2), (3, .int x3)] dX10_snow_66 rfl rfl (by decide) rfl ?_
        refine ex_goto (pc := 69) 37 dX10_snow_69 rfl ?_
        refine ex_sub (lo' := [(0, .ref x0), (1, .int (x1 + 1)), (2, .int x2), (3, .int x3), (4, .int (x4 + 1))]) [2, 1, 3, 4, 0] rfl ?_
        exact ih _ _ _ _ _ _ _  h
      · rw [if_neg c7] at h
        refine ex_if_ne_t (pc := 60) 66 dX10_snow_60 rfl c7 ?_
        refine ex_iinc (pc := 66) (x4 + 1) 4 [(4, .int (x4 + 1)), (0, .ref x0), (1, .int x1), (2, .int x2), (3, .int x3)] dX10_snow_66 rfl rfl (by decide) rfl ?_
        refine ex_goto (pc := 69) 37 dX10_snow_69 rfl ?_
        refine ex_sub (lo' := [(0, .ref x0), (1, .int x1), (2, .int x2), (3, .int x3), (4, .int (x4 + 1))]) [1, 2, 3, 4, 0] rfl ?_
        exact ih _ _ _ _ _ _ _  h
noncomputable def f_X10_snow_4 (n0 : Nat) (x0 : Nat) (x1 : Int32) (x2 : Int32) (M : Mem) : Option (Int32) :=
  match n0 with
  | 0 => none
  | n + 1 =>
    (gR M 10 x0 0).bind fun v8 =>
    (gR M 4 v8 0).bind fun v9 =>
    (gI M 9 v9 0).bind fun v10 =>
    if v10 ≤ x2 then
    (some x1)
    else
    ((gR M 10 x0 0).bind fun v12 =>
    (gR M 4 v12 0).bind fun v13 =>
    (gR M 9 v13 8).bind fun v14 =>
    (rI M v14 x2).bind fun v15 =>
    (f_X10_digitCount v15).bind fun v16 =>
    f_X10_snow_37 fu (f_X10_snow_4 n) x0 x1 x2 v16 0 M)
set_option maxHeartbeats 4000000 in
theorem t_X10_snow_4 {X : XV} {d : Nat} (hd : 3 ≤ d + 1) : ∀ (n : Nat) (x0 : Nat) (x1 : Int32) (x2 : Int32) (M : Mem) (res : Int32), f_X10_snow_4 n  x0 x1 x2 M = some res → Ex X (d + 1) mX10_snow 4 [(0, .ref x0), (1, .int x1), (2, .int x2)] [] M (some (.int res)) M := by
  intro n
  induction n with
  | zero =>
    intro x0 x1 x2 M res  h
    unfold f_X10_snow_4 at h
    cases h
  | succ n ih =>
    intro x0 x1 x2 M res  h
    unfold f_X10_snow_4 at h
    refine ex_iload_n (pc := 4) 2 dX10_snow_4 rfl rfl ?_
    refine ex_aload_n (pc := 5) 0 dX10_snow_5 rfl rfl ?_
    obtain ⟨v8, ev8, h⟩ := ob_some h
    refine ex_gR (pc := 6) ev8 dX10_snow_6 lfX10_10 ?_
    obtain ⟨v9, ev9, h⟩ := ob_some h
    refine ex_gR (pc := 9) ev9 dX10_snow_9 lfX10_74 ?_
    obtain ⟨v10, ev10, h⟩ := ob_some h
    refine ex_gI (pc := 12) ev10 dX10_snow_12 lfX10_176 ?_
    by_cases c11 : v10 ≤ x2
    · rw [if_pos c11] at h
      refine ex_icmp_ge_t (pc := 15) 78 dX10_snow_15 rfl c11 ?_
      refine ex_iload_n (pc := 78) 1 dX10_snow_78 rfl rfl ?_
      cases h
      exact ex_ireturn (pc := 79) dX10_snow_79
    · rw [if_neg c11] at h
      refine ex_icmp_ge_f (pc := 15) dX10_snow_15 78 rfl c11 ?_
      refine ex_aload_n (pc := 18) 0 dX10_snow_18 rfl rfl ?_
      obtain ⟨v12, ev12, h⟩ := ob_some h
      refine ex_gR (pc := 19) ev12 dX10_snow_19 lfX10_10 ?_
      obtain ⟨v13, ev13, h⟩ := ob_some h
      refine ex_gR (pc := 22) ev13 dX10_snow_22 lfX10_74 ?_
      obtain ⟨v14, ev14, h⟩ := ob_some h
      refine ex_gR (pc := 25) ev14 dX10_snow_25 lfX10_132 ?_
      refine ex_iload_n (pc := 28) 2 dX10_snow_28 rfl rfl ?_
      obtain ⟨v15, ev15, h⟩ := ob_some h
      refine ex_rI (pc := 29) ev15 dX10_snow_29 ?_
      obtain ⟨v16, ev16, h⟩ := ob_some h
      refine ex_callS1r (pc := 30) dX10_snow_30 jX10_digitCount lmX10_335 jsX10_digitCount (Nat.le_of_ble_eq_true rfl) (s_X10_digitCount (by omega)  ev16) ?_
      refine ex_istore_n (pc := 33) [(3, .int v16), (0, .ref x0), (1, .int x1), (2, .int x2)] dX10_snow_33 rfl (by decide) rfl ?_
      refine ex_iconst (pc := 34) 0 dX10_snow_34 rfl ?_
      refine ex_istore (pc := 35) [(4, .int 0), (3, .int v16), (0, .ref x0), (1, .int x1), (2, .int x2)] dX10_snow_35 (by decide) rfl ?_
      refine ex_sub (lo' := [(0, .ref x0), (1, .int x1), (2, .int x2), (3, .int v16), (4, .int 0)]) [2, 3, 4, 1, 0] rfl ?_
      exact t_X10_snow_37 hd ih _ _ _ _ _ _ _ _  h
noncomputable def f_X10_snow_0 (x0 : Nat) (M : Mem) : Option (Int32) :=
  f_X10_snow_4 fu x0 0 0 M
set_option maxHeartbeats 4000000 in
theorem t_X10_snow_0 {X : XV} {d : Nat} (hd : 3 ≤ d + 1) : ∀ (x0 : Nat) (M : Mem) (res : Int32), f_X10_snow_0  x0 M = some res → Ex X (d + 1) mX10_snow 0 [(0, .ref x0)] [] M (some (.int res)) M := by
  intro x0 M res  h
  unfold f_X10_snow_0 at h
  refine ex_iconst (pc := 0) 0 dX10_snow_0 rfl ?_
  refine ex_istore_n (pc := 1) [(1, .int 0), (0, .ref x0)] dX10_snow_1 rfl (by decide) rfl ?_
  refine ex_iconst (pc := 2) 0 dX10_snow_2 rfl ?_
  refine ex_istore_n (pc := 3) [(2, .int 0), (1, .int 0), (0, .ref x0)] dX10_snow_3 rfl (by decide) rfl ?_
  refine ex_sub (lo' := [(0, .ref x0), (1, .int 0), (2, .int 0)]) [2, 1, 0] rfl ?_
  exact t_X10_snow_4 hd  _ _ _ _ _ _  h
noncomputable def f_X10_snow (x0 : Nat) (M : Mem) : Option (Int32) := if isOb M 10 x0 = true then f_X10_snow_0 x0 M else none
theorem o_X10_snow {x0 : Nat} {M : Mem} {res : Int32} (h : f_X10_snow x0 M = some res) : isO M 10 x0 := by
  unfold f_X10_snow at h
  split at h
  · rename_i hc; exact isOb_iff hc
  · cases h
set_option maxHeartbeats 4000000 in
theorem s_X10_snow {X : XV} {d : Nat} (hd : 3 ≤ d) {x0 : Nat} {M : Mem} {res : Int32} (h : f_X10_snow x0 M = some res) : Mx X d mX10_snow [.ref x0] M (some (.int res)) M := by
  obtain ⟨d, rfl⟩ : ∃ e, d = e + 1 := ⟨d - 1, by omega⟩
  unfold f_X10_snow at h
  split at h
  rotate_left
  · cases h
  refine Mx.of (by decide) (Nat.le_of_ble_eq_true rfl) (⟨_, rfl, rfl⟩) ?_
  exact ex_sub (lo' := [(0, .ref x0)]) [0] rfl (t_X10_snow_0 hd _ _ _  h)
noncomputable def f_X10_worn_4 (n0 : Nat) (x0 : Nat) (x1 : Int32) (x2 : Int32) (M : Mem) : Option (Int32) :=
  match n0 with
  | 0 => none
  | n + 1 =>
    (gR M 10 x0 0).bind fun v1 =>
    (gR M 4 v1 0).bind fun v2 =>
    (gI M 9 v2 0).bind fun v3 =>
    if v3 ≤ x2 then
    (some x1)
    else
    (if x1 = (-1) then
    (f_X10_worn_4 n x0 x2 (x2 + 1) M)
    else
    ((gR M 10 x0 0).bind fun v6 =>
    (gR M 4 v6 0).bind fun v7 =>
    (gR M 9 v7 6).bind fun v8 =>
    (rI M v8 x2).bind fun v9 =>
    (gR M 10 x0 0).bind fun v10 =>
    (gR M 4 v10 0).bind fun v11 =>
    (gR M 9 v11 6).bind fun v12 =>
    (rI M v12 x1).bind fun v13 =>
    if v9 ≤ v13 then
    (f_X10_worn_4 n x0 x1 (x2 + 1) M)
    else
    (f_X10_worn_4 n x0 x2 (x2 + 1) M)))
set_option maxHeartbeats 4000000 in
theorem t_X10_worn_4 {X : XV} {d : Nat} (hd : 1 ≤ d + 1) : ∀ (n : Nat) (x0 : Nat) (x1 : Int32) (x2 : Int32) (M : Mem) (res : Int32), f_X10_worn_4 n  x0 x1 x2 M = some res → Ex X (d + 1) mX10_worn 4 [(0, .ref x0), (1, .int x1), (2, .int x2)] [] M (some (.int res)) M := by
  intro n
  induction n with
  | zero =>
    intro x0 x1 x2 M res  h
    unfold f_X10_worn_4 at h
    cases h
  | succ n ih =>
    intro x0 x1 x2 M res  h
    unfold f_X10_worn_4 at h
    refine ex_iload_n (pc := 4) 2 dX10_worn_4 rfl rfl ?_
    refine ex_aload_n (pc := 5) 0 dX10_worn_5 rfl rfl ?_
    obtain ⟨v1, ev1, h⟩ := ob_some h
    refine ex_gR (pc := 6) ev1 dX10_worn_6 lfX10_10 ?_
    obtain ⟨v2, ev2, h⟩ := ob_some h
    refine ex_gR (pc := 9) ev2 dX10_worn_9 lfX10_74 ?_
    obtain ⟨v3, ev3, h⟩ := ob_some h
    refine ex_gI (pc := 12) ev3 dX10_worn_12 lfX10_176 ?_
    by_cases c4 : v3 ≤ x2
    · rw [if_pos c4] at h
      refine ex_icmp_ge_t (pc := 15) 58 dX10_worn_15 rfl c4 ?_
      refine ex_iload_n (pc := 58) 1 dX10_worn_58 rfl rfl ?_
      cases h
      exact ex_ireturn (pc := 59) dX10_worn_59
    · rw [if_neg c4] at h
      refine ex_icmp_ge_f (pc := 15) dX10_worn_15 58 rfl c4 ?_
      refine ex_iload_n (pc := 18) 1 dX10_worn_18 rfl rfl ?_
      refine ex_iconst (pc := 19) (-1) dX10_worn_19 rfl ?_
      by_cases c5 : x1 = (-1)
      · rw [if_pos c5] at h
        refine ex_icmp_eq_t (pc := 20) 50 dX10_worn_20 rfl c5 ?_
        refine ex_iload_n (pc := 50) 2 dX10_worn_50 rfl rfl ?_
        refine ex_istore_n (pc := 51) [(1, .int x2), (0, .ref x0), (2, .int x2)] dX10_worn_51 rfl (by decide) rfl ?_
        refine ex_iinc (pc := 52) (x2 + 1) 2 [(2, .int (x2 + 1)), (1, .int x2), (0, .ref x0)] dX10_worn_52 rfl rfl (by decide) rfl ?_
        refine ex_goto (pc := 55) 4 dX10_worn_55 rfl ?_
        refine ex_sub (lo' := [(0, .ref x0), (1, .int x2), (2, .int (x2 + 1))]) [2, 1, 0] rfl ?_
        exact ih _ _ _ _ _  h
      · rw [if_neg c5] at h
        refine ex_icmp_eq_f (pc := 20) dX10_worn_20 50 rfl c5 ?_
        refine ex_aload_n (pc := 23) 0 dX10_worn_23 rfl rfl ?_
        obtain ⟨v6, ev6, h⟩ := ob_some h
        refine ex_gR (pc := 24) ev6 dX10_worn_24 lfX10_10 ?_
        obtain ⟨v7, ev7, h⟩ := ob_some h
        refine ex_gR (pc := 27) ev7 dX10_worn_27 lfX10_74 ?_
        obtain ⟨v8, ev8, h⟩ := ob_some h
        refine ex_gR (pc := 30) ev8 dX10_worn_30 lfX10_191 ?_
        refine ex_iload_n (pc := 33) 2 dX10_worn_33 rfl rfl ?_
        obtain ⟨v9, ev9, h⟩ := ob_some h
        refine ex_rI (pc := 34) ev9 dX10_worn_34 ?_
        refine ex_aload_n (pc := 35) 0 dX10_worn_35 rfl rfl ?_
        obtain ⟨v10, ev10, h⟩ := ob_some h
        refine ex_gR (pc := 36) ev10 dX10_worn_36 lfX10_10 ?_
        obtain ⟨v11, ev11, h⟩ := ob_some h
        refine ex_gR (pc := 39) ev11 dX10_worn_39 lfX10_74 ?_
        obtain ⟨v12, ev12, h⟩ := ob_some h
        refine ex_gR (pc := 42) ev12 dX10_worn_42 lfX10_191 ?_
        refine ex_iload_n (pc := 45) 1 dX10_worn_45 rfl rfl ?_
        obtain ⟨v13, ev13, h⟩ := ob_some h
        refine ex_rI (pc := 46) ev13 dX10_worn_46 ?_
        by_cases c14 : v9 ≤ v13
        · rw [if_pos c14] at h
          refine ex_icmp_le_t (pc := 47) 52 dX10_worn_47 rfl c14 ?_
          refine ex_iinc (pc := 52) (x2 + 1) 2 [(2, .int (x2 + 1)), (0, .ref x0), (1, .int x1)] dX10_worn_52 rfl rfl (by decide) rfl ?_
          refine ex_goto (pc := 55) 4 dX10_worn_55 rfl ?_
          refine ex_sub (lo' := [(0, .ref x0), (1, .int x1), (2, .int (x2 + 1))]) [1, 2, 0] rfl ?_
          exact ih _ _ _ _ _  h
        · rw [if_neg c14] at h
          refine ex_icmp_le_f (pc := 47) dX10_worn_47 52 rfl c14 ?_
          refine ex_iload_n (pc := 50) 2 dX10_worn_50 rfl rfl ?_
          refine ex_istore_n (pc := 51) [(1, .int x2), (0, .ref x0), (2, .int x2)] dX10_worn_51 rfl (by decide) rfl ?_
          refine ex_iinc (pc := 52) (x2 + 1) 2 [(2, .int (x2 + 1)), (1, .int x2), (0, .ref x0)] dX10_worn_52 rfl rfl (by decide) rfl ?_
          refine ex_goto (pc := 55) 4 dX10_worn_55 rfl ?_
          refine ex_sub (lo' := [(0, .ref x0), (1, .int x2), (2, .int (x2 + 1))]) [2, 1, 0] rfl ?_
          exact ih _ _ _ _ _  h
noncomputable def f_X10_worn_0 (x0 : Nat) (M : Mem) : Option (Int32) :=
  f_X10_worn_4 fu x0 (-1) 0 M
set_option maxHeartbeats 4000000 in
theorem t_X10_worn_0 {X : XV} {d : Nat} (hd : 1 ≤ d + 1) : ∀ (x0 : Nat) (M : Mem) (res : Int32), f_X10_worn_0  x0 M = some res → Ex X (d + 1) mX10_worn 0 [(0, .ref x0)] [] M (some (.int res)) M := by
  intro x0 M res  h
  unfold f_X10_worn_0 at h
  refine ex_iconst (pc := 0) (-1) dX10_worn_0 rfl ?_
  refine ex_istore_n (pc := 1) [(1, .int (-1)), (0, .ref x0)] dX10_worn_1 rfl (by decide) rfl ?_
  refine ex_iconst (pc := 2) 0 dX10_worn_2 rfl ?_
  refine ex_istore_n (pc := 3) [(2, .int 0), (1, .int (-1)), (0, .ref x0)] dX10_worn_3 rfl (by decide) rfl ?_
  refine ex_sub (lo' := [(0, .ref x0), (1, .int (-1)), (2, .int 0)]) [2, 1, 0] rfl ?_
  exact t_X10_worn_4 hd  _ _ _ _ _ _  h
noncomputable def f_X10_worn (x0 : Nat) (M : Mem) : Option (Int32) := if isOb M 10 x0 = true then f_X10_worn_0 x0 M else none
theorem o_X10_worn {x0 : Nat} {M : Mem} {res : Int32} (h : f_X10_worn x0 M = some res) : isO M 10 x0 := by
  unfold f_X10_worn at h
  split at h
  · rename_i hc; exact isOb_iff hc
  · cases h
set_option maxHeartbeats 4000000 in
theorem s_X10_worn {X : XV} {d : Nat} (hd : 1 ≤ d) {x0 : Nat} {M : Mem} {res : Int32} (h : f_X10_worn x0 M = some res) : Mx X d mX10_worn [.ref x0] M (some (.int res)) M := by
  obtain ⟨d, rfl⟩ : ∃ e, d = e + 1 := ⟨d - 1, by omega⟩
  unfold f_X10_worn at h
  split at h
  rotate_left
  · cases h
  refine Mx.of (by decide) (Nat.le_of_ble_eq_true rfl) (⟨_, rfl, rfl⟩) ?_
  exact ex_sub (lo' := [(0, .ref x0)]) [0] rfl (t_X10_worn_0 hd _ _ _  h)
noncomputable def f_X10_blank_4 (n0 : Nat) (x0 : Nat) (x1 : Int32) (x2 : Int32) (M : Mem) : Option (Int32) :=
  match n0 with
  | 0 => none
  | n + 1 =>
    (gR M 10 x0 0).bind fun v1 =>
    (gR M 4 v1 0).bind fun v2 =>
    (gI M 9 v2 0).bind fun v3 =>
    if v3 ≤ x2 then
    (some x1)
    else
    ((gR M 10 x0 0).bind fun v5 =>
    (gR M 4 v5 0).bind fun v6 =>
    (f_X9_hasRoll v6 x2 M).bind fun v7 =>
    if v7 = true then
    (f_X10_blank_4 n x0 x1 (x2 + 1) M)
    else
    (f_X10_blank_4 n x0 (x1 ||| (jshl 1 x2)) (x2 + 1) M))
set_option maxHeartbeats 4000000 in
theorem t_X10_blank_4 {X : XV} {d : Nat} (hd : 3 ≤ d + 1) : ∀ (n : Nat) (x0 : Nat) (x1 : Int32) (x2 : Int32) (M : Mem) (res : Int32), f_X10_blank_4 n  x0 x1 x2 M = some res → Ex X (d + 1) mX10_blank 4 [(0, .ref x0), (1, .int x1), (2, .int x2)] [] M (some (.int res)) M := by
  intro n
  induction n with
  | zero =>
    intro x0 x1 x2 M res  h
    unfold f_X10_blank_4 at h
    cases h
  | succ n ih =>
    intro x0 x1 x2 M res  h
    unfold f_X10_blank_4 at h
    refine ex_iload_n (pc := 4) 2 dX10_blank_4 rfl rfl ?_
    refine ex_aload_n (pc := 5) 0 dX10_blank_5 rfl rfl ?_
    obtain ⟨v1, ev1, h⟩ := ob_some h
    refine ex_gR (pc := 6) ev1 dX10_blank_6 lfX10_10 ?_
    obtain ⟨v2, ev2, h⟩ := ob_some h
    refine ex_gR (pc := 9) ev2 dX10_blank_9 lfX10_74 ?_
    obtain ⟨v3, ev3, h⟩ := ob_some h
    refine ex_gI (pc := 12) ev3 dX10_blank_12 lfX10_176 ?_
    by_cases c4 : v3 ≤ x2
    · rw [if_pos c4] at h
      refine ex_icmp_ge_t (pc := 15) 44 dX10_blank_15 rfl c4 ?_
      refine ex_iload_n (pc := 44) 1 dX10_blank_44 rfl rfl ?_
      cases h
      exact ex_ireturn (pc := 45) dX10_blank_45
    · rw [if_neg c4] at h
      refine ex_icmp_ge_f (pc := 15) dX10_blank_15 44 rfl c4 ?_
      refine ex_aload_n (pc := 18) 0 dX10_blank_18 rfl rfl ?_
      obtain ⟨v5, ev5, h⟩ := ob_some h
      refine ex_gR (pc := 19) ev5 dX10_blank_19 lfX10_10 ?_
      obtain ⟨v6, ev6, h⟩ := ob_some h
      refine ex_gR (pc := 22) ev6 dX10_blank_22 lfX10_74 ?_
      refine ex_iload_n (pc := 25) 2 dX10_blank_25 rfl rfl ?_
      obtain ⟨v7, ev7, h⟩ := ob_some h
      refine ex_callV1r (pc := 26) dX10_blank_26 jX9_hasRoll lmX10_141 jiX9_hasRoll jvX9_hasRoll (o_X9_hasRoll ev7) rfl (Nat.le_of_ble_eq_true rfl) (s_X9_hasRoll (by omega)  ev7) ?_
      by_cases c8 : v7 = true
      · rw [if_pos c8] at h
        refine ex_if_ne_t (pc := 29) 38 dX10_blank_29 rfl (jz_ne_t c8) ?_
        refine ex_iinc (pc := 38) (x2 + 1) 2 [(2, .int (x2 + 1)), (0, .ref x0), (1, .int x1)] dX10_blank_38 rfl rfl (by decide) rfl ?_
        refine ex_goto (pc := 41) 4 dX10_blank_41 rfl ?_
        refine ex_sub (lo' := [(0, .ref x0), (1, .int x1), (2, .int (x2 + 1))]) [1, 2, 0] rfl ?_
        exact ih _ _ _ _ _  h
      · rw [if_neg c8] at h
        refine ex_if_ne_f (pc := 29) dX10_blank_29 38 rfl (jz_ne_f c8) ?_
        refine ex_iload_n (pc := 32) 1 dX10_blank_32 rfl rfl ?_
        refine ex_iconst (pc := 33) 1 dX10_blank_33 rfl ?_
        refine ex_iload_n (pc := 34) 2 dX10_blank_34 rfl rfl ?_
        refine ex_ishl (pc := 35) dX10_blank_35 ?_
        refine ex_ior (pc := 36) dX10_blank_36 ?_
        refine ex_istore_n (pc := 37) [(1, .int (x1 ||| (jshl 1 x2))), (0, .ref x0), (2, .int x2)] dX10_blank_37 rfl (by decide) rfl ?_
        refine ex_iinc (pc := 38) (x2 + 1) 2 [(2, .int (x2 + 1)), (1, .int (x1 ||| (jshl 1 x2))), (0, .ref x0)] dX10_blank_38 rfl rfl (by decide) rfl ?_
        refine ex_goto (pc := 41) 4 dX10_blank_41 rfl ?_
        refine ex_sub (lo' := [(0, .ref x0), (1, .int (x1 ||| (jshl 1 x2))), (2, .int (x2 + 1))]) [2, 1, 0] rfl ?_
        exact ih _ _ _ _ _  h
noncomputable def f_X10_blank_0 (x0 : Nat) (M : Mem) : Option (Int32) :=
  f_X10_blank_4 fu x0 0 0 M
set_option maxHeartbeats 4000000 in
theorem t_X10_blank_0 {X : XV} {d : Nat} (hd : 3 ≤ d + 1) : ∀ (x0 : Nat) (M : Mem) (res : Int32), f_X10_blank_0  x0 M = some res → Ex X (d + 1) mX10_blank 0 [(0, .ref x0)] [] M (some (.int res)) M := by
  intro x0 M res  h
  unfold f_X10_blank_0 at h
  refine ex_iconst (pc := 0) 0 dX10_blank_0 rfl ?_
  refine ex_istore_n (pc := 1) [(1, .int 0), (0, .ref x0)] dX10_blank_1 rfl (by decide) rfl ?_
  refine ex_iconst (pc := 2) 0 dX10_blank_2 rfl ?_
  refine ex_istore_n (pc := 3) [(2, .int 0), (1, .int 0), (0, .ref x0)] dX10_blank_3 rfl (by decide) rfl ?_
  refine ex_sub (lo' := [(0, .ref x0), (1, .int 0), (2, .int 0)]) [2, 1, 0] rfl ?_
  exact t_X10_blank_4 hd  _ _ _ _ _ _  h
noncomputable def f_X10_blank (x0 : Nat) (M : Mem) : Option (Int32) := if isOb M 10 x0 = true then f_X10_blank_0 x0 M else none
theorem o_X10_blank {x0 : Nat} {M : Mem} {res : Int32} (h : f_X10_blank x0 M = some res) : isO M 10 x0 := by
  unfold f_X10_blank at h
  split at h
  · rename_i hc; exact isOb_iff hc
  · cases h
set_option maxHeartbeats 4000000 in
theorem s_X10_blank {X : XV} {d : Nat} (hd : 3 ≤ d) {x0 : Nat} {M : Mem} {res : Int32} (h : f_X10_blank x0 M = some res) : Mx X d mX10_blank [.ref x0] M (some (.int res)) M := by
  obtain ⟨d, rfl⟩ : ∃ e, d = e + 1 := ⟨d - 1, by omega⟩
  unfold f_X10_blank at h
  split at h
  rotate_left
  · cases h
  refine Mx.of (by decide) (Nat.le_of_ble_eq_true rfl) (⟨_, rfl, rfl⟩) ?_
  exact ex_sub (lo' := [(0, .ref x0)]) [0] rfl (t_X10_blank_0 hd _ _ _  h)
noncomputable def f_X10_ledger_0 (x0 : Nat) (x1 : Int32) (M : Mem) : Option (Int32) :=
  if x1 = (-1) then
  ((gR M 10 x0 0).bind fun v9 =>
  (gR M 4 v9 0).bind fun v10 =>
  (gI M 9 v10 3).bind fun v11 =>
  some v11)
  else
  ((gR M 10 x0 0).bind fun v2 =>
  (gR M 4 v2 0).bind fun v3 =>
  (f_X9_has v3 x1 M).bind fun v4 =>
  if v4 = false then
  (some (-2))
  else
  ((gR M 10 x0 0).bind fun v6 =>
  (gR M 4 v6 0).bind fun v7 =>
  (f_X9_bookedOf v7 x1 M).bind fun v8 =>
  some v8))
set_option maxHeartbeats 4000000 in
theorem t_X10_ledger_0 {X : XV} {d : Nat} (hd : 2 ≤ d + 1) : ∀ (x0 : Nat) (x1 : Int32) (M : Mem) (res : Int32), f_X10_ledger_0  x0 x1 M = some res → Ex X (d + 1) mX10_ledger 0 [(0, .ref x0), (1, .int x1)] [] M (some (.int res)) M := by
  intro x0 x1 M res  h
  unfold f_X10_ledger_0 at h
  refine ex_iload_n (pc := 0) 1 dX10_ledger_0 rfl rfl ?_
  refine ex_iconst (pc := 1) (-1) dX10_ledger_1 rfl ?_
  by_cases c1 : x1 = (-1)
  · rw [if_pos c1] at h
    refine ex_icmp_ne_f (pc := 2) dX10_ledger_2 16 rfl c1 ?_
    refine ex_aload_n (pc := 5) 0 dX10_ledger_5 rfl rfl ?_
    obtain ⟨v9, ev9, h⟩ := ob_some h
    refine ex_gR (pc := 6) ev9 dX10_ledger_6 lfX10_10 ?_
    obtain ⟨v10, ev10, h⟩ := ob_some h
    refine ex_gR (pc := 9) ev10 dX10_ledger_9 lfX10_74 ?_
    obtain ⟨v11, ev11, h⟩ := ob_some h
    refine ex_gI (pc := 12) ev11 dX10_ledger_12 lfX10_207 ?_
    cases h
    exact ex_ireturn (pc := 15) dX10_ledger_15
  · rw [if_neg c1] at h
    refine ex_icmp_ne_t (pc := 2) 16 dX10_ledger_2 rfl c1 ?_
    refine ex_aload_n (pc := 16) 0 dX10_ledger_16 rfl rfl ?_
    obtain ⟨v2, ev2, h⟩ := ob_some h
    refine ex_gR (pc := 17) ev2 dX10_ledger_17 lfX10_10 ?_
    obtain ⟨v3, ev3, h⟩ := ob_some h
    refine ex_gR (pc := 20) ev3 dX10_ledger_20 lfX10_74 ?_
    refine ex_iload_n (pc := 23) 1 dX10_ledger_23 rfl rfl ?_
    obtain ⟨v4, ev4, h⟩ := ob_some h
    refine ex_callV1r (pc := 24) dX10_ledger_24 jX9_has lmX10_135 jiX9_has jvX9_has (o_X9_has ev4) rfl (Nat.le_of_ble_eq_true rfl) (s_X9_has (by omega)  ev4) ?_
    by_cases c5 : v4 = false
    · rw [if_pos c5] at h
      refine ex_if_eq_t (pc := 27) 44 dX10_ledger_27 rfl (jz_eq_t c5) ?_
      refine ex_bipush (pc := 44) (-2) dX10_ledger_44 (by decide) ?_
      cases h
      exact ex_ireturn (pc := 46) dX10_ledger_46
    · rw [if_neg c5] at h
      refine ex_if_eq_f (pc := 27) dX10_ledger_27 44 rfl (jz_eq_f c5) ?_
      refine ex_aload_n (pc := 30) 0 dX10_ledger_30 rfl rfl ?_
      obtain ⟨v6, ev6, h⟩ := ob_some h
      refine ex_gR (pc := 31) ev6 dX10_ledger_31 lfX10_10 ?_
      obtain ⟨v7, ev7, h⟩ := ob_some h
      refine ex_gR (pc := 34) ev7 dX10_ledger_34 lfX10_74 ?_
      refine ex_iload_n (pc := 37) 1 dX10_ledger_37 rfl rfl ?_
      obtain ⟨v8, ev8, h⟩ := ob_some h
      refine ex_callV1r (pc := 38) dX10_ledger_38 jX9_bookedOf lmX10_341 jiX9_bookedOf jvX9_bookedOf (o_X9_bookedOf ev8) rfl (Nat.le_of_ble_eq_true rfl) (s_X9_bookedOf (by omega)  ev8) ?_
      refine ex_goto (pc := 41) 46 dX10_ledger_41 rfl ?_
      cases h
      exact ex_ireturn (pc := 46) dX10_ledger_46
noncomputable def f_X10_ledger (x0 : Nat) (x1 : Int32) (M : Mem) : Option (Int32) := if isOb M 10 x0 = true then f_X10_ledger_0 x0 x1 M else none
theorem o_X10_ledger {x0 : Nat} {x1 : Int32} {M : Mem} {res : Int32} (h : f_X10_ledger x0 x1 M = some res) : isO M 10 x0 := by
  unfold f_X10_ledger at h
  split at h
  · rename_i hc; exact isOb_iff hc
  · cases h
set_option maxHeartbeats 4000000 in
theorem s_X10_ledger {X : XV} {d : Nat} (hd : 2 ≤ d) {x0 : Nat} {x1 : Int32} {M : Mem} {res : Int32} (h : f_X10_ledger x0 x1 M = some res) : Mx X d mX10_ledger [.ref x0, .int x1] M (some (.int res)) M := by
  obtain ⟨d, rfl⟩ : ∃ e, d = e + 1 := ⟨d - 1, by omega⟩
  unfold f_X10_ledger at h
  split at h
  rotate_left
  · cases h
  refine Mx.of (by decide) (Nat.le_of_ble_eq_true rfl) (⟨_, rfl, rfl⟩) ?_
  exact ex_sub (lo' := [(0, .ref x0), (1, .int x1)]) [0, 1] rfl (t_X10_ledger_0 hd _ _ _ _  h)
noncomputable def f_X10_image_0 (x0 : Nat) (M : Mem) : Option (Int32 × Mem) :=
  (gR M 10 x0 1).bind fun v1 =>
  (gR M 10 x0 0).bind fun v2 =>
  (f_X4_copyFrom v1 v2 M).bind fun q3 =>
  (gR q3 10 x0 0).bind fun v4 =>
  (gR q3 4 v4 0).bind fun v5 =>
  (gI q3 9 v5 1).bind fun v6 =>
  some (v6, q3)
set_option maxHeartbeats 4000000 in
theorem t_X10_image_0 {X : XV} {d : Nat} (hd : 4 ≤ d + 1) : ∀ (x0 : Nat) (M : Mem) (res : Int32 × Mem), f_X10_image_0  x0 M = some res → Ex X (d + 1) mX10_image 0 [(0, .ref x0)] [] M (some (.int res.1)) res.2 := by
  intro x0 M res  h
  unfold f_X10_image_0 at h
  refine ex_aload_n (pc := 0) 0 dX10_image_0 rfl rfl ?_
  obtain ⟨v1, ev1, h⟩ := ob_some h
  refine ex_gR (pc := 1) ev1 dX10_image_1 lfX10_16 ?_
  refine ex_aload_n (pc := 4) 0 dX10_image_4 rfl rfl ?_
  obtain ⟨v2, ev2, h⟩ := ob_some h
  refine ex_gR (pc := 5) ev2 dX10_image_5 lfX10_10 ?_
  obtain ⟨q3, eq3, h⟩ := ob_some h
  refine ex_callV1v (pc := 8) dX10_image_8 jX4_copyFrom lmX10_344 jiX4_copyFrom jvX4_copyFrom (o_X4_copyFrom eq3) rfl (Nat.le_of_ble_eq_true rfl) (s_X4_copyFrom (by omega)  eq3) ?_
  refine ex_aload_n (pc := 11) 0 dX10_image_11 rfl rfl ?_
  obtain ⟨v4, ev4, h⟩ := ob_some h
  refine ex_gR (pc := 12) ev4 dX10_image_12 lfX10_10 ?_
  obtain ⟨v5, ev5, h⟩ := ob_some h
  refine ex_gR (pc := 15) ev5 dX10_image_15 lfX10_74 ?_
  obtain ⟨v6, ev6, h⟩ := ob_some h
  refine ex_gI (pc := 18) ev6 dX10_image_18 lfX10_147 ?_
  cases h
  exact ex_ireturn (pc := 21) dX10_image_21
noncomputable def f_X10_image (x0 : Nat) (M : Mem) : Option (Int32 × Mem) := if isOb M 10 x0 = true then f_X10_image_0 x0 M else none
theorem o_X10_image {x0 : Nat} {M : Mem} {res : Int32 × Mem} (h : f_X10_image x0 M = some res) : isO M 10 x0 := by
  unfold f_X10_image at h
  split at h
  · rename_i hc; exact isOb_iff hc
  · cases h
set_option maxHeartbeats 4000000 in
theorem s_X10_image {X : XV} {d : Nat} (hd : 4 ≤ d) {x0 : Nat} {M : Mem} {res : Int32 × Mem} (h : f_X10_image x0 M = some res) : Mx X d mX10_image [.ref x0] M (some (.int res.1)) res.2 := by
  obtain ⟨d, rfl⟩ : ∃ e, d = e + 1 := ⟨d - 1, by omega⟩
  unfold f_X10_image at h
  split at h
  rotate_left
  · cases h
  refine Mx.of (by decide) (Nat.le_of_ble_eq_true rfl) (⟨_, rfl, rfl⟩) ?_
  exact ex_sub (lo' := [(0, .ref x0)]) [0] rfl (t_X10_image_0 hd _ _ _  h)
noncomputable def f_X10_back_0 (x0 : Nat) (M : Mem) : Option (Int32 × Mem) :=
  (gR M 10 x0 0).bind fun v1 =>
  (gR M 10 x0 1).bind fun v2 =>
  (f_X4_copyFrom v1 v2 M).bind fun q3 =>
  (gR q3 10 x0 0).bind fun v4 =>
  (gR q3 4 v4 0).bind fun v5 =>
  (gI q3 9 v5 1).bind fun v6 =>
  some (v6, q3)
set_option maxHeartbeats 4000000 in
theorem t_X10_back_0 {X : XV} {d : Nat} (hd : 4 ≤ d + 1) : ∀ (x0 : Nat) (M : Mem) (res : Int32 × Mem), f_X10_back_0  x0 M = some res → Ex X (d + 1) mX10_back 0 [(0, .ref x0)] [] M (some (.int res.1)) res.2 := by
  intro x0 M res  h
  unfold f_X10_back_0 at h
  refine ex_aload_n (pc := 0) 0 dX10_back_0 rfl rfl ?_
  obtain ⟨v1, ev1, h⟩ := ob_some h
  refine ex_gR (pc := 1) ev1 dX10_back_1 lfX10_10 ?_
  refine ex_aload_n (pc := 4) 0 dX10_back_4 rfl rfl ?_
  obtain ⟨v2, ev2, h⟩ := ob_some h
  refine ex_gR (pc := 5) ev2 dX10_back_5 lfX10_16 ?_
  obtain ⟨q3, eq3, h⟩ := ob_some h
  refine ex_callV1v (pc := 8) dX10_back_8 jX4_copyFrom lmX10_344 jiX4_copyFrom jvX4_copyFrom (o_X4_copyFrom eq3) rfl (Nat.le_of_ble_eq_true rfl) (s_X4_copyFrom (by omega)  eq3) ?_
  refine ex_aload_n (pc := 11) 0 dX10_back_11 rfl rfl ?_
  obtain ⟨v4, ev4, h⟩ := ob_some h
  refine ex_gR (pc := 12) ev4 dX10_back_12 lfX10_10 ?_
  obtain ⟨v5, ev5, h⟩ := ob_some h
  refine ex_gR (pc := 15) ev5 dX10_back_15 lfX10_74 ?_
  obtain ⟨v6, ev6, h⟩ := ob_some h
  refine ex_gI (pc := 18) ev6 dX10_back_18 lfX10_147 ?_
  cases h
  exact ex_ireturn (pc := 21) dX10_back_21
noncomputable def f_X10_back (x0 : Nat) (M : Mem) : Option (Int32 × Mem) := if isOb M 10 x0 = true then f_X10_back_0 x0 M else none
theorem o_X10_back {x0 : Nat} {M : Mem} {res : Int32 × Mem} (h : f_X10_back x0 M = some res) : isO M 10 x0 := by
  unfold f_X10_back at h
  split at h
  · rename_i hc; exact isOb_iff hc
  · cases h
set_option maxHeartbeats 4000000 in
theorem s_X10_back {X : XV} {d : Nat} (hd : 4 ≤ d) {x0 : Nat} {M : Mem} {res : Int32 × Mem} (h : f_X10_back x0 M = some res) : Mx X d mX10_back [.ref x0] M (some (.int res.1)) res.2 := by
  obtain ⟨d, rfl⟩ : ∃ e, d = e + 1 := ⟨d - 1, by omega⟩
  unfold f_X10_back at h
  split at h
  rotate_left
  · cases h
  refine Mx.of (by decide) (Nat.le_of_ble_eq_true rfl) (⟨_, rfl, rfl⟩) ?_
  exact ex_sub (lo' := [(0, .ref x0)]) [0] rfl (t_X10_back_0 hd _ _ _  h)
noncomputable def f_X10_about_0 (x0 : Nat) (x1 : Int32) (M : Mem) : Option (Int32) :=
  if x1 = 0 then
  ((gR M 10 x0 0).bind fun v2 =>
  (gR M 4 v2 0).bind fun v3 =>
  (gI M 9 v3 0).bind fun v4 =>
  some v4)
  else
  (if x1 = 1 then
  ((gR M 10 x0 0).bind fun v6 =>
  (gI M 4 v6 5).bind fun v7 =>
  some v7)
  else
  (if x1 = 2 then
  ((gR M 10 x0 0).bind fun v9 =>
  (gI M 4 v9 6).bind fun v10 =>
  some v10)
  else
  (if x1 = 3 then
  ((gR M 10 x0 0).bind fun v12 =>
  (gI M 4 v12 3).bind fun v13 =>
  some v13)
  else
  (if x1 = 4 then
  ((gR M 10 x0 0).bind fun v15 =>
  (gR M 4 v15 8).bind fun v16 =>
  (gI M 3 v16 1).bind fun v17 =>
  some v17)
  else
  (if x1 = 5 then
  ((gR M 10 x0 0).bind fun v19 =>
  (gR M 4 v19 9).bind fun v20 =>
  (gI M 3 v20 1).bind fun v21 =>
  some v21)
  else
  (if x1 = 6 then
  ((gR M 10 x0 0).bind fun v23 =>
  (gR M 4 v23 10).bind fun v24 =>
  (gI M 3 v24 1).bind fun v25 =>
  some v25)
  else
  (if x1 = 7 then
  ((gR M 10 x0 0).bind fun v27 =>
  (gR M 4 v27 11).bind fun v28 =>
  (gI M 3 v28 1).bind fun v29 =>
  some v29)
  else
  (if x1 = 8 then
  ((gR M 10 x0 2).bind fun v31 =>
  (gI M 7 v31 1).bind fun v32 =>
  some v32)
  else
  (some (-2))))))))))
set_option maxHeartbeats 4000000 in
theorem t_X10_about_0 {X : XV} {d : Nat} (hd : 1 ≤ d + 1) : ∀ (x0 : Nat) (x1 : Int32) (M : Mem) (res : Int32), f_X10_about_0  x0 x1 M = some res → Ex X (d + 1) mX10_about 0 [(0, .ref x0), (1, .int x1)] [] M (some (.int res)) M := by
  intro x0 x1 M res  h
  unfold f_X10_about_0 at h
  refine ex_iload_n (pc := 0) 1 dX10_about_0 rfl rfl ?_
  by_cases c1 : x1 = 0
  · rw [if_pos c1] at h
    refine ex_tabIn (pc := 1) 52 dX10_about_1 (by rw [c1]; decide) (by rw [c1]; decide) (by rw [c1]; rfl) rfl ?_
    refine ex_aload_n (pc := 52) 0 dX10_about_52 rfl rfl ?_
    obtain ⟨v2, ev2, h⟩ := ob_some h
    refine ex_gR (pc := 53) ev2 dX10_about_53 lfX10_10 ?_
    obtain ⟨v3, ev3, h⟩ := ob_some h
    refine ex_gR (pc := 56) ev3 dX10_about_56 lfX10_74 ?_
    obtain ⟨v4, ev4, h⟩ := ob_some h
    refine ex_gI (pc := 59) ev4 dX10_about_59 lfX10_176 ?_
    cases h
    exact ex_ireturn (pc := 62) dX10_about_62
  · rw [if_neg c1] at h
    by_cases c5 : x1 = 1
    · rw [if_pos c5] at h
      refine ex_tabIn (pc := 1) 63 dX10_about_1 (by rw [c5]; decide) (by rw [c5]; decide) (by rw [c5]; rfl) rfl ?_
      refine ex_aload_n (pc := 63) 0 dX10_about_63 rfl rfl ?_
      obtain ⟨v6, ev6, h⟩ := ob_some h
      refine ex_gR (pc := 64) ev6 dX10_about_64 lfX10_10 ?_
      obtain ⟨v7, ev7, h⟩ := ob_some h
      refine ex_gI (pc := 67) ev7 dX10_about_67 lfX10_97 ?_
      cases h
      exact ex_ireturn (pc := 70) dX10_about_70
    · rw [if_neg c5] at h
      by_cases c8 : x1 = 2
      · rw [if_pos c8] at h
        refine ex_tabIn (pc := 1) 71 dX10_about_1 (by rw [c8]; decide) (by rw [c8]; decide) (by rw [c8]; rfl) rfl ?_
        refine ex_aload_n (pc := 71) 0 dX10_about_71 rfl rfl ?_
        obtain ⟨v9, ev9, h⟩ := ob_some h
        refine ex_gR (pc := 72) ev9 dX10_about_72 lfX10_10 ?_
        obtain ⟨v10, ev10, h⟩ := ob_some h
        refine ex_gI (pc := 75) ev10 dX10_about_75 lfX10_118 ?_
        cases h
        exact ex_ireturn (pc := 78) dX10_about_78
      · rw [if_neg c8] at h
        by_cases c11 : x1 = 3
        · rw [if_pos c11] at h
          refine ex_tabIn (pc := 1) 79 dX10_about_1 (by rw [c11]; decide) (by rw [c11]; decide) (by rw [c11]; rfl) rfl ?_
          refine ex_aload_n (pc := 79) 0 dX10_about_79 rfl rfl ?_
          obtain ⟨v12, ev12, h⟩ := ob_some h
          refine ex_gR (pc := 80) ev12 dX10_about_80 lfX10_10 ?_
          obtain ⟨v13, ev13, h⟩ := ob_some h
          refine ex_gI (pc := 83) ev13 dX10_about_83 lfX10_185 ?_
          cases h
          exact ex_ireturn (pc := 86) dX10_about_86
        · rw [if_neg c11] at h
          by_cases c14 : x1 = 4
          · rw [if_pos c14] at h
            refine ex_tabIn (pc := 1) 87 dX10_about_1 (by rw [c14]; decide) (by rw [c14]; decide) (by rw [c14]; rfl) rfl ?_
            refine ex_aload_n (pc := 87) 0 dX10_about_87 rfl rfl ?_
            obtain ⟨v15, ev15, h⟩ := ob_some h
            refine ex_gR (pc := 88) ev15 dX10_about_88 lfX10_10 ?_
            obtain ⟨v16, ev16, h⟩ := ob_some h
            refine ex_gR (pc := 91) ev16 dX10_about_91 lfX10_222 ?_
            obtain ⟨v17, ev17, h⟩ := ob_some h
            refine ex_gI (pc := 94) ev17 dX10_about_94 lfX10_246 ?_
            cases h
            exact ex_ireturn (pc := 97) dX10_about_97
          · rw [if_neg c14] at h
            by_cases c18 : x1 = 5
            · rw [if_pos c18] at h
              refine ex_tabIn (pc := 1) 98 dX10_about_1 (by rw [c18]; decide) (by rw [c18]; decide) (by rw [c18]; rfl) rfl ?_
              refine ex_aload_n (pc := 98) 0 dX10_about_98 rfl rfl ?_
              obtain ⟨v19, ev19, h⟩ := ob_some h
              refine ex_gR (pc := 99) ev19 dX10_about_99 lfX10_10 ?_
              obtain ⟨v20, ev20, h⟩ := ob_some h
              refine ex_gR (pc := 102) ev20 dX10_about_102 lfX10_264 ?_
              obtain ⟨v21, ev21, h⟩ := ob_some h
              refine ex_gI (pc := 105) ev21 dX10_about_105 lfX10_246 ?_
              cases h
              exact ex_ireturn (pc := 108) dX10_about_108
            · rw [if_neg c18] at h
              by_cases c22 : x1 = 6
              · rw [if_pos c22] at h
                refine ex_tabIn (pc := 1) 109 dX10_about_1 (by rw [c22]; decide) (by rw [c22]; decide) (by rw [c22]; rfl) rfl ?_
                refine ex_aload_n (pc := 109) 0 dX10_about_109 rfl rfl ?_
                obtain ⟨v23, ev23, h⟩ := ob_some h
                refine ex_gR (pc := 110) ev23 dX10_about_110 lfX10_10 ?_
                obtain ⟨v24, ev24, h⟩ := ob_some h
                refine ex_gR (pc := 113) ev24 dX10_about_113 lfX10_243 ?_
                obtain ⟨v25, ev25, h⟩ := ob_some h
                refine ex_gI (pc := 116) ev25 dX10_about_116 lfX10_246 ?_
                cases h
                exact ex_ireturn (pc := 119) dX10_about_119
              · rw [if_neg c22] at h
                by_cases c26 : x1 = 7
                · rw [if_pos c26] at h
                  refine ex_tabIn (pc := 1) 120 dX10_about_1 (by rw [c26]; decide) (by rw [c26]; decide) (by rw [c26]; rfl) rfl ?_
                  refine ex_aload_n (pc := 120) 0 dX10_about_120 rfl rfl ?_
                  obtain ⟨v27, ev27, h⟩ := ob_some h
                  refine ex_gR (pc := 121) ev27 dX10_about_121 lfX10_10 ?_
                  obtain ⟨v28, ev28, h⟩ := ob_some h
                  refine ex_gR (pc := 124) ev28 dX10_about_124 lfX10_317 ?_
                  obtain ⟨v29, ev29, h⟩ := ob_some h
                  refine ex_gI (pc := 127) ev29 dX10_about_127 lfX10_246 ?_
                  cases h
                  exact ex_ireturn (pc := 130) dX10_about_130
                · rw [if_neg c26] at h
                  by_cases c30 : x1 = 8
                  · rw [if_pos c30] at h
                    refine ex_tabIn (pc := 1) 131 dX10_about_1 (by rw [c30]; decide) (by rw [c30]; decide) (by rw [c30]; rfl) rfl ?_
                    refine ex_aload_n (pc := 131) 0 dX10_about_131 rfl rfl ?_
                    obtain ⟨v31, ev31, h⟩ := ob_some h
                    refine ex_gR (pc := 132) ev31 dX10_about_132 lfX10_22 ?_
                    obtain ⟨v32, ev32, h⟩ := ob_some h
                    refine ex_gI (pc := 135) ev32 dX10_about_135 lfX10_89 ?_
                    cases h
                    exact ex_ireturn (pc := 138) dX10_about_138
                  · rw [if_neg c30] at h
                    have zc1 : ¬ (x1).toInt = 0 := fun e9 => c1 (i32_of e9 (by decide))
                    have zc5 : ¬ (x1).toInt = 1 := fun e9 => c5 (i32_of e9 (by decide))
                    have zc8 : ¬ (x1).toInt = 2 := fun e9 => c8 (i32_of e9 (by decide))
                    have zc11 : ¬ (x1).toInt = 3 := fun e9 => c11 (i32_of e9 (by decide))
                    have zc14 : ¬ (x1).toInt = 4 := fun e9 => c14 (i32_of e9 (by decide))
                    have zc18 : ¬ (x1).toInt = 5 := fun e9 => c18 (i32_of e9 (by decide))
                    have zc22 : ¬ (x1).toInt = 6 := fun e9 => c22 (i32_of e9 (by decide))
                    have zc26 : ¬ (x1).toInt = 7 := fun e9 => c26 (i32_of e9 (by decide))
                    have zc30 : ¬ (x1).toInt = 8 := fun e9 => c30 (i32_of e9 (by decide))
                    refine ex_tabOut (pc := 1) 139 dX10_about_1 (by omega) rfl ?_
                    refine ex_bipush (pc := 139) (-2) dX10_about_139 (by decide) ?_
                    cases h
                    exact ex_ireturn (pc := 141) dX10_about_141
noncomputable def f_X10_about (x0 : Nat) (x1 : Int32) (M : Mem) : Option (Int32) := if isOb M 10 x0 = true then f_X10_about_0 x0 x1 M else none
theorem o_X10_about {x0 : Nat} {x1 : Int32} {M : Mem} {res : Int32} (h : f_X10_about x0 x1 M = some res) : isO M 10 x0 := by
  unfold f_X10_about at h
  split at h
  · rename_i hc; exact isOb_iff hc
  · cases h
set_option maxHeartbeats 4000000 in
theorem s_X10_about {X : XV} {d : Nat} (hd : 1 ≤ d) {x0 : Nat} {x1 : Int32} {M : Mem} {res : Int32} (h : f_X10_about x0 x1 M = some res) : Mx X d mX10_about [.ref x0, .int x1] M (some (.int res)) M := by
  obtain ⟨d, rfl⟩ : ∃ e, d = e + 1 := ⟨d - 1, by omega⟩
  unfold f_X10_about at h
  split at h
  rotate_left
  · cases h
  refine Mx.of (by decide) (Nat.le_of_ble_eq_true rfl) (⟨_, rfl, rfl⟩) ?_
  exact ex_sub (lo' := [(0, .ref x0), (1, .int x1)]) [0, 1] rfl (t_X10_about_0 hd _ _ _ _  h)
