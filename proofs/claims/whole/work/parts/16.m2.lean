noncomputable def f_X11_believesOf_0 (x0 : Nat) (x1 : Int32) (M : Mem) : Option (Int32 × Mem) :=
  (f_X11_name x0 x1 M).bind fun q1 =>
  (gR q1 11 x0 0).bind fun v2 =>
  (rI q1 v2 2).bind fun v3 =>
  (f_X11_says x0 v3 1 2 10 q1).bind fun q4 =>
  some (q4.1, q4.2)
set_option maxHeartbeats 4000000 in
theorem t_X11_believesOf_0 {X : XV} {d : Nat} (hd : 5 ≤ d + 1) : ∀ (x0 : Nat) (x1 : Int32) (M : Mem) (res : Int32 × Mem), f_X11_believesOf_0  x0 x1 M = some res → Ex X (d + 1) mX11_believesOf 0 [(0, .ref x0), (1, .int x1)] [] M (some (.int res.1)) res.2 := by
  intro x0 x1 M res  h
  unfold f_X11_believesOf_0 at h
  refine ex_aload_n (pc := 0) 0 dX11_believesOf_0 rfl rfl ?_
  refine ex_iload_n (pc := 1) 1 dX11_believesOf_1 rfl rfl ?_
  obtain ⟨q1, eq1, h⟩ := ob_some h
  refine ex_callV1v (pc := 2) dX11_believesOf_2 jX11_name lmX11_316 jiX11_name jvX11_name (o_X11_name eq1) rfl (Nat.le_of_ble_eq_true rfl) (s_X11_name (by omega)  eq1) ?_
  refine ex_aload_n (pc := 5) 0 dX11_believesOf_5 rfl rfl ?_
  refine ex_aload_n (pc := 6) 0 dX11_believesOf_6 rfl rfl ?_
  obtain ⟨v2, ev2, h⟩ := ob_some h
  refine ex_gR (pc := 7) ev2 dX11_believesOf_7 lfX11_7 ?_
  refine ex_iconst (pc := 10) 2 dX11_believesOf_10 rfl ?_
  obtain ⟨v3, ev3, h⟩ := ob_some h
  refine ex_rI (pc := 11) ev3 dX11_believesOf_11 ?_
  refine ex_iconst (pc := 12) 1 dX11_believesOf_12 rfl ?_
  refine ex_iconst (pc := 13) 2 dX11_believesOf_13 rfl ?_
  refine ex_bipush (pc := 14) 10 dX11_believesOf_14 (by decide) ?_
  obtain ⟨q4, eq4, h⟩ := ob_some h
  refine ex_callV4r (pc := 16) dX11_believesOf_16 jX11_says lmX11_319 jiX11_says jvX11_says (o_X11_says eq4) rfl (Nat.le_of_ble_eq_true rfl) (s_X11_says (by omega)  eq4) ?_
  cases h
  exact ex_ireturn (pc := 19) dX11_believesOf_19
noncomputable def f_X11_believesOf (x0 : Nat) (x1 : Int32) (M : Mem) : Option (Int32 × Mem) := if isOb M 11 x0 = true then f_X11_believesOf_0 x0 x1 M else none
theorem o_X11_believesOf {x0 : Nat} {x1 : Int32} {M : Mem} {res : Int32 × Mem} (h : f_X11_believesOf x0 x1 M = some res) : isO M 11 x0 := by
  unfold f_X11_believesOf at h
  split at h
  · rename_i hc; exact isOb_iff hc
  · cases h
set_option maxHeartbeats 4000000 in
theorem s_X11_believesOf {X : XV} {d : Nat} (hd : 5 ≤ d) {x0 : Nat} {x1 : Int32} {M : Mem} {res : Int32 × Mem} (h : f_X11_believesOf x0 x1 M = some res) : Mx X d mX11_believesOf [.ref x0, .int x1] M (some (.int res.1)) res.2 := by
  obtain ⟨d, rfl⟩ : ∃ e, d = e + 1 := ⟨d - 1, by omega⟩
  unfold f_X11_believesOf at h
  split at h
  rotate_left
  · cases h
  refine Mx.of (by decide) (Nat.le_of_ble_eq_true rfl) (⟨_, rfl, rfl⟩) ?_
  exact ex_sub (lo' := [(0, .ref x0), (1, .int x1)]) [0, 1] rfl (t_X11_believesOf_0 hd _ _ _ _  h)
noncomputable def f_X11_wearsOf_0 (x0 : Nat) (x1 : Int32) (M : Mem) : Option (Int32 × Mem) :=
  (f_X11_name x0 x1 M).bind fun q1 =>
  (gR q1 11 x0 0).bind fun v2 =>
  (rI q1 v2 2).bind fun v3 =>
  (gR q1 11 x0 20).bind fun v4 =>
  (rI q1 v4 3).bind fun v5 =>
  if v5 = 0 then
  ((f_X11_says x0 v3 2 1 9 q1).bind fun q8 =>
  some (q8.1, q8.2))
  else
  ((f_X11_says x0 v3 2 0 9 q1).bind fun q7 =>
  some (q7.1, q7.2))
set_option maxHeartbeats 4000000 in
theorem t_X11_wearsOf_0 {X : XV} {d : Nat} (hd : 5 ≤ d + 1) : ∀ (x0 : Nat) (x1 : Int32) (M : Mem) (res : Int32 × Mem), f_X11_wearsOf_0  x0 x1 M = some res → Ex X (d + 1) mX11_wearsOf 0 [(0, .ref x0), (1, .int x1)] [] M (some (.int res.1)) res.2 := by
  intro x0 x1 M res  h
  unfold f_X11_wearsOf_0 at h
  refine ex_aload_n (pc := 0) 0 dX11_wearsOf_0 rfl rfl ?_
  refine ex_iload_n (pc := 1) 1 dX11_wearsOf_1 rfl rfl ?_
  obtain ⟨q1, eq1, h⟩ := ob_some h
  refine ex_callV1v (pc := 2) dX11_wearsOf_2 jX11_name lmX11_316 jiX11_name jvX11_name (o_X11_name eq1) rfl (Nat.le_of_ble_eq_true rfl) (s_X11_name (by omega)  eq1) ?_
  refine ex_aload_n (pc := 5) 0 dX11_wearsOf_5 rfl rfl ?_
  refine ex_aload_n (pc := 6) 0 dX11_wearsOf_6 rfl rfl ?_
  obtain ⟨v2, ev2, h⟩ := ob_some h
  refine ex_gR (pc := 7) ev2 dX11_wearsOf_7 lfX11_7 ?_
  refine ex_iconst (pc := 10) 2 dX11_wearsOf_10 rfl ?_
  obtain ⟨v3, ev3, h⟩ := ob_some h
  refine ex_rI (pc := 11) ev3 dX11_wearsOf_11 ?_
  refine ex_iconst (pc := 12) 2 dX11_wearsOf_12 rfl ?_
  refine ex_aload_n (pc := 13) 0 dX11_wearsOf_13 rfl rfl ?_
  obtain ⟨v4, ev4, h⟩ := ob_some h
  refine ex_gR (pc := 14) ev4 dX11_wearsOf_14 lfX11_32 ?_
  refine ex_iconst (pc := 17) 3 dX11_wearsOf_17 rfl ?_
  obtain ⟨v5, ev5, h⟩ := ob_some h
  refine ex_rI (pc := 18) ev5 dX11_wearsOf_18 ?_
  by_cases c6 : v5 = 0
  · rw [if_pos c6] at h
    refine ex_if_ne_f (pc := 19) dX11_wearsOf_19 26 rfl c6 ?_
    refine ex_iconst (pc := 22) 1 dX11_wearsOf_22 rfl ?_
    refine ex_goto (pc := 23) 27 dX11_wearsOf_23 rfl ?_
    refine ex_bipush (pc := 27) 9 dX11_wearsOf_27 (by decide) ?_
    obtain ⟨q8, eq8, h⟩ := ob_some h
    refine ex_callV4r (pc := 29) dX11_wearsOf_29 jX11_says lmX11_319 jiX11_says jvX11_says (o_X11_says eq8) rfl (Nat.le_of_ble_eq_true rfl) (s_X11_says (by omega)  eq8) ?_
    cases h
    exact ex_ireturn (pc := 32) dX11_wearsOf_32
  · rw [if_neg c6] at h
    refine ex_if_ne_t (pc := 19) 26 dX11_wearsOf_19 rfl c6 ?_
    refine ex_iconst (pc := 26) 0 dX11_wearsOf_26 rfl ?_
    refine ex_bipush (pc := 27) 9 dX11_wearsOf_27 (by decide) ?_
    obtain ⟨q7, eq7, h⟩ := ob_some h
    refine ex_callV4r (pc := 29) dX11_wearsOf_29 jX11_says lmX11_319 jiX11_says jvX11_says (o_X11_says eq7) rfl (Nat.le_of_ble_eq_true rfl) (s_X11_says (by omega)  eq7) ?_
    cases h
    exact ex_ireturn (pc := 32) dX11_wearsOf_32
noncomputable def f_X11_wearsOf (x0 : Nat) (x1 : Int32) (M : Mem) : Option (Int32 × Mem) := if isOb M 11 x0 = true then f_X11_wearsOf_0 x0 x1 M else none
theorem o_X11_wearsOf {x0 : Nat} {x1 : Int32} {M : Mem} {res : Int32 × Mem} (h : f_X11_wearsOf x0 x1 M = some res) : isO M 11 x0 := by
  unfold f_X11_wearsOf at h
  split at h
  · rename_i hc; exact isOb_iff hc
  · cases h
set_option maxHeartbeats 4000000 in
theorem s_X11_wearsOf {X : XV} {d : Nat} (hd : 5 ≤ d) {x0 : Nat} {x1 : Int32} {M : Mem} {res : Int32 × Mem} (h : f_X11_wearsOf x0 x1 M = some res) : Mx X d mX11_wearsOf [.ref x0, .int x1] M (some (.int res.1)) res.2 := by
  obtain ⟨d, rfl⟩ : ∃ e, d = e + 1 := ⟨d - 1, by omega⟩
  unfold f_X11_wearsOf at h
  split at h
  rotate_left
  · cases h
  refine Mx.of (by decide) (Nat.le_of_ble_eq_true rfl) (⟨_, rfl, rfl⟩) ?_
  exact ex_sub (lo' := [(0, .ref x0), (1, .int x1)]) [0, 1] rfl (t_X11_wearsOf_0 hd _ _ _ _  h)
noncomputable def f_X11_write_71 (x0 : Nat) (x1 : Int32) (x2 : Int32) (x3 : Int32) (M : Mem) : Option (Mem) :=
  (gR M 11 x0 0).bind fun v1 =>
  (gR M 11 x0 0).bind fun v2 =>
  (rI M v2 10).bind fun v3 =>
  (gR M 11 x0 0).bind fun v4 =>
  (rI M v4 8).bind fun v5 =>
  (wI M v1 (4547 + (2 * v3)) ((v5 * 8) + x1)).bind fun q6 =>
  (gR q6 11 x0 0).bind fun v7 =>
  (gR q6 11 x0 0).bind fun v8 =>
  (rI q6 v8 10).bind fun v9 =>
  (wI q6 v7 ((4547 + (2 * v9)) + 1) ((x2 * 10000) + x3)).bind fun q10 =>
  (gR q10 11 x0 0).bind fun v11 =>
  (rI q10 v11 10).bind fun v12 =>
  (wI q10 v11 10 (v12 + 1)).bind fun q13 =>
  some q13
set_option maxHeartbeats 4000000 in
theorem t_X11_write_71 {X : XV} {d : Nat} (hd : 1 ≤ d + 1) : ∀ (x0 : Nat) (x1 : Int32) (x2 : Int32) (x3 : Int32) (M : Mem) (res : Mem), f_X11_write_71  x0 x1 x2 x3 M = some res → Ex X (d + 1) mX11_write 71 [(0, .ref x0), (1, .int x1), (2, .int x2), (3, .int x3)] [] M none res := by
  intro x0 x1 x2 x3 M res  h
  unfold f_X11_write_71 at h
  refine ex_aload_n (pc := 71) 0 dX11_write_71 rfl rfl ?_
  obtain ⟨v1, ev1, h⟩ := ob_some h
  refine ex_gR (pc := 72) ev1 dX11_write_72 lfX11_7 ?_
  refine ex_sipush (pc := 75) 4547 dX11_write_75 (by decide) ?_
  refine ex_iconst (pc := 78) 2 dX11_write_78 rfl ?_
  refine ex_aload_n (pc := 79) 0 dX11_write_79 rfl rfl ?_
  obtain ⟨v2, ev2, h⟩ := ob_some h
  refine ex_gR (pc := 80) ev2 dX11_write_80 lfX11_7 ?_
  refine ex_bipush (pc := 83) 10 dX11_write_83 (by decide) ?_
  obtain ⟨v3, ev3, h⟩ := ob_some h
  refine ex_rI (pc := 85) ev3 dX11_write_85 ?_
  refine ex_imul (pc := 86) dX11_write_86 ?_
  refine ex_iadd (pc := 87) dX11_write_87 ?_
  refine ex_aload_n (pc := 88) 0 dX11_write_88 rfl rfl ?_
  obtain ⟨v4, ev4, h⟩ := ob_some h
  refine ex_gR (pc := 89) ev4 dX11_write_89 lfX11_7 ?_
  refine ex_bipush (pc := 92) 8 dX11_write_92 (by decide) ?_
  obtain ⟨v5, ev5, h⟩ := ob_some h
  refine ex_rI (pc := 94) ev5 dX11_write_94 ?_
  refine ex_bipush (pc := 95) 8 dX11_write_95 (by decide) ?_
  refine ex_imul (pc := 97) dX11_write_97 ?_
  refine ex_iload_n (pc := 98) 1 dX11_write_98 rfl rfl ?_
  refine ex_iadd (pc := 99) dX11_write_99 ?_
  obtain ⟨q6, eq6, h⟩ := ob_some h
  refine ex_wI (pc := 100) eq6 dX11_write_100 ?_
  refine ex_aload_n (pc := 101) 0 dX11_write_101 rfl rfl ?_
  obtain ⟨v7, ev7, h⟩ := ob_some h
  refine ex_gR (pc := 102) ev7 dX11_write_102 lfX11_7 ?_
  refine ex_sipush (pc := 105) 4547 dX11_write_105 (by decide) ?_
  refine ex_iconst (pc := 108) 2 dX11_write_108 rfl ?_
  refine ex_aload_n (pc := 109) 0 dX11_write_109 rfl rfl ?_
  obtain ⟨v8, ev8, h⟩ := ob_some h
  refine ex_gR (pc := 110) ev8 dX11_write_110 lfX11_7 ?_
  refine ex_bipush (pc := 113) 10 dX11_write_113 (by decide) ?_
  obtain ⟨v9, ev9, h⟩ := ob_some h
  refine ex_rI (pc := 115) ev9 dX11_write_115 ?_
  refine ex_imul (pc := 116) dX11_write_116 ?_
  refine ex_iadd (pc := 117) dX11_write_117 ?_
  refine ex_iconst (pc := 118) 1 dX11_write_118 rfl ?_
  refine ex_iadd (pc := 119) dX11_write_119 ?_
  refine ex_iload_n (pc := 120) 2 dX11_write_120 rfl rfl ?_
  refine ex_sipush (pc := 121) 10000 dX11_write_121 (by decide) ?_
  refine ex_imul (pc := 124) dX11_write_124 ?_
  refine ex_iload_n (pc := 125) 3 dX11_write_125 rfl rfl ?_
  refine ex_iadd (pc := 126) dX11_write_126 ?_
  obtain ⟨q10, eq10, h⟩ := ob_some h
  refine ex_wI (pc := 127) eq10 dX11_write_127 ?_
  refine ex_aload_n (pc := 128) 0 dX11_write_128 rfl rfl ?_
  obtain ⟨v11, ev11, h⟩ := ob_some h
  refine ex_gR (pc := 129) ev11 dX11_write_129 lfX11_7 ?_
  refine ex_bipush (pc := 132) 10 dX11_write_132 (by decide) ?_
  refine ex_dup2 (pc := 134) dX11_write_134 rfl rfl ?_
  obtain ⟨v12, ev12, h⟩ := ob_some h
  refine ex_rI (pc := 135) ev12 dX11_write_135 ?_
  refine ex_iconst (pc := 136) 1 dX11_write_136 rfl ?_
  refine ex_iadd (pc := 137) dX11_write_137 ?_
  obtain ⟨q13, eq13, h⟩ := ob_some h
  refine ex_wI (pc := 138) eq13 dX11_write_138 ?_
  cases h
  exact ex_return (pc := 139) dX11_write_139
noncomputable def f_X11_write_23 (n0 : Nat) (x0 : Nat) (x1 : Int32) (x2 : Int32) (x3 : Int32) (x4 : Int32) (M : Mem) : Option (Mem) :=
  match n0 with
  | 0 => none
  | n + 1 =>
    if 60 ≤ x4 then
    ((gR M 11 x0 0).bind fun v15 =>
    (rI M v15 10).bind fun v16 =>
    (wI M v15 10 (v16 - 1)).bind fun q17 =>
    f_X11_write_71 x0 x1 x2 x3 q17)
    else
    ((gR M 11 x0 0).bind fun v18 =>
    (gR M 11 x0 0).bind fun v19 =>
    (rI M v19 (4547 + x4)).bind fun v20 =>
    (wI M v18 ((4547 + x4) - 2) v20).bind fun q21 =>
    f_X11_write_23 n x0 x1 x2 x3 (x4 + 1) q21)
set_option maxHeartbeats 4000000 in
theorem t_X11_write_23 {X : XV} {d : Nat} (hd : 1 ≤ d + 1) : ∀ (n : Nat) (x0 : Nat) (x1 : Int32) (x2 : Int32) (x3 : Int32) (x4 : Int32) (M : Mem) (res : Mem), f_X11_write_23 n  x0 x1 x2 x3 x4 M = some res → Ex X (d + 1) mX11_write 23 [(0, .ref x0), (1, .int x1), (2, .int x2), (3, .int x3), (4, .int x4)] [] M none res := by
  intro n
  induction n with
  | zero =>
    intro x0 x1 x2 x3 x4 M res  h
    unfold f_X11_write_23 at h
    cases h
  | succ n ih =>
    intro x0 x1 x2 x3 x4 M res  h
    unfold f_X11_write_23 at h
    refine ex_iload (pc := 23) 4 dX11_write_23 rfl ?_
    refine ex_bipush (pc := 25) 60 dX11_write_25 (by decide) ?_
    by_cases c14 : 60 ≤ x4
    · rw [if_pos c14] at h
      refine ex_icmp_ge_t (pc := 27) 60 dX11_write_27 rfl c14 ?_
      refine ex_aload_n (pc := 60) 0 dX11_write_60 rfl rfl ?_
      obtain ⟨v15, ev15, h⟩ := ob_some h
      refine ex_gR (pc := 61) ev15 dX11_write_61 lfX11_7 ?_
      refine ex_bipush (pc := 64) 10 dX11_write_64 (by decide) ?_
      refine ex_dup2 (pc := 66) dX11_write_66 rfl rfl ?_
      obtain ⟨v16, ev16, h⟩ := ob_some h
      refine ex_rI (pc := 67) ev16 dX11_write_67 ?_
      refine ex_iconst (pc := 68) 1 dX11_write_68 rfl ?_
      refine ex_isub (pc := 69) dX11_write_69 ?_
      obtain ⟨q17, eq17, h⟩ := ob_some h
      refine ex_wI (pc := 70) eq17 dX11_write_70 ?_
      refine ex_sub (lo' := [(0, .ref x0), (1, .int x1), (2, .int x2), (3, .int x3)]) [0, 1, 2, 3] rfl ?_
      exact t_X11_write_71 hd  _ _ _ _ _ _  h
    · rw [if_neg c14] at h
      refine ex_icmp_ge_f (pc := 27) dX11_write_27 60 rfl c14 ?_
      refine ex_aload_n (pc := 30) 0 dX11_write_30 rfl rfl ?_
      obtain ⟨v18, ev18, h⟩ := ob_some h
      refine ex_gR (pc := 31) ev18 dX11_write_31 lfX11_7 ?_
      refine ex_sipush (pc := 34) 4547 dX11_write_34 (by decide) ?_
      refine ex_iload (pc := 37) 4 dX11_write_37 rfl ?_
      refine ex_iadd (pc := 39) dX11_write_39 ?_
      refine ex_iconst (pc := 40) 2 dX11_write_40 rfl ?_
      refine ex_isub (pc := 41) dX11_write_41 ?_
      refine ex_aload_n (pc := 42) 0 dX11_write_42 rfl rfl ?_
      obtain ⟨v19, ev19, h⟩ := ob_some h
      refine ex_gR (pc := 43) ev19 dX11_write_43 lfX11_7 ?_
      refine ex_sipush (pc := 46) 4547 dX11_write_46 (by decide) ?_
      refine ex_iload (pc := 49) 4 dX11_write_49 rfl ?_
      refine ex_iadd (pc := 51) dX11_write_51 ?_
      obtain ⟨v20, ev20, h⟩ := ob_some h
      refine ex_rI (pc := 52) ev20 dX11_write_52 ?_
      obtain ⟨q21, eq21, h⟩ := ob_some h
      refine ex_wI (pc := 53) eq21 dX11_write_53 ?_
      refine ex_iinc (pc := 54) (x4 + 1) 4 [(4, .int (x4 + 1)), (0, .ref x0), (1, .int x1), (2, .int x2), (3, .int x3)] dX11_write_54 rfl rfl (by decide) rfl ?_
      refine ex_goto (pc := 57) 23 dX11_write_57 rfl ?_
      refine ex_sub (lo' := [(0, .ref x0), (1, .int x1), (2, .int x2), (3, .int x3), (4, .int (x4 + 1))]) [1, 2, 3, 4, 0] rfl ?_
      exact ih _ _ _ _ _ _ _  h
noncomputable def f_X11_write_0 (x0 : Nat) (x1 : Int32) (x2 : Int32) (x3 : Int32) (M : Mem) : Option (Mem) :=
  (gZ M 11 x0 23).bind fun v22 =>
  if v22 = true then
  ((gR M 11 x0 0).bind fun v24 =>
  (rI M v24 10).bind fun v25 =>
  if v25 = 30 then
  (f_X11_write_23 fu x0 x1 x2 x3 2 M)
  else
  (f_X11_write_71 x0 x1 x2 x3 M))
  else
  (some M)
set_option maxHeartbeats 4000000 in
theorem t_X11_write_0 {X : XV} {d : Nat} (hd : 1 ≤ d + 1) : ∀ (x0 : Nat) (x1 : Int32) (x2 : Int32) (x3 : Int32) (M : Mem) (res : Mem), f_X11_write_0  x0 x1 x2 x3 M = some res → Ex X (d + 1) mX11_write 0 [(0, .ref x0), (1, .int x1), (2, .int x2), (3, .int x3)] [] M none res := by
  intro x0 x1 x2 x3 M res  h
  unfold f_X11_write_0 at h
  refine ex_aload_n (pc := 0) 0 dX11_write_0 rfl rfl ?_
  obtain ⟨v22, ev22, h⟩ := ob_some h
  refine ex_gZ (pc := 1) ev22 dX11_write_1 lfX11_43 ?_
  by_cases c23 : v22 = true
  · rw [if_pos c23] at h
    refine ex_if_ne_t (pc := 4) 8 dX11_write_4 rfl (jz_ne_t c23) ?_
    refine ex_aload_n (pc := 8) 0 dX11_write_8 rfl rfl ?_
    obtain ⟨v24, ev24, h⟩ := ob_some h
    refine ex_gR (pc := 9) ev24 dX11_write_9 lfX11_7 ?_
    refine ex_bipush (pc := 12) 10 dX11_write_12 (by decide) ?_
    obtain ⟨v25, ev25, h⟩ := ob_some h
    refine ex_rI (pc := 14) ev25 dX11_write_14 ?_
    refine ex_bipush (pc := 15) 30 dX11_write_15 (by decide) ?_
    by_cases c26 : v25 = 30
    · rw [if_pos c26] at h
      refine ex_icmp_ne_f (pc := 17) dX11_write_17 71 rfl c26 ?_
      refine ex_iconst (pc := 20) 2 dX11_write_20 rfl ?_
      refine ex_istore (pc := 21) [(4, .int 2), (0, .ref x0), (1, .int x1), (2, .int x2), (3, .int x3)] dX11_write_21 (by decide) rfl ?_
      refine ex_sub (lo' := [(0, .ref x0), (1, .int x1), (2, .int x2), (3, .int x3), (4, .int 2)]) [1, 2, 3, 4, 0] rfl ?_
      exact t_X11_write_23 hd  _ _ _ _ _ _ _ _  h
    · rw [if_neg c26] at h
      refine ex_icmp_ne_t (pc := 17) 71 dX11_write_17 rfl c26 ?_
      refine ex_sub (lo' := [(0, .ref x0), (1, .int x1), (2, .int x2), (3, .int x3)]) [0, 1, 2, 3] rfl ?_
      exact t_X11_write_71 hd  _ _ _ _ _ _  h
  · rw [if_neg c23] at h
    refine ex_if_ne_f (pc := 4) dX11_write_4 8 rfl (jz_ne_f c23) ?_
    cases h
    exact ex_return (pc := 7) dX11_write_7
noncomputable def f_X11_write (x0 : Nat) (x1 : Int32) (x2 : Int32) (x3 : Int32) (M : Mem) : Option (Mem) := if isOb M 11 x0 = true then f_X11_write_0 x0 x1 x2 x3 M else none
theorem o_X11_write {x0 : Nat} {x1 : Int32} {x2 : Int32} {x3 : Int32} {M : Mem} {res : Mem} (h : f_X11_write x0 x1 x2 x3 M = some res) : isO M 11 x0 := by
  unfold f_X11_write at h
  split at h
  · rename_i hc; exact isOb_iff hc
  · cases h
set_option maxHeartbeats 4000000 in
theorem s_X11_write {X : XV} {d : Nat} (hd : 1 ≤ d) {x0 : Nat} {x1 : Int32} {x2 : Int32} {x3 : Int32} {M : Mem} {res : Mem} (h : f_X11_write x0 x1 x2 x3 M = some res) : Mx X d mX11_write [.ref x0, .int x1, .int x2, .int x3] M none res := by
  obtain ⟨d, rfl⟩ : ∃ e, d = e + 1 := ⟨d - 1, by omega⟩
  unfold f_X11_write at h
  split at h
  rotate_left
  · cases h
  refine Mx.of (by decide) (Nat.le_of_ble_eq_true rfl) (rfl) ?_
  exact ex_sub (lo' := [(0, .ref x0), (1, .int x1), (2, .int x2), (3, .int x3)]) [0, 1, 2, 3] rfl (t_X11_write_0 hd _ _ _ _ _ _  h)
noncomputable def f_X11_anew_0 (x0 : Nat) (M : Mem) : Option (Mem) :=
  (gR M 11 x0 0).bind fun v1 =>
  (gR M 11 x0 0).bind fun v2 =>
  (rI M v2 9).bind fun v3 =>
  (wI M v1 9 (Int64.toInt32 (jremL (((Int32.toInt64 v3) * 433) + 313) 30557))).bind fun q4 =>
  some q4
set_option maxHeartbeats 4000000 in
theorem t_X11_anew_0 {X : XV} {d : Nat} (hd : 1 ≤ d + 1) : ∀ (x0 : Nat) (M : Mem) (res : Mem), f_X11_anew_0  x0 M = some res → Ex X (d + 1) mX11_anew 0 [(0, .ref x0)] [] M none res := by
  intro x0 M res  h
  unfold f_X11_anew_0 at h
  refine ex_aload_n (pc := 0) 0 dX11_anew_0 rfl rfl ?_
  obtain ⟨v1, ev1, h⟩ := ob_some h
  refine ex_gR (pc := 1) ev1 dX11_anew_1 lfX11_7 ?_
  refine ex_bipush (pc := 4) 9 dX11_anew_4 (by decide) ?_
  refine ex_aload_n (pc := 6) 0 dX11_anew_6 rfl rfl ?_
  obtain ⟨v2, ev2, h⟩ := ob_some h
  refine ex_gR (pc := 7) ev2 dX11_anew_7 lfX11_7 ?_
  refine ex_bipush (pc := 10) 9 dX11_anew_10 (by decide) ?_
  obtain ⟨v3, ev3, h⟩ := ob_some h
  refine ex_rI (pc := 12) ev3 dX11_anew_12 ?_
  refine ex_i2l (pc := 13) dX11_anew_13 ?_
  refine ex_ldc2 (pc := 14) dX11_anew_14 lkX11_326 ?_
  refine ex_lmul (pc := 17) dX11_anew_17 ?_
  refine ex_ldc2 (pc := 18) dX11_anew_18 lkX11_328 ?_
  refine ex_ladd (pc := 21) dX11_anew_21 ?_
  refine ex_ldc2 (pc := 22) dX11_anew_22 lkX11_330 ?_
  refine ex_lrem (pc := 25) dX11_anew_25 (by decide) ?_
  refine ex_l2i (pc := 26) dX11_anew_26 ?_
  obtain ⟨q4, eq4, h⟩ := ob_some h
  refine ex_wI (pc := 27) eq4 dX11_anew_27 ?_
  cases h
  exact ex_return (pc := 28) dX11_anew_28
noncomputable def f_X11_anew (x0 : Nat) (M : Mem) : Option (Mem) := if isOb M 11 x0 = true then f_X11_anew_0 x0 M else none
theorem o_X11_anew {x0 : Nat} {M : Mem} {res : Mem} (h : f_X11_anew x0 M = some res) : isO M 11 x0 := by
  unfold f_X11_anew at h
  split at h
  · rename_i hc; exact isOb_iff hc
  · cases h
set_option maxHeartbeats 4000000 in
theorem s_X11_anew {X : XV} {d : Nat} (hd : 1 ≤ d) {x0 : Nat} {M : Mem} {res : Mem} (h : f_X11_anew x0 M = some res) : Mx X d mX11_anew [.ref x0] M none res := by
  obtain ⟨d, rfl⟩ : ∃ e, d = e + 1 := ⟨d - 1, by omega⟩
  unfold f_X11_anew at h
  split at h
  rotate_left
  · cases h
  refine Mx.of (by decide) (Nat.le_of_ble_eq_true rfl) (rfl) ?_
  exact ex_sub (lo' := [(0, .ref x0)]) [0] rfl (t_X11_anew_0 hd _ _ _  h)
noncomputable def f_X11_drawn_0 (x0 : Nat) (M : Mem) : Option (Int32 × Mem) :=
  (gR M 11 x0 0).bind fun v1 =>
  (rI M v1 9).bind fun v2 =>
  (f_X11_anew x0 M).bind fun q3 =>
  some ((jrem v2 10), q3)
set_option maxHeartbeats 4000000 in
theorem t_X11_drawn_0 {X : XV} {d : Nat} (hd : 2 ≤ d + 1) : ∀ (x0 : Nat) (M : Mem) (res : Int32 × Mem), f_X11_drawn_0  x0 M = some res → Ex X (d + 1) mX11_drawn 0 [(0, .ref x0)] [] M (some (.int res.1)) res.2 := by
  intro x0 M res  h
  unfold f_X11_drawn_0 at h
  refine ex_aload_n (pc := 0) 0 dX11_drawn_0 rfl rfl ?_
  obtain ⟨v1, ev1, h⟩ := ob_some h
  refine ex_gR (pc := 1) ev1 dX11_drawn_1 lfX11_7 ?_
  refine ex_bipush (pc := 4) 9 dX11_drawn_4 (by decide) ?_
  obtain ⟨v2, ev2, h⟩ := ob_some h
  refine ex_rI (pc := 6) ev2 dX11_drawn_6 ?_
  refine ex_bipush (pc := 7) 10 dX11_drawn_7 (by decide) ?_
  refine ex_irem (pc := 9) dX11_drawn_9 (by decide) ?_
  refine ex_istore_n (pc := 10) [(1, .int (jrem v2 10)), (0, .ref x0)] dX11_drawn_10 rfl (by decide) rfl ?_
  refine ex_aload_n (pc := 11) 1 dX11_drawn_11 rfl rfl ?_
  obtain ⟨q3, eq3, h⟩ := ob_some h
  refine ex_callV0v (pc := 12) dX11_drawn_12 jX11_anew lmX11_323 jiX11_anew jvX11_anew (o_X11_anew eq3) rfl (Nat.le_of_ble_eq_true rfl) (s_X11_anew (by omega)  eq3) ?_
  refine ex_iload_n (pc := 15) 0 dX11_drawn_15 rfl rfl ?_
  cases h
  exact ex_ireturn (pc := 16) dX11_drawn_16
noncomputable def f_X11_drawn (x0 : Nat) (M : Mem) : Option (Int32 × Mem) := if isOb M 11 x0 = true then f_X11_drawn_0 x0 M else none
theorem o_X11_drawn {x0 : Nat} {M : Mem} {res : Int32 × Mem} (h : f_X11_drawn x0 M = some res) : isO M 11 x0 := by
  unfold f_X11_drawn at h
  split at h
  · rename_i hc; exact isOb_iff hc
  · cases h
set_option maxHeartbeats 4000000 in
theorem s_X11_drawn {X : XV} {d : Nat} (hd : 2 ≤ d) {x0 : Nat} {M : Mem} {res : Int32 × Mem} (h : f_X11_drawn x0 M = some res) : Mx X d mX11_drawn [.ref x0] M (some (.int res.1)) res.2 := by
  obtain ⟨d, rfl⟩ : ∃ e, d = e + 1 := ⟨d - 1, by omega⟩
  unfold f_X11_drawn at h
  split at h
  rotate_left
  · cases h
  refine Mx.of (by decide) (Nat.le_of_ble_eq_true rfl) (⟨_, rfl, rfl⟩) ?_
  exact ex_sub (lo' := [(0, .ref x0)]) [0] rfl (t_X11_drawn_0 hd _ _ _  h)
noncomputable def f_X11_roll_2 (n0 : Nat) (x0 : Nat) (x1 : Int32) (x2 : Int32) (x3 : Int32) (M : Mem) : Option (Mem) :=
  match n0 with
  | 0 => none
  | n + 1 =>
    (f_X11_wordLong x2).bind fun v1 =>
    if v1 ≤ x3 then
    (some M)
    else
    ((f_X11_get x0 x1 3 M).bind fun v3 =>
    if v3 = 12 then
    (some M)
    else
    ((f_X11_get x0 x1 3 M).bind fun v5 =>
    (f_X11_wordDigit x2 x3).bind fun v6 =>
    (f_X11_lay x0 x1 (4 + v5) v6 M).bind fun q7 =>
    (f_X11_get x0 x1 3 q7).bind fun v8 =>
    (f_X11_lay x0 x1 3 (v8 + 1) q7).bind fun q9 =>
    f_X11_roll_2 n x0 x1 x2 (x3 + 1) q9))
set_option maxHeartbeats 4000000 in
theorem t_X11_roll_2 {X : XV} {d : Nat} (hd : 2 ≤ d + 1) : ∀ (n : Nat) (x0 : Nat) (x1 : Int32) (x2 : Int32) (x3 : Int32) (M : Mem) (res : Mem), f_X11_roll_2 n  x0 x1 x2 x3 M = some res → Ex X (d + 1) mX11_roll 2 [(0, .ref x0), (1, .int x1), (2, .int x2), (3, .int x3)] [] M none res := by
  intro n
  induction n with
  | zero =>
    intro x0 x1 x2 x3 M res  h
    unfold f_X11_roll_2 at h
    cases h
  | succ n ih =>
    intro x0 x1 x2 x3 M res  h
    unfold f_X11_roll_2 at h
    refine ex_iload_n (pc := 2) 3 dX11_roll_2 rfl rfl ?_
    refine ex_iload_n (pc := 3) 2 dX11_roll_3 rfl rfl ?_
    obtain ⟨v1, ev1, h⟩ := ob_some h
    refine ex_callS1r (pc := 4) dX11_roll_4 jX11_wordLong lmX11_332 jsX11_wordLong (Nat.le_of_ble_eq_true rfl) (s_X11_wordLong (by omega)  ev1) ?_
    by_cases c2 : v1 ≤ x3
    · rw [if_pos c2] at h
      refine ex_icmp_ge_t (pc := 7) 60 dX11_roll_7 rfl c2 ?_
      cases h
      exact ex_return (pc := 60) dX11_roll_60
    · rw [if_neg c2] at h
      refine ex_icmp_ge_f (pc := 7) dX11_roll_7 60 rfl c2 ?_
      refine ex_aload_n (pc := 10) 0 dX11_roll_10 rfl rfl ?_
      refine ex_iload_n (pc := 11) 1 dX11_roll_11 rfl rfl ?_
      refine ex_iconst (pc := 12) 3 dX11_roll_12 rfl ?_
      obtain ⟨v3, ev3, h⟩ := ob_some h
      refine ex_callV2r (pc := 13) dX11_roll_13 jX11_get lmX11_107 jiX11_get jvX11_get (o_X11_get ev3) rfl (Nat.le_of_ble_eq_true rfl) (s_X11_get (by omega)  ev3) ?_
      refine ex_bipush (pc := 16) 12 dX11_roll_16 (by decide) ?_
      by_cases c4 : v3 = 12
      · rw [if_pos c4] at h
        refine ex_icmp_ne_f (pc := 18) dX11_roll_18 22 rfl c4 ?_
        cases h
        exact ex_return (pc := 21) dX11_roll_21
      · rw [if_neg c4] at h
        refine ex_icmp_ne_t (pc := 18) 22 dX11_roll_18 rfl c4 ?_
        refine ex_aload_n (pc := 22) 0 dX11_roll_22 rfl rfl ?_
        refine ex_iload_n (pc := 23) 1 dX11_roll_23 rfl rfl ?_
        refine ex_iconst (pc := 24) 4 dX11_roll_24 rfl ?_
        refine ex_aload_n (pc := 25) 0 dX11_roll_25 rfl rfl ?_
        refine ex_iload_n (pc := 26) 1 dX11_roll_26 rfl rfl ?_
        refine ex_iconst (pc := 27) 3 dX11_roll_27 rfl ?_
        obtain ⟨v5, ev5, h⟩ := ob_some h
        refine ex_callV2r (pc := 28) dX11_roll_28 jX11_get lmX11_107 jiX11_get jvX11_get (o_X11_get ev5) rfl (Nat.le_of_ble_eq_true rfl) (s_X11_get (by omega)  ev5) ?_
        refine ex_iadd (pc := 31) dX11_roll_31 ?_
        refine ex_iload_n (pc := 32) 2 dX11_roll_32 rfl rfl ?_
        refine ex_iload_n (pc := 33) 3 dX11_roll_33 rfl rfl ?_
        obtain ⟨v6, ev6, h⟩ := ob_some h
        refine ex_callS2r (pc := 34) dX11_roll_34 jX11_wordDigit lmX11_335 jsX11_wordDigit (Nat.le_of_ble_eq_true rfl) (s_X11_wordDigit (by omega)  ev6) ?_
        obtain ⟨q7, eq7, h⟩ := ob_some h
        refine ex_callV3v (pc := 37) dX11_roll_37 jX11_lay lmX11_99 jiX11_lay jvX11_lay (o_X11_lay eq7) rfl (Nat.le_of_ble_eq_true rfl) (s_X11_lay (by omega)  eq7) ?_
        refine ex_aload_n (pc := 40) 0 dX11_roll_40 rfl rfl ?_
        refine ex_iload_n (pc := 41) 1 dX11_roll_41 rfl rfl ?_
        refine ex_iconst (pc := 42) 3 dX11_roll_42 rfl ?_
        refine ex_aload_n (pc := 43) 0 dX11_roll_43 rfl rfl ?_
        refine ex_iload_n (pc := 44) 1 dX11_roll_44 rfl rfl ?_
        refine ex_iconst (pc := 45) 3 dX11_roll_45 rfl ?_
        obtain ⟨v8, ev8, h⟩ := ob_some h
        refine ex_callV2r (pc := 46) dX11_roll_46 jX11_get lmX11_107 jiX11_get jvX11_get (o_X11_get ev8) rfl (Nat.le_of_ble_eq_true rfl) (s_X11_get (by omega)  ev8) ?_
        refine ex_iconst (pc := 49) 1 dX11_roll_49 rfl ?_
        refine ex_iadd (pc := 50) dX11_roll_50 ?_
        obtain ⟨q9, eq9, h⟩ := ob_some h
        refine ex_callV3v (pc := 51) dX11_roll_51 jX11_lay lmX11_99 jiX11_lay jvX11_lay (o_X11_lay eq9) rfl (Nat.le_of_ble_eq_true rfl) (s_X11_lay (by omega)  eq9) ?_
        refine ex_iinc (pc := 54) (x3 + 1) 3 [(3, .int (x3 + 1)), (0, .ref x0), (1, .int x1), (2, .int x2)] dX11_roll_54 rfl rfl (by decide) rfl ?_
        refine ex_goto (pc := 57) 2 dX11_roll_57 rfl ?_
        refine ex_sub (lo' := [(0, .ref x0), (1, .int x1), (2, .int x2), (3, .int (x3 + 1))]) [1, 2, 3, 0] rfl ?_
        exact ih _ _ _ _ _ _  h
noncomputable def f_X11_roll_0 (x0 : Nat) (x1 : Int32) (x2 : Int32) (M : Mem) : Option (Mem) :=
  f_X11_roll_2 fu x0 x1 x2 0 M
set_option maxHeartbeats 4000000 in
theorem t_X11_roll_0 {X : XV} {d : Nat} (hd : 2 ≤ d + 1) : ∀ (x0 : Nat) (x1 : Int32) (x2 : Int32) (M : Mem) (res : Mem), f_X11_roll_0  x0 x1 x2 M = some res → Ex X (d + 1) mX11_roll 0 [(0, .ref x0), (1, .int x1), (2, .int x2)] [] M none res := by
  intro x0 x1 x2 M res  h
  unfold f_X11_roll_0 at h
  refine ex_iconst (pc := 0) 0 dX11_roll_0 rfl ?_
  refine ex_istore_n (pc := 1) [(3, .int 0), (0, .ref x0), (1, .int x1), (2, .int x2)] dX11_roll_1 rfl (by decide) rfl ?_
  refine ex_sub (lo' := [(0, .ref x0), (1, .int x1), (2, .int x2), (3, .int 0)]) [1, 2, 3, 0] rfl ?_
  exact t_X11_roll_2 hd  _ _ _ _ _ _ _  h
noncomputable def f_X11_roll (x0 : Nat) (x1 : Int32) (x2 : Int32) (M : Mem) : Option (Mem) := if isOb M 11 x0 = true then f_X11_roll_0 x0 x1 x2 M else none
theorem o_X11_roll {x0 : Nat} {x1 : Int32} {x2 : Int32} {M : Mem} {res : Mem} (h : f_X11_roll x0 x1 x2 M = some res) : isO M 11 x0 := by
  unfold f_X11_roll at h
  split at h
  · rename_i hc; exact isOb_iff hc
  · cases h
set_option maxHeartbeats 4000000 in
theorem s_X11_roll {X : XV} {d : Nat} (hd : 2 ≤ d) {x0 : Nat} {x1 : Int32} {x2 : Int32} {M : Mem} {res : Mem} (h : f_X11_roll x0 x1 x2 M = some res) : Mx X d mX11_roll [.ref x0, .int x1, .int x2] M none res := by
  obtain ⟨d, rfl⟩ : ∃ e, d = e + 1 := ⟨d - 1, by omega⟩
  unfold f_X11_roll at h
  split at h
  rotate_left
  · cases h
  refine Mx.of (by decide) (Nat.le_of_ble_eq_true rfl) (rfl) ?_
  exact ex_sub (lo' := [(0, .ref x0), (1, .int x1), (2, .int x2)]) [0, 1, 2] rfl (t_X11_roll_0 hd _ _ _ _ _  h)
noncomputable def f_X11_numberOfRoll_25 (n0 : Nat) (x0 : Nat) (x1 : Int32) (x2 : Int32) (x3 : Int32) (M : Mem) : Option (Int32) :=
  match n0 with
  | 0 => none
  | n + 1 =>
    (f_X11_get x0 x1 3 M).bind fun v1 =>
    if v1 ≤ x3 then
    (some x2)
    else
    ((f_X11_get x0 x1 (4 + x3) M).bind fun v3 =>
    f_X11_numberOfRoll_25 n x0 x1 ((10 * x2) + v3) (x3 + 1) M)
set_option maxHeartbeats 4000000 in
theorem t_X11_numberOfRoll_25 {X : XV} {d : Nat} (hd : 2 ≤ d + 1) : ∀ (n : Nat) (x0 : Nat) (x1 : Int32) (x2 : Int32) (x3 : Int32) (M : Mem) (res : Int32), f_X11_numberOfRoll_25 n  x0 x1 x2 x3 M = some res → Ex X (d + 1) mX11_numberOfRoll 25 [(0, .ref x0), (1, .int x1), (2, .int x2), (3, .int x3)] [] M (some (.int res)) M := by
  intro n
  induction n with
  | zero =>
    intro x0 x1 x2 x3 M res  h
    unfold f_X11_numberOfRoll_25 at h
    cases h
  | succ n ih =>
    intro x0 x1 x2 x3 M res  h
    unfold f_X11_numberOfRoll_25 at h
    refine ex_iload_n (pc := 25) 3 dX11_numberOfRoll_25 rfl rfl ?_
    refine ex_aload_n (pc := 26) 0 dX11_numberOfRoll_26 rfl rfl ?_
    refine ex_iload_n (pc := 27) 1 dX11_numberOfRoll_27 rfl rfl ?_
    refine ex_iconst (pc := 28) 3 dX11_numberOfRoll_28 rfl ?_
    obtain ⟨v1, ev1, h⟩ := ob_some h
    refine ex_callV2r (pc := 29) dX11_numberOfRoll_29 jX11_get lmX11_107 jiX11_get jvX11_get (o_X11_get ev1) rfl (Nat.le_of_ble_eq_true rfl) (s_X11_get (by omega)  ev1) ?_
    by_cases c2 : v1 ≤ x3
    · rw [if_pos c2] at h
      refine ex_icmp_ge_t (pc := 32) 55 dX11_numberOfRoll_32 rfl c2 ?_
      refine ex_iload_n (pc := 55) 2 dX11_numberOfRoll_55 rfl rfl ?_
      cases h
      exact ex_ireturn (pc := 56) dX11_numberOfRoll_56
    · rw [if_neg c2] at h
      refine ex_icmp_ge_f (pc := 32) dX11_numberOfRoll_32 55 rfl c2 ?_
      refine ex_bipush (pc := 35) 10 dX11_numberOfRoll_35 (by decide) ?_
      refine ex_iload_n (pc := 37) 2 dX11_numberOfRoll_37 rfl rfl ?_
      refine ex_imul (pc := 38) dX11_numberOfRoll_38 ?_
      refine ex_aload_n (pc := 39) 0 dX11_numberOfRoll_39 rfl rfl ?_
      refine ex_iload_n (pc := 40) 1 dX11_numberOfRoll_40 rfl rfl ?_
      refine ex_iconst (pc := 41) 4 dX11_numberOfRoll_41 rfl ?_
      refine ex_iload_n (pc := 42) 3 dX11_numberOfRoll_42 rfl rfl ?_
      refine ex_iadd (pc := 43) dX11_numberOfRoll_43 ?_
      obtain ⟨v3, ev3, h⟩ := ob_some h
      refine ex_callV2r (pc := 44) dX11_numberOfRoll_44 jX11_get lmX11_107 jiX11_get jvX11_get (o_X11_get ev3) rfl (Nat.le_of_ble_eq_true rfl) (s_X11_get (by omega)  ev3) ?_
      refine ex_iadd (pc := 47) dX11_numberOfRoll_47 ?_
      refine ex_istore_n (pc := 48) [(2, .int ((10 * x2) + v3)), (0, .ref x0), (1, .int x1), (3, .int x3)] dX11_numberOfRoll_48 rfl (by decide) rfl ?_
      refine ex_iinc (pc := 49) (x3 + 1) 3 [(3, .int (x3 + 1)), (2, .int ((10 * x2) + v3)), (0, .ref x0), (1, .int x1)] dX11_numberOfRoll_49 rfl rfl (by decide) rfl ?_
      refine ex_goto (pc := 52) 25 dX11_numberOfRoll_52 rfl ?_
      refine ex_sub (lo' := [(0, .ref x0), (1, .int x1), (2, .int ((10 * x2) + v3)), (3, .int (x3 + 1))]) [2, 3, 1, 0] rfl ?_
      exact ih _ _ _ _ _ _  h
noncomputable def f_X11_numberOfRoll_24 (x0 : Nat) (x1 : Int32) (x2 : Bool) (s0 : Int32) (M : Mem) : Option (Int32) :=
  f_X11_numberOfRoll_25 fu x0 x1 (jz x2) s0 M
set_option maxHeartbeats 4000000 in
theorem t_X11_numberOfRoll_24 {X : XV} {d : Nat} (hd : 2 ≤ d + 1) : ∀ (x0 : Nat) (x1 : Int32) (x2 : Bool) (s0 : Int32) (M : Mem) (res : Int32), f_X11_numberOfRoll_24  x0 x1 x2 s0 M = some res → Ex X (d + 1) mX11_numberOfRoll 24 [(0, .ref x0), (1, .int x1), (2, .int (jz x2))] [.int s0] M (some (.int res)) M := by
  intro x0 x1 x2 s0 M res  h
  unfold f_X11_numberOfRoll_24 at h
  refine ex_istore_n (pc := 24) [(3, .int s0), (0, .ref x0), (1, .int x1), (2, .int (jz x2))] dX11_numberOfRoll_24 rfl (by decide) rfl ?_
  refine ex_sub (lo' := [(0, .ref x0), (1, .int x1), (2, .int (jz x2)), (3, .int s0)]) [1, 2, 3, 0] rfl ?_
  exact t_X11_numberOfRoll_25 hd  _ _ _ _ _ _ _  h
noncomputable def f_X11_numberOfRoll_0 (x0 : Nat) (x1 : Int32) (M : Mem) : Option (Int32) :=
  (f_X11_get x0 x1 3 M).bind fun v4 =>
  if v4 ≤ 4 then
  (f_X11_numberOfRoll_24 x0 x1 false 0 M)
  else
  ((f_X11_get x0 x1 3 M).bind fun v6 =>
  f_X11_numberOfRoll_24 x0 x1 false (v6 - 4) M)
set_option maxHeartbeats 4000000 in
theorem t_X11_numberOfRoll_0 {X : XV} {d : Nat} (hd : 2 ≤ d + 1) : ∀ (x0 : Nat) (x1 : Int32) (M : Mem) (res : Int32), f_X11_numberOfRoll_0  x0 x1 M = some res → Ex X (d + 1) mX11_numberOfRoll 0 [(0, .ref x0), (1, .int x1)] [] M (some (.int res)) M := by
  intro x0 x1 M res  h
  unfold f_X11_numberOfRoll_0 at h
  refine ex_iconst (pc := 0) 0 dX11_numberOfRoll_0 rfl ?_
  refine ex_istore_n (pc := 1) [(2, .int 0), (0, .ref x0), (1, .int x1)] dX11_numberOfRoll_1 rfl (by decide) rfl ?_
  refine ex_aload_n (pc := 2) 1 dX11_numberOfRoll_2 rfl rfl ?_
  refine ex_iload_n (pc := 3) 2 dX11_numberOfRoll_3 rfl rfl ?_
  refine ex_iconst (pc := 4) 3 dX11_numberOfRoll_4 rfl ?_
  obtain ⟨v4, ev4, h⟩ := ob_some h
  refine ex_callV2r (pc := 5) dX11_numberOfRoll_5 jX11_get lmX11_107 jiX11_get jvX11_get (o_X11_get ev4) rfl (Nat.le_of_ble_eq_true rfl) (s_X11_get (by omega)  ev4) ?_
  refine ex_iconst (pc := 8) 4 dX11_numberOfRoll_8 rfl ?_
  by_cases c5 : v4 ≤ 4
  · rw [if_pos c5] at h
    refine ex_icmp_le_t (pc := 9) 23 dX11_numberOfRoll_9 rfl c5 ?_
    refine ex_iconst (pc := 23) 0 dX11_numberOfRoll_23 rfl ?_
    refine ex_sub (lo' := [(0, .ref x0), (1, .int x1), (2, .int (jz false))]) [1, 2, 0] rfl ?_
    exact t_X11_numberOfRoll_24 hd  _ _ _ _ _ _  h
  · rw [if_neg c5] at h
    refine ex_icmp_le_f (pc := 9) dX11_numberOfRoll_9 23 rfl c5 ?_
    refine ex_aload_n (pc := 12) 1 dX11_numberOfRoll_12 rfl rfl ?_
    refine ex_iload_n (pc := 13) 2 dX11_numberOfRoll_13 rfl rfl ?_
    refine ex_iconst (pc := 14) 3 dX11_numberOfRoll_14 rfl ?_
    obtain ⟨v6, ev6, h⟩ := ob_some h
    refine ex_callV2r (pc := 15) dX11_numberOfRoll_15 jX11_get lmX11_107 jiX11_get jvX11_get (o_X11_get ev6) rfl (Nat.le_of_ble_eq_true rfl) (s_X11_get (by omega)  ev6) ?_
    refine ex_iconst (pc := 18) 4 dX11_numberOfRoll_18 rfl ?_
    refine ex_isub (pc := 19) dX11_numberOfRoll_19 ?_
    refine ex_goto (pc := 20) 24 dX11_numberOfRoll_20 rfl ?_
    refine ex_sub (lo' := [(0, .ref x0), (1, .int x1), (2, .int (jz false))]) [1, 2, 0] rfl ?_
    exact t_X11_numberOfRoll_24 hd  _ _ _ _ _ _  h
noncomputable def f_X11_numberOfRoll (x0 : Nat) (x1 : Int32) (M : Mem) : Option (Int32) := if isOb M 11 x0 = true then f_X11_numberOfRoll_0 x0 x1 M else none
theorem o_X11_numberOfRoll {x0 : Nat} {x1 : Int32} {M : Mem} {res : Int32} (h : f_X11_numberOfRoll x0 x1 M = some res) : isO M 11 x0 := by
  unfold f_X11_numberOfRoll at h
  split at h
  · rename_i hc; exact isOb_iff hc
  · cases h
set_option maxHeartbeats 4000000 in
theorem s_X11_numberOfRoll {X : XV} {d : Nat} (hd : 2 ≤ d) {x0 : Nat} {x1 : Int32} {M : Mem} {res : Int32} (h : f_X11_numberOfRoll x0 x1 M = some res) : Mx X d mX11_numberOfRoll [.ref x0, .int x1] M (some (.int res)) M := by
  obtain ⟨d, rfl⟩ : ∃ e, d = e + 1 := ⟨d - 1, by omega⟩
  unfold f_X11_numberOfRoll at h
  split at h
  rotate_left
  · cases h
  refine Mx.of (by decide) (Nat.le_of_ble_eq_true rfl) (⟨_, rfl, rfl⟩) ?_
  exact ex_sub (lo' := [(0, .ref x0), (1, .int x1)]) [0, 1] rfl (t_X11_numberOfRoll_0 hd _ _ _ _  h)
noncomputable def f_X11_clearRoll_2 (n0 : Nat) (x0 : Nat) (x1 : Int32) (x2 : Int32) (M : Mem) : Option (Mem) :=
  match n0 with
  | 0 => none
  | n + 1 =>
    if 16 ≤ x2 then
    (some M)
    else
    ((f_X11_lay x0 x1 x2 0 M).bind fun q2 =>
    f_X11_clearRoll_2 n x0 x1 (x2 + 1) q2)
set_option maxHeartbeats 4000000 in
theorem t_X11_clearRoll_2 {X : XV} {d : Nat} (hd : 2 ≤ d + 1) : ∀ (n : Nat) (x0 : Nat) (x1 : Int32) (x2 : Int32) (M : Mem) (res : Mem), f_X11_clearRoll_2 n  x0 x1 x2 M = some res → Ex X (d + 1) mX11_clearRoll 2 [(0, .ref x0), (1, .int x1), (2, .int x2)] [] M none res := by
  intro n
  induction n with
  | zero =>
    intro x0 x1 x2 M res  h
    unfold f_X11_clearRoll_2 at h
    cases h
  | succ n ih =>
    intro x0 x1 x2 M res  h
    unfold f_X11_clearRoll_2 at h
    refine ex_iload_n (pc := 2) 2 dX11_clearRoll_2 rfl rfl ?_
    refine ex_bipush (pc := 3) 16 dX11_clearRoll_3 (by decide) ?_
    by_cases c1 : 16 ≤ x2
    · rw [if_pos c1] at h
      refine ex_icmp_ge_t (pc := 5) 21 dX11_clearRoll_5 rfl c1 ?_
      cases h
      exact ex_return (pc := 21) dX11_clearRoll_21
    · rw [if_neg c1] at h
      refine ex_icmp_ge_f (pc := 5) dX11_clearRoll_5 21 rfl c1 ?_
      refine ex_aload_n (pc := 8) 0 dX11_clearRoll_8 rfl rfl ?_
      refine ex_iload_n (pc := 9) 1 dX11_clearRoll_9 rfl rfl ?_
      refine ex_iload_n (pc := 10) 2 dX11_clearRoll_10 rfl rfl ?_
      refine ex_iconst (pc := 11) 0 dX11_clearRoll_11 rfl ?_
      obtain ⟨q2, eq2, h⟩ := ob_some h
      refine ex_callV3v (pc := 12) dX11_clearRoll_12 jX11_lay lmX11_99 jiX11_lay jvX11_lay (o_X11_lay eq2) rfl (Nat.le_of_ble_eq_true rfl) (s_X11_lay (by omega)  eq2) ?_
      refine ex_iinc (pc := 15) (x2 + 1) 2 [(2, .int (x2 + 1)), (0, .ref x0), (1, .int x1)] dX11_clearRoll_15 rfl rfl (by decide) rfl ?_
      refine ex_goto (pc := 18) 2 dX11_clearRoll_18 rfl ?_
      refine ex_sub (lo' := [(0, .ref x0), (1, .int x1), (2, .int (x2 + 1))]) [1, 2, 0] rfl ?_
      exact ih _ _ _ _ _  h
noncomputable def f_X11_clearRoll_0 (x0 : Nat) (x1 : Int32) (M : Mem) : Option (Mem) :=
  f_X11_clearRoll_2 fu x0 x1 3 M
set_option maxHeartbeats 4000000 in
theorem t_X11_clearRoll_0 {X : XV} {d : Nat} (hd : 2 ≤ d + 1) : ∀ (x0 : Nat) (x1 : Int32) (M : Mem) (res : Mem), f_X11_clearRoll_0  x0 x1 M = some res → Ex X (d + 1) mX11_clearRoll 0 [(0, .ref x0), (1, .int x1)] [] M none res := by
  intro x0 x1 M res  h
  unfold f_X11_clearRoll_0 at h
  refine ex_iconst (pc := 0) 3 dX11_clearRoll_0 rfl ?_
  refine ex_istore_n (pc := 1) [(2, .int 3), (0, .ref x0), (1, .int x1)] dX11_clearRoll_1 rfl (by decide) rfl ?_
  refine ex_sub (lo' := [(0, .ref x0), (1, .int x1), (2, .int 3)]) [1, 2, 0] rfl ?_
  exact t_X11_clearRoll_2 hd  _ _ _ _ _ _  h
noncomputable def f_X11_clearRoll (x0 : Nat) (x1 : Int32) (M : Mem) : Option (Mem) := if isOb M 11 x0 = true then f_X11_clearRoll_0 x0 x1 M else none
theorem o_X11_clearRoll {x0 : Nat} {x1 : Int32} {M : Mem} {res : Mem} (h : f_X11_clearRoll x0 x1 M = some res) : isO M 11 x0 := by
  unfold f_X11_clearRoll at h
  split at h
  · rename_i hc; exact isOb_iff hc
  · cases h
set_option maxHeartbeats 4000000 in
theorem s_X11_clearRoll {X : XV} {d : Nat} (hd : 2 ≤ d) {x0 : Nat} {x1 : Int32} {M : Mem} {res : Mem} (h : f_X11_clearRoll x0 x1 M = some res) : Mx X d mX11_clearRoll [.ref x0, .int x1] M none res := by
  obtain ⟨d, rfl⟩ : ∃ e, d = e + 1 := ⟨d - 1, by omega⟩
  unfold f_X11_clearRoll at h
  split at h
  rotate_left
  · cases h
  refine Mx.of (by decide) (Nat.le_of_ble_eq_true rfl) (rfl) ?_
  exact ex_sub (lo' := [(0, .ref x0), (1, .int x1)]) [0, 1] rfl (t_X11_clearRoll_0 hd _ _ _ _  h)
noncomputable def f_X11_dream_58 (k27 : Nat → Int32 → Int32 → Int32 → Int32 → Mem → Option (Mem)) (x0 : Nat) (x1 : Int32) (x2 : Int32) (x3 : Int32) (x4 : Int32) (s0 : Bool) (s1 : Int32) (s2 : Nat) (s3 : Int32) (s4 : Nat) (M : Mem) : Option (Mem) :=
  (f_X11_ruleOf s2 s1 (jz s0) M).bind fun v1 =>
  (f_X11_roll s4 s3 v1 M).bind fun q2 =>
  k27 x0 x1 x2 x3 (x4 + 1) q2
set_option maxHeartbeats 4000000 in
theorem t_X11_dream_58 {X : XV} {d : Nat} (hd : 6 ≤ d + 1) {k27 : Nat → Int32 → Int32 → Int32 → Int32 → Mem → Option (Mem)} (hk27 : ∀ (x0 : Nat) (x1 : Int32) (x2 : Int32) (x3 : Int32) (x4 : Int32) (M : Mem) (res : Mem), k27 x0 x1 x2 x3 x4 M = some res → Ex X (d + 1) mX11_dream 27 [(0, .ref x0), (1, .int x1), (2, .int x2), (3, .int x3), (4, .int x4)] [] M none res) : ∀ (x0 : Nat) (x1 : Int32) (x2 : Int32) (x3 : Int32) (x4 : Int32) (s0 : Bool) (s1 : Int32) (s2 : Nat) (s3 : Int32) (s4 : Nat) (M : Mem) (res : Mem), f_X11_dream_58 k27 x0 x1 x2 x3 x4 s0 s1 s2 s3 s4 M = some res → Ex X (d + 1) mX11_dream 58 [(0, .ref x0), (1, .int x1), (2, .int x2), (3, .int x3), (4, .int x4)] [.int (jz s0), .int s1, .ref s2, .int s3, .ref s4] M none res := by
  intro x0 x1 x2 x3 x4 s0 s1 s2 s3 s4 M res  h
  unfold f_X11_dream_58 at h
  obtain ⟨v1, ev1, h⟩ := ob_some h
  refine ex_callV2r (pc := 58) dX11_dream_58 jX11_ruleOf lmX11_350 jiX11_ruleOf jvX11_ruleOf (o_X11_ruleOf ev1) rfl (Nat.le_of_ble_eq_true rfl) (s_X11_ruleOf (by omega)  ev1) ?_
  obtain ⟨q2, eq2, h⟩ := ob_some h
  refine ex_callV2v (pc := 61) dX11_dream_61 jX11_roll lmX11_353 jiX11_roll jvX11_roll (o_X11_roll eq2) rfl (Nat.le_of_ble_eq_true rfl) (s_X11_roll (by omega)  eq2) ?_
  refine ex_iinc (pc := 64) (x4 + 1) 4 [(4, .int (x4 + 1)), (0, .ref x0), (1, .int x1), (2, .int x2), (3, .int x3)] dX11_dream_64 rfl rfl (by decide) rfl ?_
  refine ex_goto (pc := 67) 27 dX11_dream_67 rfl ?_
  refine ex_sub (lo' := [(0, .ref x0), (1, .int x1), (2, .int x2), (3, .int x3), (4, .int (x4 + 1))]) [1, 2, 3, 4, 0] rfl ?_
  exact hk27 _ _ _ _ _ _ _  h
noncomputable def f_X11_dream_119 (x0 : Nat) (x1 : Int32) (M : Mem) : Option (Mem) :=
  (f_X11_get x0 x1 0 M).bind fun v3 =>
  (f_X11_wearsOf x0 x1 M).bind fun q4 =>
  (f_X11_cut (Int32.toInt64 (v3 + q4.1)) 0 99).bind fun v5 =>
  (f_X11_lay x0 x1 0 v5 q4.2).bind fun q6 =>
  (f_X11_get x0 x1 1 q6).bind fun v7 =>
  (f_X11_cut (Int32.toInt64 (v7 - 1)) 0 9).bind fun v8 =>
  (f_X11_lay x0 x1 1 v8 q6).bind fun q9 =>
  some q9
set_option maxHeartbeats 4000000 in
theorem t_X11_dream_119 {X : XV} {d : Nat} (hd : 6 ≤ d + 1) : ∀ (x0 : Nat) (x1 : Int32) (M : Mem) (res : Mem), f_X11_dream_119  x0 x1 M = some res → Ex X (d + 1) mX11_dream 119 [(0, .ref x0), (1, .int x1)] [] M none res := by
  intro x0 x1 M res  h
  unfold f_X11_dream_119 at h
  refine ex_aload_n (pc := 119) 0 dX11_dream_119 rfl rfl ?_
  refine ex_iload_n (pc := 120) 1 dX11_dream_120 rfl rfl ?_
  refine ex_iconst (pc := 121) 0 dX11_dream_121 rfl ?_
  refine ex_aload_n (pc := 122) 0 dX11_dream_122 rfl rfl ?_
  refine ex_iload_n (pc := 123) 1 dX11_dream_123 rfl rfl ?_
  refine ex_iconst (pc := 124) 0 dX11_dream_124 rfl ?_
  obtain ⟨v3, ev3, h⟩ := ob_some h
  refine ex_callV2r (pc := 125) dX11_dream_125 jX11_get lmX11_107 jiX11_get jvX11_get (o_X11_get ev3) rfl (Nat.le_of_ble_eq_true rfl) (s_X11_get (by omega)  ev3) ?_
  refine ex_aload_n (pc := 128) 0 dX11_dream_128 rfl rfl ?_
  refine ex_iload_n (pc := 129) 1 dX11_dream_129 rfl rfl ?_
  obtain ⟨q4, eq4, h⟩ := ob_some h
  refine ex_callV1r (pc := 130) dX11_dream_130 jX11_wearsOf lmX11_368 jiX11_wearsOf jvX11_wearsOf (o_X11_wearsOf eq4) rfl (Nat.le_of_ble_eq_true rfl) (s_X11_wearsOf (by omega)  eq4) ?_
  refine ex_iadd (pc := 133) dX11_dream_133 ?_
  refine ex_i2l (pc := 134) dX11_dream_134 ?_
  refine ex_iconst (pc := 135) 0 dX11_dream_135 rfl ?_
  refine ex_bipush (pc := 136) 99 dX11_dream_136 (by decide) ?_
  obtain ⟨v5, ev5, h⟩ := ob_some h
  refine ex_callS3r (pc := 138) dX11_dream_138 jX11_cut lmX11_313 jsX11_cut (Nat.le_of_ble_eq_true rfl) (s_X11_cut (by omega)  ev5) ?_
  obtain ⟨q6, eq6, h⟩ := ob_some h
  refine ex_callV3v (pc := 141) dX11_dream_141 jX11_lay lmX11_99 jiX11_lay jvX11_lay (o_X11_lay eq6) rfl (Nat.le_of_ble_eq_true rfl) (s_X11_lay (by omega)  eq6) ?_
  refine ex_aload_n (pc := 144) 0 dX11_dream_144 rfl rfl ?_
  refine ex_iload_n (pc := 145) 1 dX11_dream_145 rfl rfl ?_
  refine ex_iconst (pc := 146) 1 dX11_dream_146 rfl ?_
  refine ex_aload_n (pc := 147) 0 dX11_dream_147 rfl rfl ?_
  refine ex_iload_n (pc := 148) 1 dX11_dream_148 rfl rfl ?_
  refine ex_iconst (pc := 149) 1 dX11_dream_149 rfl ?_
  obtain ⟨v7, ev7, h⟩ := ob_some h
  refine ex_callV2r (pc := 150) dX11_dream_150 jX11_get lmX11_107 jiX11_get jvX11_get (o_X11_get ev7) rfl (Nat.le_of_ble_eq_true rfl) (s_X11_get (by omega)  ev7) ?_
  refine ex_iconst (pc := 153) 1 dX11_dream_153 rfl ?_
  refine ex_isub (pc := 154) dX11_dream_154 ?_
  refine ex_i2l (pc := 155) dX11_dream_155 ?_
  refine ex_iconst (pc := 156) 0 dX11_dream_156 rfl ?_
  refine ex_bipush (pc := 157) 9 dX11_dream_157 (by decide) ?_
  obtain ⟨v8, ev8, h⟩ := ob_some h
  refine ex_callS3r (pc := 159) dX11_dream_159 jX11_cut lmX11_313 jsX11_cut (Nat.le_of_ble_eq_true rfl) (s_X11_cut (by omega)  ev8) ?_
  obtain ⟨q9, eq9, h⟩ := ob_some h
  refine ex_callV3v (pc := 162) dX11_dream_162 jX11_lay lmX11_99 jiX11_lay jvX11_lay (o_X11_lay eq9) rfl (Nat.le_of_ble_eq_true rfl) (s_X11_lay (by omega)  eq9) ?_
  cases h
  exact ex_return (pc := 165) dX11_dream_165
noncomputable def f_X11_dream_27 (n0 : Nat) (x0 : Nat) (x1 : Int32) (x2 : Int32) (x3 : Int32) (x4 : Int32) (M : Mem) : Option (Mem) :=
  match n0 with
  | 0 => none
  | n + 1 =>
    (f_X11_longOf x2).bind fun v10 =>
    if v10 ≤ x4 then
    ((f_X11_believesOf x0 x1 M).bind fun q12 =>
    (f_X11_drawn x0 q12.2).bind fun q13 =>
    if q12.1 ≤ q13.1 then
    (f_X11_dream_119 x0 x1 q13.2)
    else
    ((f_X11_numberOfRoll x0 x1 q13.2).bind fun v15 =>
    (f_X11_lay x0 x1 2 v15 q13.2).bind fun q16 =>
    (gI q16 11 x0 24).bind fun v17 =>
    (pF q16 11 x0 24 (.int (v17 + 1))).bind fun q18 =>
    (f_X11_get x0 x1 2 q18).bind fun v19 =>
    (f_X11_write x0 x1 x2 v19 q18).bind fun q20 =>
    f_X11_dream_119 x0 x1 q20))
    else
    ((f_X11_digitOf x2 x4).bind fun v21 =>
    (f_X11_drawn x0 M).bind fun q22 =>
    if x3 ≤ q22.1 then
    (f_X11_dream_58 (f_X11_dream_27 n) x0 x1 x2 x3 x4 false v21 x0 x1 x0 q22.2)
    else
    (f_X11_dream_58 (f_X11_dream_27 n) x0 x1 x2 x3 x4 true v21 x0 x1 x0 q22.2))
set_option maxHeartbeats 4000000 in
theorem t_X11_dream_27 {X : XV} {d : Nat} (hd : 6 ≤ d + 1) : ∀ (n : Nat) (x0 : Nat) (x1 : Int32) (x2 : Int32) (x3 : Int32) (x4 : Int32) (M : Mem) (res : Mem), f_X11_dream_27 n  x0 x1 x2 x3 x4 M = some res → Ex X (d + 1) mX11_dream 27 [(0, .ref x0), (1, .int x1), (2, .int x2), (3, .int x3), (4, .int x4)] [] M none res := by
  intro n
  induction n with
  | zero =>
    intro x0 x1 x2 x3 x4 M res  h
    unfold f_X11_dream_27 at h
    cases h
  | succ n ih =>
    intro x0 x1 x2 x3 x4 M res  h
    unfold f_X11_dream_27 at h
    refine ex_iload (pc := 27) 4 dX11_dream_27 rfl ?_
    refine ex_iload_n (pc := 29) 2 dX11_dream_29 rfl rfl ?_
    obtain ⟨v10, ev10, h⟩ := ob_some h
    refine ex_callS1r (pc := 30) dX11_dream_30 jX11_longOf lmX11_91 jsX11_longOf (Nat.le_of_ble_eq_true rfl) (s_X11_longOf (by omega)  ev10) ?_
    by_cases c11 : v10 ≤ x4
    · rw [if_pos c11] at h
      refine ex_icmp_ge_t (pc := 33) 70 dX11_dream_33 rfl c11 ?_
      refine ex_aload_n (pc := 70) 0 dX11_dream_70 rfl rfl ?_
      refine ex_iload_n (pc := 71) 1 dX11_dream_71 rfl rfl ?_
      obtain ⟨q12, eq12, h⟩ := ob_some h
      refine ex_callV1r (pc := 72) dX11_dream_72 jX11_believesOf lmX11_356 jiX11_believesOf jvX11_believesOf (o_X11_believesOf eq12) rfl (Nat.le_of_ble_eq_true rfl) (s_X11_believesOf (by omega)  eq12) ?_
      refine ex_istore (pc := 75) [(4, .int q12.1), (0, .ref x0), (1, .int x1), (2, .int x2), (3, .int x3)] dX11_dream_75 (by decide) rfl ?_
      refine ex_aload_n (pc := 77) 1 dX11_dream_77 rfl rfl ?_
      obtain ⟨q13, eq13, h⟩ := ob_some h
      refine ex_callV0r (pc := 78) dX11_dream_78 jX11_drawn lmX11_347 jiX11_drawn jvX11_drawn (o_X11_drawn eq13) rfl (Nat.le_of_ble_eq_true rfl) (s_X11_drawn (by omega)  eq13) ?_
      refine ex_iload (pc := 81) 0 dX11_dream_81 rfl ?_
      by_cases c14 : q12.1 ≤ q13.1
      · rw [if_pos c14] at h
        refine ex_icmp_ge_t (pc := 83) 119 dX11_dream_83 rfl c14 ?_
        refine ex_sub (lo' := [(0, .ref x0), (1, .int x1)]) [1, 2] rfl ?_
        exact t_X11_dream_119 hd  _ _ _ _  h
      · rw [if_neg c14] at h
        refine ex_icmp_ge_f (pc := 83) dX11_dream_83 119 rfl c14 ?_
        refine ex_aload_n (pc := 86) 1 dX11_dream_86 rfl rfl ?_
        refine ex_iload_n (pc := 87) 2 dX11_dream_87 rfl rfl ?_
        refine ex_iconst (pc := 88) 2 dX11_dream_88 rfl ?_
        refine ex_aload_n (pc := 89) 1 dX11_dream_89 rfl rfl ?_
        refine ex_iload_n (pc := 90) 2 dX11_dream_90 rfl rfl ?_
        obtain ⟨v15, ev15, h⟩ := ob_some h
        refine ex_callV1r (pc := 91) dX11_dream_91 jX11_numberOfRoll lmX11_359 jiX11_numberOfRoll jvX11_numberOfRoll (o_X11_numberOfRoll ev15) rfl (Nat.le_of_ble_eq_true rfl) (s_X11_numberOfRoll (by omega)  ev15) ?_
        obtain ⟨q16, eq16, h⟩ := ob_some h
        refine ex_callV3v (pc := 94) dX11_dream_94 jX11_lay lmX11_99 jiX11_lay jvX11_lay (o_X11_lay eq16) rfl (Nat.le_of_ble_eq_true rfl) (s_X11_lay (by omega)  eq16) ?_
        refine ex_aload_n (pc := 97) 1 dX11_dream_97 rfl rfl ?_
        refine ex_dup (pc := 98) dX11_dream_98 rfl ?_
        obtain ⟨v17, ev17, h⟩ := ob_some h
        refine ex_gI (pc := 99) ev17 dX11_dream_99 lfX11_362 ?_
        refine ex_iconst (pc := 102) 1 dX11_dream_102 rfl ?_
        refine ex_iadd (pc := 103) dX11_dream_103 ?_
        obtain ⟨q18, eq18, h⟩ := ob_some h
        refine ex_pF (pc := 104) eq18 dX11_dream_104 lfX11_362 rfl rfl (fun _ hq => by cases hq; rfl) ?_
        refine ex_aload_n (pc := 107) 1 dX11_dream_107 rfl rfl ?_
        refine ex_iload_n (pc := 108) 2 dX11_dream_108 rfl rfl ?_
        refine ex_iload_n (pc := 109) 3 dX11_dream_109 rfl rfl ?_
        refine ex_aload_n (pc := 110) 1 dX11_dream_110 rfl rfl ?_
        refine ex_iload_n (pc := 111) 2 dX11_dream_111 rfl rfl ?_
        refine ex_iconst (pc := 112) 2 dX11_dream_112 rfl ?_
        obtain ⟨v19, ev19, h⟩ := ob_some h
        refine ex_callV2r (pc := 113) dX11_dream_113 jX11_get lmX11_107 jiX11_get jvX11_get (o_X11_get ev19) rfl (Nat.le_of_ble_eq_true rfl) (s_X11_get (by omega)  ev19) ?_
        obtain ⟨q20, eq20, h⟩ := ob_some h
        refine ex_callV3v (pc := 116) dX11_dream_116 jX11_write lmX11_365 jiX11_write jvX11_write (o_X11_write eq20) rfl (Nat.le_of_ble_eq_true rfl) (s_X11_write (by omega)  eq20) ?_
        refine ex_sub (lo' := [(0, .ref x0), (1, .int x1)]) [1, 2] rfl ?_
        exact t_X11_dream_119 hd  _ _ _ _  h
    · rw [if_neg c11] at h
      refine ex_icmp_ge_f (pc := 33) dX11_dream_33 70 rfl c11 ?_
      refine ex_aload_n (pc := 36) 0 dX11_dream_36 rfl rfl ?_
      refine ex_iload_n (pc := 37) 1 dX11_dream_37 rfl rfl ?_
      refine ex_aload_n (pc := 38) 0 dX11_dream_38 rfl rfl ?_
      refine ex_iload_n (pc := 39) 2 dX11_dream_39 rfl rfl ?_
      refine ex_iload (pc := 40) 4 dX11_dream_40 rfl ?_
      obtain ⟨v21, ev21, h⟩ := ob_some h
      refine ex_callS2r (pc := 42) dX11_dream_42 jX11_digitOf lmX11_344 jsX11_digitOf (Nat.le_of_ble_eq_true rfl) (s_X11_digitOf (by omega)  ev21) ?_
      refine ex_aload_n (pc := 45) 0 dX11_dream_45 rfl rfl ?_
      obtain ⟨q22, eq22, h⟩ := ob_some h
      refine ex_callV0r (pc := 46) dX11_dream_46 jX11_drawn lmX11_347 jiX11_drawn jvX11_drawn (o_X11_drawn eq22) rfl (Nat.le_of_ble_eq_true rfl) (s_X11_drawn (by omega)  eq22) ?_
      refine ex_iload_n (pc := 49) 3 dX11_dream_49 rfl rfl ?_
      by_cases c23 : x3 ≤ q22.1
      · rw [if_pos c23] at h
        refine ex_icmp_ge_t (pc := 50) 57 dX11_dream_50 rfl c23 ?_
        refine ex_iconst (pc := 57) 0 dX11_dream_57 rfl ?_
        refine ex_sub (lo' := [(0, .ref x0), (1, .int x1), (2, .int x2), (3, .int x3), (4, .int x4)]) [0, 1, 2, 3, 4] rfl ?_
        exact t_X11_dream_58 hd ih _ _ _ _ _ _ _ _ _ _ _ _  h
      · rw [if_neg c23] at h
        refine ex_icmp_ge_f (pc := 50) dX11_dream_50 57 rfl c23 ?_
        refine ex_iconst (pc := 53) 1 dX11_dream_53 rfl ?_
        refine ex_goto (pc := 54) 58 dX11_dream_54 rfl ?_
        refine ex_sub (lo' := [(0, .ref x0), (1, .int x1), (2, .int x2), (3, .int x3), (4, .int x4)]) [0, 1, 2, 3, 4] rfl ?_
        exact t_X11_dream_58 hd ih _ _ _ _ _ _ _ _ _ _ _ _  h
noncomputable def f_X11_dream_0 (x0 : Nat) (x1 : Int32) (M : Mem) : Option (Mem) :=
  (f_X11_get x0 x1 2 M).bind fun v24 =>
  (gR M 11 x0 0).bind fun v25 =>
  (rI M v25 2).bind fun v26 =>
  (f_X11_looseOf x0 v26 x1 M).bind fun q27 =>
  (f_X11_clearRoll x0 x1 q27.2).bind fun q28 =>
  f_X11_dream_27 fu x0 x1 v24 q27.1 0 q28
set_option maxHeartbeats 4000000 in
theorem t_X11_dream_0 {X : XV} {d : Nat} (hd : 6 ≤ d + 1) : ∀ (x0 : Nat) (x1 : Int32) (M : Mem) (res : Mem), f_X11_dream_0  x0 x1 M = some res → Ex X (d + 1) mX11_dream 0 [(0, .ref x0), (1, .int x1)] [] M none res := by
  intro x0 x1 M res  h
  unfold f_X11_dream_0 at h
  refine ex_aload_n (pc := 0) 0 dX11_dream_0 rfl rfl ?_
  refine ex_iload_n (pc := 1) 1 dX11_dream_1 rfl rfl ?_
  refine ex_iconst (pc := 2) 2 dX11_dream_2 rfl ?_
  obtain ⟨v24, ev24, h⟩ := ob_some h
  refine ex_callV2r (pc := 3) dX11_dream_3 jX11_get lmX11_107 jiX11_get jvX11_get (o_X11_get ev24) rfl (Nat.le_of_ble_eq_true rfl) (s_X11_get (by omega)  ev24) ?_
  refine ex_istore_n (pc := 6) [(2, .int v24), (0, .ref x0), (1, .int x1)] dX11_dream_6 rfl (by decide) rfl ?_
  refine ex_aload_n (pc := 7) 1 dX11_dream_7 rfl rfl ?_
  refine ex_aload_n (pc := 8) 1 dX11_dream_8 rfl rfl ?_
  obtain ⟨v25, ev25, h⟩ := ob_some h
  refine ex_gR (pc := 9) ev25 dX11_dream_9 lfX11_7 ?_
  refine ex_iconst (pc := 12) 2 dX11_dream_12 rfl ?_
  obtain ⟨v26, ev26, h⟩ := ob_some h
  refine ex_rI (pc := 13) ev26 dX11_dream_13 ?_
  refine ex_iload_n (pc := 14) 2 dX11_dream_14 rfl rfl ?_
  obtain ⟨q27, eq27, h⟩ := ob_some h
  refine ex_callV2r (pc := 15) dX11_dream_15 jX11_looseOf lmX11_338 jiX11_looseOf jvX11_looseOf (o_X11_looseOf eq27) rfl (Nat.le_of_ble_eq_true rfl) (s_X11_looseOf (by omega)  eq27) ?_
  refine ex_istore_n (pc := 18) [(3, .int q27.1), (2, .int v24), (0, .ref x0), (1, .int x1)] dX11_dream_18 rfl (by decide) rfl ?_
  refine ex_aload_n (pc := 19) 2 dX11_dream_19 rfl rfl ?_
  refine ex_iload_n (pc := 20) 3 dX11_dream_20 rfl rfl ?_
  obtain ⟨q28, eq28, h⟩ := ob_some h
  refine ex_callV1v (pc := 21) dX11_dream_21 jX11_clearRoll lmX11_341 jiX11_clearRoll jvX11_clearRoll (o_X11_clearRoll eq28) rfl (Nat.le_of_ble_eq_true rfl) (s_X11_clearRoll (by omega)  eq28) ?_
  refine ex_iconst (pc := 24) 0 dX11_dream_24 rfl ?_
  refine ex_istore (pc := 25) [(4, .int 0), (3, .int q27.1), (2, .int v24), (0, .ref x0), (1, .int x1)] dX11_dream_25 (by decide) rfl ?_
  refine ex_sub (lo' := [(0, .ref x0), (1, .int x1), (2, .int v24), (3, .int q27.1), (4, .int 0)]) [3, 4, 2, 1, 0] rfl ?_
  exact t_X11_dream_27 hd  _ _ _ _ _ _ _ _  h
noncomputable def f_X11_dream (x0 : Nat) (x1 : Int32) (M : Mem) : Option (Mem) := if isOb M 11 x0 = true then f_X11_dream_0 x0 x1 M else none
theorem o_X11_dream {x0 : Nat} {x1 : Int32} {M : Mem} {res : Mem} (h : f_X11_dream x0 x1 M = some res) : isO M 11 x0 := by
  unfold f_X11_dream at h
  split at h
  · rename_i hc; exact isOb_iff hc
  · cases h
set_option maxHeartbeats 4000000 in
theorem s_X11_dream {X : XV} {d : Nat} (hd : 6 ≤ d) {x0 : Nat} {x1 : Int32} {M : Mem} {res : Mem} (h : f_X11_dream x0 x1 M = some res) : Mx X d mX11_dream [.ref x0, .int x1] M none res := by
  obtain ⟨d, rfl⟩ : ∃ e, d = e + 1 := ⟨d - 1, by omega⟩
  unfold f_X11_dream at h
  split at h
  rotate_left
  · cases h
  refine Mx.of (by decide) (Nat.le_of_ble_eq_true rfl) (rfl) ?_
  exact ex_sub (lo' := [(0, .ref x0), (1, .int x1)]) [0, 1] rfl (t_X11_dream_0 hd _ _ _ _  h)
noncomputable def f_X11_pass_2 (n0 : Nat) (x0 : Nat) (x1 : Int32) (M : Mem) : Option (Mem) :=
  match n0 with
  | 0 => none
  | n + 1 =>
    (gR M 11 x0 0).bind fun v1 =>
    (rI M v1 0).bind fun v2 =>
    if v2 ≤ x1 then
    ((gR M 11 x0 0).bind fun v4 =>
    (rI M v4 8).bind fun v5 =>
    (wI M v4 8 (v5 + 1)).bind fun q6 =>
    some q6)
    else
    ((f_X11_dream x0 x1 M).bind fun q7 =>
    f_X11_pass_2 n x0 (x1 + 1) q7)
set_option maxHeartbeats 4000000 in
theorem t_X11_pass_2 {X : XV} {d : Nat} (hd : 7 ≤ d + 1) : ∀ (n : Nat) (x0 : Nat) (x1 : Int32) (M : Mem) (res : Mem), f_X11_pass_2 n  x0 x1 M = some res → Ex X (d + 1) mX11_pass 2 [(0, .ref x0), (1, .int x1)] [] M none res := by
  intro n
  induction n with
  | zero =>
    intro x0 x1 M res  h
    unfold f_X11_pass_2 at h
    cases h
  | succ n ih =>
    intro x0 x1 M res  h
    unfold f_X11_pass_2 at h
    refine ex_iload_n (pc := 2) 1 dX11_pass_2 rfl rfl ?_
    refine ex_aload_n (pc := 3) 0 dX11_pass_3 rfl rfl ?_
    obtain ⟨v1, ev1, h⟩ := ob_some h
    refine ex_gR (pc := 4) ev1 dX11_pass_4 lfX11_7 ?_
    refine ex_iconst (pc := 7) 0 dX11_pass_7 rfl ?_
    obtain ⟨v2, ev2, h⟩ := ob_some h
    refine ex_rI (pc := 8) ev2 dX11_pass_8 ?_
    by_cases c3 : v2 ≤ x1
    · rw [if_pos c3] at h
      refine ex_icmp_ge_t (pc := 9) 23 dX11_pass_9 rfl c3 ?_
      refine ex_aload_n (pc := 23) 0 dX11_pass_23 rfl rfl ?_
      obtain ⟨v4, ev4, h⟩ := ob_some h
      refine ex_gR (pc := 24) ev4 dX11_pass_24 lfX11_7 ?_
      refine ex_bipush (pc := 27) 8 dX11_pass_27 (by decide) ?_
      refine ex_dup2 (pc := 29) dX11_pass_29 rfl rfl ?_
      obtain ⟨v5, ev5, h⟩ := ob_some h
      refine ex_rI (pc := 30) ev5 dX11_pass_30 ?_
      refine ex_iconst (pc := 31) 1 dX11_pass_31 rfl ?_
      refine ex_iadd (pc := 32) dX11_pass_32 ?_
      obtain ⟨q6, eq6, h⟩ := ob_some h
      refine ex_wI (pc := 33) eq6 dX11_pass_33 ?_
      cases h
      exact ex_return (pc := 34) dX11_pass_34
    · rw [if_neg c3] at h
      refine ex_icmp_ge_f (pc := 9) dX11_pass_9 23 rfl c3 ?_
      refine ex_aload_n (pc := 12) 0 dX11_pass_12 rfl rfl ?_
      refine ex_iload_n (pc := 13) 1 dX11_pass_13 rfl rfl ?_
      obtain ⟨q7, eq7, h⟩ := ob_some h
      refine ex_callV1v (pc := 14) dX11_pass_14 jX11_dream lmX11_371 jiX11_dream jvX11_dream (o_X11_dream eq7) rfl (Nat.le_of_ble_eq_true rfl) (s_X11_dream (by omega)  eq7) ?_
      refine ex_iinc (pc := 17) (x1 + 1) 1 [(1, .int (x1 + 1)), (0, .ref x0)] dX11_pass_17 rfl rfl (by decide) rfl ?_
      refine ex_goto (pc := 20) 2 dX11_pass_20 rfl ?_
      refine ex_sub (lo' := [(0, .ref x0), (1, .int (x1 + 1))]) [1, 0] rfl ?_
      exact ih _ _ _ _  h
noncomputable def f_X11_pass_0 (x0 : Nat) (M : Mem) : Option (Mem) :=
  f_X11_pass_2 fu x0 0 M
set_option maxHeartbeats 4000000 in
theorem t_X11_pass_0 {X : XV} {d : Nat} (hd : 7 ≤ d + 1) : ∀ (x0 : Nat) (M : Mem) (res : Mem), f_X11_pass_0  x0 M = some res → Ex X (d + 1) mX11_pass 0 [(0, .ref x0)] [] M none res := by
  intro x0 M res  h
  unfold f_X11_pass_0 at h
  refine ex_iconst (pc := 0) 0 dX11_pass_0 rfl ?_
  refine ex_istore_n (pc := 1) [(1, .int 0), (0, .ref x0)] dX11_pass_1 rfl (by decide) rfl ?_
  refine ex_sub (lo' := [(0, .ref x0), (1, .int 0)]) [1, 0] rfl ?_
  exact t_X11_pass_2 hd  _ _ _ _ _  h
noncomputable def f_X11_pass (x0 : Nat) (M : Mem) : Option (Mem) := if isOb M 11 x0 = true then f_X11_pass_0 x0 M else none
theorem o_X11_pass {x0 : Nat} {M : Mem} {res : Mem} (h : f_X11_pass x0 M = some res) : isO M 11 x0 := by
  unfold f_X11_pass at h
  split at h
  · rename_i hc; exact isOb_iff hc
  · cases h
set_option maxHeartbeats 4000000 in
theorem s_X11_pass {X : XV} {d : Nat} (hd : 7 ≤ d) {x0 : Nat} {M : Mem} {res : Mem} (h : f_X11_pass x0 M = some res) : Mx X d mX11_pass [.ref x0] M none res := by
  obtain ⟨d, rfl⟩ : ∃ e, d = e + 1 := ⟨d - 1, by omega⟩
  unfold f_X11_pass at h
  split at h
  rotate_left
  · cases h
  refine Mx.of (by decide) (Nat.le_of_ble_eq_true rfl) (rfl) ?_
  exact ex_sub (lo' := [(0, .ref x0)]) [0] rfl (t_X11_pass_0 hd _ _ _  h)
noncomputable def f_X11_keep_124 (n0 : Nat) (k117 : Nat → Int32 → Int32 → Mem → Option (Mem)) (x0 : Nat) (x1 : Int32) (x2 : Int32) (x3 : Int32) (M : Mem) : Option (Mem) :=
  match n0 with
  | 0 => none
  | n + 1 =>
    if 16 ≤ x3 then
    (k117 x0 x1 (x2 + 1) M)
    else
    ((gR M 11 x0 0).bind fun v2 =>
    (f_X11_get x0 x2 x3 M).bind fun v3 =>
    (wI M v2 (((x1 + 4) + (16 * x2)) + x3) v3).bind fun q4 =>
    f_X11_keep_124 n k117 x0 x1 x2 (x3 + 1) q4)
set_option maxHeartbeats 4000000 in
theorem t_X11_keep_124 {X : XV} {d : Nat} (hd : 2 ≤ d + 1) {k117 : Nat → Int32 → Int32 → Mem → Option (Mem)} (hk117 : ∀ (x0 : Nat) (x1 : Int32) (x2 : Int32) (M : Mem) (res : Mem), k117 x0 x1 x2 M = some res → Ex X (d + 1) mX11_keep 117 [(0, .ref x0), (1, .int x1), (2, .int x2)] [] M none res) : ∀ (n : Nat) (x0 : Nat) (x1 : Int32) (x2 : Int32) (x3 : Int32) (M : Mem) (res : Mem), f_X11_keep_124 n k117 x0 x1 x2 x3 M = some res → Ex X (d + 1) mX11_keep 124 [(0, .ref x0), (1, .int x1), (2, .int x2), (3, .int x3)] [] M none res := by
  intro n
  induction n with
  | zero =>
    intro x0 x1 x2 x3 M res  h
    unfold f_X11_keep_124 at h
    cases h
  | succ n ih =>
    intro x0 x1 x2 x3 M res  h
    unfold f_X11_keep_124 at h
    refine ex_iload_n (pc := 124) 3 dX11_keep_124 rfl rfl ?_
    refine ex_bipush (pc := 125) 16 dX11_keep_125 (by decide) ?_
    by_cases c1 : 16 ≤ x3
    · rw [if_pos c1] at h
      refine ex_icmp_ge_t (pc := 127) 157 dX11_keep_127 rfl c1 ?_
      refine ex_iinc (pc := 157) (x2 + 1) 2 [(2, .int (x2 + 1)), (0, .ref x0), (1, .int x1), (3, .int x3)] dX11_keep_157 rfl rfl (by decide) rfl ?_
      refine ex_goto (pc := 160) 117 dX11_keep_160 rfl ?_
      refine ex_sub (lo' := [(0, .ref x0), (1, .int x1), (2, .int (x2 + 1))]) [1, 2, 0] rfl ?_
      exact hk117 _ _ _ _ _  h
    · rw [if_neg c1] at h
      refine ex_icmp_ge_f (pc := 127) dX11_keep_127 157 rfl c1 ?_
      refine ex_aload_n (pc := 130) 0 dX11_keep_130 rfl rfl ?_
      obtain ⟨v2, ev2, h⟩ := ob_some h
      refine ex_gR (pc := 131) ev2 dX11_keep_131 lfX11_7 ?_
      refine ex_iload_n (pc := 134) 1 dX11_keep_134 rfl rfl ?_
      refine ex_iconst (pc := 135) 4 dX11_keep_135 rfl ?_
      refine ex_iadd (pc := 136) dX11_keep_136 ?_
      refine ex_bipush (pc := 137) 16 dX11_keep_137 (by decide) ?_
      refine ex_iload_n (pc := 139) 2 dX11_keep_139 rfl rfl ?_
      refine ex_imul (pc := 140) dX11_keep_140 ?_
      refine ex_iadd (pc := 141) dX11_keep_141 ?_
      refine ex_iload_n (pc := 142) 3 dX11_keep_142 rfl rfl ?_
      refine ex_iadd (pc := 143) dX11_keep_143 ?_
      refine ex_aload_n (pc := 144) 0 dX11_keep_144 rfl rfl ?_
      refine ex_iload_n (pc := 145) 2 dX11_keep_145 rfl rfl ?_
      refine ex_iload_n (pc := 146) 3 dX11_keep_146 rfl rfl ?_
      obtain ⟨v3, ev3, h⟩ := ob_some h
      refine ex_callV2r (pc := 147) dX11_keep_147 jX11_get lmX11_107 jiX11_get jvX11_get (o_X11_get ev3) rfl (Nat.le_of_ble_eq_true rfl) (s_X11_get (by omega)  ev3) ?_
      obtain ⟨q4, eq4, h⟩ := ob_some h
      refine ex_wI (pc := 150) eq4 dX11_keep_150 ?_
      refine ex_iinc (pc := 151) (x3 + 1) 3 [(3, .int (x3 + 1)), (0, .ref x0), (1, .int x1), (2, .int x2)] dX11_keep_151 rfl rfl (by decide) rfl ?_
      refine ex_goto (pc := 154) 124 dX11_keep_154 rfl ?_
      refine ex_sub (lo' := [(0, .ref x0), (1, .int x1), (2, .int x2), (3, .int (x3 + 1))]) [1, 2, 3, 0] rfl ?_
      exact ih _ _ _ _ _ _  h
noncomputable def f_X11_keep_165 (n0 : Nat) (x0 : Nat) (x1 : Int32) (x2 : Int32) (M : Mem) : Option (Mem) :=
  match n0 with
  | 0 => none
  | n + 1 =>
    if 60 ≤ x2 then
    ((gR M 11 x0 0).bind fun v6 =>
    (rI M v6 3).bind fun v7 =>
    (wI M v6 3 (v7 + 1)).bind fun q8 =>
    some q8)
    else
    ((gR M 11 x0 0).bind fun v9 =>
    (gR M 11 x0 0).bind fun v10 =>
    (rI M v10 (4547 + x2)).bind fun v11 =>
    (wI M v9 ((x1 + 84) + x2) v11).bind fun q12 =>
    f_X11_keep_165 n x0 x1 (x2 + 1) q12)
set_option maxHeartbeats 4000000 in
theorem t_X11_keep_165 {X : XV} {d : Nat} (hd : 2 ≤ d + 1) : ∀ (n : Nat) (x0 : Nat) (x1 : Int32) (x2 : Int32) (M : Mem) (res : Mem), f_X11_keep_165 n  x0 x1 x2 M = some res → Ex X (d + 1) mX11_keep 165 [(0, .ref x0), (1, .int x1), (2, .int x2)] [] M none res := by
  intro n
  induction n with
  | zero =>
    intro x0 x1 x2 M res  h
    unfold f_X11_keep_165 at h
    cases h
  | succ n ih =>
    intro x0 x1 x2 M res  h
    unfold f_X11_keep_165 at h
    refine ex_iload_n (pc := 165) 2 dX11_keep_165 rfl rfl ?_
    refine ex_bipush (pc := 166) 60 dX11_keep_166 (by decide) ?_
    by_cases c5 : 60 ≤ x2
    · rw [if_pos c5] at h
      refine ex_icmp_ge_t (pc := 168) 198 dX11_keep_168 rfl c5 ?_
      refine ex_aload_n (pc := 198) 0 dX11_keep_198 rfl rfl ?_
      obtain ⟨v6, ev6, h⟩ := ob_some h
      refine ex_gR (pc := 199) ev6 dX11_keep_199 lfX11_7 ?_
      refine ex_iconst (pc := 202) 3 dX11_keep_202 rfl ?_
      refine ex_dup2 (pc := 203) dX11_keep_203 rfl rfl ?_
      obtain ⟨v7, ev7, h⟩ := ob_some h
      refine ex_rI (pc := 204) ev7 dX11_keep_204 ?_
      refine ex_iconst (pc := 205) 1 dX11_keep_205 rfl ?_
      refine ex_iadd (pc := 206) dX11_keep_206 ?_
      obtain ⟨q8, eq8, h⟩ := ob_some h
      refine ex_wI (pc := 207) eq8 dX11_keep_207 ?_
      cases h
      exact ex_return (pc := 208) dX11_keep_208
    · rw [if_neg c5] at h
      refine ex_icmp_ge_f (pc := 168) dX11_keep_168 198 rfl c5 ?_
      refine ex_aload_n (pc := 171) 0 dX11_keep_171 rfl rfl ?_
      obtain ⟨v9, ev9, h⟩ := ob_some h
      refine ex_gR (pc := 172) ev9 dX11_keep_172 lfX11_7 ?_
      refine ex_iload_n (pc := 175) 1 dX11_keep_175 rfl rfl ?_
      refine ex_bipush (pc := 176) 84 dX11_keep_176 (by decide) ?_
      refine ex_iadd (pc := 178) dX11_keep_178 ?_
      refine ex_iload_n (pc := 179) 2 dX11_keep_179 rfl rfl ?_
      refine ex_iadd (pc := 180) dX11_keep_180 ?_
      refine ex_aload_n (pc := 181) 0 dX11_keep_181 rfl rfl ?_
      obtain ⟨v10, ev10, h⟩ := ob_some h
      refine ex_gR (pc := 182) ev10 dX11_keep_182 lfX11_7 ?_
      refine ex_sipush (pc := 185) 4547 dX11_keep_185 (by decide) ?_
      refine ex_iload_n (pc := 188) 2 dX11_keep_188 rfl rfl ?_
      refine ex_iadd (pc := 189) dX11_keep_189 ?_
      obtain ⟨v11, ev11, h⟩ := ob_some h
      refine ex_rI (pc := 190) ev11 dX11_keep_190 ?_
      obtain ⟨q12, eq12, h⟩ := ob_some h
      refine ex_wI (pc := 191) eq12 dX11_keep_191 ?_
      refine ex_iinc (pc := 192) (x2 + 1) 2 [(2, .int (x2 + 1)), (0, .ref x0), (1, .int x1)] dX11_keep_192 rfl rfl (by decide) rfl ?_
      refine ex_goto (pc := 195) 165 dX11_keep_195 rfl ?_
      refine ex_sub (lo' := [(0, .ref x0), (1, .int x1), (2, .int (x2 + 1))]) [1, 2, 0] rfl ?_
      exact ih _ _ _ _ _  h
noncomputable def f_X11_keep_117 (n0 : Nat) (x0 : Nat) (x1 : Int32) (x2 : Int32) (M : Mem) : Option (Mem) :=
  match n0 with
  | 0 => none
  | n + 1 =>
    if 5 ≤ x2 then
    (f_X11_keep_165 fu x0 x1 0 M)
    else
    (f_X11_keep_124 fu (f_X11_keep_117 n) x0 x1 x2 0 M)
set_option maxHeartbeats 4000000 in
theorem t_X11_keep_117 {X : XV} {d : Nat} (hd : 2 ≤ d + 1) : ∀ (n : Nat) (x0 : Nat) (x1 : Int32) (x2 : Int32) (M : Mem) (res : Mem), f_X11_keep_117 n  x0 x1 x2 M = some res → Ex X (d + 1) mX11_keep 117 [(0, .ref x0), (1, .int x1), (2, .int x2)] [] M none res := by
  intro n
  induction n with
  | zero =>
    intro x0 x1 x2 M res  h
    unfold f_X11_keep_117 at h
    cases h
  | succ n ih =>
    intro x0 x1 x2 M res  h
    unfold f_X11_keep_117 at h
    refine ex_iload_n (pc := 117) 2 dX11_keep_117 rfl rfl ?_
    refine ex_iconst (pc := 118) 5 dX11_keep_118 rfl ?_
    by_cases c13 : 5 ≤ x2
    · rw [if_pos c13] at h
      refine ex_icmp_ge_t (pc := 119) 163 dX11_keep_119 rfl c13 ?_
      refine ex_iconst (pc := 163) 0 dX11_keep_163 rfl ?_
      refine ex_istore_n (pc := 164) [(2, .int 0), (0, .ref x0), (1, .int x1)] dX11_keep_164 rfl (by decide) rfl ?_
      refine ex_sub (lo' := [(0, .ref x0), (1, .int x1), (2, .int 0)]) [1, 2, 0] rfl ?_
      exact t_X11_keep_165 hd  _ _ _ _ _ _  h
    · rw [if_neg c13] at h
      refine ex_icmp_ge_f (pc := 119) dX11_keep_119 163 rfl c13 ?_
      refine ex_iconst (pc := 122) 0 dX11_keep_122 rfl ?_
      refine ex_istore_n (pc := 123) [(3, .int 0), (0, .ref x0), (1, .int x1), (2, .int x2)] dX11_keep_123 rfl (by decide) rfl ?_
      refine ex_sub (lo' := [(0, .ref x0), (1, .int x1), (2, .int x2), (3, .int 0)]) [1, 2, 3, 0] rfl ?_
      exact t_X11_keep_124 hd ih _ _ _ _ _ _ _  h
noncomputable def f_X11_keep_85 (n0 : Nat) (x0 : Nat) (x1 : Int32) (x2 : Int32) (M : Mem) : Option (Mem) :=
  match n0 with
  | 0 => none
  | n + 1 =>
    if 3 ≤ x2 then
    (f_X11_keep_117 fu x0 x1 0 M)
    else
    ((gR M 11 x0 0).bind fun v15 =>
    (gR M 11 x0 0).bind fun v16 =>
    (rI M v16 (8 + x2)).bind fun v17 =>
    (wI M v15 ((x1 + 1) + x2) v17).bind fun q18 =>
    f_X11_keep_85 n x0 x1 (x2 + 1) q18)
set_option maxHeartbeats 4000000 in
theorem t_X11_keep_85 {X : XV} {d : Nat} (hd : 2 ≤ d + 1) : ∀ (n : Nat) (x0 : Nat) (x1 : Int32) (x2 : Int32) (M : Mem) (res : Mem), f_X11_keep_85 n  x0 x1 x2 M = some res → Ex X (d + 1) mX11_keep 85 [(0, .ref x0), (1, .int x1), (2, .int x2)] [] M none res := by
  intro n
  induction n with
  | zero =>
    intro x0 x1 x2 M res  h
    unfold f_X11_keep_85 at h
    cases h
  | succ n ih =>
    intro x0 x1 x2 M res  h
    unfold f_X11_keep_85 at h
    refine ex_iload_n (pc := 85) 2 dX11_keep_85 rfl rfl ?_
    refine ex_iconst (pc := 86) 3 dX11_keep_86 rfl ?_
    by_cases c14 : 3 ≤ x2
    · rw [if_pos c14] at h
      refine ex_icmp_ge_t (pc := 87) 115 dX11_keep_87 rfl c14 ?_
      refine ex_iconst (pc := 115) 0 dX11_keep_115 rfl ?_
      refine ex_istore_n (pc := 116) [(2, .int 0), (0, .ref x0), (1, .int x1)] dX11_keep_116 rfl (by decide) rfl ?_
      refine ex_sub (lo' := [(0, .ref x0), (1, .int x1), (2, .int 0)]) [1, 2, 0] rfl ?_
      exact t_X11_keep_117 hd  _ _ _ _ _ _  h
    · rw [if_neg c14] at h
      refine ex_icmp_ge_f (pc := 87) dX11_keep_87 115 rfl c14 ?_
      refine ex_aload_n (pc := 90) 0 dX11_keep_90 rfl rfl ?_
      obtain ⟨v15, ev15, h⟩ := ob_some h
      refine ex_gR (pc := 91) ev15 dX11_keep_91 lfX11_7 ?_
      refine ex_iload_n (pc := 94) 1 dX11_keep_94 rfl rfl ?_
      refine ex_iconst (pc := 95) 1 dX11_keep_95 rfl ?_
      refine ex_iadd (pc := 96) dX11_keep_96 ?_
      refine ex_iload_n (pc := 97) 2 dX11_keep_97 rfl rfl ?_
      refine ex_iadd (pc := 98) dX11_keep_98 ?_
      refine ex_aload_n (pc := 99) 0 dX11_keep_99 rfl rfl ?_
      obtain ⟨v16, ev16, h⟩ := ob_some h
      refine ex_gR (pc := 100) ev16 dX11_keep_100 lfX11_7 ?_
      refine ex_bipush (pc := 103) 8 dX11_keep_103 (by decide) ?_
      refine ex_iload_n (pc := 105) 2 dX11_keep_105 rfl rfl ?_
      refine ex_iadd (pc := 106) dX11_keep_106 ?_
      obtain ⟨v17, ev17, h⟩ := ob_some h
      refine ex_rI (pc := 107) ev17 dX11_keep_107 ?_
      obtain ⟨q18, eq18, h⟩ := ob_some h
      refine ex_wI (pc := 108) eq18 dX11_keep_108 ?_
      refine ex_iinc (pc := 109) (x2 + 1) 2 [(2, .int (x2 + 1)), (0, .ref x0), (1, .int x1)] dX11_keep_109 rfl rfl (by decide) rfl ?_
      refine ex_goto (pc := 112) 85 dX11_keep_112 rfl ?_
      refine ex_sub (lo' := [(0, .ref x0), (1, .int x1), (2, .int (x2 + 1))]) [1, 2, 0] rfl ?_
      exact ih _ _ _ _ _  h
noncomputable def f_X11_keep_56 (x0 : Nat) (M : Mem) : Option (Mem) :=
  (gR M 11 x0 0).bind fun v19 =>
  (rI M v19 3).bind fun v20 =>
  (gR M 11 x0 0).bind fun v21 =>
  (gR M 11 x0 0).bind fun v22 =>
  (rI M v22 0).bind fun v23 =>
  (wI M v21 (227 + (144 * v20)) v23).bind fun q24 =>
  f_X11_keep_85 fu x0 (227 + (144 * v20)) 0 q24
set_option maxHeartbeats 4000000 in
theorem t_X11_keep_56 {X : XV} {d : Nat} (hd : 2 ≤ d + 1) : ∀ (x0 : Nat) (M : Mem) (res : Mem), f_X11_keep_56  x0 M = some res → Ex X (d + 1) mX11_keep 56 [(0, .ref x0)] [] M none res := by
  intro x0 M res  h
  unfold f_X11_keep_56 at h
  refine ex_sipush (pc := 56) 227 dX11_keep_56 (by decide) ?_
  refine ex_sipush (pc := 59) 144 dX11_keep_59 (by decide) ?_
  refine ex_aload_n (pc := 62) 0 dX11_keep_62 rfl rfl ?_
  obtain ⟨v19, ev19, h⟩ := ob_some h
  refine ex_gR (pc := 63) ev19 dX11_keep_63 lfX11_7 ?_
  refine ex_iconst (pc := 66) 3 dX11_keep_66 rfl ?_
  obtain ⟨v20, ev20, h⟩ := ob_some h
  refine ex_rI (pc := 67) ev20 dX11_keep_67 ?_
  refine ex_imul (pc := 68) dX11_keep_68 ?_
  refine ex_iadd (pc := 69) dX11_keep_69 ?_
  refine ex_istore_n (pc := 70) [(1, .int (227 + (144 * v20))), (0, .ref x0)] dX11_keep_70 rfl (by decide) rfl ?_
  refine ex_aload_n (pc := 71) 1 dX11_keep_71 rfl rfl ?_
  obtain ⟨v21, ev21, h⟩ := ob_some h
  refine ex_gR (pc := 72) ev21 dX11_keep_72 lfX11_7 ?_
  refine ex_iload_n (pc := 75) 0 dX11_keep_75 rfl rfl ?_
  refine ex_aload_n (pc := 76) 1 dX11_keep_76 rfl rfl ?_
  obtain ⟨v22, ev22, h⟩ := ob_some h
  refine ex_gR (pc := 77) ev22 dX11_keep_77 lfX11_7 ?_
  refine ex_iconst (pc := 80) 0 dX11_keep_80 rfl ?_
  obtain ⟨v23, ev23, h⟩ := ob_some h
  refine ex_rI (pc := 81) ev23 dX11_keep_81 ?_
  obtain ⟨q24, eq24, h⟩ := ob_some h
  refine ex_wI (pc := 82) eq24 dX11_keep_82 ?_
  refine ex_iconst (pc := 83) 0 dX11_keep_83 rfl ?_
  refine ex_istore_n (pc := 84) [(2, .int 0), (1, .int (227 + (144 * v20))), (0, .ref x0)] dX11_keep_84 rfl (by decide) rfl ?_
  refine ex_sub (lo' := [(0, .ref x0), (1, .int (227 + (144 * v20))), (2, .int 0)]) [2, 1, 0] rfl ?_
  exact t_X11_keep_85 hd  _ _ _ _ _ _  h
noncomputable def f_X11_keep_13 (n0 : Nat) (x0 : Nat) (x1 : Int32) (M : Mem) : Option (Mem) :=
  match n0 with
  | 0 => none
  | n + 1 =>
    if 4176 ≤ x1 then
    ((gR M 11 x0 0).bind fun v26 =>
    (rI M v26 3).bind fun v27 =>
    (wI M v26 3 (v27 - 1)).bind fun q28 =>
    f_X11_keep_56 x0 q28)
    else
    ((gR M 11 x0 0).bind fun v29 =>
    (gR M 11 x0 0).bind fun v30 =>
    (rI M v30 (371 + x1)).bind fun v31 =>
    (wI M v29 (227 + x1) v31).bind fun q32 =>
    f_X11_keep_13 n x0 (x1 + 1) q32)
set_option maxHeartbeats 4000000 in
theorem t_X11_keep_13 {X : XV} {d : Nat} (hd : 2 ≤ d + 1) : ∀ (n : Nat) (x0 : Nat) (x1 : Int32) (M : Mem) (res : Mem), f_X11_keep_13 n  x0 x1 M = some res → Ex X (d + 1) mX11_keep 13 [(0, .ref x0), (1, .int x1)] [] M none res := by
  intro n
  induction n with
  | zero =>
    intro x0 x1 M res  h
    unfold f_X11_keep_13 at h
    cases h
  | succ n ih =>
    intro x0 x1 M res  h
    unfold f_X11_keep_13 at h
    refine ex_iload_n (pc := 13) 1 dX11_keep_13 rfl rfl ?_
    refine ex_sipush (pc := 14) 4176 dX11_keep_14 (by decide) ?_
    by_cases c25 : 4176 ≤ x1
    · rw [if_pos c25] at h
      refine ex_icmp_ge_t (pc := 17) 46 dX11_keep_17 rfl c25 ?_
      refine ex_aload_n (pc := 46) 0 dX11_keep_46 rfl rfl ?_
      obtain ⟨v26, ev26, h⟩ := ob_some h
      refine ex_gR (pc := 47) ev26 dX11_keep_47 lfX11_7 ?_
      refine ex_iconst (pc := 50) 3 dX11_keep_50 rfl ?_
      refine ex_dup2 (pc := 51) dX11_keep_51 rfl rfl ?_
      obtain ⟨v27, ev27, h⟩ := ob_some h
      refine ex_rI (pc := 52) ev27 dX11_keep_52 ?_
      refine ex_iconst (pc := 53) 1 dX11_keep_53 rfl ?_
      refine ex_isub (pc := 54) dX11_keep_54 ?_
      obtain ⟨q28, eq28, h⟩ := ob_some h
      refine ex_wI (pc := 55) eq28 dX11_keep_55 ?_
      refine ex_sub (lo' := [(0, .ref x0)]) [0] rfl ?_
      exact t_X11_keep_56 hd  _ _ _  h
    · rw [if_neg c25] at h
      refine ex_icmp_ge_f (pc := 17) dX11_keep_17 46 rfl c25 ?_
      refine ex_aload_n (pc := 20) 0 dX11_keep_20 rfl rfl ?_
      obtain ⟨v29, ev29, h⟩ := ob_some h
      refine ex_gR (pc := 21) ev29 dX11_keep_21 lfX11_7 ?_
      refine ex_sipush (pc := 24) 227 dX11_keep_24 (by decide) ?_
      refine ex_iload_n (pc := 27) 1 dX11_keep_27 rfl rfl ?_
      refine ex_iadd (pc := 28) dX11_keep_28 ?_
      refine ex_aload_n (pc := 29) 0 dX11_keep_29 rfl rfl ?_
      obtain ⟨v30, ev30, h⟩ := ob_some h
      refine ex_gR (pc := 30) ev30 dX11_keep_30 lfX11_7 ?_
      refine ex_sipush (pc := 33) 371 dX11_keep_33 (by decide) ?_
      refine ex_iload_n (pc := 36) 1 dX11_keep_36 rfl rfl ?_
      refine ex_iadd (pc := 37) dX11_keep_37 ?_
      obtain ⟨v31, ev31, h⟩ := ob_some h
      refine ex_rI (pc := 38) ev31 dX11_keep_38 ?_
      obtain ⟨q32, eq32, h⟩ := ob_some h
      refine ex_wI (pc := 39) eq32 dX11_keep_39 ?_
      refine ex_iinc (pc := 40) (x1 + 1) 1 [(1, .int (x1 + 1)), (0, .ref x0)] dX11_keep_40 rfl rfl (by decide) rfl ?_
      refine ex_goto (pc := 43) 13 dX11_keep_43 rfl ?_
      refine ex_sub (lo' := [(0, .ref x0), (1, .int (x1 + 1))]) [1, 0] rfl ?_
      exact ih _ _ _ _  h
noncomputable def f_X11_keep_0 (x0 : Nat) (M : Mem) : Option (Mem) :=
  (gR M 11 x0 0).bind fun v33 =>
  (rI M v33 3).bind fun v34 =>
  if v34 = 30 then
  (f_X11_keep_13 fu x0 0 M)
  else
  (f_X11_keep_56 x0 M)
set_option maxHeartbeats 4000000 in
theorem t_X11_keep_0 {X : XV} {d : Nat} (hd : 2 ≤ d + 1) : ∀ (x0 : Nat) (M : Mem) (res : Mem), f_X11_keep_0  x0 M = some res → Ex X (d + 1) mX11_keep 0 [(0, .ref x0)] [] M none res := by
  intro x0 M res  h
  unfold f_X11_keep_0 at h
  refine ex_aload_n (pc := 0) 0 dX11_keep_0 rfl rfl ?_
  obtain ⟨v33, ev33, h⟩ := ob_some h
  refine ex_gR (pc := 1) ev33 dX11_keep_1 lfX11_7 ?_
  refine ex_iconst (pc := 4) 3 dX11_keep_4 rfl ?_
  obtain ⟨v34, ev34, h⟩ := ob_some h
  refine ex_rI (pc := 5) ev34 dX11_keep_5 ?_
  refine ex_bipush (pc := 6) 30 dX11_keep_6 (by decide) ?_
  by_cases c35 : v34 = 30
  · rw [if_pos c35] at h
    refine ex_icmp_ne_f (pc := 8) dX11_keep_8 56 rfl c35 ?_
    refine ex_iconst (pc := 11) 0 dX11_keep_11 rfl ?_
    refine ex_istore_n (pc := 12) [(1, .int 0), (0, .ref x0)] dX11_keep_12 rfl (by decide) rfl ?_
    refine ex_sub (lo' := [(0, .ref x0), (1, .int 0)]) [1, 0] rfl ?_
    exact t_X11_keep_13 hd  _ _ _ _ _  h
  · rw [if_neg c35] at h
    refine ex_icmp_ne_t (pc := 8) 56 dX11_keep_8 rfl c35 ?_
    refine ex_sub (lo' := [(0, .ref x0)]) [0] rfl ?_
    exact t_X11_keep_56 hd  _ _ _  h
noncomputable def f_X11_keep (x0 : Nat) (M : Mem) : Option (Mem) := if isOb M 11 x0 = true then f_X11_keep_0 x0 M else none
theorem o_X11_keep {x0 : Nat} {M : Mem} {res : Mem} (h : f_X11_keep x0 M = some res) : isO M 11 x0 := by
  unfold f_X11_keep at h
  split at h
  · rename_i hc; exact isOb_iff hc
  · cases h
set_option maxHeartbeats 4000000 in
theorem s_X11_keep {X : XV} {d : Nat} (hd : 2 ≤ d) {x0 : Nat} {M : Mem} {res : Mem} (h : f_X11_keep x0 M = some res) : Mx X d mX11_keep [.ref x0] M none res := by
  obtain ⟨d, rfl⟩ : ∃ e, d = e + 1 := ⟨d - 1, by omega⟩
  unfold f_X11_keep at h
  split at h
  rotate_left
  · cases h
  refine Mx.of (by decide) (Nat.le_of_ble_eq_true rfl) (rfl) ?_
  exact ex_sub (lo' := [(0, .ref x0)]) [0] rfl (t_X11_keep_0 hd _ _ _  h)
noncomputable def f_X11_undo_97 (n0 : Nat) (k70 : Nat → Int32 → Int32 → Mem → Option (Int32 × Mem)) (x0 : Nat) (x1 : Int32) (x2 : Int32) (x3 : Int32) (M : Mem) : Option (Int32 × Mem) :=
  match n0 with
  | 0 => none
  | n + 1 =>
    if 16 ≤ x3 then
    (k70 x0 x1 (x2 + 1) M)
    else
    ((gR M 11 x0 0).bind fun v2 =>
    (rI M v2 x1).bind fun v3 =>
    if v3 ≤ x2 then
    (k70 x0 x1 (x2 + 1) M)
    else
    ((gR M 11 x0 0).bind fun v5 =>
    (rI M v5 (((x1 + 4) + (16 * x2)) + x3)).bind fun v6 =>
    (f_X11_lay x0 x2 x3 v6 M).bind fun q7 =>
    f_X11_undo_97 n k70 x0 x1 x2 (x3 + 1) q7))
set_option maxHeartbeats 4000000 in
theorem t_X11_undo_97 {X : XV} {d : Nat} (hd : 3 ≤ d + 1) {k70 : Nat → Int32 → Int32 → Mem → Option (Int32 × Mem)} (hk70 : ∀ (x0 : Nat) (x1 : Int32) (x2 : Int32) (M : Mem) (res : Int32 × Mem), k70 x0 x1 x2 M = some res → Ex X (d + 1) mX11_undo 70 [(0, .ref x0), (1, .int x1), (2, .int x2)] [] M (some (.int res.1)) res.2) : ∀ (n : Nat) (x0 : Nat) (x1 : Int32) (x2 : Int32) (x3 : Int32) (M : Mem) (res : Int32 × Mem), f_X11_undo_97 n k70 x0 x1 x2 x3 M = some res → Ex X (d + 1) mX11_undo 97 [(0, .ref x0), (1, .int x1), (2, .int x2), (3, .int x3)] [] M (some (.int res.1)) res.2 := by
  intro n
  induction n with
  | zero =>
    intro x0 x1 x2 x3 M res  h
    unfold f_X11_undo_97 at h
    cases h
  | succ n ih =>
    intro x0 x1 x2 x3 M res  h
    unfold f_X11_undo_97 at h
    refine ex_iload_n (pc := 97) 3 dX11_undo_97 rfl rfl ?_
    refine ex_bipush (pc := 98) 16 dX11_undo_98 (by decide) ?_
    by_cases c1 : 16 ≤ x3
    · rw [if_pos c1] at h
      refine ex_icmp_ge_t (pc := 100) 140 dX11_undo_100 rfl c1 ?_
      refine ex_iinc (pc := 140) (x2 + 1) 2 [(2, .int (x2 + 1)), (0, .ref x0), (1, .int x1), (3, .int x3)] dX11_undo_140 rfl rfl (by decide) rfl ?_
      refine ex_goto (pc := 143) 70 dX11_undo_143 rfl ?_
      refine ex_sub (lo' := [(0, .ref x0), (1, .int x1), (2, .int (x2 + 1))]) [1, 2, 0] rfl ?_
      exact hk70 _ _ _ _ _  h
    · rw [if_neg c1] at h
      refine ex_icmp_ge_f (pc := 100) dX11_undo_100 140 rfl c1 ?_
      refine ex_iload_n (pc := 103) 2 dX11_undo_103 rfl rfl ?_
      refine ex_aload_n (pc := 104) 0 dX11_undo_104 rfl rfl ?_
      obtain ⟨v2, ev2, h⟩ := ob_some h
      refine ex_gR (pc := 105) ev2 dX11_undo_105 lfX11_7 ?_
      refine ex_iload_n (pc := 108) 1 dX11_undo_108 rfl rfl ?_
      obtain ⟨v3, ev3, h⟩ := ob_some h
      refine ex_rI (pc := 109) ev3 dX11_undo_109 ?_
      by_cases c4 : v3 ≤ x2
      · rw [if_pos c4] at h
        refine ex_icmp_ge_t (pc := 110) 140 dX11_undo_110 rfl c4 ?_
        refine ex_iinc (pc := 140) (x2 + 1) 2 [(2, .int (x2 + 1)), (0, .ref x0), (1, .int x1), (3, .int x3)] dX11_undo_140 rfl rfl (by decide) rfl ?_
        refine ex_goto (pc := 143) 70 dX11_undo_143 rfl ?_
        refine ex_sub (lo' := [(0, .ref x0), (1, .int x1), (2, .int (x2 + 1))]) [1, 2, 0] rfl ?_
        exact hk70 _ _ _ _ _  h
      · rw [if_neg c4] at h
        refine ex_icmp_ge_f (pc := 110) dX11_undo_110 140 rfl c4 ?_
        refine ex_aload_n (pc := 113) 0 dX11_undo_113 rfl rfl ?_
        refine ex_iload_n (pc := 114) 2 dX11_undo_114 rfl rfl ?_
        refine ex_iload_n (pc := 115) 3 dX11_undo_115 rfl rfl ?_
        refine ex_aload_n (pc := 116) 0 dX11_undo_116 rfl rfl ?_
        obtain ⟨v5, ev5, h⟩ := ob_some h
        refine ex_gR (pc := 117) ev5 dX11_undo_117 lfX11_7 ?_
        refine ex_iload_n (pc := 120) 1 dX11_undo_120 rfl rfl ?_
        refine ex_iconst (pc := 121) 4 dX11_undo_121 rfl ?_
        refine ex_iadd (pc := 122) dX11_undo_122 ?_
        refine ex_bipush (pc := 123) 16 dX11_undo_123 (by decide) ?_
        refine ex_iload_n (pc := 125) 2 dX11_undo_125 rfl rfl ?_
        refine ex_imul (pc := 126) dX11_undo_126 ?_
        refine ex_iadd (pc := 127) dX11_undo_127 ?_
        refine ex_iload_n (pc := 128) 3 dX11_undo_128 rfl rfl ?_
        refine ex_iadd (pc := 129) dX11_undo_129 ?_
        obtain ⟨v6, ev6, h⟩ := ob_some h
        refine ex_rI (pc := 130) ev6 dX11_undo_130 ?_
        obtain ⟨q7, eq7, h⟩ := ob_some h
        refine ex_callV3v (pc := 131) dX11_undo_131 jX11_lay lmX11_99 jiX11_lay jvX11_lay (o_X11_lay eq7) rfl (Nat.le_of_ble_eq_true rfl) (s_X11_lay (by omega)  eq7) ?_
        refine ex_iinc (pc := 134) (x3 + 1) 3 [(3, .int (x3 + 1)), (0, .ref x0), (1, .int x1), (2, .int x2)] dX11_undo_134 rfl rfl (by decide) rfl ?_
        refine ex_goto (pc := 137) 97 dX11_undo_137 rfl ?_
        refine ex_sub (lo' := [(0, .ref x0), (1, .int x1), (2, .int x2), (3, .int (x3 + 1))]) [1, 2, 3, 0] rfl ?_
        exact ih _ _ _ _ _ _  h
noncomputable def f_X11_undo_95 (k70 : Nat → Int32 → Int32 → Mem → Option (Int32 × Mem)) (x0 : Nat) (x1 : Int32) (x2 : Int32) (M : Mem) : Option (Int32 × Mem) :=
  f_X11_undo_97 fu k70 x0 x1 x2 0 M
set_option maxHeartbeats 4000000 in
theorem t_X11_undo_95 {X : XV} {d : Nat} (hd : 3 ≤ d + 1) {k70 : Nat → Int32 → Int32 → Mem → Option (Int32 × Mem)} (hk70 : ∀ (x0 : Nat) (x1 : Int32) (x2 : Int32) (M : Mem) (res : Int32 × Mem), k70 x0 x1 x2 M = some res → Ex X (d + 1) mX11_undo 70 [(0, .ref x0), (1, .int x1), (2, .int x2)] [] M (some (.int res.1)) res.2) : ∀ (x0 : Nat) (x1 : Int32) (x2 : Int32) (M : Mem) (res : Int32 × Mem), f_X11_undo_95 k70 x0 x1 x2 M = some res → Ex X (d + 1) mX11_undo 95 [(0, .ref x0), (1, .int x1), (2, .int x2)] [] M (some (.int res.1)) res.2 := by
  intro x0 x1 x2 M res  h
  unfold f_X11_undo_95 at h
  refine ex_iconst (pc := 95) 0 dX11_undo_95 rfl ?_
  refine ex_istore_n (pc := 96) [(3, .int 0), (0, .ref x0), (1, .int x1), (2, .int x2)] dX11_undo_96 rfl (by decide) rfl ?_
  refine ex_sub (lo' := [(0, .ref x0), (1, .int x1), (2, .int x2), (3, .int 0)]) [1, 2, 3, 0] rfl ?_
  exact t_X11_undo_97 hd hk70 _ _ _ _ _ _ _  h
noncomputable def f_X11_undo_148 (n0 : Nat) (x0 : Nat) (x1 : Int32) (x2 : Int32) (M : Mem) : Option (Int32 × Mem) :=
  match n0 with
  | 0 => none
  | n + 1 =>
    if 60 ≤ x2 then
    ((gR M 11 x0 0).bind fun v9 =>
    (rI M v9 3).bind fun v10 =>
    some (v10, M))
    else
    ((gR M 11 x0 0).bind fun v11 =>
    (gR M 11 x0 0).bind fun v12 =>
    (rI M v12 ((x1 + 84) + x2)).bind fun v13 =>
    (wI M v11 (4547 + x2) v13).bind fun q14 =>
    f_X11_undo_148 n x0 x1 (x2 + 1) q14)
set_option maxHeartbeats 4000000 in
theorem t_X11_undo_148 {X : XV} {d : Nat} (hd : 3 ≤ d + 1) : ∀ (n : Nat) (x0 : Nat) (x1 : Int32) (x2 : Int32) (M : Mem) (res : Int32 × Mem), f_X11_undo_148 n  x0 x1 x2 M = some res → Ex X (d + 1) mX11_undo 148 [(0, .ref x0), (1, .int x1), (2, .int x2)] [] M (some (.int res.1)) res.2 := by
  intro n
  induction n with
  | zero =>
    intro x0 x1 x2 M res  h
    unfold f_X11_undo_148 at h
    cases h
  | succ n ih =>
    intro x0 x1 x2 M res  h
    unfold f_X11_undo_148 at h
    refine ex_iload_n (pc := 148) 2 dX11_undo_148 rfl rfl ?_
    refine ex_bipush (pc := 149) 60 dX11_undo_149 (by decide) ?_
    by_cases c8 : 60 ≤ x2
    · rw [if_pos c8] at h
      refine ex_icmp_ge_t (pc := 151) 181 dX11_undo_151 rfl c8 ?_
      refine ex_aload_n (pc := 181) 0 dX11_undo_181 rfl rfl ?_
      obtain ⟨v9, ev9, h⟩ := ob_some h
      refine ex_gR (pc := 182) ev9 dX11_undo_182 lfX11_7 ?_
      refine ex_iconst (pc := 185) 3 dX11_undo_185 rfl ?_
      obtain ⟨v10, ev10, h⟩ := ob_some h
      refine ex_rI (pc := 186) ev10 dX11_undo_186 ?_
      cases h
      exact ex_ireturn (pc := 187) dX11_undo_187
    · rw [if_neg c8] at h
      refine ex_icmp_ge_f (pc := 151) dX11_undo_151 181 rfl c8 ?_
      refine ex_aload_n (pc := 154) 0 dX11_undo_154 rfl rfl ?_
      obtain ⟨v11, ev11, h⟩ := ob_some h
      refine ex_gR (pc := 155) ev11 dX11_undo_155 lfX11_7 ?_
      refine ex_sipush (pc := 158) 4547 dX11_undo_158 (by decide) ?_
      refine ex_iload_n (pc := 161) 2 dX11_undo_161 rfl rfl ?_
      refine ex_iadd (pc := 162) dX11_undo_162 ?_
      refine ex_aload_n (pc := 163) 0 dX11_undo_163 rfl rfl ?_
      obtain ⟨v12, ev12, h⟩ := ob_some h
      refine ex_gR (pc := 164) ev12 dX11_undo_164 lfX11_7 ?_
      refine ex_iload_n (pc := 167) 1 dX11_undo_167 rfl rfl ?_
      refine ex_bipush (pc := 168) 84 dX11_undo_168 (by decide) ?_
      refine ex_iadd (pc := 170) dX11_undo_170 ?_
      refine ex_iload_n (pc := 171) 2 dX11_undo_171 rfl rfl ?_
      refine ex_iadd (pc := 172) dX11_undo_172 ?_
      obtain ⟨v13, ev13, h⟩ := ob_some h
      refine ex_rI (pc := 173) ev13 dX11_undo_173 ?_
      obtain ⟨q14, eq14, h⟩ := ob_some h
      refine ex_wI (pc := 174) eq14 dX11_undo_174 ?_
      refine ex_iinc (pc := 175) (x2 + 1) 2 [(2, .int (x2 + 1)), (0, .ref x0), (1, .int x1)] dX11_undo_175 rfl rfl (by decide) rfl ?_
      refine ex_goto (pc := 178) 148 dX11_undo_178 rfl ?_
      refine ex_sub (lo' := [(0, .ref x0), (1, .int x1), (2, .int (x2 + 1))]) [1, 2, 0] rfl ?_
      exact ih _ _ _ _ _  h
noncomputable def f_X11_undo_70 (n0 : Nat) (x0 : Nat) (x1 : Int32) (x2 : Int32) (M : Mem) : Option (Int32 × Mem) :=
  match n0 with
  | 0 => none
  | n + 1 =>
    (gR M 11 x0 0).bind fun v15 =>
    (rI M v15 0).bind fun v16 =>
    if v16 ≤ x2 then
    (f_X11_undo_148 fu x0 x1 0 M)
    else
    ((gR M 11 x0 0).bind fun v18 =>
    (rI M v18 x1).bind fun v19 =>
    if x2 < v19 then
    (f_X11_undo_95 (f_X11_undo_70 n) x0 x1 x2 M)
    else
    ((f_X11_begin x0 x2 M).bind fun q21 =>
    f_X11_undo_95 (f_X11_undo_70 n) x0 x1 x2 q21))
set_option maxHeartbeats 4000000 in
theorem t_X11_undo_70 {X : XV} {d : Nat} (hd : 3 ≤ d + 1) : ∀ (n : Nat) (x0 : Nat) (x1 : Int32) (x2 : Int32) (M : Mem) (res : Int32 × Mem), f_X11_undo_70 n  x0 x1 x2 M = some res → Ex X (d + 1) mX11_undo 70 [(0, .ref x0), (1, .int x1), (2, .int x2)] [] M (some (.int res.1)) res.2 := by
  intro n
  induction n with
  | zero =>
    intro x0 x1 x2 M res  h
    unfold f_X11_undo_70 at h
    cases h
  | succ n ih =>
    intro x0 x1 x2 M res  h
    unfold f_X11_undo_70 at h
    refine ex_iload_n (pc := 70) 2 dX11_undo_70 rfl rfl ?_
    refine ex_aload_n (pc := 71) 0 dX11_undo_71 rfl rfl ?_
    obtain ⟨v15, ev15, h⟩ := ob_some h
    refine ex_gR (pc := 72) ev15 dX11_undo_72 lfX11_7 ?_
    refine ex_iconst (pc := 75) 0 dX11_undo_75 rfl ?_
    obtain ⟨v16, ev16, h⟩ := ob_some h
    refine ex_rI (pc := 76) ev16 dX11_undo_76 ?_
    by_cases c17 : v16 ≤ x2
    · rw [if_pos c17] at h
      refine ex_icmp_ge_t (pc := 77) 146 dX11_undo_77 rfl c17 ?_
      refine ex_iconst (pc := 146) 0 dX11_undo_146 rfl ?_
      refine ex_istore_n (pc := 147) [(2, .int 0), (0, .ref x0), (1, .int x1)] dX11_undo_147 rfl (by decide) rfl ?_
      refine ex_sub (lo' := [(0, .ref x0), (1, .int x1), (2, .int 0)]) [1, 2, 0] rfl ?_
      exact t_X11_undo_148 hd  _ _ _ _ _ _  h
    · rw [if_neg c17] at h
      refine ex_icmp_ge_f (pc := 77) dX11_undo_77 146 rfl c17 ?_
      refine ex_iload_n (pc := 80) 2 dX11_undo_80 rfl rfl ?_
      refine ex_aload_n (pc := 81) 0 dX11_undo_81 rfl rfl ?_
      obtain ⟨v18, ev18, h⟩ := ob_some h
      refine ex_gR (pc := 82) ev18 dX11_undo_82 lfX11_7 ?_
      refine ex_iload_n (pc := 85) 1 dX11_undo_85 rfl rfl ?_
      obtain ⟨v19, ev19, h⟩ := ob_some h
      refine ex_rI (pc := 86) ev19 dX11_undo_86 ?_
      by_cases c20 : x2 < v19
      · rw [if_pos c20] at h
        refine ex_icmp_lt_t (pc := 87) 95 dX11_undo_87 rfl c20 ?_
        refine ex_sub (lo' := [(0, .ref x0), (1, .int x1), (2, .int x2)]) [0, 1, 2] rfl ?_
        exact t_X11_undo_95 hd ih _ _ _ _ _  h
      · rw [if_neg c20] at h
        refine ex_icmp_lt_f (pc := 87) dX11_undo_87 95 rfl c20 ?_
        refine ex_aload_n (pc := 90) 0 dX11_undo_90 rfl rfl ?_
        refine ex_iload_n (pc := 91) 2 dX11_undo_91 rfl rfl ?_
        obtain ⟨q21, eq21, h⟩ := ob_some h
        refine ex_callV1v (pc := 92) dX11_undo_92 jX11_begin lmX11_103 jiX11_begin jvX11_begin (o_X11_begin eq21) rfl (Nat.le_of_ble_eq_true rfl) (s_X11_begin (by omega)  eq21) ?_
        refine ex_sub (lo' := [(0, .ref x0), (1, .int x1), (2, .int x2)]) [0, 1, 2] rfl ?_
        exact t_X11_undo_95 hd ih _ _ _ _ _  h
noncomputable def f_X11_undo_38 (n0 : Nat) (x0 : Nat) (x1 : Int32) (x2 : Int32) (M : Mem) : Option (Int32 × Mem) :=
  match n0 with
  | 0 => none
  | n + 1 =>
    if 3 ≤ x2 then
    (f_X11_undo_70 fu x0 x1 0 M)
    else
    ((gR M 11 x0 0).bind fun v23 =>
    (gR M 11 x0 0).bind fun v24 =>
    (rI M v24 ((x1 + 1) + x2)).bind fun v25 =>
    (wI M v23 (8 + x2) v25).bind fun q26 =>
    f_X11_undo_38 n x0 x1 (x2 + 1) q26)
set_option maxHeartbeats 4000000 in
theorem t_X11_undo_38 {X : XV} {d : Nat} (hd : 3 ≤ d + 1) : ∀ (n : Nat) (x0 : Nat) (x1 : Int32) (x2 : Int32) (M : Mem) (res : Int32 × Mem), f_X11_undo_38 n  x0 x1 x2 M = some res → Ex X (d + 1) mX11_undo 38 [(0, .ref x0), (1, .int x1), (2, .int x2)] [] M (some (.int res.1)) res.2 := by
  intro n
  induction n with
  | zero =>
    intro x0 x1 x2 M res  h
    unfold f_X11_undo_38 at h
    cases h
  | succ n ih =>
    intro x0 x1 x2 M res  h
    unfold f_X11_undo_38 at h
    refine ex_iload_n (pc := 38) 2 dX11_undo_38 rfl rfl ?_
    refine ex_iconst (pc := 39) 3 dX11_undo_39 rfl ?_
    by_cases c22 : 3 ≤ x2
    · rw [if_pos c22] at h
      refine ex_icmp_ge_t (pc := 40) 68 dX11_undo_40 rfl c22 ?_
      refine ex_iconst (pc := 68) 0 dX11_undo_68 rfl ?_
      refine ex_istore_n (pc := 69) [(2, .int 0), (0, .ref x0), (1, .int x1)] dX11_undo_69 rfl (by decide) rfl ?_
      refine ex_sub (lo' := [(0, .ref x0), (1, .int x1), (2, .int 0)]) [1, 2, 0] rfl ?_
      exact t_X11_undo_70 hd  _ _ _ _ _ _  h
    · rw [if_neg c22] at h
      refine ex_icmp_ge_f (pc := 40) dX11_undo_40 68 rfl c22 ?_
      refine ex_aload_n (pc := 43) 0 dX11_undo_43 rfl rfl ?_
      obtain ⟨v23, ev23, h⟩ := ob_some h
      refine ex_gR (pc := 44) ev23 dX11_undo_44 lfX11_7 ?_
      refine ex_bipush (pc := 47) 8 dX11_undo_47 (by decide) ?_
      refine ex_iload_n (pc := 49) 2 dX11_undo_49 rfl rfl ?_
      refine ex_iadd (pc := 50) dX11_undo_50 ?_
      refine ex_aload_n (pc := 51) 0 dX11_undo_51 rfl rfl ?_
      obtain ⟨v24, ev24, h⟩ := ob_some h
      refine ex_gR (pc := 52) ev24 dX11_undo_52 lfX11_7 ?_
      refine ex_iload_n (pc := 55) 1 dX11_undo_55 rfl rfl ?_
      refine ex_iconst (pc := 56) 1 dX11_undo_56 rfl ?_
      refine ex_iadd (pc := 57) dX11_undo_57 ?_
      refine ex_iload_n (pc := 58) 2 dX11_undo_58 rfl rfl ?_
      refine ex_iadd (pc := 59) dX11_undo_59 ?_
      obtain ⟨v25, ev25, h⟩ := ob_some h
      refine ex_rI (pc := 60) ev25 dX11_undo_60 ?_
      obtain ⟨q26, eq26, h⟩ := ob_some h
      refine ex_wI (pc := 61) eq26 dX11_undo_61 ?_
      refine ex_iinc (pc := 62) (x2 + 1) 2 [(2, .int (x2 + 1)), (0, .ref x0), (1, .int x1)] dX11_undo_62 rfl rfl (by decide) rfl ?_
      refine ex_goto (pc := 65) 38 dX11_undo_65 rfl ?_
      refine ex_sub (lo' := [(0, .ref x0), (1, .int x1), (2, .int (x2 + 1))]) [1, 2, 0] rfl ?_
      exact ih _ _ _ _ _  h
noncomputable def f_X11_undo_0 (x0 : Nat) (M : Mem) : Option (Int32 × Mem) :=
  (gR M 11 x0 0).bind fun v27 =>
  (rI M v27 3).bind fun v28 =>
  if v28 = 0 then
  (some ((-1), M))
  else
  ((gR M 11 x0 0).bind fun v30 =>
  (rI M v30 3).bind fun v31 =>
  (wI M v30 3 (v31 - 1)).bind fun q32 =>
  (gR q32 11 x0 0).bind fun v33 =>
  (rI q32 v33 3).bind fun v34 =>
  f_X11_undo_38 fu x0 (227 + (144 * v34)) 0 q32)
set_option maxHeartbeats 4000000 in
theorem t_X11_undo_0 {X : XV} {d : Nat} (hd : 3 ≤ d + 1) : ∀ (x0 : Nat) (M : Mem) (res : Int32 × Mem), f_X11_undo_0  x0 M = some res → Ex X (d + 1) mX11_undo 0 [(0, .ref x0)] [] M (some (.int res.1)) res.2 := by
  intro x0 M res  h
  unfold f_X11_undo_0 at h
  refine ex_aload_n (pc := 0) 0 dX11_undo_0 rfl rfl ?_
  obtain ⟨v27, ev27, h⟩ := ob_some h
  refine ex_gR (pc := 1) ev27 dX11_undo_1 lfX11_7 ?_
  refine ex_iconst (pc := 4) 3 dX11_undo_4 rfl ?_
  obtain ⟨v28, ev28, h⟩ := ob_some h
  refine ex_rI (pc := 5) ev28 dX11_undo_5 ?_
  by_cases c29 : v28 = 0
  · rw [if_pos c29] at h
    refine ex_if_ne_f (pc := 6) dX11_undo_6 11 rfl c29 ?_
    refine ex_iconst (pc := 9) (-1) dX11_undo_9 rfl ?_
    cases h
    exact ex_ireturn (pc := 10) dX11_undo_10
  · rw [if_neg c29] at h
    refine ex_if_ne_t (pc := 6) 11 dX11_undo_6 rfl c29 ?_
    refine ex_aload_n (pc := 11) 0 dX11_undo_11 rfl rfl ?_
    obtain ⟨v30, ev30, h⟩ := ob_some h
    refine ex_gR (pc := 12) ev30 dX11_undo_12 lfX11_7 ?_
    refine ex_iconst (pc := 15) 3 dX11_undo_15 rfl ?_
    refine ex_dup2 (pc := 16) dX11_undo_16 rfl rfl ?_
    obtain ⟨v31, ev31, h⟩ := ob_some h
    refine ex_rI (pc := 17) ev31 dX11_undo_17 ?_
    refine ex_iconst (pc := 18) 1 dX11_undo_18 rfl ?_
    refine ex_isub (pc := 19) dX11_undo_19 ?_
    obtain ⟨q32, eq32, h⟩ := ob_some h
    refine ex_wI (pc := 20) eq32 dX11_undo_20 ?_
    refine ex_sipush (pc := 21) 227 dX11_undo_21 (by decide) ?_
    refine ex_sipush (pc := 24) 144 dX11_undo_24 (by decide) ?_
    refine ex_aload_n (pc := 27) 0 dX11_undo_27 rfl rfl ?_
    obtain ⟨v33, ev33, h⟩ := ob_some h
    refine ex_gR (pc := 28) ev33 dX11_undo_28 lfX11_7 ?_
    refine ex_iconst (pc := 31) 3 dX11_undo_31 rfl ?_
    obtain ⟨v34, ev34, h⟩ := ob_some h
    refine ex_rI (pc := 32) ev34 dX11_undo_32 ?_
    refine ex_imul (pc := 33) dX11_undo_33 ?_
    refine ex_iadd (pc := 34) dX11_undo_34 ?_
    refine ex_istore_n (pc := 35) [(1, .int (227 + (144 * v34))), (0, .ref x0)] dX11_undo_35 rfl (by decide) rfl ?_
    refine ex_iconst (pc := 36) 0 dX11_undo_36 rfl ?_
    refine ex_istore_n (pc := 37) [(2, .int 0), (1, .int (227 + (144 * v34))), (0, .ref x0)] dX11_undo_37 rfl (by decide) rfl ?_
    refine ex_sub (lo' := [(0, .ref x0), (1, .int (227 + (144 * v34))), (2, .int 0)]) [2, 1, 0] rfl ?_
    exact t_X11_undo_38 hd  _ _ _ _ _ _  h
noncomputable def f_X11_undo (x0 : Nat) (M : Mem) : Option (Int32 × Mem) := if isOb M 11 x0 = true then f_X11_undo_0 x0 M else none
theorem o_X11_undo {x0 : Nat} {M : Mem} {res : Int32 × Mem} (h : f_X11_undo x0 M = some res) : isO M 11 x0 := by
  unfold f_X11_undo at h
  split at h
  · rename_i hc; exact isOb_iff hc
  · cases h
set_option maxHeartbeats 4000000 in
theorem s_X11_undo {X : XV} {d : Nat} (hd : 3 ≤ d) {x0 : Nat} {M : Mem} {res : Int32 × Mem} (h : f_X11_undo x0 M = some res) : Mx X d mX11_undo [.ref x0] M (some (.int res.1)) res.2 := by
  obtain ⟨d, rfl⟩ : ∃ e, d = e + 1 := ⟨d - 1, by omega⟩
  unfold f_X11_undo at h
  split at h
  rotate_left
  · cases h
  refine Mx.of (by decide) (Nat.le_of_ble_eq_true rfl) (⟨_, rfl, rfl⟩) ?_
  exact ex_sub (lo' := [(0, .ref x0)]) [0] rfl (t_X11_undo_0 hd _ _ _  h)
noncomputable def f_X11_canCrank_0 (x0 : Nat) (x1 : Int32) (M : Mem) : Option (Bool) :=
  (f_X11_isMachine x0 x1 M).bind fun v1 =>
  if v1 = false then
  (some false)
  else
  ((f_X11_get x0 x1 0 M).bind fun v3 =>
  if 99 ≤ v3 then
  (some false)
  else
  (some true))
set_option maxHeartbeats 4000000 in
theorem t_X11_canCrank_0 {X : XV} {d : Nat} (hd : 3 ≤ d + 1) : ∀ (x0 : Nat) (x1 : Int32) (M : Mem) (res : Bool), f_X11_canCrank_0  x0 x1 M = some res → Ex X (d + 1) mX11_canCrank 0 [(0, .ref x0), (1, .int x1)] [] M (some (.int (jz res))) M := by
  intro x0 x1 M res  h
  unfold f_X11_canCrank_0 at h
  refine ex_aload_n (pc := 0) 0 dX11_canCrank_0 rfl rfl ?_
  refine ex_iload_n (pc := 1) 1 dX11_canCrank_1 rfl rfl ?_
  obtain ⟨v1, ev1, h⟩ := ob_some h
  refine ex_callV1r (pc := 2) dX11_canCrank_2 jX11_isMachine lmX11_374 jiX11_isMachine jvX11_isMachine (o_X11_isMachine ev1) rfl (Nat.le_of_ble_eq_true rfl) (s_X11_isMachine (by omega)  ev1) ?_
  by_cases c2 : v1 = false
  · rw [if_pos c2] at h
    refine ex_if_eq_t (pc := 5) 23 dX11_canCrank_5 rfl (jz_eq_t c2) ?_
    refine ex_iconst (pc := 23) 0 dX11_canCrank_23 rfl ?_
    cases h
    exact ex_ireturn (pc := 24) dX11_canCrank_24
  · rw [if_neg c2] at h
    refine ex_if_eq_f (pc := 5) dX11_canCrank_5 23 rfl (jz_eq_f c2) ?_
    refine ex_aload_n (pc := 8) 0 dX11_canCrank_8 rfl rfl ?_
    refine ex_iload_n (pc := 9) 1 dX11_canCrank_9 rfl rfl ?_
    refine ex_iconst (pc := 10) 0 dX11_canCrank_10 rfl ?_
    obtain ⟨v3, ev3, h⟩ := ob_some h
    refine ex_callV2r (pc := 11) dX11_canCrank_11 jX11_get lmX11_107 jiX11_get jvX11_get (o_X11_get ev3) rfl (Nat.le_of_ble_eq_true rfl) (s_X11_get (by omega)  ev3) ?_
    refine ex_bipush (pc := 14) 99 dX11_canCrank_14 (by decide) ?_
    by_cases c4 : 99 ≤ v3
    · rw [if_pos c4] at h
      refine ex_icmp_ge_t (pc := 16) 23 dX11_canCrank_16 rfl c4 ?_
      refine ex_iconst (pc := 23) 0 dX11_canCrank_23 rfl ?_
      cases h
      exact ex_ireturn (pc := 24) dX11_canCrank_24
    · rw [if_neg c4] at h
      refine ex_icmp_ge_f (pc := 16) dX11_canCrank_16 23 rfl c4 ?_
      refine ex_iconst (pc := 19) 1 dX11_canCrank_19 rfl ?_
      refine ex_goto (pc := 20) 24 dX11_canCrank_20 rfl ?_
      cases h
      exact ex_ireturn (pc := 24) dX11_canCrank_24
noncomputable def f_X11_canCrank (x0 : Nat) (x1 : Int32) (M : Mem) : Option (Bool) := if isOb M 11 x0 = true then f_X11_canCrank_0 x0 x1 M else none
theorem o_X11_canCrank {x0 : Nat} {x1 : Int32} {M : Mem} {res : Bool} (h : f_X11_canCrank x0 x1 M = some res) : isO M 11 x0 := by
  unfold f_X11_canCrank at h
  split at h
  · rename_i hc; exact isOb_iff hc
  · cases h
set_option maxHeartbeats 4000000 in
theorem s_X11_canCrank {X : XV} {d : Nat} (hd : 3 ≤ d) {x0 : Nat} {x1 : Int32} {M : Mem} {res : Bool} (h : f_X11_canCrank x0 x1 M = some res) : Mx X d mX11_canCrank [.ref x0, .int x1] M (some (.int (jz res))) M := by
  obtain ⟨d, rfl⟩ : ∃ e, d = e + 1 := ⟨d - 1, by omega⟩
  unfold f_X11_canCrank at h
  split at h
  rotate_left
  · cases h
  refine Mx.of (by decide) (Nat.le_of_ble_eq_true rfl) (⟨_, rfl, jz_nar _⟩) ?_
  exact ex_sub (lo' := [(0, .ref x0), (1, .int x1)]) [0, 1] rfl (t_X11_canCrank_0 hd _ _ _ _  h)
noncomputable def f_X11_crankNow_0 (x0 : Nat) (x1 : Int32) (x2 : Int32) (M : Mem) : Option (Mem) :=
  (f_X11_get x0 x1 2 M).bind fun v1 =>
  (f_X11_lay x0 x1 2 (jrem (v1 + x2) 10000) M).bind fun q2 =>
  (f_X11_get x0 x1 0 q2).bind fun v3 =>
  (f_X11_lay x0 x1 0 (v3 + 1) q2).bind fun q4 =>
  some q4
set_option maxHeartbeats 4000000 in
theorem t_X11_crankNow_0 {X : XV} {d : Nat} (hd : 2 ≤ d + 1) : ∀ (x0 : Nat) (x1 : Int32) (x2 : Int32) (M : Mem) (res : Mem), f_X11_crankNow_0  x0 x1 x2 M = some res → Ex X (d + 1) mX11_crankNow 0 [(0, .ref x0), (1, .int x1), (2, .int x2)] [] M none res := by
  intro x0 x1 x2 M res  h
  unfold f_X11_crankNow_0 at h
  refine ex_aload_n (pc := 0) 0 dX11_crankNow_0 rfl rfl ?_
  refine ex_iload_n (pc := 1) 1 dX11_crankNow_1 rfl rfl ?_
  refine ex_iconst (pc := 2) 2 dX11_crankNow_2 rfl ?_
  refine ex_aload_n (pc := 3) 0 dX11_crankNow_3 rfl rfl ?_
  refine ex_iload_n (pc := 4) 1 dX11_crankNow_4 rfl rfl ?_
  refine ex_iconst (pc := 5) 2 dX11_crankNow_5 rfl ?_
  obtain ⟨v1, ev1, h⟩ := ob_some h
  refine ex_callV2r (pc := 6) dX11_crankNow_6 jX11_get lmX11_107 jiX11_get jvX11_get (o_X11_get ev1) rfl (Nat.le_of_ble_eq_true rfl) (s_X11_get (by omega)  ev1) ?_
  refine ex_iload_n (pc := 9) 2 dX11_crankNow_9 rfl rfl ?_
  refine ex_iadd (pc := 10) dX11_crankNow_10 ?_
  refine ex_sipush (pc := 11) 10000 dX11_crankNow_11 (by decide) ?_
  refine ex_irem (pc := 14) dX11_crankNow_14 (by decide) ?_
  obtain ⟨q2, eq2, h⟩ := ob_some h
  refine ex_callV3v (pc := 15) dX11_crankNow_15 jX11_lay lmX11_99 jiX11_lay jvX11_lay (o_X11_lay eq2) rfl (Nat.le_of_ble_eq_true rfl) (s_X11_lay (by omega)  eq2) ?_
  refine ex_aload_n (pc := 18) 0 dX11_crankNow_18 rfl rfl ?_
  refine ex_iload_n (pc := 19) 1 dX11_crankNow_19 rfl rfl ?_
  refine ex_iconst (pc := 20) 0 dX11_crankNow_20 rfl ?_
  refine ex_aload_n (pc := 21) 0 dX11_crankNow_21 rfl rfl ?_
  refine ex_iload_n (pc := 22) 1 dX11_crankNow_22 rfl rfl ?_
  refine ex_iconst (pc := 23) 0 dX11_crankNow_23 rfl ?_
  obtain ⟨v3, ev3, h⟩ := ob_some h
  refine ex_callV2r (pc := 24) dX11_crankNow_24 jX11_get lmX11_107 jiX11_get jvX11_get (o_X11_get ev3) rfl (Nat.le_of_ble_eq_true rfl) (s_X11_get (by omega)  ev3) ?_
  refine ex_iconst (pc := 27) 1 dX11_crankNow_27 rfl ?_
  refine ex_iadd (pc := 28) dX11_crankNow_28 ?_
  obtain ⟨q4, eq4, h⟩ := ob_some h
  refine ex_callV3v (pc := 29) dX11_crankNow_29 jX11_lay lmX11_99 jiX11_lay jvX11_lay (o_X11_lay eq4) rfl (Nat.le_of_ble_eq_true rfl) (s_X11_lay (by omega)  eq4) ?_
  cases h
  exact ex_return (pc := 32) dX11_crankNow_32
noncomputable def f_X11_crankNow (x0 : Nat) (x1 : Int32) (x2 : Int32) (M : Mem) : Option (Mem) := if isOb M 11 x0 = true then f_X11_crankNow_0 x0 x1 x2 M else none
theorem o_X11_crankNow {x0 : Nat} {x1 : Int32} {x2 : Int32} {M : Mem} {res : Mem} (h : f_X11_crankNow x0 x1 x2 M = some res) : isO M 11 x0 := by
  unfold f_X11_crankNow at h
  split at h
  · rename_i hc; exact isOb_iff hc
  · cases h
set_option maxHeartbeats 4000000 in
theorem s_X11_crankNow {X : XV} {d : Nat} (hd : 2 ≤ d) {x0 : Nat} {x1 : Int32} {x2 : Int32} {M : Mem} {res : Mem} (h : f_X11_crankNow x0 x1 x2 M = some res) : Mx X d mX11_crankNow [.ref x0, .int x1, .int x2] M none res := by
  obtain ⟨d, rfl⟩ : ∃ e, d = e + 1 := ⟨d - 1, by omega⟩
  unfold f_X11_crankNow at h
  split at h
  rotate_left
  · cases h
  refine Mx.of (by decide) (Nat.le_of_ble_eq_true rfl) (rfl) ?_
  exact ex_sub (lo' := [(0, .ref x0), (1, .int x1), (2, .int x2)]) [0, 1, 2] rfl (t_X11_crankNow_0 hd _ _ _ _ _  h)
noncomputable def f_X11_crank_0 (x0 : Nat) (x1 : Int32) (x2 : Int32) (M : Mem) : Option (Int32 × Mem) :=
  (f_X11_canCrank x0 x1 M).bind fun v1 =>
  if v1 = false then
  (some ((-1), M))
  else
  ((f_X11_isNumber x2).bind fun v3 =>
  if v3 = true then
  ((f_X11_keep x0 M).bind fun q5 =>
  (f_X11_crankNow x0 x1 x2 q5).bind fun q6 =>
  (f_X11_get x0 x1 2 q6).bind fun v7 =>
  some (v7, q6))
  else
  (some ((-1), M)))
set_option maxHeartbeats 4000000 in
theorem t_X11_crank_0 {X : XV} {d : Nat} (hd : 4 ≤ d + 1) : ∀ (x0 : Nat) (x1 : Int32) (x2 : Int32) (M : Mem) (res : Int32 × Mem), f_X11_crank_0  x0 x1 x2 M = some res → Ex X (d + 1) mX11_crank 0 [(0, .ref x0), (1, .int x1), (2, .int x2)] [] M (some (.int res.1)) res.2 := by
  intro x0 x1 x2 M res  h
  unfold f_X11_crank_0 at h
  refine ex_aload_n (pc := 0) 0 dX11_crank_0 rfl rfl ?_
  refine ex_iload_n (pc := 1) 1 dX11_crank_1 rfl rfl ?_
  obtain ⟨v1, ev1, h⟩ := ob_some h
  refine ex_callV1r (pc := 2) dX11_crank_2 jX11_canCrank lmX11_377 jiX11_canCrank jvX11_canCrank (o_X11_canCrank ev1) rfl (Nat.le_of_ble_eq_true rfl) (s_X11_canCrank (by omega)  ev1) ?_
  by_cases c2 : v1 = false
  · rw [if_pos c2] at h
    refine ex_if_eq_t (pc := 5) 15 dX11_crank_5 rfl (jz_eq_t c2) ?_
    refine ex_iconst (pc := 15) (-1) dX11_crank_15 rfl ?_
    cases h
    exact ex_ireturn (pc := 16) dX11_crank_16
  · rw [if_neg c2] at h
    refine ex_if_eq_f (pc := 5) dX11_crank_5 15 rfl (jz_eq_f c2) ?_
    refine ex_iload_n (pc := 8) 2 dX11_crank_8 rfl rfl ?_
    obtain ⟨v3, ev3, h⟩ := ob_some h
    refine ex_callS1r (pc := 9) dX11_crank_9 jX11_isNumber lmX11_380 jsX11_isNumber (Nat.le_of_ble_eq_true rfl) (s_X11_isNumber (by omega)  ev3) ?_
    by_cases c4 : v3 = true
    · rw [if_pos c4] at h
      refine ex_if_ne_t (pc := 12) 17 dX11_crank_12 rfl (jz_ne_t c4) ?_
      refine ex_aload_n (pc := 17) 0 dX11_crank_17 rfl rfl ?_
      obtain ⟨q5, eq5, h⟩ := ob_some h
      refine ex_callV0v (pc := 18) dX11_crank_18 jX11_keep lmX11_383 jiX11_keep jvX11_keep (o_X11_keep eq5) rfl (Nat.le_of_ble_eq_true rfl) (s_X11_keep (by omega)  eq5) ?_
      refine ex_aload_n (pc := 21) 0 dX11_crank_21 rfl rfl ?_
      refine ex_iload_n (pc := 22) 1 dX11_crank_22 rfl rfl ?_
      refine ex_iload_n (pc := 23) 2 dX11_crank_23 rfl rfl ?_
      obtain ⟨q6, eq6, h⟩ := ob_some h
      refine ex_callV2v (pc := 24) dX11_crank_24 jX11_crankNow lmX11_386 jiX11_crankNow jvX11_crankNow (o_X11_crankNow eq6) rfl (Nat.le_of_ble_eq_true rfl) (s_X11_crankNow (by omega)  eq6) ?_
      refine ex_aload_n (pc := 27) 0 dX11_crank_27 rfl rfl ?_
      refine ex_iload_n (pc := 28) 1 dX11_crank_28 rfl rfl ?_
      refine ex_iconst (pc := 29) 2 dX11_crank_29 rfl ?_
      obtain ⟨v7, ev7, h⟩ := ob_some h
      refine ex_callV2r (pc := 30) dX11_crank_30 jX11_get lmX11_107 jiX11_get jvX11_get (o_X11_get ev7) rfl (Nat.le_of_ble_eq_true rfl) (s_X11_get (by omega)  ev7) ?_
      cases h
      exact ex_ireturn (pc := 33) dX11_crank_33
    · rw [if_neg c4] at h
      refine ex_if_ne_f (pc := 12) dX11_crank_12 17 rfl (jz_ne_f c4) ?_
      refine ex_iconst (pc := 15) (-1) dX11_crank_15 rfl ?_
      cases h
      exact ex_ireturn (pc := 16) dX11_crank_16
noncomputable def f_X11_crank (x0 : Nat) (x1 : Int32) (x2 : Int32) (M : Mem) : Option (Int32 × Mem) := if isOb M 11 x0 = true then f_X11_crank_0 x0 x1 x2 M else none
theorem o_X11_crank {x0 : Nat} {x1 : Int32} {x2 : Int32} {M : Mem} {res : Int32 × Mem} (h : f_X11_crank x0 x1 x2 M = some res) : isO M 11 x0 := by
  unfold f_X11_crank at h
  split at h
  · rename_i hc; exact isOb_iff hc
  · cases h
set_option maxHeartbeats 4000000 in
theorem s_X11_crank {X : XV} {d : Nat} (hd : 4 ≤ d) {x0 : Nat} {x1 : Int32} {x2 : Int32} {M : Mem} {res : Int32 × Mem} (h : f_X11_crank x0 x1 x2 M = some res) : Mx X d mX11_crank [.ref x0, .int x1, .int x2] M (some (.int res.1)) res.2 := by
  obtain ⟨d, rfl⟩ : ∃ e, d = e + 1 := ⟨d - 1, by omega⟩
  unfold f_X11_crank at h
  split at h
  rotate_left
  · cases h
  refine Mx.of (by decide) (Nat.le_of_ble_eq_true rfl) (⟨_, rfl, rfl⟩) ?_
  exact ex_sub (lo' := [(0, .ref x0), (1, .int x1), (2, .int x2)]) [0, 1, 2] rfl (t_X11_crank_0 hd _ _ _ _ _  h)
noncomputable def f_X11_oil_0 (x0 : Nat) (x1 : Int32) (x2 : Int32) (M : Mem) : Option (Bool × Mem) :=
  (f_X11_isMachine x0 x1 M).bind fun v1 =>
  if v1 = false then
  (some (false, M))
  else
  ((f_X11_isDigit x2).bind fun v3 =>
  if v3 = true then
  ((f_X11_keep x0 M).bind fun q5 =>
  (f_X11_lay x0 x1 1 x2 q5).bind fun q6 =>
  some (true, q6))
  else
  (some (false, M)))
set_option maxHeartbeats 4000000 in
theorem t_X11_oil_0 {X : XV} {d : Nat} (hd : 3 ≤ d + 1) : ∀ (x0 : Nat) (x1 : Int32) (x2 : Int32) (M : Mem) (res : Bool × Mem), f_X11_oil_0  x0 x1 x2 M = some res → Ex X (d + 1) mX11_oil 0 [(0, .ref x0), (1, .int x1), (2, .int x2)] [] M (some (.int (jz res.1))) res.2 := by
  intro x0 x1 x2 M res  h
  unfold f_X11_oil_0 at h
  refine ex_aload_n (pc := 0) 0 dX11_oil_0 rfl rfl ?_
  refine ex_iload_n (pc := 1) 1 dX11_oil_1 rfl rfl ?_
  obtain ⟨v1, ev1, h⟩ := ob_some h
  refine ex_callV1r (pc := 2) dX11_oil_2 jX11_isMachine lmX11_374 jiX11_isMachine jvX11_isMachine (o_X11_isMachine ev1) rfl (Nat.le_of_ble_eq_true rfl) (s_X11_isMachine (by omega)  ev1) ?_
  by_cases c2 : v1 = false
  · rw [if_pos c2] at h
    refine ex_if_eq_t (pc := 5) 15 dX11_oil_5 rfl (jz_eq_t c2) ?_
    refine ex_iconst (pc := 15) 0 dX11_oil_15 rfl ?_
    cases h
    exact ex_ireturn (pc := 16) dX11_oil_16
  · rw [if_neg c2] at h
    refine ex_if_eq_f (pc := 5) dX11_oil_5 15 rfl (jz_eq_f c2) ?_
    refine ex_iload_n (pc := 8) 2 dX11_oil_8 rfl rfl ?_
    obtain ⟨v3, ev3, h⟩ := ob_some h
    refine ex_callS1r (pc := 9) dX11_oil_9 jX11_isDigit lmX11_95 jsX11_isDigit (Nat.le_of_ble_eq_true rfl) (s_X11_isDigit (by omega)  ev3) ?_
    by_cases c4 : v3 = true
    · rw [if_pos c4] at h
      refine ex_if_ne_t (pc := 12) 17 dX11_oil_12 rfl (jz_ne_t c4) ?_
      refine ex_aload_n (pc := 17) 0 dX11_oil_17 rfl rfl ?_
      obtain ⟨q5, eq5, h⟩ := ob_some h
      refine ex_callV0v (pc := 18) dX11_oil_18 jX11_keep lmX11_383 jiX11_keep jvX11_keep (o_X11_keep eq5) rfl (Nat.le_of_ble_eq_true rfl) (s_X11_keep (by omega)  eq5) ?_
      refine ex_aload_n (pc := 21) 0 dX11_oil_21 rfl rfl ?_
      refine ex_iload_n (pc := 22) 1 dX11_oil_22 rfl rfl ?_
      refine ex_iconst (pc := 23) 1 dX11_oil_23 rfl ?_
      refine ex_iload_n (pc := 24) 2 dX11_oil_24 rfl rfl ?_
      obtain ⟨q6, eq6, h⟩ := ob_some h
      refine ex_callV3v (pc := 25) dX11_oil_25 jX11_lay lmX11_99 jiX11_lay jvX11_lay (o_X11_lay eq6) rfl (Nat.le_of_ble_eq_true rfl) (s_X11_lay (by omega)  eq6) ?_
      refine ex_iconst (pc := 28) 1 dX11_oil_28 rfl ?_
      cases h
      exact ex_ireturn (pc := 29) dX11_oil_29
    · rw [if_neg c4] at h
      refine ex_if_ne_f (pc := 12) dX11_oil_12 17 rfl (jz_ne_f c4) ?_
      refine ex_iconst (pc := 15) 0 dX11_oil_15 rfl ?_
      cases h
      exact ex_ireturn (pc := 16) dX11_oil_16
noncomputable def f_X11_oil (x0 : Nat) (x1 : Int32) (x2 : Int32) (M : Mem) : Option (Bool × Mem) := if isOb M 11 x0 = true then f_X11_oil_0 x0 x1 x2 M else none
theorem o_X11_oil {x0 : Nat} {x1 : Int32} {x2 : Int32} {M : Mem} {res : Bool × Mem} (h : f_X11_oil x0 x1 x2 M = some res) : isO M 11 x0 := by
  unfold f_X11_oil at h
  split at h
  · rename_i hc; exact isOb_iff hc
  · cases h
set_option maxHeartbeats 4000000 in
theorem s_X11_oil {X : XV} {d : Nat} (hd : 3 ≤ d) {x0 : Nat} {x1 : Int32} {x2 : Int32} {M : Mem} {res : Bool × Mem} (h : f_X11_oil x0 x1 x2 M = some res) : Mx X d mX11_oil [.ref x0, .int x1, .int x2] M (some (.int (jz res.1))) res.2 := by
  obtain ⟨d, rfl⟩ : ∃ e, d = e + 1 := ⟨d - 1, by omega⟩
  unfold f_X11_oil at h
  split at h
  rotate_left
  · cases h
  refine Mx.of (by decide) (Nat.le_of_ble_eq_true rfl) (⟨_, rfl, jz_nar _⟩) ?_
  exact ex_sub (lo' := [(0, .ref x0), (1, .int x1), (2, .int x2)]) [0, 1, 2] rfl (t_X11_oil_0 hd _ _ _ _ _  h)
noncomputable def f_X11_canLift_0 (x0 : Nat) (x1 : Int32) (M : Mem) : Option (Bool) :=
  (f_X11_isMachine x0 x1 M).bind fun v1 =>
  if v1 = false then
  (some false)
  else
  ((f_X11_get x0 x1 3 M).bind fun v3 =>
  if v3 ≤ 0 then
  (some false)
  else
  (some true))
set_option maxHeartbeats 4000000 in
theorem t_X11_canLift_0 {X : XV} {d : Nat} (hd : 3 ≤ d + 1) : ∀ (x0 : Nat) (x1 : Int32) (M : Mem) (res : Bool), f_X11_canLift_0  x0 x1 M = some res → Ex X (d + 1) mX11_canLift 0 [(0, .ref x0), (1, .int x1)] [] M (some (.int (jz res))) M := by
  intro x0 x1 M res  h
  unfold f_X11_canLift_0 at h
  refine ex_aload_n (pc := 0) 0 dX11_canLift_0 rfl rfl ?_
  refine ex_iload_n (pc := 1) 1 dX11_canLift_1 rfl rfl ?_
  obtain ⟨v1, ev1, h⟩ := ob_some h
  refine ex_callV1r (pc := 2) dX11_canLift_2 jX11_isMachine lmX11_374 jiX11_isMachine jvX11_isMachine (o_X11_isMachine ev1) rfl (Nat.le_of_ble_eq_true rfl) (s_X11_isMachine (by omega)  ev1) ?_
  by_cases c2 : v1 = false
  · rw [if_pos c2] at h
    refine ex_if_eq_t (pc := 5) 21 dX11_canLift_5 rfl (jz_eq_t c2) ?_
    refine ex_iconst (pc := 21) 0 dX11_canLift_21 rfl ?_
    cases h
    exact ex_ireturn (pc := 22) dX11_canLift_22
  · rw [if_neg c2] at h
    refine ex_if_eq_f (pc := 5) dX11_canLift_5 21 rfl (jz_eq_f c2) ?_
    refine ex_aload_n (pc := 8) 0 dX11_canLift_8 rfl rfl ?_
    refine ex_iload_n (pc := 9) 1 dX11_canLift_9 rfl rfl ?_
    refine ex_iconst (pc := 10) 3 dX11_canLift_10 rfl ?_
    obtain ⟨v3, ev3, h⟩ := ob_some h
    refine ex_callV2r (pc := 11) dX11_canLift_11 jX11_get lmX11_107 jiX11_get jvX11_get (o_X11_get ev3) rfl (Nat.le_of_ble_eq_true rfl) (s_X11_get (by omega)  ev3) ?_
    by_cases c4 : v3 ≤ 0
    · rw [if_pos c4] at h
      refine ex_if_le_t (pc := 14) 21 dX11_canLift_14 rfl c4 ?_
      refine ex_iconst (pc := 21) 0 dX11_canLift_21 rfl ?_
      cases h
      exact ex_ireturn (pc := 22) dX11_canLift_22
    · rw [if_neg c4] at h
      refine ex_if_le_f (pc := 14) dX11_canLift_14 21 rfl c4 ?_
      refine ex_iconst (pc := 17) 1 dX11_canLift_17 rfl ?_
      refine ex_goto (pc := 18) 22 dX11_canLift_18 rfl ?_
      cases h
      exact ex_ireturn (pc := 22) dX11_canLift_22
noncomputable def f_X11_canLift (x0 : Nat) (x1 : Int32) (M : Mem) : Option (Bool) := if isOb M 11 x0 = true then f_X11_canLift_0 x0 x1 M else none
theorem o_X11_canLift {x0 : Nat} {x1 : Int32} {M : Mem} {res : Bool} (h : f_X11_canLift x0 x1 M = some res) : isO M 11 x0 := by
  unfold f_X11_canLift at h
  split at h
  · rename_i hc; exact isOb_iff hc
  · cases h
set_option maxHeartbeats 4000000 in
theorem s_X11_canLift {X : XV} {d : Nat} (hd : 3 ≤ d) {x0 : Nat} {x1 : Int32} {M : Mem} {res : Bool} (h : f_X11_canLift x0 x1 M = some res) : Mx X d mX11_canLift [.ref x0, .int x1] M (some (.int (jz res))) M := by
  obtain ⟨d, rfl⟩ : ∃ e, d = e + 1 := ⟨d - 1, by omega⟩
  unfold f_X11_canLift at h
  split at h
  rotate_left
  · cases h
  refine Mx.of (by decide) (Nat.le_of_ble_eq_true rfl) (⟨_, rfl, jz_nar _⟩) ?_
  exact ex_sub (lo' := [(0, .ref x0), (1, .int x1)]) [0, 1] rfl (t_X11_canLift_0 hd _ _ _ _  h)
noncomputable def f_X11_lift_0 (x0 : Nat) (x1 : Int32) (M : Mem) : Option (Bool × Mem) :=
  (f_X11_canLift x0 x1 M).bind fun v1 =>
  if v1 = true then
  ((f_X11_keep x0 M).bind fun q3 =>
  (f_X11_clearRoll x0 x1 q3).bind fun q4 =>
  some (true, q4))
  else
  (some (false, M))
set_option maxHeartbeats 4000000 in
theorem t_X11_lift_0 {X : XV} {d : Nat} (hd : 4 ≤ d + 1) : ∀ (x0 : Nat) (x1 : Int32) (M : Mem) (res : Bool × Mem), f_X11_lift_0  x0 x1 M = some res → Ex X (d + 1) mX11_lift 0 [(0, .ref x0), (1, .int x1)] [] M (some (.int (jz res.1))) res.2 := by
  intro x0 x1 M res  h
  unfold f_X11_lift_0 at h
  refine ex_aload_n (pc := 0) 0 dX11_lift_0 rfl rfl ?_
  refine ex_iload_n (pc := 1) 1 dX11_lift_1 rfl rfl ?_
  obtain ⟨v1, ev1, h⟩ := ob_some h
  refine ex_callV1r (pc := 2) dX11_lift_2 jX11_canLift lmX11_389 jiX11_canLift jvX11_canLift (o_X11_canLift ev1) rfl (Nat.le_of_ble_eq_true rfl) (s_X11_canLift (by omega)  ev1) ?_
  by_cases c2 : v1 = true
  · rw [if_pos c2] at h
    refine ex_if_ne_t (pc := 5) 10 dX11_lift_5 rfl (jz_ne_t c2) ?_
    refine ex_aload_n (pc := 10) 0 dX11_lift_10 rfl rfl ?_
    obtain ⟨q3, eq3, h⟩ := ob_some h
    refine ex_callV0v (pc := 11) dX11_lift_11 jX11_keep lmX11_383 jiX11_keep jvX11_keep (o_X11_keep eq3) rfl (Nat.le_of_ble_eq_true rfl) (s_X11_keep (by omega)  eq3) ?_
    refine ex_aload_n (pc := 14) 0 dX11_lift_14 rfl rfl ?_
    refine ex_iload_n (pc := 15) 1 dX11_lift_15 rfl rfl ?_
    obtain ⟨q4, eq4, h⟩ := ob_some h
    refine ex_callV1v (pc := 16) dX11_lift_16 jX11_clearRoll lmX11_341 jiX11_clearRoll jvX11_clearRoll (o_X11_clearRoll eq4) rfl (Nat.le_of_ble_eq_true rfl) (s_X11_clearRoll (by omega)  eq4) ?_
    refine ex_iconst (pc := 19) 1 dX11_lift_19 rfl ?_
    cases h
    exact ex_ireturn (pc := 20) dX11_lift_20
  · rw [if_neg c2] at h
    refine ex_if_ne_f (pc := 5) dX11_lift_5 10 rfl (jz_ne_f c2) ?_
    refine ex_iconst (pc := 8) 0 dX11_lift_8 rfl ?_
    cases h
    exact ex_ireturn (pc := 9) dX11_lift_9
noncomputable def f_X11_lift (x0 : Nat) (x1 : Int32) (M : Mem) : Option (Bool × Mem) := if isOb M 11 x0 = true then f_X11_lift_0 x0 x1 M else none
theorem o_X11_lift {x0 : Nat} {x1 : Int32} {M : Mem} {res : Bool × Mem} (h : f_X11_lift x0 x1 M = some res) : isO M 11 x0 := by
  unfold f_X11_lift at h
  split at h
  · rename_i hc; exact isOb_iff hc
  · cases h
set_option maxHeartbeats 4000000 in
theorem s_X11_lift {X : XV} {d : Nat} (hd : 4 ≤ d) {x0 : Nat} {x1 : Int32} {M : Mem} {res : Bool × Mem} (h : f_X11_lift x0 x1 M = some res) : Mx X d mX11_lift [.ref x0, .int x1] M (some (.int (jz res.1))) res.2 := by
  obtain ⟨d, rfl⟩ : ∃ e, d = e + 1 := ⟨d - 1, by omega⟩
  unfold f_X11_lift at h
  split at h
  rotate_left
  · cases h
  refine Mx.of (by decide) (Nat.le_of_ble_eq_true rfl) (⟨_, rfl, jz_nar _⟩) ?_
  exact ex_sub (lo' := [(0, .ref x0), (1, .int x1)]) [0, 1] rfl (t_X11_lift_0 hd _ _ _ _  h)
noncomputable def f_X11_arePassed_7 (n0 : Nat) (x0 : Nat) (x1 : Int32) (x2 : Int32) (M : Mem) : Option (Bool × Mem) :=
  match n0 with
  | 0 => none
  | n + 1 =>
    if x1 ≤ x2 then
    (some (true, M))
    else
    ((gR M 11 x0 0).bind fun v2 =>
    (rI M v2 8).bind fun v3 =>
    if v3 = 9999 then
    (some (false, M))
    else
    ((f_X11_keep x0 M).bind fun q5 =>
    (f_X11_pass x0 q5).bind fun q6 =>
    f_X11_arePassed_7 n x0 x1 (x2 + 1) q6))
set_option maxHeartbeats 4000000 in
theorem t_X11_arePassed_7 {X : XV} {d : Nat} (hd : 8 ≤ d + 1) : ∀ (n : Nat) (x0 : Nat) (x1 : Int32) (x2 : Int32) (M : Mem) (res : Bool × Mem), f_X11_arePassed_7 n  x0 x1 x2 M = some res → Ex X (d + 1) mX11_arePassed 7 [(0, .ref x0), (1, .int x1), (2, .int x2)] [] M (some (.int (jz res.1))) res.2 := by
  intro n
  induction n with
  | zero =>
    intro x0 x1 x2 M res  h
    unfold f_X11_arePassed_7 at h
    cases h
  | succ n ih =>
    intro x0 x1 x2 M res  h
    unfold f_X11_arePassed_7 at h
    refine ex_iload_n (pc := 7) 2 dX11_arePassed_7 rfl rfl ?_
    refine ex_iload_n (pc := 8) 1 dX11_arePassed_8 rfl rfl ?_
    by_cases c1 : x1 ≤ x2
    · rw [if_pos c1] at h
      refine ex_icmp_ge_t (pc := 9) 41 dX11_arePassed_9 rfl c1 ?_
      refine ex_iconst (pc := 41) 1 dX11_arePassed_41 rfl ?_
      cases h
      exact ex_ireturn (pc := 42) dX11_arePassed_42
    · rw [if_neg c1] at h
      refine ex_icmp_ge_f (pc := 9) dX11_arePassed_9 41 rfl c1 ?_
      refine ex_aload_n (pc := 12) 0 dX11_arePassed_12 rfl rfl ?_
      obtain ⟨v2, ev2, h⟩ := ob_some h
      refine ex_gR (pc := 13) ev2 dX11_arePassed_13 lfX11_7 ?_
      refine ex_bipush (pc := 16) 8 dX11_arePassed_16 (by decide) ?_
      obtain ⟨v3, ev3, h⟩ := ob_some h
      refine ex_rI (pc := 18) ev3 dX11_arePassed_18 ?_
      refine ex_sipush (pc := 19) 9999 dX11_arePassed_19 (by decide) ?_
      by_cases c4 : v3 = 9999
      · rw [if_pos c4] at h
        refine ex_icmp_ne_f (pc := 22) dX11_arePassed_22 27 rfl c4 ?_
        refine ex_iconst (pc := 25) 0 dX11_arePassed_25 rfl ?_
        cases h
        exact ex_ireturn (pc := 26) dX11_arePassed_26
      · rw [if_neg c4] at h
        refine ex_icmp_ne_t (pc := 22) 27 dX11_arePassed_22 rfl c4 ?_
        refine ex_aload_n (pc := 27) 0 dX11_arePassed_27 rfl rfl ?_
        obtain ⟨q5, eq5, h⟩ := ob_some h
        refine ex_callV0v (pc := 28) dX11_arePassed_28 jX11_keep lmX11_383 jiX11_keep jvX11_keep (o_X11_keep eq5) rfl (Nat.le_of_ble_eq_true rfl) (s_X11_keep (by omega)  eq5) ?_
        refine ex_aload_n (pc := 31) 0 dX11_arePassed_31 rfl rfl ?_
        obtain ⟨q6, eq6, h⟩ := ob_some h
        refine ex_callV0v (pc := 32) dX11_arePassed_32 jX11_pass lmX11_392 jiX11_pass jvX11_pass (o_X11_pass eq6) rfl (Nat.le_of_ble_eq_true rfl) (s_X11_pass (by omega)  eq6) ?_
        refine ex_iinc (pc := 35) (x2 + 1) 2 [(2, .int (x2 + 1)), (0, .ref x0), (1, .int x1)] dX11_arePassed_35 rfl rfl (by decide) rfl ?_
        refine ex_goto (pc := 38) 7 dX11_arePassed_38 rfl ?_
        refine ex_sub (lo' := [(0, .ref x0), (1, .int x1), (2, .int (x2 + 1))]) [1, 2, 0] rfl ?_
        exact ih _ _ _ _ _  h
noncomputable def f_X11_arePassed_0 (x0 : Nat) (x1 : Int32) (M : Mem) : Option (Bool × Mem) :=
  (pF M 11 x0 24 (.int 0)).bind fun q7 =>
  f_X11_arePassed_7 fu x0 x1 0 q7
set_option maxHeartbeats 4000000 in
theorem t_X11_arePassed_0 {X : XV} {d : Nat} (hd : 8 ≤ d + 1) : ∀ (x0 : Nat) (x1 : Int32) (M : Mem) (res : Bool × Mem), f_X11_arePassed_0  x0 x1 M = some res → Ex X (d + 1) mX11_arePassed 0 [(0, .ref x0), (1, .int x1)] [] M (some (.int (jz res.1))) res.2 := by
  intro x0 x1 M res  h
  unfold f_X11_arePassed_0 at h
  refine ex_aload_n (pc := 0) 0 dX11_arePassed_0 rfl rfl ?_
  refine ex_iconst (pc := 1) 0 dX11_arePassed_1 rfl ?_
  obtain ⟨q7, eq7, h⟩ := ob_some h
  refine ex_pF (pc := 2) eq7 dX11_arePassed_2 lfX11_362 rfl rfl (fun _ hq => by cases hq; rfl) ?_
  refine ex_iconst (pc := 5) 0 dX11_arePassed_5 rfl ?_
  refine ex_istore_n (pc := 6) [(2, .int 0), (0, .ref x0), (1, .int x1)] dX11_arePassed_6 rfl (by decide) rfl ?_
  refine ex_sub (lo' := [(0, .ref x0), (1, .int x1), (2, .int 0)]) [1, 2, 0] rfl ?_
  exact t_X11_arePassed_7 hd  _ _ _ _ _ _  h
noncomputable def f_X11_arePassed (x0 : Nat) (x1 : Int32) (M : Mem) : Option (Bool × Mem) := if isOb M 11 x0 = true then f_X11_arePassed_0 x0 x1 M else none
theorem o_X11_arePassed {x0 : Nat} {x1 : Int32} {M : Mem} {res : Bool × Mem} (h : f_X11_arePassed x0 x1 M = some res) : isO M 11 x0 := by
  unfold f_X11_arePassed at h
  split at h
  · rename_i hc; exact isOb_iff hc
  · cases h
set_option maxHeartbeats 4000000 in
theorem s_X11_arePassed {X : XV} {d : Nat} (hd : 8 ≤ d) {x0 : Nat} {x1 : Int32} {M : Mem} {res : Bool × Mem} (h : f_X11_arePassed x0 x1 M = some res) : Mx X d mX11_arePassed [.ref x0, .int x1] M (some (.int (jz res.1))) res.2 := by
  obtain ⟨d, rfl⟩ : ∃ e, d = e + 1 := ⟨d - 1, by omega⟩
  unfold f_X11_arePassed at h
  split at h
  rotate_left
  · cases h
  refine Mx.of (by decide) (Nat.le_of_ble_eq_true rfl) (⟨_, rfl, jz_nar _⟩) ?_
  exact ex_sub (lo' := [(0, .ref x0), (1, .int x1)]) [0, 1] rfl (t_X11_arePassed_0 hd _ _ _ _  h)
noncomputable def f_X11_night_0 (x0 : Nat) (x1 : Int32) (M : Mem) : Option (Int32 × Mem) :=
  (f_X11_isIn x1 1 60).bind fun v1 =>
  if v1 = false then
  (some ((-1), M))
  else
  ((gR M 11 x0 0).bind fun v3 =>
  (rI M v3 8).bind fun v4 =>
  if 9999 < (v4 + x1) then
  (some ((-1), M))
  else
  ((f_X11_arePassed x0 x1 M).bind fun q6 =>
  if q6.1 = false then
  (some ((-1), q6.2))
  else
  ((gI q6.2 11 x0 24).bind fun v8 =>
  some (v8, q6.2))))
set_option maxHeartbeats 4000000 in
theorem t_X11_night_0 {X : XV} {d : Nat} (hd : 9 ≤ d + 1) : ∀ (x0 : Nat) (x1 : Int32) (M : Mem) (res : Int32 × Mem), f_X11_night_0  x0 x1 M = some res → Ex X (d + 1) mX11_night 0 [(0, .ref x0), (1, .int x1)] [] M (some (.int res.1)) res.2 := by
  intro x0 x1 M res  h
  unfold f_X11_night_0 at h
  refine ex_iload_n (pc := 0) 1 dX11_night_0 rfl rfl ?_
  refine ex_iconst (pc := 1) 1 dX11_night_1 rfl ?_
  refine ex_bipush (pc := 2) 60 dX11_night_2 (by decide) ?_
  obtain ⟨v1, ev1, h⟩ := ob_some h
  refine ex_callS3r (pc := 4) dX11_night_4 jX11_isIn lmX11_87 jsX11_isIn (Nat.le_of_ble_eq_true rfl) (s_X11_isIn (by omega)  ev1) ?_
  by_cases c2 : v1 = false
  · rw [if_pos c2] at h
    refine ex_if_eq_t (pc := 7) 40 dX11_night_7 rfl (jz_eq_t c2) ?_
    refine ex_iconst (pc := 40) (-1) dX11_night_40 rfl ?_
    cases h
    exact ex_ireturn (pc := 41) dX11_night_41
  · rw [if_neg c2] at h
    refine ex_if_eq_f (pc := 7) dX11_night_7 40 rfl (jz_eq_f c2) ?_
    refine ex_aload_n (pc := 10) 0 dX11_night_10 rfl rfl ?_
    obtain ⟨v3, ev3, h⟩ := ob_some h
    refine ex_gR (pc := 11) ev3 dX11_night_11 lfX11_7 ?_
    refine ex_bipush (pc := 14) 8 dX11_night_14 (by decide) ?_
    obtain ⟨v4, ev4, h⟩ := ob_some h
    refine ex_rI (pc := 16) ev4 dX11_night_16 ?_
    refine ex_iload_n (pc := 17) 1 dX11_night_17 rfl rfl ?_
    refine ex_iadd (pc := 18) dX11_night_18 ?_
    refine ex_sipush (pc := 19) 9999 dX11_night_19 (by decide) ?_
    by_cases c5 : 9999 < (v4 + x1)
    · rw [if_pos c5] at h
      refine ex_icmp_gt_t (pc := 22) 40 dX11_night_22 rfl c5 ?_
      refine ex_iconst (pc := 40) (-1) dX11_night_40 rfl ?_
      cases h
      exact ex_ireturn (pc := 41) dX11_night_41
    · rw [if_neg c5] at h
      refine ex_icmp_gt_f (pc := 22) dX11_night_22 40 rfl c5 ?_
      refine ex_aload_n (pc := 25) 0 dX11_night_25 rfl rfl ?_
      refine ex_iload_n (pc := 26) 1 dX11_night_26 rfl rfl ?_
      obtain ⟨q6, eq6, h⟩ := ob_some h
      refine ex_callV1r (pc := 27) dX11_night_27 jX11_arePassed lmX11_395 jiX11_arePassed jvX11_arePassed (o_X11_arePassed eq6) rfl (Nat.le_of_ble_eq_true rfl) (s_X11_arePassed (by omega)  eq6) ?_
      by_cases c7 : q6.1 = false
      · rw [if_pos c7] at h
        refine ex_if_eq_t (pc := 30) 40 dX11_night_30 rfl (jz_eq_t c7) ?_
        refine ex_iconst (pc := 40) (-1) dX11_night_40 rfl ?_
        cases h
        exact ex_ireturn (pc := 41) dX11_night_41
      · rw [if_neg c7] at h
        refine ex_if_eq_f (pc := 30) dX11_night_30 40 rfl (jz_eq_f c7) ?_
        refine ex_aload_n (pc := 33) 0 dX11_night_33 rfl rfl ?_
        obtain ⟨v8, ev8, h⟩ := ob_some h
        refine ex_gI (pc := 34) ev8 dX11_night_34 lfX11_362 ?_
        refine ex_goto (pc := 37) 41 dX11_night_37 rfl ?_
        cases h
        exact ex_ireturn (pc := 41) dX11_night_41
noncomputable def f_X11_night (x0 : Nat) (x1 : Int32) (M : Mem) : Option (Int32 × Mem) := if isOb M 11 x0 = true then f_X11_night_0 x0 x1 M else none
theorem o_X11_night {x0 : Nat} {x1 : Int32} {M : Mem} {res : Int32 × Mem} (h : f_X11_night x0 x1 M = some res) : isO M 11 x0 := by
  unfold f_X11_night at h
  split at h
  · rename_i hc; exact isOb_iff hc
  · cases h
set_option maxHeartbeats 4000000 in
theorem s_X11_night {X : XV} {d : Nat} (hd : 9 ≤ d) {x0 : Nat} {x1 : Int32} {M : Mem} {res : Int32 × Mem} (h : f_X11_night x0 x1 M = some res) : Mx X d mX11_night [.ref x0, .int x1] M (some (.int res.1)) res.2 := by
  obtain ⟨d, rfl⟩ : ∃ e, d = e + 1 := ⟨d - 1, by omega⟩
  unfold f_X11_night at h
  split at h
  rotate_left
  · cases h
  refine Mx.of (by decide) (Nat.le_of_ble_eq_true rfl) (⟨_, rfl, rfl⟩) ?_
  exact ex_sub (lo' := [(0, .ref x0), (1, .int x1)]) [0, 1] rfl (t_X11_night_0 hd _ _ _ _  h)
noncomputable def f_X11_isPlayed_0 (x0 : Nat) (x1 : Int32) (M : Mem) : Option (Bool × Mem) :=
  (gR M 11 x0 2).bind fun v1 =>
  (rI M v1 (x1 + 1)).bind fun v2 =>
  (gR M 11 x0 2).bind fun v3 =>
  (rI M v3 (x1 + 2)).bind fun v4 =>
  (gR M 11 x0 2).bind fun v5 =>
  (rI M v5 x1).bind fun v6 =>
  if v6 = 3 then
  ((f_X11_machine x0 v2 v4 M).bind fun q8 =>
  if q8.1 < 0 then
  (some (false, q8.2))
  else
  (some (true, q8.2)))
  else
  (if v6 = 4 then
  ((f_X11_rule x0 v2 false v4 M).bind fun q11 =>
  some (q11.1, q11.2))
  else
  (if v6 = 5 then
  ((f_X11_rule x0 v2 true v4 M).bind fun q13 =>
  some (q13.1, q13.2))
  else
  (if v6 = 6 then
  ((f_X11_crank x0 v4 v2 M).bind fun q15 =>
  if q15.1 < 0 then
  (some (false, q15.2))
  else
  (some (true, q15.2)))
  else
  (if v6 = 7 then
  ((f_X11_oil x0 v2 v4 M).bind fun q18 =>
  some (q18.1, q18.2))
  else
  (if v6 = 8 then
  ((f_X11_lift x0 v2 M).bind fun q20 =>
  some (q20.1, q20.2))
  else
  (if v6 = 9 then
  ((f_X11_arePassed x0 v2 M).bind fun q22 =>
  some (q22.1, q22.2))
  else
  (some (true, M))))))))
set_option maxHeartbeats 4000000 in
theorem t_X11_isPlayed_0 {X : XV} {d : Nat} (hd : 9 ≤ d + 1) : ∀ (x0 : Nat) (x1 : Int32) (M : Mem) (res : Bool × Mem), f_X11_isPlayed_0  x0 x1 M = some res → Ex X (d + 1) mX11_isPlayed 0 [(0, .ref x0), (1, .int x1)] [] M (some (.int (jz res.1))) res.2 := by
  intro x0 x1 M res  h
  unfold f_X11_isPlayed_0 at h
  refine ex_aload_n (pc := 0) 0 dX11_isPlayed_0 rfl rfl ?_
  obtain ⟨v1, ev1, h⟩ := ob_some h
  refine ex_gR (pc := 1) ev1 dX11_isPlayed_1 lfX11_16 ?_
  refine ex_iload_n (pc := 4) 1 dX11_isPlayed_4 rfl rfl ?_
  refine ex_iconst (pc := 5) 1 dX11_isPlayed_5 rfl ?_
  refine ex_iadd (pc := 6) dX11_isPlayed_6 ?_
  obtain ⟨v2, ev2, h⟩ := ob_some h
  refine ex_rI (pc := 7) ev2 dX11_isPlayed_7 ?_
  refine ex_istore_n (pc := 8) [(2, .int v2), (0, .ref x0), (1, .int x1)] dX11_isPlayed_8 rfl (by decide) rfl ?_
  refine ex_aload_n (pc := 9) 1 dX11_isPlayed_9 rfl rfl ?_
  obtain ⟨v3, ev3, h⟩ := ob_some h
  refine ex_gR (pc := 10) ev3 dX11_isPlayed_10 lfX11_16 ?_
  refine ex_iload_n (pc := 13) 2 dX11_isPlayed_13 rfl rfl ?_
  refine ex_iconst (pc := 14) 2 dX11_isPlayed_14 rfl ?_
  refine ex_iadd (pc := 15) dX11_isPlayed_15 ?_
  obtain ⟨v4, ev4, h⟩ := ob_some h
  refine ex_rI (pc := 16) ev4 dX11_isPlayed_16 ?_
  refine ex_istore_n (pc := 17) [(3, .int v4), (2, .int v2), (0, .ref x0), (1, .int x1)] dX11_isPlayed_17 rfl (by decide) rfl ?_
  refine ex_aload_n (pc := 18) 2 dX11_isPlayed_18 rfl rfl ?_
  obtain ⟨v5, ev5, h⟩ := ob_some h
  refine ex_gR (pc := 19) ev5 dX11_isPlayed_19 lfX11_16 ?_
  refine ex_iload_n (pc := 22) 3 dX11_isPlayed_22 rfl rfl ?_
  obtain ⟨v6, ev6, h⟩ := ob_some h
  refine ex_rI (pc := 23) ev6 dX11_isPlayed_23 ?_
  by_cases c7 : v6 = 3
  · rw [if_pos c7] at h
    refine ex_tabIn (pc := 24) 68 dX11_isPlayed_24 (by rw [c7]; decide) (by rw [c7]; decide) (by rw [c7]; rfl) rfl ?_
    refine ex_aload_n (pc := 68) 2 dX11_isPlayed_68 rfl rfl ?_
    refine ex_iload_n (pc := 69) 1 dX11_isPlayed_69 rfl rfl ?_
    refine ex_iload_n (pc := 70) 0 dX11_isPlayed_70 rfl rfl ?_
    obtain ⟨q8, eq8, h⟩ := ob_some h
    refine ex_callV2r (pc := 71) dX11_isPlayed_71 jX11_machine lmX11_398 jiX11_machine jvX11_machine (o_X11_machine eq8) rfl (Nat.le_of_ble_eq_true rfl) (s_X11_machine (by omega)  eq8) ?_
    by_cases c9 : q8.1 < 0
    · rw [if_pos c9] at h
      refine ex_if_lt_t (pc := 74) 81 dX11_isPlayed_74 rfl c9 ?_
      refine ex_iconst (pc := 81) 0 dX11_isPlayed_81 rfl ?_
      cases h
      exact ex_ireturn (pc := 82) dX11_isPlayed_82
    · rw [if_neg c9] at h
      refine ex_if_lt_f (pc := 74) dX11_isPlayed_74 81 rfl c9 ?_
      refine ex_iconst (pc := 77) 1 dX11_isPlayed_77 rfl ?_
      refine ex_goto (pc := 78) 82 dX11_isPlayed_78 rfl ?_
      cases h
      exact ex_ireturn (pc := 82) dX11_isPlayed_82
  · rw [if_neg c7] at h
    by_cases c10 : v6 = 4
    · rw [if_pos c10] at h
      refine ex_tabIn (pc := 24) 83 dX11_isPlayed_24 (by rw [c10]; decide) (by rw [c10]; decide) (by rw [c10]; rfl) rfl ?_
      refine ex_aload_n (pc := 83) 2 dX11_isPlayed_83 rfl rfl ?_
      refine ex_iload_n (pc := 84) 1 dX11_isPlayed_84 rfl rfl ?_
      refine ex_iconst (pc := 85) 0 dX11_isPlayed_85 rfl ?_
      refine ex_iload_n (pc := 86) 0 dX11_isPlayed_86 rfl rfl ?_
      obtain ⟨q11, eq11, h⟩ := ob_some h
      refine ex_callV3r (pc := 87) dX11_isPlayed_87 jX11_rule lmX11_401 jiX11_rule jvX11_rule (o_X11_rule eq11) rfl (Nat.le_of_ble_eq_true rfl) (s_X11_rule (by omega)  eq11) ?_
      cases h
      exact ex_ireturn (pc := 90) dX11_isPlayed_90
    · rw [if_neg c10] at h
      by_cases c12 : v6 = 5
      · rw [if_pos c12] at h
        refine ex_tabIn (pc := 24) 91 dX11_isPlayed_24 (by rw [c12]; decide) (by rw [c12]; decide) (by rw [c12]; rfl) rfl ?_
        refine ex_aload_n (pc := 91) 2 dX11_isPlayed_91 rfl rfl ?_
        refine ex_iload_n (pc := 92) 1 dX11_isPlayed_92 rfl rfl ?_
        refine ex_iconst (pc := 93) 1 dX11_isPlayed_93 rfl ?_
        refine ex_iload_n (pc := 94) 0 dX11_isPlayed_94 rfl rfl ?_
        obtain ⟨q13, eq13, h⟩ := ob_some h
        refine ex_callV3r (pc := 95) dX11_isPlayed_95 jX11_rule lmX11_401 jiX11_rule jvX11_rule (o_X11_rule eq13) rfl (Nat.le_of_ble_eq_true rfl) (s_X11_rule (by omega)  eq13) ?_
        cases h
        exact ex_ireturn (pc := 98) dX11_isPlayed_98
      · rw [if_neg c12] at h
        by_cases c14 : v6 = 6
        · rw [if_pos c14] at h
          refine ex_tabIn (pc := 24) 99 dX11_isPlayed_24 (by rw [c14]; decide) (by rw [c14]; decide) (by rw [c14]; rfl) rfl ?_
          refine ex_aload_n (pc := 99) 2 dX11_isPlayed_99 rfl rfl ?_
          refine ex_iload_n (pc := 100) 0 dX11_isPlayed_100 rfl rfl ?_
          refine ex_iload_n (pc := 101) 1 dX11_isPlayed_101 rfl rfl ?_
          obtain ⟨q15, eq15, h⟩ := ob_some h
          refine ex_callV2r (pc := 102) dX11_isPlayed_102 jX11_crank lmX11_405 jiX11_crank jvX11_crank (o_X11_crank eq15) rfl (Nat.le_of_ble_eq_true rfl) (s_X11_crank (by omega)  eq15) ?_
          by_cases c16 : q15.1 < 0
          · rw [if_pos c16] at h
            refine ex_if_lt_t (pc := 105) 112 dX11_isPlayed_105 rfl c16 ?_
            refine ex_iconst (pc := 112) 0 dX11_isPlayed_112 rfl ?_
            cases h
            exact ex_ireturn (pc := 113) dX11_isPlayed_113
          · rw [if_neg c16] at h
            refine ex_if_lt_f (pc := 105) dX11_isPlayed_105 112 rfl c16 ?_
            refine ex_iconst (pc := 108) 1 dX11_isPlayed_108 rfl ?_
            refine ex_goto (pc := 109) 113 dX11_isPlayed_109 rfl ?_
            cases h
            exact ex_ireturn (pc := 113) dX11_isPlayed_113
        · rw [if_neg c14] at h
          by_cases c17 : v6 = 7
          · rw [if_pos c17] at h
            refine ex_tabIn (pc := 24) 114 dX11_isPlayed_24 (by rw [c17]; decide) (by rw [c17]; decide) (by rw [c17]; rfl) rfl ?_
            refine ex_aload_n (pc := 114) 2 dX11_isPlayed_114 rfl rfl ?_
            refine ex_iload_n (pc := 115) 1 dX11_isPlayed_115 rfl rfl ?_
            refine ex_iload_n (pc := 116) 0 dX11_isPlayed_116 rfl rfl ?_
            obtain ⟨q18, eq18, h⟩ := ob_some h
            refine ex_callV2r (pc := 117) dX11_isPlayed_117 jX11_oil lmX11_408 jiX11_oil jvX11_oil (o_X11_oil eq18) rfl (Nat.le_of_ble_eq_true rfl) (s_X11_oil (by omega)  eq18) ?_
            cases h
            exact ex_ireturn (pc := 120) dX11_isPlayed_120
          · rw [if_neg c17] at h
            by_cases c19 : v6 = 8
            · rw [if_pos c19] at h
              refine ex_tabIn (pc := 24) 121 dX11_isPlayed_24 (by rw [c19]; decide) (by rw [c19]; decide) (by rw [c19]; rfl) rfl ?_
              refine ex_aload_n (pc := 121) 2 dX11_isPlayed_121 rfl rfl ?_
              refine ex_iload_n (pc := 122) 1 dX11_isPlayed_122 rfl rfl ?_
              obtain ⟨q20, eq20, h⟩ := ob_some h
              refine ex_callV1r (pc := 123) dX11_isPlayed_123 jX11_lift lmX11_411 jiX11_lift jvX11_lift (o_X11_lift eq20) rfl (Nat.le_of_ble_eq_true rfl) (s_X11_lift (by omega)  eq20) ?_
              cases h
              exact ex_ireturn (pc := 126) dX11_isPlayed_126
            · rw [if_neg c19] at h
              by_cases c21 : v6 = 9
              · rw [if_pos c21] at h
                refine ex_tabIn (pc := 24) 127 dX11_isPlayed_24 (by rw [c21]; decide) (by rw [c21]; decide) (by rw [c21]; rfl) rfl ?_
                refine ex_aload_n (pc := 127) 2 dX11_isPlayed_127 rfl rfl ?_
                refine ex_iload_n (pc := 128) 1 dX11_isPlayed_128 rfl rfl ?_
                obtain ⟨q22, eq22, h⟩ := ob_some h
                refine ex_callV1r (pc := 129) dX11_isPlayed_129 jX11_arePassed lmX11_395 jiX11_arePassed jvX11_arePassed (o_X11_arePassed eq22) rfl (Nat.le_of_ble_eq_true rfl) (s_X11_arePassed (by omega)  eq22) ?_
                cases h
                exact ex_ireturn (pc := 132) dX11_isPlayed_132
              · rw [if_neg c21] at h
                have zc7 : ¬ (v6).toInt = 3 := fun e9 => c7 (i32_of e9 (by decide))
                have zc10 : ¬ (v6).toInt = 4 := fun e9 => c10 (i32_of e9 (by decide))
                have zc12 : ¬ (v6).toInt = 5 := fun e9 => c12 (i32_of e9 (by decide))
                have zc14 : ¬ (v6).toInt = 6 := fun e9 => c14 (i32_of e9 (by decide))
                have zc17 : ¬ (v6).toInt = 7 := fun e9 => c17 (i32_of e9 (by decide))
                have zc19 : ¬ (v6).toInt = 8 := fun e9 => c19 (i32_of e9 (by decide))
                have zc21 : ¬ (v6).toInt = 9 := fun e9 => c21 (i32_of e9 (by decide))
                refine ex_tabOut (pc := 24) 133 dX11_isPlayed_24 (by omega) rfl ?_
                refine ex_iconst (pc := 133) 1 dX11_isPlayed_133 rfl ?_
                cases h
                exact ex_ireturn (pc := 134) dX11_isPlayed_134
noncomputable def f_X11_isPlayed (x0 : Nat) (x1 : Int32) (M : Mem) : Option (Bool × Mem) := if isOb M 11 x0 = true then f_X11_isPlayed_0 x0 x1 M else none
theorem o_X11_isPlayed {x0 : Nat} {x1 : Int32} {M : Mem} {res : Bool × Mem} (h : f_X11_isPlayed x0 x1 M = some res) : isO M 11 x0 := by
  unfold f_X11_isPlayed at h
  split at h
  · rename_i hc; exact isOb_iff hc
  · cases h
set_option maxHeartbeats 4000000 in
theorem s_X11_isPlayed {X : XV} {d : Nat} (hd : 9 ≤ d) {x0 : Nat} {x1 : Int32} {M : Mem} {res : Bool × Mem} (h : f_X11_isPlayed x0 x1 M = some res) : Mx X d mX11_isPlayed [.ref x0, .int x1] M (some (.int (jz res.1))) res.2 := by
  obtain ⟨d, rfl⟩ : ∃ e, d = e + 1 := ⟨d - 1, by omega⟩
  unfold f_X11_isPlayed at h
  split at h
  rotate_left
  · cases h
  refine Mx.of (by decide) (Nat.le_of_ble_eq_true rfl) (⟨_, rfl, jz_nar _⟩) ?_
  exact ex_sub (lo' := [(0, .ref x0), (1, .int x1)]) [0, 1] rfl (t_X11_isPlayed_0 hd _ _ _ _  h)
noncomputable def f_X11_played_21 (n0 : Nat) (x0 : Nat) (x1 : Int32) (x2 : Int32) (M : Mem) : Option (Int32 × Mem) :=
  match n0 with
  | 0 => none
  | n + 1 =>
    (gR M 11 x0 2).bind fun v1 =>
    (rI M v1 (705 * x1)).bind fun v2 =>
    if v2 ≤ x2 then
    (some ((-1), M))
    else
    ((f_X11_isPlayed x0 (((705 * x1) + 1) + (4 * x2)) M).bind fun q4 =>
    if q4.1 = true then
    (f_X11_played_21 n x0 x1 (x2 + 1) q4.2)
    else
    (some (x2, q4.2)))
set_option maxHeartbeats 4000000 in
theorem t_X11_played_21 {X : XV} {d : Nat} (hd : 10 ≤ d + 1) : ∀ (n : Nat) (x0 : Nat) (x1 : Int32) (x2 : Int32) (M : Mem) (res : Int32 × Mem), f_X11_played_21 n  x0 x1 x2 M = some res → Ex X (d + 1) mX11_played 21 [(0, .ref x0), (1, .int x1), (2, .int x2)] [] M (some (.int res.1)) res.2 := by
  intro n
  induction n with
  | zero =>
    intro x0 x1 x2 M res  h
    unfold f_X11_played_21 at h
    cases h
  | succ n ih =>
    intro x0 x1 x2 M res  h
    unfold f_X11_played_21 at h
    refine ex_iload_n (pc := 21) 2 dX11_played_21 rfl rfl ?_
    refine ex_aload_n (pc := 22) 0 dX11_played_22 rfl rfl ?_
    obtain ⟨v1, ev1, h⟩ := ob_some h
    refine ex_gR (pc := 23) ev1 dX11_played_23 lfX11_16 ?_
    refine ex_sipush (pc := 26) 705 dX11_played_26 (by decide) ?_
    refine ex_iload_n (pc := 29) 1 dX11_played_29 rfl rfl ?_
    refine ex_imul (pc := 30) dX11_played_30 ?_
    obtain ⟨v2, ev2, h⟩ := ob_some h
    refine ex_rI (pc := 31) ev2 dX11_played_31 ?_
    by_cases c3 : v2 ≤ x2
    · rw [if_pos c3] at h
      refine ex_icmp_ge_t (pc := 32) 61 dX11_played_32 rfl c3 ?_
      refine ex_iconst (pc := 61) (-1) dX11_played_61 rfl ?_
      cases h
      exact ex_ireturn (pc := 62) dX11_played_62
    · rw [if_neg c3] at h
      refine ex_icmp_ge_f (pc := 32) dX11_played_32 61 rfl c3 ?_
      refine ex_aload_n (pc := 35) 0 dX11_played_35 rfl rfl ?_
      refine ex_sipush (pc := 36) 705 dX11_played_36 (by decide) ?_
      refine ex_iload_n (pc := 39) 1 dX11_played_39 rfl rfl ?_
      refine ex_imul (pc := 40) dX11_played_40 ?_
      refine ex_iconst (pc := 41) 1 dX11_played_41 rfl ?_
      refine ex_iadd (pc := 42) dX11_played_42 ?_
      refine ex_iconst (pc := 43) 4 dX11_played_43 rfl ?_
      refine ex_iload_n (pc := 44) 2 dX11_played_44 rfl rfl ?_
      refine ex_imul (pc := 45) dX11_played_45 ?_
      refine ex_iadd (pc := 46) dX11_played_46 ?_
      obtain ⟨q4, eq4, h⟩ := ob_some h
      refine ex_callV1r (pc := 47) dX11_played_47 jX11_isPlayed lmX11_414 jiX11_isPlayed jvX11_isPlayed (o_X11_isPlayed eq4) rfl (Nat.le_of_ble_eq_true rfl) (s_X11_isPlayed (by omega)  eq4) ?_
      by_cases c5 : q4.1 = true
      · rw [if_pos c5] at h
        refine ex_if_ne_t (pc := 50) 55 dX11_played_50 rfl (jz_ne_t c5) ?_
        refine ex_iinc (pc := 55) (x2 + 1) 2 [(2, .int (x2 + 1)), (0, .ref x0), (1, .int x1)] dX11_played_55 rfl rfl (by decide) rfl ?_
        refine ex_goto (pc := 58) 21 dX11_played_58 rfl ?_
        refine ex_sub (lo' := [(0, .ref x0), (1, .int x1), (2, .int (x2 + 1))]) [1, 2, 0] rfl ?_
        exact ih _ _ _ _ _  h
      · rw [if_neg c5] at h
        refine ex_if_ne_f (pc := 50) dX11_played_50 55 rfl (jz_ne_f c5) ?_
        refine ex_iload_n (pc := 53) 2 dX11_played_53 rfl rfl ?_
        cases h
        exact ex_ireturn (pc := 54) dX11_played_54
noncomputable def f_X11_played_0 (x0 : Nat) (x1 : Int32) (M : Mem) : Option (Int32 × Mem) :=
  (gR M 11 x0 0).bind fun v6 =>
  (rI M v6 1).bind fun v7 =>
  (f_X11_isIn x1 0 (v7 - 1)).bind fun v8 =>
  if v8 = true then
  (f_X11_played_21 fu x0 x1 0 M)
  else
  (some ((-2), M))
set_option maxHeartbeats 4000000 in
theorem t_X11_played_0 {X : XV} {d : Nat} (hd : 10 ≤ d + 1) : ∀ (x0 : Nat) (x1 : Int32) (M : Mem) (res : Int32 × Mem), f_X11_played_0  x0 x1 M = some res → Ex X (d + 1) mX11_played 0 [(0, .ref x0), (1, .int x1)] [] M (some (.int res.1)) res.2 := by
  intro x0 x1 M res  h
  unfold f_X11_played_0 at h
  refine ex_iload_n (pc := 0) 1 dX11_played_0 rfl rfl ?_
  refine ex_iconst (pc := 1) 0 dX11_played_1 rfl ?_
  refine ex_aload_n (pc := 2) 0 dX11_played_2 rfl rfl ?_
  obtain ⟨v6, ev6, h⟩ := ob_some h
  refine ex_gR (pc := 3) ev6 dX11_played_3 lfX11_7 ?_
  refine ex_iconst (pc := 6) 1 dX11_played_6 rfl ?_
  obtain ⟨v7, ev7, h⟩ := ob_some h
  refine ex_rI (pc := 7) ev7 dX11_played_7 ?_
  refine ex_iconst (pc := 8) 1 dX11_played_8 rfl ?_
  refine ex_isub (pc := 9) dX11_played_9 ?_
  obtain ⟨v8, ev8, h⟩ := ob_some h
  refine ex_callS3r (pc := 10) dX11_played_10 jX11_isIn lmX11_87 jsX11_isIn (Nat.le_of_ble_eq_true rfl) (s_X11_isIn (by omega)  ev8) ?_
  by_cases c9 : v8 = true
  · rw [if_pos c9] at h
    refine ex_if_ne_t (pc := 13) 19 dX11_played_13 rfl (jz_ne_t c9) ?_
    refine ex_iconst (pc := 19) 0 dX11_played_19 rfl ?_
    refine ex_istore_n (pc := 20) [(2, .int 0), (0, .ref x0), (1, .int x1)] dX11_played_20 rfl (by decide) rfl ?_
    refine ex_sub (lo' := [(0, .ref x0), (1, .int x1), (2, .int 0)]) [1, 2, 0] rfl ?_
    exact t_X11_played_21 hd  _ _ _ _ _ _  h
  · rw [if_neg c9] at h
    refine ex_if_ne_f (pc := 13) dX11_played_13 19 rfl (jz_ne_f c9) ?_
    refine ex_bipush (pc := 16) (-2) dX11_played_16 (by decide) ?_
    cases h
    exact ex_ireturn (pc := 18) dX11_played_18
noncomputable def f_X11_played (x0 : Nat) (x1 : Int32) (M : Mem) : Option (Int32 × Mem) := if isOb M 11 x0 = true then f_X11_played_0 x0 x1 M else none
theorem o_X11_played {x0 : Nat} {x1 : Int32} {M : Mem} {res : Int32 × Mem} (h : f_X11_played x0 x1 M = some res) : isO M 11 x0 := by
  unfold f_X11_played at h
  split at h
  · rename_i hc; exact isOb_iff hc
  · cases h
set_option maxHeartbeats 4000000 in
theorem s_X11_played {X : XV} {d : Nat} (hd : 10 ≤ d) {x0 : Nat} {x1 : Int32} {M : Mem} {res : Int32 × Mem} (h : f_X11_played x0 x1 M = some res) : Mx X d mX11_played [.ref x0, .int x1] M (some (.int res.1)) res.2 := by
  obtain ⟨d, rfl⟩ : ∃ e, d = e + 1 := ⟨d - 1, by omega⟩
  unfold f_X11_played at h
  split at h
  rotate_left
  · cases h
  refine Mx.of (by decide) (Nat.le_of_ble_eq_true rfl) (⟨_, rfl, rfl⟩) ?_
  exact ex_sub (lo' := [(0, .ref x0), (1, .int x1)]) [0, 1] rfl (t_X11_played_0 hd _ _ _ _  h)
noncomputable def f_X11_happens_0 (x0 : Nat) (x1 : Int32) (M : Mem) : Option (Mem) :=
  if (jrem x1 5) = 4 then
  ((gR M 11 x0 0).bind fun v15 =>
  (rI M v15 8).bind fun v16 =>
  if 9999 ≤ v16 then
  (some M)
  else
  ((f_X11_pass x0 M).bind fun q18 =>
  some q18))
  else
  ((gR M 11 x0 0).bind fun v2 =>
  (rI M v2 0).bind fun v3 =>
  if v3 = 0 then
  (some M)
  else
  ((gR M 11 x0 0).bind fun v5 =>
  (rI M v5 0).bind fun v6 =>
  (rmI x1 v6).bind fun v7 =>
  if (jrem x1 5) = 2 then
  ((f_X11_lay x0 v7 1 (jrem x1 10) M).bind fun q14 =>
  some q14)
  else
  (if (jrem x1 5) = 3 then
  ((f_X11_clearRoll x0 v7 M).bind fun q13 =>
  some q13)
  else
  ((f_X11_canCrank x0 v7 M).bind fun v10 =>
  if v10 = false then
  (some M)
  else
  ((f_X11_crankNow x0 v7 (jrem x1 997) M).bind fun q12 =>
  some q12)))))
set_option maxHeartbeats 4000000 in
theorem t_X11_happens_0 {X : XV} {d : Nat} (hd : 8 ≤ d + 1) : ∀ (x0 : Nat) (x1 : Int32) (M : Mem) (res : Mem), f_X11_happens_0  x0 x1 M = some res → Ex X (d + 1) mX11_happens 0 [(0, .ref x0), (1, .int x1)] [] M none res := by
  intro x0 x1 M res  h
  unfold f_X11_happens_0 at h
  refine ex_iload_n (pc := 0) 1 dX11_happens_0 rfl rfl ?_
  refine ex_iconst (pc := 1) 5 dX11_happens_1 rfl ?_
  refine ex_irem (pc := 2) dX11_happens_2 (by decide) ?_
  refine ex_iconst (pc := 3) 4 dX11_happens_3 rfl ?_
  by_cases c1 : (jrem x1 5) = 4
  · rw [if_pos c1] at h
    refine ex_icmp_ne_f (pc := 4) dX11_happens_4 25 rfl c1 ?_
    refine ex_aload_n (pc := 7) 0 dX11_happens_7 rfl rfl ?_
    obtain ⟨v15, ev15, h⟩ := ob_some h
    refine ex_gR (pc := 8) ev15 dX11_happens_8 lfX11_7 ?_
    refine ex_bipush (pc := 11) 8 dX11_happens_11 (by decide) ?_
    obtain ⟨v16, ev16, h⟩ := ob_some h
    refine ex_rI (pc := 13) ev16 dX11_happens_13 ?_
    refine ex_sipush (pc := 14) 9999 dX11_happens_14 (by decide) ?_
    by_cases c17 : 9999 ≤ v16
    · rw [if_pos c17] at h
      refine ex_icmp_ge_t (pc := 17) 24 dX11_happens_17 rfl c17 ?_
      cases h
      exact ex_return (pc := 24) dX11_happens_24
    · rw [if_neg c17] at h
      refine ex_icmp_ge_f (pc := 17) dX11_happens_17 24 rfl c17 ?_
      refine ex_aload_n (pc := 20) 0 dX11_happens_20 rfl rfl ?_
      obtain ⟨q18, eq18, h⟩ := ob_some h
      refine ex_callV0v (pc := 21) dX11_happens_21 jX11_pass lmX11_392 jiX11_pass jvX11_pass (o_X11_pass eq18) rfl (Nat.le_of_ble_eq_true rfl) (s_X11_pass (by omega)  eq18) ?_
      cases h
      exact ex_return (pc := 24) dX11_happens_24
  · rw [if_neg c1] at h
    refine ex_icmp_ne_t (pc := 4) 25 dX11_happens_4 rfl c1 ?_
    refine ex_aload_n (pc := 25) 0 dX11_happens_25 rfl rfl ?_
    obtain ⟨v2, ev2, h⟩ := ob_some h
    refine ex_gR (pc := 26) ev2 dX11_happens_26 lfX11_7 ?_
    refine ex_iconst (pc := 29) 0 dX11_happens_29 rfl ?_
    obtain ⟨v3, ev3, h⟩ := ob_some h
    refine ex_rI (pc := 30) ev3 dX11_happens_30 ?_
    by_cases c4 : v3 = 0
    · rw [if_pos c4] at h
      refine ex_if_ne_f (pc := 31) dX11_happens_31 35 rfl c4 ?_
      cases h
      exact ex_return (pc := 34) dX11_happens_34
    · rw [if_neg c4] at h
      refine ex_if_ne_t (pc := 31) 35 dX11_happens_31 rfl c4 ?_
      refine ex_iload_n (pc := 35) 1 dX11_happens_35 rfl rfl ?_
      refine ex_aload_n (pc := 36) 0 dX11_happens_36 rfl rfl ?_
      obtain ⟨v5, ev5, h⟩ := ob_some h
      refine ex_gR (pc := 37) ev5 dX11_happens_37 lfX11_7 ?_
      refine ex_iconst (pc := 40) 0 dX11_happens_40 rfl ?_
      obtain ⟨v6, ev6, h⟩ := ob_some h
      refine ex_rI (pc := 41) ev6 dX11_happens_41 ?_
      obtain ⟨v7, ev7, h⟩ := ob_some h
      refine ex_iremq (pc := 42) ev7 dX11_happens_42 ?_
      refine ex_istore_n (pc := 43) [(2, .int v7), (0, .ref x0), (1, .int x1)] dX11_happens_43 rfl (by decide) rfl ?_
      refine ex_iload_n (pc := 44) 2 dX11_happens_44 rfl rfl ?_
      refine ex_iconst (pc := 45) 5 dX11_happens_45 rfl ?_
      refine ex_irem (pc := 46) dX11_happens_46 (by decide) ?_
      refine ex_iconst (pc := 47) 2 dX11_happens_47 rfl ?_
      by_cases c8 : (jrem x1 5) = 2
      · rw [if_pos c8] at h
        refine ex_icmp_ne_f (pc := 48) dX11_happens_48 64 rfl c8 ?_
        refine ex_aload_n (pc := 51) 1 dX11_happens_51 rfl rfl ?_
        refine ex_iload_n (pc := 52) 0 dX11_happens_52 rfl rfl ?_
        refine ex_iconst (pc := 53) 1 dX11_happens_53 rfl ?_
        refine ex_iload_n (pc := 54) 2 dX11_happens_54 rfl rfl ?_
        refine ex_bipush (pc := 55) 10 dX11_happens_55 (by decide) ?_
        refine ex_irem (pc := 57) dX11_happens_57 (by decide) ?_
        obtain ⟨q14, eq14, h⟩ := ob_some h
        refine ex_callV3v (pc := 58) dX11_happens_58 jX11_lay lmX11_99 jiX11_lay jvX11_lay (o_X11_lay eq14) rfl (Nat.le_of_ble_eq_true rfl) (s_X11_lay (by omega)  eq14) ?_
        refine ex_goto (pc := 61) 97 dX11_happens_61 rfl ?_
        cases h
        exact ex_return (pc := 97) dX11_happens_97
      · rw [if_neg c8] at h
        refine ex_icmp_ne_t (pc := 48) 64 dX11_happens_48 rfl c8 ?_
        refine ex_iload_n (pc := 64) 2 dX11_happens_64 rfl rfl ?_
        refine ex_iconst (pc := 65) 5 dX11_happens_65 rfl ?_
        refine ex_irem (pc := 66) dX11_happens_66 (by decide) ?_
        refine ex_iconst (pc := 67) 3 dX11_happens_67 rfl ?_
        by_cases c9 : (jrem x1 5) = 3
        · rw [if_pos c9] at h
          refine ex_icmp_ne_f (pc := 68) dX11_happens_68 79 rfl c9 ?_
          refine ex_aload_n (pc := 71) 1 dX11_happens_71 rfl rfl ?_
          refine ex_iload_n (pc := 72) 0 dX11_happens_72 rfl rfl ?_
          obtain ⟨q13, eq13, h⟩ := ob_some h
          refine ex_callV1v (pc := 73) dX11_happens_73 jX11_clearRoll lmX11_341 jiX11_clearRoll jvX11_clearRoll (o_X11_clearRoll eq13) rfl (Nat.le_of_ble_eq_true rfl) (s_X11_clearRoll (by omega)  eq13) ?_
          refine ex_goto (pc := 76) 97 dX11_happens_76 rfl ?_
          cases h
          exact ex_return (pc := 97) dX11_happens_97
        · rw [if_neg c9] at h
          refine ex_icmp_ne_t (pc := 68) 79 dX11_happens_68 rfl c9 ?_
          refine ex_aload_n (pc := 79) 1 dX11_happens_79 rfl rfl ?_
          refine ex_iload_n (pc := 80) 0 dX11_happens_80 rfl rfl ?_
          obtain ⟨v10, ev10, h⟩ := ob_some h
          refine ex_callV1r (pc := 81) dX11_happens_81 jX11_canCrank lmX11_377 jiX11_canCrank jvX11_canCrank (o_X11_canCrank ev10) rfl (Nat.le_of_ble_eq_true rfl) (s_X11_canCrank (by omega)  ev10) ?_
          by_cases c11 : v10 = false
          · rw [if_pos c11] at h
            refine ex_if_eq_t (pc := 84) 97 dX11_happens_84 rfl (jz_eq_t c11) ?_
            cases h
            exact ex_return (pc := 97) dX11_happens_97
          · rw [if_neg c11] at h
            refine ex_if_eq_f (pc := 84) dX11_happens_84 97 rfl (jz_eq_f c11) ?_
            refine ex_aload_n (pc := 87) 1 dX11_happens_87 rfl rfl ?_
            refine ex_iload_n (pc := 88) 0 dX11_happens_88 rfl rfl ?_
            refine ex_iload_n (pc := 89) 2 dX11_happens_89 rfl rfl ?_
            refine ex_sipush (pc := 90) 997 dX11_happens_90 (by decide) ?_
            refine ex_irem (pc := 93) dX11_happens_93 (by decide) ?_
            obtain ⟨q12, eq12, h⟩ := ob_some h
            refine ex_callV2v (pc := 94) dX11_happens_94 jX11_crankNow lmX11_386 jiX11_crankNow jvX11_crankNow (o_X11_crankNow eq12) rfl (Nat.le_of_ble_eq_true rfl) (s_X11_crankNow (by omega)  eq12) ?_
            cases h
            exact ex_return (pc := 97) dX11_happens_97
noncomputable def f_X11_happens (x0 : Nat) (x1 : Int32) (M : Mem) : Option (Mem) := if isOb M 11 x0 = true then f_X11_happens_0 x0 x1 M else none
theorem o_X11_happens {x0 : Nat} {x1 : Int32} {M : Mem} {res : Mem} (h : f_X11_happens x0 x1 M = some res) : isO M 11 x0 := by
  unfold f_X11_happens at h
  split at h
  · rename_i hc; exact isOb_iff hc
  · cases h
set_option maxHeartbeats 4000000 in
theorem s_X11_happens {X : XV} {d : Nat} (hd : 8 ≤ d) {x0 : Nat} {x1 : Int32} {M : Mem} {res : Mem} (h : f_X11_happens x0 x1 M = some res) : Mx X d mX11_happens [.ref x0, .int x1] M none res := by
  obtain ⟨d, rfl⟩ : ∃ e, d = e + 1 := ⟨d - 1, by omega⟩
  unfold f_X11_happens at h
  split at h
  rotate_left
  · cases h
  refine Mx.of (by decide) (Nat.le_of_ble_eq_true rfl) (rfl) ?_
  exact ex_sub (lo' := [(0, .ref x0), (1, .int x1)]) [0, 1] rfl (t_X11_happens_0 hd _ _ _ _  h)
noncomputable def f_X11_decades_43 (n0 : Nat) (x0 : Nat) (x2 : Int32) (x3 : Int32) (M : Mem) : Option (Int32 × Mem) :=
  match n0 with
  | 0 => none
  | n + 1 =>
    if x2 ≤ x3 then
    ((gR M 11 x0 0).bind fun v2 =>
    (rI M v2 8).bind fun v3 =>
    some (v3, M))
    else
    ((gR M 11 x0 0).bind fun v4 =>
    (rI M v4 9).bind fun v5 =>
    (f_X11_anew x0 M).bind fun q6 =>
    (f_X11_happens x0 v5 q6).bind fun q7 =>
    f_X11_decades_43 n x0 x2 (x3 + 1) q7)
set_option maxHeartbeats 4000000 in
theorem t_X11_decades_43 {X : XV} {d : Nat} (hd : 9 ≤ d + 1) : ∀ (n : Nat) (x0 : Nat) (x2 : Int32) (x3 : Int32) (M : Mem) (res : Int32 × Mem), f_X11_decades_43 n  x0 x2 x3 M = some res → Ex X (d + 1) mX11_decades 43 [(0, .ref x0), (2, .int x2), (3, .int x3)] [] M (some (.int res.1)) res.2 := by
  intro n
  induction n with
  | zero =>
    intro x0 x2 x3 M res  h
    unfold f_X11_decades_43 at h
    cases h
  | succ n ih =>
    intro x0 x2 x3 M res  h
    unfold f_X11_decades_43 at h
    refine ex_iload_n (pc := 43) 2 dX11_decades_43 rfl rfl ?_
    refine ex_iload_n (pc := 44) 1 dX11_decades_44 rfl rfl ?_
    by_cases c1 : x2 ≤ x3
    · rw [if_pos c1] at h
      refine ex_icmp_ge_t (pc := 45) 73 dX11_decades_45 rfl c1 ?_
      refine ex_aload_n (pc := 73) 0 dX11_decades_73 rfl rfl ?_
      obtain ⟨v2, ev2, h⟩ := ob_some h
      refine ex_gR (pc := 74) ev2 dX11_decades_74 lfX11_7 ?_
      refine ex_bipush (pc := 77) 8 dX11_decades_77 (by decide) ?_
      obtain ⟨v3, ev3, h⟩ := ob_some h
      refine ex_rI (pc := 79) ev3 dX11_decades_79 ?_
      cases h
      exact ex_ireturn (pc := 80) dX11_decades_80
    · rw [if_neg c1] at h
      refine ex_icmp_ge_f (pc := 45) dX11_decades_45 73 rfl c1 ?_
      refine ex_aload_n (pc := 48) 0 dX11_decades_48 rfl rfl ?_
      obtain ⟨v4, ev4, h⟩ := ob_some h
      refine ex_gR (pc := 49) ev4 dX11_decades_49 lfX11_7 ?_
      refine ex_bipush (pc := 52) 9 dX11_decades_52 (by decide) ?_
      obtain ⟨v5, ev5, h⟩ := ob_some h
      refine ex_rI (pc := 54) ev5 dX11_decades_54 ?_
      refine ex_istore (pc := 55) [(4, .int v5), (0, .ref x0), (2, .int x2), (3, .int x3)] dX11_decades_55 (by decide) rfl ?_
      refine ex_aload_n (pc := 57) 1 dX11_decades_57 rfl rfl ?_
      obtain ⟨q6, eq6, h⟩ := ob_some h
      refine ex_callV0v (pc := 58) dX11_decades_58 jX11_anew lmX11_323 jiX11_anew jvX11_anew (o_X11_anew eq6) rfl (Nat.le_of_ble_eq_true rfl) (s_X11_anew (by omega)  eq6) ?_
      refine ex_aload_n (pc := 61) 1 dX11_decades_61 rfl rfl ?_
      refine ex_iload (pc := 62) 0 dX11_decades_62 rfl ?_
      obtain ⟨q7, eq7, h⟩ := ob_some h
      refine ex_callV1v (pc := 64) dX11_decades_64 jX11_happens lmX11_417 jiX11_happens jvX11_happens (o_X11_happens eq7) rfl (Nat.le_of_ble_eq_true rfl) (s_X11_happens (by omega)  eq7) ?_
      refine ex_iinc (pc := 67) (x3 + 1) 3 [(3, .int (x3 + 1)), (4, .int v5), (0, .ref x0), (2, .int x2)] dX11_decades_67 rfl rfl (by decide) rfl ?_
      refine ex_goto (pc := 70) 43 dX11_decades_70 rfl ?_
      refine ex_sub (lo' := [(0, .ref x0), (2, .int x2), (3, .int (x3 + 1))]) [2, 3, 0] rfl ?_
      exact ih _ _ _ _ _  h
noncomputable def f_X11_decades_0 (x0 : Nat) (x1 : Int32) (x2 : Int32) (M : Mem) : Option (Int32 × Mem) :=
  (f_X11_isIn x1 0 9999).bind fun v8 =>
  if v8 = false then
  (some ((-1), M))
  else
  ((f_X11_isIn x2 1 40).bind fun v10 =>
  if v10 = true then
  ((f_X11_keep x0 M).bind fun q12 =>
  (gR q12 11 x0 0).bind fun v13 =>
  (wI q12 v13 9 ((x1 * 2) + 193)).bind fun q14 =>
  f_X11_decades_43 fu x0 x2 0 q14)
  else
  (some ((-1), M)))
set_option maxHeartbeats 4000000 in
theorem t_X11_decades_0 {X : XV} {d : Nat} (hd : 9 ≤ d + 1) : ∀ (x0 : Nat) (x1 : Int32) (x2 : Int32) (M : Mem) (res : Int32 × Mem), f_X11_decades_0  x0 x1 x2 M = some res → Ex X (d + 1) mX11_decades 0 [(0, .ref x0), (1, .int x1), (2, .int x2)] [] M (some (.int res.1)) res.2 := by
  intro x0 x1 x2 M res  h
  unfold f_X11_decades_0 at h
  refine ex_iload_n (pc := 0) 1 dX11_decades_0 rfl rfl ?_
  refine ex_iconst (pc := 1) 0 dX11_decades_1 rfl ?_
  refine ex_sipush (pc := 2) 9999 dX11_decades_2 (by decide) ?_
  obtain ⟨v8, ev8, h⟩ := ob_some h
  refine ex_callS3r (pc := 5) dX11_decades_5 jX11_isIn lmX11_87 jsX11_isIn (Nat.le_of_ble_eq_true rfl) (s_X11_isIn (by omega)  ev8) ?_
  by_cases c9 : v8 = false
  · rw [if_pos c9] at h
    refine ex_if_eq_t (pc := 8) 21 dX11_decades_8 rfl (jz_eq_t c9) ?_
    refine ex_iconst (pc := 21) (-1) dX11_decades_21 rfl ?_
    cases h
    exact ex_ireturn (pc := 22) dX11_decades_22
  · rw [if_neg c9] at h
    refine ex_if_eq_f (pc := 8) dX11_decades_8 21 rfl (jz_eq_f c9) ?_
    refine ex_iload_n (pc := 11) 2 dX11_decades_11 rfl rfl ?_
    refine ex_iconst (pc := 12) 1 dX11_decades_12 rfl ?_
    refine ex_bipush (pc := 13) 40 dX11_decades_13 (by decide) ?_
    obtain ⟨v10, ev10, h⟩ := ob_some h
    refine ex_callS3r (pc := 15) dX11_decades_15 jX11_isIn lmX11_87 jsX11_isIn (Nat.le_of_ble_eq_true rfl) (s_X11_isIn (by omega)  ev10) ?_
    by_cases c11 : v10 = true
    · rw [if_pos c11] at h
      refine ex_if_ne_t (pc := 18) 23 dX11_decades_18 rfl (jz_ne_t c11) ?_
      refine ex_aload_n (pc := 23) 0 dX11_decades_23 rfl rfl ?_
      obtain ⟨q12, eq12, h⟩ := ob_some h
      refine ex_callV0v (pc := 24) dX11_decades_24 jX11_keep lmX11_383 jiX11_keep jvX11_keep (o_X11_keep eq12) rfl (Nat.le_of_ble_eq_true rfl) (s_X11_keep (by omega)  eq12) ?_
      refine ex_aload_n (pc := 27) 0 dX11_decades_27 rfl rfl ?_
      obtain ⟨v13, ev13, h⟩ := ob_some h
      refine ex_gR (pc := 28) ev13 dX11_decades_28 lfX11_7 ?_
      refine ex_bipush (pc := 31) 9 dX11_decades_31 (by decide) ?_
      refine ex_iload_n (pc := 33) 1 dX11_decades_33 rfl rfl ?_
      refine ex_iconst (pc := 34) 2 dX11_decades_34 rfl ?_
      refine ex_imul (pc := 35) dX11_decades_35 ?_
      refine ex_sipush (pc := 36) 193 dX11_decades_36 (by decide) ?_
      refine ex_iadd (pc := 39) dX11_decades_39 ?_
      obtain ⟨q14, eq14, h⟩ := ob_some h
      refine ex_wI (pc := 40) eq14 dX11_decades_40 ?_
      refine ex_iconst (pc := 41) 0 dX11_decades_41 rfl ?_
      refine ex_istore_n (pc := 42) [(3, .int 0), (0, .ref x0), (1, .int x1), (2, .int x2)] dX11_decades_42 rfl (by decide) rfl ?_
      refine ex_sub (lo' := [(0, .ref x0), (2, .int x2), (3, .int 0)]) [1, 3, 0] rfl ?_
      exact t_X11_decades_43 hd  _ _ _ _ _ _  h
    · rw [if_neg c11] at h
      refine ex_if_ne_f (pc := 18) dX11_decades_18 23 rfl (jz_ne_f c11) ?_
      refine ex_iconst (pc := 21) (-1) dX11_decades_21 rfl ?_
      cases h
      exact ex_ireturn (pc := 22) dX11_decades_22
noncomputable def f_X11_decades (x0 : Nat) (x1 : Int32) (x2 : Int32) (M : Mem) : Option (Int32 × Mem) := if isOb M 11 x0 = true then f_X11_decades_0 x0 x1 x2 M else none
theorem o_X11_decades {x0 : Nat} {x1 : Int32} {x2 : Int32} {M : Mem} {res : Int32 × Mem} (h : f_X11_decades x0 x1 x2 M = some res) : isO M 11 x0 := by
  unfold f_X11_decades at h
  split at h
  · rename_i hc; exact isOb_iff hc
  · cases h
set_option maxHeartbeats 4000000 in
theorem s_X11_decades {X : XV} {d : Nat} (hd : 9 ≤ d) {x0 : Nat} {x1 : Int32} {x2 : Int32} {M : Mem} {res : Int32 × Mem} (h : f_X11_decades x0 x1 x2 M = some res) : Mx X d mX11_decades [.ref x0, .int x1, .int x2] M (some (.int res.1)) res.2 := by
  obtain ⟨d, rfl⟩ : ∃ e, d = e + 1 := ⟨d - 1, by omega⟩
  unfold f_X11_decades at h
  split at h
  rotate_left
  · cases h
  refine Mx.of (by decide) (Nat.le_of_ble_eq_true rfl) (⟨_, rfl, rfl⟩) ?_
  exact ex_sub (lo' := [(0, .ref x0), (1, .int x1), (2, .int x2)]) [0, 1, 2] rfl (t_X11_decades_0 hd _ _ _ _ _  h)
noncomputable def f_X11_of_0 (x0 : Nat) (x1 : Int32) (x2 : Int32) (M : Mem) : Option (Int32 × Mem) :=
  (f_X11_isMachine x0 x1 M).bind fun v1 =>
  if v1 = true then
  (if x2 = 0 then
  ((f_X11_get x0 x1 16 M).bind fun v4 =>
  some (v4, M))
  else
  (if x2 = 5 then
  ((gR M 11 x0 0).bind fun v6 =>
  (rI M v6 2).bind fun v7 =>
  (f_X11_looseOf x0 v7 x1 M).bind fun q8 =>
  some (q8.1, q8.2))
  else
  (if x2 = 6 then
  ((f_X11_believesOf x0 x1 M).bind fun q10 =>
  some (q10.1, q10.2))
  else
  (if x2 = 7 then
  ((f_X11_wearsOf x0 x1 M).bind fun q12 =>
  some (q12.1, q12.2))
  else
  ((f_X11_isIn x2 1 4).bind fun v13 =>
  if v13 = false then
  ((f_X11_get x0 x1 3 M).bind fun v15 =>
  (f_X11_isIn x2 10 (9 + v15)).bind fun v16 =>
  if v16 = false then
  (some ((-1), M))
  else
  ((f_X11_get x0 x1 ((4 + x2) - 10) M).bind fun v18 =>
  some (v18, M)))
  else
  ((f_X11_get x0 x1 (x2 - 1) M).bind fun v19 =>
  some (v19, M)))))))
  else
  (some ((-1), M))
set_option maxHeartbeats 4000000 in
theorem t_X11_of_0 {X : XV} {d : Nat} (hd : 6 ≤ d + 1) : ∀ (x0 : Nat) (x1 : Int32) (x2 : Int32) (M : Mem) (res : Int32 × Mem), f_X11_of_0  x0 x1 x2 M = some res → Ex X (d + 1) mX11_of 0 [(0, .ref x0), (1, .int x1), (2, .int x2)] [] M (some (.int res.1)) res.2 := by
  intro x0 x1 x2 M res  h
  unfold f_X11_of_0 at h
  refine ex_aload_n (pc := 0) 0 dX11_of_0 rfl rfl ?_
  refine ex_iload_n (pc := 1) 1 dX11_of_1 rfl rfl ?_
  obtain ⟨v1, ev1, h⟩ := ob_some h
  refine ex_callV1r (pc := 2) dX11_of_2 jX11_isMachine lmX11_374 jiX11_isMachine jvX11_isMachine (o_X11_isMachine ev1) rfl (Nat.le_of_ble_eq_true rfl) (s_X11_isMachine (by omega)  ev1) ?_
  by_cases c2 : v1 = true
  · rw [if_pos c2] at h
    refine ex_if_ne_t (pc := 5) 10 dX11_of_5 rfl (jz_ne_t c2) ?_
    refine ex_iload_n (pc := 10) 2 dX11_of_10 rfl rfl ?_
    by_cases c3 : x2 = 0
    · rw [if_pos c3] at h
      refine ex_tabIn (pc := 11) 56 dX11_of_11 (by rw [c3]; decide) (by rw [c3]; decide) (by rw [c3]; rfl) rfl ?_
      refine ex_aload_n (pc := 56) 0 dX11_of_56 rfl rfl ?_
      refine ex_iload_n (pc := 57) 1 dX11_of_57 rfl rfl ?_
      refine ex_bipush (pc := 58) 16 dX11_of_58 (by decide) ?_
      obtain ⟨v4, ev4, h⟩ := ob_some h
      refine ex_callV2r (pc := 60) dX11_of_60 jX11_get lmX11_107 jiX11_get jvX11_get (o_X11_get ev4) rfl (Nat.le_of_ble_eq_true rfl) (s_X11_get (by omega)  ev4) ?_
      cases h
      exact ex_ireturn (pc := 63) dX11_of_63
    · rw [if_neg c3] at h
      by_cases c5 : x2 = 5
      · rw [if_pos c5] at h
        refine ex_tabIn (pc := 11) 64 dX11_of_11 (by rw [c5]; decide) (by rw [c5]; decide) (by rw [c5]; rfl) rfl ?_
        refine ex_aload_n (pc := 64) 0 dX11_of_64 rfl rfl ?_
        refine ex_aload_n (pc := 65) 0 dX11_of_65 rfl rfl ?_
        obtain ⟨v6, ev6, h⟩ := ob_some h
        refine ex_gR (pc := 66) ev6 dX11_of_66 lfX11_7 ?_
        refine ex_iconst (pc := 69) 2 dX11_of_69 rfl ?_
        obtain ⟨v7, ev7, h⟩ := ob_some h
        refine ex_rI (pc := 70) ev7 dX11_of_70 ?_
        refine ex_iload_n (pc := 71) 1 dX11_of_71 rfl rfl ?_
        obtain ⟨q8, eq8, h⟩ := ob_some h
        refine ex_callV2r (pc := 72) dX11_of_72 jX11_looseOf lmX11_338 jiX11_looseOf jvX11_looseOf (o_X11_looseOf eq8) rfl (Nat.le_of_ble_eq_true rfl) (s_X11_looseOf (by omega)  eq8) ?_
        cases h
        exact ex_ireturn (pc := 75) dX11_of_75
      · rw [if_neg c5] at h
        by_cases c9 : x2 = 6
        · rw [if_pos c9] at h
          refine ex_tabIn (pc := 11) 76 dX11_of_11 (by rw [c9]; decide) (by rw [c9]; decide) (by rw [c9]; rfl) rfl ?_
          refine ex_aload_n (pc := 76) 0 dX11_of_76 rfl rfl ?_
          refine ex_iload_n (pc := 77) 1 dX11_of_77 rfl rfl ?_
          obtain ⟨q10, eq10, h⟩ := ob_some h
          refine ex_callV1r (pc := 78) dX11_of_78 jX11_believesOf lmX11_356 jiX11_believesOf jvX11_believesOf (o_X11_believesOf eq10) rfl (Nat.le_of_ble_eq_true rfl) (s_X11_believesOf (by omega)  eq10) ?_
          cases h
          exact ex_ireturn (pc := 81) dX11_of_81
        · rw [if_neg c9] at h
          by_cases c11 : x2 = 7
          · rw [if_pos c11] at h
            refine ex_tabIn (pc := 11) 82 dX11_of_11 (by rw [c11]; decide) (by rw [c11]; decide) (by rw [c11]; rfl) rfl ?_
            refine ex_aload_n (pc := 82) 0 dX11_of_82 rfl rfl ?_
            refine ex_iload_n (pc := 83) 1 dX11_of_83 rfl rfl ?_
            obtain ⟨q12, eq12, h⟩ := ob_some h
            refine ex_callV1r (pc := 84) dX11_of_84 jX11_wearsOf lmX11_368 jiX11_wearsOf jvX11_wearsOf (o_X11_wearsOf eq12) rfl (Nat.le_of_ble_eq_true rfl) (s_X11_wearsOf (by omega)  eq12) ?_
            cases h
            exact ex_ireturn (pc := 87) dX11_of_87
          · rw [if_neg c11] at h
            have zc3 : ¬ (x2).toInt = 0 := fun e9 => c3 (i32_of e9 (by decide))
            have zc5 : ¬ (x2).toInt = 5 := fun e9 => c5 (i32_of e9 (by decide))
            have zc9 : ¬ (x2).toInt = 6 := fun e9 => c9 (i32_of e9 (by decide))
            have zc11 : ¬ (x2).toInt = 7 := fun e9 => c11 (i32_of e9 (by decide))
            have hg : (x2).toInt < 0 ∨ 7 < (x2).toInt ∨ (x2).toInt = 1 ∨ (x2).toInt = 2 ∨ (x2).toInt = 3 ∨ (x2).toInt = 4 := by omega
            suffices hsw : Ex _ _ _ 88 [(0, .ref x0), (1, .int x1), (2, .int x2)] [] M _ _ by
              rcases hg with hg | hg | hg | hg | hg | hg
              · exact ex_tabOut (pc := 11) 88 dX11_of_11 (Or.inl hg) rfl hsw
              · exact ex_tabOut (pc := 11) 88 dX11_of_11 (Or.inr hg) rfl hsw
              · exact ex_tabIn (pc := 11) 88 dX11_of_11 (by omega) (by omega) (by rw [hg]; rfl) rfl hsw
              · exact ex_tabIn (pc := 11) 88 dX11_of_11 (by omega) (by omega) (by rw [hg]; rfl) rfl hsw
              · exact ex_tabIn (pc := 11) 88 dX11_of_11 (by omega) (by omega) (by rw [hg]; rfl) rfl hsw
              · exact ex_tabIn (pc := 11) 88 dX11_of_11 (by omega) (by omega) (by rw [hg]; rfl) rfl hsw
            refine ex_iload_n (pc := 88) 2 dX11_of_88 rfl rfl ?_
            refine ex_iconst (pc := 89) 1 dX11_of_89 rfl ?_
            refine ex_iconst (pc := 90) 4 dX11_of_90 rfl ?_
            obtain ⟨v13, ev13, h⟩ := ob_some h
            refine ex_callS3r (pc := 91) dX11_of_91 jX11_isIn lmX11_87 jsX11_isIn (Nat.le_of_ble_eq_true rfl) (s_X11_isIn (by omega)  ev13) ?_
            by_cases c14 : v13 = false
            · rw [if_pos c14] at h
              refine ex_if_eq_t (pc := 94) 108 dX11_of_94 rfl (jz_eq_t c14) ?_
              refine ex_iload_n (pc := 108) 2 dX11_of_108 rfl rfl ?_
              refine ex_bipush (pc := 109) 10 dX11_of_109 (by decide) ?_
              refine ex_bipush (pc := 111) 9 dX11_of_111 (by decide) ?_
              refine ex_aload_n (pc := 113) 0 dX11_of_113 rfl rfl ?_
              refine ex_iload_n (pc := 114) 1 dX11_of_114 rfl rfl ?_
              refine ex_iconst (pc := 115) 3 dX11_of_115 rfl ?_
              obtain ⟨v15, ev15, h⟩ := ob_some h
              refine ex_callV2r (pc := 116) dX11_of_116 jX11_get lmX11_107 jiX11_get jvX11_get (o_X11_get ev15) rfl (Nat.le_of_ble_eq_true rfl) (s_X11_get (by omega)  ev15) ?_
              refine ex_iadd (pc := 119) dX11_of_119 ?_
              obtain ⟨v16, ev16, h⟩ := ob_some h
              refine ex_callS3r (pc := 120) dX11_of_120 jX11_isIn lmX11_87 jsX11_isIn (Nat.le_of_ble_eq_true rfl) (s_X11_isIn (by omega)  ev16) ?_
              by_cases c17 : v16 = false
              · rw [if_pos c17] at h
                refine ex_if_eq_t (pc := 123) 140 dX11_of_123 rfl (jz_eq_t c17) ?_
                refine ex_iconst (pc := 140) (-1) dX11_of_140 rfl ?_
                cases h
                exact ex_ireturn (pc := 141) dX11_of_141
              · rw [if_neg c17] at h
                refine ex_if_eq_f (pc := 123) dX11_of_123 140 rfl (jz_eq_f c17) ?_
                refine ex_aload_n (pc := 126) 0 dX11_of_126 rfl rfl ?_
                refine ex_iload_n (pc := 127) 1 dX11_of_127 rfl rfl ?_
                refine ex_iconst (pc := 128) 4 dX11_of_128 rfl ?_
                refine ex_iload_n (pc := 129) 2 dX11_of_129 rfl rfl ?_
                refine ex_iadd (pc := 130) dX11_of_130 ?_
                refine ex_bipush (pc := 131) 10 dX11_of_131 (by decide) ?_
                refine ex_isub (pc := 133) dX11_of_133 ?_
                obtain ⟨v18, ev18, h⟩ := ob_some h
                refine ex_callV2r (pc := 134) dX11_of_134 jX11_get lmX11_107 jiX11_get jvX11_get (o_X11_get ev18) rfl (Nat.le_of_ble_eq_true rfl) (s_X11_get (by omega)  ev18) ?_
                refine ex_goto (pc := 137) 141 dX11_of_137 rfl ?_
                cases h
                exact ex_ireturn (pc := 141) dX11_of_141
            · rw [if_neg c14] at h
              refine ex_if_eq_f (pc := 94) dX11_of_94 108 rfl (jz_eq_f c14) ?_
              refine ex_aload_n (pc := 97) 0 dX11_of_97 rfl rfl ?_
              refine ex_iload_n (pc := 98) 1 dX11_of_98 rfl rfl ?_
              refine ex_iload_n (pc := 99) 2 dX11_of_99 rfl rfl ?_
              refine ex_iconst (pc := 100) 1 dX11_of_100 rfl ?_
              refine ex_isub (pc := 101) dX11_of_101 ?_
              obtain ⟨v19, ev19, h⟩ := ob_some h
              refine ex_callV2r (pc := 102) dX11_of_102 jX11_get lmX11_107 jiX11_get jvX11_get (o_X11_get ev19) rfl (Nat.le_of_ble_eq_true rfl) (s_X11_get (by omega)  ev19) ?_
              refine ex_goto (pc := 105) 141 dX11_of_105 rfl ?_
              cases h
              exact ex_ireturn (pc := 141) dX11_of_141
  · rw [if_neg c2] at h
    refine ex_if_ne_f (pc := 5) dX11_of_5 10 rfl (jz_ne_f c2) ?_
    refine ex_iconst (pc := 8) (-1) dX11_of_8 rfl ?_
    cases h
    exact ex_ireturn (pc := 9) dX11_of_9
noncomputable def f_X11_of (x0 : Nat) (x1 : Int32) (x2 : Int32) (M : Mem) : Option (Int32 × Mem) := if isOb M 11 x0 = true then f_X11_of_0 x0 x1 x2 M else none
theorem o_X11_of {x0 : Nat} {x1 : Int32} {x2 : Int32} {M : Mem} {res : Int32 × Mem} (h : f_X11_of x0 x1 x2 M = some res) : isO M 11 x0 := by
  unfold f_X11_of at h
  split at h
  · rename_i hc; exact isOb_iff hc
  · cases h
set_option maxHeartbeats 4000000 in
theorem s_X11_of {X : XV} {d : Nat} (hd : 6 ≤ d) {x0 : Nat} {x1 : Int32} {x2 : Int32} {M : Mem} {res : Int32 × Mem} (h : f_X11_of x0 x1 x2 M = some res) : Mx X d mX11_of [.ref x0, .int x1, .int x2] M (some (.int res.1)) res.2 := by
  obtain ⟨d, rfl⟩ : ∃ e, d = e + 1 := ⟨d - 1, by omega⟩
  unfold f_X11_of at h
  split at h
  rotate_left
  · cases h
  refine Mx.of (by decide) (Nat.le_of_ble_eq_true rfl) (⟨_, rfl, rfl⟩) ?_
  exact ex_sub (lo' := [(0, .ref x0), (1, .int x1), (2, .int x2)]) [0, 1, 2] rfl (t_X11_of_0 hd _ _ _ _ _  h)
noncomputable def f_X11_told_0 (x0 : Nat) (x1 : Int32) (x2 : Bool) (M : Mem) : Option (Int32) :=
  (f_X11_isDigit x1).bind fun v1 =>
  if v1 = false then
  (some (-1))
  else
  (if x2 = false then
  ((f_X11_ruleOf x0 x1 0 M).bind fun v4 =>
  some v4)
  else
  ((f_X11_ruleOf x0 x1 1 M).bind fun v5 =>
  some v5))
set_option maxHeartbeats 4000000 in
theorem t_X11_told_0 {X : XV} {d : Nat} (hd : 3 ≤ d + 1) : ∀ (x0 : Nat) (x1 : Int32) (x2 : Bool) (M : Mem) (res : Int32), f_X11_told_0  x0 x1 x2 M = some res → Ex X (d + 1) mX11_told 0 [(0, .ref x0), (1, .int x1), (2, .int (jz x2))] [] M (some (.int res)) M := by
  intro x0 x1 x2 M res  h
  unfold f_X11_told_0 at h
  refine ex_iload_n (pc := 0) 1 dX11_told_0 rfl rfl ?_
  obtain ⟨v1, ev1, h⟩ := ob_some h
  refine ex_callS1r (pc := 1) dX11_told_1 jX11_isDigit lmX11_95 jsX11_isDigit (Nat.le_of_ble_eq_true rfl) (s_X11_isDigit (by omega)  ev1) ?_
  by_cases c2 : v1 = false
  · rw [if_pos c2] at h
    refine ex_if_eq_t (pc := 4) 24 dX11_told_4 rfl (jz_eq_t c2) ?_
    refine ex_iconst (pc := 24) (-1) dX11_told_24 rfl ?_
    cases h
    exact ex_ireturn (pc := 25) dX11_told_25
  · rw [if_neg c2] at h
    refine ex_if_eq_f (pc := 4) dX11_told_4 24 rfl (jz_eq_f c2) ?_
    refine ex_aload_n (pc := 7) 0 dX11_told_7 rfl rfl ?_
    refine ex_iload_n (pc := 8) 1 dX11_told_8 rfl rfl ?_
    refine ex_iload_n (pc := 9) 2 dX11_told_9 rfl rfl ?_
    by_cases c3 : x2 = false
    · rw [if_pos c3] at h
      refine ex_if_eq_t (pc := 10) 17 dX11_told_10 rfl (jz_eq_t c3) ?_
      refine ex_iconst (pc := 17) 0 dX11_told_17 rfl ?_
      obtain ⟨v4, ev4, h⟩ := ob_some h
      refine ex_callV2r (pc := 18) dX11_told_18 jX11_ruleOf lmX11_350 jiX11_ruleOf jvX11_ruleOf (o_X11_ruleOf ev4) rfl (Nat.le_of_ble_eq_true rfl) (s_X11_ruleOf (by omega)  ev4) ?_
      refine ex_goto (pc := 21) 25 dX11_told_21 rfl ?_
      cases h
      exact ex_ireturn (pc := 25) dX11_told_25
    · rw [if_neg c3] at h
      refine ex_if_eq_f (pc := 10) dX11_told_10 17 rfl (jz_eq_f c3) ?_
      refine ex_iconst (pc := 13) 1 dX11_told_13 rfl ?_
      refine ex_goto (pc := 14) 18 dX11_told_14 rfl ?_
      obtain ⟨v5, ev5, h⟩ := ob_some h
      refine ex_callV2r (pc := 18) dX11_told_18 jX11_ruleOf lmX11_350 jiX11_ruleOf jvX11_ruleOf (o_X11_ruleOf ev5) rfl (Nat.le_of_ble_eq_true rfl) (s_X11_ruleOf (by omega)  ev5) ?_
      refine ex_goto (pc := 21) 25 dX11_told_21 rfl ?_
      cases h
      exact ex_ireturn (pc := 25) dX11_told_25
noncomputable def f_X11_told (x0 : Nat) (x1 : Int32) (x2 : Bool) (M : Mem) : Option (Int32) := if isOb M 11 x0 = true then f_X11_told_0 x0 x1 x2 M else none
theorem o_X11_told {x0 : Nat} {x1 : Int32} {x2 : Bool} {M : Mem} {res : Int32} (h : f_X11_told x0 x1 x2 M = some res) : isO M 11 x0 := by
  unfold f_X11_told at h
  split at h
  · rename_i hc; exact isOb_iff hc
  · cases h
set_option maxHeartbeats 4000000 in
theorem s_X11_told {X : XV} {d : Nat} (hd : 3 ≤ d) {x0 : Nat} {x1 : Int32} {x2 : Bool} {M : Mem} {res : Int32} (h : f_X11_told x0 x1 x2 M = some res) : Mx X d mX11_told [.ref x0, .int x1, .int (jz x2)] M (some (.int res)) M := by
  obtain ⟨d, rfl⟩ : ∃ e, d = e + 1 := ⟨d - 1, by omega⟩
  unfold f_X11_told at h
  split at h
  rotate_left
  · cases h
  refine Mx.of (by decide) (Nat.le_of_ble_eq_true rfl) (⟨_, rfl, rfl⟩) ?_
  exact ex_sub (lo' := [(0, .ref x0), (1, .int x1), (2, .int (jz x2))]) [0, 1, 2] rfl (t_X11_told_0 hd _ _ _ _ _  h)
noncomputable def f_X11_is_0 (x0 : Nat) (x1 : Int32) (M : Mem) : Option (Int32) :=
  (f_X11_isIn x1 0 1).bind fun v1 =>
  if v1 = false then
  (some (-2))
  else
  ((gR M 11 x0 0).bind fun v3 =>
  (rI M v3 (8 + x1)).bind fun v4 =>
  some v4)
set_option maxHeartbeats 4000000 in
theorem t_X11_is_0 {X : XV} {d : Nat} (hd : 2 ≤ d + 1) : ∀ (x0 : Nat) (x1 : Int32) (M : Mem) (res : Int32), f_X11_is_0  x0 x1 M = some res → Ex X (d + 1) mX11_is 0 [(0, .ref x0), (1, .int x1)] [] M (some (.int res)) M := by
  intro x0 x1 M res  h
  unfold f_X11_is_0 at h
  refine ex_iload_n (pc := 0) 1 dX11_is_0 rfl rfl ?_
  refine ex_iconst (pc := 1) 0 dX11_is_1 rfl ?_
  refine ex_iconst (pc := 2) 1 dX11_is_2 rfl ?_
  obtain ⟨v1, ev1, h⟩ := ob_some h
  refine ex_callS3r (pc := 3) dX11_is_3 jX11_isIn lmX11_87 jsX11_isIn (Nat.le_of_ble_eq_true rfl) (s_X11_isIn (by omega)  ev1) ?_
  by_cases c2 : v1 = false
  · rw [if_pos c2] at h
    refine ex_if_eq_t (pc := 6) 21 dX11_is_6 rfl (jz_eq_t c2) ?_
    refine ex_bipush (pc := 21) (-2) dX11_is_21 (by decide) ?_
    cases h
    exact ex_ireturn (pc := 23) dX11_is_23
  · rw [if_neg c2] at h
    refine ex_if_eq_f (pc := 6) dX11_is_6 21 rfl (jz_eq_f c2) ?_
    refine ex_aload_n (pc := 9) 0 dX11_is_9 rfl rfl ?_
    obtain ⟨v3, ev3, h⟩ := ob_some h
    refine ex_gR (pc := 10) ev3 dX11_is_10 lfX11_7 ?_
    refine ex_bipush (pc := 13) 8 dX11_is_13 (by decide) ?_
    refine ex_iload_n (pc := 15) 1 dX11_is_15 rfl rfl ?_
    refine ex_iadd (pc := 16) dX11_is_16 ?_
    obtain ⟨v4, ev4, h⟩ := ob_some h
    refine ex_rI (pc := 17) ev4 dX11_is_17 ?_
    refine ex_goto (pc := 18) 23 dX11_is_18 rfl ?_
    cases h
    exact ex_ireturn (pc := 23) dX11_is_23
noncomputable def f_X11_is (x0 : Nat) (x1 : Int32) (M : Mem) : Option (Int32) := if isOb M 11 x0 = true then f_X11_is_0 x0 x1 M else none
theorem o_X11_is {x0 : Nat} {x1 : Int32} {M : Mem} {res : Int32} (h : f_X11_is x0 x1 M = some res) : isO M 11 x0 := by
  unfold f_X11_is at h
  split at h
  · rename_i hc; exact isOb_iff hc
  · cases h
set_option maxHeartbeats 4000000 in
theorem s_X11_is {X : XV} {d : Nat} (hd : 2 ≤ d) {x0 : Nat} {x1 : Int32} {M : Mem} {res : Int32} (h : f_X11_is x0 x1 M = some res) : Mx X d mX11_is [.ref x0, .int x1] M (some (.int res)) M := by
  obtain ⟨d, rfl⟩ : ∃ e, d = e + 1 := ⟨d - 1, by omega⟩
  unfold f_X11_is at h
  split at h
  rotate_left
  · cases h
  refine Mx.of (by decide) (Nat.le_of_ble_eq_true rfl) (⟨_, rfl, rfl⟩) ?_
  exact ex_sub (lo' := [(0, .ref x0), (1, .int x1)]) [0, 1] rfl (t_X11_is_0 hd _ _ _ _  h)
noncomputable def f_X11_book_54 (x2 : Int32) (s0 : Bool) (s1 : Int32) (s2 : Nat) (M : Mem) : Option (Int32) :=
  (rI M s2 (s1 + (jz s0))).bind fun v1 =>
  if x2 = 0 then
  (some (v1 / 8))
  else
  (if x2 = 1 then
  (some (jrem v1 8))
  else
  (if x2 = 2 then
  (some (v1 / 10000))
  else
  (if x2 = 3 then
  (some (jrem v1 10000))
  else
  (some (-2)))))
set_option maxHeartbeats 4000000 in
theorem t_X11_book_54 {X : XV} {d : Nat} (hd : 2 ≤ d + 1) : ∀ (x2 : Int32) (s0 : Bool) (s1 : Int32) (s2 : Nat) (M : Mem) (res : Int32), f_X11_book_54  x2 s0 s1 s2 M = some res → Ex X (d + 1) mX11_book 54 [(2, .int x2)] [.int (jz s0), .int s1, .ref s2] M (some (.int res)) M := by
  intro x2 s0 s1 s2 M res  h
  unfold f_X11_book_54 at h
  refine ex_iadd (pc := 54) dX11_book_54 ?_
  obtain ⟨v1, ev1, h⟩ := ob_some h
  refine ex_rI (pc := 55) ev1 dX11_book_55 ?_
  refine ex_istore_n (pc := 56) [(3, .int v1), (2, .int x2)] dX11_book_56 rfl (by decide) rfl ?_
  refine ex_iload_n (pc := 57) 1 dX11_book_57 rfl rfl ?_
  by_cases c2 : x2 = 0
  · rw [if_pos c2] at h
    refine ex_if_ne_f (pc := 58) dX11_book_58 68 rfl c2 ?_
    refine ex_iload_n (pc := 61) 0 dX11_book_61 rfl rfl ?_
    refine ex_bipush (pc := 62) 8 dX11_book_62 (by decide) ?_
    refine ex_idiv (pc := 64) dX11_book_64 (by decide) ?_
    refine ex_goto (pc := 65) 108 dX11_book_65 rfl ?_
    cases h
    exact ex_ireturn (pc := 108) dX11_book_108
  · rw [if_neg c2] at h
    refine ex_if_ne_t (pc := 58) 68 dX11_book_58 rfl c2 ?_
    refine ex_iload_n (pc := 68) 1 dX11_book_68 rfl rfl ?_
    refine ex_iconst (pc := 69) 1 dX11_book_69 rfl ?_
    by_cases c3 : x2 = 1
    · rw [if_pos c3] at h
      refine ex_icmp_ne_f (pc := 70) dX11_book_70 80 rfl c3 ?_
      refine ex_iload_n (pc := 73) 0 dX11_book_73 rfl rfl ?_
      refine ex_bipush (pc := 74) 8 dX11_book_74 (by decide) ?_
      refine ex_irem (pc := 76) dX11_book_76 (by decide) ?_
      refine ex_goto (pc := 77) 108 dX11_book_77 rfl ?_
      cases h
      exact ex_ireturn (pc := 108) dX11_book_108
    · rw [if_neg c3] at h
      refine ex_icmp_ne_t (pc := 70) 80 dX11_book_70 rfl c3 ?_
      refine ex_iload_n (pc := 80) 1 dX11_book_80 rfl rfl ?_
      refine ex_iconst (pc := 81) 2 dX11_book_81 rfl ?_
      by_cases c4 : x2 = 2
      · rw [if_pos c4] at h
        refine ex_icmp_ne_f (pc := 82) dX11_book_82 93 rfl c4 ?_
        refine ex_iload_n (pc := 85) 0 dX11_book_85 rfl rfl ?_
        refine ex_sipush (pc := 86) 10000 dX11_book_86 (by decide) ?_
        refine ex_idiv (pc := 89) dX11_book_89 (by decide) ?_
        refine ex_goto (pc := 90) 108 dX11_book_90 rfl ?_
        cases h
        exact ex_ireturn (pc := 108) dX11_book_108
      · rw [if_neg c4] at h
        refine ex_icmp_ne_t (pc := 82) 93 dX11_book_82 rfl c4 ?_
        refine ex_iload_n (pc := 93) 1 dX11_book_93 rfl rfl ?_
        refine ex_iconst (pc := 94) 3 dX11_book_94 rfl ?_
        by_cases c5 : x2 = 3
        · rw [if_pos c5] at h
          refine ex_icmp_ne_f (pc := 95) dX11_book_95 106 rfl c5 ?_
          refine ex_iload_n (pc := 98) 0 dX11_book_98 rfl rfl ?_
          refine ex_sipush (pc := 99) 10000 dX11_book_99 (by decide) ?_
          refine ex_irem (pc := 102) dX11_book_102 (by decide) ?_
          refine ex_goto (pc := 103) 108 dX11_book_103 rfl ?_
          cases h
          exact ex_ireturn (pc := 108) dX11_book_108
        · rw [if_neg c5] at h
          refine ex_icmp_ne_t (pc := 95) 106 dX11_book_95 rfl c5 ?_
          refine ex_bipush (pc := 106) (-2) dX11_book_106 (by decide) ?_
          cases h
          exact ex_ireturn (pc := 108) dX11_book_108
noncomputable def f_X11_book_0 (x0 : Nat) (x1 : Int32) (x2 : Int32) (M : Mem) : Option (Int32) :=
  if x1 = (-1) then
  ((gR M 11 x0 0).bind fun v13 =>
  (rI M v13 10).bind fun v14 =>
  some v14)
  else
  ((gR M 11 x0 0).bind fun v7 =>
  (rI M v7 10).bind fun v8 =>
  (f_X11_isIn x1 0 (v8 - 1)).bind fun v9 =>
  if v9 = true then
  ((gR M 11 x0 0).bind fun v11 =>
  if x2 ≤ 1 then
  (f_X11_book_54 x2 false (4547 + (2 * x1)) v11 M)
  else
  (f_X11_book_54 x2 true (4547 + (2 * x1)) v11 M))
  else
  (some (-2)))
set_option maxHeartbeats 4000000 in
theorem t_X11_book_0 {X : XV} {d : Nat} (hd : 2 ≤ d + 1) : ∀ (x0 : Nat) (x1 : Int32) (x2 : Int32) (M : Mem) (res : Int32), f_X11_book_0  x0 x1 x2 M = some res → Ex X (d + 1) mX11_book 0 [(0, .ref x0), (1, .int x1), (2, .int x2)] [] M (some (.int res)) M := by
  intro x0 x1 x2 M res  h
  unfold f_X11_book_0 at h
  refine ex_iload_n (pc := 0) 1 dX11_book_0 rfl rfl ?_
  refine ex_iconst (pc := 1) (-1) dX11_book_1 rfl ?_
  by_cases c6 : x1 = (-1)
  · rw [if_pos c6] at h
    refine ex_icmp_ne_f (pc := 2) dX11_book_2 13 rfl c6 ?_
    refine ex_aload_n (pc := 5) 0 dX11_book_5 rfl rfl ?_
    obtain ⟨v13, ev13, h⟩ := ob_some h
    refine ex_gR (pc := 6) ev13 dX11_book_6 lfX11_7 ?_
    refine ex_bipush (pc := 9) 10 dX11_book_9 (by decide) ?_
    obtain ⟨v14, ev14, h⟩ := ob_some h
    refine ex_rI (pc := 11) ev14 dX11_book_11 ?_
    cases h
    exact ex_ireturn (pc := 12) dX11_book_12
  · rw [if_neg c6] at h
    refine ex_icmp_ne_t (pc := 2) 13 dX11_book_2 rfl c6 ?_
    refine ex_iload_n (pc := 13) 1 dX11_book_13 rfl rfl ?_
    refine ex_iconst (pc := 14) 0 dX11_book_14 rfl ?_
    refine ex_aload_n (pc := 15) 0 dX11_book_15 rfl rfl ?_
    obtain ⟨v7, ev7, h⟩ := ob_some h
    refine ex_gR (pc := 16) ev7 dX11_book_16 lfX11_7 ?_
    refine ex_bipush (pc := 19) 10 dX11_book_19 (by decide) ?_
    obtain ⟨v8, ev8, h⟩ := ob_some h
    refine ex_rI (pc := 21) ev8 dX11_book_21 ?_
    refine ex_iconst (pc := 22) 1 dX11_book_22 rfl ?_
    refine ex_isub (pc := 23) dX11_book_23 ?_
    obtain ⟨v9, ev9, h⟩ := ob_some h
    refine ex_callS3r (pc := 24) dX11_book_24 jX11_isIn lmX11_87 jsX11_isIn (Nat.le_of_ble_eq_true rfl) (s_X11_isIn (by omega)  ev9) ?_
    by_cases c10 : v9 = true
    · rw [if_pos c10] at h
      refine ex_if_ne_t (pc := 27) 33 dX11_book_27 rfl (jz_ne_t c10) ?_
      refine ex_aload_n (pc := 33) 0 dX11_book_33 rfl rfl ?_
      obtain ⟨v11, ev11, h⟩ := ob_some h
      refine ex_gR (pc := 34) ev11 dX11_book_34 lfX11_7 ?_
      refine ex_sipush (pc := 37) 4547 dX11_book_37 (by decide) ?_
      refine ex_iconst (pc := 40) 2 dX11_book_40 rfl ?_
      refine ex_iload_n (pc := 41) 1 dX11_book_41 rfl rfl ?_
      refine ex_imul (pc := 42) dX11_book_42 ?_
      refine ex_iadd (pc := 43) dX11_book_43 ?_
      refine ex_iload_n (pc := 44) 2 dX11_book_44 rfl rfl ?_
      refine ex_iconst (pc := 45) 1 dX11_book_45 rfl ?_
      by_cases c12 : x2 ≤ 1
      · rw [if_pos c12] at h
        refine ex_icmp_le_t (pc := 46) 53 dX11_book_46 rfl c12 ?_
        refine ex_iconst (pc := 53) 0 dX11_book_53 rfl ?_
        refine ex_sub (lo' := [(2, .int x2)]) [2] rfl ?_
        exact t_X11_book_54 hd  _ _ _ _ _ _  h
      · rw [if_neg c12] at h
        refine ex_icmp_le_f (pc := 46) dX11_book_46 53 rfl c12 ?_
        refine ex_iconst (pc := 49) 1 dX11_book_49 rfl ?_
        refine ex_goto (pc := 50) 54 dX11_book_50 rfl ?_
        refine ex_sub (lo' := [(2, .int x2)]) [2] rfl ?_
        exact t_X11_book_54 hd  _ _ _ _ _ _  h
    · rw [if_neg c10] at h
      refine ex_if_ne_f (pc := 27) dX11_book_27 33 rfl (jz_ne_f c10) ?_
      refine ex_bipush (pc := 30) (-2) dX11_book_30 (by decide) ?_
      cases h
      exact ex_ireturn (pc := 32) dX11_book_32
noncomputable def f_X11_book (x0 : Nat) (x1 : Int32) (x2 : Int32) (M : Mem) : Option (Int32) := if isOb M 11 x0 = true then f_X11_book_0 x0 x1 x2 M else none
theorem o_X11_book {x0 : Nat} {x1 : Int32} {x2 : Int32} {M : Mem} {res : Int32} (h : f_X11_book x0 x1 x2 M = some res) : isO M 11 x0 := by
  unfold f_X11_book at h
  split at h
  · rename_i hc; exact isOb_iff hc
  · cases h
set_option maxHeartbeats 4000000 in
theorem s_X11_book {X : XV} {d : Nat} (hd : 2 ≤ d) {x0 : Nat} {x1 : Int32} {x2 : Int32} {M : Mem} {res : Int32} (h : f_X11_book x0 x1 x2 M = some res) : Mx X d mX11_book [.ref x0, .int x1, .int x2] M (some (.int res)) M := by
  obtain ⟨d, rfl⟩ : ∃ e, d = e + 1 := ⟨d - 1, by omega⟩
  unfold f_X11_book at h
  split at h
  rotate_left
  · cases h
  refine Mx.of (by decide) (Nat.le_of_ble_eq_true rfl) (⟨_, rfl, rfl⟩) ?_
  exact ex_sub (lo' := [(0, .ref x0), (1, .int x1), (2, .int x2)]) [0, 1, 2] rfl (t_X11_book_0 hd _ _ _ _ _  h)
noncomputable def f_X11_ledger_52 (k20 : Nat → Int32 → Int32 → Int32 → Mem → Option (Int32)) (x0 : Nat) (x1 : Int32) (x3 : Int32) (s0 : Bool) (s1 : Int32) (M : Mem) : Option (Int32) :=
  k20 x0 x1 (s1 + (jz s0)) (x3 + 1) M
set_option maxHeartbeats 4000000 in
theorem t_X11_ledger_52 {X : XV} {d : Nat} (hd : 3 ≤ d + 1) {k20 : Nat → Int32 → Int32 → Int32 → Mem → Option (Int32)} (hk20 : ∀ (x0 : Nat) (x1 : Int32) (x2 : Int32) (x3 : Int32) (M : Mem) (res : Int32), k20 x0 x1 x2 x3 M = some res → Ex X (d + 1) mX11_ledger 20 [(0, .ref x0), (1, .int x1), (2, .int x2), (3, .int x3)] [] M (some (.int res)) M) : ∀ (x0 : Nat) (x1 : Int32) (x3 : Int32) (s0 : Bool) (s1 : Int32) (M : Mem) (res : Int32), f_X11_ledger_52 k20 x0 x1 x3 s0 s1 M = some res → Ex X (d + 1) mX11_ledger 52 [(0, .ref x0), (1, .int x1), (3, .int x3)] [.int (jz s0), .int s1] M (some (.int res)) M := by
  intro x0 x1 x3 s0 s1 M res  h
  unfold f_X11_ledger_52 at h
  refine ex_iadd (pc := 52) dX11_ledger_52 ?_
  refine ex_istore_n (pc := 53) [(2, .int (s1 + (jz s0))), (0, .ref x0), (1, .int x1), (3, .int x3)] dX11_ledger_53 rfl (by decide) rfl ?_
  refine ex_iinc (pc := 54) (x3 + 1) 3 [(3, .int (x3 + 1)), (2, .int (s1 + (jz s0))), (0, .ref x0), (1, .int x1)] dX11_ledger_54 rfl rfl (by decide) rfl ?_
  refine ex_goto (pc := 57) 20 dX11_ledger_57 rfl ?_
  refine ex_sub (lo' := [(0, .ref x0), (1, .int x1), (2, .int (s1 + (jz s0))), (3, .int (x3 + 1))]) [2, 3, 1, 0] rfl ?_
  exact hk20 _ _ _ _ _ _  h
noncomputable def f_X11_ledger_47 (k20 : Nat → Int32 → Int32 → Int32 → Mem → Option (Int32)) (x0 : Nat) (x1 : Int32) (x3 : Int32) (s0 : Int32) (M : Mem) : Option (Int32) :=
  f_X11_ledger_52 k20 x0 x1 x3 true s0 M
set_option maxHeartbeats 4000000 in
theorem t_X11_ledger_47 {X : XV} {d : Nat} (hd : 3 ≤ d + 1) {k20 : Nat → Int32 → Int32 → Int32 → Mem → Option (Int32)} (hk20 : ∀ (x0 : Nat) (x1 : Int32) (x2 : Int32) (x3 : Int32) (M : Mem) (res : Int32), k20 x0 x1 x2 x3 M = some res → Ex X (d + 1) mX11_ledger 20 [(0, .ref x0), (1, .int x1), (2, .int x2), (3, .int x3)] [] M (some (.int res)) M) : ∀ (x0 : Nat) (x1 : Int32) (x3 : Int32) (s0 : Int32) (M : Mem) (res : Int32), f_X11_ledger_47 k20 x0 x1 x3 s0 M = some res → Ex X (d + 1) mX11_ledger 47 [(0, .ref x0), (1, .int x1), (3, .int x3)] [.int s0] M (some (.int res)) M := by
  intro x0 x1 x3 s0 M res  h
  unfold f_X11_ledger_47 at h
  refine ex_iconst (pc := 47) 1 dX11_ledger_47 rfl ?_
  refine ex_goto (pc := 48) 52 dX11_ledger_48 rfl ?_
  refine ex_sub (lo' := [(0, .ref x0), (1, .int x1), (3, .int x3)]) [0, 1, 2] rfl ?_
  exact t_X11_ledger_52 hd hk20 _ _ _ _ _ _ _  h
noncomputable def f_X11_ledger_20 (n0 : Nat) (x0 : Nat) (x1 : Int32) (x2 : Int32) (x3 : Int32) (M : Mem) : Option (Int32) :=
  match n0 with
  | 0 => none
  | n + 1 =>
    (gR M 11 x0 0).bind fun v1 =>
    (rI M v1 10).bind fun v2 =>
    if v2 ≤ x3 then
    (some x2)
    else
    (if x1 = (-1) then
    (f_X11_ledger_47 (f_X11_ledger_20 n) x0 x1 x3 x2 M)
    else
    ((f_X11_book x0 x3 1 M).bind fun v5 =>
    if v5 = x1 then
    (f_X11_ledger_47 (f_X11_ledger_20 n) x0 x1 x3 x2 M)
    else
    (f_X11_ledger_52 (f_X11_ledger_20 n) x0 x1 x3 false x2 M)))
set_option maxHeartbeats 4000000 in
theorem t_X11_ledger_20 {X : XV} {d : Nat} (hd : 3 ≤ d + 1) : ∀ (n : Nat) (x0 : Nat) (x1 : Int32) (x2 : Int32) (x3 : Int32) (M : Mem) (res : Int32), f_X11_ledger_20 n  x0 x1 x2 x3 M = some res → Ex X (d + 1) mX11_ledger 20 [(0, .ref x0), (1, .int x1), (2, .int x2), (3, .int x3)] [] M (some (.int res)) M := by
  intro n
  induction n with
  | zero =>
    intro x0 x1 x2 x3 M res  h
    unfold f_X11_ledger_20 at h
    cases h
  | succ n ih =>
    intro x0 x1 x2 x3 M res  h
    unfold f_X11_ledger_20 at h
    refine ex_iload_n (pc := 20) 3 dX11_ledger_20 rfl rfl ?_
    refine ex_aload_n (pc := 21) 0 dX11_ledger_21 rfl rfl ?_
    obtain ⟨v1, ev1, h⟩ := ob_some h
    refine ex_gR (pc := 22) ev1 dX11_ledger_22 lfX11_7 ?_
    refine ex_bipush (pc := 25) 10 dX11_ledger_25 (by decide) ?_
    obtain ⟨v2, ev2, h⟩ := ob_some h
    refine ex_rI (pc := 27) ev2 dX11_ledger_27 ?_
    by_cases c3 : v2 ≤ x3
    · rw [if_pos c3] at h
      refine ex_icmp_ge_t (pc := 28) 60 dX11_ledger_28 rfl c3 ?_
      refine ex_iload_n (pc := 60) 2 dX11_ledger_60 rfl rfl ?_
      cases h
      exact ex_ireturn (pc := 61) dX11_ledger_61
    · rw [if_neg c3] at h
      refine ex_icmp_ge_f (pc := 28) dX11_ledger_28 60 rfl c3 ?_
      refine ex_iload_n (pc := 31) 2 dX11_ledger_31 rfl rfl ?_
      refine ex_iload_n (pc := 32) 1 dX11_ledger_32 rfl rfl ?_
      refine ex_iconst (pc := 33) (-1) dX11_ledger_33 rfl ?_
      by_cases c4 : x1 = (-1)
      · rw [if_pos c4] at h
        refine ex_icmp_eq_t (pc := 34) 47 dX11_ledger_34 rfl c4 ?_
        refine ex_sub (lo' := [(0, .ref x0), (1, .int x1), (3, .int x3)]) [0, 1, 3] rfl ?_
        exact t_X11_ledger_47 hd ih _ _ _ _ _ _  h
      · rw [if_neg c4] at h
        refine ex_icmp_eq_f (pc := 34) dX11_ledger_34 47 rfl c4 ?_
        refine ex_aload_n (pc := 37) 0 dX11_ledger_37 rfl rfl ?_
        refine ex_iload_n (pc := 38) 3 dX11_ledger_38 rfl rfl ?_
        refine ex_iconst (pc := 39) 1 dX11_ledger_39 rfl ?_
        obtain ⟨v5, ev5, h⟩ := ob_some h
        refine ex_callV2r (pc := 40) dX11_ledger_40 jX11_book lmX11_420 jiX11_book jvX11_book (o_X11_book ev5) rfl (Nat.le_of_ble_eq_true rfl) (s_X11_book (by omega)  ev5) ?_
        refine ex_iload_n (pc := 43) 1 dX11_ledger_43 rfl rfl ?_
        by_cases c6 : v5 = x1
        · rw [if_pos c6] at h
          refine ex_icmp_ne_f (pc := 44) dX11_ledger_44 51 rfl c6 ?_
          refine ex_sub (lo' := [(0, .ref x0), (1, .int x1), (3, .int x3)]) [0, 1, 3] rfl ?_
          exact t_X11_ledger_47 hd ih _ _ _ _ _ _  h
        · rw [if_neg c6] at h
          refine ex_icmp_ne_t (pc := 44) 51 dX11_ledger_44 rfl c6 ?_
          refine ex_iconst (pc := 51) 0 dX11_ledger_51 rfl ?_
          refine ex_sub (lo' := [(0, .ref x0), (1, .int x1), (3, .int x3)]) [0, 1, 3] rfl ?_
          exact t_X11_ledger_52 hd ih _ _ _ _ _ _ _  h
noncomputable def f_X11_ledger_16 (x0 : Nat) (x1 : Int32) (M : Mem) : Option (Int32) :=
  f_X11_ledger_20 fu x0 x1 0 0 M
set_option maxHeartbeats 4000000 in
theorem t_X11_ledger_16 {X : XV} {d : Nat} (hd : 3 ≤ d + 1) : ∀ (x0 : Nat) (x1 : Int32) (M : Mem) (res : Int32), f_X11_ledger_16  x0 x1 M = some res → Ex X (d + 1) mX11_ledger 16 [(0, .ref x0), (1, .int x1)] [] M (some (.int res)) M := by
  intro x0 x1 M res  h
  unfold f_X11_ledger_16 at h
  refine ex_iconst (pc := 16) 0 dX11_ledger_16 rfl ?_
  refine ex_istore_n (pc := 17) [(2, .int 0), (0, .ref x0), (1, .int x1)] dX11_ledger_17 rfl (by decide) rfl ?_
  refine ex_iconst (pc := 18) 0 dX11_ledger_18 rfl ?_
  refine ex_istore_n (pc := 19) [(3, .int 0), (2, .int 0), (0, .ref x0), (1, .int x1)] dX11_ledger_19 rfl (by decide) rfl ?_
  refine ex_sub (lo' := [(0, .ref x0), (1, .int x1), (2, .int 0), (3, .int 0)]) [2, 3, 1, 0] rfl ?_
  exact t_X11_ledger_20 hd  _ _ _ _ _ _ _  h
noncomputable def f_X11_ledger_0 (x0 : Nat) (x1 : Int32) (M : Mem) : Option (Int32) :=
  if x1 = (-1) then
  (f_X11_ledger_16 x0 x1 M)
  else
  ((f_X11_isMachine x0 x1 M).bind fun v8 =>
  if v8 = true then
  (f_X11_ledger_16 x0 x1 M)
  else
  (some (-2)))
set_option maxHeartbeats 4000000 in
theorem t_X11_ledger_0 {X : XV} {d : Nat} (hd : 3 ≤ d + 1) : ∀ (x0 : Nat) (x1 : Int32) (M : Mem) (res : Int32), f_X11_ledger_0  x0 x1 M = some res → Ex X (d + 1) mX11_ledger 0 [(0, .ref x0), (1, .int x1)] [] M (some (.int res)) M := by
  intro x0 x1 M res  h
  unfold f_X11_ledger_0 at h
  refine ex_iload_n (pc := 0) 1 dX11_ledger_0 rfl rfl ?_
  refine ex_iconst (pc := 1) (-1) dX11_ledger_1 rfl ?_
  by_cases c7 : x1 = (-1)
  · rw [if_pos c7] at h
    refine ex_icmp_eq_t (pc := 2) 16 dX11_ledger_2 rfl c7 ?_
    refine ex_sub (lo' := [(0, .ref x0), (1, .int x1)]) [0, 1] rfl ?_
    exact t_X11_ledger_16 hd  _ _ _ _  h
  · rw [if_neg c7] at h
    refine ex_icmp_eq_f (pc := 2) dX11_ledger_2 16 rfl c7 ?_
    refine ex_aload_n (pc := 5) 0 dX11_ledger_5 rfl rfl ?_
    refine ex_iload_n (pc := 6) 1 dX11_ledger_6 rfl rfl ?_
    obtain ⟨v8, ev8, h⟩ := ob_some h
    refine ex_callV1r (pc := 7) dX11_ledger_7 jX11_isMachine lmX11_374 jiX11_isMachine jvX11_isMachine (o_X11_isMachine ev8) rfl (Nat.le_of_ble_eq_true rfl) (s_X11_isMachine (by omega)  ev8) ?_
    by_cases c9 : v8 = true
    · rw [if_pos c9] at h
      refine ex_if_ne_t (pc := 10) 16 dX11_ledger_10 rfl (jz_ne_t c9) ?_
      refine ex_sub (lo' := [(0, .ref x0), (1, .int x1)]) [0, 1] rfl ?_
      exact t_X11_ledger_16 hd  _ _ _ _  h
    · rw [if_neg c9] at h
      refine ex_if_ne_f (pc := 10) dX11_ledger_10 16 rfl (jz_ne_f c9) ?_
      refine ex_bipush (pc := 13) (-2) dX11_ledger_13 (by decide) ?_
      cases h
      exact ex_ireturn (pc := 15) dX11_ledger_15
noncomputable def f_X11_ledger (x0 : Nat) (x1 : Int32) (M : Mem) : Option (Int32) := if isOb M 11 x0 = true then f_X11_ledger_0 x0 x1 M else none
theorem o_X11_ledger {x0 : Nat} {x1 : Int32} {M : Mem} {res : Int32} (h : f_X11_ledger x0 x1 M = some res) : isO M 11 x0 := by
  unfold f_X11_ledger at h
  split at h
  · rename_i hc; exact isOb_iff hc
  · cases h
set_option maxHeartbeats 4000000 in
theorem s_X11_ledger {X : XV} {d : Nat} (hd : 3 ≤ d) {x0 : Nat} {x1 : Int32} {M : Mem} {res : Int32} (h : f_X11_ledger x0 x1 M = some res) : Mx X d mX11_ledger [.ref x0, .int x1] M (some (.int res)) M := by
  obtain ⟨d, rfl⟩ : ∃ e, d = e + 1 := ⟨d - 1, by omega⟩
  unfold f_X11_ledger at h
  split at h
  rotate_left
  · cases h
  refine Mx.of (by decide) (Nat.le_of_ble_eq_true rfl) (⟨_, rfl, rfl⟩) ?_
  exact ex_sub (lo' := [(0, .ref x0), (1, .int x1)]) [0, 1] rfl (t_X11_ledger_0 hd _ _ _ _  h)
noncomputable def f_X11_snow_48 (k4 : Nat → Int32 → Int32 → Mem → Option (Int32)) (k16 : Nat → Int32 → Int32 → Int32 → Mem → Option (Int32)) (x0 : Nat) (x2 : Int32) (x3 : Int32) (s0 : Bool) (s1 : Int32) (M : Mem) : Option (Int32) :=
  k16 x0 (s1 + (jz s0)) x2 (x3 + 1) M
set_option maxHeartbeats 4000000 in
theorem t_X11_snow_48 {X : XV} {d : Nat} (hd : 3 ≤ d + 1) {k4 : Nat → Int32 → Int32 → Mem → Option (Int32)} (hk4 : ∀ (x0 : Nat) (x1 : Int32) (x2 : Int32) (M : Mem) (res : Int32), k4 x0 x1 x2 M = some res → Ex X (d + 1) mX11_snow 4 [(0, .ref x0), (1, .int x1), (2, .int x2)] [] M (some (.int res)) M) {k16 : Nat → Int32 → Int32 → Int32 → Mem → Option (Int32)} (hk16 : ∀ (x0 : Nat) (x1 : Int32) (x2 : Int32) (x3 : Int32) (M : Mem) (res : Int32), k16 x0 x1 x2 x3 M = some res → Ex X (d + 1) mX11_snow 16 [(0, .ref x0), (1, .int x1), (2, .int x2), (3, .int x3)] [] M (some (.int res)) M) : ∀ (x0 : Nat) (x2 : Int32) (x3 : Int32) (s0 : Bool) (s1 : Int32) (M : Mem) (res : Int32), f_X11_snow_48 k4 k16 x0 x2 x3 s0 s1 M = some res → Ex X (d + 1) mX11_snow 48 [(0, .ref x0), (2, .int x2), (3, .int x3)] [.int (jz s0), .int s1] M (some (.int res)) M := by
  intro x0 x2 x3 s0 s1 M res  h
  unfold f_X11_snow_48 at h
  refine ex_iadd (pc := 48) dX11_snow_48 ?_
  refine ex_istore_n (pc := 49) [(1, .int (s1 + (jz s0))), (0, .ref x0), (2, .int x2), (3, .int x3)] dX11_snow_49 rfl (by decide) rfl ?_
  refine ex_iinc (pc := 50) (x3 + 1) 3 [(3, .int (x3 + 1)), (1, .int (s1 + (jz s0))), (0, .ref x0), (2, .int x2)] dX11_snow_50 rfl rfl (by decide) rfl ?_
  refine ex_goto (pc := 53) 16 dX11_snow_53 rfl ?_
  refine ex_sub (lo' := [(0, .ref x0), (1, .int (s1 + (jz s0))), (2, .int x2), (3, .int (x3 + 1))]) [2, 1, 3, 0] rfl ?_
  exact hk16 _ _ _ _ _ _  h
noncomputable def f_X11_snow_16 (n0 : Nat) (k4 : Nat → Int32 → Int32 → Mem → Option (Int32)) (x0 : Nat) (x1 : Int32) (x2 : Int32) (x3 : Int32) (M : Mem) : Option (Int32) :=
  match n0 with
  | 0 => none
  | n + 1 =>
    (f_X11_get x0 x2 2 M).bind fun v1 =>
    (f_X11_longOf v1).bind fun v2 =>
    if v2 ≤ x3 then
    (k4 x0 x1 (x2 + 1) M)
    else
    ((f_X11_get x0 x2 2 M).bind fun v4 =>
    (f_X11_digitOf v4 x3).bind fun v5 =>
    if v5 = 0 then
    (f_X11_snow_48 k4 (f_X11_snow_16 n k4) x0 x2 x3 true x1 M)
    else
    (f_X11_snow_48 k4 (f_X11_snow_16 n k4) x0 x2 x3 false x1 M))
set_option maxHeartbeats 4000000 in
theorem t_X11_snow_16 {X : XV} {d : Nat} (hd : 3 ≤ d + 1) {k4 : Nat → Int32 → Int32 → Mem → Option (Int32)} (hk4 : ∀ (x0 : Nat) (x1 : Int32) (x2 : Int32) (M : Mem) (res : Int32), k4 x0 x1 x2 M = some res → Ex X (d + 1) mX11_snow 4 [(0, .ref x0), (1, .int x1), (2, .int x2)] [] M (some (.int res)) M) : ∀ (n : Nat) (x0 : Nat) (x1 : Int32) (x2 : Int32) (x3 : Int32) (M : Mem) (res : Int32), f_X11_snow_16 n k4 x0 x1 x2 x3 M = some res → Ex X (d + 1) mX11_snow 16 [(0, .ref x0), (1, .int x1), (2, .int x2), (3, .int x3)] [] M (some (.int res)) M := by
  intro n
  induction n with
  | zero =>
    intro x0 x1 x2 x3 M res  h
    unfold f_X11_snow_16 at h
    cases h
  | succ n ih =>
    intro x0 x1 x2 x3 M res  h
    unfold f_X11_snow_16 at h
    refine ex_iload_n (pc := 16) 3 dX11_snow_16 rfl rfl ?_
    refine ex_aload_n (pc := 17) 0 dX11_snow_17 rfl rfl ?_
    refine ex_iload_n (pc := 18) 2 dX11_snow_18 rfl rfl ?_
    refine ex_iconst (pc := 19) 2 dX11_snow_19 rfl ?_
    obtain ⟨v1, ev1, h⟩ := ob_some h
    refine ex_callV2r (pc := 20) dX11_snow_20 jX11_get lmX11_107 jiX11_get jvX11_get (o_X11_get ev1) rfl (Nat.le_of_ble_eq_true rfl) (s_X11_get (by omega)  ev1) ?_
    obtain ⟨v2, ev2, h⟩ := ob_some h
    refine ex_callS1r (pc := 23) dX11_snow_23 jX11_longOf lmX11_91 jsX11_longOf (Nat.le_of_ble_eq_true rfl) (s_X11_longOf (by omega)  ev2) ?_
    by_cases c3 : v2 ≤ x3
    · rw [if_pos c3] at h
      refine ex_icmp_ge_t (pc := 26) 56 dX11_snow_26 rfl c3 ?_
      refine ex_iinc (pc := 56) (x2 + 1) 2 [(2, .int (x2 + 1)), (0, .ref x0), (1, .int x1), (3, .int x3)] dX11_snow_56 rfl rfl (by decide) rfl ?_
      refine ex_goto (pc := 59) 4 dX11_snow_59 rfl ?_
      refine ex_sub (lo' := [(0, .ref x0), (1, .int x1), (2, .int (x2 + 1))]) [1, 2, 0] rfl ?_
      exact hk4 _ _ _ _ _  h
    · rw [if_neg c3] at h
      refine ex_icmp_ge_f (pc := 26) dX11_snow_26 56 rfl c3 ?_
      refine ex_iload_n (pc := 29) 1 dX11_snow_29 rfl rfl ?_
      refine ex_aload_n (pc := 30) 0 dX11_snow_30 rfl rfl ?_
      refine ex_iload_n (pc := 31) 2 dX11_snow_31 rfl rfl ?_
      refine ex_iconst (pc := 32) 2 dX11_snow_32 rfl ?_
      obtain ⟨v4, ev4, h⟩ := ob_some h
      refine ex_callV2r (pc := 33) dX11_snow_33 jX11_get lmX11_107 jiX11_get jvX11_get (o_X11_get ev4) rfl (Nat.le_of_ble_eq_true rfl) (s_X11_get (by omega)  ev4) ?_
      refine ex_iload_n (pc := 36) 3 dX11_snow_36 rfl rfl ?_
      obtain ⟨v5, ev5, h⟩ := ob_some h
      refine ex_callS2r (pc := 37) dX11_snow_37 jX11_digitOf lmX11_344 jsX11_digitOf (Nat.le_of_ble_eq_true rfl) (s_X11_digitOf (by omega)  ev5) ?_
      by_cases c6 : v5 = 0
      · rw [if_pos c6] at h
        refine ex_if_ne_f (pc := 40) dX11_snow_40 47 rfl c6 ?_
        refine ex_iconst (pc := 43) 1 dX11_snow_43 rfl ?_
        refine ex_goto (pc := 44) 48 dX11_snow_44 rfl ?_
        refine ex_sub (lo' := [(0, .ref x0), (2, .int x2), (3, .int x3)]) [0, 2, 3] rfl ?_
        exact t_X11_snow_48 hd hk4 ih _ _ _ _ _ _ _  h
      · rw [if_neg c6] at h
        refine ex_if_ne_t (pc := 40) 47 dX11_snow_40 rfl c6 ?_
        refine ex_iconst (pc := 47) 0 dX11_snow_47 rfl ?_
        refine ex_sub (lo' := [(0, .ref x0), (2, .int x2), (3, .int x3)]) [0, 2, 3] rfl ?_
        exact t_X11_snow_48 hd hk4 ih _ _ _ _ _ _ _  h
noncomputable def f_X11_snow_4 (n0 : Nat) (x0 : Nat) (x1 : Int32) (x2 : Int32) (M : Mem) : Option (Int32) :=
  match n0 with
  | 0 => none
  | n + 1 =>
    (gR M 11 x0 0).bind fun v7 =>
    (rI M v7 0).bind fun v8 =>
    if v8 ≤ x2 then
    (some x1)
    else
    (f_X11_snow_16 fu (f_X11_snow_4 n) x0 x1 x2 0 M)
set_option maxHeartbeats 4000000 in
theorem t_X11_snow_4 {X : XV} {d : Nat} (hd : 3 ≤ d + 1) : ∀ (n : Nat) (x0 : Nat) (x1 : Int32) (x2 : Int32) (M : Mem) (res : Int32), f_X11_snow_4 n  x0 x1 x2 M = some res → Ex X (d + 1) mX11_snow 4 [(0, .ref x0), (1, .int x1), (2, .int x2)] [] M (some (.int res)) M := by
  intro n
  induction n with
  | zero =>
    intro x0 x1 x2 M res  h
    unfold f_X11_snow_4 at h
    cases h
  | succ n ih =>
    intro x0 x1 x2 M res  h
    unfold f_X11_snow_4 at h
    refine ex_iload_n (pc := 4) 2 dX11_snow_4 rfl rfl ?_
    refine ex_aload_n (pc := 5) 0 dX11_snow_5 rfl rfl ?_
    obtain ⟨v7, ev7, h⟩ := ob_some h
    refine ex_gR (pc := 6) ev7 dX11_snow_6 lfX11_7 ?_
    refine ex_iconst (pc := 9) 0 dX11_snow_9 rfl ?_
    obtain ⟨v8, ev8, h⟩ := ob_some h
    refine ex_rI (pc := 10) ev8 dX11_snow_10 ?_
    by_cases c9 : v8 ≤ x2
    · rw [if_pos c9] at h
      refine ex_icmp_ge_t (pc := 11) 62 dX11_snow_11 rfl c9 ?_
      refine ex_iload_n (pc := 62) 1 dX11_snow_62 rfl rfl ?_
      cases h
      exact ex_ireturn (pc := 63) dX11_snow_63
    · rw [if_neg c9] at h
      refine ex_icmp_ge_f (pc := 11) dX11_snow_11 62 rfl c9 ?_
      refine ex_iconst (pc := 14) 0 dX11_snow_14 rfl ?_
      refine ex_istore_n (pc := 15) [(3, .int 0), (0, .ref x0), (1, .int x1), (2, .int x2)] dX11_snow_15 rfl (by decide) rfl ?_
      refine ex_sub (lo' := [(0, .ref x0), (1, .int x1), (2, .int x2), (3, .int 0)]) [1, 2, 3, 0] rfl ?_
      exact t_X11_snow_16 hd ih _ _ _ _ _ _ _  h
noncomputable def f_X11_snow_0 (x0 : Nat) (M : Mem) : Option (Int32) :=
  f_X11_snow_4 fu x0 0 0 M
set_option maxHeartbeats 4000000 in
theorem t_X11_snow_0 {X : XV} {d : Nat} (hd : 3 ≤ d + 1) : ∀ (x0 : Nat) (M : Mem) (res : Int32), f_X11_snow_0  x0 M = some res → Ex X (d + 1) mX11_snow 0 [(0, .ref x0)] [] M (some (.int res)) M := by
  intro x0 M res  h
  unfold f_X11_snow_0 at h
  refine ex_iconst (pc := 0) 0 dX11_snow_0 rfl ?_
  refine ex_istore_n (pc := 1) [(1, .int 0), (0, .ref x0)] dX11_snow_1 rfl (by decide) rfl ?_
  refine ex_iconst (pc := 2) 0 dX11_snow_2 rfl ?_
  refine ex_istore_n (pc := 3) [(2, .int 0), (1, .int 0), (0, .ref x0)] dX11_snow_3 rfl (by decide) rfl ?_
  refine ex_sub (lo' := [(0, .ref x0), (1, .int 0), (2, .int 0)]) [2, 1, 0] rfl ?_
  exact t_X11_snow_4 hd  _ _ _ _ _ _  h
noncomputable def f_X11_snow (x0 : Nat) (M : Mem) : Option (Int32) := if isOb M 11 x0 = true then f_X11_snow_0 x0 M else none
theorem o_X11_snow {x0 : Nat} {M : Mem} {res : Int32} (h : f_X11_snow x0 M = some res) : isO M 11 x0 := by
  unfold f_X11_snow at h
  split at h
  · rename_i hc; exact isOb_iff hc
  · cases h
set_option maxHeartbeats 4000000 in
theorem s_X11_snow {X : XV} {d : Nat} (hd : 3 ≤ d) {x0 : Nat} {M : Mem} {res : Int32} (h : f_X11_snow x0 M = some res) : Mx X d mX11_snow [.ref x0] M (some (.int res)) M := by
  obtain ⟨d, rfl⟩ : ∃ e, d = e + 1 := ⟨d - 1, by omega⟩
  unfold f_X11_snow at h
  split at h
  rotate_left
  · cases h
  refine Mx.of (by decide) (Nat.le_of_ble_eq_true rfl) (⟨_, rfl, rfl⟩) ?_
  exact ex_sub (lo' := [(0, .ref x0)]) [0] rfl (t_X11_snow_0 hd _ _ _  h)
noncomputable def f_X11_worn_4 (n0 : Nat) (x0 : Nat) (x1 : Int32) (x2 : Int32) (M : Mem) : Option (Int32) :=
  match n0 with
  | 0 => none
  | n + 1 =>
    (gR M 11 x0 0).bind fun v1 =>
    (rI M v1 0).bind fun v2 =>
    if v2 ≤ x2 then
    (some x1)
    else
    (if x1 = (-1) then
    (f_X11_worn_4 n x0 x2 (x2 + 1) M)
    else
    ((f_X11_get x0 x2 0 M).bind fun v5 =>
    (f_X11_get x0 x1 0 M).bind fun v6 =>
    if v5 ≤ v6 then
    (f_X11_worn_4 n x0 x1 (x2 + 1) M)
    else
    (f_X11_worn_4 n x0 x2 (x2 + 1) M)))
set_option maxHeartbeats 4000000 in
theorem t_X11_worn_4 {X : XV} {d : Nat} (hd : 2 ≤ d + 1) : ∀ (n : Nat) (x0 : Nat) (x1 : Int32) (x2 : Int32) (M : Mem) (res : Int32), f_X11_worn_4 n  x0 x1 x2 M = some res → Ex X (d + 1) mX11_worn 4 [(0, .ref x0), (1, .int x1), (2, .int x2)] [] M (some (.int res)) M := by
  intro n
  induction n with
  | zero =>
    intro x0 x1 x2 M res  h
    unfold f_X11_worn_4 at h
    cases h
  | succ n ih =>
    intro x0 x1 x2 M res  h
    unfold f_X11_worn_4 at h
    refine ex_iload_n (pc := 4) 2 dX11_worn_4 rfl rfl ?_
    refine ex_aload_n (pc := 5) 0 dX11_worn_5 rfl rfl ?_
    obtain ⟨v1, ev1, h⟩ := ob_some h
    refine ex_gR (pc := 6) ev1 dX11_worn_6 lfX11_7 ?_
    refine ex_iconst (pc := 9) 0 dX11_worn_9 rfl ?_
    obtain ⟨v2, ev2, h⟩ := ob_some h
    refine ex_rI (pc := 10) ev2 dX11_worn_10 ?_
    by_cases c3 : v2 ≤ x2
    · rw [if_pos c3] at h
      refine ex_icmp_ge_t (pc := 11) 42 dX11_worn_11 rfl c3 ?_
      refine ex_iload_n (pc := 42) 1 dX11_worn_42 rfl rfl ?_
      cases h
      exact ex_ireturn (pc := 43) dX11_worn_43
    · rw [if_neg c3] at h
      refine ex_icmp_ge_f (pc := 11) dX11_worn_11 42 rfl c3 ?_
      refine ex_iload_n (pc := 14) 1 dX11_worn_14 rfl rfl ?_
      refine ex_iconst (pc := 15) (-1) dX11_worn_15 rfl ?_
      by_cases c4 : x1 = (-1)
      · rw [if_pos c4] at h
        refine ex_icmp_eq_t (pc := 16) 34 dX11_worn_16 rfl c4 ?_
        refine ex_iload_n (pc := 34) 2 dX11_worn_34 rfl rfl ?_
        refine ex_istore_n (pc := 35) [(1, .int x2), (0, .ref x0), (2, .int x2)] dX11_worn_35 rfl (by decide) rfl ?_
        refine ex_iinc (pc := 36) (x2 + 1) 2 [(2, .int (x2 + 1)), (1, .int x2), (0, .ref x0)] dX11_worn_36 rfl rfl (by decide) rfl ?_
        refine ex_goto (pc := 39) 4 dX11_worn_39 rfl ?_
        refine ex_sub (lo' := [(0, .ref x0), (1, .int x2), (2, .int (x2 + 1))]) [2, 1, 0] rfl ?_
        exact ih _ _ _ _ _  h
      · rw [if_neg c4] at h
        refine ex_icmp_eq_f (pc := 16) dX11_worn_16 34 rfl c4 ?_
        refine ex_aload_n (pc := 19) 0 dX11_worn_19 rfl rfl ?_
        refine ex_iload_n (pc := 20) 2 dX11_worn_20 rfl rfl ?_
        refine ex_iconst (pc := 21) 0 dX11_worn_21 rfl ?_
        obtain ⟨v5, ev5, h⟩ := ob_some h
        refine ex_callV2r (pc := 22) dX11_worn_22 jX11_get lmX11_107 jiX11_get jvX11_get (o_X11_get ev5) rfl (Nat.le_of_ble_eq_true rfl) (s_X11_get (by omega)  ev5) ?_
        refine ex_aload_n (pc := 25) 0 dX11_worn_25 rfl rfl ?_
        refine ex_iload_n (pc := 26) 1 dX11_worn_26 rfl rfl ?_
        refine ex_iconst (pc := 27) 0 dX11_worn_27 rfl ?_
        obtain ⟨v6, ev6, h⟩ := ob_some h
        refine ex_callV2r (pc := 28) dX11_worn_28 jX11_get lmX11_107 jiX11_get jvX11_get (o_X11_get ev6) rfl (Nat.le_of_ble_eq_true rfl) (s_X11_get (by omega)  ev6) ?_
        by_cases c7 : v5 ≤ v6
        · rw [if_pos c7] at h
          refine ex_icmp_le_t (pc := 31) 36 dX11_worn_31 rfl c7 ?_
          refine ex_iinc (pc := 36) (x2 + 1) 2 [(2, .int (x2 + 1)), (0, .ref x0), (1, .int x1)] dX11_worn_36 rfl rfl (by decide) rfl ?_
          refine ex_goto (pc := 39) 4 dX11_worn_39 rfl ?_
          refine ex_sub (lo' := [(0, .ref x0), (1, .int x1), (2, .int (x2 + 1))]) [1, 2, 0] rfl ?_
          exact ih _ _ _ _ _  h
        · rw [if_neg c7] at h
          refine ex_icmp_le_f (pc := 31) dX11_worn_31 36 rfl c7 ?_
          refine ex_iload_n (pc := 34) 2 dX11_worn_34 rfl rfl ?_
          refine ex_istore_n (pc := 35) [(1, .int x2), (0, .ref x0), (2, .int x2)] dX11_worn_35 rfl (by decide) rfl ?_
          refine ex_iinc (pc := 36) (x2 + 1) 2 [(2, .int (x2 + 1)), (1, .int x2), (0, .ref x0)] dX11_worn_36 rfl rfl (by decide) rfl ?_
          refine ex_goto (pc := 39) 4 dX11_worn_39 rfl ?_
          refine ex_sub (lo' := [(0, .ref x0), (1, .int x2), (2, .int (x2 + 1))]) [2, 1, 0] rfl ?_
          exact ih _ _ _ _ _  h
noncomputable def f_X11_worn_0 (x0 : Nat) (M : Mem) : Option (Int32) :=
  f_X11_worn_4 fu x0 (-1) 0 M
set_option maxHeartbeats 4000000 in
theorem t_X11_worn_0 {X : XV} {d : Nat} (hd : 2 ≤ d + 1) : ∀ (x0 : Nat) (M : Mem) (res : Int32), f_X11_worn_0  x0 M = some res → Ex X (d + 1) mX11_worn 0 [(0, .ref x0)] [] M (some (.int res)) M := by
  intro x0 M res  h
  unfold f_X11_worn_0 at h
  refine ex_iconst (pc := 0) (-1) dX11_worn_0 rfl ?_
  refine ex_istore_n (pc := 1) [(1, .int (-1)), (0, .ref x0)] dX11_worn_1 rfl (by decide) rfl ?_
  refine ex_iconst (pc := 2) 0 dX11_worn_2 rfl ?_
  refine ex_istore_n (pc := 3) [(2, .int 0), (1, .int (-1)), (0, .ref x0)] dX11_worn_3 rfl (by decide) rfl ?_
  refine ex_sub (lo' := [(0, .ref x0), (1, .int (-1)), (2, .int 0)]) [2, 1, 0] rfl ?_
  exact t_X11_worn_4 hd  _ _ _ _ _ _  h
noncomputable def f_X11_worn (x0 : Nat) (M : Mem) : Option (Int32) := if isOb M 11 x0 = true then f_X11_worn_0 x0 M else none
theorem o_X11_worn {x0 : Nat} {M : Mem} {res : Int32} (h : f_X11_worn x0 M = some res) : isO M 11 x0 := by
  unfold f_X11_worn at h
  split at h
  · rename_i hc; exact isOb_iff hc
  · cases h
set_option maxHeartbeats 4000000 in
theorem s_X11_worn {X : XV} {d : Nat} (hd : 2 ≤ d) {x0 : Nat} {M : Mem} {res : Int32} (h : f_X11_worn x0 M = some res) : Mx X d mX11_worn [.ref x0] M (some (.int res)) M := by
  obtain ⟨d, rfl⟩ : ∃ e, d = e + 1 := ⟨d - 1, by omega⟩
  unfold f_X11_worn at h
  split at h
  rotate_left
  · cases h
  refine Mx.of (by decide) (Nat.le_of_ble_eq_true rfl) (⟨_, rfl, rfl⟩) ?_
  exact ex_sub (lo' := [(0, .ref x0)]) [0] rfl (t_X11_worn_0 hd _ _ _  h)
noncomputable def f_X11_blank_31 (k4 : Nat → Int32 → Int32 → Mem → Option (Int32)) (x0 : Nat) (x2 : Int32) (s0 : Int32) (s1 : Int32) (M : Mem) : Option (Int32) :=
  k4 x0 (s1 ||| s0) (x2 + 1) M
set_option maxHeartbeats 4000000 in
theorem t_X11_blank_31 {X : XV} {d : Nat} (hd : 2 ≤ d + 1) {k4 : Nat → Int32 → Int32 → Mem → Option (Int32)} (hk4 : ∀ (x0 : Nat) (x1 : Int32) (x2 : Int32) (M : Mem) (res : Int32), k4 x0 x1 x2 M = some res → Ex X (d + 1) mX11_blank 4 [(0, .ref x0), (1, .int x1), (2, .int x2)] [] M (some (.int res)) M) : ∀ (x0 : Nat) (x2 : Int32) (s0 : Int32) (s1 : Int32) (M : Mem) (res : Int32), f_X11_blank_31 k4 x0 x2 s0 s1 M = some res → Ex X (d + 1) mX11_blank 31 [(0, .ref x0), (2, .int x2)] [.int s0, .int s1] M (some (.int res)) M := by
  intro x0 x2 s0 s1 M res  h
  unfold f_X11_blank_31 at h
  refine ex_ior (pc := 31) dX11_blank_31 ?_
  refine ex_istore_n (pc := 32) [(1, .int (s1 ||| s0)), (0, .ref x0), (2, .int x2)] dX11_blank_32 rfl (by decide) rfl ?_
  refine ex_iinc (pc := 33) (x2 + 1) 2 [(2, .int (x2 + 1)), (1, .int (s1 ||| s0)), (0, .ref x0)] dX11_blank_33 rfl rfl (by decide) rfl ?_
  refine ex_goto (pc := 36) 4 dX11_blank_36 rfl ?_
  refine ex_sub (lo' := [(0, .ref x0), (1, .int (s1 ||| s0)), (2, .int (x2 + 1))]) [2, 1, 0] rfl ?_
  exact hk4 _ _ _ _ _  h
noncomputable def f_X11_blank_4 (n0 : Nat) (x0 : Nat) (x1 : Int32) (x2 : Int32) (M : Mem) : Option (Int32) :=
  match n0 with
  | 0 => none
  | n + 1 =>
    (gR M 11 x0 0).bind fun v1 =>
    (rI M v1 0).bind fun v2 =>
    if v2 ≤ x2 then
    (some x1)
    else
    ((f_X11_get x0 x2 3 M).bind fun v4 =>
    if v4 = 0 then
    (f_X11_blank_31 (f_X11_blank_4 n) x0 x2 (jshl 1 x2) x1 M)
    else
    (f_X11_blank_31 (f_X11_blank_4 n) x0 x2 0 x1 M))
set_option maxHeartbeats 4000000 in
theorem t_X11_blank_4 {X : XV} {d : Nat} (hd : 2 ≤ d + 1) : ∀ (n : Nat) (x0 : Nat) (x1 : Int32) (x2 : Int32) (M : Mem) (res : Int32), f_X11_blank_4 n  x0 x1 x2 M = some res → Ex X (d + 1) mX11_blank 4 [(0, .ref x0), (1, .int x1), (2, .int x2)] [] M (some (.int res)) M := by
  intro n
  induction n with
  | zero =>
    intro x0 x1 x2 M res  h
    unfold f_X11_blank_4 at h
    cases h
  | succ n ih =>
    intro x0 x1 x2 M res  h
    unfold f_X11_blank_4 at h
    refine ex_iload_n (pc := 4) 2 dX11_blank_4 rfl rfl ?_
    refine ex_aload_n (pc := 5) 0 dX11_blank_5 rfl rfl ?_
    obtain ⟨v1, ev1, h⟩ := ob_some h
    refine ex_gR (pc := 6) ev1 dX11_blank_6 lfX11_7 ?_
    refine ex_iconst (pc := 9) 0 dX11_blank_9 rfl ?_
    obtain ⟨v2, ev2, h⟩ := ob_some h
    refine ex_rI (pc := 10) ev2 dX11_blank_10 ?_
    by_cases c3 : v2 ≤ x2
    · rw [if_pos c3] at h
      refine ex_icmp_ge_t (pc := 11) 39 dX11_blank_11 rfl c3 ?_
      refine ex_iload_n (pc := 39) 1 dX11_blank_39 rfl rfl ?_
      cases h
      exact ex_ireturn (pc := 40) dX11_blank_40
    · rw [if_neg c3] at h
      refine ex_icmp_ge_f (pc := 11) dX11_blank_11 39 rfl c3 ?_
      refine ex_iload_n (pc := 14) 1 dX11_blank_14 rfl rfl ?_
      refine ex_aload_n (pc := 15) 0 dX11_blank_15 rfl rfl ?_
      refine ex_iload_n (pc := 16) 2 dX11_blank_16 rfl rfl ?_
      refine ex_iconst (pc := 17) 3 dX11_blank_17 rfl ?_
      obtain ⟨v4, ev4, h⟩ := ob_some h
      refine ex_callV2r (pc := 18) dX11_blank_18 jX11_get lmX11_107 jiX11_get jvX11_get (o_X11_get ev4) rfl (Nat.le_of_ble_eq_true rfl) (s_X11_get (by omega)  ev4) ?_
      by_cases c5 : v4 = 0
      · rw [if_pos c5] at h
        refine ex_if_ne_f (pc := 21) dX11_blank_21 30 rfl c5 ?_
        refine ex_iconst (pc := 24) 1 dX11_blank_24 rfl ?_
        refine ex_iload_n (pc := 25) 2 dX11_blank_25 rfl rfl ?_
        refine ex_ishl (pc := 26) dX11_blank_26 ?_
        refine ex_goto (pc := 27) 31 dX11_blank_27 rfl ?_
        refine ex_sub (lo' := [(0, .ref x0), (2, .int x2)]) [0, 2] rfl ?_
        exact t_X11_blank_31 hd ih _ _ _ _ _ _  h
      · rw [if_neg c5] at h
        refine ex_if_ne_t (pc := 21) 30 dX11_blank_21 rfl c5 ?_
        refine ex_iconst (pc := 30) 0 dX11_blank_30 rfl ?_
        refine ex_sub (lo' := [(0, .ref x0), (2, .int x2)]) [0, 2] rfl ?_
        exact t_X11_blank_31 hd ih _ _ _ _ _ _  h
noncomputable def f_X11_blank_0 (x0 : Nat) (M : Mem) : Option (Int32) :=
  f_X11_blank_4 fu x0 0 0 M
set_option maxHeartbeats 4000000 in
theorem t_X11_blank_0 {X : XV} {d : Nat} (hd : 2 ≤ d + 1) : ∀ (x0 : Nat) (M : Mem) (res : Int32), f_X11_blank_0  x0 M = some res → Ex X (d + 1) mX11_blank 0 [(0, .ref x0)] [] M (some (.int res)) M := by
  intro x0 M res  h
  unfold f_X11_blank_0 at h
  refine ex_iconst (pc := 0) 0 dX11_blank_0 rfl ?_
  refine ex_istore_n (pc := 1) [(1, .int 0), (0, .ref x0)] dX11_blank_1 rfl (by decide) rfl ?_
  refine ex_iconst (pc := 2) 0 dX11_blank_2 rfl ?_
  refine ex_istore_n (pc := 3) [(2, .int 0), (1, .int 0), (0, .ref x0)] dX11_blank_3 rfl (by decide) rfl ?_
  refine ex_sub (lo' := [(0, .ref x0), (1, .int 0), (2, .int 0)]) [2, 1, 0] rfl ?_
  exact t_X11_blank_4 hd  _ _ _ _ _ _  h
noncomputable def f_X11_blank (x0 : Nat) (M : Mem) : Option (Int32) := if isOb M 11 x0 = true then f_X11_blank_0 x0 M else none
theorem o_X11_blank {x0 : Nat} {M : Mem} {res : Int32} (h : f_X11_blank x0 M = some res) : isO M 11 x0 := by
  unfold f_X11_blank at h
  split at h
  · rename_i hc; exact isOb_iff hc
  · cases h
set_option maxHeartbeats 4000000 in
theorem s_X11_blank {X : XV} {d : Nat} (hd : 2 ≤ d) {x0 : Nat} {M : Mem} {res : Int32} (h : f_X11_blank x0 M = some res) : Mx X d mX11_blank [.ref x0] M (some (.int res)) M := by
  obtain ⟨d, rfl⟩ : ∃ e, d = e + 1 := ⟨d - 1, by omega⟩
  unfold f_X11_blank at h
  split at h
  rotate_left
  · cases h
  refine Mx.of (by decide) (Nat.le_of_ble_eq_true rfl) (⟨_, rfl, rfl⟩) ?_
  exact ex_sub (lo' := [(0, .ref x0)]) [0] rfl (t_X11_blank_0 hd _ _ _  h)
noncomputable def f_X11_sumOf_33 (k4 : Nat → Int32 → Int32 → Int32 → Mem → Option (Int32)) (x0 : Nat) (x1 : Int32) (x3 : Int32) (s0 : Int32) (s1 : Int32) (M : Mem) : Option (Int32) :=
  k4 x0 x1 (s1 + s0) (x3 + 1) M
set_option maxHeartbeats 4000000 in
theorem t_X11_sumOf_33 {X : XV} {d : Nat} (hd : 2 ≤ d + 1) {k4 : Nat → Int32 → Int32 → Int32 → Mem → Option (Int32)} (hk4 : ∀ (x0 : Nat) (x1 : Int32) (x2 : Int32) (x3 : Int32) (M : Mem) (res : Int32), k4 x0 x1 x2 x3 M = some res → Ex X (d + 1) mX11_sumOf 4 [(0, .ref x0), (1, .int x1), (2, .int x2), (3, .int x3)] [] M (some (.int res)) M) : ∀ (x0 : Nat) (x1 : Int32) (x3 : Int32) (s0 : Int32) (s1 : Int32) (M : Mem) (res : Int32), f_X11_sumOf_33 k4 x0 x1 x3 s0 s1 M = some res → Ex X (d + 1) mX11_sumOf 33 [(0, .ref x0), (1, .int x1), (3, .int x3)] [.int s0, .int s1] M (some (.int res)) M := by
  intro x0 x1 x3 s0 s1 M res  h
  unfold f_X11_sumOf_33 at h
  refine ex_iadd (pc := 33) dX11_sumOf_33 ?_
  refine ex_istore_n (pc := 34) [(2, .int (s1 + s0)), (0, .ref x0), (1, .int x1), (3, .int x3)] dX11_sumOf_34 rfl (by decide) rfl ?_
  refine ex_iinc (pc := 35) (x3 + 1) 3 [(3, .int (x3 + 1)), (2, .int (s1 + s0)), (0, .ref x0), (1, .int x1)] dX11_sumOf_35 rfl rfl (by decide) rfl ?_
  refine ex_goto (pc := 38) 4 dX11_sumOf_38 rfl ?_
  refine ex_sub (lo' := [(0, .ref x0), (1, .int x1), (2, .int (s1 + s0)), (3, .int (x3 + 1))]) [2, 3, 1, 0] rfl ?_
  exact hk4 _ _ _ _ _ _  h
noncomputable def f_X11_sumOf_4 (n0 : Nat) (x0 : Nat) (x1 : Int32) (x2 : Int32) (x3 : Int32) (M : Mem) : Option (Int32) :=
  match n0 with
  | 0 => none
  | n + 1 =>
    (gR M 11 x0 0).bind fun v1 =>
    (rI M v1 0).bind fun v2 =>
    if v2 ≤ x3 then
    (some x2)
    else
    ((f_X11_has x1 x3).bind fun v4 =>
    if v4 = false then
    (f_X11_sumOf_33 (f_X11_sumOf_4 n) x0 x1 x3 0 x2 M)
    else
    ((f_X11_get x0 x3 2 M).bind fun v6 =>
    f_X11_sumOf_33 (f_X11_sumOf_4 n) x0 x1 x3 v6 x2 M))
set_option maxHeartbeats 4000000 in
theorem t_X11_sumOf_4 {X : XV} {d : Nat} (hd : 2 ≤ d + 1) : ∀ (n : Nat) (x0 : Nat) (x1 : Int32) (x2 : Int32) (x3 : Int32) (M : Mem) (res : Int32), f_X11_sumOf_4 n  x0 x1 x2 x3 M = some res → Ex X (d + 1) mX11_sumOf 4 [(0, .ref x0), (1, .int x1), (2, .int x2), (3, .int x3)] [] M (some (.int res)) M := by
  intro n
  induction n with
  | zero =>
    intro x0 x1 x2 x3 M res  h
    unfold f_X11_sumOf_4 at h
    cases h
  | succ n ih =>
    intro x0 x1 x2 x3 M res  h
    unfold f_X11_sumOf_4 at h
    refine ex_iload_n (pc := 4) 3 dX11_sumOf_4 rfl rfl ?_
    refine ex_aload_n (pc := 5) 0 dX11_sumOf_5 rfl rfl ?_
    obtain ⟨v1, ev1, h⟩ := ob_some h
    refine ex_gR (pc := 6) ev1 dX11_sumOf_6 lfX11_7 ?_
    refine ex_iconst (pc := 9) 0 dX11_sumOf_9 rfl ?_
    obtain ⟨v2, ev2, h⟩ := ob_some h
    refine ex_rI (pc := 10) ev2 dX11_sumOf_10 ?_
    by_cases c3 : v2 ≤ x3
    · rw [if_pos c3] at h
      refine ex_icmp_ge_t (pc := 11) 41 dX11_sumOf_11 rfl c3 ?_
      refine ex_iload_n (pc := 41) 2 dX11_sumOf_41 rfl rfl ?_
      cases h
      exact ex_ireturn (pc := 42) dX11_sumOf_42
    · rw [if_neg c3] at h
      refine ex_icmp_ge_f (pc := 11) dX11_sumOf_11 41 rfl c3 ?_
      refine ex_iload_n (pc := 14) 2 dX11_sumOf_14 rfl rfl ?_
      refine ex_iload_n (pc := 15) 1 dX11_sumOf_15 rfl rfl ?_
      refine ex_iload_n (pc := 16) 3 dX11_sumOf_16 rfl rfl ?_
      obtain ⟨v4, ev4, h⟩ := ob_some h
      refine ex_callS2r (pc := 17) dX11_sumOf_17 jX11_has lmX11_269 jsX11_has (Nat.le_of_ble_eq_true rfl) (s_X11_has (by omega)  ev4) ?_
      by_cases c5 : v4 = false
      · rw [if_pos c5] at h
        refine ex_if_eq_t (pc := 20) 32 dX11_sumOf_20 rfl (jz_eq_t c5) ?_
        refine ex_iconst (pc := 32) 0 dX11_sumOf_32 rfl ?_
        refine ex_sub (lo' := [(0, .ref x0), (1, .int x1), (3, .int x3)]) [0, 1, 3] rfl ?_
        exact t_X11_sumOf_33 hd ih _ _ _ _ _ _ _  h
      · rw [if_neg c5] at h
        refine ex_if_eq_f (pc := 20) dX11_sumOf_20 32 rfl (jz_eq_f c5) ?_
        refine ex_aload_n (pc := 23) 0 dX11_sumOf_23 rfl rfl ?_
        refine ex_iload_n (pc := 24) 3 dX11_sumOf_24 rfl rfl ?_
        refine ex_iconst (pc := 25) 2 dX11_sumOf_25 rfl ?_
        obtain ⟨v6, ev6, h⟩ := ob_some h
        refine ex_callV2r (pc := 26) dX11_sumOf_26 jX11_get lmX11_107 jiX11_get jvX11_get (o_X11_get ev6) rfl (Nat.le_of_ble_eq_true rfl) (s_X11_get (by omega)  ev6) ?_
        refine ex_goto (pc := 29) 33 dX11_sumOf_29 rfl ?_
        refine ex_sub (lo' := [(0, .ref x0), (1, .int x1), (3, .int x3)]) [0, 1, 3] rfl ?_
        exact t_X11_sumOf_33 hd ih _ _ _ _ _ _ _  h
noncomputable def f_X11_sumOf_0 (x0 : Nat) (x1 : Int32) (M : Mem) : Option (Int32) :=
  f_X11_sumOf_4 fu x0 x1 0 0 M
set_option maxHeartbeats 4000000 in
theorem t_X11_sumOf_0 {X : XV} {d : Nat} (hd : 2 ≤ d + 1) : ∀ (x0 : Nat) (x1 : Int32) (M : Mem) (res : Int32), f_X11_sumOf_0  x0 x1 M = some res → Ex X (d + 1) mX11_sumOf 0 [(0, .ref x0), (1, .int x1)] [] M (some (.int res)) M := by
  intro x0 x1 M res  h
  unfold f_X11_sumOf_0 at h
  refine ex_iconst (pc := 0) 0 dX11_sumOf_0 rfl ?_
  refine ex_istore_n (pc := 1) [(2, .int 0), (0, .ref x0), (1, .int x1)] dX11_sumOf_1 rfl (by decide) rfl ?_
  refine ex_iconst (pc := 2) 0 dX11_sumOf_2 rfl ?_
  refine ex_istore_n (pc := 3) [(3, .int 0), (2, .int 0), (0, .ref x0), (1, .int x1)] dX11_sumOf_3 rfl (by decide) rfl ?_
  refine ex_sub (lo' := [(0, .ref x0), (1, .int x1), (2, .int 0), (3, .int 0)]) [2, 3, 1, 0] rfl ?_
  exact t_X11_sumOf_4 hd  _ _ _ _ _ _ _  h
noncomputable def f_X11_sumOf (x0 : Nat) (x1 : Int32) (M : Mem) : Option (Int32) := if isOb M 11 x0 = true then f_X11_sumOf_0 x0 x1 M else none
theorem o_X11_sumOf {x0 : Nat} {x1 : Int32} {M : Mem} {res : Int32} (h : f_X11_sumOf x0 x1 M = some res) : isO M 11 x0 := by
  unfold f_X11_sumOf at h
  split at h
  · rename_i hc; exact isOb_iff hc
  · cases h
set_option maxHeartbeats 4000000 in
theorem s_X11_sumOf {X : XV} {d : Nat} (hd : 2 ≤ d) {x0 : Nat} {x1 : Int32} {M : Mem} {res : Int32} (h : f_X11_sumOf x0 x1 M = some res) : Mx X d mX11_sumOf [.ref x0, .int x1] M (some (.int res)) M := by
  obtain ⟨d, rfl⟩ : ∃ e, d = e + 1 := ⟨d - 1, by omega⟩
  unfold f_X11_sumOf at h
  split at h
  rotate_left
  · cases h
  refine Mx.of (by decide) (Nat.le_of_ble_eq_true rfl) (⟨_, rfl, rfl⟩) ?_
  exact ex_sub (lo' := [(0, .ref x0), (1, .int x1)]) [0, 1] rfl (t_X11_sumOf_0 hd _ _ _ _  h)
