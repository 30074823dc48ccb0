noncomputable def f_X2_readClause_119 (x0 : Nat) (x2 : Bool) (M : Mem) : Option (Bool × Mem) :=
  (gI M 2 x0 6).bind fun v1 =>
  (pF M 2 x0 6 (.int (v1 + 1))).bind fun q2 =>
  if x2 = false then
  (some (false, q2))
  else
  ((f_X2_expect x0 38 q2).bind fun q4 =>
  if q4.1 = false then
  (some (false, q4.2))
  else
  (some (true, q4.2)))
set_option maxHeartbeats 4000000 in
theorem t_X2_readClause_119 {X : XV} {d : Nat} (hd : 121 ≤ d + 1) : ∀ (x0 : Nat) (x2 : Bool) (M : Mem) (res : Bool × Mem), f_X2_readClause_119  x0 x2 M = some res → Ex X (d + 1) mX2_readClause 119 [(0, .ref x0), (2, .int (jz x2))] [] M (some (.int (jz res.1))) res.2 := by
  intro x0 x2 M res  h
  unfold f_X2_readClause_119 at h
  refine ex_aload_n (pc := 119) 0 dX2_readClause_119 rfl rfl ?_
  refine ex_dup (pc := 120) dX2_readClause_120 rfl ?_
  obtain ⟨v1, ev1, h⟩ := ob_some h
  refine ex_gI (pc := 121) ev1 dX2_readClause_121 lfX2_44 ?_
  refine ex_iconst (pc := 124) 1 dX2_readClause_124 rfl ?_
  refine ex_iadd (pc := 125) dX2_readClause_125 ?_
  obtain ⟨q2, eq2, h⟩ := ob_some h
  refine ex_pF (pc := 126) eq2 dX2_readClause_126 lfX2_44 rfl rfl (fun _ hq => by cases hq; rfl) ?_
  refine ex_iload_n (pc := 129) 1 dX2_readClause_129 rfl rfl ?_
  by_cases c3 : x2 = false
  · rw [if_pos c3] at h
    refine ex_if_eq_t (pc := 130) 146 dX2_readClause_130 rfl (jz_eq_t c3) ?_
    refine ex_iconst (pc := 146) 0 dX2_readClause_146 rfl ?_
    cases h
    exact ex_ireturn (pc := 147) dX2_readClause_147
  · rw [if_neg c3] at h
    refine ex_if_eq_f (pc := 130) dX2_readClause_130 146 rfl (jz_eq_f c3) ?_
    refine ex_aload_n (pc := 133) 0 dX2_readClause_133 rfl rfl ?_
    refine ex_bipush (pc := 134) 38 dX2_readClause_134 (by decide) ?_
    obtain ⟨q4, eq4, h⟩ := ob_some h
    refine ex_callV1r (pc := 136) dX2_readClause_136 jX2_expect lmX2_98 jiX2_expect jvX2_expect (o_X2_expect eq4) rfl (Nat.le_of_ble_eq_true rfl) (s_X2_expect (by omega)  eq4) ?_
    by_cases c5 : q4.1 = false
    · rw [if_pos c5] at h
      refine ex_if_eq_t (pc := 139) 146 dX2_readClause_139 rfl (jz_eq_t c5) ?_
      refine ex_iconst (pc := 146) 0 dX2_readClause_146 rfl ?_
      cases h
      exact ex_ireturn (pc := 147) dX2_readClause_147
    · rw [if_neg c5] at h
      refine ex_if_eq_f (pc := 139) dX2_readClause_139 146 rfl (jz_eq_f c5) ?_
      refine ex_iconst (pc := 142) 1 dX2_readClause_142 rfl ?_
      refine ex_goto (pc := 143) 147 dX2_readClause_143 rfl ?_
      cases h
      exact ex_ireturn (pc := 147) dX2_readClause_147
noncomputable def f_X2_readClause_40 (x0 : Nat) (x1 : Int32) (M : Mem) : Option (Bool × Mem) :=
  (gI M 2 x0 6).bind fun v6 =>
  if v6 < 24 then
  ((gR M 2 x0 0).bind fun v8 =>
  (f_X7_advance v8 M).bind fun q9 =>
  (gR q9 2 x0 11).bind fun v10 =>
  (gI q9 2 x0 6).bind fun v11 =>
  (wI q9 v10 (v11 * 3) x1).bind fun q12 =>
  if 3 ≤ x1 then
  ((f_X2_readOrder x0 x1 q12).bind fun q14 =>
  f_X2_readClause_119 x0 q14.1 q14.2)
  else
  ((pF q12 2 x0 3 (.int x1)).bind fun q15 =>
  (gR q15 2 x0 9).bind fun v16 =>
  (gI q15 2 x0 5).bind fun v17 =>
  (wI q15 v16 x1 v17).bind fun q18 =>
  (f_X2_readSum x0 q18).bind fun q19 =>
  (gR q19.2 2 x0 10).bind fun v20 =>
  (gI q19.2 2 x0 5).bind fun v21 =>
  (wI q19.2 v20 x1 v21).bind fun q22 =>
  f_X2_readClause_119 x0 q19.1 q22))
  else
  ((f_X2_refuse x0 6 M).bind fun q23 =>
  some (q23.1, q23.2))
set_option maxHeartbeats 4000000 in
theorem t_X2_readClause_40 {X : XV} {d : Nat} (hd : 121 ≤ d + 1) : ∀ (x0 : Nat) (x1 : Int32) (M : Mem) (res : Bool × Mem), f_X2_readClause_40  x0 x1 M = some res → Ex X (d + 1) mX2_readClause 40 [(0, .ref x0), (1, .int x1)] [] M (some (.int (jz res.1))) res.2 := by
  intro x0 x1 M res  h
  unfold f_X2_readClause_40 at h
  refine ex_aload_n (pc := 40) 0 dX2_readClause_40 rfl rfl ?_
  obtain ⟨v6, ev6, h⟩ := ob_some h
  refine ex_gI (pc := 41) ev6 dX2_readClause_41 lfX2_44 ?_
  refine ex_bipush (pc := 44) 24 dX2_readClause_44 (by decide) ?_
  by_cases c7 : v6 < 24
  · rw [if_pos c7] at h
    refine ex_icmp_lt_t (pc := 46) 56 dX2_readClause_46 rfl c7 ?_
    refine ex_aload_n (pc := 56) 0 dX2_readClause_56 rfl rfl ?_
    obtain ⟨v8, ev8, h⟩ := ob_some h
    refine ex_gR (pc := 57) ev8 dX2_readClause_57 lfX2_34 ?_
    obtain ⟨q9, eq9, h⟩ := ob_some h
    refine ex_callV0v (pc := 60) dX2_readClause_60 jX7_advance lmX2_86 jiX7_advance jvX7_advance (o_X7_advance eq9) rfl (Nat.le_of_ble_eq_true rfl) (s_X7_advance (by omega)  eq9) ?_
    refine ex_aload_n (pc := 63) 0 dX2_readClause_63 rfl rfl ?_
    obtain ⟨v10, ev10, h⟩ := ob_some h
    refine ex_gR (pc := 64) ev10 dX2_readClause_64 lfX2_31 ?_
    refine ex_aload_n (pc := 67) 0 dX2_readClause_67 rfl rfl ?_
    obtain ⟨v11, ev11, h⟩ := ob_some h
    refine ex_gI (pc := 68) ev11 dX2_readClause_68 lfX2_44 ?_
    refine ex_iconst (pc := 71) 3 dX2_readClause_71 rfl ?_
    refine ex_imul (pc := 72) dX2_readClause_72 ?_
    refine ex_iload_n (pc := 73) 1 dX2_readClause_73 rfl rfl ?_
    obtain ⟨q12, eq12, h⟩ := ob_some h
    refine ex_wI (pc := 74) eq12 dX2_readClause_74 ?_
    refine ex_iload_n (pc := 75) 1 dX2_readClause_75 rfl rfl ?_
    refine ex_iconst (pc := 76) 3 dX2_readClause_76 rfl ?_
    by_cases c13 : 3 ≤ x1
    · rw [if_pos c13] at h
      refine ex_icmp_ge_t (pc := 77) 113 dX2_readClause_77 rfl c13 ?_
      refine ex_aload_n (pc := 113) 0 dX2_readClause_113 rfl rfl ?_
      refine ex_iload_n (pc := 114) 1 dX2_readClause_114 rfl rfl ?_
      obtain ⟨q14, eq14, h⟩ := ob_some h
      refine ex_callV1r (pc := 115) dX2_readClause_115 jX2_readOrder lmX2_95 jiX2_readOrder jvX2_readOrder (o_X2_readOrder eq14) rfl (Nat.le_of_ble_eq_true rfl) (s_X2_readOrder (by omega)  eq14) ?_
      refine ex_istore_n (pc := 118) [(2, .int (jz q14.1)), (0, .ref x0), (1, .int x1)] dX2_readClause_118 rfl (by decide) rfl ?_
      refine ex_sub (lo' := [(0, .ref x0), (2, .int (jz q14.1))]) [1, 0] rfl ?_
      exact t_X2_readClause_119 hd  _ _ _ _  h
    · rw [if_neg c13] at h
      refine ex_icmp_ge_f (pc := 77) dX2_readClause_77 113 rfl c13 ?_
      refine ex_aload_n (pc := 80) 0 dX2_readClause_80 rfl rfl ?_
      refine ex_iload_n (pc := 81) 1 dX2_readClause_81 rfl rfl ?_
      obtain ⟨q15, eq15, h⟩ := ob_some h
      refine ex_pF (pc := 82) eq15 dX2_readClause_82 lfX2_89 rfl rfl (fun _ hq => by cases hq; rfl) ?_
      refine ex_aload_n (pc := 85) 0 dX2_readClause_85 rfl rfl ?_
      obtain ⟨v16, ev16, h⟩ := ob_some h
      refine ex_gR (pc := 86) ev16 dX2_readClause_86 lfX2_25 ?_
      refine ex_iload_n (pc := 89) 1 dX2_readClause_89 rfl rfl ?_
      refine ex_aload_n (pc := 90) 0 dX2_readClause_90 rfl rfl ?_
      obtain ⟨v17, ev17, h⟩ := ob_some h
      refine ex_gI (pc := 91) ev17 dX2_readClause_91 lfX2_41 ?_
      obtain ⟨q18, eq18, h⟩ := ob_some h
      refine ex_wI (pc := 94) eq18 dX2_readClause_94 ?_
      refine ex_aload_n (pc := 95) 0 dX2_readClause_95 rfl rfl ?_
      obtain ⟨q19, eq19, h⟩ := ob_some h
      refine ex_callV0r (pc := 96) dX2_readClause_96 jX2_readSum lmX2_92 jiX2_readSum jvX2_readSum (o_X2_readSum eq19) rfl (Nat.le_of_ble_eq_true rfl) (s_X2_readSum (by omega)  eq19) ?_
      refine ex_istore_n (pc := 99) [(2, .int (jz q19.1)), (0, .ref x0), (1, .int x1)] dX2_readClause_99 rfl (by decide) rfl ?_
      refine ex_aload_n (pc := 100) 1 dX2_readClause_100 rfl rfl ?_
      obtain ⟨v20, ev20, h⟩ := ob_some h
      refine ex_gR (pc := 101) ev20 dX2_readClause_101 lfX2_28 ?_
      refine ex_iload_n (pc := 104) 2 dX2_readClause_104 rfl rfl ?_
      refine ex_aload_n (pc := 105) 1 dX2_readClause_105 rfl rfl ?_
      obtain ⟨v21, ev21, h⟩ := ob_some h
      refine ex_gI (pc := 106) ev21 dX2_readClause_106 lfX2_41 ?_
      obtain ⟨q22, eq22, h⟩ := ob_some h
      refine ex_wI (pc := 109) eq22 dX2_readClause_109 ?_
      refine ex_goto (pc := 110) 119 dX2_readClause_110 rfl ?_
      refine ex_sub (lo' := [(0, .ref x0), (2, .int (jz q19.1))]) [1, 0] rfl ?_
      exact t_X2_readClause_119 hd  _ _ _ _  h
  · rw [if_neg c7] at h
    refine ex_icmp_lt_f (pc := 46) dX2_readClause_46 56 rfl c7 ?_
    refine ex_aload_n (pc := 49) 0 dX2_readClause_49 rfl rfl ?_
    refine ex_bipush (pc := 50) 6 dX2_readClause_50 (by decide) ?_
    obtain ⟨q23, eq23, h⟩ := ob_some h
    refine ex_callV1r (pc := 52) dX2_readClause_52 jX2_refuse lmX2_82 jiX2_refuse jvX2_refuse (o_X2_refuse eq23) rfl (Nat.le_of_ble_eq_true rfl) (s_X2_refuse (by omega)  eq23) ?_
    cases h
    exact ex_ireturn (pc := 55) dX2_readClause_55
noncomputable def f_X2_readClause_0 (x0 : Nat) (M : Mem) : Option (Bool × Mem) :=
  (gR M 2 x0 0).bind fun v24 =>
  (gI M 7 v24 2).bind fun v25 =>
  if v25 ≤ 9 then
  (if 3 ≤ v25 then
  (f_X2_readClause_40 x0 v25 M)
  else
  ((gR M 2 x0 9).bind fun v28 =>
  (rI M v28 v25).bind fun v29 =>
  if v29 < 0 then
  (f_X2_readClause_40 x0 v25 M)
  else
  ((f_X2_refuse x0 4 M).bind fun q31 =>
  some (q31.1, q31.2))))
  else
  ((f_X2_refuse x0 1 M).bind fun q32 =>
  some (q32.1, q32.2))
set_option maxHeartbeats 4000000 in
theorem t_X2_readClause_0 {X : XV} {d : Nat} (hd : 121 ≤ d + 1) : ∀ (x0 : Nat) (M : Mem) (res : Bool × Mem), f_X2_readClause_0  x0 M = some res → Ex X (d + 1) mX2_readClause 0 [(0, .ref x0)] [] M (some (.int (jz res.1))) res.2 := by
  intro x0 M res  h
  unfold f_X2_readClause_0 at h
  refine ex_aload_n (pc := 0) 0 dX2_readClause_0 rfl rfl ?_
  obtain ⟨v24, ev24, h⟩ := ob_some h
  refine ex_gR (pc := 1) ev24 dX2_readClause_1 lfX2_34 ?_
  obtain ⟨v25, ev25, h⟩ := ob_some h
  refine ex_gI (pc := 4) ev25 dX2_readClause_4 lfX2_58 ?_
  refine ex_istore_n (pc := 7) [(1, .int v25), (0, .ref x0)] dX2_readClause_7 rfl (by decide) rfl ?_
  refine ex_iload_n (pc := 8) 0 dX2_readClause_8 rfl rfl ?_
  refine ex_bipush (pc := 9) 9 dX2_readClause_9 (by decide) ?_
  by_cases c26 : v25 ≤ 9
  · rw [if_pos c26] at h
    refine ex_icmp_le_t (pc := 11) 20 dX2_readClause_11 rfl c26 ?_
    refine ex_iload_n (pc := 20) 0 dX2_readClause_20 rfl rfl ?_
    refine ex_iconst (pc := 21) 3 dX2_readClause_21 rfl ?_
    by_cases c27 : 3 ≤ v25
    · rw [if_pos c27] at h
      refine ex_icmp_ge_t (pc := 22) 40 dX2_readClause_22 rfl c27 ?_
      refine ex_sub (lo' := [(0, .ref x0), (1, .int v25)]) [1, 0] rfl ?_
      exact t_X2_readClause_40 hd  _ _ _ _  h
    · rw [if_neg c27] at h
      refine ex_icmp_ge_f (pc := 22) dX2_readClause_22 40 rfl c27 ?_
      refine ex_aload_n (pc := 25) 1 dX2_readClause_25 rfl rfl ?_
      obtain ⟨v28, ev28, h⟩ := ob_some h
      refine ex_gR (pc := 26) ev28 dX2_readClause_26 lfX2_25 ?_
      refine ex_iload_n (pc := 29) 0 dX2_readClause_29 rfl rfl ?_
      obtain ⟨v29, ev29, h⟩ := ob_some h
      refine ex_rI (pc := 30) ev29 dX2_readClause_30 ?_
      by_cases c30 : v29 < 0
      · rw [if_pos c30] at h
        refine ex_if_lt_t (pc := 31) 40 dX2_readClause_31 rfl c30 ?_
        refine ex_sub (lo' := [(0, .ref x0), (1, .int v25)]) [1, 0] rfl ?_
        exact t_X2_readClause_40 hd  _ _ _ _  h
      · rw [if_neg c30] at h
        refine ex_if_lt_f (pc := 31) dX2_readClause_31 40 rfl c30 ?_
        refine ex_aload_n (pc := 34) 1 dX2_readClause_34 rfl rfl ?_
        refine ex_iconst (pc := 35) 4 dX2_readClause_35 rfl ?_
        obtain ⟨q31, eq31, h⟩ := ob_some h
        refine ex_callV1r (pc := 36) dX2_readClause_36 jX2_refuse lmX2_82 jiX2_refuse jvX2_refuse (o_X2_refuse eq31) rfl (Nat.le_of_ble_eq_true rfl) (s_X2_refuse (by omega)  eq31) ?_
        cases h
        exact ex_ireturn (pc := 39) dX2_readClause_39
  · rw [if_neg c26] at h
    refine ex_icmp_le_f (pc := 11) dX2_readClause_11 20 rfl c26 ?_
    refine ex_aload_n (pc := 14) 1 dX2_readClause_14 rfl rfl ?_
    refine ex_iconst (pc := 15) 1 dX2_readClause_15 rfl ?_
    obtain ⟨q32, eq32, h⟩ := ob_some h
    refine ex_callV1r (pc := 16) dX2_readClause_16 jX2_refuse lmX2_82 jiX2_refuse jvX2_refuse (o_X2_refuse eq32) rfl (Nat.le_of_ble_eq_true rfl) (s_X2_refuse (by omega)  eq32) ?_
    cases h
    exact ex_ireturn (pc := 19) dX2_readClause_19
noncomputable def f_X2_readClause (x0 : Nat) (M : Mem) : Option (Bool × Mem) := if isOb M 2 x0 = true then f_X2_readClause_0 x0 M else none
theorem o_X2_readClause {x0 : Nat} {M : Mem} {res : Bool × Mem} (h : f_X2_readClause x0 M = some res) : isO M 2 x0 := by
  unfold f_X2_readClause at h
  split at h
  · rename_i hc; exact isOb_iff hc
  · cases h
set_option maxHeartbeats 4000000 in
theorem s_X2_readClause {X : XV} {d : Nat} (hd : 121 ≤ d) {x0 : Nat} {M : Mem} {res : Bool × Mem} (h : f_X2_readClause x0 M = some res) : Mx X d mX2_readClause [.ref x0] M (some (.int (jz res.1))) res.2 := by
  obtain ⟨d, rfl⟩ : ∃ e, d = e + 1 := ⟨d - 1, by omega⟩
  unfold f_X2_readClause at h
  split at h
  rotate_left
  · cases h
  refine Mx.of (by decide) (Nat.le_of_ble_eq_true rfl) (⟨_, rfl, jz_nar _⟩) ?_
  exact ex_sub (lo' := [(0, .ref x0)]) [0] rfl (t_X2_readClause_0 hd _ _ _  h)
noncomputable def f_X2_read_52 (n0 : Nat) (x0 : Nat) (x1 : Bool) (x2 : Int32) (M : Mem) : Option (Bool × Mem) :=
  match n0 with
  | 0 => none
  | n + 1 =>
    if 300 ≤ x2 then
    (some (x1, M))
    else
    (if x1 = false then
    (some (x1, M))
    else
    ((gR M 2 x0 0).bind fun v3 =>
    (gI M 7 v3 2).bind fun v4 =>
    if v4 = 41 then
    (some (x1, M))
    else
    ((f_X2_readClause x0 M).bind fun q6 =>
    f_X2_read_52 n x0 q6.1 (x2 + 1) q6.2)))
set_option maxHeartbeats 4000000 in
theorem t_X2_read_52 {X : XV} {d : Nat} (hd : 122 ≤ d + 1) : ∀ (n : Nat) (x0 : Nat) (x1 : Bool) (x2 : Int32) (M : Mem) (res : Bool × Mem), f_X2_read_52 n  x0 x1 x2 M = some res → Ex X (d + 1) mX2_read 52 [(0, .ref x0), (1, .int (jz x1)), (2, .int x2)] [] M (some (.int (jz res.1))) res.2 := by
  intro n
  induction n with
  | zero =>
    intro x0 x1 x2 M res  h
    unfold f_X2_read_52 at h
    cases h
  | succ n ih =>
    intro x0 x1 x2 M res  h
    unfold f_X2_read_52 at h
    refine ex_iload_n (pc := 52) 2 dX2_read_52 rfl rfl ?_
    refine ex_sipush (pc := 53) 300 dX2_read_53 (by decide) ?_
    by_cases c1 : 300 ≤ x2
    · rw [if_pos c1] at h
      refine ex_icmp_ge_t (pc := 56) 86 dX2_read_56 rfl c1 ?_
      refine ex_iload_n (pc := 86) 1 dX2_read_86 rfl rfl ?_
      cases h
      exact ex_ireturn (pc := 87) dX2_read_87
    · rw [if_neg c1] at h
      refine ex_icmp_ge_f (pc := 56) dX2_read_56 86 rfl c1 ?_
      refine ex_iload_n (pc := 59) 1 dX2_read_59 rfl rfl ?_
      by_cases c2 : x1 = false
      · rw [if_pos c2] at h
        refine ex_if_eq_t (pc := 60) 86 dX2_read_60 rfl (jz_eq_t c2) ?_
        refine ex_iload_n (pc := 86) 1 dX2_read_86 rfl rfl ?_
        cases h
        exact ex_ireturn (pc := 87) dX2_read_87
      · rw [if_neg c2] at h
        refine ex_if_eq_f (pc := 60) dX2_read_60 86 rfl (jz_eq_f c2) ?_
        refine ex_aload_n (pc := 63) 0 dX2_read_63 rfl rfl ?_
        obtain ⟨v3, ev3, h⟩ := ob_some h
        refine ex_gR (pc := 64) ev3 dX2_read_64 lfX2_34 ?_
        obtain ⟨v4, ev4, h⟩ := ob_some h
        refine ex_gI (pc := 67) ev4 dX2_read_67 lfX2_58 ?_
        refine ex_bipush (pc := 70) 41 dX2_read_70 (by decide) ?_
        by_cases c5 : v4 = 41
        · rw [if_pos c5] at h
          refine ex_icmp_eq_t (pc := 72) 86 dX2_read_72 rfl c5 ?_
          refine ex_iload_n (pc := 86) 1 dX2_read_86 rfl rfl ?_
          cases h
          exact ex_ireturn (pc := 87) dX2_read_87
        · rw [if_neg c5] at h
          refine ex_icmp_eq_f (pc := 72) dX2_read_72 86 rfl c5 ?_
          refine ex_aload_n (pc := 75) 0 dX2_read_75 rfl rfl ?_
          obtain ⟨q6, eq6, h⟩ := ob_some h
          refine ex_callV0r (pc := 76) dX2_read_76 jX2_readClause lmX2_61 jiX2_readClause jvX2_readClause (o_X2_readClause eq6) rfl (Nat.le_of_ble_eq_true rfl) (s_X2_readClause (by omega)  eq6) ?_
          refine ex_istore_n (pc := 79) [(1, .int (jz q6.1)), (0, .ref x0), (2, .int x2)] dX2_read_79 rfl (by decide) rfl ?_
          refine ex_iinc (pc := 80) (x2 + 1) 2 [(2, .int (x2 + 1)), (1, .int (jz q6.1)), (0, .ref x0)] dX2_read_80 rfl rfl (by decide) rfl ?_
          refine ex_goto (pc := 83) 52 dX2_read_83 rfl ?_
          refine ex_sub (lo' := [(0, .ref x0), (1, .int (jz q6.1)), (2, .int (x2 + 1))]) [2, 1, 0] rfl ?_
          exact ih _ _ _ _ _  h
noncomputable def f_X2_read_0 (x0 : Nat) (M : Mem) : Option (Bool × Mem) :=
  (pF M 2 x0 1 (.int 0)).bind fun q7 =>
  (pF q7 2 x0 2 (.int (-1))).bind fun q8 =>
  (pF q8 2 x0 4 (.int 0)).bind fun q9 =>
  (pF q9 2 x0 5 (.int 0)).bind fun q10 =>
  (pF q10 2 x0 6 (.int 0)).bind fun q11 =>
  (gR q11 2 x0 9).bind fun v12 =>
  (f_J7_fill_53178 v12 (-1) q11).bind fun q13 =>
  (gR q13 2 x0 10).bind fun v14 =>
  (f_J7_fill_53178 v14 (-1) q13).bind fun q15 =>
  (gR q15 2 x0 0).bind fun v16 =>
  (f_X7_rewind v16 q15).bind fun q17 =>
  f_X2_read_52 fu x0 true 0 q17
set_option maxHeartbeats 4000000 in
theorem t_X2_read_0 {X : XV} {d : Nat} (hd : 122 ≤ d + 1) : ∀ (x0 : Nat) (M : Mem) (res : Bool × Mem), f_X2_read_0  x0 M = some res → Ex X (d + 1) mX2_read 0 [(0, .ref x0)] [] M (some (.int (jz res.1))) res.2 := by
  intro x0 M res  h
  unfold f_X2_read_0 at h
  refine ex_aload_n (pc := 0) 0 dX2_read_0 rfl rfl ?_
  refine ex_iconst (pc := 1) 0 dX2_read_1 rfl ?_
  obtain ⟨q7, eq7, h⟩ := ob_some h
  refine ex_pF (pc := 2) eq7 dX2_read_2 lfX2_9 rfl rfl (fun _ hq => by cases hq; rfl) ?_
  refine ex_aload_n (pc := 5) 0 dX2_read_5 rfl rfl ?_
  refine ex_iconst (pc := 6) (-1) dX2_read_6 rfl ?_
  obtain ⟨q8, eq8, h⟩ := ob_some h
  refine ex_pF (pc := 7) eq8 dX2_read_7 lfX2_15 rfl rfl (fun _ hq => by cases hq; rfl) ?_
  refine ex_aload_n (pc := 10) 0 dX2_read_10 rfl rfl ?_
  refine ex_iconst (pc := 11) 0 dX2_read_11 rfl ?_
  obtain ⟨q9, eq9, h⟩ := ob_some h
  refine ex_pF (pc := 12) eq9 dX2_read_12 lfX2_38 rfl rfl (fun _ hq => by cases hq; rfl) ?_
  refine ex_aload_n (pc := 15) 0 dX2_read_15 rfl rfl ?_
  refine ex_iconst (pc := 16) 0 dX2_read_16 rfl ?_
  obtain ⟨q10, eq10, h⟩ := ob_some h
  refine ex_pF (pc := 17) eq10 dX2_read_17 lfX2_41 rfl rfl (fun _ hq => by cases hq; rfl) ?_
  refine ex_aload_n (pc := 20) 0 dX2_read_20 rfl rfl ?_
  refine ex_iconst (pc := 21) 0 dX2_read_21 rfl ?_
  obtain ⟨q11, eq11, h⟩ := ob_some h
  refine ex_pF (pc := 22) eq11 dX2_read_22 lfX2_44 rfl rfl (fun _ hq => by cases hq; rfl) ?_
  refine ex_aload_n (pc := 25) 0 dX2_read_25 rfl rfl ?_
  obtain ⟨v12, ev12, h⟩ := ob_some h
  refine ex_gR (pc := 26) ev12 dX2_read_26 lfX2_25 ?_
  refine ex_iconst (pc := 29) (-1) dX2_read_29 rfl ?_
  obtain ⟨q13, eq13, h⟩ := ob_some h
  refine ex_callS2v (pc := 30) dX2_read_30 jJ7_fill_53178 lmX2_47 jsJ7_fill_53178 (Nat.le_of_ble_eq_true rfl) (s_J7_fill_53178 (by omega)  eq13) ?_
  refine ex_aload_n (pc := 33) 0 dX2_read_33 rfl rfl ?_
  obtain ⟨v14, ev14, h⟩ := ob_some h
  refine ex_gR (pc := 34) ev14 dX2_read_34 lfX2_28 ?_
  refine ex_iconst (pc := 37) (-1) dX2_read_37 rfl ?_
  obtain ⟨q15, eq15, h⟩ := ob_some h
  refine ex_callS2v (pc := 38) dX2_read_38 jJ7_fill_53178 lmX2_47 jsJ7_fill_53178 (Nat.le_of_ble_eq_true rfl) (s_J7_fill_53178 (by omega)  eq15) ?_
  refine ex_aload_n (pc := 41) 0 dX2_read_41 rfl rfl ?_
  obtain ⟨v16, ev16, h⟩ := ob_some h
  refine ex_gR (pc := 42) ev16 dX2_read_42 lfX2_34 ?_
  obtain ⟨q17, eq17, h⟩ := ob_some h
  refine ex_callV0v (pc := 45) dX2_read_45 jX7_rewind lmX2_53 jiX7_rewind jvX7_rewind (o_X7_rewind eq17) rfl (Nat.le_of_ble_eq_true rfl) (s_X7_rewind (by omega)  eq17) ?_
  refine ex_iconst (pc := 48) 1 dX2_read_48 rfl ?_
  refine ex_istore_n (pc := 49) [(1, .int 1), (0, .ref x0)] dX2_read_49 rfl (by decide) rfl ?_
  refine ex_iconst (pc := 50) 0 dX2_read_50 rfl ?_
  refine ex_istore_n (pc := 51) [(2, .int 0), (1, .int 1), (0, .ref x0)] dX2_read_51 rfl (by decide) rfl ?_
  refine ex_sub (lo' := [(0, .ref x0), (1, .int (jz true)), (2, .int 0)]) [2, 1, 0] rfl ?_
  exact t_X2_read_52 hd  _ _ _ _ _ _  h
noncomputable def f_X2_read (x0 : Nat) (M : Mem) : Option (Bool × Mem) := if isOb M 2 x0 = true then f_X2_read_0 x0 M else none
theorem o_X2_read {x0 : Nat} {M : Mem} {res : Bool × Mem} (h : f_X2_read x0 M = some res) : isO M 2 x0 := by
  unfold f_X2_read at h
  split at h
  · rename_i hc; exact isOb_iff hc
  · cases h
set_option maxHeartbeats 4000000 in
theorem s_X2_read {X : XV} {d : Nat} (hd : 122 ≤ d) {x0 : Nat} {M : Mem} {res : Bool × Mem} (h : f_X2_read x0 M = some res) : Mx X d mX2_read [.ref x0] M (some (.int (jz res.1))) res.2 := by
  obtain ⟨d, rfl⟩ : ∃ e, d = e + 1 := ⟨d - 1, by omega⟩
  unfold f_X2_read at h
  split at h
  rotate_left
  · cases h
  refine Mx.of (by decide) (Nat.le_of_ble_eq_true rfl) (⟨_, rfl, jz_nar _⟩) ?_
  exact ex_sub (lo' := [(0, .ref x0)]) [0] rfl (t_X2_read_0 hd _ _ _  h)
noncomputable def f_X10_text_0 (x0 : Nat) (M : Mem) : Option (Int32 × Mem) :=
  (gR M 10 x0 0).bind fun v1 =>
  (gI M 4 v1 5).bind fun v2 =>
  if v2 < 4 then
  ((gR M 10 x0 3).bind fun v4 =>
  (f_X2_read v4 M).bind fun q5 =>
  (gR q5.2 10 x0 2).bind fun v6 =>
  (pF q5.2 7 v6 1 (.int 0)).bind fun q7 =>
  if q5.1 = true then
  ((gR q7 10 x0 0).bind fun v9 =>
  (gR q7 4 v9 4).bind fun v10 =>
  (gR q7 10 x0 0).bind fun v11 =>
  (gI q7 4 v11 5).bind fun v12 =>
  (gR q7 10 x0 3).bind fun v13 =>
  (f_X2_compiled v13 q7).bind fun q14 =>
  (wQ 3 8 q14.2 v10 v12 q14.1).bind fun q15 =>
  (gR q15 10 x0 0).bind fun v16 =>
  (gI q15 4 v16 5).bind fun v17 =>
  (pF q15 4 v16 5 (.int (v17 + 1))).bind fun q18 =>
  (gR q18 10 x0 0).bind fun v19 =>
  (gI q18 4 v19 5).bind fun v20 =>
  some ((v20 - 1), q18))
  else
  (some ((-1), q7)))
  else
  (some ((-1), M))
set_option maxHeartbeats 4000000 in
theorem t_X10_text_0 {X : XV} {d : Nat} (hd : 123 ≤ d + 1) : ∀ (x0 : Nat) (M : Mem) (res : Int32 × Mem), f_X10_text_0  x0 M = some res → Ex X (d + 1) mX10_text 0 [(0, .ref x0)] [] M (some (.int res.1)) res.2 := by
  intro x0 M res  h
  unfold f_X10_text_0 at h
  refine ex_aload_n (pc := 0) 0 dX10_text_0 rfl rfl ?_
  obtain ⟨v1, ev1, h⟩ := ob_some h
  refine ex_gR (pc := 1) ev1 dX10_text_1 lfX10_10 ?_
  obtain ⟨v2, ev2, h⟩ := ob_some h
  refine ex_gI (pc := 4) ev2 dX10_text_4 lfX10_97 ?_
  refine ex_iconst (pc := 7) 4 dX10_text_7 rfl ?_
  by_cases c3 : v2 < 4
  · rw [if_pos c3] at h
    refine ex_icmp_lt_t (pc := 8) 13 dX10_text_8 rfl c3 ?_
    refine ex_aload_n (pc := 13) 0 dX10_text_13 rfl rfl ?_
    obtain ⟨v4, ev4, h⟩ := ob_some h
    refine ex_gR (pc := 14) ev4 dX10_text_14 lfX10_31 ?_
    obtain ⟨q5, eq5, h⟩ := ob_some h
    refine ex_callV0r (pc := 17) dX10_text_17 jX2_read lmX10_100 jiX2_read jvX2_read (o_X2_read eq5) rfl (Nat.le_of_ble_eq_true rfl) (s_X2_read (by omega)  eq5) ?_
    refine ex_istore_n (pc := 20) [(1, .int (jz q5.1)), (0, .ref x0)] dX10_text_20 rfl (by decide) rfl ?_
    refine ex_aload_n (pc := 21) 1 dX10_text_21 rfl rfl ?_
    obtain ⟨v6, ev6, h⟩ := ob_some h
    refine ex_gR (pc := 22) ev6 dX10_text_22 lfX10_22 ?_
    refine ex_iconst (pc := 25) 0 dX10_text_25 rfl ?_
    obtain ⟨q7, eq7, h⟩ := ob_some h
    refine ex_pF (pc := 26) eq7 dX10_text_26 lfX10_89 rfl rfl (fun _ hq => by cases hq; rfl) ?_
    refine ex_iload_n (pc := 29) 0 dX10_text_29 rfl rfl ?_
    by_cases c8 : q5.1 = true
    · rw [if_pos c8] at h
      refine ex_if_ne_t (pc := 30) 35 dX10_text_30 rfl (jz_ne_t c8) ?_
      refine ex_aload_n (pc := 35) 1 dX10_text_35 rfl rfl ?_
      obtain ⟨v9, ev9, h⟩ := ob_some h
      refine ex_gR (pc := 36) ev9 dX10_text_36 lfX10_10 ?_
      obtain ⟨v10, ev10, h⟩ := ob_some h
      refine ex_gR (pc := 39) ev10 dX10_text_39 lfX10_104 ?_
      refine ex_aload_n (pc := 42) 1 dX10_text_42 rfl rfl ?_
      obtain ⟨v11, ev11, h⟩ := ob_some h
      refine ex_gR (pc := 43) ev11 dX10_text_43 lfX10_10 ?_
      obtain ⟨v12, ev12, h⟩ := ob_some h
      refine ex_gI (pc := 46) ev12 dX10_text_46 lfX10_97 ?_
      refine ex_aload_n (pc := 49) 1 dX10_text_49 rfl rfl ?_
      obtain ⟨v13, ev13, h⟩ := ob_some h
      refine ex_gR (pc := 50) ev13 dX10_text_50 lfX10_31 ?_
      obtain ⟨q14, eq14, h⟩ := ob_some h
      refine ex_callV0r (pc := 53) dX10_text_53 jX2_compiled lmX10_108 jiX2_compiled jvX2_compiled (o_X2_compiled eq14) rfl (Nat.le_of_ble_eq_true rfl) (s_X2_compiled (by omega)  eq14) ?_
      obtain ⟨q15, eq15, h⟩ := ob_some h
      refine ex_wQ3 (pc := 56) eq15 dX10_text_56 ?_
      refine ex_aload_n (pc := 57) 1 dX10_text_57 rfl rfl ?_
      obtain ⟨v16, ev16, h⟩ := ob_some h
      refine ex_gR (pc := 58) ev16 dX10_text_58 lfX10_10 ?_
      refine ex_dup (pc := 61) dX10_text_61 rfl ?_
      obtain ⟨v17, ev17, h⟩ := ob_some h
      refine ex_gI (pc := 62) ev17 dX10_text_62 lfX10_97 ?_
      refine ex_iconst (pc := 65) 1 dX10_text_65 rfl ?_
      refine ex_iadd (pc := 66) dX10_text_66 ?_
      obtain ⟨q18, eq18, h⟩ := ob_some h
      refine ex_pF (pc := 67) eq18 dX10_text_67 lfX10_97 rfl rfl (fun _ hq => by cases hq; rfl) ?_
      refine ex_aload_n (pc := 70) 1 dX10_text_70 rfl rfl ?_
      obtain ⟨v19, ev19, h⟩ := ob_some h
      refine ex_gR (pc := 71) ev19 dX10_text_71 lfX10_10 ?_
      obtain ⟨v20, ev20, h⟩ := ob_some h
      refine ex_gI (pc := 74) ev20 dX10_text_74 lfX10_97 ?_
      refine ex_iconst (pc := 77) 1 dX10_text_77 rfl ?_
      refine ex_isub (pc := 78) dX10_text_78 ?_
      cases h
      exact ex_ireturn (pc := 79) dX10_text_79
    · rw [if_neg c8] at h
      refine ex_if_ne_f (pc := 30) dX10_text_30 35 rfl (jz_ne_f c8) ?_
      refine ex_iconst (pc := 33) (-1) dX10_text_33 rfl ?_
      cases h
      exact ex_ireturn (pc := 34) dX10_text_34
  · rw [if_neg c3] at h
    refine ex_icmp_lt_f (pc := 8) dX10_text_8 13 rfl c3 ?_
    refine ex_iconst (pc := 11) (-1) dX10_text_11 rfl ?_
    cases h
    exact ex_ireturn (pc := 12) dX10_text_12
noncomputable def f_X10_text (x0 : Nat) (M : Mem) : Option (Int32 × Mem) := if isOb M 10 x0 = true then f_X10_text_0 x0 M else none
theorem o_X10_text {x0 : Nat} {M : Mem} {res : Int32 × Mem} (h : f_X10_text x0 M = some res) : isO M 10 x0 := by
  unfold f_X10_text at h
  split at h
  · rename_i hc; exact isOb_iff hc
  · cases h
set_option maxHeartbeats 4000000 in
theorem s_X10_text {X : XV} {d : Nat} (hd : 123 ≤ d) {x0 : Nat} {M : Mem} {res : Int32 × Mem} (h : f_X10_text x0 M = some res) : Mx X d mX10_text [.ref x0] M (some (.int res.1)) res.2 := by
  obtain ⟨d, rfl⟩ : ∃ e, d = e + 1 := ⟨d - 1, by omega⟩
  unfold f_X10_text at h
  split at h
  rotate_left
  · cases h
  refine Mx.of (by decide) (Nat.le_of_ble_eq_true rfl) (⟨_, rfl, rfl⟩) ?_
  exact ex_sub (lo' := [(0, .ref x0)]) [0] rfl (t_X10_text_0 hd _ _ _  h)
