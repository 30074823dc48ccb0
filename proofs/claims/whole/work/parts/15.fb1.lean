noncomputable def f_X4_theText_0 (x0 : Nat) (M : Mem) : Option (Option Nat) :=
  (gI M 4 x0 6).bind fun v1 =>
  if v1 < 0 then
  (some none)
  else
  ((gI M 4 x0 6).bind fun v3 =>
  (gI M 4 x0 5).bind fun v4 =>
  if v4 ≤ v3 then
  (some none)
  else
  ((gI M 4 x0 6).bind fun v6 =>
  if 4 ≤ v6 then
  (some none)
  else
  ((gR M 4 x0 4).bind fun v8 =>
  (gI M 4 x0 6).bind fun v9 =>
  (rQ 3 M v8 v9).bind fun o10 =>
  some o10)))
set_option maxHeartbeats 4000000 in
theorem t_X4_theText_0 {X : XV} {d : Nat} (hd : 1 ≤ d + 1) : ∀ (x0 : Nat) (M : Mem) (res : Option Nat), f_X4_theText_0  x0 M = some res → Ex X (d + 1) mX4_theText 0 [(0, .ref x0)] [] M (some (va_rf res)) M := by
  intro x0 M res  h
  unfold f_X4_theText_0 at h
  refine ex_aload_n (pc := 0) 0 dX4_theText_0 rfl rfl ?_
  obtain ⟨v1, ev1, h⟩ := ob_some h
  refine ex_gI (pc := 1) ev1 dX4_theText_1 lfX4_28 ?_
  by_cases c2 : v1 < 0
  · rw [if_pos c2] at h
    refine ex_if_lt_t (pc := 4) 38 dX4_theText_4 rfl c2 ?_
    refine ex_null (pc := 38) dX4_theText_38 ?_
    cases h
    exact ex_areturnN (pc := 39) dX4_theText_39
  · rw [if_neg c2] at h
    refine ex_if_lt_f (pc := 4) dX4_theText_4 38 rfl c2 ?_
    refine ex_aload_n (pc := 7) 0 dX4_theText_7 rfl rfl ?_
    obtain ⟨v3, ev3, h⟩ := ob_some h
    refine ex_gI (pc := 8) ev3 dX4_theText_8 lfX4_28 ?_
    refine ex_aload_n (pc := 11) 0 dX4_theText_11 rfl rfl ?_
    obtain ⟨v4, ev4, h⟩ := ob_some h
    refine ex_gI (pc := 12) ev4 dX4_theText_12 lfX4_66 ?_
    by_cases c5 : v4 ≤ v3
    · rw [if_pos c5] at h
      refine ex_icmp_ge_t (pc := 15) 38 dX4_theText_15 rfl c5 ?_
      refine ex_null (pc := 38) dX4_theText_38 ?_
      cases h
      exact ex_areturnN (pc := 39) dX4_theText_39
    · rw [if_neg c5] at h
      refine ex_icmp_ge_f (pc := 15) dX4_theText_15 38 rfl c5 ?_
      refine ex_aload_n (pc := 18) 0 dX4_theText_18 rfl rfl ?_
      obtain ⟨v6, ev6, h⟩ := ob_some h
      refine ex_gI (pc := 19) ev6 dX4_theText_19 lfX4_28 ?_
      refine ex_iconst (pc := 22) 4 dX4_theText_22 rfl ?_
      by_cases c7 : 4 ≤ v6
      · rw [if_pos c7] at h
        refine ex_icmp_ge_t (pc := 23) 38 dX4_theText_23 rfl c7 ?_
        refine ex_null (pc := 38) dX4_theText_38 ?_
        cases h
        exact ex_areturnN (pc := 39) dX4_theText_39
      · rw [if_neg c7] at h
        refine ex_icmp_ge_f (pc := 23) dX4_theText_23 38 rfl c7 ?_
        refine ex_aload_n (pc := 26) 0 dX4_theText_26 rfl rfl ?_
        obtain ⟨v8, ev8, h⟩ := ob_some h
        refine ex_gR (pc := 27) ev8 dX4_theText_27 lfX4_24 ?_
        refine ex_aload_n (pc := 30) 0 dX4_theText_30 rfl rfl ?_
        obtain ⟨v9, ev9, h⟩ := ob_some h
        refine ex_gI (pc := 31) ev9 dX4_theText_31 lfX4_28 ?_
        obtain ⟨o10, eo10, h⟩ := ob_some h
        refine ex_rQ (pc := 34) eo10 (by decide) dX4_theText_34 ?_
        refine ex_goto (pc := 35) 39 dX4_theText_35 rfl ?_
        cases h
        exact ex_areturnq (pc := 39) dX4_theText_39
noncomputable def f_X4_theText (x0 : Nat) (M : Mem) : Option (Option Nat) := if isOb M 4 x0 = true then f_X4_theText_0 x0 M else none
theorem o_X4_theText {x0 : Nat} {M : Mem} {res : Option Nat} (h : f_X4_theText x0 M = some res) : isO M 4 x0 := by
  unfold f_X4_theText at h
  split at h
  · rename_i hc; exact isOb_iff hc
  · cases h
set_option maxHeartbeats 4000000 in
theorem s_X4_theText {X : XV} {d : Nat} (hd : 1 ≤ d) {x0 : Nat} {M : Mem} {res : Option Nat} (h : f_X4_theText x0 M = some res) : Mx X d mX4_theText [.ref x0] M (some (va_rf res)) M := by
  obtain ⟨d, rfl⟩ : ∃ e, d = e + 1 := ⟨d - 1, by omega⟩
  unfold f_X4_theText at h
  split at h
  rotate_left
  · cases h
  have rok : mx_rok mX4_theText (some (va_rf res)) := mx_rok_q (by exact ⟨_, rfl, Or.inl ⟨_, rfl⟩⟩)
  refine Mx.of (by decide) (Nat.le_of_ble_eq_true rfl) rok ?_
  exact ex_sub (lo' := [(0, .ref x0)]) [0] rfl (t_X4_theText_0 hd _ _ _  h)
noncomputable def f_X9_copyChanging_0 (x0 : Nat) (x1 : Nat) (M : Mem) : Option (Mem) :=
  (gI M 9 x1 1).bind fun v1 =>
  (pF M 9 x0 1 (.int v1)).bind fun q2 =>
  (gI q2 9 x1 2).bind fun v3 =>
  (pF q2 9 x0 2 (.int v3)).bind fun q4 =>
  (gI q4 9 x1 3).bind fun v5 =>
  (pF q4 9 x0 3 (.int v5)).bind fun q6 =>
  (gR q6 9 x1 6).bind fun v7 =>
  (gR q6 9 x0 6).bind fun v8 =>
  (cpI q6 v7 0 v8 0 5).bind fun q9 =>
  (gR q9 9 x1 7).bind fun v10 =>
  (gR q9 9 x0 7).bind fun v11 =>
  (cpI q9 v10 0 v11 0 5).bind fun q12 =>
  (gR q12 9 x1 8).bind fun v13 =>
  (gR q12 9 x0 8).bind fun v14 =>
  (cpI q12 v13 0 v14 0 5).bind fun q15 =>
  (gR q15 9 x1 9).bind fun v16 =>
  (gR q15 9 x0 9).bind fun v17 =>
  (cpI q15 v16 0 v17 0 5).bind fun q18 =>
  (gR q18 9 x1 10).bind fun v19 =>
  (gR q18 9 x0 10).bind fun v20 =>
  (gR q18 9 x0 10).bind fun v21 =>
  (lnA q18 v21).bind fun v22 =>
  (cpI q18 v19 0 v20 0 v22).bind fun q23 =>
  (gR q23 9 x1 11).bind fun v24 =>
  (gR q23 9 x0 11).bind fun v25 =>
  (gR q23 9 x0 11).bind fun v26 =>
  (lnA q23 v26).bind fun v27 =>
  (cpI q23 v24 0 v25 0 v27).bind fun q28 =>
  some q28
set_option maxHeartbeats 4000000 in
theorem t_X9_copyChanging_0 {X : XV} {d : Nat} (hd : 1 ≤ d + 1) : ∀ (x0 : Nat) (x1 : Nat) (M : Mem) (res : Mem), f_X9_copyChanging_0  x0 x1 M = some res → Ex X (d + 1) mX9_copyChanging 0 [(0, .ref x0), (1, .ref x1)] [] M none res := by
  intro x0 x1 M res  h
  unfold f_X9_copyChanging_0 at h
  refine ex_aload_n (pc := 0) 0 dX9_copyChanging_0 rfl rfl ?_
  refine ex_aload_n (pc := 1) 1 dX9_copyChanging_1 rfl rfl ?_
  obtain ⟨v1, ev1, h⟩ := ob_some h
  refine ex_gI (pc := 2) ev1 dX9_copyChanging_2 lfX9_84 ?_
  obtain ⟨q2, eq2, h⟩ := ob_some h
  refine ex_pF (pc := 5) eq2 dX9_copyChanging_5 lfX9_84 rfl rfl (fun _ hq => by cases hq; rfl) ?_
  refine ex_aload_n (pc := 8) 0 dX9_copyChanging_8 rfl rfl ?_
  refine ex_aload_n (pc := 9) 1 dX9_copyChanging_9 rfl rfl ?_
  obtain ⟨v3, ev3, h⟩ := ob_some h
  refine ex_gI (pc := 10) ev3 dX9_copyChanging_10 lfX9_9 ?_
  obtain ⟨q4, eq4, h⟩ := ob_some h
  refine ex_pF (pc := 13) eq4 dX9_copyChanging_13 lfX9_9 rfl rfl (fun _ hq => by cases hq; rfl) ?_
  refine ex_aload_n (pc := 16) 0 dX9_copyChanging_16 rfl rfl ?_
  refine ex_aload_n (pc := 17) 1 dX9_copyChanging_17 rfl rfl ?_
  obtain ⟨v5, ev5, h⟩ := ob_some h
  refine ex_gI (pc := 18) ev5 dX9_copyChanging_18 lfX9_75 ?_
  obtain ⟨q6, eq6, h⟩ := ob_some h
  refine ex_pF (pc := 21) eq6 dX9_copyChanging_21 lfX9_75 rfl rfl (fun _ hq => by cases hq; rfl) ?_
  refine ex_aload_n (pc := 24) 1 dX9_copyChanging_24 rfl rfl ?_
  obtain ⟨v7, ev7, h⟩ := ob_some h
  refine ex_gR (pc := 25) ev7 dX9_copyChanging_25 lfX9_22 ?_
  refine ex_iconst (pc := 28) 0 dX9_copyChanging_28 rfl ?_
  refine ex_aload_n (pc := 29) 0 dX9_copyChanging_29 rfl rfl ?_
  obtain ⟨v8, ev8, h⟩ := ob_some h
  refine ex_gR (pc := 30) ev8 dX9_copyChanging_30 lfX9_22 ?_
  refine ex_iconst (pc := 33) 0 dX9_copyChanging_33 rfl ?_
  refine ex_iconst (pc := 34) 5 dX9_copyChanging_34 rfl ?_
  obtain ⟨q9, eq9, h⟩ := ob_some h
  refine ex_cp (pc := 35) eq9 dX9_copyChanging_35 lmX9_78 (by omega) (Nat.le_of_ble_eq_true rfl) ?_
  refine ex_aload_n (pc := 38) 1 dX9_copyChanging_38 rfl rfl ?_
  obtain ⟨v10, ev10, h⟩ := ob_some h
  refine ex_gR (pc := 39) ev10 dX9_copyChanging_39 lfX9_25 ?_
  refine ex_iconst (pc := 42) 0 dX9_copyChanging_42 rfl ?_
  refine ex_aload_n (pc := 43) 0 dX9_copyChanging_43 rfl rfl ?_
  obtain ⟨v11, ev11, h⟩ := ob_some h
  refine ex_gR (pc := 44) ev11 dX9_copyChanging_44 lfX9_25 ?_
  refine ex_iconst (pc := 47) 0 dX9_copyChanging_47 rfl ?_
  refine ex_iconst (pc := 48) 5 dX9_copyChanging_48 rfl ?_
  obtain ⟨q12, eq12, h⟩ := ob_some h
  refine ex_cp (pc := 49) eq12 dX9_copyChanging_49 lmX9_78 (by omega) (Nat.le_of_ble_eq_true rfl) ?_
  refine ex_aload_n (pc := 52) 1 dX9_copyChanging_52 rfl rfl ?_
  obtain ⟨v13, ev13, h⟩ := ob_some h
  refine ex_gR (pc := 53) ev13 dX9_copyChanging_53 lfX9_28 ?_
  refine ex_iconst (pc := 56) 0 dX9_copyChanging_56 rfl ?_
  refine ex_aload_n (pc := 57) 0 dX9_copyChanging_57 rfl rfl ?_
  obtain ⟨v14, ev14, h⟩ := ob_some h
  refine ex_gR (pc := 58) ev14 dX9_copyChanging_58 lfX9_28 ?_
  refine ex_iconst (pc := 61) 0 dX9_copyChanging_61 rfl ?_
  refine ex_iconst (pc := 62) 5 dX9_copyChanging_62 rfl ?_
  obtain ⟨q15, eq15, h⟩ := ob_some h
  refine ex_cp (pc := 63) eq15 dX9_copyChanging_63 lmX9_78 (by omega) (Nat.le_of_ble_eq_true rfl) ?_
  refine ex_aload_n (pc := 66) 1 dX9_copyChanging_66 rfl rfl ?_
  obtain ⟨v16, ev16, h⟩ := ob_some h
  refine ex_gR (pc := 67) ev16 dX9_copyChanging_67 lfX9_31 ?_
  refine ex_iconst (pc := 70) 0 dX9_copyChanging_70 rfl ?_
  refine ex_aload_n (pc := 71) 0 dX9_copyChanging_71 rfl rfl ?_
  obtain ⟨v17, ev17, h⟩ := ob_some h
  refine ex_gR (pc := 72) ev17 dX9_copyChanging_72 lfX9_31 ?_
  refine ex_iconst (pc := 75) 0 dX9_copyChanging_75 rfl ?_
  refine ex_iconst (pc := 76) 5 dX9_copyChanging_76 rfl ?_
  obtain ⟨q18, eq18, h⟩ := ob_some h
  refine ex_cp (pc := 77) eq18 dX9_copyChanging_77 lmX9_78 (by omega) (Nat.le_of_ble_eq_true rfl) ?_
  refine ex_aload_n (pc := 80) 1 dX9_copyChanging_80 rfl rfl ?_
  obtain ⟨v19, ev19, h⟩ := ob_some h
  refine ex_gR (pc := 81) ev19 dX9_copyChanging_81 lfX9_34 ?_
  refine ex_iconst (pc := 84) 0 dX9_copyChanging_84 rfl ?_
  refine ex_aload_n (pc := 85) 0 dX9_copyChanging_85 rfl rfl ?_
  obtain ⟨v20, ev20, h⟩ := ob_some h
  refine ex_gR (pc := 86) ev20 dX9_copyChanging_86 lfX9_34 ?_
  refine ex_iconst (pc := 89) 0 dX9_copyChanging_89 rfl ?_
  refine ex_aload_n (pc := 90) 0 dX9_copyChanging_90 rfl rfl ?_
  obtain ⟨v21, ev21, h⟩ := ob_some h
  refine ex_gR (pc := 91) ev21 dX9_copyChanging_91 lfX9_34 ?_
  obtain ⟨v22, ev22, h⟩ := ob_some h
  refine ex_ln (pc := 94) ev22 dX9_copyChanging_94 ?_
  obtain ⟨q23, eq23, h⟩ := ob_some h
  refine ex_cp (pc := 95) eq23 dX9_copyChanging_95 lmX9_78 (by omega) (Nat.le_of_ble_eq_true rfl) ?_
  refine ex_aload_n (pc := 98) 1 dX9_copyChanging_98 rfl rfl ?_
  obtain ⟨v24, ev24, h⟩ := ob_some h
  refine ex_gR (pc := 99) ev24 dX9_copyChanging_99 lfX9_37 ?_
  refine ex_iconst (pc := 102) 0 dX9_copyChanging_102 rfl ?_
  refine ex_aload_n (pc := 103) 0 dX9_copyChanging_103 rfl rfl ?_
  obtain ⟨v25, ev25, h⟩ := ob_some h
  refine ex_gR (pc := 104) ev25 dX9_copyChanging_104 lfX9_37 ?_
  refine ex_iconst (pc := 107) 0 dX9_copyChanging_107 rfl ?_
  refine ex_aload_n (pc := 108) 0 dX9_copyChanging_108 rfl rfl ?_
  obtain ⟨v26, ev26, h⟩ := ob_some h
  refine ex_gR (pc := 109) ev26 dX9_copyChanging_109 lfX9_37 ?_
  obtain ⟨v27, ev27, h⟩ := ob_some h
  refine ex_ln (pc := 112) ev27 dX9_copyChanging_112 ?_
  obtain ⟨q28, eq28, h⟩ := ob_some h
  refine ex_cp (pc := 113) eq28 dX9_copyChanging_113 lmX9_78 (by omega) (Nat.le_of_ble_eq_true rfl) ?_
  cases h
  exact ex_return (pc := 116) dX9_copyChanging_116
noncomputable def f_X9_copyChanging (x0 : Nat) (x1 : Nat) (M : Mem) : Option (Mem) := if isOb M 9 x0 = true then f_X9_copyChanging_0 x0 x1 M else none
theorem o_X9_copyChanging {x0 : Nat} {x1 : Nat} {M : Mem} {res : Mem} (h : f_X9_copyChanging x0 x1 M = some res) : isO M 9 x0 := by
  unfold f_X9_copyChanging at h
  split at h
  · rename_i hc; exact isOb_iff hc
  · cases h
set_option maxHeartbeats 4000000 in
theorem s_X9_copyChanging {X : XV} {d : Nat} (hd : 1 ≤ d) {x0 : Nat} {x1 : Nat} {M : Mem} {res : Mem} (h : f_X9_copyChanging x0 x1 M = some res) : Mx X d mX9_copyChanging [.ref x0, .ref x1] M none res := by
  obtain ⟨d, rfl⟩ : ∃ e, d = e + 1 := ⟨d - 1, by omega⟩
  unfold f_X9_copyChanging at h
  split at h
  rotate_left
  · cases h
  refine Mx.of (by decide) (Nat.le_of_ble_eq_true rfl) (rfl) ?_
  exact ex_sub (lo' := [(0, .ref x0), (1, .ref x1)]) [0, 1] rfl (t_X9_copyChanging_0 hd _ _ _ _  h)
noncomputable def f_X9_copyFrom_0 (x0 : Nat) (x1 : Nat) (M : Mem) : Option (Mem) :=
  (gI M 9 x1 0).bind fun v1 =>
  (pF M 9 x0 0 (.int v1)).bind fun q2 =>
  (gR q2 9 x1 4).bind fun v3 =>
  (gR q2 9 x0 4).bind fun v4 =>
  (cpI q2 v3 0 v4 0 5).bind fun q5 =>
  (gR q5 9 x1 5).bind fun v6 =>
  (gR q5 9 x0 5).bind fun v7 =>
  (cpI q5 v6 0 v7 0 5).bind fun q8 =>
  (f_X9_copyChanging x0 x1 q8).bind fun q9 =>
  some q9
set_option maxHeartbeats 4000000 in
theorem t_X9_copyFrom_0 {X : XV} {d : Nat} (hd : 2 ≤ d + 1) : ∀ (x0 : Nat) (x1 : Nat) (M : Mem) (res : Mem), f_X9_copyFrom_0  x0 x1 M = some res → Ex X (d + 1) mX9_copyFrom 0 [(0, .ref x0), (1, .ref x1)] [] M none res := by
  intro x0 x1 M res  h
  unfold f_X9_copyFrom_0 at h
  refine ex_aload_n (pc := 0) 0 dX9_copyFrom_0 rfl rfl ?_
  refine ex_aload_n (pc := 1) 1 dX9_copyFrom_1 rfl rfl ?_
  obtain ⟨v1, ev1, h⟩ := ob_some h
  refine ex_gI (pc := 2) ev1 dX9_copyFrom_2 lfX9_40 ?_
  obtain ⟨q2, eq2, h⟩ := ob_some h
  refine ex_pF (pc := 5) eq2 dX9_copyFrom_5 lfX9_40 rfl rfl (fun _ hq => by cases hq; rfl) ?_
  refine ex_aload_n (pc := 8) 1 dX9_copyFrom_8 rfl rfl ?_
  obtain ⟨v3, ev3, h⟩ := ob_some h
  refine ex_gR (pc := 9) ev3 dX9_copyFrom_9 lfX9_15 ?_
  refine ex_iconst (pc := 12) 0 dX9_copyFrom_12 rfl ?_
  refine ex_aload_n (pc := 13) 0 dX9_copyFrom_13 rfl rfl ?_
  obtain ⟨v4, ev4, h⟩ := ob_some h
  refine ex_gR (pc := 14) ev4 dX9_copyFrom_14 lfX9_15 ?_
  refine ex_iconst (pc := 17) 0 dX9_copyFrom_17 rfl ?_
  refine ex_iconst (pc := 18) 5 dX9_copyFrom_18 rfl ?_
  obtain ⟨q5, eq5, h⟩ := ob_some h
  refine ex_cp (pc := 19) eq5 dX9_copyFrom_19 lmX9_78 (by omega) (Nat.le_of_ble_eq_true rfl) ?_
  refine ex_aload_n (pc := 22) 1 dX9_copyFrom_22 rfl rfl ?_
  obtain ⟨v6, ev6, h⟩ := ob_some h
  refine ex_gR (pc := 23) ev6 dX9_copyFrom_23 lfX9_19 ?_
  refine ex_iconst (pc := 26) 0 dX9_copyFrom_26 rfl ?_
  refine ex_aload_n (pc := 27) 0 dX9_copyFrom_27 rfl rfl ?_
  obtain ⟨v7, ev7, h⟩ := ob_some h
  refine ex_gR (pc := 28) ev7 dX9_copyFrom_28 lfX9_19 ?_
  refine ex_iconst (pc := 31) 0 dX9_copyFrom_31 rfl ?_
  refine ex_iconst (pc := 32) 5 dX9_copyFrom_32 rfl ?_
  obtain ⟨q8, eq8, h⟩ := ob_some h
  refine ex_cp (pc := 33) eq8 dX9_copyFrom_33 lmX9_78 (by omega) (Nat.le_of_ble_eq_true rfl) ?_
  refine ex_aload_n (pc := 36) 0 dX9_copyFrom_36 rfl rfl ?_
  refine ex_aload_n (pc := 37) 1 dX9_copyFrom_37 rfl rfl ?_
  obtain ⟨q9, eq9, h⟩ := ob_some h
  refine ex_callV1v (pc := 38) dX9_copyFrom_38 jX9_copyChanging lmX9_87 jiX9_copyChanging jvX9_copyChanging (o_X9_copyChanging eq9) rfl (Nat.le_of_ble_eq_true rfl) (s_X9_copyChanging (by omega)  eq9) ?_
  cases h
  exact ex_return (pc := 41) dX9_copyFrom_41
noncomputable def f_X9_copyFrom (x0 : Nat) (x1 : Nat) (M : Mem) : Option (Mem) := if isOb M 9 x0 = true then f_X9_copyFrom_0 x0 x1 M else none
theorem o_X9_copyFrom {x0 : Nat} {x1 : Nat} {M : Mem} {res : Mem} (h : f_X9_copyFrom x0 x1 M = some res) : isO M 9 x0 := by
  unfold f_X9_copyFrom at h
  split at h
  · rename_i hc; exact isOb_iff hc
  · cases h
set_option maxHeartbeats 4000000 in
theorem s_X9_copyFrom {X : XV} {d : Nat} (hd : 2 ≤ d) {x0 : Nat} {x1 : Nat} {M : Mem} {res : Mem} (h : f_X9_copyFrom x0 x1 M = some res) : Mx X d mX9_copyFrom [.ref x0, .ref x1] M none res := by
  obtain ⟨d, rfl⟩ : ∃ e, d = e + 1 := ⟨d - 1, by omega⟩
  unfold f_X9_copyFrom at h
  split at h
  rotate_left
  · cases h
  refine Mx.of (by decide) (Nat.le_of_ble_eq_true rfl) (rfl) ?_
  exact ex_sub (lo' := [(0, .ref x0), (1, .ref x1)]) [0, 1] rfl (t_X9_copyFrom_0 hd _ _ _ _  h)
noncomputable def f_X4_remember_0 (x0 : Nat) (M : Mem) : Option (Mem) :=
  (gR M 4 x0 1).bind fun v1 =>
  (gI M 4 x0 2).bind fun v2 =>
  (gI M 4 x0 3).bind fun v3 =>
  (rR 2 M v1 (jrem (v2 + v3) 30)).bind fun w4 =>
  (gR M 4 x0 0).bind fun v5 =>
  (f_X9_copyFrom w4 v5 M).bind fun q6 =>
  (gI q6 4 x0 3).bind fun v7 =>
  if 30 ≤ v7 then
  ((gI q6 4 x0 2).bind fun v9 =>
  (pF q6 4 x0 2 (.int (jrem (v9 + 1) 30))).bind fun q10 =>
  some q10)
  else
  ((gI q6 4 x0 3).bind fun v11 =>
  (pF q6 4 x0 3 (.int (v11 + 1))).bind fun q12 =>
  some q12)
set_option maxHeartbeats 4000000 in
theorem t_X4_remember_0 {X : XV} {d : Nat} (hd : 3 ≤ d + 1) : ∀ (x0 : Nat) (M : Mem) (res : Mem), f_X4_remember_0  x0 M = some res → Ex X (d + 1) mX4_remember 0 [(0, .ref x0)] [] M none res := by
  intro x0 M res  h
  unfold f_X4_remember_0 at h
  refine ex_aload_n (pc := 0) 0 dX4_remember_0 rfl rfl ?_
  obtain ⟨v1, ev1, h⟩ := ob_some h
  refine ex_gR (pc := 1) ev1 dX4_remember_1 lfX4_18 ?_
  refine ex_aload_n (pc := 4) 0 dX4_remember_4 rfl rfl ?_
  obtain ⟨v2, ev2, h⟩ := ob_some h
  refine ex_gI (pc := 5) ev2 dX4_remember_5 lfX4_69 ?_
  refine ex_aload_n (pc := 8) 0 dX4_remember_8 rfl rfl ?_
  obtain ⟨v3, ev3, h⟩ := ob_some h
  refine ex_gI (pc := 9) ev3 dX4_remember_9 lfX4_72 ?_
  refine ex_iadd (pc := 12) dX4_remember_12 ?_
  refine ex_bipush (pc := 13) 30 dX4_remember_13 (by decide) ?_
  refine ex_irem (pc := 15) dX4_remember_15 (by decide) ?_
  obtain ⟨w4, ew4, h⟩ := ob_some h
  refine ex_rR (pc := 16) ew4 (by decide) dX4_remember_16 ?_
  refine ex_aload_n (pc := 17) 0 dX4_remember_17 rfl rfl ?_
  obtain ⟨v5, ev5, h⟩ := ob_some h
  refine ex_gR (pc := 18) ev5 dX4_remember_18 lfX4_12 ?_
  obtain ⟨q6, eq6, h⟩ := ob_some h
  refine ex_callV1v (pc := 21) dX4_remember_21 jX9_copyFrom lmX4_75 jiX9_copyFrom jvX9_copyFrom (o_X9_copyFrom eq6) rfl (Nat.le_of_ble_eq_true rfl) (s_X9_copyFrom (by omega)  eq6) ?_
  refine ex_aload_n (pc := 24) 0 dX4_remember_24 rfl rfl ?_
  obtain ⟨v7, ev7, h⟩ := ob_some h
  refine ex_gI (pc := 25) ev7 dX4_remember_25 lfX4_72 ?_
  refine ex_bipush (pc := 28) 30 dX4_remember_28 (by decide) ?_
  by_cases c8 : 30 ≤ v7
  · rw [if_pos c8] at h
    refine ex_icmp_ge_t (pc := 30) 46 dX4_remember_30 rfl c8 ?_
    refine ex_aload_n (pc := 46) 0 dX4_remember_46 rfl rfl ?_
    refine ex_aload_n (pc := 47) 0 dX4_remember_47 rfl rfl ?_
    obtain ⟨v9, ev9, h⟩ := ob_some h
    refine ex_gI (pc := 48) ev9 dX4_remember_48 lfX4_69 ?_
    refine ex_iconst (pc := 51) 1 dX4_remember_51 rfl ?_
    refine ex_iadd (pc := 52) dX4_remember_52 ?_
    refine ex_bipush (pc := 53) 30 dX4_remember_53 (by decide) ?_
    refine ex_irem (pc := 55) dX4_remember_55 (by decide) ?_
    obtain ⟨q10, eq10, h⟩ := ob_some h
    refine ex_pF (pc := 56) eq10 dX4_remember_56 lfX4_69 rfl rfl (fun _ hq => by cases hq; rfl) ?_
    cases h
    exact ex_return (pc := 59) dX4_remember_59
  · rw [if_neg c8] at h
    refine ex_icmp_ge_f (pc := 30) dX4_remember_30 46 rfl c8 ?_
    refine ex_aload_n (pc := 33) 0 dX4_remember_33 rfl rfl ?_
    refine ex_dup (pc := 34) dX4_remember_34 rfl ?_
    obtain ⟨v11, ev11, h⟩ := ob_some h
    refine ex_gI (pc := 35) ev11 dX4_remember_35 lfX4_72 ?_
    refine ex_iconst (pc := 38) 1 dX4_remember_38 rfl ?_
    refine ex_iadd (pc := 39) dX4_remember_39 ?_
    obtain ⟨q12, eq12, h⟩ := ob_some h
    refine ex_pF (pc := 40) eq12 dX4_remember_40 lfX4_72 rfl rfl (fun _ hq => by cases hq; rfl) ?_
    refine ex_goto (pc := 43) 59 dX4_remember_43 rfl ?_
    cases h
    exact ex_return (pc := 59) dX4_remember_59
noncomputable def f_X4_remember (x0 : Nat) (M : Mem) : Option (Mem) := if isOb M 4 x0 = true then f_X4_remember_0 x0 M else none
theorem o_X4_remember {x0 : Nat} {M : Mem} {res : Mem} (h : f_X4_remember x0 M = some res) : isO M 4 x0 := by
  unfold f_X4_remember at h
  split at h
  · rename_i hc; exact isOb_iff hc
  · cases h
set_option maxHeartbeats 4000000 in
theorem s_X4_remember {X : XV} {d : Nat} (hd : 3 ≤ d) {x0 : Nat} {M : Mem} {res : Mem} (h : f_X4_remember x0 M = some res) : Mx X d mX4_remember [.ref x0] M none res := by
  obtain ⟨d, rfl⟩ : ∃ e, d = e + 1 := ⟨d - 1, by omega⟩
  unfold f_X4_remember at h
  split at h
  rotate_left
  · cases h
  refine Mx.of (by decide) (Nat.le_of_ble_eq_true rfl) (rfl) ?_
  exact ex_sub (lo' := [(0, .ref x0)]) [0] rfl (t_X4_remember_0 hd _ _ _  h)
noncomputable def f_X9_setAsTold_0 (x0 : Nat) (x1 : Int32) (M : Mem) : Option (Mem) :=
  (gR M 9 x0 6).bind fun v1 =>
  (gR M 9 x0 5).bind fun v2 =>
  (rI M v2 x1).bind fun v3 =>
  (wI M v1 x1 v3).bind fun q4 =>
  (gR q4 9 x0 7).bind fun v5 =>
  (wI q4 v5 x1 0).bind fun q6 =>
  (gR q6 9 x0 8).bind fun v7 =>
  (wI q6 v7 x1 0).bind fun q8 =>
  (gR q8 9 x0 9).bind fun v9 =>
  (wI q8 v9 x1 0).bind fun q10 =>
  some q10
set_option maxHeartbeats 4000000 in
theorem t_X9_setAsTold_0 {X : XV} {d : Nat} (hd : 1 ≤ d + 1) : ∀ (x0 : Nat) (x1 : Int32) (M : Mem) (res : Mem), f_X9_setAsTold_0  x0 x1 M = some res → Ex X (d + 1) mX9_setAsTold 0 [(0, .ref x0), (1, .int x1)] [] M none res := by
  intro x0 x1 M res  h
  unfold f_X9_setAsTold_0 at h
  refine ex_aload_n (pc := 0) 0 dX9_setAsTold_0 rfl rfl ?_
  obtain ⟨v1, ev1, h⟩ := ob_some h
  refine ex_gR (pc := 1) ev1 dX9_setAsTold_1 lfX9_22 ?_
  refine ex_iload_n (pc := 4) 1 dX9_setAsTold_4 rfl rfl ?_
  refine ex_aload_n (pc := 5) 0 dX9_setAsTold_5 rfl rfl ?_
  obtain ⟨v2, ev2, h⟩ := ob_some h
  refine ex_gR (pc := 6) ev2 dX9_setAsTold_6 lfX9_19 ?_
  refine ex_iload_n (pc := 9) 1 dX9_setAsTold_9 rfl rfl ?_
  obtain ⟨v3, ev3, h⟩ := ob_some h
  refine ex_rI (pc := 10) ev3 dX9_setAsTold_10 ?_
  obtain ⟨q4, eq4, h⟩ := ob_some h
  refine ex_wI (pc := 11) eq4 dX9_setAsTold_11 ?_
  refine ex_aload_n (pc := 12) 0 dX9_setAsTold_12 rfl rfl ?_
  obtain ⟨v5, ev5, h⟩ := ob_some h
  refine ex_gR (pc := 13) ev5 dX9_setAsTold_13 lfX9_25 ?_
  refine ex_iload_n (pc := 16) 1 dX9_setAsTold_16 rfl rfl ?_
  refine ex_iconst (pc := 17) 0 dX9_setAsTold_17 rfl ?_
  obtain ⟨q6, eq6, h⟩ := ob_some h
  refine ex_wI (pc := 18) eq6 dX9_setAsTold_18 ?_
  refine ex_aload_n (pc := 19) 0 dX9_setAsTold_19 rfl rfl ?_
  obtain ⟨v7, ev7, h⟩ := ob_some h
  refine ex_gR (pc := 20) ev7 dX9_setAsTold_20 lfX9_28 ?_
  refine ex_iload_n (pc := 23) 1 dX9_setAsTold_23 rfl rfl ?_
  refine ex_iconst (pc := 24) 0 dX9_setAsTold_24 rfl ?_
  obtain ⟨q8, eq8, h⟩ := ob_some h
  refine ex_wI (pc := 25) eq8 dX9_setAsTold_25 ?_
  refine ex_aload_n (pc := 26) 0 dX9_setAsTold_26 rfl rfl ?_
  obtain ⟨v9, ev9, h⟩ := ob_some h
  refine ex_gR (pc := 27) ev9 dX9_setAsTold_27 lfX9_31 ?_
  refine ex_iload_n (pc := 30) 1 dX9_setAsTold_30 rfl rfl ?_
  refine ex_iconst (pc := 31) 0 dX9_setAsTold_31 rfl ?_
  obtain ⟨q10, eq10, h⟩ := ob_some h
  refine ex_wI (pc := 32) eq10 dX9_setAsTold_32 ?_
  cases h
  exact ex_return (pc := 33) dX9_setAsTold_33
noncomputable def f_X9_setAsTold (x0 : Nat) (x1 : Int32) (M : Mem) : Option (Mem) := if isOb M 9 x0 = true then f_X9_setAsTold_0 x0 x1 M else none
theorem o_X9_setAsTold {x0 : Nat} {x1 : Int32} {M : Mem} {res : Mem} (h : f_X9_setAsTold x0 x1 M = some res) : isO M 9 x0 := by
  unfold f_X9_setAsTold at h
  split at h
  · rename_i hc; exact isOb_iff hc
  · cases h
set_option maxHeartbeats 4000000 in
theorem s_X9_setAsTold {X : XV} {d : Nat} (hd : 1 ≤ d) {x0 : Nat} {x1 : Int32} {M : Mem} {res : Mem} (h : f_X9_setAsTold x0 x1 M = some res) : Mx X d mX9_setAsTold [.ref x0, .int x1] M none res := by
  obtain ⟨d, rfl⟩ : ∃ e, d = e + 1 := ⟨d - 1, by omega⟩
  unfold f_X9_setAsTold at h
  split at h
  rotate_left
  · cases h
  refine Mx.of (by decide) (Nat.le_of_ble_eq_true rfl) (rfl) ?_
  exact ex_sub (lo' := [(0, .ref x0), (1, .int x1)]) [0, 1] rfl (t_X9_setAsTold_0 hd _ _ _ _  h)
noncomputable def f_X9_goBackTo_10 (n0 : Nat) (x0 : Nat) (x2 : Int32) (M : Mem) : Option (Mem) :=
  match n0 with
  | 0 => none
  | n + 1 =>
    (gI M 9 x0 0).bind fun v1 =>
    if v1 ≤ x2 then
    (some M)
    else
    ((f_X9_setAsTold x0 x2 M).bind fun q3 =>
    f_X9_goBackTo_10 n x0 (x2 + 1) q3)
set_option maxHeartbeats 4000000 in
theorem t_X9_goBackTo_10 {X : XV} {d : Nat} (hd : 2 ≤ d + 1) : ∀ (n : Nat) (x0 : Nat) (x2 : Int32) (M : Mem) (res : Mem), f_X9_goBackTo_10 n  x0 x2 M = some res → Ex X (d + 1) mX9_goBackTo 10 [(0, .ref x0), (2, .int x2)] [] M none res := by
  intro n
  induction n with
  | zero =>
    intro x0 x2 M res  h
    unfold f_X9_goBackTo_10 at h
    cases h
  | succ n ih =>
    intro x0 x2 M res  h
    unfold f_X9_goBackTo_10 at h
    refine ex_iload_n (pc := 10) 1 dX9_goBackTo_10 rfl rfl ?_
    refine ex_aload_n (pc := 11) 0 dX9_goBackTo_11 rfl rfl ?_
    obtain ⟨v1, ev1, h⟩ := ob_some h
    refine ex_gI (pc := 12) ev1 dX9_goBackTo_12 lfX9_40 ?_
    by_cases c2 : v1 ≤ x2
    · rw [if_pos c2] at h
      refine ex_icmp_ge_t (pc := 15) 29 dX9_goBackTo_15 rfl c2 ?_
      cases h
      exact ex_return (pc := 29) dX9_goBackTo_29
    · rw [if_neg c2] at h
      refine ex_icmp_ge_f (pc := 15) dX9_goBackTo_15 29 rfl c2 ?_
      refine ex_aload_n (pc := 18) 0 dX9_goBackTo_18 rfl rfl ?_
      refine ex_iload_n (pc := 19) 1 dX9_goBackTo_19 rfl rfl ?_
      obtain ⟨q3, eq3, h⟩ := ob_some h
      refine ex_callV1v (pc := 20) dX9_goBackTo_20 jX9_setAsTold lmX9_47 jiX9_setAsTold jvX9_setAsTold (o_X9_setAsTold eq3) rfl (Nat.le_of_ble_eq_true rfl) (s_X9_setAsTold (by omega)  eq3) ?_
      refine ex_iinc (pc := 23) (x2 + 1) 1 [(2, .int (x2 + 1)), (0, .ref x0)] dX9_goBackTo_23 rfl rfl (by decide) rfl ?_
      refine ex_goto (pc := 26) 10 dX9_goBackTo_26 rfl ?_
      refine ex_sub (lo' := [(0, .ref x0), (2, .int (x2 + 1))]) [1, 0] rfl ?_
      exact ih _ _ _ _  h
noncomputable def f_X9_goBackTo_0 (x0 : Nat) (x1 : Nat) (M : Mem) : Option (Mem) :=
  (f_X9_copyChanging x0 x1 M).bind fun q4 =>
  (gI q4 9 x1 0).bind fun v5 =>
  f_X9_goBackTo_10 fu x0 v5 q4
set_option maxHeartbeats 4000000 in
theorem t_X9_goBackTo_0 {X : XV} {d : Nat} (hd : 2 ≤ d + 1) : ∀ (x0 : Nat) (x1 : Nat) (M : Mem) (res : Mem), f_X9_goBackTo_0  x0 x1 M = some res → Ex X (d + 1) mX9_goBackTo 0 [(0, .ref x0), (1, .ref x1)] [] M none res := by
  intro x0 x1 M res  h
  unfold f_X9_goBackTo_0 at h
  refine ex_aload_n (pc := 0) 0 dX9_goBackTo_0 rfl rfl ?_
  refine ex_aload_n (pc := 1) 1 dX9_goBackTo_1 rfl rfl ?_
  obtain ⟨q4, eq4, h⟩ := ob_some h
  refine ex_callV1v (pc := 2) dX9_goBackTo_2 jX9_copyChanging lmX9_87 jiX9_copyChanging jvX9_copyChanging (o_X9_copyChanging eq4) rfl (Nat.le_of_ble_eq_true rfl) (s_X9_copyChanging (by omega)  eq4) ?_
  refine ex_aload_n (pc := 5) 1 dX9_goBackTo_5 rfl rfl ?_
  obtain ⟨v5, ev5, h⟩ := ob_some h
  refine ex_gI (pc := 6) ev5 dX9_goBackTo_6 lfX9_40 ?_
  refine ex_istore_n (pc := 9) [(2, .int v5), (0, .ref x0), (1, .ref x1)] dX9_goBackTo_9 rfl (by decide) rfl ?_
  refine ex_sub (lo' := [(0, .ref x0), (2, .int v5)]) [1, 0] rfl ?_
  exact t_X9_goBackTo_10 hd  _ _ _ _ _  h
noncomputable def f_X9_goBackTo (x0 : Nat) (x1 : Nat) (M : Mem) : Option (Mem) := if isOb M 9 x0 = true then f_X9_goBackTo_0 x0 x1 M else none
theorem o_X9_goBackTo {x0 : Nat} {x1 : Nat} {M : Mem} {res : Mem} (h : f_X9_goBackTo x0 x1 M = some res) : isO M 9 x0 := by
  unfold f_X9_goBackTo at h
  split at h
  · rename_i hc; exact isOb_iff hc
  · cases h
set_option maxHeartbeats 4000000 in
theorem s_X9_goBackTo {X : XV} {d : Nat} (hd : 2 ≤ d) {x0 : Nat} {x1 : Nat} {M : Mem} {res : Mem} (h : f_X9_goBackTo x0 x1 M = some res) : Mx X d mX9_goBackTo [.ref x0, .ref x1] M none res := by
  obtain ⟨d, rfl⟩ : ∃ e, d = e + 1 := ⟨d - 1, by omega⟩
  unfold f_X9_goBackTo at h
  split at h
  rotate_left
  · cases h
  refine Mx.of (by decide) (Nat.le_of_ble_eq_true rfl) (rfl) ?_
  exact ex_sub (lo' := [(0, .ref x0), (1, .ref x1)]) [0, 1] rfl (t_X9_goBackTo_0 hd _ _ _ _  h)
noncomputable def f_X4_takeBack_0 (x0 : Nat) (M : Mem) : Option (Bool × Mem) :=
  (gI M 4 x0 3).bind fun v1 =>
  if 0 < v1 then
  ((gI M 4 x0 3).bind fun v3 =>
  (pF M 4 x0 3 (.int (v3 - 1))).bind fun q4 =>
  (gR q4 4 x0 0).bind fun v5 =>
  (gR q4 4 x0 1).bind fun v6 =>
  (gI q4 4 x0 2).bind fun v7 =>
  (gI q4 4 x0 3).bind fun v8 =>
  (rR 2 q4 v6 (jrem (v7 + v8) 30)).bind fun w9 =>
  (f_X9_goBackTo v5 w9 q4).bind fun q10 =>
  some (true, q10))
  else
  (some (false, M))
set_option maxHeartbeats 4000000 in
theorem t_X4_takeBack_0 {X : XV} {d : Nat} (hd : 3 ≤ d + 1) : ∀ (x0 : Nat) (M : Mem) (res : Bool × Mem), f_X4_takeBack_0  x0 M = some res → Ex X (d + 1) mX4_takeBack 0 [(0, .ref x0)] [] M (some (.int (jz res.1))) res.2 := by
  intro x0 M res  h
  unfold f_X4_takeBack_0 at h
  refine ex_aload_n (pc := 0) 0 dX4_takeBack_0 rfl rfl ?_
  obtain ⟨v1, ev1, h⟩ := ob_some h
  refine ex_gI (pc := 1) ev1 dX4_takeBack_1 lfX4_72 ?_
  by_cases c2 : 0 < v1
  · rw [if_pos c2] at h
    refine ex_if_gt_t (pc := 4) 9 dX4_takeBack_4 rfl c2 ?_
    refine ex_aload_n (pc := 9) 0 dX4_takeBack_9 rfl rfl ?_
    refine ex_dup (pc := 10) dX4_takeBack_10 rfl ?_
    obtain ⟨v3, ev3, h⟩ := ob_some h
    refine ex_gI (pc := 11) ev3 dX4_takeBack_11 lfX4_72 ?_
    refine ex_iconst (pc := 14) 1 dX4_takeBack_14 rfl ?_
    refine ex_isub (pc := 15) dX4_takeBack_15 ?_
    obtain ⟨q4, eq4, h⟩ := ob_some h
    refine ex_pF (pc := 16) eq4 dX4_takeBack_16 lfX4_72 rfl rfl (fun _ hq => by cases hq; rfl) ?_
    refine ex_aload_n (pc := 19) 0 dX4_takeBack_19 rfl rfl ?_
    obtain ⟨v5, ev5, h⟩ := ob_some h
    refine ex_gR (pc := 20) ev5 dX4_takeBack_20 lfX4_12 ?_
    refine ex_aload_n (pc := 23) 0 dX4_takeBack_23 rfl rfl ?_
    obtain ⟨v6, ev6, h⟩ := ob_some h
    refine ex_gR (pc := 24) ev6 dX4_takeBack_24 lfX4_18 ?_
    refine ex_aload_n (pc := 27) 0 dX4_takeBack_27 rfl rfl ?_
    obtain ⟨v7, ev7, h⟩ := ob_some h
    refine ex_gI (pc := 28) ev7 dX4_takeBack_28 lfX4_69 ?_
    refine ex_aload_n (pc := 31) 0 dX4_takeBack_31 rfl rfl ?_
    obtain ⟨v8, ev8, h⟩ := ob_some h
    refine ex_gI (pc := 32) ev8 dX4_takeBack_32 lfX4_72 ?_
    refine ex_iadd (pc := 35) dX4_takeBack_35 ?_
    refine ex_bipush (pc := 36) 30 dX4_takeBack_36 (by decide) ?_
    refine ex_irem (pc := 38) dX4_takeBack_38 (by decide) ?_
    obtain ⟨w9, ew9, h⟩ := ob_some h
    refine ex_rR (pc := 39) ew9 (by decide) dX4_takeBack_39 ?_
    obtain ⟨q10, eq10, h⟩ := ob_some h
    refine ex_callV1v (pc := 40) dX4_takeBack_40 jX9_goBackTo lmX4_79 jiX9_goBackTo jvX9_goBackTo (o_X9_goBackTo eq10) rfl (Nat.le_of_ble_eq_true rfl) (s_X9_goBackTo (by omega)  eq10) ?_
    refine ex_iconst (pc := 43) 1 dX4_takeBack_43 rfl ?_
    cases h
    exact ex_ireturn (pc := 44) dX4_takeBack_44
  · rw [if_neg c2] at h
    refine ex_if_gt_f (pc := 4) dX4_takeBack_4 9 rfl c2 ?_
    refine ex_iconst (pc := 7) 0 dX4_takeBack_7 rfl ?_
    cases h
    exact ex_ireturn (pc := 8) dX4_takeBack_8
noncomputable def f_X4_takeBack (x0 : Nat) (M : Mem) : Option (Bool × Mem) := if isOb M 4 x0 = true then f_X4_takeBack_0 x0 M else none
theorem o_X4_takeBack {x0 : Nat} {M : Mem} {res : Bool × Mem} (h : f_X4_takeBack x0 M = some res) : isO M 4 x0 := by
  unfold f_X4_takeBack at h
  split at h
  · rename_i hc; exact isOb_iff hc
  · cases h
set_option maxHeartbeats 4000000 in
theorem s_X4_takeBack {X : XV} {d : Nat} (hd : 3 ≤ d) {x0 : Nat} {M : Mem} {res : Bool × Mem} (h : f_X4_takeBack x0 M = some res) : Mx X d mX4_takeBack [.ref x0] M (some (.int (jz res.1))) res.2 := by
  obtain ⟨d, rfl⟩ : ∃ e, d = e + 1 := ⟨d - 1, by omega⟩
  unfold f_X4_takeBack at h
  split at h
  rotate_left
  · cases h
  refine Mx.of (by decide) (Nat.le_of_ble_eq_true rfl) (⟨_, rfl, jz_nar _⟩) ?_
  exact ex_sub (lo' := [(0, .ref x0)]) [0] rfl (t_X4_takeBack_0 hd _ _ _  h)
noncomputable def f_X4_copyFrom_58 (n0 : Nat) (x0 : Nat) (x1 : Nat) (x2 : Int32) (M : Mem) : Option (Mem) :=
  match n0 with
  | 0 => none
  | n + 1 =>
    if 4 ≤ x2 then
    ((gI M 4 x1 5).bind fun v2 =>
    (pF M 4 x0 5 (.int v2)).bind fun q3 =>
    (gI q3 4 x1 6).bind fun v4 =>
    (pF q3 4 x0 6 (.int v4)).bind fun q5 =>
    (gR q5 4 x1 7).bind fun v6 =>
    (gR q5 4 x0 7).bind fun v7 =>
    (gR q5 4 x0 7).bind fun v8 =>
    (lnA q5 v8).bind fun v9 =>
    (cpI q5 v6 0 v7 0 v9).bind fun q10 =>
    (gR q10 4 x0 8).bind fun v11 =>
    (gR q10 4 x1 8).bind fun v12 =>
    (f_X3_copyFrom v11 v12 q10).bind fun q13 =>
    (gR q13 4 x0 9).bind fun v14 =>
    (gR q13 4 x1 9).bind fun v15 =>
    (f_X3_copyFrom v14 v15 q13).bind fun q16 =>
    (gR q16 4 x0 10).bind fun v17 =>
    (gR q16 4 x1 10).bind fun v18 =>
    (f_X3_copyFrom v17 v18 q16).bind fun q19 =>
    (gR q19 4 x0 11).bind fun v20 =>
    (gR q19 4 x1 11).bind fun v21 =>
    (f_X3_copyFrom v20 v21 q19).bind fun q22 =>
    (gR q22 4 x0 12).bind fun v23 =>
    (gR q22 4 x1 12).bind fun v24 =>
    (f_X3_copyFrom v23 v24 q22).bind fun q25 =>
    (gR q25 4 x1 13).bind fun v26 =>
    (gR q25 4 x0 13).bind fun v27 =>
    (gR q25 4 x0 13).bind fun v28 =>
    (lnA q25 v28).bind fun v29 =>
    (cpI q25 v26 0 v27 0 v29).bind fun q30 =>
    (gR q30 4 x1 14).bind fun v31 =>
    (gR q30 4 x0 14).bind fun v32 =>
    (gR q30 4 x0 14).bind fun v33 =>
    (lnA q30 v33).bind fun v34 =>
    (cpI q30 v31 0 v32 0 v34).bind fun q35 =>
    (gR q35 4 x1 15).bind fun v36 =>
    (gR q35 4 x0 15).bind fun v37 =>
    (gR q35 4 x0 15).bind fun v38 =>
    (lnA q35 v38).bind fun v39 =>
    (cpI q35 v36 0 v37 0 v39).bind fun q40 =>
    some q40)
    else
    ((gR M 4 x0 4).bind fun v41 =>
    (gR M 4 x1 4).bind fun v42 =>
    (rQ 3 M v42 x2).bind fun o43 =>
    (wQ 3 8 M v41 x2 o43).bind fun q44 =>
    f_X4_copyFrom_58 n x0 x1 (x2 + 1) q44)
set_option maxHeartbeats 4000000 in
theorem t_X4_copyFrom_58 {X : XV} {d : Nat} (hd : 3 ≤ d + 1) : ∀ (n : Nat) (x0 : Nat) (x1 : Nat) (x2 : Int32) (M : Mem) (res : Mem), f_X4_copyFrom_58 n  x0 x1 x2 M = some res → Ex X (d + 1) mX4_copyFrom 58 [(0, .ref x0), (1, .ref x1), (2, .int x2)] [] M none res := by
  intro n
  induction n with
  | zero =>
    intro x0 x1 x2 M res  h
    unfold f_X4_copyFrom_58 at h
    cases h
  | succ n ih =>
    intro x0 x1 x2 M res  h
    unfold f_X4_copyFrom_58 at h
    refine ex_iload_n (pc := 58) 2 dX4_copyFrom_58 rfl rfl ?_
    refine ex_iconst (pc := 59) 4 dX4_copyFrom_59 rfl ?_
    by_cases c1 : 4 ≤ x2
    · rw [if_pos c1] at h
      refine ex_icmp_ge_t (pc := 60) 81 dX4_copyFrom_60 rfl c1 ?_
      refine ex_aload_n (pc := 81) 0 dX4_copyFrom_81 rfl rfl ?_
      refine ex_aload_n (pc := 82) 1 dX4_copyFrom_82 rfl rfl ?_
      obtain ⟨v2, ev2, h⟩ := ob_some h
      refine ex_gI (pc := 83) ev2 dX4_copyFrom_83 lfX4_66 ?_
      obtain ⟨q3, eq3, h⟩ := ob_some h
      refine ex_pF (pc := 86) eq3 dX4_copyFrom_86 lfX4_66 rfl rfl (fun _ hq => by cases hq; rfl) ?_
      refine ex_aload_n (pc := 89) 0 dX4_copyFrom_89 rfl rfl ?_
      refine ex_aload_n (pc := 90) 1 dX4_copyFrom_90 rfl rfl ?_
      obtain ⟨v4, ev4, h⟩ := ob_some h
      refine ex_gI (pc := 91) ev4 dX4_copyFrom_91 lfX4_28 ?_
      obtain ⟨q5, eq5, h⟩ := ob_some h
      refine ex_pF (pc := 94) eq5 dX4_copyFrom_94 lfX4_28 rfl rfl (fun _ hq => by cases hq; rfl) ?_
      refine ex_aload_n (pc := 97) 1 dX4_copyFrom_97 rfl rfl ?_
      obtain ⟨v6, ev6, h⟩ := ob_some h
      refine ex_gR (pc := 98) ev6 dX4_copyFrom_98 lfX4_32 ?_
      refine ex_iconst (pc := 101) 0 dX4_copyFrom_101 rfl ?_
      refine ex_aload_n (pc := 102) 0 dX4_copyFrom_102 rfl rfl ?_
      obtain ⟨v7, ev7, h⟩ := ob_some h
      refine ex_gR (pc := 103) ev7 dX4_copyFrom_103 lfX4_32 ?_
      refine ex_iconst (pc := 106) 0 dX4_copyFrom_106 rfl ?_
      refine ex_aload_n (pc := 107) 0 dX4_copyFrom_107 rfl rfl ?_
      obtain ⟨v8, ev8, h⟩ := ob_some h
      refine ex_gR (pc := 108) ev8 dX4_copyFrom_108 lfX4_32 ?_
      obtain ⟨v9, ev9, h⟩ := ob_some h
      refine ex_ln (pc := 111) ev9 dX4_copyFrom_111 ?_
      obtain ⟨q10, eq10, h⟩ := ob_some h
      refine ex_cp (pc := 112) eq10 dX4_copyFrom_112 lmX4_82 (by omega) (Nat.le_of_ble_eq_true rfl) ?_
      refine ex_aload_n (pc := 115) 0 dX4_copyFrom_115 rfl rfl ?_
      obtain ⟨v11, ev11, h⟩ := ob_some h
      refine ex_gR (pc := 116) ev11 dX4_copyFrom_116 lfX4_41 ?_
      refine ex_aload_n (pc := 119) 1 dX4_copyFrom_119 rfl rfl ?_
      obtain ⟨v12, ev12, h⟩ := ob_some h
      refine ex_gR (pc := 120) ev12 dX4_copyFrom_120 lfX4_41 ?_
      obtain ⟨q13, eq13, h⟩ := ob_some h
      refine ex_callV1v (pc := 123) dX4_copyFrom_123 jX3_copyFrom lmX4_88 jiX3_copyFrom jvX3_copyFrom (o_X3_copyFrom eq13) rfl (Nat.le_of_ble_eq_true rfl) (s_X3_copyFrom (by omega)  eq13) ?_
      refine ex_aload_n (pc := 126) 0 dX4_copyFrom_126 rfl rfl ?_
      obtain ⟨v14, ev14, h⟩ := ob_some h
      refine ex_gR (pc := 127) ev14 dX4_copyFrom_127 lfX4_45 ?_
      refine ex_aload_n (pc := 130) 1 dX4_copyFrom_130 rfl rfl ?_
      obtain ⟨v15, ev15, h⟩ := ob_some h
      refine ex_gR (pc := 131) ev15 dX4_copyFrom_131 lfX4_45 ?_
      obtain ⟨q16, eq16, h⟩ := ob_some h
      refine ex_callV1v (pc := 134) dX4_copyFrom_134 jX3_copyFrom lmX4_88 jiX3_copyFrom jvX3_copyFrom (o_X3_copyFrom eq16) rfl (Nat.le_of_ble_eq_true rfl) (s_X3_copyFrom (by omega)  eq16) ?_
      refine ex_aload_n (pc := 137) 0 dX4_copyFrom_137 rfl rfl ?_
      obtain ⟨v17, ev17, h⟩ := ob_some h
      refine ex_gR (pc := 138) ev17 dX4_copyFrom_138 lfX4_48 ?_
      refine ex_aload_n (pc := 141) 1 dX4_copyFrom_141 rfl rfl ?_
      obtain ⟨v18, ev18, h⟩ := ob_some h
      refine ex_gR (pc := 142) ev18 dX4_copyFrom_142 lfX4_48 ?_
      obtain ⟨q19, eq19, h⟩ := ob_some h
      refine ex_callV1v (pc := 145) dX4_copyFrom_145 jX3_copyFrom lmX4_88 jiX3_copyFrom jvX3_copyFrom (o_X3_copyFrom eq19) rfl (Nat.le_of_ble_eq_true rfl) (s_X3_copyFrom (by omega)  eq19) ?_
      refine ex_aload_n (pc := 148) 0 dX4_copyFrom_148 rfl rfl ?_
      obtain ⟨v20, ev20, h⟩ := ob_some h
      refine ex_gR (pc := 149) ev20 dX4_copyFrom_149 lfX4_51 ?_
      refine ex_aload_n (pc := 152) 1 dX4_copyFrom_152 rfl rfl ?_
      obtain ⟨v21, ev21, h⟩ := ob_some h
      refine ex_gR (pc := 153) ev21 dX4_copyFrom_153 lfX4_51 ?_
      obtain ⟨q22, eq22, h⟩ := ob_some h
      refine ex_callV1v (pc := 156) dX4_copyFrom_156 jX3_copyFrom lmX4_88 jiX3_copyFrom jvX3_copyFrom (o_X3_copyFrom eq22) rfl (Nat.le_of_ble_eq_true rfl) (s_X3_copyFrom (by omega)  eq22) ?_
      refine ex_aload_n (pc := 159) 0 dX4_copyFrom_159 rfl rfl ?_
      obtain ⟨v23, ev23, h⟩ := ob_some h
      refine ex_gR (pc := 160) ev23 dX4_copyFrom_160 lfX4_54 ?_
      refine ex_aload_n (pc := 163) 1 dX4_copyFrom_163 rfl rfl ?_
      obtain ⟨v24, ev24, h⟩ := ob_some h
      refine ex_gR (pc := 164) ev24 dX4_copyFrom_164 lfX4_54 ?_
      obtain ⟨q25, eq25, h⟩ := ob_some h
      refine ex_callV1v (pc := 167) dX4_copyFrom_167 jX3_copyFrom lmX4_88 jiX3_copyFrom jvX3_copyFrom (o_X3_copyFrom eq25) rfl (Nat.le_of_ble_eq_true rfl) (s_X3_copyFrom (by omega)  eq25) ?_
      refine ex_aload_n (pc := 170) 1 dX4_copyFrom_170 rfl rfl ?_
      obtain ⟨v26, ev26, h⟩ := ob_some h
      refine ex_gR (pc := 171) ev26 dX4_copyFrom_171 lfX4_57 ?_
      refine ex_iconst (pc := 174) 0 dX4_copyFrom_174 rfl ?_
      refine ex_aload_n (pc := 175) 0 dX4_copyFrom_175 rfl rfl ?_
      obtain ⟨v27, ev27, h⟩ := ob_some h
      refine ex_gR (pc := 176) ev27 dX4_copyFrom_176 lfX4_57 ?_
      refine ex_iconst (pc := 179) 0 dX4_copyFrom_179 rfl ?_
      refine ex_aload_n (pc := 180) 0 dX4_copyFrom_180 rfl rfl ?_
      obtain ⟨v28, ev28, h⟩ := ob_some h
      refine ex_gR (pc := 181) ev28 dX4_copyFrom_181 lfX4_57 ?_
      obtain ⟨v29, ev29, h⟩ := ob_some h
      refine ex_ln (pc := 184) ev29 dX4_copyFrom_184 ?_
      obtain ⟨q30, eq30, h⟩ := ob_some h
      refine ex_cp (pc := 185) eq30 dX4_copyFrom_185 lmX4_82 (by omega) (Nat.le_of_ble_eq_true rfl) ?_
      refine ex_aload_n (pc := 188) 1 dX4_copyFrom_188 rfl rfl ?_
      obtain ⟨v31, ev31, h⟩ := ob_some h
      refine ex_gR (pc := 189) ev31 dX4_copyFrom_189 lfX4_60 ?_
      refine ex_iconst (pc := 192) 0 dX4_copyFrom_192 rfl ?_
      refine ex_aload_n (pc := 193) 0 dX4_copyFrom_193 rfl rfl ?_
      obtain ⟨v32, ev32, h⟩ := ob_some h
      refine ex_gR (pc := 194) ev32 dX4_copyFrom_194 lfX4_60 ?_
      refine ex_iconst (pc := 197) 0 dX4_copyFrom_197 rfl ?_
      refine ex_aload_n (pc := 198) 0 dX4_copyFrom_198 rfl rfl ?_
      obtain ⟨v33, ev33, h⟩ := ob_some h
      refine ex_gR (pc := 199) ev33 dX4_copyFrom_199 lfX4_60 ?_
      obtain ⟨v34, ev34, h⟩ := ob_some h
      refine ex_ln (pc := 202) ev34 dX4_copyFrom_202 ?_
      obtain ⟨q35, eq35, h⟩ := ob_some h
      refine ex_cp (pc := 203) eq35 dX4_copyFrom_203 lmX4_82 (by omega) (Nat.le_of_ble_eq_true rfl) ?_
      refine ex_aload_n (pc := 206) 1 dX4_copyFrom_206 rfl rfl ?_
      obtain ⟨v36, ev36, h⟩ := ob_some h
      refine ex_gR (pc := 207) ev36 dX4_copyFrom_207 lfX4_63 ?_
      refine ex_iconst (pc := 210) 0 dX4_copyFrom_210 rfl ?_
      refine ex_aload_n (pc := 211) 0 dX4_copyFrom_211 rfl rfl ?_
      obtain ⟨v37, ev37, h⟩ := ob_some h
      refine ex_gR (pc := 212) ev37 dX4_copyFrom_212 lfX4_63 ?_
      refine ex_iconst (pc := 215) 0 dX4_copyFrom_215 rfl ?_
      refine ex_aload_n (pc := 216) 0 dX4_copyFrom_216 rfl rfl ?_
      obtain ⟨v38, ev38, h⟩ := ob_some h
      refine ex_gR (pc := 217) ev38 dX4_copyFrom_217 lfX4_63 ?_
      obtain ⟨v39, ev39, h⟩ := ob_some h
      refine ex_ln (pc := 220) ev39 dX4_copyFrom_220 ?_
      obtain ⟨q40, eq40, h⟩ := ob_some h
      refine ex_cp (pc := 221) eq40 dX4_copyFrom_221 lmX4_82 (by omega) (Nat.le_of_ble_eq_true rfl) ?_
      cases h
      exact ex_return (pc := 224) dX4_copyFrom_224
    · rw [if_neg c1] at h
      refine ex_icmp_ge_f (pc := 60) dX4_copyFrom_60 81 rfl c1 ?_
      refine ex_aload_n (pc := 63) 0 dX4_copyFrom_63 rfl rfl ?_
      obtain ⟨v41, ev41, h⟩ := ob_some h
      refine ex_gR (pc := 64) ev41 dX4_copyFrom_64 lfX4_24 ?_
      refine ex_iload_n (pc := 67) 2 dX4_copyFrom_67 rfl rfl ?_
      refine ex_aload_n (pc := 68) 1 dX4_copyFrom_68 rfl rfl ?_
      obtain ⟨v42, ev42, h⟩ := ob_some h
      refine ex_gR (pc := 69) ev42 dX4_copyFrom_69 lfX4_24 ?_
      refine ex_iload_n (pc := 72) 2 dX4_copyFrom_72 rfl rfl ?_
      obtain ⟨o43, eo43, h⟩ := ob_some h
      refine ex_rQ (pc := 73) eo43 (by decide) dX4_copyFrom_73 ?_
      obtain ⟨q44, eq44, h⟩ := ob_some h
      refine ex_wQ3 (pc := 74) eq44 dX4_copyFrom_74 ?_
      refine ex_iinc (pc := 75) (x2 + 1) 2 [(2, .int (x2 + 1)), (0, .ref x0), (1, .ref x1)] dX4_copyFrom_75 rfl rfl (by decide) rfl ?_
      refine ex_goto (pc := 78) 58 dX4_copyFrom_78 rfl ?_
      refine ex_sub (lo' := [(0, .ref x0), (1, .ref x1), (2, .int (x2 + 1))]) [1, 2, 0] rfl ?_
      exact ih _ _ _ _ _  h
noncomputable def f_X4_copyFrom_13 (n0 : Nat) (x0 : Nat) (x1 : Nat) (x2 : Int32) (M : Mem) : Option (Mem) :=
  match n0 with
  | 0 => none
  | n + 1 =>
    if 30 ≤ x2 then
    ((gI M 4 x1 2).bind fun v46 =>
    (pF M 4 x0 2 (.int v46)).bind fun q47 =>
    (gI q47 4 x1 3).bind fun v48 =>
    (pF q47 4 x0 3 (.int v48)).bind fun q49 =>
    f_X4_copyFrom_58 fu x0 x1 0 q49)
    else
    ((gR M 4 x0 1).bind fun v50 =>
    (rR 2 M v50 x2).bind fun w51 =>
    (gR M 4 x1 1).bind fun v52 =>
    (rR 2 M v52 x2).bind fun w53 =>
    (f_X9_copyFrom w51 w53 M).bind fun q54 =>
    f_X4_copyFrom_13 n x0 x1 (x2 + 1) q54)
set_option maxHeartbeats 4000000 in
theorem t_X4_copyFrom_13 {X : XV} {d : Nat} (hd : 3 ≤ d + 1) : ∀ (n : Nat) (x0 : Nat) (x1 : Nat) (x2 : Int32) (M : Mem) (res : Mem), f_X4_copyFrom_13 n  x0 x1 x2 M = some res → Ex X (d + 1) mX4_copyFrom 13 [(0, .ref x0), (1, .ref x1), (2, .int x2)] [] M none res := by
  intro n
  induction n with
  | zero =>
    intro x0 x1 x2 M res  h
    unfold f_X4_copyFrom_13 at h
    cases h
  | succ n ih =>
    intro x0 x1 x2 M res  h
    unfold f_X4_copyFrom_13 at h
    refine ex_iload_n (pc := 13) 2 dX4_copyFrom_13 rfl rfl ?_
    refine ex_bipush (pc := 14) 30 dX4_copyFrom_14 (by decide) ?_
    by_cases c45 : 30 ≤ x2
    · rw [if_pos c45] at h
      refine ex_icmp_ge_t (pc := 16) 40 dX4_copyFrom_16 rfl c45 ?_
      refine ex_aload_n (pc := 40) 0 dX4_copyFrom_40 rfl rfl ?_
      refine ex_aload_n (pc := 41) 1 dX4_copyFrom_41 rfl rfl ?_
      obtain ⟨v46, ev46, h⟩ := ob_some h
      refine ex_gI (pc := 42) ev46 dX4_copyFrom_42 lfX4_69 ?_
      obtain ⟨q47, eq47, h⟩ := ob_some h
      refine ex_pF (pc := 45) eq47 dX4_copyFrom_45 lfX4_69 rfl rfl (fun _ hq => by cases hq; rfl) ?_
      refine ex_aload_n (pc := 48) 0 dX4_copyFrom_48 rfl rfl ?_
      refine ex_aload_n (pc := 49) 1 dX4_copyFrom_49 rfl rfl ?_
      obtain ⟨v48, ev48, h⟩ := ob_some h
      refine ex_gI (pc := 50) ev48 dX4_copyFrom_50 lfX4_72 ?_
      obtain ⟨q49, eq49, h⟩ := ob_some h
      refine ex_pF (pc := 53) eq49 dX4_copyFrom_53 lfX4_72 rfl rfl (fun _ hq => by cases hq; rfl) ?_
      refine ex_iconst (pc := 56) 0 dX4_copyFrom_56 rfl ?_
      refine ex_istore_n (pc := 57) [(2, .int 0), (0, .ref x0), (1, .ref x1)] dX4_copyFrom_57 rfl (by decide) rfl ?_
      refine ex_sub (lo' := [(0, .ref x0), (1, .ref x1), (2, .int 0)]) [1, 2, 0] rfl ?_
      exact t_X4_copyFrom_58 hd  _ _ _ _ _ _  h
    · rw [if_neg c45] at h
      refine ex_icmp_ge_f (pc := 16) dX4_copyFrom_16 40 rfl c45 ?_
      refine ex_aload_n (pc := 19) 0 dX4_copyFrom_19 rfl rfl ?_
      obtain ⟨v50, ev50, h⟩ := ob_some h
      refine ex_gR (pc := 20) ev50 dX4_copyFrom_20 lfX4_18 ?_
      refine ex_iload_n (pc := 23) 2 dX4_copyFrom_23 rfl rfl ?_
      obtain ⟨w51, ew51, h⟩ := ob_some h
      refine ex_rR (pc := 24) ew51 (by decide) dX4_copyFrom_24 ?_
      refine ex_aload_n (pc := 25) 1 dX4_copyFrom_25 rfl rfl ?_
      obtain ⟨v52, ev52, h⟩ := ob_some h
      refine ex_gR (pc := 26) ev52 dX4_copyFrom_26 lfX4_18 ?_
      refine ex_iload_n (pc := 29) 2 dX4_copyFrom_29 rfl rfl ?_
      obtain ⟨w53, ew53, h⟩ := ob_some h
      refine ex_rR (pc := 30) ew53 (by decide) dX4_copyFrom_30 ?_
      obtain ⟨q54, eq54, h⟩ := ob_some h
      refine ex_callV1v (pc := 31) dX4_copyFrom_31 jX9_copyFrom lmX4_75 jiX9_copyFrom jvX9_copyFrom (o_X9_copyFrom eq54) rfl (Nat.le_of_ble_eq_true rfl) (s_X9_copyFrom (by omega)  eq54) ?_
      refine ex_iinc (pc := 34) (x2 + 1) 2 [(2, .int (x2 + 1)), (0, .ref x0), (1, .ref x1)] dX4_copyFrom_34 rfl rfl (by decide) rfl ?_
      refine ex_goto (pc := 37) 13 dX4_copyFrom_37 rfl ?_
      refine ex_sub (lo' := [(0, .ref x0), (1, .ref x1), (2, .int (x2 + 1))]) [1, 2, 0] rfl ?_
      exact ih _ _ _ _ _  h
noncomputable def f_X4_copyFrom_0 (x0 : Nat) (x1 : Nat) (M : Mem) : Option (Mem) :=
  (gR M 4 x0 0).bind fun v55 =>
  (gR M 4 x1 0).bind fun v56 =>
  (f_X9_copyFrom v55 v56 M).bind fun q57 =>
  f_X4_copyFrom_13 fu x0 x1 0 q57
set_option maxHeartbeats 4000000 in
theorem t_X4_copyFrom_0 {X : XV} {d : Nat} (hd : 3 ≤ d + 1) : ∀ (x0 : Nat) (x1 : Nat) (M : Mem) (res : Mem), f_X4_copyFrom_0  x0 x1 M = some res → Ex X (d + 1) mX4_copyFrom 0 [(0, .ref x0), (1, .ref x1)] [] M none res := by
  intro x0 x1 M res  h
  unfold f_X4_copyFrom_0 at h
  refine ex_aload_n (pc := 0) 0 dX4_copyFrom_0 rfl rfl ?_
  obtain ⟨v55, ev55, h⟩ := ob_some h
  refine ex_gR (pc := 1) ev55 dX4_copyFrom_1 lfX4_12 ?_
  refine ex_aload_n (pc := 4) 1 dX4_copyFrom_4 rfl rfl ?_
  obtain ⟨v56, ev56, h⟩ := ob_some h
  refine ex_gR (pc := 5) ev56 dX4_copyFrom_5 lfX4_12 ?_
  obtain ⟨q57, eq57, h⟩ := ob_some h
  refine ex_callV1v (pc := 8) dX4_copyFrom_8 jX9_copyFrom lmX4_75 jiX9_copyFrom jvX9_copyFrom (o_X9_copyFrom eq57) rfl (Nat.le_of_ble_eq_true rfl) (s_X9_copyFrom (by omega)  eq57) ?_
  refine ex_iconst (pc := 11) 0 dX4_copyFrom_11 rfl ?_
  refine ex_istore_n (pc := 12) [(2, .int 0), (0, .ref x0), (1, .ref x1)] dX4_copyFrom_12 rfl (by decide) rfl ?_
  refine ex_sub (lo' := [(0, .ref x0), (1, .ref x1), (2, .int 0)]) [1, 2, 0] rfl ?_
  exact t_X4_copyFrom_13 hd  _ _ _ _ _ _  h
noncomputable def f_X4_copyFrom (x0 : Nat) (x1 : Nat) (M : Mem) : Option (Mem) := if isOb M 4 x0 = true then f_X4_copyFrom_0 x0 x1 M else none
theorem o_X4_copyFrom {x0 : Nat} {x1 : Nat} {M : Mem} {res : Mem} (h : f_X4_copyFrom x0 x1 M = some res) : isO M 4 x0 := by
  unfold f_X4_copyFrom at h
  split at h
  · rename_i hc; exact isOb_iff hc
  · cases h
set_option maxHeartbeats 4000000 in
theorem s_X4_copyFrom {X : XV} {d : Nat} (hd : 3 ≤ d) {x0 : Nat} {x1 : Nat} {M : Mem} {res : Mem} (h : f_X4_copyFrom x0 x1 M = some res) : Mx X d mX4_copyFrom [.ref x0, .ref x1] M none res := by
  obtain ⟨d, rfl⟩ : ∃ e, d = e + 1 := ⟨d - 1, by omega⟩
  unfold f_X4_copyFrom at h
  split at h
  rotate_left
  · cases h
  refine Mx.of (by decide) (Nat.le_of_ble_eq_true rfl) (rfl) ?_
  exact ex_sub (lo' := [(0, .ref x0), (1, .ref x1)]) [0, 1] rfl (t_X4_copyFrom_0 hd _ _ _ _  h)
noncomputable def f_X5_init_0 (x0 : Nat) (M : Mem) : Option (Mem) :=
  (nwI M 9).bind fun q1 =>
  (pF q1 5 x0 0 (.ref M.1)).bind fun q2 =>
  (nwI q2 8).bind fun q3 =>
  (pF q3 5 x0 1 (.ref q2.1)).bind fun q4 =>
  (nwI q4 8).bind fun q5 =>
  (pF q5 5 x0 2 (.ref q4.1)).bind fun q6 =>
  some q6
set_option maxHeartbeats 4000000 in
theorem t_X5_init_0 {X : XV} {d : Nat} (hd : 1 ≤ d + 1) : ∀ (x0 : Nat) (M : Mem) (res : Mem), f_X5_init_0  x0 M = some res → Ex X (d + 1) mX5_init 0 [(0, .ref x0)] [] M none res := by
  intro x0 M res  h
  unfold f_X5_init_0 at h
  refine ex_aload_n (pc := 0) 0 dX5_init_0 rfl rfl ?_
  refine ex_obj (pc := 1) dX5_init_1 lmX5_3 (by omega) (Nat.le_of_ble_eq_true rfl) ?_
  refine ex_aload_n (pc := 4) 0 dX5_init_4 rfl rfl ?_
  refine ex_bipush (pc := 5) 9 dX5_init_5 (by decide) ?_
  obtain ⟨q1, eq1, h⟩ := ob_some h
  refine ex_nwI (pc := 7) eq1 dX5_init_7 ?_
  obtain ⟨q2, eq2, h⟩ := ob_some h
  refine ex_pFF (pc := 9) eq2 dX5_init_9 lfX5_9 rfl rfl (fun _ hq => by cases hq; exact ⟨rfl, rfl⟩) rfl ?_
  refine ex_aload_n (pc := 12) 0 dX5_init_12 rfl rfl ?_
  refine ex_bipush (pc := 13) 8 dX5_init_13 (by decide) ?_
  obtain ⟨q3, eq3, h⟩ := ob_some h
  refine ex_nwI (pc := 15) eq3 dX5_init_15 ?_
  obtain ⟨q4, eq4, h⟩ := ob_some h
  refine ex_pFF (pc := 17) eq4 dX5_init_17 lfX5_15 rfl rfl (fun _ hq => by cases hq; exact ⟨rfl, rfl⟩) rfl ?_
  refine ex_aload_n (pc := 20) 0 dX5_init_20 rfl rfl ?_
  refine ex_bipush (pc := 21) 8 dX5_init_21 (by decide) ?_
  obtain ⟨q5, eq5, h⟩ := ob_some h
  refine ex_nwI (pc := 23) eq5 dX5_init_23 ?_
  obtain ⟨q6, eq6, h⟩ := ob_some h
  refine ex_pFF (pc := 25) eq6 dX5_init_25 lfX5_18 rfl rfl (fun _ hq => by cases hq; exact ⟨rfl, rfl⟩) rfl ?_
  cases h
  exact ex_return (pc := 28) dX5_init_28
noncomputable def f_X5_init (x0 : Nat) (M : Mem) : Option (Mem) := f_X5_init_0 x0 M
set_option maxHeartbeats 4000000 in
theorem s_X5_init {X : XV} {d : Nat} (hd : 1 ≤ d) {x0 : Nat} {M : Mem} {res : Mem} (h : f_X5_init x0 M = some res) : Mx X d mX5_init [.ref x0] M none res := by
  obtain ⟨d, rfl⟩ : ∃ e, d = e + 1 := ⟨d - 1, by omega⟩
  unfold f_X5_init at h
  refine Mx.of (by decide) (Nat.le_of_ble_eq_true rfl) (rfl) ?_
  exact ex_sub (lo' := [(0, .ref x0)]) [0] rfl (t_X5_init_0 hd _ _ _  h)
noncomputable def f_X5_plan_140 (k12 : Nat → Nat → Int32 → Int32 → Int32 → Mem → Option (Mem)) (k27 : Nat → Nat → Int32 → Int32 → Int32 → Int32 → Int32 → Int32 → Mem → Option (Mem)) (x0 : Nat) (x1 : Nat) (x2 : Int32) (x3 : Int32) (x4 : Int32) (x5 : Int32) (x6 : Int32) (x7 : Int32) (x8 : Int32) (M : Mem) : Option (Mem) :=
  (gR M 5 x0 0).bind fun v1 =>
  (wI M v1 x4 x8).bind fun q2 =>
  (gR q2 5 x0 1).bind fun v3 =>
  (wI q2 v3 x4 x5).bind fun q4 =>
  (gR q4 5 x0 2).bind fun v5 =>
  (wI q4 v5 x4 (x7 + 1)).bind fun q6 =>
  k27 x0 x1 x2 x3 x4 x5 x6 (x7 + 1) q6
set_option maxHeartbeats 4000000 in
theorem t_X5_plan_140 {X : XV} {d : Nat} (hd : 1 ≤ d + 1) {k12 : Nat → Nat → Int32 → Int32 → Int32 → Mem → Option (Mem)} (hk12 : ∀ (x0 : Nat) (x1 : Nat) (x2 : Int32) (x3 : Int32) (x4 : Int32) (M : Mem) (res : Mem), k12 x0 x1 x2 x3 x4 M = some res → Ex X (d + 1) mX5_plan 12 [(0, .ref x0), (1, .ref x1), (2, .int x2), (3, .int x3), (4, .int x4)] [] M none res) {k27 : Nat → Nat → Int32 → Int32 → Int32 → Int32 → Int32 → Int32 → Mem → Option (Mem)} (hk27 : ∀ (x0 : Nat) (x1 : Nat) (x2 : Int32) (x3 : Int32) (x4 : Int32) (x5 : Int32) (x6 : Int32) (x7 : Int32) (M : Mem) (res : Mem), k27 x0 x1 x2 x3 x4 x5 x6 x7 M = some res → Ex X (d + 1) mX5_plan 27 [(0, .ref x0), (1, .ref x1), (2, .int x2), (3, .int x3), (4, .int x4), (5, .int x5), (6, .int x6), (7, .int x7)] [] M none res) : ∀ (x0 : Nat) (x1 : Nat) (x2 : Int32) (x3 : Int32) (x4 : Int32) (x5 : Int32) (x6 : Int32) (x7 : Int32) (x8 : Int32) (M : Mem) (res : Mem), f_X5_plan_140 k12 k27 x0 x1 x2 x3 x4 x5 x6 x7 x8 M = some res → Ex X (d + 1) mX5_plan 140 [(0, .ref x0), (1, .ref x1), (2, .int x2), (3, .int x3), (4, .int x4), (5, .int x5), (6, .int x6), (7, .int x7), (8, .int x8)] [] M none res := by
  intro x0 x1 x2 x3 x4 x5 x6 x7 x8 M res  h
  unfold f_X5_plan_140 at h
  refine ex_aload_n (pc := 140) 0 dX5_plan_140 rfl rfl ?_
  obtain ⟨v1, ev1, h⟩ := ob_some h
  refine ex_gR (pc := 141) ev1 dX5_plan_141 lfX5_9 ?_
  refine ex_iload (pc := 144) 4 dX5_plan_144 rfl ?_
  refine ex_iload (pc := 146) 8 dX5_plan_146 rfl ?_
  obtain ⟨q2, eq2, h⟩ := ob_some h
  refine ex_wI (pc := 148) eq2 dX5_plan_148 ?_
  refine ex_aload_n (pc := 149) 0 dX5_plan_149 rfl rfl ?_
  obtain ⟨v3, ev3, h⟩ := ob_some h
  refine ex_gR (pc := 150) ev3 dX5_plan_150 lfX5_15 ?_
  refine ex_iload (pc := 153) 4 dX5_plan_153 rfl ?_
  refine ex_iload (pc := 155) 5 dX5_plan_155 rfl ?_
  obtain ⟨q4, eq4, h⟩ := ob_some h
  refine ex_wI (pc := 157) eq4 dX5_plan_157 ?_
  refine ex_aload_n (pc := 158) 0 dX5_plan_158 rfl rfl ?_
  obtain ⟨v5, ev5, h⟩ := ob_some h
  refine ex_gR (pc := 159) ev5 dX5_plan_159 lfX5_18 ?_
  refine ex_iload (pc := 162) 4 dX5_plan_162 rfl ?_
  refine ex_iload (pc := 164) 7 dX5_plan_164 rfl ?_
  refine ex_iconst (pc := 166) 1 dX5_plan_166 rfl ?_
  refine ex_iadd (pc := 167) dX5_plan_167 ?_
  obtain ⟨q6, eq6, h⟩ := ob_some h
  refine ex_wI (pc := 168) eq6 dX5_plan_168 ?_
  refine ex_iinc (pc := 169) (x7 + 1) 7 [(7, .int (x7 + 1)), (0, .ref x0), (1, .ref x1), (2, .int x2), (3, .int x3), (4, .int x4), (5, .int x5), (6, .int x6), (8, .int x8)] dX5_plan_169 rfl rfl (by decide) rfl ?_
  refine ex_goto (pc := 172) 27 dX5_plan_172 rfl ?_
  refine ex_sub (lo' := [(0, .ref x0), (1, .ref x1), (2, .int x2), (3, .int x3), (4, .int x4), (5, .int x5), (6, .int x6), (7, .int (x7 + 1))]) [1, 2, 3, 4, 5, 6, 7, 0] rfl ?_
  exact hk27 _ _ _ _ _ _ _ _ _ _  h
noncomputable def f_X5_plan_109 (k12 : Nat → Nat → Int32 → Int32 → Int32 → Mem → Option (Mem)) (k27 : Nat → Nat → Int32 → Int32 → Int32 → Int32 → Int32 → Int32 → Mem → Option (Mem)) (x0 : Nat) (x1 : Nat) (x2 : Int32) (x3 : Int32) (x4 : Int32) (x5 : Int32) (x6 : Int32) (x7 : Int32) (x8 : Int32) (s0 : Bool) (M : Mem) : Option (Mem) :=
  if s0 = true then
  (f_X5_plan_140 k12 k27 x0 x1 x2 x3 x4 x5 x6 x7 x8 M)
  else
  ((gR M 5 x0 0).bind fun v8 =>
  (rI M v8 x4).bind fun v9 =>
  if x8 = v9 then
  ((gR M 5 x0 1).bind fun v11 =>
  (rI M v11 x4).bind fun v12 =>
  if x5 ≤ v12 then
  (k27 x0 x1 x2 x3 x4 x5 x6 (x7 + 1) M)
  else
  (f_X5_plan_140 k12 k27 x0 x1 x2 x3 x4 x5 x6 x7 x8 M))
  else
  (k27 x0 x1 x2 x3 x4 x5 x6 (x7 + 1) M))
set_option maxHeartbeats 4000000 in
theorem t_X5_plan_109 {X : XV} {d : Nat} (hd : 1 ≤ d + 1) {k12 : Nat → Nat → Int32 → Int32 → Int32 → Mem → Option (Mem)} (hk12 : ∀ (x0 : Nat) (x1 : Nat) (x2 : Int32) (x3 : Int32) (x4 : Int32) (M : Mem) (res : Mem), k12 x0 x1 x2 x3 x4 M = some res → Ex X (d + 1) mX5_plan 12 [(0, .ref x0), (1, .ref x1), (2, .int x2), (3, .int x3), (4, .int x4)] [] M none res) {k27 : Nat → Nat → Int32 → Int32 → Int32 → Int32 → Int32 → Int32 → Mem → Option (Mem)} (hk27 : ∀ (x0 : Nat) (x1 : Nat) (x2 : Int32) (x3 : Int32) (x4 : Int32) (x5 : Int32) (x6 : Int32) (x7 : Int32) (M : Mem) (res : Mem), k27 x0 x1 x2 x3 x4 x5 x6 x7 M = some res → Ex X (d + 1) mX5_plan 27 [(0, .ref x0), (1, .ref x1), (2, .int x2), (3, .int x3), (4, .int x4), (5, .int x5), (6, .int x6), (7, .int x7)] [] M none res) : ∀ (x0 : Nat) (x1 : Nat) (x2 : Int32) (x3 : Int32) (x4 : Int32) (x5 : Int32) (x6 : Int32) (x7 : Int32) (x8 : Int32) (s0 : Bool) (M : Mem) (res : Mem), f_X5_plan_109 k12 k27 x0 x1 x2 x3 x4 x5 x6 x7 x8 s0 M = some res → Ex X (d + 1) mX5_plan 109 [(0, .ref x0), (1, .ref x1), (2, .int x2), (3, .int x3), (4, .int x4), (5, .int x5), (6, .int x6), (7, .int x7), (8, .int x8)] [.int (jz s0)] M none res := by
  intro x0 x1 x2 x3 x4 x5 x6 x7 x8 s0 M res  h
  unfold f_X5_plan_109 at h
  refine ex_istore (pc := 109) [(9, .int (jz s0)), (0, .ref x0), (1, .ref x1), (2, .int x2), (3, .int x3), (4, .int x4), (5, .int x5), (6, .int x6), (7, .int x7), (8, .int x8)] dX5_plan_109 (by decide) rfl ?_
  refine ex_iload (pc := 111) 0 dX5_plan_111 rfl ?_
  by_cases c7 : s0 = true
  · rw [if_pos c7] at h
    refine ex_if_ne_t (pc := 113) 140 dX5_plan_113 rfl (jz_ne_t c7) ?_
    refine ex_sub (lo' := [(0, .ref x0), (1, .ref x1), (2, .int x2), (3, .int x3), (4, .int x4), (5, .int x5), (6, .int x6), (7, .int x7), (8, .int x8)]) [1, 2, 3, 4, 5, 6, 7, 8, 9] rfl ?_
    exact t_X5_plan_140 hd hk12 hk27 _ _ _ _ _ _ _ _ _ _ _  h
  · rw [if_neg c7] at h
    refine ex_if_ne_f (pc := 113) dX5_plan_113 140 rfl (jz_ne_f c7) ?_
    refine ex_iload (pc := 116) 9 dX5_plan_116 rfl ?_
    refine ex_aload_n (pc := 118) 1 dX5_plan_118 rfl rfl ?_
    obtain ⟨v8, ev8, h⟩ := ob_some h
    refine ex_gR (pc := 119) ev8 dX5_plan_119 lfX5_9 ?_
    refine ex_iload (pc := 122) 5 dX5_plan_122 rfl ?_
    obtain ⟨v9, ev9, h⟩ := ob_some h
    refine ex_rI (pc := 124) ev9 dX5_plan_124 ?_
    by_cases c10 : x8 = v9
    · rw [if_pos c10] at h
      refine ex_icmp_ne_f (pc := 125) dX5_plan_125 169 rfl c10 ?_
      refine ex_iload (pc := 128) 6 dX5_plan_128 rfl ?_
      refine ex_aload_n (pc := 130) 1 dX5_plan_130 rfl rfl ?_
      obtain ⟨v11, ev11, h⟩ := ob_some h
      refine ex_gR (pc := 131) ev11 dX5_plan_131 lfX5_15 ?_
      refine ex_iload (pc := 134) 5 dX5_plan_134 rfl ?_
      obtain ⟨v12, ev12, h⟩ := ob_some h
      refine ex_rI (pc := 136) ev12 dX5_plan_136 ?_
      by_cases c13 : x5 ≤ v12
      · rw [if_pos c13] at h
        refine ex_icmp_le_t (pc := 137) 169 dX5_plan_137 rfl c13 ?_
        refine ex_iinc (pc := 169) (x7 + 1) 8 [(7, .int (x7 + 1)), (9, .int (jz s0)), (0, .ref x0), (1, .ref x1), (2, .int x2), (3, .int x3), (4, .int x4), (5, .int x5), (6, .int x6), (8, .int x8)] dX5_plan_169 rfl rfl (by decide) rfl ?_
        refine ex_goto (pc := 172) 27 dX5_plan_172 rfl ?_
        refine ex_sub (lo' := [(0, .ref x0), (1, .ref x1), (2, .int x2), (3, .int x3), (4, .int x4), (5, .int x5), (6, .int x6), (7, .int (x7 + 1))]) [2, 3, 4, 5, 6, 7, 8, 0] rfl ?_
        exact hk27 _ _ _ _ _ _ _ _ _ _  h
      · rw [if_neg c13] at h
        refine ex_icmp_le_f (pc := 137) dX5_plan_137 169 rfl c13 ?_
        refine ex_sub (lo' := [(0, .ref x0), (1, .ref x1), (2, .int x2), (3, .int x3), (4, .int x4), (5, .int x5), (6, .int x6), (7, .int x7), (8, .int x8)]) [1, 2, 3, 4, 5, 6, 7, 8, 9] rfl ?_
        exact t_X5_plan_140 hd hk12 hk27 _ _ _ _ _ _ _ _ _ _ _  h
    · rw [if_neg c10] at h
      refine ex_icmp_ne_t (pc := 125) 169 dX5_plan_125 rfl c10 ?_
      refine ex_iinc (pc := 169) (x7 + 1) 8 [(7, .int (x7 + 1)), (9, .int (jz s0)), (0, .ref x0), (1, .ref x1), (2, .int x2), (3, .int x3), (4, .int x4), (5, .int x5), (6, .int x6), (8, .int x8)] dX5_plan_169 rfl rfl (by decide) rfl ?_
      refine ex_goto (pc := 172) 27 dX5_plan_172 rfl ?_
      refine ex_sub (lo' := [(0, .ref x0), (1, .ref x1), (2, .int x2), (3, .int x3), (4, .int x4), (5, .int x5), (6, .int x6), (7, .int (x7 + 1))]) [2, 3, 4, 5, 6, 7, 8, 0] rfl ?_
      exact hk27 _ _ _ _ _ _ _ _ _ _  h
noncomputable def f_X5_plan_104 (k12 : Nat → Nat → Int32 → Int32 → Int32 → Mem → Option (Mem)) (k27 : Nat → Nat → Int32 → Int32 → Int32 → Int32 → Int32 → Int32 → Mem → Option (Mem)) (x0 : Nat) (x1 : Nat) (x2 : Int32) (x3 : Int32) (x4 : Int32) (x5 : Int32) (x6 : Int32) (x7 : Int32) (x8 : Int32) (M : Mem) : Option (Mem) :=
  f_X5_plan_109 k12 k27 x0 x1 x2 x3 x4 x5 x6 x7 x8 true M
set_option maxHeartbeats 4000000 in
theorem t_X5_plan_104 {X : XV} {d : Nat} (hd : 1 ≤ d + 1) {k12 : Nat → Nat → Int32 → Int32 → Int32 → Mem → Option (Mem)} (hk12 : ∀ (x0 : Nat) (x1 : Nat) (x2 : Int32) (x3 : Int32) (x4 : Int32) (M : Mem) (res : Mem), k12 x0 x1 x2 x3 x4 M = some res → Ex X (d + 1) mX5_plan 12 [(0, .ref x0), (1, .ref x1), (2, .int x2), (3, .int x3), (4, .int x4)] [] M none res) {k27 : Nat → Nat → Int32 → Int32 → Int32 → Int32 → Int32 → Int32 → Mem → Option (Mem)} (hk27 : ∀ (x0 : Nat) (x1 : Nat) (x2 : Int32) (x3 : Int32) (x4 : Int32) (x5 : Int32) (x6 : Int32) (x7 : Int32) (M : Mem) (res : Mem), k27 x0 x1 x2 x3 x4 x5 x6 x7 M = some res → Ex X (d + 1) mX5_plan 27 [(0, .ref x0), (1, .ref x1), (2, .int x2), (3, .int x3), (4, .int x4), (5, .int x5), (6, .int x6), (7, .int x7)] [] M none res) : ∀ (x0 : Nat) (x1 : Nat) (x2 : Int32) (x3 : Int32) (x4 : Int32) (x5 : Int32) (x6 : Int32) (x7 : Int32) (x8 : Int32) (M : Mem) (res : Mem), f_X5_plan_104 k12 k27 x0 x1 x2 x3 x4 x5 x6 x7 x8 M = some res → Ex X (d + 1) mX5_plan 104 [(0, .ref x0), (1, .ref x1), (2, .int x2), (3, .int x3), (4, .int x4), (5, .int x5), (6, .int x6), (7, .int x7), (8, .int x8)] [] M none res := by
  intro x0 x1 x2 x3 x4 x5 x6 x7 x8 M res  h
  unfold f_X5_plan_104 at h
  refine ex_iconst (pc := 104) 1 dX5_plan_104 rfl ?_
  refine ex_goto (pc := 105) 109 dX5_plan_105 rfl ?_
  refine ex_sub (lo' := [(0, .ref x0), (1, .ref x1), (2, .int x2), (3, .int x3), (4, .int x4), (5, .int x5), (6, .int x6), (7, .int x7), (8, .int x8)]) [0, 1, 2, 3, 4, 5, 6, 7, 8] rfl ?_
  exact t_X5_plan_109 hd hk12 hk27 _ _ _ _ _ _ _ _ _ _ _ _  h
noncomputable def f_X5_plan_70 (k12 : Nat → Nat → Int32 → Int32 → Int32 → Mem → Option (Mem)) (k27 : Nat → Nat → Int32 → Int32 → Int32 → Int32 → Int32 → Int32 → Mem → Option (Mem)) (x0 : Nat) (x1 : Nat) (x2 : Int32) (x3 : Int32) (x4 : Int32) (x5 : Int32) (x6 : Int32) (x7 : Int32) (s0 : Int32) (M : Mem) : Option (Mem) :=
  (gR M 5 x0 0).bind fun v14 =>
  (rI M v14 (x7 + 1)).bind fun v15 =>
  if x7 = x4 then
  (f_X5_plan_104 k12 k27 x0 x1 x2 x3 x4 x5 x6 x7 ((s0 + x6) + v15) M)
  else
  ((gR M 5 x0 0).bind fun v17 =>
  (rI M v17 x4).bind fun v18 =>
  if v18 ≤ ((s0 + x6) + v15) then
  (f_X5_plan_109 k12 k27 x0 x1 x2 x3 x4 x5 x6 x7 ((s0 + x6) + v15) false M)
  else
  (f_X5_plan_104 k12 k27 x0 x1 x2 x3 x4 x5 x6 x7 ((s0 + x6) + v15) M))
set_option maxHeartbeats 4000000 in
theorem t_X5_plan_70 {X : XV} {d : Nat} (hd : 1 ≤ d + 1) {k12 : Nat → Nat → Int32 → Int32 → Int32 → Mem → Option (Mem)} (hk12 : ∀ (x0 : Nat) (x1 : Nat) (x2 : Int32) (x3 : Int32) (x4 : Int32) (M : Mem) (res : Mem), k12 x0 x1 x2 x3 x4 M = some res → Ex X (d + 1) mX5_plan 12 [(0, .ref x0), (1, .ref x1), (2, .int x2), (3, .int x3), (4, .int x4)] [] M none res) {k27 : Nat → Nat → Int32 → Int32 → Int32 → Int32 → Int32 → Int32 → Mem → Option (Mem)} (hk27 : ∀ (x0 : Nat) (x1 : Nat) (x2 : Int32) (x3 : Int32) (x4 : Int32) (x5 : Int32) (x6 : Int32) (x7 : Int32) (M : Mem) (res : Mem), k27 x0 x1 x2 x3 x4 x5 x6 x7 M = some res → Ex X (d + 1) mX5_plan 27 [(0, .ref x0), (1, .ref x1), (2, .int x2), (3, .int x3), (4, .int x4), (5, .int x5), (6, .int x6), (7, .int x7)] [] M none res) : ∀ (x0 : Nat) (x1 : Nat) (x2 : Int32) (x3 : Int32) (x4 : Int32) (x5 : Int32) (x6 : Int32) (x7 : Int32) (s0 : Int32) (M : Mem) (res : Mem), f_X5_plan_70 k12 k27 x0 x1 x2 x3 x4 x5 x6 x7 s0 M = some res → Ex X (d + 1) mX5_plan 70 [(0, .ref x0), (1, .ref x1), (2, .int x2), (3, .int x3), (4, .int x4), (5, .int x5), (6, .int x6), (7, .int x7)] [.int s0] M none res := by
  intro x0 x1 x2 x3 x4 x5 x6 x7 s0 M res  h
  unfold f_X5_plan_70 at h
  refine ex_iload (pc := 70) 6 dX5_plan_70 rfl ?_
  refine ex_iadd (pc := 72) dX5_plan_72 ?_
  refine ex_aload_n (pc := 73) 0 dX5_plan_73 rfl rfl ?_
  obtain ⟨v14, ev14, h⟩ := ob_some h
  refine ex_gR (pc := 74) ev14 dX5_plan_74 lfX5_9 ?_
  refine ex_iload (pc := 77) 7 dX5_plan_77 rfl ?_
  refine ex_iconst (pc := 79) 1 dX5_plan_79 rfl ?_
  refine ex_iadd (pc := 80) dX5_plan_80 ?_
  obtain ⟨v15, ev15, h⟩ := ob_some h
  refine ex_rI (pc := 81) ev15 dX5_plan_81 ?_
  refine ex_iadd (pc := 82) dX5_plan_82 ?_
  refine ex_istore (pc := 83) [(8, .int ((s0 + x6) + v15)), (0, .ref x0), (1, .ref x1), (2, .int x2), (3, .int x3), (4, .int x4), (5, .int x5), (6, .int x6), (7, .int x7)] dX5_plan_83 (by decide) rfl ?_
  refine ex_iload (pc := 85) 8 dX5_plan_85 rfl ?_
  refine ex_iload (pc := 87) 5 dX5_plan_87 rfl ?_
  by_cases c16 : x7 = x4
  · rw [if_pos c16] at h
    refine ex_icmp_eq_t (pc := 89) 104 dX5_plan_89 rfl c16 ?_
    refine ex_sub (lo' := [(0, .ref x0), (1, .ref x1), (2, .int x2), (3, .int x3), (4, .int x4), (5, .int x5), (6, .int x6), (7, .int x7), (8, .int ((s0 + x6) + v15))]) [1, 2, 3, 4, 5, 6, 7, 8, 0] rfl ?_
    exact t_X5_plan_104 hd hk12 hk27 _ _ _ _ _ _ _ _ _ _ _  h
  · rw [if_neg c16] at h
    refine ex_icmp_eq_f (pc := 89) dX5_plan_89 104 rfl c16 ?_
    refine ex_iload (pc := 92) 0 dX5_plan_92 rfl ?_
    refine ex_aload_n (pc := 94) 1 dX5_plan_94 rfl rfl ?_
    obtain ⟨v17, ev17, h⟩ := ob_some h
    refine ex_gR (pc := 95) ev17 dX5_plan_95 lfX5_9 ?_
    refine ex_iload (pc := 98) 5 dX5_plan_98 rfl ?_
    obtain ⟨v18, ev18, h⟩ := ob_some h
    refine ex_rI (pc := 100) ev18 dX5_plan_100 ?_
    by_cases c19 : v18 ≤ ((s0 + x6) + v15)
    · rw [if_pos c19] at h
      refine ex_icmp_ge_t (pc := 101) 108 dX5_plan_101 rfl c19 ?_
      refine ex_iconst (pc := 108) 0 dX5_plan_108 rfl ?_
      refine ex_sub (lo' := [(0, .ref x0), (1, .ref x1), (2, .int x2), (3, .int x3), (4, .int x4), (5, .int x5), (6, .int x6), (7, .int x7), (8, .int ((s0 + x6) + v15))]) [1, 2, 3, 4, 5, 6, 7, 8, 0] rfl ?_
      exact t_X5_plan_109 hd hk12 hk27 _ _ _ _ _ _ _ _ _ _ _ _  h
    · rw [if_neg c19] at h
      refine ex_icmp_ge_f (pc := 101) dX5_plan_101 108 rfl c19 ?_
      refine ex_sub (lo' := [(0, .ref x0), (1, .ref x1), (2, .int x2), (3, .int x3), (4, .int x4), (5, .int x5), (6, .int x6), (7, .int x7), (8, .int ((s0 + x6) + v15))]) [1, 2, 3, 4, 5, 6, 7, 8, 0] rfl ?_
      exact t_X5_plan_104 hd hk12 hk27 _ _ _ _ _ _ _ _ _ _ _  h
noncomputable def f_X5_plan_27 (n0 : Nat) (k12 : Nat → Nat → Int32 → Int32 → Int32 → Mem → Option (Mem)) (x0 : Nat) (x1 : Nat) (x2 : Int32) (x3 : Int32) (x4 : Int32) (x5 : Int32) (x6 : Int32) (x7 : Int32) (M : Mem) : Option (Mem) :=
  match n0 with
  | 0 => none
  | n + 1 =>
    if 8 ≤ x7 then
    (k12 x0 x1 x2 x3 (x4 + (-1)) M)
    else
    ((rI M x1 x7).bind fun v21 =>
    (rI M x1 x7).bind fun v22 =>
    if (x5 + v21) ≤ 0 then
    (f_X5_plan_70 k12 (f_X5_plan_27 n k12) x0 x1 x2 x3 x4 (x5 + v21) (x6 + ((v22 * (x7 - x4)) * x3)) x7 0 M)
    else
    (f_X5_plan_70 k12 (f_X5_plan_27 n k12) x0 x1 x2 x3 x4 (x5 + v21) (x6 + ((v22 * (x7 - x4)) * x3)) x7 x2 M))
set_option maxHeartbeats 4000000 in
theorem t_X5_plan_27 {X : XV} {d : Nat} (hd : 1 ≤ d + 1) {k12 : Nat → Nat → Int32 → Int32 → Int32 → Mem → Option (Mem)} (hk12 : ∀ (x0 : Nat) (x1 : Nat) (x2 : Int32) (x3 : Int32) (x4 : Int32) (M : Mem) (res : Mem), k12 x0 x1 x2 x3 x4 M = some res → Ex X (d + 1) mX5_plan 12 [(0, .ref x0), (1, .ref x1), (2, .int x2), (3, .int x3), (4, .int x4)] [] M none res) : ∀ (n : Nat) (x0 : Nat) (x1 : Nat) (x2 : Int32) (x3 : Int32) (x4 : Int32) (x5 : Int32) (x6 : Int32) (x7 : Int32) (M : Mem) (res : Mem), f_X5_plan_27 n k12 x0 x1 x2 x3 x4 x5 x6 x7 M = some res → Ex X (d + 1) mX5_plan 27 [(0, .ref x0), (1, .ref x1), (2, .int x2), (3, .int x3), (4, .int x4), (5, .int x5), (6, .int x6), (7, .int x7)] [] M none res := by
  intro n
  induction n with
  | zero =>
    intro x0 x1 x2 x3 x4 x5 x6 x7 M res  h
    unfold f_X5_plan_27 at h
    cases h
  | succ n ih =>
    intro x0 x1 x2 x3 x4 x5 x6 x7 M res  h
    unfold f_X5_plan_27 at h
    refine ex_iload (pc := 27) 7 dX5_plan_27 rfl ?_
    refine ex_bipush (pc := 29) 8 dX5_plan_29 (by decide) ?_
    by_cases c20 : 8 ≤ x7
    · rw [if_pos c20] at h
      refine ex_icmp_ge_t (pc := 31) 175 dX5_plan_31 rfl c20 ?_
      refine ex_iinc (pc := 175) (x4 + (-1)) 4 [(4, .int (x4 + (-1))), (0, .ref x0), (1, .ref x1), (2, .int x2), (3, .int x3), (5, .int x5), (6, .int x6), (7, .int x7)] dX5_plan_175 rfl rfl (by decide) rfl ?_
      refine ex_goto (pc := 178) 12 dX5_plan_178 rfl ?_
      refine ex_sub (lo' := [(0, .ref x0), (1, .ref x1), (2, .int x2), (3, .int x3), (4, .int (x4 + (-1)))]) [1, 2, 3, 4, 0] rfl ?_
      exact hk12 _ _ _ _ _ _ _  h
    · rw [if_neg c20] at h
      refine ex_icmp_ge_f (pc := 31) dX5_plan_31 175 rfl c20 ?_
      refine ex_iload (pc := 34) 5 dX5_plan_34 rfl ?_
      refine ex_aload_n (pc := 36) 1 dX5_plan_36 rfl rfl ?_
      refine ex_iload (pc := 37) 7 dX5_plan_37 rfl ?_
      obtain ⟨v21, ev21, h⟩ := ob_some h
      refine ex_rI (pc := 39) ev21 dX5_plan_39 ?_
      refine ex_iadd (pc := 40) dX5_plan_40 ?_
      refine ex_istore (pc := 41) [(5, .int (x5 + v21)), (0, .ref x0), (1, .ref x1), (2, .int x2), (3, .int x3), (4, .int x4), (6, .int x6), (7, .int x7)] dX5_plan_41 (by decide) rfl ?_
      refine ex_iload (pc := 43) 6 dX5_plan_43 rfl ?_
      refine ex_aload_n (pc := 45) 2 dX5_plan_45 rfl rfl ?_
      refine ex_iload (pc := 46) 7 dX5_plan_46 rfl ?_
      obtain ⟨v22, ev22, h⟩ := ob_some h
      refine ex_rI (pc := 48) ev22 dX5_plan_48 ?_
      refine ex_iload (pc := 49) 7 dX5_plan_49 rfl ?_
      refine ex_iload (pc := 51) 5 dX5_plan_51 rfl ?_
      refine ex_isub (pc := 53) dX5_plan_53 ?_
      refine ex_imul (pc := 54) dX5_plan_54 ?_
      refine ex_iload_n (pc := 55) 4 dX5_plan_55 rfl rfl ?_
      refine ex_imul (pc := 56) dX5_plan_56 ?_
      refine ex_iadd (pc := 57) dX5_plan_57 ?_
      refine ex_istore (pc := 58) [(6, .int (x6 + ((v22 * (x7 - x4)) * x3))), (5, .int (x5 + v21)), (0, .ref x0), (1, .ref x1), (2, .int x2), (3, .int x3), (4, .int x4), (7, .int x7)] dX5_plan_58 (by decide) rfl ?_
      refine ex_iload (pc := 60) 1 dX5_plan_60 rfl ?_
      by_cases c23 : (x5 + v21) ≤ 0
      · rw [if_pos c23] at h
        refine ex_if_le_t (pc := 62) 69 dX5_plan_62 rfl c23 ?_
        refine ex_iconst (pc := 69) 0 dX5_plan_69 rfl ?_
        refine ex_sub (lo' := [(0, .ref x0), (1, .ref x1), (2, .int x2), (3, .int x3), (4, .int x4), (5, .int (x5 + v21)), (6, .int (x6 + ((v22 * (x7 - x4)) * x3))), (7, .int x7)]) [2, 3, 4, 5, 6, 1, 0, 7] rfl ?_
        exact t_X5_plan_70 hd hk12 ih _ _ _ _ _ _ _ _ _ _ _  h
      · rw [if_neg c23] at h
        refine ex_if_le_f (pc := 62) dX5_plan_62 69 rfl c23 ?_
        refine ex_iload_n (pc := 65) 4 dX5_plan_65 rfl rfl ?_
        refine ex_goto (pc := 66) 70 dX5_plan_66 rfl ?_
        refine ex_sub (lo' := [(0, .ref x0), (1, .ref x1), (2, .int x2), (3, .int x3), (4, .int x4), (5, .int (x5 + v21)), (6, .int (x6 + ((v22 * (x7 - x4)) * x3))), (7, .int x7)]) [2, 3, 4, 5, 6, 1, 0, 7] rfl ?_
        exact t_X5_plan_70 hd hk12 ih _ _ _ _ _ _ _ _ _ _ _  h
noncomputable def f_X5_plan_197 (n0 : Nat) (k184 : Nat → Int32 → Mem → Option (Mem)) (x0 : Nat) (x4 : Int32) (x5 : Int32) (M : Mem) : Option (Mem) :=
  match n0 with
  | 0 => none
  | n + 1 =>
    (gR M 5 x0 2).bind fun v24 =>
    (rI M v24 x4).bind fun v25 =>
    if v25 ≤ x5 then
    (k184 x0 (x4 + 1) M)
    else
    (if 8 ≤ x5 then
    (k184 x0 (x4 + 1) M)
    else
    ((gR M 5 x0 1).bind fun v28 =>
    (wI M v28 x5 0).bind fun q29 =>
    (gR q29 5 x0 2).bind fun v30 =>
    (wI q29 v30 x5 0).bind fun q31 =>
    f_X5_plan_197 n k184 x0 x4 (x5 + 1) q31))
set_option maxHeartbeats 4000000 in
theorem t_X5_plan_197 {X : XV} {d : Nat} (hd : 1 ≤ d + 1) {k184 : Nat → Int32 → Mem → Option (Mem)} (hk184 : ∀ (x0 : Nat) (x4 : Int32) (M : Mem) (res : Mem), k184 x0 x4 M = some res → Ex X (d + 1) mX5_plan 184 [(0, .ref x0), (4, .int x4)] [] M none res) : ∀ (n : Nat) (x0 : Nat) (x4 : Int32) (x5 : Int32) (M : Mem) (res : Mem), f_X5_plan_197 n k184 x0 x4 x5 M = some res → Ex X (d + 1) mX5_plan 197 [(0, .ref x0), (4, .int x4), (5, .int x5)] [] M none res := by
  intro n
  induction n with
  | zero =>
    intro x0 x4 x5 M res  h
    unfold f_X5_plan_197 at h
    cases h
  | succ n ih =>
    intro x0 x4 x5 M res  h
    unfold f_X5_plan_197 at h
    refine ex_iload (pc := 197) 2 dX5_plan_197 rfl ?_
    refine ex_aload_n (pc := 199) 0 dX5_plan_199 rfl rfl ?_
    obtain ⟨v24, ev24, h⟩ := ob_some h
    refine ex_gR (pc := 200) ev24 dX5_plan_200 lfX5_18 ?_
    refine ex_iload (pc := 203) 1 dX5_plan_203 rfl ?_
    obtain ⟨v25, ev25, h⟩ := ob_some h
    refine ex_rI (pc := 205) ev25 dX5_plan_205 ?_
    by_cases c26 : v25 ≤ x5
    · rw [if_pos c26] at h
      refine ex_icmp_ge_t (pc := 206) 238 dX5_plan_206 rfl c26 ?_
      refine ex_iinc (pc := 238) (x4 + 1) 1 [(4, .int (x4 + 1)), (0, .ref x0), (5, .int x5)] dX5_plan_238 rfl rfl (by decide) rfl ?_
      refine ex_goto (pc := 241) 184 dX5_plan_241 rfl ?_
      refine ex_sub (lo' := [(0, .ref x0), (4, .int (x4 + 1))]) [1, 0] rfl ?_
      exact hk184 _ _ _ _  h
    · rw [if_neg c26] at h
      refine ex_icmp_ge_f (pc := 206) dX5_plan_206 238 rfl c26 ?_
      refine ex_iload (pc := 209) 2 dX5_plan_209 rfl ?_
      refine ex_bipush (pc := 211) 8 dX5_plan_211 (by decide) ?_
      by_cases c27 : 8 ≤ x5
      · rw [if_pos c27] at h
        refine ex_icmp_ge_t (pc := 213) 238 dX5_plan_213 rfl c27 ?_
        refine ex_iinc (pc := 238) (x4 + 1) 1 [(4, .int (x4 + 1)), (0, .ref x0), (5, .int x5)] dX5_plan_238 rfl rfl (by decide) rfl ?_
        refine ex_goto (pc := 241) 184 dX5_plan_241 rfl ?_
        refine ex_sub (lo' := [(0, .ref x0), (4, .int (x4 + 1))]) [1, 0] rfl ?_
        exact hk184 _ _ _ _  h
      · rw [if_neg c27] at h
        refine ex_icmp_ge_f (pc := 213) dX5_plan_213 238 rfl c27 ?_
        refine ex_aload_n (pc := 216) 0 dX5_plan_216 rfl rfl ?_
        obtain ⟨v28, ev28, h⟩ := ob_some h
        refine ex_gR (pc := 217) ev28 dX5_plan_217 lfX5_15 ?_
        refine ex_iload (pc := 220) 2 dX5_plan_220 rfl ?_
        refine ex_iconst (pc := 222) 0 dX5_plan_222 rfl ?_
        obtain ⟨q29, eq29, h⟩ := ob_some h
        refine ex_wI (pc := 223) eq29 dX5_plan_223 ?_
        refine ex_aload_n (pc := 224) 0 dX5_plan_224 rfl rfl ?_
        obtain ⟨v30, ev30, h⟩ := ob_some h
        refine ex_gR (pc := 225) ev30 dX5_plan_225 lfX5_18 ?_
        refine ex_iload (pc := 228) 2 dX5_plan_228 rfl ?_
        refine ex_iconst (pc := 230) 0 dX5_plan_230 rfl ?_
        obtain ⟨q31, eq31, h⟩ := ob_some h
        refine ex_wI (pc := 231) eq31 dX5_plan_231 ?_
        refine ex_iinc (pc := 232) (x5 + 1) 2 [(5, .int (x5 + 1)), (0, .ref x0), (4, .int x4)] dX5_plan_232 rfl rfl (by decide) rfl ?_
        refine ex_goto (pc := 235) 197 dX5_plan_235 rfl ?_
        refine ex_sub (lo' := [(0, .ref x0), (4, .int x4), (5, .int (x5 + 1))]) [1, 2, 0] rfl ?_
        exact ih _ _ _ _ _  h
noncomputable def f_X5_plan_184 (n0 : Nat) (x0 : Nat) (x4 : Int32) (M : Mem) : Option (Mem) :=
  match n0 with
  | 0 => none
  | n + 1 =>
    if 8 ≤ x4 then
    (some M)
    else
    (f_X5_plan_197 fu (f_X5_plan_184 n) x0 x4 (x4 + 1) M)
set_option maxHeartbeats 4000000 in
theorem t_X5_plan_184 {X : XV} {d : Nat} (hd : 1 ≤ d + 1) : ∀ (n : Nat) (x0 : Nat) (x4 : Int32) (M : Mem) (res : Mem), f_X5_plan_184 n  x0 x4 M = some res → Ex X (d + 1) mX5_plan 184 [(0, .ref x0), (4, .int x4)] [] M none res := by
  intro n
  induction n with
  | zero =>
    intro x0 x4 M res  h
    unfold f_X5_plan_184 at h
    cases h
  | succ n ih =>
    intro x0 x4 M res  h
    unfold f_X5_plan_184 at h
    refine ex_iload (pc := 184) 1 dX5_plan_184 rfl ?_
    refine ex_bipush (pc := 186) 8 dX5_plan_186 (by decide) ?_
    by_cases c32 : 8 ≤ x4
    · rw [if_pos c32] at h
      refine ex_icmp_ge_t (pc := 188) 244 dX5_plan_188 rfl c32 ?_
      cases h
      exact ex_return (pc := 244) dX5_plan_244
    · rw [if_neg c32] at h
      refine ex_icmp_ge_f (pc := 188) dX5_plan_188 244 rfl c32 ?_
      refine ex_iload (pc := 191) 1 dX5_plan_191 rfl ?_
      refine ex_iconst (pc := 193) 1 dX5_plan_193 rfl ?_
      refine ex_iadd (pc := 194) dX5_plan_194 ?_
      refine ex_istore (pc := 195) [(5, .int (x4 + 1)), (0, .ref x0), (4, .int x4)] dX5_plan_195 (by decide) rfl ?_
      refine ex_sub (lo' := [(0, .ref x0), (4, .int x4), (5, .int (x4 + 1))]) [1, 2, 0] rfl ?_
      exact t_X5_plan_197 hd ih _ _ _ _ _ _  h
noncomputable def f_X5_plan_12 (n0 : Nat) (x0 : Nat) (x1 : Nat) (x2 : Int32) (x3 : Int32) (x4 : Int32) (M : Mem) : Option (Mem) :=
  match n0 with
  | 0 => none
  | n + 1 =>
    if x4 < 0 then
    (f_X5_plan_184 fu x0 0 M)
    else
    (f_X5_plan_27 fu (f_X5_plan_12 n) x0 x1 x2 x3 x4 0 0 x4 M)
set_option maxHeartbeats 4000000 in
theorem t_X5_plan_12 {X : XV} {d : Nat} (hd : 1 ≤ d + 1) : ∀ (n : Nat) (x0 : Nat) (x1 : Nat) (x2 : Int32) (x3 : Int32) (x4 : Int32) (M : Mem) (res : Mem), f_X5_plan_12 n  x0 x1 x2 x3 x4 M = some res → Ex X (d + 1) mX5_plan 12 [(0, .ref x0), (1, .ref x1), (2, .int x2), (3, .int x3), (4, .int x4)] [] M none res := by
  intro n
  induction n with
  | zero =>
    intro x0 x1 x2 x3 x4 M res  h
    unfold f_X5_plan_12 at h
    cases h
  | succ n ih =>
    intro x0 x1 x2 x3 x4 M res  h
    unfold f_X5_plan_12 at h
    refine ex_iload (pc := 12) 4 dX5_plan_12 rfl ?_
    by_cases c33 : x4 < 0
    · rw [if_pos c33] at h
      refine ex_if_lt_t (pc := 14) 181 dX5_plan_14 rfl c33 ?_
      refine ex_iconst (pc := 181) 0 dX5_plan_181 rfl ?_
      refine ex_istore (pc := 182) [(4, .int 0), (0, .ref x0), (1, .ref x1), (2, .int x2), (3, .int x3)] dX5_plan_182 (by decide) rfl ?_
      refine ex_sub (lo' := [(0, .ref x0), (4, .int 0)]) [1, 0] rfl ?_
      exact t_X5_plan_184 hd  _ _ _ _ _  h
    · rw [if_neg c33] at h
      refine ex_if_lt_f (pc := 14) dX5_plan_14 181 rfl c33 ?_
      refine ex_iconst (pc := 17) 0 dX5_plan_17 rfl ?_
      refine ex_istore (pc := 18) [(5, .int 0), (0, .ref x0), (1, .ref x1), (2, .int x2), (3, .int x3), (4, .int x4)] dX5_plan_18 (by decide) rfl ?_
      refine ex_iconst (pc := 20) 0 dX5_plan_20 rfl ?_
      refine ex_istore (pc := 21) [(6, .int 0), (5, .int 0), (0, .ref x0), (1, .ref x1), (2, .int x2), (3, .int x3), (4, .int x4)] dX5_plan_21 (by decide) rfl ?_
      refine ex_iload (pc := 23) 6 dX5_plan_23 rfl ?_
      refine ex_istore (pc := 25) [(7, .int x4), (6, .int 0), (5, .int 0), (0, .ref x0), (1, .ref x1), (2, .int x2), (3, .int x3), (4, .int x4)] dX5_plan_25 (by decide) rfl ?_
      refine ex_sub (lo' := [(0, .ref x0), (1, .ref x1), (2, .int x2), (3, .int x3), (4, .int x4), (5, .int 0), (6, .int 0), (7, .int x4)]) [3, 4, 5, 6, 7, 2, 1, 0] rfl ?_
      exact t_X5_plan_27 hd ih _ _ _ _ _ _ _ _ _ _ _  h
noncomputable def f_X5_plan_0 (x0 : Nat) (x1 : Nat) (x2 : Int32) (x3 : Int32) (M : Mem) : Option (Mem) :=
  (gR M 5 x0 0).bind fun v34 =>
  (wI M v34 8 0).bind fun q35 =>
  f_X5_plan_12 fu x0 x1 x2 x3 7 q35
set_option maxHeartbeats 4000000 in
theorem t_X5_plan_0 {X : XV} {d : Nat} (hd : 1 ≤ d + 1) : ∀ (x0 : Nat) (x1 : Nat) (x2 : Int32) (x3 : Int32) (M : Mem) (res : Mem), f_X5_plan_0  x0 x1 x2 x3 M = some res → Ex X (d + 1) mX5_plan 0 [(0, .ref x0), (1, .ref x1), (2, .int x2), (3, .int x3)] [] M none res := by
  intro x0 x1 x2 x3 M res  h
  unfold f_X5_plan_0 at h
  refine ex_aload_n (pc := 0) 0 dX5_plan_0 rfl rfl ?_
  obtain ⟨v34, ev34, h⟩ := ob_some h
  refine ex_gR (pc := 1) ev34 dX5_plan_1 lfX5_9 ?_
  refine ex_bipush (pc := 4) 8 dX5_plan_4 (by decide) ?_
  refine ex_iconst (pc := 6) 0 dX5_plan_6 rfl ?_
  obtain ⟨q35, eq35, h⟩ := ob_some h
  refine ex_wI (pc := 7) eq35 dX5_plan_7 ?_
  refine ex_bipush (pc := 8) 7 dX5_plan_8 (by decide) ?_
  refine ex_istore (pc := 10) [(4, .int 7), (0, .ref x0), (1, .ref x1), (2, .int x2), (3, .int x3)] dX5_plan_10 (by decide) rfl ?_
  refine ex_sub (lo' := [(0, .ref x0), (1, .ref x1), (2, .int x2), (3, .int x3), (4, .int 7)]) [1, 2, 3, 4, 0] rfl ?_
  exact t_X5_plan_12 hd  _ _ _ _ _ _ _ _  h
noncomputable def f_X5_plan (x0 : Nat) (x1 : Nat) (x2 : Int32) (x3 : Int32) (M : Mem) : Option (Mem) := if isOb M 5 x0 = true then f_X5_plan_0 x0 x1 x2 x3 M else none
theorem o_X5_plan {x0 : Nat} {x1 : Nat} {x2 : Int32} {x3 : Int32} {M : Mem} {res : Mem} (h : f_X5_plan x0 x1 x2 x3 M = some res) : isO M 5 x0 := by
  unfold f_X5_plan at h
  split at h
  · rename_i hc; exact isOb_iff hc
  · cases h
set_option maxHeartbeats 4000000 in
theorem s_X5_plan {X : XV} {d : Nat} (hd : 1 ≤ d) {x0 : Nat} {x1 : Nat} {x2 : Int32} {x3 : Int32} {M : Mem} {res : Mem} (h : f_X5_plan x0 x1 x2 x3 M = some res) : Mx X d mX5_plan [.ref x0, .ref x1, .int x2, .int x3] M none res := by
  obtain ⟨d, rfl⟩ : ∃ e, d = e + 1 := ⟨d - 1, by omega⟩
  unfold f_X5_plan at h
  split at h
  rotate_left
  · cases h
  refine Mx.of (by decide) (Nat.le_of_ble_eq_true rfl) (rfl) ?_
  exact ex_sub (lo' := [(0, .ref x0), (1, .ref x1), (2, .int x2), (3, .int x3)]) [0, 1, 2, 3] rfl (t_X5_plan_0 hd _ _ _ _ _ _  h)
noncomputable def f_X6_init_0 (x0 : Nat) (M : Mem) : Option (Mem) :=
  (some (nwO M 3 2)).bind fun q1 =>
  (f_X3_init M.1 12 q1).bind fun q2 =>
  (pF q2 6 x0 0 (.ref M.1)).bind fun q3 =>
  (nwI q3 13).bind fun q4 =>
  (pF q4 6 x0 1 (.ref q3.1)).bind fun q5 =>
  (nwI q5 13).bind fun q6 =>
  (pF q6 6 x0 2 (.ref q5.1)).bind fun q7 =>
  (nwI q7 13).bind fun q8 =>
  (pF q8 6 x0 3 (.ref q7.1)).bind fun q9 =>
  (nwM q9 13 13).bind fun q10 =>
  (pF q10 6 x0 4 (.ref q9.1)).bind fun q11 =>
  (nwI q11 10).bind fun q12 =>
  (pF q12 6 x0 5 (.ref q11.1)).bind fun q13 =>
  (nwI q13 10).bind fun q14 =>
  (pF q14 6 x0 6 (.ref q13.1)).bind fun q15 =>
  some q15
set_option maxHeartbeats 4000000 in
theorem t_X6_init_0 {X : XV} {d : Nat} (hd : 2 ≤ d + 1) : ∀ (x0 : Nat) (M : Mem) (res : Mem), f_X6_init_0  x0 M = some res → Ex X (d + 1) mX6_init 0 [(0, .ref x0)] [] M none res := by
  intro x0 M res  h
  unfold f_X6_init_0 at h
  refine ex_aload_n (pc := 0) 0 dX6_init_0 rfl rfl ?_
  refine ex_obj (pc := 1) dX6_init_1 lmX6_3 (by omega) (Nat.le_of_ble_eq_true rfl) ?_
  refine ex_aload_n (pc := 4) 0 dX6_init_4 rfl rfl ?_
  obtain ⟨q1, eq1, h⟩ := ob_some h
  refine ex_nwO (pc := 5) eq1 dX6_init_5 lwX6_9 ?_
  refine ex_dup (pc := 8) dX6_init_8 rfl ?_
  refine ex_bipush (pc := 9) 12 dX6_init_9 (by decide) ?_
  obtain ⟨q2, eq2, h⟩ := ob_some h
  refine ex_callI1v (pc := 11) dX6_init_11 jX3_init lmX6_11 jiX3_init rfl rfl (Nat.le_of_ble_eq_true rfl) (s_X3_init (by omega)  eq2) ?_
  obtain ⟨q3, eq3, h⟩ := ob_some h
  refine ex_pFF (pc := 14) eq3 dX6_init_14 lfX6_14 rfl rfl (fun _ hq => by cases hq; exact ⟨rfl, rfl⟩) rfl ?_
  refine ex_aload_n (pc := 17) 0 dX6_init_17 rfl rfl ?_
  refine ex_bipush (pc := 18) 13 dX6_init_18 (by decide) ?_
  obtain ⟨q4, eq4, h⟩ := ob_some h
  refine ex_nwI (pc := 20) eq4 dX6_init_20 ?_
  obtain ⟨q5, eq5, h⟩ := ob_some h
  refine ex_pFF (pc := 22) eq5 dX6_init_22 lfX6_20 rfl rfl (fun _ hq => by cases hq; exact ⟨rfl, rfl⟩) rfl ?_
  refine ex_aload_n (pc := 25) 0 dX6_init_25 rfl rfl ?_
  refine ex_bipush (pc := 26) 13 dX6_init_26 (by decide) ?_
  obtain ⟨q6, eq6, h⟩ := ob_some h
  refine ex_nwI (pc := 28) eq6 dX6_init_28 ?_
  obtain ⟨q7, eq7, h⟩ := ob_some h
  refine ex_pFF (pc := 30) eq7 dX6_init_30 lfX6_24 rfl rfl (fun _ hq => by cases hq; exact ⟨rfl, rfl⟩) rfl ?_
  refine ex_aload_n (pc := 33) 0 dX6_init_33 rfl rfl ?_
  refine ex_bipush (pc := 34) 13 dX6_init_34 (by decide) ?_
  obtain ⟨q8, eq8, h⟩ := ob_some h
  refine ex_nwI (pc := 36) eq8 dX6_init_36 ?_
  obtain ⟨q9, eq9, h⟩ := ob_some h
  refine ex_pFF (pc := 38) eq9 dX6_init_38 lfX6_27 rfl rfl (fun _ hq => by cases hq; exact ⟨rfl, rfl⟩) rfl ?_
  refine ex_aload_n (pc := 41) 0 dX6_init_41 rfl rfl ?_
  refine ex_bipush (pc := 42) 13 dX6_init_42 (by decide) ?_
  refine ex_bipush (pc := 44) 13 dX6_init_44 (by decide) ?_
  obtain ⟨q10, eq10, h⟩ := ob_some h
  refine ex_nwM (pc := 46) eq10 dX6_init_46 lcX6_30 ?_
  obtain ⟨q11, eq11, h⟩ := ob_some h
  refine ex_pFF (pc := 50) eq11 dX6_init_50 lfX6_32 rfl rfl (fun _ hq => by cases hq; exact ⟨rfl, rfl⟩) rfl ?_
  refine ex_aload_n (pc := 53) 0 dX6_init_53 rfl rfl ?_
  refine ex_bipush (pc := 54) 10 dX6_init_54 (by decide) ?_
  obtain ⟨q12, eq12, h⟩ := ob_some h
  refine ex_nwI (pc := 56) eq12 dX6_init_56 ?_
  obtain ⟨q13, eq13, h⟩ := ob_some h
  refine ex_pFF (pc := 58) eq13 dX6_init_58 lfX6_35 rfl rfl (fun _ hq => by cases hq; exact ⟨rfl, rfl⟩) rfl ?_
  refine ex_aload_n (pc := 61) 0 dX6_init_61 rfl rfl ?_
  refine ex_bipush (pc := 62) 10 dX6_init_62 (by decide) ?_
  obtain ⟨q14, eq14, h⟩ := ob_some h
  refine ex_nwI (pc := 64) eq14 dX6_init_64 ?_
  obtain ⟨q15, eq15, h⟩ := ob_some h
  refine ex_pFF (pc := 66) eq15 dX6_init_66 lfX6_38 rfl rfl (fun _ hq => by cases hq; exact ⟨rfl, rfl⟩) rfl ?_
  cases h
  exact ex_return (pc := 69) dX6_init_69
noncomputable def f_X6_init (x0 : Nat) (M : Mem) : Option (Mem) := f_X6_init_0 x0 M
set_option maxHeartbeats 4000000 in
theorem s_X6_init {X : XV} {d : Nat} (hd : 2 ≤ d) {x0 : Nat} {M : Mem} {res : Mem} (h : f_X6_init x0 M = some res) : Mx X d mX6_init [.ref x0] M none res := by
  obtain ⟨d, rfl⟩ : ∃ e, d = e + 1 := ⟨d - 1, by omega⟩
  unfold f_X6_init at h
  refine Mx.of (by decide) (Nat.le_of_ble_eq_true rfl) (rfl) ?_
  exact ex_sub (lo' := [(0, .ref x0)]) [0] rfl (t_X6_init_0 hd _ _ _  h)
noncomputable def f_X6_behind_77 (x1 : Int32) (s0 : Bool) (M : Mem) : Option (Int32) :=
  if s0 = false then
  (some (-1))
  else
  (some (x1 + 2))
set_option maxHeartbeats 4000000 in
theorem t_X6_behind_77 {X : XV} {d : Nat} (hd : 3 ≤ d + 1) : ∀ (x1 : Int32) (s0 : Bool) (M : Mem) (res : Int32), f_X6_behind_77  x1 s0 M = some res → Ex X (d + 1) mX6_behind 77 [(1, .int x1)] [.int (jz s0)] M (some (.int res)) M := by
  intro x1 s0 M res  h
  unfold f_X6_behind_77 at h
  refine ex_istore_n (pc := 77) [(3, .int (jz s0)), (1, .int x1)] dX6_behind_77 rfl (by decide) rfl ?_
  refine ex_iload_n (pc := 78) 0 dX6_behind_78 rfl rfl ?_
  by_cases c1 : s0 = false
  · rw [if_pos c1] at h
    refine ex_if_eq_t (pc := 79) 88 dX6_behind_79 rfl (jz_eq_t c1) ?_
    refine ex_iconst (pc := 88) (-1) dX6_behind_88 rfl ?_
    cases h
    exact ex_ireturn (pc := 89) dX6_behind_89
  · rw [if_neg c1] at h
    refine ex_if_eq_f (pc := 79) dX6_behind_79 88 rfl (jz_eq_f c1) ?_
    refine ex_iload_n (pc := 82) 1 dX6_behind_82 rfl rfl ?_
    refine ex_iconst (pc := 83) 2 dX6_behind_83 rfl ?_
    refine ex_iadd (pc := 84) dX6_behind_84 ?_
    refine ex_goto (pc := 85) 89 dX6_behind_85 rfl ?_
    cases h
    exact ex_ireturn (pc := 89) dX6_behind_89
noncomputable def f_X6_behind_76 (x1 : Int32) (M : Mem) : Option (Int32) :=
  f_X6_behind_77 x1 false M
set_option maxHeartbeats 4000000 in
theorem t_X6_behind_76 {X : XV} {d : Nat} (hd : 3 ≤ d + 1) : ∀ (x1 : Int32) (M : Mem) (res : Int32), f_X6_behind_76  x1 M = some res → Ex X (d + 1) mX6_behind 76 [(1, .int x1)] [] M (some (.int res)) M := by
  intro x1 M res  h
  unfold f_X6_behind_76 at h
  refine ex_iconst (pc := 76) 0 dX6_behind_76 rfl ?_
  refine ex_sub (lo' := [(1, .int x1)]) [0] rfl ?_
  exact t_X6_behind_77 hd  _ _ _ _  h
noncomputable def f_X6_behind_0 (x0 : Nat) (x1 : Int32) (x2 : Int32) (M : Mem) : Option (Int32) :=
  if 0 < x2 then
  (if 11 ≤ x2 then
  ((f_X3_has x0 (x1 + 1) M).bind fun v4 =>
  if v4 = false then
  (f_X6_behind_76 x1 M)
  else
  ((f_X3_get x0 x1 M).bind fun v6 =>
  (f_X3_get x0 (x1 + 1) M).bind fun v7 =>
  if ((v6 * 10) + v7) = (x2 - 11) then
  (f_X6_behind_77 x1 true M)
  else
  (f_X6_behind_76 x1 M)))
  else
  ((f_X3_has x0 x1 M).bind fun v9 =>
  if v9 = false then
  (some (-1))
  else
  ((f_X3_get x0 x1 M).bind fun v11 =>
  if v11 = (x2 - 1) then
  (some (x1 + 1))
  else
  (some (-1)))))
  else
  (some x1)
set_option maxHeartbeats 4000000 in
theorem t_X6_behind_0 {X : XV} {d : Nat} (hd : 3 ≤ d + 1) : ∀ (x0 : Nat) (x1 : Int32) (x2 : Int32) (M : Mem) (res : Int32), f_X6_behind_0  x0 x1 x2 M = some res → Ex X (d + 1) mX6_behind 0 [(0, .ref x0), (1, .int x1), (2, .int x2)] [] M (some (.int res)) M := by
  intro x0 x1 x2 M res  h
  unfold f_X6_behind_0 at h
  refine ex_iload_n (pc := 0) 2 dX6_behind_0 rfl rfl ?_
  by_cases c2 : 0 < x2
  · rw [if_pos c2] at h
    refine ex_if_gt_t (pc := 1) 6 dX6_behind_1 rfl c2 ?_
    refine ex_iload_n (pc := 6) 2 dX6_behind_6 rfl rfl ?_
    refine ex_bipush (pc := 7) 11 dX6_behind_7 (by decide) ?_
    by_cases c3 : 11 ≤ x2
    · rw [if_pos c3] at h
      refine ex_icmp_ge_t (pc := 9) 39 dX6_behind_9 rfl c3 ?_
      refine ex_aload_n (pc := 39) 0 dX6_behind_39 rfl rfl ?_
      refine ex_iload_n (pc := 40) 1 dX6_behind_40 rfl rfl ?_
      refine ex_iconst (pc := 41) 1 dX6_behind_41 rfl ?_
      refine ex_iadd (pc := 42) dX6_behind_42 ?_
      obtain ⟨v4, ev4, h⟩ := ob_some h
      refine ex_callV1r (pc := 43) dX6_behind_43 jX3_has lmX6_85 jiX3_has jvX3_has (o_X3_has ev4) rfl (Nat.le_of_ble_eq_true rfl) (s_X3_has (by omega)  ev4) ?_
      by_cases c5 : v4 = false
      · rw [if_pos c5] at h
        refine ex_if_eq_t (pc := 46) 76 dX6_behind_46 rfl (jz_eq_t c5) ?_
        refine ex_sub (lo' := [(1, .int x1)]) [1] rfl ?_
        exact t_X6_behind_76 hd  _ _ _  h
      · rw [if_neg c5] at h
        refine ex_if_eq_f (pc := 46) dX6_behind_46 76 rfl (jz_eq_f c5) ?_
        refine ex_aload_n (pc := 49) 0 dX6_behind_49 rfl rfl ?_
        refine ex_iload_n (pc := 50) 1 dX6_behind_50 rfl rfl ?_
        obtain ⟨v6, ev6, h⟩ := ob_some h
        refine ex_callV1r (pc := 51) dX6_behind_51 jX3_get lmX6_89 jiX3_get jvX3_get (o_X3_get ev6) rfl (Nat.le_of_ble_eq_true rfl) (s_X3_get (by omega)  ev6) ?_
        refine ex_bipush (pc := 54) 10 dX6_behind_54 (by decide) ?_
        refine ex_imul (pc := 56) dX6_behind_56 ?_
        refine ex_aload_n (pc := 57) 0 dX6_behind_57 rfl rfl ?_
        refine ex_iload_n (pc := 58) 1 dX6_behind_58 rfl rfl ?_
        refine ex_iconst (pc := 59) 1 dX6_behind_59 rfl ?_
        refine ex_iadd (pc := 60) dX6_behind_60 ?_
        obtain ⟨v7, ev7, h⟩ := ob_some h
        refine ex_callV1r (pc := 61) dX6_behind_61 jX3_get lmX6_89 jiX3_get jvX3_get (o_X3_get ev7) rfl (Nat.le_of_ble_eq_true rfl) (s_X3_get (by omega)  ev7) ?_
        refine ex_iadd (pc := 64) dX6_behind_64 ?_
        refine ex_iload_n (pc := 65) 2 dX6_behind_65 rfl rfl ?_
        refine ex_bipush (pc := 66) 11 dX6_behind_66 (by decide) ?_
        refine ex_isub (pc := 68) dX6_behind_68 ?_
        by_cases c8 : ((v6 * 10) + v7) = (x2 - 11)
        · rw [if_pos c8] at h
          refine ex_icmp_ne_f (pc := 69) dX6_behind_69 76 rfl c8 ?_
          refine ex_iconst (pc := 72) 1 dX6_behind_72 rfl ?_
          refine ex_goto (pc := 73) 77 dX6_behind_73 rfl ?_
          refine ex_sub (lo' := [(1, .int x1)]) [1] rfl ?_
          exact t_X6_behind_77 hd  _ _ _ _  h
        · rw [if_neg c8] at h
          refine ex_icmp_ne_t (pc := 69) 76 dX6_behind_69 rfl c8 ?_
          refine ex_sub (lo' := [(1, .int x1)]) [1] rfl ?_
          exact t_X6_behind_76 hd  _ _ _  h
    · rw [if_neg c3] at h
      refine ex_icmp_ge_f (pc := 9) dX6_behind_9 39 rfl c3 ?_
      refine ex_aload_n (pc := 12) 0 dX6_behind_12 rfl rfl ?_
      refine ex_iload_n (pc := 13) 1 dX6_behind_13 rfl rfl ?_
      obtain ⟨v9, ev9, h⟩ := ob_some h
      refine ex_callV1r (pc := 14) dX6_behind_14 jX3_has lmX6_85 jiX3_has jvX3_has (o_X3_has ev9) rfl (Nat.le_of_ble_eq_true rfl) (s_X3_has (by omega)  ev9) ?_
      by_cases c10 : v9 = false
      · rw [if_pos c10] at h
        refine ex_if_eq_t (pc := 17) 37 dX6_behind_17 rfl (jz_eq_t c10) ?_
        refine ex_iconst (pc := 37) (-1) dX6_behind_37 rfl ?_
        cases h
        exact ex_ireturn (pc := 38) dX6_behind_38
      · rw [if_neg c10] at h
        refine ex_if_eq_f (pc := 17) dX6_behind_17 37 rfl (jz_eq_f c10) ?_
        refine ex_aload_n (pc := 20) 0 dX6_behind_20 rfl rfl ?_
        refine ex_iload_n (pc := 21) 1 dX6_behind_21 rfl rfl ?_
        obtain ⟨v11, ev11, h⟩ := ob_some h
        refine ex_callV1r (pc := 22) dX6_behind_22 jX3_get lmX6_89 jiX3_get jvX3_get (o_X3_get ev11) rfl (Nat.le_of_ble_eq_true rfl) (s_X3_get (by omega)  ev11) ?_
        refine ex_iload_n (pc := 25) 2 dX6_behind_25 rfl rfl ?_
        refine ex_iconst (pc := 26) 1 dX6_behind_26 rfl ?_
        refine ex_isub (pc := 27) dX6_behind_27 ?_
        by_cases c12 : v11 = (x2 - 1)
        · rw [if_pos c12] at h
          refine ex_icmp_ne_f (pc := 28) dX6_behind_28 37 rfl c12 ?_
          refine ex_iload_n (pc := 31) 1 dX6_behind_31 rfl rfl ?_
          refine ex_iconst (pc := 32) 1 dX6_behind_32 rfl ?_
          refine ex_iadd (pc := 33) dX6_behind_33 ?_
          refine ex_goto (pc := 34) 38 dX6_behind_34 rfl ?_
          cases h
          exact ex_ireturn (pc := 38) dX6_behind_38
        · rw [if_neg c12] at h
          refine ex_icmp_ne_t (pc := 28) 37 dX6_behind_28 rfl c12 ?_
          refine ex_iconst (pc := 37) (-1) dX6_behind_37 rfl ?_
          cases h
          exact ex_ireturn (pc := 38) dX6_behind_38
  · rw [if_neg c2] at h
    refine ex_if_gt_f (pc := 1) dX6_behind_1 6 rfl c2 ?_
    refine ex_iload_n (pc := 4) 1 dX6_behind_4 rfl rfl ?_
    cases h
    exact ex_ireturn (pc := 5) dX6_behind_5
noncomputable def f_X6_behind (x0 : Nat) (x1 : Int32) (x2 : Int32) (M : Mem) : Option (Int32) := f_X6_behind_0 x0 x1 x2 M
set_option maxHeartbeats 4000000 in
theorem s_X6_behind {X : XV} {d : Nat} (hd : 3 ≤ d) {x0 : Nat} {x1 : Int32} {x2 : Int32} {M : Mem} {res : Int32} (h : f_X6_behind x0 x1 x2 M = some res) : Mx X d mX6_behind [.ref x0, .int x1, .int x2] M (some (.int res)) M := by
  obtain ⟨d, rfl⟩ : ∃ e, d = e + 1 := ⟨d - 1, by omega⟩
  unfold f_X6_behind at h
  refine Mx.of (by decide) (Nat.le_of_ble_eq_true rfl) (⟨_, rfl, rfl⟩) ?_
  exact ex_sub (lo' := [(0, .ref x0), (1, .int x1), (2, .int x2)]) [0, 1, 2] rfl (t_X6_behind_0 hd _ _ _ _ _  h)
noncomputable def f_X6_spread_0 (x0 : Nat) (x1 : Int32) (x2 : Int32) (x3 : Int32) (M : Mem) : Option (Mem) :=
  (f_X10_within x2 0 12).bind fun v1 =>
  if v1 = false then
  (some M)
  else
  ((gR M 6 x0 2).bind fun v3 =>
  (rI M v3 x2).bind fun v4 =>
  (gR M 6 x0 1).bind fun v5 =>
  (rI M v5 x1).bind fun v6 =>
  (wI M v3 x2 (v4 + (v6 * x3))).bind fun q7 =>
  some q7)
set_option maxHeartbeats 4000000 in
theorem t_X6_spread_0 {X : XV} {d : Nat} (hd : 2 ≤ d + 1) : ∀ (x0 : Nat) (x1 : Int32) (x2 : Int32) (x3 : Int32) (M : Mem) (res : Mem), f_X6_spread_0  x0 x1 x2 x3 M = some res → Ex X (d + 1) mX6_spread 0 [(0, .ref x0), (1, .int x1), (2, .int x2), (3, .int x3)] [] M none res := by
  intro x0 x1 x2 x3 M res  h
  unfold f_X6_spread_0 at h
  refine ex_iload_n (pc := 0) 2 dX6_spread_0 rfl rfl ?_
  refine ex_iconst (pc := 1) 0 dX6_spread_1 rfl ?_
  refine ex_bipush (pc := 2) 12 dX6_spread_2 (by decide) ?_
  obtain ⟨v1, ev1, h⟩ := ob_some h
  refine ex_callSN3r (pc := 4) dX6_spread_4 jX10_within lnX6_77 jsX10_within (Nat.le_of_ble_eq_true rfl) (s_X10_within (by omega)  ev1) ?_
  by_cases c2 : v1 = false
  · rw [if_pos c2] at h
    refine ex_if_eq_t (pc := 7) 27 dX6_spread_7 rfl (jz_eq_t c2) ?_
    cases h
    exact ex_return (pc := 27) dX6_spread_27
  · rw [if_neg c2] at h
    refine ex_if_eq_f (pc := 7) dX6_spread_7 27 rfl (jz_eq_f c2) ?_
    refine ex_aload_n (pc := 10) 0 dX6_spread_10 rfl rfl ?_
    obtain ⟨v3, ev3, h⟩ := ob_some h
    refine ex_gR (pc := 11) ev3 dX6_spread_11 lfX6_24 ?_
    refine ex_iload_n (pc := 14) 2 dX6_spread_14 rfl rfl ?_
    refine ex_dup2 (pc := 15) dX6_spread_15 rfl rfl ?_
    obtain ⟨v4, ev4, h⟩ := ob_some h
    refine ex_rI (pc := 16) ev4 dX6_spread_16 ?_
    refine ex_aload_n (pc := 17) 0 dX6_spread_17 rfl rfl ?_
    obtain ⟨v5, ev5, h⟩ := ob_some h
    refine ex_gR (pc := 18) ev5 dX6_spread_18 lfX6_20 ?_
    refine ex_iload_n (pc := 21) 1 dX6_spread_21 rfl rfl ?_
    obtain ⟨v6, ev6, h⟩ := ob_some h
    refine ex_rI (pc := 22) ev6 dX6_spread_22 ?_
    refine ex_iload_n (pc := 23) 3 dX6_spread_23 rfl rfl ?_
    refine ex_imul (pc := 24) dX6_spread_24 ?_
    refine ex_iadd (pc := 25) dX6_spread_25 ?_
    obtain ⟨q7, eq7, h⟩ := ob_some h
    refine ex_wI (pc := 26) eq7 dX6_spread_26 ?_
    cases h
    exact ex_return (pc := 27) dX6_spread_27
noncomputable def f_X6_spread (x0 : Nat) (x1 : Int32) (x2 : Int32) (x3 : Int32) (M : Mem) : Option (Mem) := if isOb M 6 x0 = true then f_X6_spread_0 x0 x1 x2 x3 M else none
theorem o_X6_spread {x0 : Nat} {x1 : Int32} {x2 : Int32} {x3 : Int32} {M : Mem} {res : Mem} (h : f_X6_spread x0 x1 x2 x3 M = some res) : isO M 6 x0 := by
  unfold f_X6_spread at h
  split at h
  · rename_i hc; exact isOb_iff hc
  · cases h
set_option maxHeartbeats 4000000 in
theorem s_X6_spread {X : XV} {d : Nat} (hd : 2 ≤ d) {x0 : Nat} {x1 : Int32} {x2 : Int32} {x3 : Int32} {M : Mem} {res : Mem} (h : f_X6_spread x0 x1 x2 x3 M = some res) : Mx X d mX6_spread [.ref x0, .int x1, .int x2, .int x3] M none res := by
  obtain ⟨d, rfl⟩ : ∃ e, d = e + 1 := ⟨d - 1, by omega⟩
  unfold f_X6_spread at h
  split at h
  rotate_left
  · cases h
  refine Mx.of (by decide) (Nat.le_of_ble_eq_true rfl) (rfl) ?_
  exact ex_sub (lo' := [(0, .ref x0), (1, .int x1), (2, .int x2), (3, .int x3)]) [0, 1, 2, 3] rfl (t_X6_spread_0 hd _ _ _ _ _ _  h)
noncomputable def f_X6_weigh_114 (k24 : Nat → Int32 → Nat → Nat → Int32 → Int32 → Int32 → Int32 → Mem → Option (Int32 × Mem)) (x0 : Nat) (x1 : Int32) (x2 : Nat) (x3 : Nat) (x4 : Int32) (x5 : Int32) (x6 : Int32) (x7 : Int32) (M : Mem) : Option (Int32 × Mem) :=
  (gR M 6 x0 2).bind fun v1 =>
  (gR M 6 x0 1).bind fun v2 =>
  (gR M 6 x0 1).bind fun v3 =>
  (lnA M v3).bind fun v4 =>
  (cpI M v1 0 v2 0 v4).bind fun q5 =>
  k24 x0 x1 x2 x3 x4 x5 x6 (x7 + 1) q5
set_option maxHeartbeats 4000000 in
theorem t_X6_weigh_114 {X : XV} {d : Nat} (hd : 4 ≤ d + 1) {k24 : Nat → Int32 → Nat → Nat → Int32 → Int32 → Int32 → Int32 → Mem → Option (Int32 × Mem)} (hk24 : ∀ (x0 : Nat) (x1 : Int32) (x2 : Nat) (x3 : Nat) (x4 : Int32) (x5 : Int32) (x6 : Int32) (x7 : Int32) (M : Mem) (res : Int32 × Mem), k24 x0 x1 x2 x3 x4 x5 x6 x7 M = some res → Ex X (d + 1) mX6_weigh 24 [(0, .ref x0), (1, .int x1), (2, .ref x2), (3, .ref x3), (4, .int x4), (5, .int x5), (6, .int x6), (7, .int x7)] [] M (some (.int res.1)) res.2) : ∀ (x0 : Nat) (x1 : Int32) (x2 : Nat) (x3 : Nat) (x4 : Int32) (x5 : Int32) (x6 : Int32) (x7 : Int32) (M : Mem) (res : Int32 × Mem), f_X6_weigh_114 k24 x0 x1 x2 x3 x4 x5 x6 x7 M = some res → Ex X (d + 1) mX6_weigh 114 [(0, .ref x0), (1, .int x1), (2, .ref x2), (3, .ref x3), (4, .int x4), (5, .int x5), (6, .int x6), (7, .int x7)] [] M (some (.int res.1)) res.2 := by
  intro x0 x1 x2 x3 x4 x5 x6 x7 M res  h
  unfold f_X6_weigh_114 at h
  refine ex_aload_n (pc := 114) 0 dX6_weigh_114 rfl rfl ?_
  obtain ⟨v1, ev1, h⟩ := ob_some h
  refine ex_gR (pc := 115) ev1 dX6_weigh_115 lfX6_24 ?_
  refine ex_iconst (pc := 118) 0 dX6_weigh_118 rfl ?_
  refine ex_aload_n (pc := 119) 0 dX6_weigh_119 rfl rfl ?_
  obtain ⟨v2, ev2, h⟩ := ob_some h
  refine ex_gR (pc := 120) ev2 dX6_weigh_120 lfX6_20 ?_
  refine ex_iconst (pc := 123) 0 dX6_weigh_123 rfl ?_
  refine ex_aload_n (pc := 124) 0 dX6_weigh_124 rfl rfl ?_
  obtain ⟨v3, ev3, h⟩ := ob_some h
  refine ex_gR (pc := 125) ev3 dX6_weigh_125 lfX6_20 ?_
  obtain ⟨v4, ev4, h⟩ := ob_some h
  refine ex_ln (pc := 128) ev4 dX6_weigh_128 ?_
  obtain ⟨q5, eq5, h⟩ := ob_some h
  refine ex_cp (pc := 129) eq5 dX6_weigh_129 lmX6_71 (by omega) (Nat.le_of_ble_eq_true rfl) ?_
  refine ex_iinc (pc := 132) (x7 + 1) 7 [(7, .int (x7 + 1)), (0, .ref x0), (1, .int x1), (2, .ref x2), (3, .ref x3), (4, .int x4), (5, .int x5), (6, .int x6)] dX6_weigh_132 rfl rfl (by decide) rfl ?_
  refine ex_goto (pc := 135) 24 dX6_weigh_135 rfl ?_
  refine ex_sub (lo' := [(0, .ref x0), (1, .int x1), (2, .ref x2), (3, .ref x3), (4, .int x4), (5, .int x5), (6, .int x6), (7, .int (x7 + 1))]) [1, 2, 3, 4, 5, 6, 7, 0] rfl ?_
  exact hk24 _ _ _ _ _ _ _ _ _ _  h
noncomputable def f_X6_weigh_54 (n0 : Nat) (k24 : Nat → Int32 → Nat → Nat → Int32 → Int32 → Int32 → Int32 → Mem → Option (Int32 × Mem)) (x0 : Nat) (x1 : Int32) (x2 : Nat) (x3 : Nat) (x4 : Int32) (x5 : Int32) (x6 : Int32) (x7 : Int32) (x8 : Int32) (x9 : Int32) (M : Mem) : Option (Int32 × Mem) :=
  match n0 with
  | 0 => none
  | n + 1 =>
    (gI M 3 x2 1).bind fun v6 =>
    if v6 < x9 then
    (f_X6_weigh_114 k24 x0 x1 x2 x3 x4 x5 x6 x7 M)
    else
    (if 12 < x9 then
    (f_X6_weigh_114 k24 x0 x1 x2 x3 x4 x5 x6 x7 M)
    else
    ((rI M x3 x8).bind fun v9 =>
    (f_X6_behind x2 x9 v9 M).bind fun v10 =>
    (f_X6_spread x0 x9 v10 x4 M).bind fun q11 =>
    (rI q11 x3 (x8 + 1)).bind fun v12 =>
    (f_X6_behind x2 x9 v12 q11).bind fun v13 =>
    (f_X6_spread x0 x9 v13 x5 q11).bind fun q14 =>
    f_X6_weigh_54 n k24 x0 x1 x2 x3 x4 x5 x6 x7 x8 (x9 + 1) q14))
set_option maxHeartbeats 4000000 in
theorem t_X6_weigh_54 {X : XV} {d : Nat} (hd : 4 ≤ d + 1) {k24 : Nat → Int32 → Nat → Nat → Int32 → Int32 → Int32 → Int32 → Mem → Option (Int32 × Mem)} (hk24 : ∀ (x0 : Nat) (x1 : Int32) (x2 : Nat) (x3 : Nat) (x4 : Int32) (x5 : Int32) (x6 : Int32) (x7 : Int32) (M : Mem) (res : Int32 × Mem), k24 x0 x1 x2 x3 x4 x5 x6 x7 M = some res → Ex X (d + 1) mX6_weigh 24 [(0, .ref x0), (1, .int x1), (2, .ref x2), (3, .ref x3), (4, .int x4), (5, .int x5), (6, .int x6), (7, .int x7)] [] M (some (.int res.1)) res.2) : ∀ (n : Nat) (x0 : Nat) (x1 : Int32) (x2 : Nat) (x3 : Nat) (x4 : Int32) (x5 : Int32) (x6 : Int32) (x7 : Int32) (x8 : Int32) (x9 : Int32) (M : Mem) (res : Int32 × Mem), f_X6_weigh_54 n k24 x0 x1 x2 x3 x4 x5 x6 x7 x8 x9 M = some res → Ex X (d + 1) mX6_weigh 54 [(0, .ref x0), (1, .int x1), (2, .ref x2), (3, .ref x3), (4, .int x4), (5, .int x5), (6, .int x6), (7, .int x7), (8, .int x8), (9, .int x9)] [] M (some (.int res.1)) res.2 := by
  intro n
  induction n with
  | zero =>
    intro x0 x1 x2 x3 x4 x5 x6 x7 x8 x9 M res  h
    unfold f_X6_weigh_54 at h
    cases h
  | succ n ih =>
    intro x0 x1 x2 x3 x4 x5 x6 x7 x8 x9 M res  h
    unfold f_X6_weigh_54 at h
    refine ex_iload (pc := 54) 9 dX6_weigh_54 rfl ?_
    refine ex_aload_n (pc := 56) 2 dX6_weigh_56 rfl rfl ?_
    obtain ⟨v6, ev6, h⟩ := ob_some h
    refine ex_gI (pc := 57) ev6 dX6_weigh_57 lfX6_59 ?_
    by_cases c7 : v6 < x9
    · rw [if_pos c7] at h
      refine ex_icmp_gt_t (pc := 60) 114 dX6_weigh_60 rfl c7 ?_
      refine ex_sub (lo' := [(0, .ref x0), (1, .int x1), (2, .ref x2), (3, .ref x3), (4, .int x4), (5, .int x5), (6, .int x6), (7, .int x7)]) [0, 1, 2, 3, 4, 5, 6, 7] rfl ?_
      exact t_X6_weigh_114 hd hk24 _ _ _ _ _ _ _ _ _ _  h
    · rw [if_neg c7] at h
      refine ex_icmp_gt_f (pc := 60) dX6_weigh_60 114 rfl c7 ?_
      refine ex_iload (pc := 63) 9 dX6_weigh_63 rfl ?_
      refine ex_bipush (pc := 65) 12 dX6_weigh_65 (by decide) ?_
      by_cases c8 : 12 < x9
      · rw [if_pos c8] at h
        refine ex_icmp_gt_t (pc := 67) 114 dX6_weigh_67 rfl c8 ?_
        refine ex_sub (lo' := [(0, .ref x0), (1, .int x1), (2, .ref x2), (3, .ref x3), (4, .int x4), (5, .int x5), (6, .int x6), (7, .int x7)]) [0, 1, 2, 3, 4, 5, 6, 7] rfl ?_
        exact t_X6_weigh_114 hd hk24 _ _ _ _ _ _ _ _ _ _  h
      · rw [if_neg c8] at h
        refine ex_icmp_gt_f (pc := 67) dX6_weigh_67 114 rfl c8 ?_
        refine ex_aload_n (pc := 70) 0 dX6_weigh_70 rfl rfl ?_
        refine ex_iload (pc := 71) 9 dX6_weigh_71 rfl ?_
        refine ex_aload_n (pc := 73) 2 dX6_weigh_73 rfl rfl ?_
        refine ex_iload (pc := 74) 9 dX6_weigh_74 rfl ?_
        refine ex_aload_n (pc := 76) 3 dX6_weigh_76 rfl rfl ?_
        refine ex_iload (pc := 77) 8 dX6_weigh_77 rfl ?_
        obtain ⟨v9, ev9, h⟩ := ob_some h
        refine ex_rI (pc := 79) ev9 dX6_weigh_79 ?_
        obtain ⟨v10, ev10, h⟩ := ob_some h
        refine ex_callS3r (pc := 80) dX6_weigh_80 jX6_behind lmX6_63 jsX6_behind (Nat.le_of_ble_eq_true rfl) (s_X6_behind (by omega)  ev10) ?_
        refine ex_iload (pc := 83) 4 dX6_weigh_83 rfl ?_
        obtain ⟨q11, eq11, h⟩ := ob_some h
        refine ex_callV3v (pc := 85) dX6_weigh_85 jX6_spread lmX6_67 jiX6_spread jvX6_spread (o_X6_spread eq11) rfl (Nat.le_of_ble_eq_true rfl) (s_X6_spread (by omega)  eq11) ?_
        refine ex_aload_n (pc := 88) 0 dX6_weigh_88 rfl rfl ?_
        refine ex_iload (pc := 89) 9 dX6_weigh_89 rfl ?_
        refine ex_aload_n (pc := 91) 2 dX6_weigh_91 rfl rfl ?_
        refine ex_iload (pc := 92) 9 dX6_weigh_92 rfl ?_
        refine ex_aload_n (pc := 94) 3 dX6_weigh_94 rfl rfl ?_
        refine ex_iload (pc := 95) 8 dX6_weigh_95 rfl ?_
        refine ex_iconst (pc := 97) 1 dX6_weigh_97 rfl ?_
        refine ex_iadd (pc := 98) dX6_weigh_98 ?_
        obtain ⟨v12, ev12, h⟩ := ob_some h
        refine ex_rI (pc := 99) ev12 dX6_weigh_99 ?_
        obtain ⟨v13, ev13, h⟩ := ob_some h
        refine ex_callS3r (pc := 100) dX6_weigh_100 jX6_behind lmX6_63 jsX6_behind (Nat.le_of_ble_eq_true rfl) (s_X6_behind (by omega)  ev13) ?_
        refine ex_iload (pc := 103) 5 dX6_weigh_103 rfl ?_
        obtain ⟨q14, eq14, h⟩ := ob_some h
        refine ex_callV3v (pc := 105) dX6_weigh_105 jX6_spread lmX6_67 jiX6_spread jvX6_spread (o_X6_spread eq14) rfl (Nat.le_of_ble_eq_true rfl) (s_X6_spread (by omega)  eq14) ?_
        refine ex_iinc (pc := 108) (x9 + 1) 9 [(9, .int (x9 + 1)), (0, .ref x0), (1, .int x1), (2, .ref x2), (3, .ref x3), (4, .int x4), (5, .int x5), (6, .int x6), (7, .int x7), (8, .int x8)] dX6_weigh_108 rfl rfl (by decide) rfl ?_
        refine ex_goto (pc := 111) 54 dX6_weigh_111 rfl ?_
        refine ex_sub (lo' := [(0, .ref x0), (1, .int x1), (2, .ref x2), (3, .ref x3), (4, .int x4), (5, .int x5), (6, .int x6), (7, .int x7), (8, .int x8), (9, .int (x9 + 1))]) [1, 2, 3, 4, 5, 6, 7, 8, 9, 0] rfl ?_
        exact ih _ _ _ _ _ _ _ _ _ _ _ _  h
noncomputable def f_X6_weigh_24 (n0 : Nat) (x0 : Nat) (x1 : Int32) (x2 : Nat) (x3 : Nat) (x4 : Int32) (x5 : Int32) (x6 : Int32) (x7 : Int32) (M : Mem) : Option (Int32 × Mem) :=
  match n0 with
  | 0 => none
  | n + 1 =>
    if x6 ≤ x7 then
    ((gI M 3 x2 1).bind fun v16 =>
    (f_X10_within v16 0 12).bind fun v17 =>
    if v17 = false then
    (some (0, M))
    else
    ((gR M 6 x0 1).bind fun v19 =>
    (gI M 3 x2 1).bind fun v20 =>
    (rI M v19 v20).bind fun v21 =>
    some (v21, M)))
    else
    ((f_X10_digitAt x1 x7).bind fun v22 =>
    (f_X10_ruleIndex v22 false).bind fun v23 =>
    (gR M 6 x0 2).bind fun v24 =>
    (f_J7_fill_53178 v24 0 M).bind fun q25 =>
    f_X6_weigh_54 fu (f_X6_weigh_24 n) x0 x1 x2 x3 x4 x5 x6 x7 v23 0 q25)
set_option maxHeartbeats 4000000 in
theorem t_X6_weigh_24 {X : XV} {d : Nat} (hd : 4 ≤ d + 1) : ∀ (n : Nat) (x0 : Nat) (x1 : Int32) (x2 : Nat) (x3 : Nat) (x4 : Int32) (x5 : Int32) (x6 : Int32) (x7 : Int32) (M : Mem) (res : Int32 × Mem), f_X6_weigh_24 n  x0 x1 x2 x3 x4 x5 x6 x7 M = some res → Ex X (d + 1) mX6_weigh 24 [(0, .ref x0), (1, .int x1), (2, .ref x2), (3, .ref x3), (4, .int x4), (5, .int x5), (6, .int x6), (7, .int x7)] [] M (some (.int res.1)) res.2 := by
  intro n
  induction n with
  | zero =>
    intro x0 x1 x2 x3 x4 x5 x6 x7 M res  h
    unfold f_X6_weigh_24 at h
    cases h
  | succ n ih =>
    intro x0 x1 x2 x3 x4 x5 x6 x7 M res  h
    unfold f_X6_weigh_24 at h
    refine ex_iload (pc := 24) 7 dX6_weigh_24 rfl ?_
    refine ex_iload (pc := 26) 6 dX6_weigh_26 rfl ?_
    by_cases c15 : x6 ≤ x7
    · rw [if_pos c15] at h
      refine ex_icmp_ge_t (pc := 28) 138 dX6_weigh_28 rfl c15 ?_
      refine ex_aload_n (pc := 138) 2 dX6_weigh_138 rfl rfl ?_
      obtain ⟨v16, ev16, h⟩ := ob_some h
      refine ex_gI (pc := 139) ev16 dX6_weigh_139 lfX6_59 ?_
      refine ex_iconst (pc := 142) 0 dX6_weigh_142 rfl ?_
      refine ex_bipush (pc := 143) 12 dX6_weigh_143 (by decide) ?_
      obtain ⟨v17, ev17, h⟩ := ob_some h
      refine ex_callSN3r (pc := 145) dX6_weigh_145 jX10_within lnX6_77 jsX10_within (Nat.le_of_ble_eq_true rfl) (s_X10_within (by omega)  ev17) ?_
      by_cases c18 : v17 = false
      · rw [if_pos c18] at h
        refine ex_if_eq_t (pc := 148) 163 dX6_weigh_148 rfl (jz_eq_t c18) ?_
        refine ex_iconst (pc := 163) 0 dX6_weigh_163 rfl ?_
        cases h
        exact ex_ireturn (pc := 164) dX6_weigh_164
      · rw [if_neg c18] at h
        refine ex_if_eq_f (pc := 148) dX6_weigh_148 163 rfl (jz_eq_f c18) ?_
        refine ex_aload_n (pc := 151) 0 dX6_weigh_151 rfl rfl ?_
        obtain ⟨v19, ev19, h⟩ := ob_some h
        refine ex_gR (pc := 152) ev19 dX6_weigh_152 lfX6_20 ?_
        refine ex_aload_n (pc := 155) 2 dX6_weigh_155 rfl rfl ?_
        obtain ⟨v20, ev20, h⟩ := ob_some h
        refine ex_gI (pc := 156) ev20 dX6_weigh_156 lfX6_59 ?_
        obtain ⟨v21, ev21, h⟩ := ob_some h
        refine ex_rI (pc := 159) ev21 dX6_weigh_159 ?_
        refine ex_goto (pc := 160) 164 dX6_weigh_160 rfl ?_
        cases h
        exact ex_ireturn (pc := 164) dX6_weigh_164
    · rw [if_neg c15] at h
      refine ex_icmp_ge_f (pc := 28) dX6_weigh_28 138 rfl c15 ?_
      refine ex_iload_n (pc := 31) 1 dX6_weigh_31 rfl rfl ?_
      refine ex_iload (pc := 32) 7 dX6_weigh_32 rfl ?_
      obtain ⟨v22, ev22, h⟩ := ob_some h
      refine ex_callSN2r (pc := 34) dX6_weigh_34 jX10_digitAt lnX6_51 jsX10_digitAt (Nat.le_of_ble_eq_true rfl) (s_X10_digitAt (by omega)  ev22) ?_
      refine ex_iconst (pc := 37) 0 dX6_weigh_37 rfl ?_
      obtain ⟨v23, ev23, h⟩ := ob_some h
      refine ex_callSN2r (pc := 38) dX6_weigh_38 jX10_ruleIndex lnX6_55 jsX10_ruleIndex (Nat.le_of_ble_eq_true rfl) (s_X10_ruleIndex (by omega)  ev23) ?_
      refine ex_istore (pc := 41) [(8, .int v23), (0, .ref x0), (1, .int x1), (2, .ref x2), (3, .ref x3), (4, .int x4), (5, .int x5), (6, .int x6), (7, .int x7)] dX6_weigh_41 (by decide) rfl ?_
      refine ex_aload_n (pc := 43) 1 dX6_weigh_43 rfl rfl ?_
      obtain ⟨v24, ev24, h⟩ := ob_some h
      refine ex_gR (pc := 44) ev24 dX6_weigh_44 lfX6_24 ?_
      refine ex_iconst (pc := 47) 0 dX6_weigh_47 rfl ?_
      obtain ⟨q25, eq25, h⟩ := ob_some h
      refine ex_callS2v (pc := 48) dX6_weigh_48 jJ7_fill_53178 lmX6_41 jsJ7_fill_53178 (Nat.le_of_ble_eq_true rfl) (s_J7_fill_53178 (by omega)  eq25) ?_
      refine ex_iconst (pc := 51) 0 dX6_weigh_51 rfl ?_
      refine ex_istore (pc := 52) [(9, .int 0), (8, .int v23), (0, .ref x0), (1, .int x1), (2, .ref x2), (3, .ref x3), (4, .int x4), (5, .int x5), (6, .int x6), (7, .int x7)] dX6_weigh_52 (by decide) rfl ?_
      refine ex_sub (lo' := [(0, .ref x0), (1, .int x1), (2, .ref x2), (3, .ref x3), (4, .int x4), (5, .int x5), (6, .int x6), (7, .int x7), (8, .int v23), (9, .int 0)]) [2, 3, 4, 5, 6, 7, 8, 9, 1, 0] rfl ?_
      exact t_X6_weigh_54 hd ih _ _ _ _ _ _ _ _ _ _ _ _ _  h
noncomputable def f_X6_weigh_0 (x0 : Nat) (x1 : Int32) (x2 : Nat) (x3 : Nat) (x4 : Int32) (x5 : Int32) (M : Mem) : Option (Int32 × Mem) :=
  (gR M 6 x0 1).bind fun v26 =>
  (f_J7_fill_53178 v26 0 M).bind fun q27 =>
  (gR q27 6 x0 1).bind fun v28 =>
  (wI q27 v28 0 1).bind fun q29 =>
  (f_X10_digitCount x1).bind fun v30 =>
  f_X6_weigh_24 fu x0 x1 x2 x3 x4 x5 v30 0 q29
set_option maxHeartbeats 4000000 in
theorem t_X6_weigh_0 {X : XV} {d : Nat} (hd : 4 ≤ d + 1) : ∀ (x0 : Nat) (x1 : Int32) (x2 : Nat) (x3 : Nat) (x4 : Int32) (x5 : Int32) (M : Mem) (res : Int32 × Mem), f_X6_weigh_0  x0 x1 x2 x3 x4 x5 M = some res → Ex X (d + 1) mX6_weigh 0 [(0, .ref x0), (1, .int x1), (2, .ref x2), (3, .ref x3), (4, .int x4), (5, .int x5)] [] M (some (.int res.1)) res.2 := by
  intro x0 x1 x2 x3 x4 x5 M res  h
  unfold f_X6_weigh_0 at h
  refine ex_aload_n (pc := 0) 0 dX6_weigh_0 rfl rfl ?_
  obtain ⟨v26, ev26, h⟩ := ob_some h
  refine ex_gR (pc := 1) ev26 dX6_weigh_1 lfX6_20 ?_
  refine ex_iconst (pc := 4) 0 dX6_weigh_4 rfl ?_
  obtain ⟨q27, eq27, h⟩ := ob_some h
  refine ex_callS2v (pc := 5) dX6_weigh_5 jJ7_fill_53178 lmX6_41 jsJ7_fill_53178 (Nat.le_of_ble_eq_true rfl) (s_J7_fill_53178 (by omega)  eq27) ?_
  refine ex_aload_n (pc := 8) 0 dX6_weigh_8 rfl rfl ?_
  obtain ⟨v28, ev28, h⟩ := ob_some h
  refine ex_gR (pc := 9) ev28 dX6_weigh_9 lfX6_20 ?_
  refine ex_iconst (pc := 12) 0 dX6_weigh_12 rfl ?_
  refine ex_iconst (pc := 13) 1 dX6_weigh_13 rfl ?_
  obtain ⟨q29, eq29, h⟩ := ob_some h
  refine ex_wI (pc := 14) eq29 dX6_weigh_14 ?_
  refine ex_iload_n (pc := 15) 1 dX6_weigh_15 rfl rfl ?_
  obtain ⟨v30, ev30, h⟩ := ob_some h
  refine ex_callSN1r (pc := 16) dX6_weigh_16 jX10_digitCount lnX6_47 jsX10_digitCount (Nat.le_of_ble_eq_true rfl) (s_X10_digitCount (by omega)  ev30) ?_
  refine ex_istore (pc := 19) [(6, .int v30), (0, .ref x0), (1, .int x1), (2, .ref x2), (3, .ref x3), (4, .int x4), (5, .int x5)] dX6_weigh_19 (by decide) rfl ?_
  refine ex_iconst (pc := 21) 0 dX6_weigh_21 rfl ?_
  refine ex_istore (pc := 22) [(7, .int 0), (6, .int v30), (0, .ref x0), (1, .int x1), (2, .ref x2), (3, .ref x3), (4, .int x4), (5, .int x5)] dX6_weigh_22 (by decide) rfl ?_
  refine ex_sub (lo' := [(0, .ref x0), (1, .int x1), (2, .ref x2), (3, .ref x3), (4, .int x4), (5, .int x5), (6, .int v30), (7, .int 0)]) [2, 3, 4, 5, 6, 7, 1, 0] rfl ?_
  exact t_X6_weigh_24 hd  _ _ _ _ _ _ _ _ _ _ _  h
noncomputable def f_X6_weigh (x0 : Nat) (x1 : Int32) (x2 : Nat) (x3 : Nat) (x4 : Int32) (x5 : Int32) (M : Mem) : Option (Int32 × Mem) := if isOb M 6 x0 = true then f_X6_weigh_0 x0 x1 x2 x3 x4 x5 M else none
theorem o_X6_weigh {x0 : Nat} {x1 : Int32} {x2 : Nat} {x3 : Nat} {x4 : Int32} {x5 : Int32} {M : Mem} {res : Int32 × Mem} (h : f_X6_weigh x0 x1 x2 x3 x4 x5 M = some res) : isO M 6 x0 := by
  unfold f_X6_weigh at h
  split at h
  · rename_i hc; exact isOb_iff hc
  · cases h
set_option maxHeartbeats 4000000 in
theorem s_X6_weigh {X : XV} {d : Nat} (hd : 4 ≤ d) {x0 : Nat} {x1 : Int32} {x2 : Nat} {x3 : Nat} {x4 : Int32} {x5 : Int32} {M : Mem} {res : Int32 × Mem} (h : f_X6_weigh x0 x1 x2 x3 x4 x5 M = some res) : Mx X d mX6_weigh [.ref x0, .int x1, .ref x2, .ref x3, .int x4, .int x5] M (some (.int res.1)) res.2 := by
  obtain ⟨d, rfl⟩ : ∃ e, d = e + 1 := ⟨d - 1, by omega⟩
  unfold f_X6_weigh at h
  split at h
  rotate_left
  · cases h
  refine Mx.of (by decide) (Nat.le_of_ble_eq_true rfl) (⟨_, rfl, rfl⟩) ?_
  exact ex_sub (lo' := [(0, .ref x0), (1, .int x1), (2, .ref x2), (3, .ref x3), (4, .int x4), (5, .int x5)]) [0, 1, 2, 3, 4, 5] rfl (t_X6_weigh_0 hd _ _ _ _ _ _ _ _  h)
noncomputable def f_X6_chance_22 (n0 : Nat) (x5 : Int32) (x6 : Int32) (M : Mem) : Option (Int32 × Mem) :=
  match n0 with
  | 0 => none
  | n + 1 =>
    if 4 ≤ x6 then
    (some (x5, M))
    else
    (f_X6_chance_22 n (x5 * 10) (x6 + 1) M)
set_option maxHeartbeats 4000000 in
theorem t_X6_chance_22 {X : XV} {d : Nat} (hd : 5 ≤ d + 1) : ∀ (n : Nat) (x5 : Int32) (x6 : Int32) (M : Mem) (res : Int32 × Mem), f_X6_chance_22 n  x5 x6 M = some res → Ex X (d + 1) mX6_chance 22 [(5, .int x5), (6, .int x6)] [] M (some (.int res.1)) res.2 := by
  intro n
  induction n with
  | zero =>
    intro x5 x6 M res  h
    unfold f_X6_chance_22 at h
    cases h
  | succ n ih =>
    intro x5 x6 M res  h
    unfold f_X6_chance_22 at h
    refine ex_iload (pc := 22) 1 dX6_chance_22 rfl ?_
    refine ex_iconst (pc := 24) 4 dX6_chance_24 rfl ?_
    by_cases c1 : 4 ≤ x6
    · rw [if_pos c1] at h
      refine ex_icmp_ge_t (pc := 25) 41 dX6_chance_25 rfl c1 ?_
      refine ex_iload (pc := 41) 0 dX6_chance_41 rfl ?_
      cases h
      exact ex_ireturn (pc := 43) dX6_chance_43
    · rw [if_neg c1] at h
      refine ex_icmp_ge_f (pc := 25) dX6_chance_25 41 rfl c1 ?_
      refine ex_iload (pc := 28) 0 dX6_chance_28 rfl ?_
      refine ex_bipush (pc := 30) 10 dX6_chance_30 (by decide) ?_
      refine ex_imul (pc := 32) dX6_chance_32 ?_
      refine ex_istore (pc := 33) [(5, .int (x5 * 10)), (6, .int x6)] dX6_chance_33 (by decide) rfl ?_
      refine ex_iinc (pc := 35) (x6 + 1) 1 [(6, .int (x6 + 1)), (5, .int (x5 * 10))] dX6_chance_35 rfl rfl (by decide) rfl ?_
      refine ex_goto (pc := 38) 22 dX6_chance_38 rfl ?_
      refine ex_sub (lo' := [(5, .int (x5 * 10)), (6, .int (x6 + 1))]) [1, 0] rfl ?_
      exact ih _ _ _ _  h
noncomputable def f_X6_chance_0 (x0 : Nat) (x1 : Int32) (x2 : Nat) (x3 : Nat) (x4 : Int32) (M : Mem) : Option (Int32 × Mem) :=
  (f_X6_weigh x0 x1 x2 x3 (10 - x4) x4 M).bind fun q2 =>
  (f_X10_digitCount x1).bind fun v3 =>
  f_X6_chance_22 fu q2.1 v3 q2.2
set_option maxHeartbeats 4000000 in
theorem t_X6_chance_0 {X : XV} {d : Nat} (hd : 5 ≤ d + 1) : ∀ (x0 : Nat) (x1 : Int32) (x2 : Nat) (x3 : Nat) (x4 : Int32) (M : Mem) (res : Int32 × Mem), f_X6_chance_0  x0 x1 x2 x3 x4 M = some res → Ex X (d + 1) mX6_chance 0 [(0, .ref x0), (1, .int x1), (2, .ref x2), (3, .ref x3), (4, .int x4)] [] M (some (.int res.1)) res.2 := by
  intro x0 x1 x2 x3 x4 M res  h
  unfold f_X6_chance_0 at h
  refine ex_aload_n (pc := 0) 0 dX6_chance_0 rfl rfl ?_
  refine ex_iload_n (pc := 1) 1 dX6_chance_1 rfl rfl ?_
  refine ex_aload_n (pc := 2) 2 dX6_chance_2 rfl rfl ?_
  refine ex_aload_n (pc := 3) 3 dX6_chance_3 rfl rfl ?_
  refine ex_bipush (pc := 4) 10 dX6_chance_4 (by decide) ?_
  refine ex_iload (pc := 6) 4 dX6_chance_6 rfl ?_
  refine ex_isub (pc := 8) dX6_chance_8 ?_
  refine ex_iload (pc := 9) 4 dX6_chance_9 rfl ?_
  obtain ⟨q2, eq2, h⟩ := ob_some h
  refine ex_callV5r (pc := 11) dX6_chance_11 jX6_weigh lmX6_81 jiX6_weigh jvX6_weigh (o_X6_weigh eq2) rfl (Nat.le_of_ble_eq_true rfl) (s_X6_weigh (by omega)  eq2) ?_
  refine ex_istore (pc := 14) [(5, .int q2.1), (0, .ref x0), (1, .int x1), (2, .ref x2), (3, .ref x3), (4, .int x4)] dX6_chance_14 (by decide) rfl ?_
  refine ex_iload_n (pc := 16) 2 dX6_chance_16 rfl rfl ?_
  obtain ⟨v3, ev3, h⟩ := ob_some h
  refine ex_callSN1r (pc := 17) dX6_chance_17 jX10_digitCount lnX6_47 jsX10_digitCount (Nat.le_of_ble_eq_true rfl) (s_X10_digitCount (by omega)  ev3) ?_
  refine ex_istore (pc := 20) [(6, .int v3), (5, .int q2.1), (0, .ref x0), (1, .int x1), (2, .ref x2), (3, .ref x3), (4, .int x4)] dX6_chance_20 (by decide) rfl ?_
  refine ex_sub (lo' := [(5, .int q2.1), (6, .int v3)]) [1, 0] rfl ?_
  exact t_X6_chance_22 hd  _ _ _ _ _  h
noncomputable def f_X6_chance (x0 : Nat) (x1 : Int32) (x2 : Nat) (x3 : Nat) (x4 : Int32) (M : Mem) : Option (Int32 × Mem) := if isOb M 6 x0 = true then f_X6_chance_0 x0 x1 x2 x3 x4 M else none
theorem o_X6_chance {x0 : Nat} {x1 : Int32} {x2 : Nat} {x3 : Nat} {x4 : Int32} {M : Mem} {res : Int32 × Mem} (h : f_X6_chance x0 x1 x2 x3 x4 M = some res) : isO M 6 x0 := by
  unfold f_X6_chance at h
  split at h
  · rename_i hc; exact isOb_iff hc
  · cases h
set_option maxHeartbeats 4000000 in
theorem s_X6_chance {X : XV} {d : Nat} (hd : 5 ≤ d) {x0 : Nat} {x1 : Int32} {x2 : Nat} {x3 : Nat} {x4 : Int32} {M : Mem} {res : Int32 × Mem} (h : f_X6_chance x0 x1 x2 x3 x4 M = some res) : Mx X d mX6_chance [.ref x0, .int x1, .ref x2, .ref x3, .int x4] M (some (.int res.1)) res.2 := by
  obtain ⟨d, rfl⟩ : ∃ e, d = e + 1 := ⟨d - 1, by omega⟩
  unfold f_X6_chance at h
  split at h
  rotate_left
  · cases h
  refine Mx.of (by decide) (Nat.le_of_ble_eq_true rfl) (⟨_, rfl, rfl⟩) ?_
  exact ex_sub (lo' := [(0, .ref x0), (1, .int x1), (2, .ref x2), (3, .ref x3), (4, .int x4)]) [0, 1, 2, 3, 4] rfl (t_X6_chance_0 hd _ _ _ _ _ _ _  h)
noncomputable def f_X6_onwardFrom_44 (x6 : Int32) (s0 : Int32) (M : Mem) : Option (Int32) :=
  if 0 ≤ x6 then
  (some (s0 ||| (jshl 1 x6)))
  else
  (some (s0 ||| 0))
set_option maxHeartbeats 4000000 in
theorem t_X6_onwardFrom_44 {X : XV} {d : Nat} (hd : 4 ≤ d + 1) : ∀ (x6 : Int32) (s0 : Int32) (M : Mem) (res : Int32), f_X6_onwardFrom_44  x6 s0 M = some res → Ex X (d + 1) mX6_onwardFrom 44 [(6, .int x6)] [.int s0] M (some (.int res)) M := by
  intro x6 s0 M res  h
  unfold f_X6_onwardFrom_44 at h
  refine ex_iload (pc := 44) 0 dX6_onwardFrom_44 rfl ?_
  by_cases c1 : 0 ≤ x6
  · rw [if_pos c1] at h
    refine ex_if_ge_t (pc := 46) 53 dX6_onwardFrom_46 rfl c1 ?_
    refine ex_iconst (pc := 53) 1 dX6_onwardFrom_53 rfl ?_
    refine ex_iload (pc := 54) 0 dX6_onwardFrom_54 rfl ?_
    refine ex_ishl (pc := 56) dX6_onwardFrom_56 ?_
    refine ex_ior (pc := 57) dX6_onwardFrom_57 ?_
    cases h
    exact ex_ireturn (pc := 58) dX6_onwardFrom_58
  · rw [if_neg c1] at h
    refine ex_if_ge_f (pc := 46) dX6_onwardFrom_46 53 rfl c1 ?_
    refine ex_iconst (pc := 49) 0 dX6_onwardFrom_49 rfl ?_
    refine ex_goto (pc := 50) 57 dX6_onwardFrom_50 rfl ?_
    refine ex_ior (pc := 57) dX6_onwardFrom_57 ?_
    cases h
    exact ex_ireturn (pc := 58) dX6_onwardFrom_58
noncomputable def f_X6_onwardFrom_0 (x0 : Int32) (x1 : Int32) (x2 : Nat) (x3 : Nat) (M : Mem) : Option (Int32) :=
  (f_X10_ruleIndex x1 false).bind fun v2 =>
  (rI M x3 v2).bind fun v3 =>
  (f_X6_behind x2 x0 v3 M).bind fun v4 =>
  (rI M x3 (v2 + 1)).bind fun v5 =>
  (f_X6_behind x2 x0 v5 M).bind fun v6 =>
  if 0 ≤ v4 then
  (f_X6_onwardFrom_44 v6 (jshl 1 v4) M)
  else
  (f_X6_onwardFrom_44 v6 0 M)
set_option maxHeartbeats 4000000 in
theorem t_X6_onwardFrom_0 {X : XV} {d : Nat} (hd : 4 ≤ d + 1) : ∀ (x0 : Int32) (x1 : Int32) (x2 : Nat) (x3 : Nat) (M : Mem) (res : Int32), f_X6_onwardFrom_0  x0 x1 x2 x3 M = some res → Ex X (d + 1) mX6_onwardFrom 0 [(0, .int x0), (1, .int x1), (2, .ref x2), (3, .ref x3)] [] M (some (.int res)) M := by
  intro x0 x1 x2 x3 M res  h
  unfold f_X6_onwardFrom_0 at h
  refine ex_iload_n (pc := 0) 1 dX6_onwardFrom_0 rfl rfl ?_
  refine ex_iconst (pc := 1) 0 dX6_onwardFrom_1 rfl ?_
  obtain ⟨v2, ev2, h⟩ := ob_some h
  refine ex_callSN2r (pc := 2) dX6_onwardFrom_2 jX10_ruleIndex lnX6_55 jsX10_ruleIndex (Nat.le_of_ble_eq_true rfl) (s_X10_ruleIndex (by omega)  ev2) ?_
  refine ex_istore (pc := 5) [(4, .int v2), (0, .int x0), (1, .int x1), (2, .ref x2), (3, .ref x3)] dX6_onwardFrom_5 (by decide) rfl ?_
  refine ex_aload_n (pc := 7) 3 dX6_onwardFrom_7 rfl rfl ?_
  refine ex_iload_n (pc := 8) 1 dX6_onwardFrom_8 rfl rfl ?_
  refine ex_aload_n (pc := 9) 4 dX6_onwardFrom_9 rfl rfl ?_
  refine ex_iload (pc := 10) 0 dX6_onwardFrom_10 rfl ?_
  obtain ⟨v3, ev3, h⟩ := ob_some h
  refine ex_rI (pc := 12) ev3 dX6_onwardFrom_12 ?_
  obtain ⟨v4, ev4, h⟩ := ob_some h
  refine ex_callS3r (pc := 13) dX6_onwardFrom_13 jX6_behind lmX6_63 jsX6_behind (Nat.le_of_ble_eq_true rfl) (s_X6_behind (by omega)  ev4) ?_
  refine ex_istore (pc := 16) [(5, .int v4), (4, .int v2), (0, .int x0), (1, .int x1), (2, .ref x2), (3, .ref x3)] dX6_onwardFrom_16 (by decide) rfl ?_
  refine ex_aload_n (pc := 18) 4 dX6_onwardFrom_18 rfl rfl ?_
  refine ex_iload_n (pc := 19) 2 dX6_onwardFrom_19 rfl rfl ?_
  refine ex_aload_n (pc := 20) 5 dX6_onwardFrom_20 rfl rfl ?_
  refine ex_iload (pc := 21) 1 dX6_onwardFrom_21 rfl ?_
  refine ex_iconst (pc := 23) 1 dX6_onwardFrom_23 rfl ?_
  refine ex_iadd (pc := 24) dX6_onwardFrom_24 ?_
  obtain ⟨v5, ev5, h⟩ := ob_some h
  refine ex_rI (pc := 25) ev5 dX6_onwardFrom_25 ?_
  obtain ⟨v6, ev6, h⟩ := ob_some h
  refine ex_callS3r (pc := 26) dX6_onwardFrom_26 jX6_behind lmX6_63 jsX6_behind (Nat.le_of_ble_eq_true rfl) (s_X6_behind (by omega)  ev6) ?_
  refine ex_istore (pc := 29) [(6, .int v6), (5, .int v4), (4, .int v2), (0, .int x0), (1, .int x1), (2, .ref x2), (3, .ref x3)] dX6_onwardFrom_29 (by decide) rfl ?_
  refine ex_iload (pc := 31) 1 dX6_onwardFrom_31 rfl ?_
  by_cases c7 : 0 ≤ v4
  · rw [if_pos c7] at h
    refine ex_if_ge_t (pc := 33) 40 dX6_onwardFrom_33 rfl c7 ?_
    refine ex_iconst (pc := 40) 1 dX6_onwardFrom_40 rfl ?_
    refine ex_iload (pc := 41) 1 dX6_onwardFrom_41 rfl ?_
    refine ex_ishl (pc := 43) dX6_onwardFrom_43 ?_
    refine ex_sub (lo' := [(6, .int v6)]) [0] rfl ?_
    exact t_X6_onwardFrom_44 hd  _ _ _ _  h
  · rw [if_neg c7] at h
    refine ex_if_ge_f (pc := 33) dX6_onwardFrom_33 40 rfl c7 ?_
    refine ex_iconst (pc := 36) 0 dX6_onwardFrom_36 rfl ?_
    refine ex_goto (pc := 37) 44 dX6_onwardFrom_37 rfl ?_
    refine ex_sub (lo' := [(6, .int v6)]) [0] rfl ?_
    exact t_X6_onwardFrom_44 hd  _ _ _ _  h
noncomputable def f_X6_onwardFrom (x0 : Int32) (x1 : Int32) (x2 : Nat) (x3 : Nat) (M : Mem) : Option (Int32) := f_X6_onwardFrom_0 x0 x1 x2 x3 M
set_option maxHeartbeats 4000000 in
theorem s_X6_onwardFrom {X : XV} {d : Nat} (hd : 4 ≤ d) {x0 : Int32} {x1 : Int32} {x2 : Nat} {x3 : Nat} {M : Mem} {res : Int32} (h : f_X6_onwardFrom x0 x1 x2 x3 M = some res) : Mx X d mX6_onwardFrom [.int x0, .int x1, .ref x2, .ref x3] M (some (.int res)) M := by
  obtain ⟨d, rfl⟩ : ∃ e, d = e + 1 := ⟨d - 1, by omega⟩
  unfold f_X6_onwardFrom at h
  refine Mx.of (by decide) (Nat.le_of_ble_eq_true rfl) (⟨_, rfl, rfl⟩) ?_
  exact ex_sub (lo' := [(0, .int x0), (1, .int x1), (2, .ref x2), (3, .ref x3)]) [0, 1, 2, 3] rfl (t_X6_onwardFrom_0 hd _ _ _ _ _ _  h)
noncomputable def f_X6_placesInto_17 (n0 : Nat) (k5 : Int32 → Nat → Nat → Int32 → Int32 → Mem → Option (Int32)) (x0 : Int32) (x1 : Nat) (x2 : Nat) (x3 : Int32) (x4 : Int32) (x5 : Int32) (M : Mem) : Option (Int32) :=
  match n0 with
  | 0 => none
  | n + 1 =>
    if 10 ≤ x5 then
    (k5 x0 x1 x2 x3 (x4 + 1) M)
    else
    ((f_X6_onwardFrom x4 x5 x1 x2 M).bind fun v2 =>
    if (v2 &&& x0) = 0 then
    (f_X6_placesInto_17 n k5 x0 x1 x2 x3 x4 (x5 + 1) M)
    else
    (f_X6_placesInto_17 n k5 x0 x1 x2 (x3 ||| (jshl 1 x4)) x4 (x5 + 1) M))
set_option maxHeartbeats 4000000 in
theorem t_X6_placesInto_17 {X : XV} {d : Nat} (hd : 5 ≤ d + 1) {k5 : Int32 → Nat → Nat → Int32 → Int32 → Mem → Option (Int32)} (hk5 : ∀ (x0 : Int32) (x1 : Nat) (x2 : Nat) (x3 : Int32) (x4 : Int32) (M : Mem) (res : Int32), k5 x0 x1 x2 x3 x4 M = some res → Ex X (d + 1) mX6_placesInto 5 [(0, .int x0), (1, .ref x1), (2, .ref x2), (3, .int x3), (4, .int x4)] [] M (some (.int res)) M) : ∀ (n : Nat) (x0 : Int32) (x1 : Nat) (x2 : Nat) (x3 : Int32) (x4 : Int32) (x5 : Int32) (M : Mem) (res : Int32), f_X6_placesInto_17 n k5 x0 x1 x2 x3 x4 x5 M = some res → Ex X (d + 1) mX6_placesInto 17 [(0, .int x0), (1, .ref x1), (2, .ref x2), (3, .int x3), (4, .int x4), (5, .int x5)] [] M (some (.int res)) M := by
  intro n
  induction n with
  | zero =>
    intro x0 x1 x2 x3 x4 x5 M res  h
    unfold f_X6_placesInto_17 at h
    cases h
  | succ n ih =>
    intro x0 x1 x2 x3 x4 x5 M res  h
    unfold f_X6_placesInto_17 at h
    refine ex_iload (pc := 17) 5 dX6_placesInto_17 rfl ?_
    refine ex_bipush (pc := 19) 10 dX6_placesInto_19 (by decide) ?_
    by_cases c1 : 10 ≤ x5
    · rw [if_pos c1] at h
      refine ex_icmp_ge_t (pc := 21) 51 dX6_placesInto_21 rfl c1 ?_
      refine ex_iinc (pc := 51) (x4 + 1) 4 [(4, .int (x4 + 1)), (0, .int x0), (1, .ref x1), (2, .ref x2), (3, .int x3), (5, .int x5)] dX6_placesInto_51 rfl rfl (by decide) rfl ?_
      refine ex_goto (pc := 54) 5 dX6_placesInto_54 rfl ?_
      refine ex_sub (lo' := [(0, .int x0), (1, .ref x1), (2, .ref x2), (3, .int x3), (4, .int (x4 + 1))]) [1, 2, 3, 4, 0] rfl ?_
      exact hk5 _ _ _ _ _ _ _  h
    · rw [if_neg c1] at h
      refine ex_icmp_ge_f (pc := 21) dX6_placesInto_21 51 rfl c1 ?_
      refine ex_iload (pc := 24) 4 dX6_placesInto_24 rfl ?_
      refine ex_iload (pc := 26) 5 dX6_placesInto_26 rfl ?_
      refine ex_aload_n (pc := 28) 1 dX6_placesInto_28 rfl rfl ?_
      refine ex_aload_n (pc := 29) 2 dX6_placesInto_29 rfl rfl ?_
      obtain ⟨v2, ev2, h⟩ := ob_some h
      refine ex_callS4r (pc := 30) dX6_placesInto_30 jX6_onwardFrom lmX6_103 jsX6_onwardFrom (Nat.le_of_ble_eq_true rfl) (s_X6_onwardFrom (by omega)  ev2) ?_
      refine ex_iload_n (pc := 33) 0 dX6_placesInto_33 rfl rfl ?_
      refine ex_iand (pc := 34) dX6_placesInto_34 ?_
      by_cases c3 : (v2 &&& x0) = 0
      · rw [if_pos c3] at h
        refine ex_if_eq_t (pc := 35) 45 dX6_placesInto_35 rfl c3 ?_
        refine ex_iinc (pc := 45) (x5 + 1) 5 [(5, .int (x5 + 1)), (0, .int x0), (1, .ref x1), (2, .ref x2), (3, .int x3), (4, .int x4)] dX6_placesInto_45 rfl rfl (by decide) rfl ?_
        refine ex_goto (pc := 48) 17 dX6_placesInto_48 rfl ?_
        refine ex_sub (lo' := [(0, .int x0), (1, .ref x1), (2, .ref x2), (3, .int x3), (4, .int x4), (5, .int (x5 + 1))]) [1, 2, 3, 4, 5, 0] rfl ?_
        exact ih _ _ _ _ _ _ _ _  h
      · rw [if_neg c3] at h
        refine ex_if_eq_f (pc := 35) dX6_placesInto_35 45 rfl c3 ?_
        refine ex_iload_n (pc := 38) 3 dX6_placesInto_38 rfl rfl ?_
        refine ex_iconst (pc := 39) 1 dX6_placesInto_39 rfl ?_
        refine ex_iload (pc := 40) 4 dX6_placesInto_40 rfl ?_
        refine ex_ishl (pc := 42) dX6_placesInto_42 ?_
        refine ex_ior (pc := 43) dX6_placesInto_43 ?_
        refine ex_istore_n (pc := 44) [(3, .int (x3 ||| (jshl 1 x4))), (0, .int x0), (1, .ref x1), (2, .ref x2), (4, .int x4), (5, .int x5)] dX6_placesInto_44 rfl (by decide) rfl ?_
        refine ex_iinc (pc := 45) (x5 + 1) 5 [(5, .int (x5 + 1)), (3, .int (x3 ||| (jshl 1 x4))), (0, .int x0), (1, .ref x1), (2, .ref x2), (4, .int x4)] dX6_placesInto_45 rfl rfl (by decide) rfl ?_
        refine ex_goto (pc := 48) 17 dX6_placesInto_48 rfl ?_
        refine ex_sub (lo' := [(0, .int x0), (1, .ref x1), (2, .ref x2), (3, .int (x3 ||| (jshl 1 x4))), (4, .int x4), (5, .int (x5 + 1))]) [2, 3, 4, 1, 5, 0] rfl ?_
        exact ih _ _ _ _ _ _ _ _  h
noncomputable def f_X6_placesInto_5 (n0 : Nat) (x0 : Int32) (x1 : Nat) (x2 : Nat) (x3 : Int32) (x4 : Int32) (M : Mem) : Option (Int32) :=
  match n0 with
  | 0 => none
  | n + 1 =>
    (gI M 3 x1 1).bind fun v4 =>
    if v4 < x4 then
    (some x3)
    else
    (f_X6_placesInto_17 fu (f_X6_placesInto_5 n) x0 x1 x2 x3 x4 0 M)
set_option maxHeartbeats 4000000 in
theorem t_X6_placesInto_5 {X : XV} {d : Nat} (hd : 5 ≤ d + 1) : ∀ (n : Nat) (x0 : Int32) (x1 : Nat) (x2 : Nat) (x3 : Int32) (x4 : Int32) (M : Mem) (res : Int32), f_X6_placesInto_5 n  x0 x1 x2 x3 x4 M = some res → Ex X (d + 1) mX6_placesInto 5 [(0, .int x0), (1, .ref x1), (2, .ref x2), (3, .int x3), (4, .int x4)] [] M (some (.int res)) M := by
  intro n
  induction n with
  | zero =>
    intro x0 x1 x2 x3 x4 M res  h
    unfold f_X6_placesInto_5 at h
    cases h
  | succ n ih =>
    intro x0 x1 x2 x3 x4 M res  h
    unfold f_X6_placesInto_5 at h
    refine ex_iload (pc := 5) 4 dX6_placesInto_5 rfl ?_
    refine ex_aload_n (pc := 7) 1 dX6_placesInto_7 rfl rfl ?_
    obtain ⟨v4, ev4, h⟩ := ob_some h
    refine ex_gI (pc := 8) ev4 dX6_placesInto_8 lfX6_59 ?_
    by_cases c5 : v4 < x4
    · rw [if_pos c5] at h
      refine ex_icmp_gt_t (pc := 11) 57 dX6_placesInto_11 rfl c5 ?_
      refine ex_iload_n (pc := 57) 3 dX6_placesInto_57 rfl rfl ?_
      cases h
      exact ex_ireturn (pc := 58) dX6_placesInto_58
    · rw [if_neg c5] at h
      refine ex_icmp_gt_f (pc := 11) dX6_placesInto_11 57 rfl c5 ?_
      refine ex_iconst (pc := 14) 0 dX6_placesInto_14 rfl ?_
      refine ex_istore (pc := 15) [(5, .int 0), (0, .int x0), (1, .ref x1), (2, .ref x2), (3, .int x3), (4, .int x4)] dX6_placesInto_15 (by decide) rfl ?_
      refine ex_sub (lo' := [(0, .int x0), (1, .ref x1), (2, .ref x2), (3, .int x3), (4, .int x4), (5, .int 0)]) [1, 2, 3, 4, 5, 0] rfl ?_
      exact t_X6_placesInto_17 hd ih _ _ _ _ _ _ _ _ _  h
noncomputable def f_X6_placesInto_0 (x0 : Int32) (x1 : Nat) (x2 : Nat) (M : Mem) : Option (Int32) :=
  f_X6_placesInto_5 fu x0 x1 x2 0 0 M
set_option maxHeartbeats 4000000 in
theorem t_X6_placesInto_0 {X : XV} {d : Nat} (hd : 5 ≤ d + 1) : ∀ (x0 : Int32) (x1 : Nat) (x2 : Nat) (M : Mem) (res : Int32), f_X6_placesInto_0  x0 x1 x2 M = some res → Ex X (d + 1) mX6_placesInto 0 [(0, .int x0), (1, .ref x1), (2, .ref x2)] [] M (some (.int res)) M := by
  intro x0 x1 x2 M res  h
  unfold f_X6_placesInto_0 at h
  refine ex_iconst (pc := 0) 0 dX6_placesInto_0 rfl ?_
  refine ex_istore_n (pc := 1) [(3, .int 0), (0, .int x0), (1, .ref x1), (2, .ref x2)] dX6_placesInto_1 rfl (by decide) rfl ?_
  refine ex_iconst (pc := 2) 0 dX6_placesInto_2 rfl ?_
  refine ex_istore (pc := 3) [(4, .int 0), (3, .int 0), (0, .int x0), (1, .ref x1), (2, .ref x2)] dX6_placesInto_3 (by decide) rfl ?_
  refine ex_sub (lo' := [(0, .int x0), (1, .ref x1), (2, .ref x2), (3, .int 0), (4, .int 0)]) [2, 3, 4, 1, 0] rfl ?_
  exact t_X6_placesInto_5 hd  _ _ _ _ _ _ _ _  h
noncomputable def f_X6_placesInto (x0 : Int32) (x1 : Nat) (x2 : Nat) (M : Mem) : Option (Int32) := f_X6_placesInto_0 x0 x1 x2 M
set_option maxHeartbeats 4000000 in
theorem s_X6_placesInto {X : XV} {d : Nat} (hd : 5 ≤ d) {x0 : Int32} {x1 : Nat} {x2 : Nat} {M : Mem} {res : Int32} (h : f_X6_placesInto x0 x1 x2 M = some res) : Mx X d mX6_placesInto [.int x0, .ref x1, .ref x2] M (some (.int res)) M := by
  obtain ⟨d, rfl⟩ : ∃ e, d = e + 1 := ⟨d - 1, by omega⟩
  unfold f_X6_placesInto at h
  refine Mx.of (by decide) (Nat.le_of_ble_eq_true rfl) (⟨_, rfl, rfl⟩) ?_
  exact ex_sub (lo' := [(0, .int x0), (1, .ref x1), (2, .ref x2)]) [0, 1, 2] rfl (t_X6_placesInto_0 hd _ _ _ _ _  h)
noncomputable def f_X6_onward_6 (n0 : Nat) (x0 : Int32) (x1 : Int32) (x2 : Nat) (x3 : Nat) (x4 : Int32) (x5 : Int32) (M : Mem) : Option (Int32) :=
  match n0 with
  | 0 => none
  | n + 1 =>
    (gI M 3 x2 1).bind fun v1 =>
    if v1 < x5 then
    (some x4)
    else
    (if ((jshr x0 x5) &&& 1) = 1 then
    ((f_X6_onwardFrom x5 x1 x2 x3 M).bind fun v4 =>
    f_X6_onward_6 n x0 x1 x2 x3 (x4 ||| v4) (x5 + 1) M)
    else
    (f_X6_onward_6 n x0 x1 x2 x3 x4 (x5 + 1) M))
set_option maxHeartbeats 4000000 in
theorem t_X6_onward_6 {X : XV} {d : Nat} (hd : 5 ≤ d + 1) : ∀ (n : Nat) (x0 : Int32) (x1 : Int32) (x2 : Nat) (x3 : Nat) (x4 : Int32) (x5 : Int32) (M : Mem) (res : Int32), f_X6_onward_6 n  x0 x1 x2 x3 x4 x5 M = some res → Ex X (d + 1) mX6_onward 6 [(0, .int x0), (1, .int x1), (2, .ref x2), (3, .ref x3), (4, .int x4), (5, .int x5)] [] M (some (.int res)) M := by
  intro n
  induction n with
  | zero =>
    intro x0 x1 x2 x3 x4 x5 M res  h
    unfold f_X6_onward_6 at h
    cases h
  | succ n ih =>
    intro x0 x1 x2 x3 x4 x5 M res  h
    unfold f_X6_onward_6 at h
    refine ex_iload (pc := 6) 5 dX6_onward_6 rfl ?_
    refine ex_aload_n (pc := 8) 2 dX6_onward_8 rfl rfl ?_
    obtain ⟨v1, ev1, h⟩ := ob_some h
    refine ex_gI (pc := 9) ev1 dX6_onward_9 lfX6_59 ?_
    by_cases c2 : v1 < x5
    · rw [if_pos c2] at h
      refine ex_icmp_gt_t (pc := 12) 44 dX6_onward_12 rfl c2 ?_
      refine ex_iload (pc := 44) 4 dX6_onward_44 rfl ?_
      cases h
      exact ex_ireturn (pc := 46) dX6_onward_46
    · rw [if_neg c2] at h
      refine ex_icmp_gt_f (pc := 12) dX6_onward_12 44 rfl c2 ?_
      refine ex_iload_n (pc := 15) 0 dX6_onward_15 rfl rfl ?_
      refine ex_iload (pc := 16) 5 dX6_onward_16 rfl ?_
      refine ex_ishr (pc := 18) dX6_onward_18 ?_
      refine ex_iconst (pc := 19) 1 dX6_onward_19 rfl ?_
      refine ex_iand (pc := 20) dX6_onward_20 ?_
      refine ex_iconst (pc := 21) 1 dX6_onward_21 rfl ?_
      by_cases c3 : ((jshr x0 x5) &&& 1) = 1
      · rw [if_pos c3] at h
        refine ex_icmp_ne_f (pc := 22) dX6_onward_22 38 rfl c3 ?_
        refine ex_iload (pc := 25) 4 dX6_onward_25 rfl ?_
        refine ex_iload (pc := 27) 5 dX6_onward_27 rfl ?_
        refine ex_iload_n (pc := 29) 1 dX6_onward_29 rfl rfl ?_
        refine ex_aload_n (pc := 30) 2 dX6_onward_30 rfl rfl ?_
        refine ex_aload_n (pc := 31) 3 dX6_onward_31 rfl rfl ?_
        obtain ⟨v4, ev4, h⟩ := ob_some h
        refine ex_callS4r (pc := 32) dX6_onward_32 jX6_onwardFrom lmX6_103 jsX6_onwardFrom (Nat.le_of_ble_eq_true rfl) (s_X6_onwardFrom (by omega)  ev4) ?_
        refine ex_ior (pc := 35) dX6_onward_35 ?_
        refine ex_istore (pc := 36) [(4, .int (x4 ||| v4)), (0, .int x0), (1, .int x1), (2, .ref x2), (3, .ref x3), (5, .int x5)] dX6_onward_36 (by decide) rfl ?_
        refine ex_iinc (pc := 38) (x5 + 1) 5 [(5, .int (x5 + 1)), (4, .int (x4 ||| v4)), (0, .int x0), (1, .int x1), (2, .ref x2), (3, .ref x3)] dX6_onward_38 rfl rfl (by decide) rfl ?_
        refine ex_goto (pc := 41) 6 dX6_onward_41 rfl ?_
        refine ex_sub (lo' := [(0, .int x0), (1, .int x1), (2, .ref x2), (3, .ref x3), (4, .int (x4 ||| v4)), (5, .int (x5 + 1))]) [2, 3, 4, 5, 1, 0] rfl ?_
        exact ih _ _ _ _ _ _ _ _  h
      · rw [if_neg c3] at h
        refine ex_icmp_ne_t (pc := 22) 38 dX6_onward_22 rfl c3 ?_
        refine ex_iinc (pc := 38) (x5 + 1) 5 [(5, .int (x5 + 1)), (0, .int x0), (1, .int x1), (2, .ref x2), (3, .ref x3), (4, .int x4)] dX6_onward_38 rfl rfl (by decide) rfl ?_
        refine ex_goto (pc := 41) 6 dX6_onward_41 rfl ?_
        refine ex_sub (lo' := [(0, .int x0), (1, .int x1), (2, .ref x2), (3, .ref x3), (4, .int x4), (5, .int (x5 + 1))]) [1, 2, 3, 4, 5, 0] rfl ?_
        exact ih _ _ _ _ _ _ _ _  h
noncomputable def f_X6_onward_0 (x0 : Int32) (x1 : Int32) (x2 : Nat) (x3 : Nat) (M : Mem) : Option (Int32) :=
  f_X6_onward_6 fu x0 x1 x2 x3 0 0 M
set_option maxHeartbeats 4000000 in
theorem t_X6_onward_0 {X : XV} {d : Nat} (hd : 5 ≤ d + 1) : ∀ (x0 : Int32) (x1 : Int32) (x2 : Nat) (x3 : Nat) (M : Mem) (res : Int32), f_X6_onward_0  x0 x1 x2 x3 M = some res → Ex X (d + 1) mX6_onward 0 [(0, .int x0), (1, .int x1), (2, .ref x2), (3, .ref x3)] [] M (some (.int res)) M := by
  intro x0 x1 x2 x3 M res  h
  unfold f_X6_onward_0 at h
  refine ex_iconst (pc := 0) 0 dX6_onward_0 rfl ?_
  refine ex_istore (pc := 1) [(4, .int 0), (0, .int x0), (1, .int x1), (2, .ref x2), (3, .ref x3)] dX6_onward_1 (by decide) rfl ?_
  refine ex_iconst (pc := 3) 0 dX6_onward_3 rfl ?_
  refine ex_istore (pc := 4) [(5, .int 0), (4, .int 0), (0, .int x0), (1, .int x1), (2, .ref x2), (3, .ref x3)] dX6_onward_4 (by decide) rfl ?_
  refine ex_sub (lo' := [(0, .int x0), (1, .int x1), (2, .ref x2), (3, .ref x3), (4, .int 0), (5, .int 0)]) [2, 3, 4, 5, 1, 0] rfl ?_
  exact t_X6_onward_6 hd  _ _ _ _ _ _ _ _ _  h
noncomputable def f_X6_onward (x0 : Int32) (x1 : Int32) (x2 : Nat) (x3 : Nat) (M : Mem) : Option (Int32) := f_X6_onward_0 x0 x1 x2 x3 M
set_option maxHeartbeats 4000000 in
theorem s_X6_onward {X : XV} {d : Nat} (hd : 5 ≤ d) {x0 : Int32} {x1 : Int32} {x2 : Nat} {x3 : Nat} {M : Mem} {res : Int32} (h : f_X6_onward x0 x1 x2 x3 M = some res) : Mx X d mX6_onward [.int x0, .int x1, .ref x2, .ref x3] M (some (.int res)) M := by
  obtain ⟨d, rfl⟩ : ∃ e, d = e + 1 := ⟨d - 1, by omega⟩
  unfold f_X6_onward at h
  refine Mx.of (by decide) (Nat.le_of_ble_eq_true rfl) (⟨_, rfl, rfl⟩) ?_
  exact ex_sub (lo' := [(0, .int x0), (1, .int x1), (2, .ref x2), (3, .ref x3)]) [0, 1, 2, 3] rfl (t_X6_onward_0 hd _ _ _ _ _ _  h)
noncomputable def f_X6_fewest_128 (k87 : Nat → Nat → Nat → Int32 → Int32 → Mem → Option (Mem)) (x0 : Nat) (x1 : Nat) (x2 : Nat) (x4 : Int32) (x5 : Int32) (x6 : Int32) (M : Mem) : Option (Mem) :=
  (f_X6_onward x4 x6 x1 x2 M).bind fun v1 =>
  (gR M 6 x0 3).bind fun v2 =>
  (rI M v2 x5).bind fun v3 =>
  (gR M 6 x0 0).bind fun v4 =>
  (f_X3_append v4 x6 M).bind fun q5 =>
  k87 x0 x1 x2 (v1 &&& v3) (x5 + (-1)) q5.2
set_option maxHeartbeats 4000000 in
theorem t_X6_fewest_128 {X : XV} {d : Nat} (hd : 6 ≤ d + 1) {k87 : Nat → Nat → Nat → Int32 → Int32 → Mem → Option (Mem)} (hk87 : ∀ (x0 : Nat) (x1 : Nat) (x2 : Nat) (x4 : Int32) (x5 : Int32) (M : Mem) (res : Mem), k87 x0 x1 x2 x4 x5 M = some res → Ex X (d + 1) mX6_fewest 87 [(0, .ref x0), (1, .ref x1), (2, .ref x2), (4, .int x4), (5, .int x5)] [] M none res) : ∀ (x0 : Nat) (x1 : Nat) (x2 : Nat) (x4 : Int32) (x5 : Int32) (x6 : Int32) (M : Mem) (res : Mem), f_X6_fewest_128 k87 x0 x1 x2 x4 x5 x6 M = some res → Ex X (d + 1) mX6_fewest 128 [(0, .ref x0), (1, .ref x1), (2, .ref x2), (4, .int x4), (5, .int x5), (6, .int x6)] [] M none res := by
  intro x0 x1 x2 x4 x5 x6 M res  h
  unfold f_X6_fewest_128 at h
  refine ex_iload (pc := 128) 3 dX6_fewest_128 rfl ?_
  refine ex_iload (pc := 130) 5 dX6_fewest_130 rfl ?_
  refine ex_aload_n (pc := 132) 1 dX6_fewest_132 rfl rfl ?_
  refine ex_aload_n (pc := 133) 2 dX6_fewest_133 rfl rfl ?_
  obtain ⟨v1, ev1, h⟩ := ob_some h
  refine ex_callS4r (pc := 134) dX6_fewest_134 jX6_onward lmX6_96 jsX6_onward (Nat.le_of_ble_eq_true rfl) (s_X6_onward (by omega)  ev1) ?_
  refine ex_aload_n (pc := 137) 0 dX6_fewest_137 rfl rfl ?_
  obtain ⟨v2, ev2, h⟩ := ob_some h
  refine ex_gR (pc := 138) ev2 dX6_fewest_138 lfX6_27 ?_
  refine ex_iload (pc := 141) 4 dX6_fewest_141 rfl ?_
  obtain ⟨v3, ev3, h⟩ := ob_some h
  refine ex_rI (pc := 143) ev3 dX6_fewest_143 ?_
  refine ex_iand (pc := 144) dX6_fewest_144 ?_
  refine ex_istore (pc := 145) [(4, .int (v1 &&& v3)), (0, .ref x0), (1, .ref x1), (2, .ref x2), (5, .int x5), (6, .int x6)] dX6_fewest_145 (by decide) rfl ?_
  refine ex_aload_n (pc := 147) 1 dX6_fewest_147 rfl rfl ?_
  obtain ⟨v4, ev4, h⟩ := ob_some h
  refine ex_gR (pc := 148) ev4 dX6_fewest_148 lfX6_14 ?_
  refine ex_iload (pc := 151) 5 dX6_fewest_151 rfl ?_
  obtain ⟨q5, eq5, h⟩ := ob_some h
  refine ex_callV1r (pc := 153) dX6_fewest_153 jX3_append lmX6_100 jiX3_append jvX3_append (o_X3_append eq5) rfl (Nat.le_of_ble_eq_true rfl) (s_X3_append (by omega)  eq5) ?_
  refine ex_pop (pc := 156) dX6_fewest_156 rfl ?_
  refine ex_iinc (pc := 157) (x5 + (-1)) 4 [(5, .int (x5 + (-1))), (4, .int (v1 &&& v3)), (0, .ref x0), (1, .ref x1), (2, .ref x2), (6, .int x6)] dX6_fewest_157 rfl rfl (by decide) rfl ?_
  refine ex_goto (pc := 160) 87 dX6_fewest_160 rfl ?_
  refine ex_sub (lo' := [(0, .ref x0), (1, .ref x1), (2, .ref x2), (4, .int (v1 &&& v3)), (5, .int (x5 + (-1)))]) [2, 3, 4, 1, 0] rfl ?_
  exact hk87 _ _ _ _ _ _ _  h
noncomputable def f_X6_fewest_95 (n0 : Nat) (k87 : Nat → Nat → Nat → Int32 → Int32 → Mem → Option (Mem)) (x0 : Nat) (x1 : Nat) (x2 : Nat) (x4 : Int32) (x5 : Int32) (x6 : Int32) (M : Mem) : Option (Mem) :=
  match n0 with
  | 0 => none
  | n + 1 =>
    if 9 ≤ x6 then
    (f_X6_fewest_128 k87 x0 x1 x2 x4 x5 x6 M)
    else
    ((f_X6_onward x4 x6 x1 x2 M).bind fun v7 =>
    (gR M 6 x0 3).bind fun v8 =>
    (rI M v8 x5).bind fun v9 =>
    if (v7 &&& v9) = 0 then
    (f_X6_fewest_95 n k87 x0 x1 x2 x4 x5 (x6 + 1) M)
    else
    (f_X6_fewest_128 k87 x0 x1 x2 x4 x5 x6 M))
set_option maxHeartbeats 4000000 in
theorem t_X6_fewest_95 {X : XV} {d : Nat} (hd : 6 ≤ d + 1) {k87 : Nat → Nat → Nat → Int32 → Int32 → Mem → Option (Mem)} (hk87 : ∀ (x0 : Nat) (x1 : Nat) (x2 : Nat) (x4 : Int32) (x5 : Int32) (M : Mem) (res : Mem), k87 x0 x1 x2 x4 x5 M = some res → Ex X (d + 1) mX6_fewest 87 [(0, .ref x0), (1, .ref x1), (2, .ref x2), (4, .int x4), (5, .int x5)] [] M none res) : ∀ (n : Nat) (x0 : Nat) (x1 : Nat) (x2 : Nat) (x4 : Int32) (x5 : Int32) (x6 : Int32) (M : Mem) (res : Mem), f_X6_fewest_95 n k87 x0 x1 x2 x4 x5 x6 M = some res → Ex X (d + 1) mX6_fewest 95 [(0, .ref x0), (1, .ref x1), (2, .ref x2), (4, .int x4), (5, .int x5), (6, .int x6)] [] M none res := by
  intro n
  induction n with
  | zero =>
    intro x0 x1 x2 x4 x5 x6 M res  h
    unfold f_X6_fewest_95 at h
    cases h
  | succ n ih =>
    intro x0 x1 x2 x4 x5 x6 M res  h
    unfold f_X6_fewest_95 at h
    refine ex_iload (pc := 95) 5 dX6_fewest_95 rfl ?_
    refine ex_bipush (pc := 97) 9 dX6_fewest_97 (by decide) ?_
    by_cases c6 : 9 ≤ x6
    · rw [if_pos c6] at h
      refine ex_icmp_ge_t (pc := 99) 128 dX6_fewest_99 rfl c6 ?_
      refine ex_sub (lo' := [(0, .ref x0), (1, .ref x1), (2, .ref x2), (4, .int x4), (5, .int x5), (6, .int x6)]) [0, 1, 2, 3, 4, 5] rfl ?_
      exact t_X6_fewest_128 hd hk87 _ _ _ _ _ _ _ _  h
    · rw [if_neg c6] at h
      refine ex_icmp_ge_f (pc := 99) dX6_fewest_99 128 rfl c6 ?_
      refine ex_iload (pc := 102) 3 dX6_fewest_102 rfl ?_
      refine ex_iload (pc := 104) 5 dX6_fewest_104 rfl ?_
      refine ex_aload_n (pc := 106) 1 dX6_fewest_106 rfl rfl ?_
      refine ex_aload_n (pc := 107) 2 dX6_fewest_107 rfl rfl ?_
      obtain ⟨v7, ev7, h⟩ := ob_some h
      refine ex_callS4r (pc := 108) dX6_fewest_108 jX6_onward lmX6_96 jsX6_onward (Nat.le_of_ble_eq_true rfl) (s_X6_onward (by omega)  ev7) ?_
      refine ex_aload_n (pc := 111) 0 dX6_fewest_111 rfl rfl ?_
      obtain ⟨v8, ev8, h⟩ := ob_some h
      refine ex_gR (pc := 112) ev8 dX6_fewest_112 lfX6_27 ?_
      refine ex_iload (pc := 115) 4 dX6_fewest_115 rfl ?_
      obtain ⟨v9, ev9, h⟩ := ob_some h
      refine ex_rI (pc := 117) ev9 dX6_fewest_117 ?_
      refine ex_iand (pc := 118) dX6_fewest_118 ?_
      by_cases c10 : (v7 &&& v9) = 0
      · rw [if_pos c10] at h
        refine ex_if_ne_f (pc := 119) dX6_fewest_119 128 rfl c10 ?_
        refine ex_iinc (pc := 122) (x6 + 1) 5 [(6, .int (x6 + 1)), (0, .ref x0), (1, .ref x1), (2, .ref x2), (4, .int x4), (5, .int x5)] dX6_fewest_122 rfl rfl (by decide) rfl ?_
        refine ex_goto (pc := 125) 95 dX6_fewest_125 rfl ?_
        refine ex_sub (lo' := [(0, .ref x0), (1, .ref x1), (2, .ref x2), (4, .int x4), (5, .int x5), (6, .int (x6 + 1))]) [1, 2, 3, 4, 5, 0] rfl ?_
        exact ih _ _ _ _ _ _ _ _  h
      · rw [if_neg c10] at h
        refine ex_if_ne_t (pc := 119) 128 dX6_fewest_119 rfl c10 ?_
        refine ex_sub (lo' := [(0, .ref x0), (1, .ref x1), (2, .ref x2), (4, .int x4), (5, .int x5), (6, .int x6)]) [0, 1, 2, 3, 4, 5] rfl ?_
        exact t_X6_fewest_128 hd hk87 _ _ _ _ _ _ _ _  h
noncomputable def f_X6_fewest_87 (n0 : Nat) (x0 : Nat) (x1 : Nat) (x2 : Nat) (x4 : Int32) (x5 : Int32) (M : Mem) : Option (Mem) :=
  match n0 with
  | 0 => none
  | n + 1 =>
    if x5 < 0 then
    (some M)
    else
    (f_X6_fewest_95 fu (f_X6_fewest_87 n) x0 x1 x2 x4 x5 0 M)
set_option maxHeartbeats 4000000 in
theorem t_X6_fewest_87 {X : XV} {d : Nat} (hd : 6 ≤ d + 1) : ∀ (n : Nat) (x0 : Nat) (x1 : Nat) (x2 : Nat) (x4 : Int32) (x5 : Int32) (M : Mem) (res : Mem), f_X6_fewest_87 n  x0 x1 x2 x4 x5 M = some res → Ex X (d + 1) mX6_fewest 87 [(0, .ref x0), (1, .ref x1), (2, .ref x2), (4, .int x4), (5, .int x5)] [] M none res := by
  intro n
  induction n with
  | zero =>
    intro x0 x1 x2 x4 x5 M res  h
    unfold f_X6_fewest_87 at h
    cases h
  | succ n ih =>
    intro x0 x1 x2 x4 x5 M res  h
    unfold f_X6_fewest_87 at h
    refine ex_iload (pc := 87) 4 dX6_fewest_87 rfl ?_
    by_cases c11 : x5 < 0
    · rw [if_pos c11] at h
      refine ex_if_lt_t (pc := 89) 163 dX6_fewest_89 rfl c11 ?_
      cases h
      exact ex_return (pc := 163) dX6_fewest_163
    · rw [if_neg c11] at h
      refine ex_if_lt_f (pc := 89) dX6_fewest_89 163 rfl c11 ?_
      refine ex_iconst (pc := 92) 0 dX6_fewest_92 rfl ?_
      refine ex_istore (pc := 93) [(6, .int 0), (0, .ref x0), (1, .ref x1), (2, .ref x2), (4, .int x4), (5, .int x5)] dX6_fewest_93 (by decide) rfl ?_
      refine ex_sub (lo' := [(0, .ref x0), (1, .ref x1), (2, .ref x2), (4, .int x4), (5, .int x5), (6, .int 0)]) [1, 2, 3, 4, 5, 0] rfl ?_
      exact t_X6_fewest_95 hd ih _ _ _ _ _ _ _ _ _  h
noncomputable def f_X6_fewest_79 (x0 : Nat) (x1 : Nat) (x2 : Nat) (x3 : Int32) (M : Mem) : Option (Mem) :=
  f_X6_fewest_87 fu x0 x1 x2 1 (x3 - 1) M
set_option maxHeartbeats 4000000 in
theorem t_X6_fewest_79 {X : XV} {d : Nat} (hd : 6 ≤ d + 1) : ∀ (x0 : Nat) (x1 : Nat) (x2 : Nat) (x3 : Int32) (M : Mem) (res : Mem), f_X6_fewest_79  x0 x1 x2 x3 M = some res → Ex X (d + 1) mX6_fewest 79 [(0, .ref x0), (1, .ref x1), (2, .ref x2), (3, .int x3)] [] M none res := by
  intro x0 x1 x2 x3 M res  h
  unfold f_X6_fewest_79 at h
  refine ex_iconst (pc := 79) 1 dX6_fewest_79 rfl ?_
  refine ex_istore (pc := 80) [(4, .int 1), (0, .ref x0), (1, .ref x1), (2, .ref x2), (3, .int x3)] dX6_fewest_80 (by decide) rfl ?_
  refine ex_iload_n (pc := 82) 4 dX6_fewest_82 rfl rfl ?_
  refine ex_iconst (pc := 83) 1 dX6_fewest_83 rfl ?_
  refine ex_isub (pc := 84) dX6_fewest_84 ?_
  refine ex_istore (pc := 85) [(5, .int (x3 - 1)), (4, .int 1), (0, .ref x0), (1, .ref x1), (2, .ref x2), (3, .int x3)] dX6_fewest_85 (by decide) rfl ?_
  refine ex_sub (lo' := [(0, .ref x0), (1, .ref x1), (2, .ref x2), (4, .int 1), (5, .int (x3 - 1))]) [2, 3, 4, 1, 0] rfl ?_
  exact t_X6_fewest_87 hd  _ _ _ _ _ _ _ _  h
noncomputable def f_X6_fewest_25 (n0 : Nat) (x0 : Nat) (x1 : Nat) (x2 : Nat) (x3 : Int32) (x4 : Int32) (M : Mem) : Option (Mem) :=
  match n0 with
  | 0 => none
  | n + 1 =>
    if 12 < x4 then
    (f_X6_fewest_79 x0 x1 x2 x3 M)
    else
    (if x3 = 0 then
    ((gR M 6 x0 3).bind fun v14 =>
    (gR M 6 x0 3).bind fun v15 =>
    (rI M v15 (x4 - 1)).bind fun v16 =>
    (f_X6_placesInto v16 x1 x2 M).bind fun v17 =>
    (wI M v14 x4 v17).bind fun q18 =>
    (gR q18 6 x0 3).bind fun v19 =>
    (rI q18 v19 x4).bind fun v20 =>
    if (v20 &&& 1) = 1 then
    (f_X6_fewest_25 n x0 x1 x2 x4 (x4 + 1) q18)
    else
    (f_X6_fewest_25 n x0 x1 x2 x3 (x4 + 1) q18))
    else
    (f_X6_fewest_79 x0 x1 x2 x3 M))
set_option maxHeartbeats 4000000 in
theorem t_X6_fewest_25 {X : XV} {d : Nat} (hd : 6 ≤ d + 1) : ∀ (n : Nat) (x0 : Nat) (x1 : Nat) (x2 : Nat) (x3 : Int32) (x4 : Int32) (M : Mem) (res : Mem), f_X6_fewest_25 n  x0 x1 x2 x3 x4 M = some res → Ex X (d + 1) mX6_fewest 25 [(0, .ref x0), (1, .ref x1), (2, .ref x2), (3, .int x3), (4, .int x4)] [] M none res := by
  intro n
  induction n with
  | zero =>
    intro x0 x1 x2 x3 x4 M res  h
    unfold f_X6_fewest_25 at h
    cases h
  | succ n ih =>
    intro x0 x1 x2 x3 x4 M res  h
    unfold f_X6_fewest_25 at h
    refine ex_iload (pc := 25) 4 dX6_fewest_25 rfl ?_
    refine ex_bipush (pc := 27) 12 dX6_fewest_27 (by decide) ?_
    by_cases c12 : 12 < x4
    · rw [if_pos c12] at h
      refine ex_icmp_gt_t (pc := 29) 79 dX6_fewest_29 rfl c12 ?_
      refine ex_sub (lo' := [(0, .ref x0), (1, .ref x1), (2, .ref x2), (3, .int x3)]) [0, 1, 2, 3] rfl ?_
      exact t_X6_fewest_79 hd  _ _ _ _ _ _  h
    · rw [if_neg c12] at h
      refine ex_icmp_gt_f (pc := 29) dX6_fewest_29 79 rfl c12 ?_
      refine ex_iload_n (pc := 32) 3 dX6_fewest_32 rfl rfl ?_
      by_cases c13 : x3 = 0
      · rw [if_pos c13] at h
        refine ex_if_ne_f (pc := 33) dX6_fewest_33 79 rfl c13 ?_
        refine ex_aload_n (pc := 36) 0 dX6_fewest_36 rfl rfl ?_
        obtain ⟨v14, ev14, h⟩ := ob_some h
        refine ex_gR (pc := 37) ev14 dX6_fewest_37 lfX6_27 ?_
        refine ex_iload (pc := 40) 4 dX6_fewest_40 rfl ?_
        refine ex_aload_n (pc := 42) 0 dX6_fewest_42 rfl rfl ?_
        obtain ⟨v15, ev15, h⟩ := ob_some h
        refine ex_gR (pc := 43) ev15 dX6_fewest_43 lfX6_27 ?_
        refine ex_iload (pc := 46) 4 dX6_fewest_46 rfl ?_
        refine ex_iconst (pc := 48) 1 dX6_fewest_48 rfl ?_
        refine ex_isub (pc := 49) dX6_fewest_49 ?_
        obtain ⟨v16, ev16, h⟩ := ob_some h
        refine ex_rI (pc := 50) ev16 dX6_fewest_50 ?_
        refine ex_aload_n (pc := 51) 1 dX6_fewest_51 rfl rfl ?_
        refine ex_aload_n (pc := 52) 2 dX6_fewest_52 rfl rfl ?_
        obtain ⟨v17, ev17, h⟩ := ob_some h
        refine ex_callS3r (pc := 53) dX6_fewest_53 jX6_placesInto lmX6_92 jsX6_placesInto (Nat.le_of_ble_eq_true rfl) (s_X6_placesInto (by omega)  ev17) ?_
        obtain ⟨q18, eq18, h⟩ := ob_some h
        refine ex_wI (pc := 56) eq18 dX6_fewest_56 ?_
        refine ex_aload_n (pc := 57) 0 dX6_fewest_57 rfl rfl ?_
        obtain ⟨v19, ev19, h⟩ := ob_some h
        refine ex_gR (pc := 58) ev19 dX6_fewest_58 lfX6_27 ?_
        refine ex_iload (pc := 61) 4 dX6_fewest_61 rfl ?_
        obtain ⟨v20, ev20, h⟩ := ob_some h
        refine ex_rI (pc := 63) ev20 dX6_fewest_63 ?_
        refine ex_iconst (pc := 64) 1 dX6_fewest_64 rfl ?_
        refine ex_iand (pc := 65) dX6_fewest_65 ?_
        refine ex_iconst (pc := 66) 1 dX6_fewest_66 rfl ?_
        by_cases c21 : (v20 &&& 1) = 1
        · rw [if_pos c21] at h
          refine ex_icmp_ne_f (pc := 67) dX6_fewest_67 73 rfl c21 ?_
          refine ex_iload (pc := 70) 4 dX6_fewest_70 rfl ?_
          refine ex_istore_n (pc := 72) [(3, .int x4), (0, .ref x0), (1, .ref x1), (2, .ref x2), (4, .int x4)] dX6_fewest_72 rfl (by decide) rfl ?_
          refine ex_iinc (pc := 73) (x4 + 1) 4 [(4, .int (x4 + 1)), (3, .int x4), (0, .ref x0), (1, .ref x1), (2, .ref x2)] dX6_fewest_73 rfl rfl (by decide) rfl ?_
          refine ex_goto (pc := 76) 25 dX6_fewest_76 rfl ?_
          refine ex_sub (lo' := [(0, .ref x0), (1, .ref x1), (2, .ref x2), (3, .int x4), (4, .int (x4 + 1))]) [2, 3, 4, 1, 0] rfl ?_
          exact ih _ _ _ _ _ _ _  h
        · rw [if_neg c21] at h
          refine ex_icmp_ne_t (pc := 67) 73 dX6_fewest_67 rfl c21 ?_
          refine ex_iinc (pc := 73) (x4 + 1) 4 [(4, .int (x4 + 1)), (0, .ref x0), (1, .ref x1), (2, .ref x2), (3, .int x3)] dX6_fewest_73 rfl rfl (by decide) rfl ?_
          refine ex_goto (pc := 76) 25 dX6_fewest_76 rfl ?_
          refine ex_sub (lo' := [(0, .ref x0), (1, .ref x1), (2, .ref x2), (3, .int x3), (4, .int (x4 + 1))]) [1, 2, 3, 4, 0] rfl ?_
          exact ih _ _ _ _ _ _ _  h
      · rw [if_neg c13] at h
        refine ex_if_ne_t (pc := 33) 79 dX6_fewest_33 rfl c13 ?_
        refine ex_sub (lo' := [(0, .ref x0), (1, .ref x1), (2, .ref x2), (3, .int x3)]) [0, 1, 2, 3] rfl ?_
        exact t_X6_fewest_79 hd  _ _ _ _ _ _  h
noncomputable def f_X6_fewest_0 (x0 : Nat) (x1 : Nat) (x2 : Nat) (M : Mem) : Option (Mem) :=
  (gR M 6 x0 0).bind fun v22 =>
  (pF M 3 v22 1 (.int 0)).bind fun q23 =>
  (gR q23 6 x0 3).bind fun v24 =>
  (gI q23 3 x1 1).bind fun v25 =>
  (wI q23 v24 0 (jshl 1 v25)).bind fun q26 =>
  f_X6_fewest_25 fu x0 x1 x2 0 1 q26
set_option maxHeartbeats 4000000 in
theorem t_X6_fewest_0 {X : XV} {d : Nat} (hd : 6 ≤ d + 1) : ∀ (x0 : Nat) (x1 : Nat) (x2 : Nat) (M : Mem) (res : Mem), f_X6_fewest_0  x0 x1 x2 M = some res → Ex X (d + 1) mX6_fewest 0 [(0, .ref x0), (1, .ref x1), (2, .ref x2)] [] M none res := by
  intro x0 x1 x2 M res  h
  unfold f_X6_fewest_0 at h
  refine ex_aload_n (pc := 0) 0 dX6_fewest_0 rfl rfl ?_
  obtain ⟨v22, ev22, h⟩ := ob_some h
  refine ex_gR (pc := 1) ev22 dX6_fewest_1 lfX6_14 ?_
  refine ex_iconst (pc := 4) 0 dX6_fewest_4 rfl ?_
  obtain ⟨q23, eq23, h⟩ := ob_some h
  refine ex_pF (pc := 5) eq23 dX6_fewest_5 lfX6_59 rfl rfl (fun _ hq => by cases hq; rfl) ?_
  refine ex_aload_n (pc := 8) 0 dX6_fewest_8 rfl rfl ?_
  obtain ⟨v24, ev24, h⟩ := ob_some h
  refine ex_gR (pc := 9) ev24 dX6_fewest_9 lfX6_27 ?_
  refine ex_iconst (pc := 12) 0 dX6_fewest_12 rfl ?_
  refine ex_iconst (pc := 13) 1 dX6_fewest_13 rfl ?_
  refine ex_aload_n (pc := 14) 1 dX6_fewest_14 rfl rfl ?_
  obtain ⟨v25, ev25, h⟩ := ob_some h
  refine ex_gI (pc := 15) ev25 dX6_fewest_15 lfX6_59 ?_
  refine ex_ishl (pc := 18) dX6_fewest_18 ?_
  obtain ⟨q26, eq26, h⟩ := ob_some h
  refine ex_wI (pc := 19) eq26 dX6_fewest_19 ?_
  refine ex_iconst (pc := 20) 0 dX6_fewest_20 rfl ?_
  refine ex_istore_n (pc := 21) [(3, .int 0), (0, .ref x0), (1, .ref x1), (2, .ref x2)] dX6_fewest_21 rfl (by decide) rfl ?_
  refine ex_iconst (pc := 22) 1 dX6_fewest_22 rfl ?_
  refine ex_istore (pc := 23) [(4, .int 1), (3, .int 0), (0, .ref x0), (1, .ref x1), (2, .ref x2)] dX6_fewest_23 (by decide) rfl ?_
  refine ex_sub (lo' := [(0, .ref x0), (1, .ref x1), (2, .ref x2), (3, .int 0), (4, .int 1)]) [2, 3, 4, 1, 0] rfl ?_
  exact t_X6_fewest_25 hd  _ _ _ _ _ _ _ _  h
noncomputable def f_X6_fewest (x0 : Nat) (x1 : Nat) (x2 : Nat) (M : Mem) : Option (Mem) := if isOb M 6 x0 = true then f_X6_fewest_0 x0 x1 x2 M else none
theorem o_X6_fewest {x0 : Nat} {x1 : Nat} {x2 : Nat} {M : Mem} {res : Mem} (h : f_X6_fewest x0 x1 x2 M = some res) : isO M 6 x0 := by
  unfold f_X6_fewest at h
  split at h
  · rename_i hc; exact isOb_iff hc
  · cases h
set_option maxHeartbeats 4000000 in
theorem s_X6_fewest {X : XV} {d : Nat} (hd : 6 ≤ d) {x0 : Nat} {x1 : Nat} {x2 : Nat} {M : Mem} {res : Mem} (h : f_X6_fewest x0 x1 x2 M = some res) : Mx X d mX6_fewest [.ref x0, .ref x1, .ref x2] M none res := by
  obtain ⟨d, rfl⟩ : ∃ e, d = e + 1 := ⟨d - 1, by omega⟩
  unfold f_X6_fewest at h
  split at h
  rotate_left
  · cases h
  refine Mx.of (by decide) (Nat.le_of_ble_eq_true rfl) (rfl) ?_
  exact ex_sub (lo' := [(0, .ref x0), (1, .ref x1), (2, .ref x2)]) [0, 1, 2] rfl (t_X6_fewest_0 hd _ _ _ _ _  h)
noncomputable def f_X6_woven_146 (k29 : Nat → Int32 → Int32 → Nat → Int32 → Int32 → Int32 → Mem → Option (Int32 × Mem)) (k39 : Nat → Int32 → Int32 → Nat → Int32 → Int32 → Int32 → Int32 → Mem → Option (Int32 × Mem)) (x0 : Nat) (x1 : Int32) (x2 : Int32) (x3 : Nat) (x4 : Int32) (x5 : Int32) (x6 : Int32) (x7 : Int32) (x8 : Int32) (M : Mem) : Option (Int32 × Mem) :=
  (gR M 6 x0 4).bind fun v1 =>
  (rR 4 M v1 x6).bind fun w2 =>
  (wI M w2 x7 x8).bind fun q3 =>
  k39 x0 x1 x2 x3 x4 x5 x6 (x7 + 1) q3
set_option maxHeartbeats 4000000 in
theorem t_X6_woven_146 {X : XV} {d : Nat} (hd : 3 ≤ d + 1) {k29 : Nat → Int32 → Int32 → Nat → Int32 → Int32 → Int32 → Mem → Option (Int32 × Mem)} (hk29 : ∀ (x0 : Nat) (x1 : Int32) (x2 : Int32) (x3 : Nat) (x4 : Int32) (x5 : Int32) (x6 : Int32) (M : Mem) (res : Int32 × Mem), k29 x0 x1 x2 x3 x4 x5 x6 M = some res → Ex X (d + 1) mX6_woven 29 [(0, .ref x0), (1, .int x1), (2, .int x2), (3, .ref x3), (4, .int x4), (5, .int x5), (6, .int x6)] [] M (some (.int res.1)) res.2) {k39 : Nat → Int32 → Int32 → Nat → Int32 → Int32 → Int32 → Int32 → Mem → Option (Int32 × Mem)} (hk39 : ∀ (x0 : Nat) (x1 : Int32) (x2 : Int32) (x3 : Nat) (x4 : Int32) (x5 : Int32) (x6 : Int32) (x7 : Int32) (M : Mem) (res : Int32 × Mem), k39 x0 x1 x2 x3 x4 x5 x6 x7 M = some res → Ex X (d + 1) mX6_woven 39 [(0, .ref x0), (1, .int x1), (2, .int x2), (3, .ref x3), (4, .int x4), (5, .int x5), (6, .int x6), (7, .int x7)] [] M (some (.int res.1)) res.2) : ∀ (x0 : Nat) (x1 : Int32) (x2 : Int32) (x3 : Nat) (x4 : Int32) (x5 : Int32) (x6 : Int32) (x7 : Int32) (x8 : Int32) (M : Mem) (res : Int32 × Mem), f_X6_woven_146 k29 k39 x0 x1 x2 x3 x4 x5 x6 x7 x8 M = some res → Ex X (d + 1) mX6_woven 146 [(0, .ref x0), (1, .int x1), (2, .int x2), (3, .ref x3), (4, .int x4), (5, .int x5), (6, .int x6), (7, .int x7), (8, .int x8)] [] M (some (.int res.1)) res.2 := by
  intro x0 x1 x2 x3 x4 x5 x6 x7 x8 M res  h
  unfold f_X6_woven_146 at h
  refine ex_aload_n (pc := 146) 0 dX6_woven_146 rfl rfl ?_
  obtain ⟨v1, ev1, h⟩ := ob_some h
  refine ex_gR (pc := 147) ev1 dX6_woven_147 lfX6_32 ?_
  refine ex_iload (pc := 150) 6 dX6_woven_150 rfl ?_
  obtain ⟨w2, ew2, h⟩ := ob_some h
  refine ex_rR (pc := 152) ew2 (by decide) dX6_woven_152 ?_
  refine ex_iload (pc := 153) 7 dX6_woven_153 rfl ?_
  refine ex_iload (pc := 155) 8 dX6_woven_155 rfl ?_
  obtain ⟨q3, eq3, h⟩ := ob_some h
  refine ex_wI (pc := 157) eq3 dX6_woven_157 ?_
  refine ex_iinc (pc := 158) (x7 + 1) 7 [(7, .int (x7 + 1)), (0, .ref x0), (1, .int x1), (2, .int x2), (3, .ref x3), (4, .int x4), (5, .int x5), (6, .int x6), (8, .int x8)] dX6_woven_158 rfl rfl (by decide) rfl ?_
  refine ex_goto (pc := 161) 39 dX6_woven_161 rfl ?_
  refine ex_sub (lo' := [(0, .ref x0), (1, .int x1), (2, .int x2), (3, .ref x3), (4, .int x4), (5, .int x5), (6, .int x6), (7, .int (x7 + 1))]) [1, 2, 3, 4, 5, 6, 7, 0] rfl ?_
  exact hk39 _ _ _ _ _ _ _ _ _ _  h
noncomputable def f_X6_woven_111 (k29 : Nat → Int32 → Int32 → Nat → Int32 → Int32 → Int32 → Mem → Option (Int32 × Mem)) (k39 : Nat → Int32 → Int32 → Nat → Int32 → Int32 → Int32 → Int32 → Mem → Option (Int32 × Mem)) (x0 : Nat) (x1 : Int32) (x2 : Int32) (x3 : Nat) (x4 : Int32) (x5 : Int32) (x6 : Int32) (x7 : Int32) (x8 : Int32) (x9 : Int32) (M : Mem) : Option (Int32 × Mem) :=
  if x7 ≤ 0 then
  (f_X6_woven_146 k29 k39 x0 x1 x2 x3 x4 x5 x6 x7 x8 M)
  else
  ((f_X10_digitAt x2 (x7 - 1)).bind fun v5 =>
  if v5 = x9 then
  ((gR M 6 x0 4).bind fun v7 =>
  (rR 4 M v7 x6).bind fun w8 =>
  (rI M w8 (x7 - 1)).bind fun v9 =>
  f_X6_woven_146 k29 k39 x0 x1 x2 x3 x4 x5 x6 x7 (x8 + v9) M)
  else
  (f_X6_woven_146 k29 k39 x0 x1 x2 x3 x4 x5 x6 x7 x8 M))
set_option maxHeartbeats 4000000 in
theorem t_X6_woven_111 {X : XV} {d : Nat} (hd : 3 ≤ d + 1) {k29 : Nat → Int32 → Int32 → Nat → Int32 → Int32 → Int32 → Mem → Option (Int32 × Mem)} (hk29 : ∀ (x0 : Nat) (x1 : Int32) (x2 : Int32) (x3 : Nat) (x4 : Int32) (x5 : Int32) (x6 : Int32) (M : Mem) (res : Int32 × Mem), k29 x0 x1 x2 x3 x4 x5 x6 M = some res → Ex X (d + 1) mX6_woven 29 [(0, .ref x0), (1, .int x1), (2, .int x2), (3, .ref x3), (4, .int x4), (5, .int x5), (6, .int x6)] [] M (some (.int res.1)) res.2) {k39 : Nat → Int32 → Int32 → Nat → Int32 → Int32 → Int32 → Int32 → Mem → Option (Int32 × Mem)} (hk39 : ∀ (x0 : Nat) (x1 : Int32) (x2 : Int32) (x3 : Nat) (x4 : Int32) (x5 : Int32) (x6 : Int32) (x7 : Int32) (M : Mem) (res : Int32 × Mem), k39 x0 x1 x2 x3 x4 x5 x6 x7 M = some res → Ex X (d + 1) mX6_woven 39 [(0, .ref x0), (1, .int x1), (2, .int x2), (3, .ref x3), (4, .int x4), (5, .int x5), (6, .int x6), (7, .int x7)] [] M (some (.int res.1)) res.2) : ∀ (x0 : Nat) (x1 : Int32) (x2 : Int32) (x3 : Nat) (x4 : Int32) (x5 : Int32) (x6 : Int32) (x7 : Int32) (x8 : Int32) (x9 : Int32) (M : Mem) (res : Int32 × Mem), f_X6_woven_111 k29 k39 x0 x1 x2 x3 x4 x5 x6 x7 x8 x9 M = some res → Ex X (d + 1) mX6_woven 111 [(0, .ref x0), (1, .int x1), (2, .int x2), (3, .ref x3), (4, .int x4), (5, .int x5), (6, .int x6), (7, .int x7), (8, .int x8), (9, .int x9)] [] M (some (.int res.1)) res.2 := by
  intro x0 x1 x2 x3 x4 x5 x6 x7 x8 x9 M res  h
  unfold f_X6_woven_111 at h
  refine ex_iload (pc := 111) 7 dX6_woven_111 rfl ?_
  by_cases c4 : x7 ≤ 0
  · rw [if_pos c4] at h
    refine ex_if_le_t (pc := 113) 146 dX6_woven_113 rfl c4 ?_
    refine ex_sub (lo' := [(0, .ref x0), (1, .int x1), (2, .int x2), (3, .ref x3), (4, .int x4), (5, .int x5), (6, .int x6), (7, .int x7), (8, .int x8)]) [0, 1, 2, 3, 4, 5, 6, 7, 8] rfl ?_
    exact t_X6_woven_146 hd hk29 hk39 _ _ _ _ _ _ _ _ _ _ _  h
  · rw [if_neg c4] at h
    refine ex_if_le_f (pc := 113) dX6_woven_113 146 rfl c4 ?_
    refine ex_iload_n (pc := 116) 2 dX6_woven_116 rfl rfl ?_
    refine ex_iload (pc := 117) 7 dX6_woven_117 rfl ?_
    refine ex_iconst (pc := 119) 1 dX6_woven_119 rfl ?_
    refine ex_isub (pc := 120) dX6_woven_120 ?_
    obtain ⟨v5, ev5, h⟩ := ob_some h
    refine ex_callSN2r (pc := 121) dX6_woven_121 jX10_digitAt lnX6_51 jsX10_digitAt (Nat.le_of_ble_eq_true rfl) (s_X10_digitAt (by omega)  ev5) ?_
    refine ex_iload (pc := 124) 9 dX6_woven_124 rfl ?_
    by_cases c6 : v5 = x9
    · rw [if_pos c6] at h
      refine ex_icmp_ne_f (pc := 126) dX6_woven_126 146 rfl c6 ?_
      refine ex_iload (pc := 129) 8 dX6_woven_129 rfl ?_
      refine ex_aload_n (pc := 131) 0 dX6_woven_131 rfl rfl ?_
      obtain ⟨v7, ev7, h⟩ := ob_some h
      refine ex_gR (pc := 132) ev7 dX6_woven_132 lfX6_32 ?_
      refine ex_iload (pc := 135) 6 dX6_woven_135 rfl ?_
      obtain ⟨w8, ew8, h⟩ := ob_some h
      refine ex_rR (pc := 137) ew8 (by decide) dX6_woven_137 ?_
      refine ex_iload (pc := 138) 7 dX6_woven_138 rfl ?_
      refine ex_iconst (pc := 140) 1 dX6_woven_140 rfl ?_
      refine ex_isub (pc := 141) dX6_woven_141 ?_
      obtain ⟨v9, ev9, h⟩ := ob_some h
      refine ex_rI (pc := 142) ev9 dX6_woven_142 ?_
      refine ex_iadd (pc := 143) dX6_woven_143 ?_
      refine ex_istore (pc := 144) [(8, .int (x8 + v9)), (0, .ref x0), (1, .int x1), (2, .int x2), (3, .ref x3), (4, .int x4), (5, .int x5), (6, .int x6), (7, .int x7), (9, .int x9)] dX6_woven_144 (by decide) rfl ?_
      refine ex_sub (lo' := [(0, .ref x0), (1, .int x1), (2, .int x2), (3, .ref x3), (4, .int x4), (5, .int x5), (6, .int x6), (7, .int x7), (8, .int (x8 + v9))]) [1, 2, 3, 4, 5, 6, 7, 8, 0] rfl ?_
      exact t_X6_woven_146 hd hk29 hk39 _ _ _ _ _ _ _ _ _ _ _  h
    · rw [if_neg c6] at h
      refine ex_icmp_ne_t (pc := 126) 146 dX6_woven_126 rfl c6 ?_
      refine ex_sub (lo' := [(0, .ref x0), (1, .int x1), (2, .int x2), (3, .ref x3), (4, .int x4), (5, .int x5), (6, .int x6), (7, .int x7), (8, .int x8)]) [0, 1, 2, 3, 4, 5, 6, 7, 8] rfl ?_
      exact t_X6_woven_146 hd hk29 hk39 _ _ _ _ _ _ _ _ _ _ _  h
noncomputable def f_X6_woven_61 (k29 : Nat → Int32 → Int32 → Nat → Int32 → Int32 → Int32 → Mem → Option (Int32 × Mem)) (k39 : Nat → Int32 → Int32 → Nat → Int32 → Int32 → Int32 → Int32 → Mem → Option (Int32 × Mem)) (x0 : Nat) (x1 : Int32) (x2 : Int32) (x3 : Nat) (x4 : Int32) (x5 : Int32) (x6 : Int32) (x7 : Int32) (s0 : Bool) (M : Mem) : Option (Int32 × Mem) :=
  (f_X3_get x3 ((x6 + x7) - 1) M).bind fun v10 =>
  if x6 ≤ 0 then
  (f_X6_woven_111 k29 k39 x0 x1 x2 x3 x4 x5 x6 x7 (jz s0) v10 M)
  else
  ((f_X10_digitAt x1 (x6 - 1)).bind fun v12 =>
  if v12 = v10 then
  ((gR M 6 x0 4).bind fun v14 =>
  (rR 4 M v14 (x6 - 1)).bind fun w15 =>
  (rI M w15 x7).bind fun v16 =>
  f_X6_woven_111 k29 k39 x0 x1 x2 x3 x4 x5 x6 x7 ((jz s0) + v16) v10 M)
  else
  (f_X6_woven_111 k29 k39 x0 x1 x2 x3 x4 x5 x6 x7 (jz s0) v10 M))
set_option maxHeartbeats 4000000 in
theorem t_X6_woven_61 {X : XV} {d : Nat} (hd : 3 ≤ d + 1) {k29 : Nat → Int32 → Int32 → Nat → Int32 → Int32 → Int32 → Mem → Option (Int32 × Mem)} (hk29 : ∀ (x0 : Nat) (x1 : Int32) (x2 : Int32) (x3 : Nat) (x4 : Int32) (x5 : Int32) (x6 : Int32) (M : Mem) (res : Int32 × Mem), k29 x0 x1 x2 x3 x4 x5 x6 M = some res → Ex X (d + 1) mX6_woven 29 [(0, .ref x0), (1, .int x1), (2, .int x2), (3, .ref x3), (4, .int x4), (5, .int x5), (6, .int x6)] [] M (some (.int res.1)) res.2) {k39 : Nat → Int32 → Int32 → Nat → Int32 → Int32 → Int32 → Int32 → Mem → Option (Int32 × Mem)} (hk39 : ∀ (x0 : Nat) (x1 : Int32) (x2 : Int32) (x3 : Nat) (x4 : Int32) (x5 : Int32) (x6 : Int32) (x7 : Int32) (M : Mem) (res : Int32 × Mem), k39 x0 x1 x2 x3 x4 x5 x6 x7 M = some res → Ex X (d + 1) mX6_woven 39 [(0, .ref x0), (1, .int x1), (2, .int x2), (3, .ref x3), (4, .int x4), (5, .int x5), (6, .int x6), (7, .int x7)] [] M (some (.int res.1)) res.2) : ∀ (x0 : Nat) (x1 : Int32) (x2 : Int32) (x3 : Nat) (x4 : Int32) (x5 : Int32) (x6 : Int32) (x7 : Int32) (s0 : Bool) (M : Mem) (res : Int32 × Mem), f_X6_woven_61 k29 k39 x0 x1 x2 x3 x4 x5 x6 x7 s0 M = some res → Ex X (d + 1) mX6_woven 61 [(0, .ref x0), (1, .int x1), (2, .int x2), (3, .ref x3), (4, .int x4), (5, .int x5), (6, .int x6), (7, .int x7)] [.int (jz s0)] M (some (.int res.1)) res.2 := by
  intro x0 x1 x2 x3 x4 x5 x6 x7 s0 M res  h
  unfold f_X6_woven_61 at h
  refine ex_istore (pc := 61) [(8, .int (jz s0)), (0, .ref x0), (1, .int x1), (2, .int x2), (3, .ref x3), (4, .int x4), (5, .int x5), (6, .int x6), (7, .int x7)] dX6_woven_61 (by decide) rfl ?_
  refine ex_aload_n (pc := 63) 4 dX6_woven_63 rfl rfl ?_
  refine ex_iload (pc := 64) 7 dX6_woven_64 rfl ?_
  refine ex_iload (pc := 66) 8 dX6_woven_66 rfl ?_
  refine ex_iadd (pc := 68) dX6_woven_68 ?_
  refine ex_iconst (pc := 69) 1 dX6_woven_69 rfl ?_
  refine ex_isub (pc := 70) dX6_woven_70 ?_
  obtain ⟨v10, ev10, h⟩ := ob_some h
  refine ex_callV1r (pc := 71) dX6_woven_71 jX3_get lmX6_89 jiX3_get jvX3_get (o_X3_get ev10) rfl (Nat.le_of_ble_eq_true rfl) (s_X3_get (by omega)  ev10) ?_
  refine ex_istore (pc := 74) [(9, .int v10), (8, .int (jz s0)), (0, .ref x0), (1, .int x1), (2, .int x2), (3, .ref x3), (4, .int x4), (5, .int x5), (6, .int x6), (7, .int x7)] dX6_woven_74 (by decide) rfl ?_
  refine ex_iload (pc := 76) 8 dX6_woven_76 rfl ?_
  by_cases c11 : x6 ≤ 0
  · rw [if_pos c11] at h
    refine ex_if_le_t (pc := 78) 111 dX6_woven_78 rfl c11 ?_
    refine ex_sub (lo' := [(0, .ref x0), (1, .int x1), (2, .int x2), (3, .ref x3), (4, .int x4), (5, .int x5), (6, .int x6), (7, .int x7), (8, .int (jz s0)), (9, .int v10)]) [2, 3, 4, 5, 6, 7, 8, 9, 1, 0] rfl ?_
    exact t_X6_woven_111 hd hk29 hk39 _ _ _ _ _ _ _ _ _ _ _ _  h
  · rw [if_neg c11] at h
    refine ex_if_le_f (pc := 78) dX6_woven_78 111 rfl c11 ?_
    refine ex_iload_n (pc := 81) 3 dX6_woven_81 rfl rfl ?_
    refine ex_iload (pc := 82) 8 dX6_woven_82 rfl ?_
    refine ex_iconst (pc := 84) 1 dX6_woven_84 rfl ?_
    refine ex_isub (pc := 85) dX6_woven_85 ?_
    obtain ⟨v12, ev12, h⟩ := ob_some h
    refine ex_callSN2r (pc := 86) dX6_woven_86 jX10_digitAt lnX6_51 jsX10_digitAt (Nat.le_of_ble_eq_true rfl) (s_X10_digitAt (by omega)  ev12) ?_
    refine ex_iload (pc := 89) 0 dX6_woven_89 rfl ?_
    by_cases c13 : v12 = v10
    · rw [if_pos c13] at h
      refine ex_icmp_ne_f (pc := 91) dX6_woven_91 111 rfl c13 ?_
      refine ex_iload (pc := 94) 1 dX6_woven_94 rfl ?_
      refine ex_aload_n (pc := 96) 2 dX6_woven_96 rfl rfl ?_
      obtain ⟨v14, ev14, h⟩ := ob_some h
      refine ex_gR (pc := 97) ev14 dX6_woven_97 lfX6_32 ?_
      refine ex_iload (pc := 100) 8 dX6_woven_100 rfl ?_
      refine ex_iconst (pc := 102) 1 dX6_woven_102 rfl ?_
      refine ex_isub (pc := 103) dX6_woven_103 ?_
      obtain ⟨w15, ew15, h⟩ := ob_some h
      refine ex_rR (pc := 104) ew15 (by decide) dX6_woven_104 ?_
      refine ex_iload (pc := 105) 9 dX6_woven_105 rfl ?_
      obtain ⟨v16, ev16, h⟩ := ob_some h
      refine ex_rI (pc := 107) ev16 dX6_woven_107 ?_
      refine ex_iadd (pc := 108) dX6_woven_108 ?_
      refine ex_istore (pc := 109) [(8, .int ((jz s0) + v16)), (9, .int v10), (0, .ref x0), (1, .int x1), (2, .int x2), (3, .ref x3), (4, .int x4), (5, .int x5), (6, .int x6), (7, .int x7)] dX6_woven_109 (by decide) rfl ?_
      refine ex_sub (lo' := [(0, .ref x0), (1, .int x1), (2, .int x2), (3, .ref x3), (4, .int x4), (5, .int x5), (6, .int x6), (7, .int x7), (8, .int ((jz s0) + v16)), (9, .int v10)]) [2, 3, 4, 5, 6, 7, 8, 9, 0, 1] rfl ?_
      exact t_X6_woven_111 hd hk29 hk39 _ _ _ _ _ _ _ _ _ _ _ _  h
    · rw [if_neg c13] at h
      refine ex_icmp_ne_t (pc := 91) 111 dX6_woven_91 rfl c13 ?_
      refine ex_sub (lo' := [(0, .ref x0), (1, .int x1), (2, .int x2), (3, .ref x3), (4, .int x4), (5, .int x5), (6, .int x6), (7, .int x7), (8, .int (jz s0)), (9, .int v10)]) [2, 3, 4, 5, 6, 7, 8, 9, 1, 0] rfl ?_
      exact t_X6_woven_111 hd hk29 hk39 _ _ _ _ _ _ _ _ _ _ _ _  h
noncomputable def f_X6_woven_60 (k29 : Nat → Int32 → Int32 → Nat → Int32 → Int32 → Int32 → Mem → Option (Int32 × Mem)) (k39 : Nat → Int32 → Int32 → Nat → Int32 → Int32 → Int32 → Int32 → Mem → Option (Int32 × Mem)) (x0 : Nat) (x1 : Int32) (x2 : Int32) (x3 : Nat) (x4 : Int32) (x5 : Int32) (x6 : Int32) (x7 : Int32) (M : Mem) : Option (Int32 × Mem) :=
  f_X6_woven_61 k29 k39 x0 x1 x2 x3 x4 x5 x6 x7 false M
set_option maxHeartbeats 4000000 in
theorem t_X6_woven_60 {X : XV} {d : Nat} (hd : 3 ≤ d + 1) {k29 : Nat → Int32 → Int32 → Nat → Int32 → Int32 → Int32 → Mem → Option (Int32 × Mem)} (hk29 : ∀ (x0 : Nat) (x1 : Int32) (x2 : Int32) (x3 : Nat) (x4 : Int32) (x5 : Int32) (x6 : Int32) (M : Mem) (res : Int32 × Mem), k29 x0 x1 x2 x3 x4 x5 x6 M = some res → Ex X (d + 1) mX6_woven 29 [(0, .ref x0), (1, .int x1), (2, .int x2), (3, .ref x3), (4, .int x4), (5, .int x5), (6, .int x6)] [] M (some (.int res.1)) res.2) {k39 : Nat → Int32 → Int32 → Nat → Int32 → Int32 → Int32 → Int32 → Mem → Option (Int32 × Mem)} (hk39 : ∀ (x0 : Nat) (x1 : Int32) (x2 : Int32) (x3 : Nat) (x4 : Int32) (x5 : Int32) (x6 : Int32) (x7 : Int32) (M : Mem) (res : Int32 × Mem), k39 x0 x1 x2 x3 x4 x5 x6 x7 M = some res → Ex X (d + 1) mX6_woven 39 [(0, .ref x0), (1, .int x1), (2, .int x2), (3, .ref x3), (4, .int x4), (5, .int x5), (6, .int x6), (7, .int x7)] [] M (some (.int res.1)) res.2) : ∀ (x0 : Nat) (x1 : Int32) (x2 : Int32) (x3 : Nat) (x4 : Int32) (x5 : Int32) (x6 : Int32) (x7 : Int32) (M : Mem) (res : Int32 × Mem), f_X6_woven_60 k29 k39 x0 x1 x2 x3 x4 x5 x6 x7 M = some res → Ex X (d + 1) mX6_woven 60 [(0, .ref x0), (1, .int x1), (2, .int x2), (3, .ref x3), (4, .int x4), (5, .int x5), (6, .int x6), (7, .int x7)] [] M (some (.int res.1)) res.2 := by
  intro x0 x1 x2 x3 x4 x5 x6 x7 M res  h
  unfold f_X6_woven_60 at h
  refine ex_iconst (pc := 60) 0 dX6_woven_60 rfl ?_
  refine ex_sub (lo' := [(0, .ref x0), (1, .int x1), (2, .int x2), (3, .ref x3), (4, .int x4), (5, .int x5), (6, .int x6), (7, .int x7)]) [0, 1, 2, 3, 4, 5, 6, 7] rfl ?_
  exact t_X6_woven_61 hd hk29 hk39 _ _ _ _ _ _ _ _ _ _ _  h
noncomputable def f_X6_woven_39 (n0 : Nat) (k29 : Nat → Int32 → Int32 → Nat → Int32 → Int32 → Int32 → Mem → Option (Int32 × Mem)) (x0 : Nat) (x1 : Int32) (x2 : Int32) (x3 : Nat) (x4 : Int32) (x5 : Int32) (x6 : Int32) (x7 : Int32) (M : Mem) : Option (Int32 × Mem) :=
  match n0 with
  | 0 => none
  | n + 1 =>
    if x5 < x7 then
    (k29 x0 x1 x2 x3 x4 x5 (x6 + 1) M)
    else
    (if x6 = 0 then
    (if x7 = 0 then
    (f_X6_woven_61 k29 (f_X6_woven_39 n k29) x0 x1 x2 x3 x4 x5 x6 x7 true M)
    else
    (f_X6_woven_60 k29 (f_X6_woven_39 n k29) x0 x1 x2 x3 x4 x5 x6 x7 M))
    else
    (f_X6_woven_60 k29 (f_X6_woven_39 n k29) x0 x1 x2 x3 x4 x5 x6 x7 M))
set_option maxHeartbeats 4000000 in
theorem t_X6_woven_39 {X : XV} {d : Nat} (hd : 3 ≤ d + 1) {k29 : Nat → Int32 → Int32 → Nat → Int32 → Int32 → Int32 → Mem → Option (Int32 × Mem)} (hk29 : ∀ (x0 : Nat) (x1 : Int32) (x2 : Int32) (x3 : Nat) (x4 : Int32) (x5 : Int32) (x6 : Int32) (M : Mem) (res : Int32 × Mem), k29 x0 x1 x2 x3 x4 x5 x6 M = some res → Ex X (d + 1) mX6_woven 29 [(0, .ref x0), (1, .int x1), (2, .int x2), (3, .ref x3), (4, .int x4), (5, .int x5), (6, .int x6)] [] M (some (.int res.1)) res.2) : ∀ (n : Nat) (x0 : Nat) (x1 : Int32) (x2 : Int32) (x3 : Nat) (x4 : Int32) (x5 : Int32) (x6 : Int32) (x7 : Int32) (M : Mem) (res : Int32 × Mem), f_X6_woven_39 n k29 x0 x1 x2 x3 x4 x5 x6 x7 M = some res → Ex X (d + 1) mX6_woven 39 [(0, .ref x0), (1, .int x1), (2, .int x2), (3, .ref x3), (4, .int x4), (5, .int x5), (6, .int x6), (7, .int x7)] [] M (some (.int res.1)) res.2 := by
  intro n
  induction n with
  | zero =>
    intro x0 x1 x2 x3 x4 x5 x6 x7 M res  h
    unfold f_X6_woven_39 at h
    cases h
  | succ n ih =>
    intro x0 x1 x2 x3 x4 x5 x6 x7 M res  h
    unfold f_X6_woven_39 at h
    refine ex_iload (pc := 39) 7 dX6_woven_39 rfl ?_
    refine ex_iload (pc := 41) 5 dX6_woven_41 rfl ?_
    by_cases c17 : x5 < x7
    · rw [if_pos c17] at h
      refine ex_icmp_gt_t (pc := 43) 164 dX6_woven_43 rfl c17 ?_
      refine ex_iinc (pc := 164) (x6 + 1) 6 [(6, .int (x6 + 1)), (0, .ref x0), (1, .int x1), (2, .int x2), (3, .ref x3), (4, .int x4), (5, .int x5), (7, .int x7)] dX6_woven_164 rfl rfl (by decide) rfl ?_
      refine ex_goto (pc := 167) 29 dX6_woven_167 rfl ?_
      refine ex_sub (lo' := [(0, .ref x0), (1, .int x1), (2, .int x2), (3, .ref x3), (4, .int x4), (5, .int x5), (6, .int (x6 + 1))]) [1, 2, 3, 4, 5, 6, 0] rfl ?_
      exact hk29 _ _ _ _ _ _ _ _ _  h
    · rw [if_neg c17] at h
      refine ex_icmp_gt_f (pc := 43) dX6_woven_43 164 rfl c17 ?_
      refine ex_iload (pc := 46) 6 dX6_woven_46 rfl ?_
      by_cases c18 : x6 = 0
      · rw [if_pos c18] at h
        refine ex_if_ne_f (pc := 48) dX6_woven_48 60 rfl c18 ?_
        refine ex_iload (pc := 51) 7 dX6_woven_51 rfl ?_
        by_cases c19 : x7 = 0
        · rw [if_pos c19] at h
          refine ex_if_ne_f (pc := 53) dX6_woven_53 60 rfl c19 ?_
          refine ex_iconst (pc := 56) 1 dX6_woven_56 rfl ?_
          refine ex_goto (pc := 57) 61 dX6_woven_57 rfl ?_
          refine ex_sub (lo' := [(0, .ref x0), (1, .int x1), (2, .int x2), (3, .ref x3), (4, .int x4), (5, .int x5), (6, .int x6), (7, .int x7)]) [0, 1, 2, 3, 4, 5, 6, 7] rfl ?_
          exact t_X6_woven_61 hd hk29 ih _ _ _ _ _ _ _ _ _ _ _  h
        · rw [if_neg c19] at h
          refine ex_if_ne_t (pc := 53) 60 dX6_woven_53 rfl c19 ?_
          refine ex_sub (lo' := [(0, .ref x0), (1, .int x1), (2, .int x2), (3, .ref x3), (4, .int x4), (5, .int x5), (6, .int x6), (7, .int x7)]) [0, 1, 2, 3, 4, 5, 6, 7] rfl ?_
          exact t_X6_woven_60 hd hk29 ih _ _ _ _ _ _ _ _ _ _  h
      · rw [if_neg c18] at h
        refine ex_if_ne_t (pc := 48) 60 dX6_woven_48 rfl c18 ?_
        refine ex_sub (lo' := [(0, .ref x0), (1, .int x1), (2, .int x2), (3, .ref x3), (4, .int x4), (5, .int x5), (6, .int x6), (7, .int x7)]) [0, 1, 2, 3, 4, 5, 6, 7] rfl ?_
        exact t_X6_woven_60 hd hk29 ih _ _ _ _ _ _ _ _ _ _  h
noncomputable def f_X6_woven_29 (n0 : Nat) (x0 : Nat) (x1 : Int32) (x2 : Int32) (x3 : Nat) (x4 : Int32) (x5 : Int32) (x6 : Int32) (M : Mem) : Option (Int32 × Mem) :=
  match n0 with
  | 0 => none
  | n + 1 =>
    if x4 < x6 then
    ((gR M 6 x0 4).bind fun v21 =>
    (rR 4 M v21 x4).bind fun w22 =>
    (rI M w22 x5).bind fun v23 =>
    some (v23, M))
    else
    (f_X6_woven_39 fu (f_X6_woven_29 n) x0 x1 x2 x3 x4 x5 x6 0 M)
set_option maxHeartbeats 4000000 in
theorem t_X6_woven_29 {X : XV} {d : Nat} (hd : 3 ≤ d + 1) : ∀ (n : Nat) (x0 : Nat) (x1 : Int32) (x2 : Int32) (x3 : Nat) (x4 : Int32) (x5 : Int32) (x6 : Int32) (M : Mem) (res : Int32 × Mem), f_X6_woven_29 n  x0 x1 x2 x3 x4 x5 x6 M = some res → Ex X (d + 1) mX6_woven 29 [(0, .ref x0), (1, .int x1), (2, .int x2), (3, .ref x3), (4, .int x4), (5, .int x5), (6, .int x6)] [] M (some (.int res.1)) res.2 := by
  intro n
  induction n with
  | zero =>
    intro x0 x1 x2 x3 x4 x5 x6 M res  h
    unfold f_X6_woven_29 at h
    cases h
  | succ n ih =>
    intro x0 x1 x2 x3 x4 x5 x6 M res  h
    unfold f_X6_woven_29 at h
    refine ex_iload (pc := 29) 6 dX6_woven_29 rfl ?_
    refine ex_iload (pc := 31) 4 dX6_woven_31 rfl ?_
    by_cases c20 : x4 < x6
    · rw [if_pos c20] at h
      refine ex_icmp_gt_t (pc := 33) 170 dX6_woven_33 rfl c20 ?_
      refine ex_aload_n (pc := 170) 0 dX6_woven_170 rfl rfl ?_
      obtain ⟨v21, ev21, h⟩ := ob_some h
      refine ex_gR (pc := 171) ev21 dX6_woven_171 lfX6_32 ?_
      refine ex_iload (pc := 174) 4 dX6_woven_174 rfl ?_
      obtain ⟨w22, ew22, h⟩ := ob_some h
      refine ex_rR (pc := 176) ew22 (by decide) dX6_woven_176 ?_
      refine ex_iload (pc := 177) 5 dX6_woven_177 rfl ?_
      obtain ⟨v23, ev23, h⟩ := ob_some h
      refine ex_rI (pc := 179) ev23 dX6_woven_179 ?_
      cases h
      exact ex_ireturn (pc := 180) dX6_woven_180
    · rw [if_neg c20] at h
      refine ex_icmp_gt_f (pc := 33) dX6_woven_33 170 rfl c20 ?_
      refine ex_iconst (pc := 36) 0 dX6_woven_36 rfl ?_
      refine ex_istore (pc := 37) [(7, .int 0), (0, .ref x0), (1, .int x1), (2, .int x2), (3, .ref x3), (4, .int x4), (5, .int x5), (6, .int x6)] dX6_woven_37 (by decide) rfl ?_
      refine ex_sub (lo' := [(0, .ref x0), (1, .int x1), (2, .int x2), (3, .ref x3), (4, .int x4), (5, .int x5), (6, .int x6), (7, .int 0)]) [1, 2, 3, 4, 5, 6, 7, 0] rfl ?_
      exact t_X6_woven_39 hd ih _ _ _ _ _ _ _ _ _ _ _  h
noncomputable def f_X6_woven_0 (x0 : Nat) (x1 : Int32) (x2 : Int32) (x3 : Nat) (M : Mem) : Option (Int32 × Mem) :=
  (f_X10_digitCount x1).bind fun v24 =>
  (f_X10_digitCount x2).bind fun v25 =>
  (gI M 3 x3 1).bind fun v26 =>
  if (v24 + v25) = v26 then
  (f_X6_woven_29 fu x0 x1 x2 x3 v24 v25 0 M)
  else
  (some (0, M))
set_option maxHeartbeats 4000000 in
theorem t_X6_woven_0 {X : XV} {d : Nat} (hd : 3 ≤ d + 1) : ∀ (x0 : Nat) (x1 : Int32) (x2 : Int32) (x3 : Nat) (M : Mem) (res : Int32 × Mem), f_X6_woven_0  x0 x1 x2 x3 M = some res → Ex X (d + 1) mX6_woven 0 [(0, .ref x0), (1, .int x1), (2, .int x2), (3, .ref x3)] [] M (some (.int res.1)) res.2 := by
  intro x0 x1 x2 x3 M res  h
  unfold f_X6_woven_0 at h
  refine ex_iload_n (pc := 0) 1 dX6_woven_0 rfl rfl ?_
  obtain ⟨v24, ev24, h⟩ := ob_some h
  refine ex_callSN1r (pc := 1) dX6_woven_1 jX10_digitCount lnX6_47 jsX10_digitCount (Nat.le_of_ble_eq_true rfl) (s_X10_digitCount (by omega)  ev24) ?_
  refine ex_istore (pc := 4) [(4, .int v24), (0, .ref x0), (1, .int x1), (2, .int x2), (3, .ref x3)] dX6_woven_4 (by decide) rfl ?_
  refine ex_iload_n (pc := 6) 3 dX6_woven_6 rfl rfl ?_
  obtain ⟨v25, ev25, h⟩ := ob_some h
  refine ex_callSN1r (pc := 7) dX6_woven_7 jX10_digitCount lnX6_47 jsX10_digitCount (Nat.le_of_ble_eq_true rfl) (s_X10_digitCount (by omega)  ev25) ?_
  refine ex_istore (pc := 10) [(5, .int v25), (4, .int v24), (0, .ref x0), (1, .int x1), (2, .int x2), (3, .ref x3)] dX6_woven_10 (by decide) rfl ?_
  refine ex_iload (pc := 12) 1 dX6_woven_12 rfl ?_
  refine ex_iload (pc := 14) 0 dX6_woven_14 rfl ?_
  refine ex_iadd (pc := 16) dX6_woven_16 ?_
  refine ex_aload_n (pc := 17) 5 dX6_woven_17 rfl rfl ?_
  obtain ⟨v26, ev26, h⟩ := ob_some h
  refine ex_gI (pc := 18) ev26 dX6_woven_18 lfX6_59 ?_
  by_cases c27 : (v24 + v25) = v26
  · rw [if_pos c27] at h
    refine ex_icmp_eq_t (pc := 21) 26 dX6_woven_21 rfl c27 ?_
    refine ex_iconst (pc := 26) 0 dX6_woven_26 rfl ?_
    refine ex_istore (pc := 27) [(6, .int 0), (5, .int v25), (4, .int v24), (0, .ref x0), (1, .int x1), (2, .int x2), (3, .ref x3)] dX6_woven_27 (by decide) rfl ?_
    refine ex_sub (lo' := [(0, .ref x0), (1, .int x1), (2, .int x2), (3, .ref x3), (4, .int v24), (5, .int v25), (6, .int 0)]) [3, 4, 5, 6, 2, 1, 0] rfl ?_
    exact t_X6_woven_29 hd  _ _ _ _ _ _ _ _ _ _  h
  · rw [if_neg c27] at h
    refine ex_icmp_eq_f (pc := 21) dX6_woven_21 26 rfl c27 ?_
    refine ex_iconst (pc := 24) 0 dX6_woven_24 rfl ?_
    cases h
    exact ex_ireturn (pc := 25) dX6_woven_25
noncomputable def f_X6_woven (x0 : Nat) (x1 : Int32) (x2 : Int32) (x3 : Nat) (M : Mem) : Option (Int32 × Mem) := if isOb M 6 x0 = true then f_X6_woven_0 x0 x1 x2 x3 M else none
theorem o_X6_woven {x0 : Nat} {x1 : Int32} {x2 : Int32} {x3 : Nat} {M : Mem} {res : Int32 × Mem} (h : f_X6_woven x0 x1 x2 x3 M = some res) : isO M 6 x0 := by
  unfold f_X6_woven at h
  split at h
  · rename_i hc; exact isOb_iff hc
  · cases h
set_option maxHeartbeats 4000000 in
theorem s_X6_woven {X : XV} {d : Nat} (hd : 3 ≤ d) {x0 : Nat} {x1 : Int32} {x2 : Int32} {x3 : Nat} {M : Mem} {res : Int32 × Mem} (h : f_X6_woven x0 x1 x2 x3 M = some res) : Mx X d mX6_woven [.ref x0, .int x1, .int x2, .ref x3] M (some (.int res.1)) res.2 := by
  obtain ⟨d, rfl⟩ : ∃ e, d = e + 1 := ⟨d - 1, by omega⟩
  unfold f_X6_woven at h
  split at h
  rotate_left
  · cases h
  refine Mx.of (by decide) (Nat.le_of_ble_eq_true rfl) (⟨_, rfl, rfl⟩) ?_
  exact ex_sub (lo' := [(0, .ref x0), (1, .int x1), (2, .int x2), (3, .ref x3)]) [0, 1, 2, 3] rfl (t_X6_woven_0 hd _ _ _ _ _ _  h)
noncomputable def f_X6_next_2 (n0 : Nat) (x0 : Nat) (x2 : Int32) (x3 : Int32) (M : Mem) : Option (Int32) :=
  match n0 with
  | 0 => none
  | n + 1 =>
    (gI M 3 x0 1).bind fun v1 =>
    if v1 ≤ x3 then
    (some (-1))
    else
    ((f_X3_get x0 x3 M).bind fun v3 =>
    if v3 = x2 then
    (some x3)
    else
    (f_X6_next_2 n x0 x2 (x3 + 1) M))
set_option maxHeartbeats 4000000 in
theorem t_X6_next_2 {X : XV} {d : Nat} (hd : 3 ≤ d + 1) : ∀ (n : Nat) (x0 : Nat) (x2 : Int32) (x3 : Int32) (M : Mem) (res : Int32), f_X6_next_2 n  x0 x2 x3 M = some res → Ex X (d + 1) mX6_next 2 [(0, .ref x0), (2, .int x2), (3, .int x3)] [] M (some (.int res)) M := by
  intro n
  induction n with
  | zero =>
    intro x0 x2 x3 M res  h
    unfold f_X6_next_2 at h
    cases h
  | succ n ih =>
    intro x0 x2 x3 M res  h
    unfold f_X6_next_2 at h
    refine ex_iload_n (pc := 2) 2 dX6_next_2 rfl rfl ?_
    refine ex_aload_n (pc := 3) 0 dX6_next_3 rfl rfl ?_
    obtain ⟨v1, ev1, h⟩ := ob_some h
    refine ex_gI (pc := 4) ev1 dX6_next_4 lfX6_59 ?_
    by_cases c2 : v1 ≤ x3
    · rw [if_pos c2] at h
      refine ex_icmp_ge_t (pc := 7) 27 dX6_next_7 rfl c2 ?_
      refine ex_iconst (pc := 27) (-1) dX6_next_27 rfl ?_
      cases h
      exact ex_ireturn (pc := 28) dX6_next_28
    · rw [if_neg c2] at h
      refine ex_icmp_ge_f (pc := 7) dX6_next_7 27 rfl c2 ?_
      refine ex_aload_n (pc := 10) 0 dX6_next_10 rfl rfl ?_
      refine ex_iload_n (pc := 11) 2 dX6_next_11 rfl rfl ?_
      obtain ⟨v3, ev3, h⟩ := ob_some h
      refine ex_callV1r (pc := 12) dX6_next_12 jX3_get lmX6_89 jiX3_get jvX3_get (o_X3_get ev3) rfl (Nat.le_of_ble_eq_true rfl) (s_X3_get (by omega)  ev3) ?_
      refine ex_iload_n (pc := 15) 1 dX6_next_15 rfl rfl ?_
      by_cases c4 : v3 = x2
      · rw [if_pos c4] at h
        refine ex_icmp_ne_f (pc := 16) dX6_next_16 21 rfl c4 ?_
        refine ex_iload_n (pc := 19) 2 dX6_next_19 rfl rfl ?_
        cases h
        exact ex_ireturn (pc := 20) dX6_next_20
      · rw [if_neg c4] at h
        refine ex_icmp_ne_t (pc := 16) 21 dX6_next_16 rfl c4 ?_
        refine ex_iinc (pc := 21) (x3 + 1) 2 [(3, .int (x3 + 1)), (0, .ref x0), (2, .int x2)] dX6_next_21 rfl rfl (by decide) rfl ?_
        refine ex_goto (pc := 24) 2 dX6_next_24 rfl ?_
        refine ex_sub (lo' := [(0, .ref x0), (2, .int x2), (3, .int (x3 + 1))]) [1, 2, 0] rfl ?_
        exact ih _ _ _ _ _  h
noncomputable def f_X6_next_0 (x0 : Nat) (x1 : Int32) (x2 : Int32) (M : Mem) : Option (Int32) :=
  f_X6_next_2 fu x0 x2 x1 M
set_option maxHeartbeats 4000000 in
theorem t_X6_next_0 {X : XV} {d : Nat} (hd : 3 ≤ d + 1) : ∀ (x0 : Nat) (x1 : Int32) (x2 : Int32) (M : Mem) (res : Int32), f_X6_next_0  x0 x1 x2 M = some res → Ex X (d + 1) mX6_next 0 [(0, .ref x0), (1, .int x1), (2, .int x2)] [] M (some (.int res)) M := by
  intro x0 x1 x2 M res  h
  unfold f_X6_next_0 at h
  refine ex_iload_n (pc := 0) 1 dX6_next_0 rfl rfl ?_
  refine ex_istore_n (pc := 1) [(3, .int x1), (0, .ref x0), (1, .int x1), (2, .int x2)] dX6_next_1 rfl (by decide) rfl ?_
  refine ex_sub (lo' := [(0, .ref x0), (2, .int x2), (3, .int x1)]) [1, 3, 0] rfl ?_
  exact t_X6_next_2 hd  _ _ _ _ _ _  h
noncomputable def f_X6_next (x0 : Nat) (x1 : Int32) (x2 : Int32) (M : Mem) : Option (Int32) := f_X6_next_0 x0 x1 x2 M
set_option maxHeartbeats 4000000 in
theorem s_X6_next {X : XV} {d : Nat} (hd : 3 ≤ d) {x0 : Nat} {x1 : Int32} {x2 : Int32} {M : Mem} {res : Int32} (h : f_X6_next x0 x1 x2 M = some res) : Mx X d mX6_next [.ref x0, .int x1, .int x2] M (some (.int res)) M := by
  obtain ⟨d, rfl⟩ : ∃ e, d = e + 1 := ⟨d - 1, by omega⟩
  unfold f_X6_next at h
  refine Mx.of (by decide) (Nat.le_of_ble_eq_true rfl) (⟨_, rfl, rfl⟩) ?_
  exact ex_sub (lo' := [(0, .ref x0), (1, .int x1), (2, .int x2)]) [0, 1, 2] rfl (t_X6_next_0 hd _ _ _ _ _  h)
noncomputable def f_X6_longBehind_0 (x0 : Nat) (x1 : Int32) (x2 : Nat) (x3 : Int32) (x4 : Nat) (x5 : Int32) (M : Mem) : Option (Int32) :=
  (f_X6_next x2 x3 x1 M).bind fun v1 =>
  (f_X6_next x4 x5 x1 M).bind fun v2 =>
  if v1 < 0 then
  (some (-1))
  else
  (if 0 ≤ v2 then
  ((gR M 6 x0 4).bind fun v5 =>
  (rR 4 M v5 (v1 + 1)).bind fun w6 =>
  (rI M w6 (v2 + 1)).bind fun v7 =>
  some v7)
  else
  (some (-1)))
set_option maxHeartbeats 4000000 in
theorem t_X6_longBehind_0 {X : XV} {d : Nat} (hd : 4 ≤ d + 1) : ∀ (x0 : Nat) (x1 : Int32) (x2 : Nat) (x3 : Int32) (x4 : Nat) (x5 : Int32) (M : Mem) (res : Int32), f_X6_longBehind_0  x0 x1 x2 x3 x4 x5 M = some res → Ex X (d + 1) mX6_longBehind 0 [(0, .ref x0), (1, .int x1), (2, .ref x2), (3, .int x3), (4, .ref x4), (5, .int x5)] [] M (some (.int res)) M := by
  intro x0 x1 x2 x3 x4 x5 M res  h
  unfold f_X6_longBehind_0 at h
  refine ex_aload_n (pc := 0) 2 dX6_longBehind_0 rfl rfl ?_
  refine ex_iload_n (pc := 1) 3 dX6_longBehind_1 rfl rfl ?_
  refine ex_iload_n (pc := 2) 1 dX6_longBehind_2 rfl rfl ?_
  obtain ⟨v1, ev1, h⟩ := ob_some h
  refine ex_callS3r (pc := 3) dX6_longBehind_3 jX6_next lmX6_115 jsX6_next (Nat.le_of_ble_eq_true rfl) (s_X6_next (by omega)  ev1) ?_
  refine ex_istore (pc := 6) [(6, .int v1), (0, .ref x0), (1, .int x1), (2, .ref x2), (3, .int x3), (4, .ref x4), (5, .int x5)] dX6_longBehind_6 (by decide) rfl ?_
  refine ex_aload (pc := 8) 5 dX6_longBehind_8 rfl ?_
  refine ex_iload (pc := 10) 6 dX6_longBehind_10 rfl ?_
  refine ex_iload_n (pc := 12) 2 dX6_longBehind_12 rfl rfl ?_
  obtain ⟨v2, ev2, h⟩ := ob_some h
  refine ex_callS3r (pc := 13) dX6_longBehind_13 jX6_next lmX6_115 jsX6_next (Nat.le_of_ble_eq_true rfl) (s_X6_next (by omega)  ev2) ?_
  refine ex_istore (pc := 16) [(7, .int v2), (6, .int v1), (0, .ref x0), (1, .int x1), (2, .ref x2), (3, .int x3), (4, .ref x4), (5, .int x5)] dX6_longBehind_16 (by decide) rfl ?_
  refine ex_iload (pc := 18) 1 dX6_longBehind_18 rfl ?_
  by_cases c3 : v1 < 0
  · rw [if_pos c3] at h
    refine ex_if_lt_t (pc := 20) 28 dX6_longBehind_20 rfl c3 ?_
    refine ex_iconst (pc := 28) (-1) dX6_longBehind_28 rfl ?_
    refine ex_goto (pc := 29) 46 dX6_longBehind_29 rfl ?_
    cases h
    exact ex_ireturn (pc := 46) dX6_longBehind_46
  · rw [if_neg c3] at h
    refine ex_if_lt_f (pc := 20) dX6_longBehind_20 28 rfl c3 ?_
    refine ex_iload (pc := 23) 0 dX6_longBehind_23 rfl ?_
    by_cases c4 : 0 ≤ v2
    · rw [if_pos c4] at h
      refine ex_if_ge_t (pc := 25) 32 dX6_longBehind_25 rfl c4 ?_
      refine ex_aload_n (pc := 32) 2 dX6_longBehind_32 rfl rfl ?_
      obtain ⟨v5, ev5, h⟩ := ob_some h
      refine ex_gR (pc := 33) ev5 dX6_longBehind_33 lfX6_32 ?_
      refine ex_iload (pc := 36) 1 dX6_longBehind_36 rfl ?_
      refine ex_iconst (pc := 38) 1 dX6_longBehind_38 rfl ?_
      refine ex_iadd (pc := 39) dX6_longBehind_39 ?_
      obtain ⟨w6, ew6, h⟩ := ob_some h
      refine ex_rR (pc := 40) ew6 (by decide) dX6_longBehind_40 ?_
      refine ex_iload (pc := 41) 0 dX6_longBehind_41 rfl ?_
      refine ex_iconst (pc := 43) 1 dX6_longBehind_43 rfl ?_
      refine ex_iadd (pc := 44) dX6_longBehind_44 ?_
      obtain ⟨v7, ev7, h⟩ := ob_some h
      refine ex_rI (pc := 45) ev7 dX6_longBehind_45 ?_
      cases h
      exact ex_ireturn (pc := 46) dX6_longBehind_46
    · rw [if_neg c4] at h
      refine ex_if_ge_f (pc := 25) dX6_longBehind_25 32 rfl c4 ?_
      refine ex_iconst (pc := 28) (-1) dX6_longBehind_28 rfl ?_
      refine ex_goto (pc := 29) 46 dX6_longBehind_29 rfl ?_
      cases h
      exact ex_ireturn (pc := 46) dX6_longBehind_46
noncomputable def f_X6_longBehind (x0 : Nat) (x1 : Int32) (x2 : Nat) (x3 : Int32) (x4 : Nat) (x5 : Int32) (M : Mem) : Option (Int32) := if isOb M 6 x0 = true then f_X6_longBehind_0 x0 x1 x2 x3 x4 x5 M else none
theorem o_X6_longBehind {x0 : Nat} {x1 : Int32} {x2 : Nat} {x3 : Int32} {x4 : Nat} {x5 : Int32} {M : Mem} {res : Int32} (h : f_X6_longBehind x0 x1 x2 x3 x4 x5 M = some res) : isO M 6 x0 := by
  unfold f_X6_longBehind at h
  split at h
  · rename_i hc; exact isOb_iff hc
  · cases h
set_option maxHeartbeats 4000000 in
theorem s_X6_longBehind {X : XV} {d : Nat} (hd : 4 ≤ d) {x0 : Nat} {x1 : Int32} {x2 : Nat} {x3 : Int32} {x4 : Nat} {x5 : Int32} {M : Mem} {res : Int32} (h : f_X6_longBehind x0 x1 x2 x3 x4 x5 M = some res) : Mx X d mX6_longBehind [.ref x0, .int x1, .ref x2, .int x3, .ref x4, .int x5] M (some (.int res)) M := by
  obtain ⟨d, rfl⟩ : ∃ e, d = e + 1 := ⟨d - 1, by omega⟩
  unfold f_X6_longBehind at h
  split at h
  rotate_left
  · cases h
  refine Mx.of (by decide) (Nat.le_of_ble_eq_true rfl) (⟨_, rfl, rfl⟩) ?_
  exact ex_sub (lo' := [(0, .ref x0), (1, .int x1), (2, .ref x2), (3, .int x3), (4, .ref x4), (5, .int x5)]) [0, 1, 2, 3, 4, 5] rfl (t_X6_longBehind_0 hd _ _ _ _ _ _ _ _  h)
noncomputable def f_X6_longestInBoth_45 (k13 : Nat → Nat → Nat → Int32 → Mem → Option (Mem)) (k23 : Nat → Nat → Nat → Int32 → Int32 → Mem → Option (Mem)) (x0 : Nat) (x1 : Nat) (x2 : Nat) (x3 : Int32) (x4 : Int32) (M : Mem) : Option (Mem) :=
  (gR M 6 x0 4).bind fun v1 =>
  (rR 4 M v1 x3).bind fun w2 =>
  (wI M w2 x4 0).bind fun q3 =>
  k23 x0 x1 x2 x3 (x4 + (-1)) q3
set_option maxHeartbeats 4000000 in
theorem t_X6_longestInBoth_45 {X : XV} {d : Nat} (hd : 5 ≤ d + 1) {k13 : Nat → Nat → Nat → Int32 → Mem → Option (Mem)} (hk13 : ∀ (x0 : Nat) (x1 : Nat) (x2 : Nat) (x3 : Int32) (M : Mem) (res : Mem), k13 x0 x1 x2 x3 M = some res → Ex X (d + 1) mX6_longestInBoth 13 [(0, .ref x0), (1, .ref x1), (2, .ref x2), (3, .int x3)] [] M none res) {k23 : Nat → Nat → Nat → Int32 → Int32 → Mem → Option (Mem)} (hk23 : ∀ (x0 : Nat) (x1 : Nat) (x2 : Nat) (x3 : Int32) (x4 : Int32) (M : Mem) (res : Mem), k23 x0 x1 x2 x3 x4 M = some res → Ex X (d + 1) mX6_longestInBoth 23 [(0, .ref x0), (1, .ref x1), (2, .ref x2), (3, .int x3), (4, .int x4)] [] M none res) : ∀ (x0 : Nat) (x1 : Nat) (x2 : Nat) (x3 : Int32) (x4 : Int32) (M : Mem) (res : Mem), f_X6_longestInBoth_45 k13 k23 x0 x1 x2 x3 x4 M = some res → Ex X (d + 1) mX6_longestInBoth 45 [(0, .ref x0), (1, .ref x1), (2, .ref x2), (3, .int x3), (4, .int x4)] [] M none res := by
  intro x0 x1 x2 x3 x4 M res  h
  unfold f_X6_longestInBoth_45 at h
  refine ex_aload_n (pc := 45) 0 dX6_longestInBoth_45 rfl rfl ?_
  obtain ⟨v1, ev1, h⟩ := ob_some h
  refine ex_gR (pc := 46) ev1 dX6_longestInBoth_46 lfX6_32 ?_
  refine ex_iload_n (pc := 49) 3 dX6_longestInBoth_49 rfl rfl ?_
  obtain ⟨w2, ew2, h⟩ := ob_some h
  refine ex_rR (pc := 50) ew2 (by decide) dX6_longestInBoth_50 ?_
  refine ex_iload (pc := 51) 4 dX6_longestInBoth_51 rfl ?_
  refine ex_iconst (pc := 53) 0 dX6_longestInBoth_53 rfl ?_
  obtain ⟨q3, eq3, h⟩ := ob_some h
  refine ex_wI (pc := 54) eq3 dX6_longestInBoth_54 ?_
  refine ex_goto (pc := 55) 133 dX6_longestInBoth_55 rfl ?_
  refine ex_iinc (pc := 133) (x4 + (-1)) 4 [(4, .int (x4 + (-1))), (0, .ref x0), (1, .ref x1), (2, .ref x2), (3, .int x3)] dX6_longestInBoth_133 rfl rfl (by decide) rfl ?_
  refine ex_goto (pc := 136) 23 dX6_longestInBoth_136 rfl ?_
  refine ex_sub (lo' := [(0, .ref x0), (1, .ref x1), (2, .ref x2), (3, .int x3), (4, .int (x4 + (-1)))]) [1, 2, 3, 4, 0] rfl ?_
  exact hk23 _ _ _ _ _ _ _  h
noncomputable def f_X6_longestInBoth_23 (n0 : Nat) (k13 : Nat → Nat → Nat → Int32 → Mem → Option (Mem)) (x0 : Nat) (x1 : Nat) (x2 : Nat) (x3 : Int32) (x4 : Int32) (M : Mem) : Option (Mem) :=
  match n0 with
  | 0 => none
  | n + 1 =>
    if x4 < 0 then
    (k13 x0 x1 x2 (x3 + (-1)) M)
    else
    ((gI M 3 x1 1).bind fun v5 =>
    if x3 = v5 then
    (f_X6_longestInBoth_45 k13 (f_X6_longestInBoth_23 n k13) x0 x1 x2 x3 x4 M)
    else
    ((gI M 3 x2 1).bind fun v7 =>
    if x4 = v7 then
    (f_X6_longestInBoth_45 k13 (f_X6_longestInBoth_23 n k13) x0 x1 x2 x3 x4 M)
    else
    ((f_X3_get x1 x3 M).bind fun v9 =>
    (f_X3_get x2 x4 M).bind fun v10 =>
    if v9 = v10 then
    ((gR M 6 x0 4).bind fun v21 =>
    (rR 4 M v21 x3).bind fun w22 =>
    (gR M 6 x0 4).bind fun v23 =>
    (rR 4 M v23 (x3 + 1)).bind fun w24 =>
    (rI M w24 (x4 + 1)).bind fun v25 =>
    (wI M w22 x4 (1 + v25)).bind fun q26 =>
    f_X6_longestInBoth_23 n k13 x0 x1 x2 x3 (x4 + (-1)) q26)
    else
    ((gR M 6 x0 4).bind fun v12 =>
    (rR 4 M v12 x3).bind fun w13 =>
    (gR M 6 x0 4).bind fun v14 =>
    (rR 4 M v14 (x3 + 1)).bind fun w15 =>
    (rI M w15 x4).bind fun v16 =>
    (gR M 6 x0 4).bind fun v17 =>
    (rR 4 M v17 x3).bind fun w18 =>
    (rI M w18 (x4 + 1)).bind fun v19 =>
    (wI M w13 x4 (jmax v16 v19)).bind fun q20 =>
    f_X6_longestInBoth_23 n k13 x0 x1 x2 x3 (x4 + (-1)) q20))))
set_option maxHeartbeats 4000000 in
theorem t_X6_longestInBoth_23 {X : XV} {d : Nat} (hd : 5 ≤ d + 1) {k13 : Nat → Nat → Nat → Int32 → Mem → Option (Mem)} (hk13 : ∀ (x0 : Nat) (x1 : Nat) (x2 : Nat) (x3 : Int32) (M : Mem) (res : Mem), k13 x0 x1 x2 x3 M = some res → Ex X (d + 1) mX6_longestInBoth 13 [(0, .ref x0), (1, .ref x1), (2, .ref x2), (3, .int x3)] [] M none res) : ∀ (n : Nat) (x0 : Nat) (x1 : Nat) (x2 : Nat) (x3 : Int32) (x4 : Int32) (M : Mem) (res : Mem), f_X6_longestInBoth_23 n k13 x0 x1 x2 x3 x4 M = some res → Ex X (d + 1) mX6_longestInBoth 23 [(0, .ref x0), (1, .ref x1), (2, .ref x2), (3, .int x3), (4, .int x4)] [] M none res := by
  intro n
  induction n with
  | zero =>
    intro x0 x1 x2 x3 x4 M res  h
    unfold f_X6_longestInBoth_23 at h
    cases h
  | succ n ih =>
    intro x0 x1 x2 x3 x4 M res  h
    unfold f_X6_longestInBoth_23 at h
    refine ex_iload (pc := 23) 4 dX6_longestInBoth_23 rfl ?_
    by_cases c4 : x4 < 0
    · rw [if_pos c4] at h
      refine ex_if_lt_t (pc := 25) 139 dX6_longestInBoth_25 rfl c4 ?_
      refine ex_iinc (pc := 139) (x3 + (-1)) 3 [(3, .int (x3 + (-1))), (0, .ref x0), (1, .ref x1), (2, .ref x2), (4, .int x4)] dX6_longestInBoth_139 rfl rfl (by decide) rfl ?_
      refine ex_goto (pc := 142) 13 dX6_longestInBoth_142 rfl ?_
      refine ex_sub (lo' := [(0, .ref x0), (1, .ref x1), (2, .ref x2), (3, .int (x3 + (-1)))]) [1, 2, 3, 0] rfl ?_
      exact hk13 _ _ _ _ _ _  h
    · rw [if_neg c4] at h
      refine ex_if_lt_f (pc := 25) dX6_longestInBoth_25 139 rfl c4 ?_
      refine ex_iload_n (pc := 28) 3 dX6_longestInBoth_28 rfl rfl ?_
      refine ex_aload_n (pc := 29) 1 dX6_longestInBoth_29 rfl rfl ?_
      obtain ⟨v5, ev5, h⟩ := ob_some h
      refine ex_gI (pc := 30) ev5 dX6_longestInBoth_30 lfX6_59 ?_
      by_cases c6 : x3 = v5
      · rw [if_pos c6] at h
        refine ex_icmp_eq_t (pc := 33) 45 dX6_longestInBoth_33 rfl c6 ?_
        refine ex_sub (lo' := [(0, .ref x0), (1, .ref x1), (2, .ref x2), (3, .int x3), (4, .int x4)]) [0, 1, 2, 3, 4] rfl ?_
        exact t_X6_longestInBoth_45 hd hk13 ih _ _ _ _ _ _ _  h
      · rw [if_neg c6] at h
        refine ex_icmp_eq_f (pc := 33) dX6_longestInBoth_33 45 rfl c6 ?_
        refine ex_iload (pc := 36) 4 dX6_longestInBoth_36 rfl ?_
        refine ex_aload_n (pc := 38) 2 dX6_longestInBoth_38 rfl rfl ?_
        obtain ⟨v7, ev7, h⟩ := ob_some h
        refine ex_gI (pc := 39) ev7 dX6_longestInBoth_39 lfX6_59 ?_
        by_cases c8 : x4 = v7
        · rw [if_pos c8] at h
          refine ex_icmp_ne_f (pc := 42) dX6_longestInBoth_42 58 rfl c8 ?_
          refine ex_sub (lo' := [(0, .ref x0), (1, .ref x1), (2, .ref x2), (3, .int x3), (4, .int x4)]) [0, 1, 2, 3, 4] rfl ?_
          exact t_X6_longestInBoth_45 hd hk13 ih _ _ _ _ _ _ _  h
        · rw [if_neg c8] at h
          refine ex_icmp_ne_t (pc := 42) 58 dX6_longestInBoth_42 rfl c8 ?_
          refine ex_aload_n (pc := 58) 1 dX6_longestInBoth_58 rfl rfl ?_
          refine ex_iload_n (pc := 59) 3 dX6_longestInBoth_59 rfl rfl ?_
          obtain ⟨v9, ev9, h⟩ := ob_some h
          refine ex_callV1r (pc := 60) dX6_longestInBoth_60 jX3_get lmX6_89 jiX3_get jvX3_get (o_X3_get ev9) rfl (Nat.le_of_ble_eq_true rfl) (s_X3_get (by omega)  ev9) ?_
          refine ex_aload_n (pc := 63) 2 dX6_longestInBoth_63 rfl rfl ?_
          refine ex_iload (pc := 64) 4 dX6_longestInBoth_64 rfl ?_
          obtain ⟨v10, ev10, h⟩ := ob_some h
          refine ex_callV1r (pc := 66) dX6_longestInBoth_66 jX3_get lmX6_89 jiX3_get jvX3_get (o_X3_get ev10) rfl (Nat.le_of_ble_eq_true rfl) (s_X3_get (by omega)  ev10) ?_
          by_cases c11 : v9 = v10
          · rw [if_pos c11] at h
            refine ex_icmp_ne_f (pc := 69) dX6_longestInBoth_69 99 rfl c11 ?_
            refine ex_aload_n (pc := 72) 0 dX6_longestInBoth_72 rfl rfl ?_
            obtain ⟨v21, ev21, h⟩ := ob_some h
            refine ex_gR (pc := 73) ev21 dX6_longestInBoth_73 lfX6_32 ?_
            refine ex_iload_n (pc := 76) 3 dX6_longestInBoth_76 rfl rfl ?_
            obtain ⟨w22, ew22, h⟩ := ob_some h
            refine ex_rR (pc := 77) ew22 (by decide) dX6_longestInBoth_77 ?_
            refine ex_iload (pc := 78) 4 dX6_longestInBoth_78 rfl ?_
            refine ex_iconst (pc := 80) 1 dX6_longestInBoth_80 rfl ?_
            refine ex_aload_n (pc := 81) 0 dX6_longestInBoth_81 rfl rfl ?_
            obtain ⟨v23, ev23, h⟩ := ob_some h
            refine ex_gR (pc := 82) ev23 dX6_longestInBoth_82 lfX6_32 ?_
            refine ex_iload_n (pc := 85) 3 dX6_longestInBoth_85 rfl rfl ?_
            refine ex_iconst (pc := 86) 1 dX6_longestInBoth_86 rfl ?_
            refine ex_iadd (pc := 87) dX6_longestInBoth_87 ?_
            obtain ⟨w24, ew24, h⟩ := ob_some h
            refine ex_rR (pc := 88) ew24 (by decide) dX6_longestInBoth_88 ?_
            refine ex_iload (pc := 89) 4 dX6_longestInBoth_89 rfl ?_
            refine ex_iconst (pc := 91) 1 dX6_longestInBoth_91 rfl ?_
            refine ex_iadd (pc := 92) dX6_longestInBoth_92 ?_
            obtain ⟨v25, ev25, h⟩ := ob_some h
            refine ex_rI (pc := 93) ev25 dX6_longestInBoth_93 ?_
            refine ex_iadd (pc := 94) dX6_longestInBoth_94 ?_
            obtain ⟨q26, eq26, h⟩ := ob_some h
            refine ex_wI (pc := 95) eq26 dX6_longestInBoth_95 ?_
            refine ex_goto (pc := 96) 133 dX6_longestInBoth_96 rfl ?_
            refine ex_iinc (pc := 133) (x4 + (-1)) 4 [(4, .int (x4 + (-1))), (0, .ref x0), (1, .ref x1), (2, .ref x2), (3, .int x3)] dX6_longestInBoth_133 rfl rfl (by decide) rfl ?_
            refine ex_goto (pc := 136) 23 dX6_longestInBoth_136 rfl ?_
            refine ex_sub (lo' := [(0, .ref x0), (1, .ref x1), (2, .ref x2), (3, .int x3), (4, .int (x4 + (-1)))]) [1, 2, 3, 4, 0] rfl ?_
            exact ih _ _ _ _ _ _ _  h
          · rw [if_neg c11] at h
            refine ex_icmp_ne_t (pc := 69) 99 dX6_longestInBoth_69 rfl c11 ?_
            refine ex_aload_n (pc := 99) 0 dX6_longestInBoth_99 rfl rfl ?_
            obtain ⟨v12, ev12, h⟩ := ob_some h
            refine ex_gR (pc := 100) ev12 dX6_longestInBoth_100 lfX6_32 ?_
            refine ex_iload_n (pc := 103) 3 dX6_longestInBoth_103 rfl rfl ?_
            obtain ⟨w13, ew13, h⟩ := ob_some h
            refine ex_rR (pc := 104) ew13 (by decide) dX6_longestInBoth_104 ?_
            refine ex_iload (pc := 105) 4 dX6_longestInBoth_105 rfl ?_
            refine ex_aload_n (pc := 107) 0 dX6_longestInBoth_107 rfl rfl ?_
            obtain ⟨v14, ev14, h⟩ := ob_some h
            refine ex_gR (pc := 108) ev14 dX6_longestInBoth_108 lfX6_32 ?_
            refine ex_iload_n (pc := 111) 3 dX6_longestInBoth_111 rfl rfl ?_
            refine ex_iconst (pc := 112) 1 dX6_longestInBoth_112 rfl ?_
            refine ex_iadd (pc := 113) dX6_longestInBoth_113 ?_
            obtain ⟨w15, ew15, h⟩ := ob_some h
            refine ex_rR (pc := 114) ew15 (by decide) dX6_longestInBoth_114 ?_
            refine ex_iload (pc := 115) 4 dX6_longestInBoth_115 rfl ?_
            obtain ⟨v16, ev16, h⟩ := ob_some h
            refine ex_rI (pc := 117) ev16 dX6_longestInBoth_117 ?_
            refine ex_aload_n (pc := 118) 0 dX6_longestInBoth_118 rfl rfl ?_
            obtain ⟨v17, ev17, h⟩ := ob_some h
            refine ex_gR (pc := 119) ev17 dX6_longestInBoth_119 lfX6_32 ?_
            refine ex_iload_n (pc := 122) 3 dX6_longestInBoth_122 rfl rfl ?_
            obtain ⟨w18, ew18, h⟩ := ob_some h
            refine ex_rR (pc := 123) ew18 (by decide) dX6_longestInBoth_123 ?_
            refine ex_iload (pc := 124) 4 dX6_longestInBoth_124 rfl ?_
            refine ex_iconst (pc := 126) 1 dX6_longestInBoth_126 rfl ?_
            refine ex_iadd (pc := 127) dX6_longestInBoth_127 ?_
            obtain ⟨v19, ev19, h⟩ := ob_some h
            refine ex_rI (pc := 128) ev19 dX6_longestInBoth_128 ?_
            refine ex_mmax (pc := 129) dX6_longestInBoth_129 lmX6_106 (by omega) (Nat.le_of_ble_eq_true rfl) ?_
            obtain ⟨q20, eq20, h⟩ := ob_some h
            refine ex_wI (pc := 132) eq20 dX6_longestInBoth_132 ?_
            refine ex_iinc (pc := 133) (x4 + (-1)) 4 [(4, .int (x4 + (-1))), (0, .ref x0), (1, .ref x1), (2, .ref x2), (3, .int x3)] dX6_longestInBoth_133 rfl rfl (by decide) rfl ?_
            refine ex_goto (pc := 136) 23 dX6_longestInBoth_136 rfl ?_
            refine ex_sub (lo' := [(0, .ref x0), (1, .ref x1), (2, .ref x2), (3, .int x3), (4, .int (x4 + (-1)))]) [1, 2, 3, 4, 0] rfl ?_
            exact ih _ _ _ _ _ _ _  h
noncomputable def f_X6_longestInBoth_199 (k160 : Nat → Nat → Nat → Int32 → Int32 → Int32 → Mem → Option (Mem)) (x0 : Nat) (x1 : Nat) (x2 : Nat) (x3 : Int32) (x4 : Int32) (x5 : Int32) (x6 : Int32) (M : Mem) : Option (Mem) :=
  (gR M 6 x0 0).bind fun v27 =>
  (f_X3_append v27 x6 M).bind fun q28 =>
  (f_X6_next x1 x3 x6 q28.2).bind fun v29 =>
  (f_X6_next x2 x4 x6 q28.2).bind fun v30 =>
  k160 x0 x1 x2 (v29 + 1) (v30 + 1) (x5 + (-1)) q28.2
set_option maxHeartbeats 4000000 in
theorem t_X6_longestInBoth_199 {X : XV} {d : Nat} (hd : 5 ≤ d + 1) {k160 : Nat → Nat → Nat → Int32 → Int32 → Int32 → Mem → Option (Mem)} (hk160 : ∀ (x0 : Nat) (x1 : Nat) (x2 : Nat) (x3 : Int32) (x4 : Int32) (x5 : Int32) (M : Mem) (res : Mem), k160 x0 x1 x2 x3 x4 x5 M = some res → Ex X (d + 1) mX6_longestInBoth 160 [(0, .ref x0), (1, .ref x1), (2, .ref x2), (3, .int x3), (4, .int x4), (5, .int x5)] [] M none res) : ∀ (x0 : Nat) (x1 : Nat) (x2 : Nat) (x3 : Int32) (x4 : Int32) (x5 : Int32) (x6 : Int32) (M : Mem) (res : Mem), f_X6_longestInBoth_199 k160 x0 x1 x2 x3 x4 x5 x6 M = some res → Ex X (d + 1) mX6_longestInBoth 199 [(0, .ref x0), (1, .ref x1), (2, .ref x2), (3, .int x3), (4, .int x4), (5, .int x5), (6, .int x6)] [] M none res := by
  intro x0 x1 x2 x3 x4 x5 x6 M res  h
  unfold f_X6_longestInBoth_199 at h
  refine ex_aload_n (pc := 199) 0 dX6_longestInBoth_199 rfl rfl ?_
  obtain ⟨v27, ev27, h⟩ := ob_some h
  refine ex_gR (pc := 200) ev27 dX6_longestInBoth_200 lfX6_14 ?_
  refine ex_iload (pc := 203) 6 dX6_longestInBoth_203 rfl ?_
  obtain ⟨q28, eq28, h⟩ := ob_some h
  refine ex_callV1r (pc := 205) dX6_longestInBoth_205 jX3_append lmX6_100 jiX3_append jvX3_append (o_X3_append eq28) rfl (Nat.le_of_ble_eq_true rfl) (s_X3_append (by omega)  eq28) ?_
  refine ex_pop (pc := 208) dX6_longestInBoth_208 rfl ?_
  refine ex_aload_n (pc := 209) 1 dX6_longestInBoth_209 rfl rfl ?_
  refine ex_iload_n (pc := 210) 3 dX6_longestInBoth_210 rfl rfl ?_
  refine ex_iload (pc := 211) 6 dX6_longestInBoth_211 rfl ?_
  obtain ⟨v29, ev29, h⟩ := ob_some h
  refine ex_callS3r (pc := 213) dX6_longestInBoth_213 jX6_next lmX6_115 jsX6_next (Nat.le_of_ble_eq_true rfl) (s_X6_next (by omega)  ev29) ?_
  refine ex_iconst (pc := 216) 1 dX6_longestInBoth_216 rfl ?_
  refine ex_iadd (pc := 217) dX6_longestInBoth_217 ?_
  refine ex_istore_n (pc := 218) [(3, .int (v29 + 1)), (0, .ref x0), (1, .ref x1), (2, .ref x2), (4, .int x4), (5, .int x5), (6, .int x6)] dX6_longestInBoth_218 rfl (by decide) rfl ?_
  refine ex_aload_n (pc := 219) 3 dX6_longestInBoth_219 rfl rfl ?_
  refine ex_iload (pc := 220) 4 dX6_longestInBoth_220 rfl ?_
  refine ex_iload (pc := 222) 6 dX6_longestInBoth_222 rfl ?_
  obtain ⟨v30, ev30, h⟩ := ob_some h
  refine ex_callS3r (pc := 224) dX6_longestInBoth_224 jX6_next lmX6_115 jsX6_next (Nat.le_of_ble_eq_true rfl) (s_X6_next (by omega)  ev30) ?_
  refine ex_iconst (pc := 227) 1 dX6_longestInBoth_227 rfl ?_
  refine ex_iadd (pc := 228) dX6_longestInBoth_228 ?_
  refine ex_istore (pc := 229) [(4, .int (v30 + 1)), (3, .int (v29 + 1)), (0, .ref x0), (1, .ref x1), (2, .ref x2), (5, .int x5), (6, .int x6)] dX6_longestInBoth_229 (by decide) rfl ?_
  refine ex_iinc (pc := 231) (x5 + (-1)) 5 [(5, .int (x5 + (-1))), (4, .int (v30 + 1)), (3, .int (v29 + 1)), (0, .ref x0), (1, .ref x1), (2, .ref x2), (6, .int x6)] dX6_longestInBoth_231 rfl rfl (by decide) rfl ?_
  refine ex_goto (pc := 234) 160 dX6_longestInBoth_234 rfl ?_
  refine ex_sub (lo' := [(0, .ref x0), (1, .ref x1), (2, .ref x2), (3, .int (v29 + 1)), (4, .int (v30 + 1)), (5, .int (x5 + (-1)))]) [3, 4, 5, 2, 1, 0] rfl ?_
  exact hk160 _ _ _ _ _ _ _ _  h
noncomputable def f_X6_longestInBoth_168 (n0 : Nat) (k160 : Nat → Nat → Nat → Int32 → Int32 → Int32 → Mem → Option (Mem)) (x0 : Nat) (x1 : Nat) (x2 : Nat) (x3 : Int32) (x4 : Int32) (x5 : Int32) (x6 : Int32) (M : Mem) : Option (Mem) :=
  match n0 with
  | 0 => none
  | n + 1 =>
    if 9 ≤ x6 then
    (f_X6_longestInBoth_199 k160 x0 x1 x2 x3 x4 x5 x6 M)
    else
    ((f_X6_longBehind x0 x6 x1 x3 x2 x4 M).bind fun v32 =>
    if (x5 - 1) ≤ v32 then
    (f_X6_longestInBoth_199 k160 x0 x1 x2 x3 x4 x5 x6 M)
    else
    (f_X6_longestInBoth_168 n k160 x0 x1 x2 x3 x4 x5 (x6 + 1) M))
set_option maxHeartbeats 4000000 in
theorem t_X6_longestInBoth_168 {X : XV} {d : Nat} (hd : 5 ≤ d + 1) {k160 : Nat → Nat → Nat → Int32 → Int32 → Int32 → Mem → Option (Mem)} (hk160 : ∀ (x0 : Nat) (x1 : Nat) (x2 : Nat) (x3 : Int32) (x4 : Int32) (x5 : Int32) (M : Mem) (res : Mem), k160 x0 x1 x2 x3 x4 x5 M = some res → Ex X (d + 1) mX6_longestInBoth 160 [(0, .ref x0), (1, .ref x1), (2, .ref x2), (3, .int x3), (4, .int x4), (5, .int x5)] [] M none res) : ∀ (n : Nat) (x0 : Nat) (x1 : Nat) (x2 : Nat) (x3 : Int32) (x4 : Int32) (x5 : Int32) (x6 : Int32) (M : Mem) (res : Mem), f_X6_longestInBoth_168 n k160 x0 x1 x2 x3 x4 x5 x6 M = some res → Ex X (d + 1) mX6_longestInBoth 168 [(0, .ref x0), (1, .ref x1), (2, .ref x2), (3, .int x3), (4, .int x4), (5, .int x5), (6, .int x6)] [] M none res := by
  intro n
  induction n with
  | zero =>
    intro x0 x1 x2 x3 x4 x5 x6 M res  h
    unfold f_X6_longestInBoth_168 at h
    cases h
  | succ n ih =>
    intro x0 x1 x2 x3 x4 x5 x6 M res  h
    unfold f_X6_longestInBoth_168 at h
    refine ex_iload (pc := 168) 6 dX6_longestInBoth_168 rfl ?_
    refine ex_bipush (pc := 170) 9 dX6_longestInBoth_170 (by decide) ?_
    by_cases c31 : 9 ≤ x6
    · rw [if_pos c31] at h
      refine ex_icmp_ge_t (pc := 172) 199 dX6_longestInBoth_172 rfl c31 ?_
      refine ex_sub (lo' := [(0, .ref x0), (1, .ref x1), (2, .ref x2), (3, .int x3), (4, .int x4), (5, .int x5), (6, .int x6)]) [0, 1, 2, 3, 4, 5, 6] rfl ?_
      exact t_X6_longestInBoth_199 hd hk160 _ _ _ _ _ _ _ _ _  h
    · rw [if_neg c31] at h
      refine ex_icmp_ge_f (pc := 172) dX6_longestInBoth_172 199 rfl c31 ?_
      refine ex_aload_n (pc := 175) 0 dX6_longestInBoth_175 rfl rfl ?_
      refine ex_iload (pc := 176) 6 dX6_longestInBoth_176 rfl ?_
      refine ex_aload_n (pc := 178) 1 dX6_longestInBoth_178 rfl rfl ?_
      refine ex_iload_n (pc := 179) 3 dX6_longestInBoth_179 rfl rfl ?_
      refine ex_aload_n (pc := 180) 2 dX6_longestInBoth_180 rfl rfl ?_
      refine ex_iload (pc := 181) 4 dX6_longestInBoth_181 rfl ?_
      obtain ⟨v32, ev32, h⟩ := ob_some h
      refine ex_callV5r (pc := 183) dX6_longestInBoth_183 jX6_longBehind lmX6_111 jiX6_longBehind jvX6_longBehind (o_X6_longBehind ev32) rfl (Nat.le_of_ble_eq_true rfl) (s_X6_longBehind (by omega)  ev32) ?_
      refine ex_iload (pc := 186) 5 dX6_longestInBoth_186 rfl ?_
      refine ex_iconst (pc := 188) 1 dX6_longestInBoth_188 rfl ?_
      refine ex_isub (pc := 189) dX6_longestInBoth_189 ?_
      by_cases c33 : (x5 - 1) ≤ v32
      · rw [if_pos c33] at h
        refine ex_icmp_ge_t (pc := 190) 199 dX6_longestInBoth_190 rfl c33 ?_
        refine ex_sub (lo' := [(0, .ref x0), (1, .ref x1), (2, .ref x2), (3, .int x3), (4, .int x4), (5, .int x5), (6, .int x6)]) [0, 1, 2, 3, 4, 5, 6] rfl ?_
        exact t_X6_longestInBoth_199 hd hk160 _ _ _ _ _ _ _ _ _  h
      · rw [if_neg c33] at h
        refine ex_icmp_ge_f (pc := 190) dX6_longestInBoth_190 199 rfl c33 ?_
        refine ex_iinc (pc := 193) (x6 + 1) 6 [(6, .int (x6 + 1)), (0, .ref x0), (1, .ref x1), (2, .ref x2), (3, .int x3), (4, .int x4), (5, .int x5)] dX6_longestInBoth_193 rfl rfl (by decide) rfl ?_
        refine ex_goto (pc := 196) 168 dX6_longestInBoth_196 rfl ?_
        refine ex_sub (lo' := [(0, .ref x0), (1, .ref x1), (2, .ref x2), (3, .int x3), (4, .int x4), (5, .int x5), (6, .int (x6 + 1))]) [1, 2, 3, 4, 5, 6, 0] rfl ?_
        exact ih _ _ _ _ _ _ _ _ _  h
noncomputable def f_X6_longestInBoth_160 (n0 : Nat) (x0 : Nat) (x1 : Nat) (x2 : Nat) (x3 : Int32) (x4 : Int32) (x5 : Int32) (M : Mem) : Option (Mem) :=
  match n0 with
  | 0 => none
  | n + 1 =>
    if x5 ≤ 0 then
    (some M)
    else
    (f_X6_longestInBoth_168 fu (f_X6_longestInBoth_160 n) x0 x1 x2 x3 x4 x5 0 M)
set_option maxHeartbeats 4000000 in
theorem t_X6_longestInBoth_160 {X : XV} {d : Nat} (hd : 5 ≤ d + 1) : ∀ (n : Nat) (x0 : Nat) (x1 : Nat) (x2 : Nat) (x3 : Int32) (x4 : Int32) (x5 : Int32) (M : Mem) (res : Mem), f_X6_longestInBoth_160 n  x0 x1 x2 x3 x4 x5 M = some res → Ex X (d + 1) mX6_longestInBoth 160 [(0, .ref x0), (1, .ref x1), (2, .ref x2), (3, .int x3), (4, .int x4), (5, .int x5)] [] M none res := by
  intro n
  induction n with
  | zero =>
    intro x0 x1 x2 x3 x4 x5 M res  h
    unfold f_X6_longestInBoth_160 at h
    cases h
  | succ n ih =>
    intro x0 x1 x2 x3 x4 x5 M res  h
    unfold f_X6_longestInBoth_160 at h
    refine ex_iload (pc := 160) 5 dX6_longestInBoth_160 rfl ?_
    by_cases c34 : x5 ≤ 0
    · rw [if_pos c34] at h
      refine ex_if_le_t (pc := 162) 237 dX6_longestInBoth_162 rfl c34 ?_
      cases h
      exact ex_return (pc := 237) dX6_longestInBoth_237
    · rw [if_neg c34] at h
      refine ex_if_le_f (pc := 162) dX6_longestInBoth_162 237 rfl c34 ?_
      refine ex_iconst (pc := 165) 0 dX6_longestInBoth_165 rfl ?_
      refine ex_istore (pc := 166) [(6, .int 0), (0, .ref x0), (1, .ref x1), (2, .ref x2), (3, .int x3), (4, .int x4), (5, .int x5)] dX6_longestInBoth_166 (by decide) rfl ?_
      refine ex_sub (lo' := [(0, .ref x0), (1, .ref x1), (2, .ref x2), (3, .int x3), (4, .int x4), (5, .int x5), (6, .int 0)]) [1, 2, 3, 4, 5, 6, 0] rfl ?_
      exact t_X6_longestInBoth_168 hd ih _ _ _ _ _ _ _ _ _ _  h
noncomputable def f_X6_longestInBoth_13 (n0 : Nat) (x0 : Nat) (x1 : Nat) (x2 : Nat) (x3 : Int32) (M : Mem) : Option (Mem) :=
  match n0 with
  | 0 => none
  | n + 1 =>
    if x3 < 0 then
    ((gR M 6 x0 4).bind fun v36 =>
    (rR 4 M v36 0).bind fun w37 =>
    (rI M w37 0).bind fun v38 =>
    f_X6_longestInBoth_160 fu x0 x1 x2 0 0 v38 M)
    else
    ((gI M 3 x2 1).bind fun v39 =>
    f_X6_longestInBoth_23 fu (f_X6_longestInBoth_13 n) x0 x1 x2 x3 v39 M)
set_option maxHeartbeats 4000000 in
theorem t_X6_longestInBoth_13 {X : XV} {d : Nat} (hd : 5 ≤ d + 1) : ∀ (n : Nat) (x0 : Nat) (x1 : Nat) (x2 : Nat) (x3 : Int32) (M : Mem) (res : Mem), f_X6_longestInBoth_13 n  x0 x1 x2 x3 M = some res → Ex X (d + 1) mX6_longestInBoth 13 [(0, .ref x0), (1, .ref x1), (2, .ref x2), (3, .int x3)] [] M none res := by
  intro n
  induction n with
  | zero =>
    intro x0 x1 x2 x3 M res  h
    unfold f_X6_longestInBoth_13 at h
    cases h
  | succ n ih =>
    intro x0 x1 x2 x3 M res  h
    unfold f_X6_longestInBoth_13 at h
    refine ex_iload_n (pc := 13) 3 dX6_longestInBoth_13 rfl rfl ?_
    by_cases c35 : x3 < 0
    · rw [if_pos c35] at h
      refine ex_if_lt_t (pc := 14) 145 dX6_longestInBoth_14 rfl c35 ?_
      refine ex_iconst (pc := 145) 0 dX6_longestInBoth_145 rfl ?_
      refine ex_istore_n (pc := 146) [(3, .int 0), (0, .ref x0), (1, .ref x1), (2, .ref x2)] dX6_longestInBoth_146 rfl (by decide) rfl ?_
      refine ex_iconst (pc := 147) 0 dX6_longestInBoth_147 rfl ?_
      refine ex_istore (pc := 148) [(4, .int 0), (3, .int 0), (0, .ref x0), (1, .ref x1), (2, .ref x2)] dX6_longestInBoth_148 (by decide) rfl ?_
      refine ex_aload_n (pc := 150) 2 dX6_longestInBoth_150 rfl rfl ?_
      obtain ⟨v36, ev36, h⟩ := ob_some h
      refine ex_gR (pc := 151) ev36 dX6_longestInBoth_151 lfX6_32 ?_
      refine ex_iconst (pc := 154) 0 dX6_longestInBoth_154 rfl ?_
      obtain ⟨w37, ew37, h⟩ := ob_some h
      refine ex_rR (pc := 155) ew37 (by decide) dX6_longestInBoth_155 ?_
      refine ex_iconst (pc := 156) 0 dX6_longestInBoth_156 rfl ?_
      obtain ⟨v38, ev38, h⟩ := ob_some h
      refine ex_rI (pc := 157) ev38 dX6_longestInBoth_157 ?_
      refine ex_istore (pc := 158) [(5, .int v38), (4, .int 0), (3, .int 0), (0, .ref x0), (1, .ref x1), (2, .ref x2)] dX6_longestInBoth_158 (by decide) rfl ?_
      refine ex_sub (lo' := [(0, .ref x0), (1, .ref x1), (2, .ref x2), (3, .int 0), (4, .int 0), (5, .int v38)]) [3, 4, 5, 2, 1, 0] rfl ?_
      exact t_X6_longestInBoth_160 hd  _ _ _ _ _ _ _ _ _  h
    · rw [if_neg c35] at h
      refine ex_if_lt_f (pc := 14) dX6_longestInBoth_14 145 rfl c35 ?_
      refine ex_aload_n (pc := 17) 2 dX6_longestInBoth_17 rfl rfl ?_
      obtain ⟨v39, ev39, h⟩ := ob_some h
      refine ex_gI (pc := 18) ev39 dX6_longestInBoth_18 lfX6_59 ?_
      refine ex_istore (pc := 21) [(4, .int v39), (0, .ref x0), (1, .ref x1), (2, .ref x2), (3, .int x3)] dX6_longestInBoth_21 (by decide) rfl ?_
      refine ex_sub (lo' := [(0, .ref x0), (1, .ref x1), (2, .ref x2), (3, .int x3), (4, .int v39)]) [1, 2, 3, 4, 0] rfl ?_
      exact t_X6_longestInBoth_23 hd ih _ _ _ _ _ _ _ _  h
noncomputable def f_X6_longestInBoth_0 (x0 : Nat) (x1 : Nat) (x2 : Nat) (M : Mem) : Option (Mem) :=
  (gR M 6 x0 0).bind fun v40 =>
  (pF M 3 v40 1 (.int 0)).bind fun q41 =>
  (gI q41 3 x1 1).bind fun v42 =>
  f_X6_longestInBoth_13 fu x0 x1 x2 v42 q41
set_option maxHeartbeats 4000000 in
theorem t_X6_longestInBoth_0 {X : XV} {d : Nat} (hd : 5 ≤ d + 1) : ∀ (x0 : Nat) (x1 : Nat) (x2 : Nat) (M : Mem) (res : Mem), f_X6_longestInBoth_0  x0 x1 x2 M = some res → Ex X (d + 1) mX6_longestInBoth 0 [(0, .ref x0), (1, .ref x1), (2, .ref x2)] [] M none res := by
  intro x0 x1 x2 M res  h
  unfold f_X6_longestInBoth_0 at h
  refine ex_aload_n (pc := 0) 0 dX6_longestInBoth_0 rfl rfl ?_
  obtain ⟨v40, ev40, h⟩ := ob_some h
  refine ex_gR (pc := 1) ev40 dX6_longestInBoth_1 lfX6_14 ?_
  refine ex_iconst (pc := 4) 0 dX6_longestInBoth_4 rfl ?_
  obtain ⟨q41, eq41, h⟩ := ob_some h
  refine ex_pF (pc := 5) eq41 dX6_longestInBoth_5 lfX6_59 rfl rfl (fun _ hq => by cases hq; rfl) ?_
  refine ex_aload_n (pc := 8) 1 dX6_longestInBoth_8 rfl rfl ?_
  obtain ⟨v42, ev42, h⟩ := ob_some h
  refine ex_gI (pc := 9) ev42 dX6_longestInBoth_9 lfX6_59 ?_
  refine ex_istore_n (pc := 12) [(3, .int v42), (0, .ref x0), (1, .ref x1), (2, .ref x2)] dX6_longestInBoth_12 rfl (by decide) rfl ?_
  refine ex_sub (lo' := [(0, .ref x0), (1, .ref x1), (2, .ref x2), (3, .int v42)]) [1, 2, 3, 0] rfl ?_
  exact t_X6_longestInBoth_13 hd  _ _ _ _ _ _ _  h
noncomputable def f_X6_longestInBoth (x0 : Nat) (x1 : Nat) (x2 : Nat) (M : Mem) : Option (Mem) := if isOb M 6 x0 = true then f_X6_longestInBoth_0 x0 x1 x2 M else none
theorem o_X6_longestInBoth {x0 : Nat} {x1 : Nat} {x2 : Nat} {M : Mem} {res : Mem} (h : f_X6_longestInBoth x0 x1 x2 M = some res) : isO M 6 x0 := by
  unfold f_X6_longestInBoth at h
  split at h
  · rename_i hc; exact isOb_iff hc
  · cases h
set_option maxHeartbeats 4000000 in
theorem s_X6_longestInBoth {X : XV} {d : Nat} (hd : 5 ≤ d) {x0 : Nat} {x1 : Nat} {x2 : Nat} {M : Mem} {res : Mem} (h : f_X6_longestInBoth x0 x1 x2 M = some res) : Mx X d mX6_longestInBoth [.ref x0, .ref x1, .ref x2] M none res := by
  obtain ⟨d, rfl⟩ : ∃ e, d = e + 1 := ⟨d - 1, by omega⟩
  unfold f_X6_longestInBoth at h
  split at h
  rotate_left
  · cases h
  refine Mx.of (by decide) (Nat.le_of_ble_eq_true rfl) (rfl) ?_
  exact ex_sub (lo' := [(0, .ref x0), (1, .ref x1), (2, .ref x2)]) [0, 1, 2] rfl (t_X6_longestInBoth_0 hd _ _ _ _ _  h)
