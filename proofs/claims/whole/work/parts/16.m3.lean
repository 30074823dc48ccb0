noncomputable def f_X11_forgiven_13 (n0 : Nat) (x0 : Nat) (x1 : Int32) (x2 : Int32) (x3 : Int32) (M : Mem) : Option (Int32) :=
  match n0 with
  | 0 => none
  | n + 1 =>
    (gR M 11 x0 0).bind fun v1 =>
    (rI M v1 0).bind fun v2 =>
    if (jshl 1 v2) ≤ x3 then
    (some x2)
    else
    ((f_X11_sumOf x0 x3 M).bind fun v4 =>
    if x1 < v4 then
    (f_X11_forgiven_13 n x0 x1 x2 (x3 + 1) M)
    else
    ((f_X11_bits x3).bind fun v6 =>
    (f_X11_bits x2).bind fun v7 =>
    if v7 < v6 then
    (f_X11_forgiven_13 n x0 x1 x3 (x3 + 1) M)
    else
    ((f_X11_bits x3).bind fun v9 =>
    (f_X11_bits x2).bind fun v10 =>
    if v9 = v10 then
    ((f_X11_sumOf x0 x3 M).bind fun v12 =>
    (f_X11_sumOf x0 x2 M).bind fun v13 =>
    if v13 ≤ v12 then
    (f_X11_forgiven_13 n x0 x1 x2 (x3 + 1) M)
    else
    (f_X11_forgiven_13 n x0 x1 x3 (x3 + 1) M))
    else
    (f_X11_forgiven_13 n x0 x1 x2 (x3 + 1) M))))
set_option maxHeartbeats 4000000 in
theorem t_X11_forgiven_13 {X : XV} {d : Nat} (hd : 3 ≤ d + 1) : ∀ (n : Nat) (x0 : Nat) (x1 : Int32) (x2 : Int32) (x3 : Int32) (M : Mem) (res : Int32), f_X11_forgiven_13 n  x0 x1 x2 x3 M = some res → Ex X (d + 1) mX11_forgiven 13 [(0, .ref x0), (1, .int x1), (2, .int x2), (3, .int x3)] [] M (some (.int res)) M := by
  intro n
  induction n with
  | zero =>
    intro x0 x1 x2 x3 M res  h
    unfold f_X11_forgiven_13 at h
    cases h
  | succ n ih =>
    intro x0 x1 x2 x3 M res  h
    unfold f_X11_forgiven_13 at h
    refine ex_iload_n (pc := 13) 3 dX11_forgiven_13 rfl rfl ?_
    refine ex_iconst (pc := 14) 1 dX11_forgiven_14 rfl ?_
    refine ex_aload_n (pc := 15) 0 dX11_forgiven_15 rfl rfl ?_
    obtain ⟨v1, ev1, h⟩ := ob_some h
    refine ex_gR (pc := 16) ev1 dX11_forgiven_16 lfX11_7 ?_
    refine ex_iconst (pc := 19) 0 dX11_forgiven_19 rfl ?_
    obtain ⟨v2, ev2, h⟩ := ob_some h
    refine ex_rI (pc := 20) ev2 dX11_forgiven_20 ?_
    refine ex_ishl (pc := 21) dX11_forgiven_21 ?_
    by_cases c3 : (jshl 1 v2) ≤ x3
    · rw [if_pos c3] at h
      refine ex_icmp_ge_t (pc := 22) 77 dX11_forgiven_22 rfl c3 ?_
      refine ex_iload_n (pc := 77) 2 dX11_forgiven_77 rfl rfl ?_
      cases h
      exact ex_ireturn (pc := 78) dX11_forgiven_78
    · rw [if_neg c3] at h
      refine ex_icmp_ge_f (pc := 22) dX11_forgiven_22 77 rfl c3 ?_
      refine ex_aload_n (pc := 25) 0 dX11_forgiven_25 rfl rfl ?_
      refine ex_iload_n (pc := 26) 3 dX11_forgiven_26 rfl rfl ?_
      obtain ⟨v4, ev4, h⟩ := ob_some h
      refine ex_callV1r (pc := 27) dX11_forgiven_27 jX11_sumOf lmX11_423 jiX11_sumOf jvX11_sumOf (o_X11_sumOf ev4) rfl (Nat.le_of_ble_eq_true rfl) (s_X11_sumOf (by omega)  ev4) ?_
      refine ex_iload_n (pc := 30) 1 dX11_forgiven_30 rfl rfl ?_
      by_cases c5 : x1 < v4
      · rw [if_pos c5] at h
        refine ex_icmp_gt_t (pc := 31) 71 dX11_forgiven_31 rfl c5 ?_
        refine ex_iinc (pc := 71) (x3 + 1) 3 [(3, .int (x3 + 1)), (0, .ref x0), (1, .int x1), (2, .int x2)] dX11_forgiven_71 rfl rfl (by decide) rfl ?_
        refine ex_goto (pc := 74) 13 dX11_forgiven_74 rfl ?_
        refine ex_sub (lo' := [(0, .ref x0), (1, .int x1), (2, .int x2), (3, .int (x3 + 1))]) [1, 2, 3, 0] rfl ?_
        exact ih _ _ _ _ _ _  h
      · rw [if_neg c5] at h
        refine ex_icmp_gt_f (pc := 31) dX11_forgiven_31 71 rfl c5 ?_
        refine ex_iload_n (pc := 34) 3 dX11_forgiven_34 rfl rfl ?_
        obtain ⟨v6, ev6, h⟩ := ob_some h
        refine ex_callS1r (pc := 35) dX11_forgiven_35 jX11_bits lmX11_426 jsX11_bits (Nat.le_of_ble_eq_true rfl) (s_X11_bits (by omega)  ev6) ?_
        refine ex_iload_n (pc := 38) 2 dX11_forgiven_38 rfl rfl ?_
        obtain ⟨v7, ev7, h⟩ := ob_some h
        refine ex_callS1r (pc := 39) dX11_forgiven_39 jX11_bits lmX11_426 jsX11_bits (Nat.le_of_ble_eq_true rfl) (s_X11_bits (by omega)  ev7) ?_
        by_cases c8 : v7 < v6
        · rw [if_pos c8] at h
          refine ex_icmp_gt_t (pc := 42) 69 dX11_forgiven_42 rfl c8 ?_
          refine ex_iload_n (pc := 69) 3 dX11_forgiven_69 rfl rfl ?_
          refine ex_istore_n (pc := 70) [(2, .int x3), (0, .ref x0), (1, .int x1), (3, .int x3)] dX11_forgiven_70 rfl (by decide) rfl ?_
          refine ex_iinc (pc := 71) (x3 + 1) 3 [(3, .int (x3 + 1)), (2, .int x3), (0, .ref x0), (1, .int x1)] dX11_forgiven_71 rfl rfl (by decide) rfl ?_
          refine ex_goto (pc := 74) 13 dX11_forgiven_74 rfl ?_
          refine ex_sub (lo' := [(0, .ref x0), (1, .int x1), (2, .int x3), (3, .int (x3 + 1))]) [2, 3, 1, 0] rfl ?_
          exact ih _ _ _ _ _ _  h
        · rw [if_neg c8] at h
          refine ex_icmp_gt_f (pc := 42) dX11_forgiven_42 69 rfl c8 ?_
          refine ex_iload_n (pc := 45) 3 dX11_forgiven_45 rfl rfl ?_
          obtain ⟨v9, ev9, h⟩ := ob_some h
          refine ex_callS1r (pc := 46) dX11_forgiven_46 jX11_bits lmX11_426 jsX11_bits (Nat.le_of_ble_eq_true rfl) (s_X11_bits (by omega)  ev9) ?_
          refine ex_iload_n (pc := 49) 2 dX11_forgiven_49 rfl rfl ?_
          obtain ⟨v10, ev10, h⟩ := ob_some h
          refine ex_callS1r (pc := 50) dX11_forgiven_50 jX11_bits lmX11_426 jsX11_bits (Nat.le_of_ble_eq_true rfl) (s_X11_bits (by omega)  ev10) ?_
          by_cases c11 : v9 = v10
          · rw [if_pos c11] at h
            refine ex_icmp_ne_f (pc := 53) dX11_forgiven_53 71 rfl c11 ?_
            refine ex_aload_n (pc := 56) 0 dX11_forgiven_56 rfl rfl ?_
            refine ex_iload_n (pc := 57) 3 dX11_forgiven_57 rfl rfl ?_
            obtain ⟨v12, ev12, h⟩ := ob_some h
            refine ex_callV1r (pc := 58) dX11_forgiven_58 jX11_sumOf lmX11_423 jiX11_sumOf jvX11_sumOf (o_X11_sumOf ev12) rfl (Nat.le_of_ble_eq_true rfl) (s_X11_sumOf (by omega)  ev12) ?_
            refine ex_aload_n (pc := 61) 0 dX11_forgiven_61 rfl rfl ?_
            refine ex_iload_n (pc := 62) 2 dX11_forgiven_62 rfl rfl ?_
            obtain ⟨v13, ev13, h⟩ := ob_some h
            refine ex_callV1r (pc := 63) dX11_forgiven_63 jX11_sumOf lmX11_423 jiX11_sumOf jvX11_sumOf (o_X11_sumOf ev13) rfl (Nat.le_of_ble_eq_true rfl) (s_X11_sumOf (by omega)  ev13) ?_
            by_cases c14 : v13 ≤ v12
            · rw [if_pos c14] at h
              refine ex_icmp_ge_t (pc := 66) 71 dX11_forgiven_66 rfl c14 ?_
              refine ex_iinc (pc := 71) (x3 + 1) 3 [(3, .int (x3 + 1)), (0, .ref x0), (1, .int x1), (2, .int x2)] dX11_forgiven_71 rfl rfl (by decide) rfl ?_
              refine ex_goto (pc := 74) 13 dX11_forgiven_74 rfl ?_
              refine ex_sub (lo' := [(0, .ref x0), (1, .int x1), (2, .int x2), (3, .int (x3 + 1))]) [1, 2, 3, 0] rfl ?_
              exact ih _ _ _ _ _ _  h
            · rw [if_neg c14] at h
              refine ex_icmp_ge_f (pc := 66) dX11_forgiven_66 71 rfl c14 ?_
              refine ex_iload_n (pc := 69) 3 dX11_forgiven_69 rfl rfl ?_
              refine ex_istore_n (pc := 70) [(2, .int x3), (0, .ref x0), (1, .int x1), (3, .int x3)] dX11_forgiven_70 rfl (by decide) rfl ?_
              refine ex_iinc (pc := 71) (x3 + 1) 3 [(3, .int (x3 + 1)), (2, .int x3), (0, .ref x0), (1, .int x1)] dX11_forgiven_71 rfl rfl (by decide) rfl ?_
              refine ex_goto (pc := 74) 13 dX11_forgiven_74 rfl ?_
              refine ex_sub (lo' := [(0, .ref x0), (1, .int x1), (2, .int x3), (3, .int (x3 + 1))]) [2, 3, 1, 0] rfl ?_
              exact ih _ _ _ _ _ _  h
          · rw [if_neg c11] at h
            refine ex_icmp_ne_t (pc := 53) 71 dX11_forgiven_53 rfl c11 ?_
            refine ex_iinc (pc := 71) (x3 + 1) 3 [(3, .int (x3 + 1)), (0, .ref x0), (1, .int x1), (2, .int x2)] dX11_forgiven_71 rfl rfl (by decide) rfl ?_
            refine ex_goto (pc := 74) 13 dX11_forgiven_74 rfl ?_
            refine ex_sub (lo' := [(0, .ref x0), (1, .int x1), (2, .int x2), (3, .int (x3 + 1))]) [1, 2, 3, 0] rfl ?_
            exact ih _ _ _ _ _ _  h
noncomputable def f_X11_forgiven_0 (x0 : Nat) (x1 : Int32) (M : Mem) : Option (Int32) :=
  (f_X11_isNumber x1).bind fun v15 =>
  if v15 = true then
  (f_X11_forgiven_13 fu x0 x1 0 1 M)
  else
  (some (-1))
set_option maxHeartbeats 4000000 in
theorem t_X11_forgiven_0 {X : XV} {d : Nat} (hd : 3 ≤ d + 1) : ∀ (x0 : Nat) (x1 : Int32) (M : Mem) (res : Int32), f_X11_forgiven_0  x0 x1 M = some res → Ex X (d + 1) mX11_forgiven 0 [(0, .ref x0), (1, .int x1)] [] M (some (.int res)) M := by
  intro x0 x1 M res  h
  unfold f_X11_forgiven_0 at h
  refine ex_iload_n (pc := 0) 1 dX11_forgiven_0 rfl rfl ?_
  obtain ⟨v15, ev15, h⟩ := ob_some h
  refine ex_callS1r (pc := 1) dX11_forgiven_1 jX11_isNumber lmX11_380 jsX11_isNumber (Nat.le_of_ble_eq_true rfl) (s_X11_isNumber (by omega)  ev15) ?_
  by_cases c16 : v15 = true
  · rw [if_pos c16] at h
    refine ex_if_ne_t (pc := 4) 9 dX11_forgiven_4 rfl (jz_ne_t c16) ?_
    refine ex_iconst (pc := 9) 0 dX11_forgiven_9 rfl ?_
    refine ex_istore_n (pc := 10) [(2, .int 0), (0, .ref x0), (1, .int x1)] dX11_forgiven_10 rfl (by decide) rfl ?_
    refine ex_iconst (pc := 11) 1 dX11_forgiven_11 rfl ?_
    refine ex_istore_n (pc := 12) [(3, .int 1), (2, .int 0), (0, .ref x0), (1, .int x1)] dX11_forgiven_12 rfl (by decide) rfl ?_
    refine ex_sub (lo' := [(0, .ref x0), (1, .int x1), (2, .int 0), (3, .int 1)]) [2, 3, 1, 0] rfl ?_
    exact t_X11_forgiven_13 hd  _ _ _ _ _ _ _  h
  · rw [if_neg c16] at h
    refine ex_if_ne_f (pc := 4) dX11_forgiven_4 9 rfl (jz_ne_f c16) ?_
    refine ex_iconst (pc := 7) (-1) dX11_forgiven_7 rfl ?_
    cases h
    exact ex_ireturn (pc := 8) dX11_forgiven_8
noncomputable def f_X11_forgiven (x0 : Nat) (x1 : Int32) (M : Mem) : Option (Int32) := if isOb M 11 x0 = true then f_X11_forgiven_0 x0 x1 M else none
theorem o_X11_forgiven {x0 : Nat} {x1 : Int32} {M : Mem} {res : Int32} (h : f_X11_forgiven x0 x1 M = some res) : isO M 11 x0 := by
  unfold f_X11_forgiven at h
  split at h
  · rename_i hc; exact isOb_iff hc
  · cases h
set_option maxHeartbeats 4000000 in
theorem s_X11_forgiven {X : XV} {d : Nat} (hd : 3 ≤ d) {x0 : Nat} {x1 : Int32} {M : Mem} {res : Int32} (h : f_X11_forgiven x0 x1 M = some res) : Mx X d mX11_forgiven [.ref x0, .int x1] M (some (.int res)) M := by
  obtain ⟨d, rfl⟩ : ∃ e, d = e + 1 := ⟨d - 1, by omega⟩
  unfold f_X11_forgiven at h
  split at h
  rotate_left
  · cases h
  refine Mx.of (by decide) (Nat.le_of_ble_eq_true rfl) (⟨_, rfl, rfl⟩) ?_
  exact ex_sub (lo' := [(0, .ref x0), (1, .int x1)]) [0, 1] rfl (t_X11_forgiven_0 hd _ _ _ _  h)
noncomputable def f_X11_setAside_3 (n0 : Nat) (x0 : Nat) (x1 : Int32) (M : Mem) : Option (Mem) :=
  match n0 with
  | 0 => none
  | n + 1 =>
    if 101 ≤ x1 then
    ((pF M 11 x0 23 (.int (jz false))).bind fun q2 =>
    some q2)
    else
    ((gR M 11 x0 25).bind fun v3 =>
    (gR M 11 x0 0).bind fun v4 =>
    (rI M v4 x1).bind fun v5 =>
    (wI M v3 x1 v5).bind fun q6 =>
    f_X11_setAside_3 n x0 (x1 + 1) q6)
set_option maxHeartbeats 4000000 in
theorem t_X11_setAside_3 {X : XV} {d : Nat} (hd : 1 ≤ d + 1) : ∀ (n : Nat) (x0 : Nat) (x1 : Int32) (M : Mem) (res : Mem), f_X11_setAside_3 n  x0 x1 M = some res → Ex X (d + 1) mX11_setAside 3 [(0, .ref x0), (1, .int x1)] [] M none res := by
  intro n
  induction n with
  | zero =>
    intro x0 x1 M res  h
    unfold f_X11_setAside_3 at h
    cases h
  | succ n ih =>
    intro x0 x1 M res  h
    unfold f_X11_setAside_3 at h
    refine ex_iload_n (pc := 3) 1 dX11_setAside_3 rfl rfl ?_
    refine ex_bipush (pc := 4) 101 dX11_setAside_4 (by decide) ?_
    by_cases c1 : 101 ≤ x1
    · rw [if_pos c1] at h
      refine ex_icmp_ge_t (pc := 6) 27 dX11_setAside_6 rfl c1 ?_
      refine ex_aload_n (pc := 27) 0 dX11_setAside_27 rfl rfl ?_
      refine ex_iconst (pc := 28) 0 dX11_setAside_28 rfl ?_
      obtain ⟨q2, eq2, h⟩ := ob_some h
      refine ex_pF (pc := 29) eq2 dX11_setAside_29 lfX11_43 (jz_nar false) (jz_fit false) (fun _ hq => by cases hq; rfl) ?_
      cases h
      exact ex_return (pc := 32) dX11_setAside_32
    · rw [if_neg c1] at h
      refine ex_icmp_ge_f (pc := 6) dX11_setAside_6 27 rfl c1 ?_
      refine ex_aload_n (pc := 9) 0 dX11_setAside_9 rfl rfl ?_
      obtain ⟨v3, ev3, h⟩ := ob_some h
      refine ex_gR (pc := 10) ev3 dX11_setAside_10 lfX11_47 ?_
      refine ex_iload_n (pc := 13) 1 dX11_setAside_13 rfl rfl ?_
      refine ex_aload_n (pc := 14) 0 dX11_setAside_14 rfl rfl ?_
      obtain ⟨v4, ev4, h⟩ := ob_some h
      refine ex_gR (pc := 15) ev4 dX11_setAside_15 lfX11_7 ?_
      refine ex_iload_n (pc := 18) 1 dX11_setAside_18 rfl rfl ?_
      obtain ⟨v5, ev5, h⟩ := ob_some h
      refine ex_rI (pc := 19) ev5 dX11_setAside_19 ?_
      obtain ⟨q6, eq6, h⟩ := ob_some h
      refine ex_wI (pc := 20) eq6 dX11_setAside_20 ?_
      refine ex_iinc (pc := 21) (x1 + 1) 1 [(1, .int (x1 + 1)), (0, .ref x0)] dX11_setAside_21 rfl rfl (by decide) rfl ?_
      refine ex_goto (pc := 24) 3 dX11_setAside_24 rfl ?_
      refine ex_sub (lo' := [(0, .ref x0), (1, .int (x1 + 1))]) [1, 0] rfl ?_
      exact ih _ _ _ _  h
noncomputable def f_X11_setAside_0 (x0 : Nat) (M : Mem) : Option (Mem) :=
  f_X11_setAside_3 fu x0 8 M
set_option maxHeartbeats 4000000 in
theorem t_X11_setAside_0 {X : XV} {d : Nat} (hd : 1 ≤ d + 1) : ∀ (x0 : Nat) (M : Mem) (res : Mem), f_X11_setAside_0  x0 M = some res → Ex X (d + 1) mX11_setAside 0 [(0, .ref x0)] [] M none res := by
  intro x0 M res  h
  unfold f_X11_setAside_0 at h
  refine ex_bipush (pc := 0) 8 dX11_setAside_0 (by decide) ?_
  refine ex_istore_n (pc := 2) [(1, .int 8), (0, .ref x0)] dX11_setAside_2 rfl (by decide) rfl ?_
  refine ex_sub (lo' := [(0, .ref x0), (1, .int 8)]) [1, 0] rfl ?_
  exact t_X11_setAside_3 hd  _ _ _ _ _  h
noncomputable def f_X11_setAside (x0 : Nat) (M : Mem) : Option (Mem) := if isOb M 11 x0 = true then f_X11_setAside_0 x0 M else none
theorem o_X11_setAside {x0 : Nat} {M : Mem} {res : Mem} (h : f_X11_setAside x0 M = some res) : isO M 11 x0 := by
  unfold f_X11_setAside at h
  split at h
  · rename_i hc; exact isOb_iff hc
  · cases h
set_option maxHeartbeats 4000000 in
theorem s_X11_setAside {X : XV} {d : Nat} (hd : 1 ≤ d) {x0 : Nat} {M : Mem} {res : Mem} (h : f_X11_setAside x0 M = some res) : Mx X d mX11_setAside [.ref x0] M none res := by
  obtain ⟨d, rfl⟩ : ∃ e, d = e + 1 := ⟨d - 1, by omega⟩
  unfold f_X11_setAside at h
  split at h
  rotate_left
  · cases h
  refine Mx.of (by decide) (Nat.le_of_ble_eq_true rfl) (rfl) ?_
  exact ex_sub (lo' := [(0, .ref x0)]) [0] rfl (t_X11_setAside_0 hd _ _ _  h)
noncomputable def f_X11_putBack_3 (n0 : Nat) (x0 : Nat) (x1 : Int32) (M : Mem) : Option (Mem) :=
  match n0 with
  | 0 => none
  | n + 1 =>
    if 101 ≤ x1 then
    ((pF M 11 x0 23 (.int (jz true))).bind fun q2 =>
    some q2)
    else
    ((gR M 11 x0 0).bind fun v3 =>
    (gR M 11 x0 25).bind fun v4 =>
    (rI M v4 x1).bind fun v5 =>
    (wI M v3 x1 v5).bind fun q6 =>
    f_X11_putBack_3 n x0 (x1 + 1) q6)
set_option maxHeartbeats 4000000 in
theorem t_X11_putBack_3 {X : XV} {d : Nat} (hd : 1 ≤ d + 1) : ∀ (n : Nat) (x0 : Nat) (x1 : Int32) (M : Mem) (res : Mem), f_X11_putBack_3 n  x0 x1 M = some res → Ex X (d + 1) mX11_putBack 3 [(0, .ref x0), (1, .int x1)] [] M none res := by
  intro n
  induction n with
  | zero =>
    intro x0 x1 M res  h
    unfold f_X11_putBack_3 at h
    cases h
  | succ n ih =>
    intro x0 x1 M res  h
    unfold f_X11_putBack_3 at h
    refine ex_iload_n (pc := 3) 1 dX11_putBack_3 rfl rfl ?_
    refine ex_bipush (pc := 4) 101 dX11_putBack_4 (by decide) ?_
    by_cases c1 : 101 ≤ x1
    · rw [if_pos c1] at h
      refine ex_icmp_ge_t (pc := 6) 27 dX11_putBack_6 rfl c1 ?_
      refine ex_aload_n (pc := 27) 0 dX11_putBack_27 rfl rfl ?_
      refine ex_iconst (pc := 28) 1 dX11_putBack_28 rfl ?_
      obtain ⟨q2, eq2, h⟩ := ob_some h
      refine ex_pF (pc := 29) eq2 dX11_putBack_29 lfX11_43 (jz_nar true) (jz_fit true) (fun _ hq => by cases hq; rfl) ?_
      cases h
      exact ex_return (pc := 32) dX11_putBack_32
    · rw [if_neg c1] at h
      refine ex_icmp_ge_f (pc := 6) dX11_putBack_6 27 rfl c1 ?_
      refine ex_aload_n (pc := 9) 0 dX11_putBack_9 rfl rfl ?_
      obtain ⟨v3, ev3, h⟩ := ob_some h
      refine ex_gR (pc := 10) ev3 dX11_putBack_10 lfX11_7 ?_
      refine ex_iload_n (pc := 13) 1 dX11_putBack_13 rfl rfl ?_
      refine ex_aload_n (pc := 14) 0 dX11_putBack_14 rfl rfl ?_
      obtain ⟨v4, ev4, h⟩ := ob_some h
      refine ex_gR (pc := 15) ev4 dX11_putBack_15 lfX11_47 ?_
      refine ex_iload_n (pc := 18) 1 dX11_putBack_18 rfl rfl ?_
      obtain ⟨v5, ev5, h⟩ := ob_some h
      refine ex_rI (pc := 19) ev5 dX11_putBack_19 ?_
      obtain ⟨q6, eq6, h⟩ := ob_some h
      refine ex_wI (pc := 20) eq6 dX11_putBack_20 ?_
      refine ex_iinc (pc := 21) (x1 + 1) 1 [(1, .int (x1 + 1)), (0, .ref x0)] dX11_putBack_21 rfl rfl (by decide) rfl ?_
      refine ex_goto (pc := 24) 3 dX11_putBack_24 rfl ?_
      refine ex_sub (lo' := [(0, .ref x0), (1, .int (x1 + 1))]) [1, 0] rfl ?_
      exact ih _ _ _ _  h
noncomputable def f_X11_putBack_0 (x0 : Nat) (M : Mem) : Option (Mem) :=
  f_X11_putBack_3 fu x0 8 M
set_option maxHeartbeats 4000000 in
theorem t_X11_putBack_0 {X : XV} {d : Nat} (hd : 1 ≤ d + 1) : ∀ (x0 : Nat) (M : Mem) (res : Mem), f_X11_putBack_0  x0 M = some res → Ex X (d + 1) mX11_putBack 0 [(0, .ref x0)] [] M none res := by
  intro x0 M res  h
  unfold f_X11_putBack_0 at h
  refine ex_bipush (pc := 0) 8 dX11_putBack_0 (by decide) ?_
  refine ex_istore_n (pc := 2) [(1, .int 8), (0, .ref x0)] dX11_putBack_2 rfl (by decide) rfl ?_
  refine ex_sub (lo' := [(0, .ref x0), (1, .int 8)]) [1, 0] rfl ?_
  exact t_X11_putBack_3 hd  _ _ _ _ _  h
noncomputable def f_X11_putBack (x0 : Nat) (M : Mem) : Option (Mem) := if isOb M 11 x0 = true then f_X11_putBack_0 x0 M else none
theorem o_X11_putBack {x0 : Nat} {M : Mem} {res : Mem} (h : f_X11_putBack x0 M = some res) : isO M 11 x0 := by
  unfold f_X11_putBack at h
  split at h
  · rename_i hc; exact isOb_iff hc
  · cases h
set_option maxHeartbeats 4000000 in
theorem s_X11_putBack {X : XV} {d : Nat} (hd : 1 ≤ d) {x0 : Nat} {M : Mem} {res : Mem} (h : f_X11_putBack x0 M = some res) : Mx X d mX11_putBack [.ref x0] M none res := by
  obtain ⟨d, rfl⟩ : ∃ e, d = e + 1 := ⟨d - 1, by omega⟩
  unfold f_X11_putBack at h
  split at h
  rotate_left
  · cases h
  refine Mx.of (by decide) (Nat.le_of_ble_eq_true rfl) (rfl) ?_
  exact ex_sub (lo' := [(0, .ref x0)]) [0] rfl (t_X11_putBack_0 hd _ _ _  h)
noncomputable def f_X11_foretold_36 (n0 : Nat) (x0 : Nat) (x1 : Int32) (x2 : Int32) (x3 : Int32) (x4 : Int32) (M : Mem) : Option (Int32 × Mem) :=
  match n0 with
  | 0 => none
  | n + 1 =>
    if x1 ≤ x4 then
    (if x3 = 0 then
    ((f_X11_get x0 x2 2 M).bind fun v8 =>
    (f_X11_putBack x0 M).bind fun q9 =>
    some (v8, q9))
    else
    (if x3 = 1 then
    ((f_X11_get x0 x2 0 M).bind fun v6 =>
    (f_X11_putBack x0 M).bind fun q7 =>
    some (v6, q7))
    else
    ((f_X11_get x0 x2 3 M).bind fun v4 =>
    (f_X11_putBack x0 M).bind fun q5 =>
    some (v4, q5))))
    else
    ((gR M 11 x0 0).bind fun v10 =>
    (rI M v10 8).bind fun v11 =>
    if 9999 ≤ v11 then
    (f_X11_foretold_36 n x0 x1 x2 x3 (x4 + 1) M)
    else
    ((f_X11_pass x0 M).bind fun q13 =>
    f_X11_foretold_36 n x0 x1 x2 x3 (x4 + 1) q13))
set_option maxHeartbeats 4000000 in
theorem t_X11_foretold_36 {X : XV} {d : Nat} (hd : 8 ≤ d + 1) : ∀ (n : Nat) (x0 : Nat) (x1 : Int32) (x2 : Int32) (x3 : Int32) (x4 : Int32) (M : Mem) (res : Int32 × Mem), f_X11_foretold_36 n  x0 x1 x2 x3 x4 M = some res → Ex X (d + 1) mX11_foretold 36 [(0, .ref x0), (1, .int x1), (2, .int x2), (3, .int x3), (4, .int x4)] [] M (some (.int res.1)) res.2 := by
  intro n
  induction n with
  | zero =>
    intro x0 x1 x2 x3 x4 M res  h
    unfold f_X11_foretold_36 at h
    cases h
  | succ n ih =>
    intro x0 x1 x2 x3 x4 M res  h
    unfold f_X11_foretold_36 at h
    refine ex_iload (pc := 36) 4 dX11_foretold_36 rfl ?_
    refine ex_iload_n (pc := 38) 1 dX11_foretold_38 rfl rfl ?_
    by_cases c1 : x1 ≤ x4
    · rw [if_pos c1] at h
      refine ex_icmp_ge_t (pc := 39) 65 dX11_foretold_39 rfl c1 ?_
      refine ex_aload_n (pc := 65) 0 dX11_foretold_65 rfl rfl ?_
      refine ex_iload_n (pc := 66) 2 dX11_foretold_66 rfl rfl ?_
      refine ex_iload_n (pc := 67) 3 dX11_foretold_67 rfl rfl ?_
      by_cases c2 : x3 = 0
      · rw [if_pos c2] at h
        refine ex_if_ne_f (pc := 68) dX11_foretold_68 75 rfl c2 ?_
        refine ex_iconst (pc := 71) 2 dX11_foretold_71 rfl ?_
        refine ex_goto (pc := 72) 85 dX11_foretold_72 rfl ?_
        obtain ⟨v8, ev8, h⟩ := ob_some h
        refine ex_callV2r (pc := 85) dX11_foretold_85 jX11_get lmX11_107 jiX11_get jvX11_get (o_X11_get ev8) rfl (Nat.le_of_ble_eq_true rfl) (s_X11_get (by omega)  ev8) ?_
        refine ex_istore (pc := 88) [(4, .int v8), (0, .ref x0), (1, .int x1), (2, .int x2), (3, .int x3)] dX11_foretold_88 (by decide) rfl ?_
        refine ex_aload_n (pc := 90) 1 dX11_foretold_90 rfl rfl ?_
        obtain ⟨q9, eq9, h⟩ := ob_some h
        refine ex_callV0v (pc := 91) dX11_foretold_91 jX11_putBack lmX11_432 jiX11_putBack jvX11_putBack (o_X11_putBack eq9) rfl (Nat.le_of_ble_eq_true rfl) (s_X11_putBack (by omega)  eq9) ?_
        refine ex_iload (pc := 94) 0 dX11_foretold_94 rfl ?_
        cases h
        exact ex_ireturn (pc := 96) dX11_foretold_96
      · rw [if_neg c2] at h
        refine ex_if_ne_t (pc := 68) 75 dX11_foretold_68 rfl c2 ?_
        refine ex_iload_n (pc := 75) 3 dX11_foretold_75 rfl rfl ?_
        refine ex_iconst (pc := 76) 1 dX11_foretold_76 rfl ?_
        by_cases c3 : x3 = 1
        · rw [if_pos c3] at h
          refine ex_icmp_ne_f (pc := 77) dX11_foretold_77 84 rfl c3 ?_
          refine ex_iconst (pc := 80) 0 dX11_foretold_80 rfl ?_
          refine ex_goto (pc := 81) 85 dX11_foretold_81 rfl ?_
          obtain ⟨v6, ev6, h⟩ := ob_some h
          refine ex_callV2r (pc := 85) dX11_foretold_85 jX11_get lmX11_107 jiX11_get jvX11_get (o_X11_get ev6) rfl (Nat.le_of_ble_eq_true rfl) (s_X11_get (by omega)  ev6) ?_
          refine ex_istore (pc := 88) [(4, .int v6), (0, .ref x0), (1, .int x1), (2, .int x2), (3, .int x3)] dX11_foretold_88 (by decide) rfl ?_
          refine ex_aload_n (pc := 90) 1 dX11_foretold_90 rfl rfl ?_
          obtain ⟨q7, eq7, h⟩ := ob_some h
          refine ex_callV0v (pc := 91) dX11_foretold_91 jX11_putBack lmX11_432 jiX11_putBack jvX11_putBack (o_X11_putBack eq7) rfl (Nat.le_of_ble_eq_true rfl) (s_X11_putBack (by omega)  eq7) ?_
          refine ex_iload (pc := 94) 0 dX11_foretold_94 rfl ?_
          cases h
          exact ex_ireturn (pc := 96) dX11_foretold_96
        · rw [if_neg c3] at h
          refine ex_icmp_ne_t (pc := 77) 84 dX11_foretold_77 rfl c3 ?_
          refine ex_iconst (pc := 84) 3 dX11_foretold_84 rfl ?_
          obtain ⟨v4, ev4, h⟩ := ob_some h
          refine ex_callV2r (pc := 85) dX11_foretold_85 jX11_get lmX11_107 jiX11_get jvX11_get (o_X11_get ev4) rfl (Nat.le_of_ble_eq_true rfl) (s_X11_get (by omega)  ev4) ?_
          refine ex_istore (pc := 88) [(4, .int v4), (0, .ref x0), (1, .int x1), (2, .int x2), (3, .int x3)] dX11_foretold_88 (by decide) rfl ?_
          refine ex_aload_n (pc := 90) 1 dX11_foretold_90 rfl rfl ?_
          obtain ⟨q5, eq5, h⟩ := ob_some h
          refine ex_callV0v (pc := 91) dX11_foretold_91 jX11_putBack lmX11_432 jiX11_putBack jvX11_putBack (o_X11_putBack eq5) rfl (Nat.le_of_ble_eq_true rfl) (s_X11_putBack (by omega)  eq5) ?_
          refine ex_iload (pc := 94) 0 dX11_foretold_94 rfl ?_
          cases h
          exact ex_ireturn (pc := 96) dX11_foretold_96
    · rw [if_neg c1] at h
      refine ex_icmp_ge_f (pc := 39) dX11_foretold_39 65 rfl c1 ?_
      refine ex_aload_n (pc := 42) 0 dX11_foretold_42 rfl rfl ?_
      obtain ⟨v10, ev10, h⟩ := ob_some h
      refine ex_gR (pc := 43) ev10 dX11_foretold_43 lfX11_7 ?_
      refine ex_bipush (pc := 46) 8 dX11_foretold_46 (by decide) ?_
      obtain ⟨v11, ev11, h⟩ := ob_some h
      refine ex_rI (pc := 48) ev11 dX11_foretold_48 ?_
      refine ex_sipush (pc := 49) 9999 dX11_foretold_49 (by decide) ?_
      by_cases c12 : 9999 ≤ v11
      · rw [if_pos c12] at h
        refine ex_icmp_ge_t (pc := 52) 59 dX11_foretold_52 rfl c12 ?_
        refine ex_iinc (pc := 59) (x4 + 1) 4 [(4, .int (x4 + 1)), (0, .ref x0), (1, .int x1), (2, .int x2), (3, .int x3)] dX11_foretold_59 rfl rfl (by decide) rfl ?_
        refine ex_goto (pc := 62) 36 dX11_foretold_62 rfl ?_
        refine ex_sub (lo' := [(0, .ref x0), (1, .int x1), (2, .int x2), (3, .int x3), (4, .int (x4 + 1))]) [1, 2, 3, 4, 0] rfl ?_
        exact ih _ _ _ _ _ _ _  h
      · rw [if_neg c12] at h
        refine ex_icmp_ge_f (pc := 52) dX11_foretold_52 59 rfl c12 ?_
        refine ex_aload_n (pc := 55) 0 dX11_foretold_55 rfl rfl ?_
        obtain ⟨q13, eq13, h⟩ := ob_some h
        refine ex_callV0v (pc := 56) dX11_foretold_56 jX11_pass lmX11_392 jiX11_pass jvX11_pass (o_X11_pass eq13) rfl (Nat.le_of_ble_eq_true rfl) (s_X11_pass (by omega)  eq13) ?_
        refine ex_iinc (pc := 59) (x4 + 1) 4 [(4, .int (x4 + 1)), (0, .ref x0), (1, .int x1), (2, .int x2), (3, .int x3)] dX11_foretold_59 rfl rfl (by decide) rfl ?_
        refine ex_goto (pc := 62) 36 dX11_foretold_62 rfl ?_
        refine ex_sub (lo' := [(0, .ref x0), (1, .int x1), (2, .int x2), (3, .int x3), (4, .int (x4 + 1))]) [1, 2, 3, 4, 0] rfl ?_
        exact ih _ _ _ _ _ _ _  h
noncomputable def f_X11_foretold_0 (x0 : Nat) (x1 : Int32) (x2 : Int32) (x3 : Int32) (M : Mem) : Option (Int32 × Mem) :=
  (f_X11_isIn x1 1 60).bind fun v14 =>
  if v14 = false then
  (some ((-1), M))
  else
  ((f_X11_isMachine x0 x2 M).bind fun v16 =>
  if v16 = false then
  (some ((-1), M))
  else
  ((f_X11_isIn x3 0 2).bind fun v18 =>
  if v18 = true then
  ((f_X11_setAside x0 M).bind fun q20 =>
  f_X11_foretold_36 fu x0 x1 x2 x3 0 q20)
  else
  (some ((-1), M))))
set_option maxHeartbeats 4000000 in
theorem t_X11_foretold_0 {X : XV} {d : Nat} (hd : 8 ≤ d + 1) : ∀ (x0 : Nat) (x1 : Int32) (x2 : Int32) (x3 : Int32) (M : Mem) (res : Int32 × Mem), f_X11_foretold_0  x0 x1 x2 x3 M = some res → Ex X (d + 1) mX11_foretold 0 [(0, .ref x0), (1, .int x1), (2, .int x2), (3, .int x3)] [] M (some (.int res.1)) res.2 := by
  intro x0 x1 x2 x3 M res  h
  unfold f_X11_foretold_0 at h
  refine ex_iload_n (pc := 0) 1 dX11_foretold_0 rfl rfl ?_
  refine ex_iconst (pc := 1) 1 dX11_foretold_1 rfl ?_
  refine ex_bipush (pc := 2) 60 dX11_foretold_2 (by decide) ?_
  obtain ⟨v14, ev14, h⟩ := ob_some h
  refine ex_callS3r (pc := 4) dX11_foretold_4 jX11_isIn lmX11_87 jsX11_isIn (Nat.le_of_ble_eq_true rfl) (s_X11_isIn (by omega)  ev14) ?_
  by_cases c15 : v14 = false
  · rw [if_pos c15] at h
    refine ex_if_eq_t (pc := 7) 27 dX11_foretold_7 rfl (jz_eq_t c15) ?_
    refine ex_iconst (pc := 27) (-1) dX11_foretold_27 rfl ?_
    cases h
    exact ex_ireturn (pc := 28) dX11_foretold_28
  · rw [if_neg c15] at h
    refine ex_if_eq_f (pc := 7) dX11_foretold_7 27 rfl (jz_eq_f c15) ?_
    refine ex_aload_n (pc := 10) 0 dX11_foretold_10 rfl rfl ?_
    refine ex_iload_n (pc := 11) 2 dX11_foretold_11 rfl rfl ?_
    obtain ⟨v16, ev16, h⟩ := ob_some h
    refine ex_callV1r (pc := 12) dX11_foretold_12 jX11_isMachine lmX11_374 jiX11_isMachine jvX11_isMachine (o_X11_isMachine ev16) rfl (Nat.le_of_ble_eq_true rfl) (s_X11_isMachine (by omega)  ev16) ?_
    by_cases c17 : v16 = false
    · rw [if_pos c17] at h
      refine ex_if_eq_t (pc := 15) 27 dX11_foretold_15 rfl (jz_eq_t c17) ?_
      refine ex_iconst (pc := 27) (-1) dX11_foretold_27 rfl ?_
      cases h
      exact ex_ireturn (pc := 28) dX11_foretold_28
    · rw [if_neg c17] at h
      refine ex_if_eq_f (pc := 15) dX11_foretold_15 27 rfl (jz_eq_f c17) ?_
      refine ex_iload_n (pc := 18) 3 dX11_foretold_18 rfl rfl ?_
      refine ex_iconst (pc := 19) 0 dX11_foretold_19 rfl ?_
      refine ex_iconst (pc := 20) 2 dX11_foretold_20 rfl ?_
      obtain ⟨v18, ev18, h⟩ := ob_some h
      refine ex_callS3r (pc := 21) dX11_foretold_21 jX11_isIn lmX11_87 jsX11_isIn (Nat.le_of_ble_eq_true rfl) (s_X11_isIn (by omega)  ev18) ?_
      by_cases c19 : v18 = true
      · rw [if_pos c19] at h
        refine ex_if_ne_t (pc := 24) 29 dX11_foretold_24 rfl (jz_ne_t c19) ?_
        refine ex_aload_n (pc := 29) 0 dX11_foretold_29 rfl rfl ?_
        obtain ⟨q20, eq20, h⟩ := ob_some h
        refine ex_callV0v (pc := 30) dX11_foretold_30 jX11_setAside lmX11_429 jiX11_setAside jvX11_setAside (o_X11_setAside eq20) rfl (Nat.le_of_ble_eq_true rfl) (s_X11_setAside (by omega)  eq20) ?_
        refine ex_iconst (pc := 33) 0 dX11_foretold_33 rfl ?_
        refine ex_istore (pc := 34) [(4, .int 0), (0, .ref x0), (1, .int x1), (2, .int x2), (3, .int x3)] dX11_foretold_34 (by decide) rfl ?_
        refine ex_sub (lo' := [(0, .ref x0), (1, .int x1), (2, .int x2), (3, .int x3), (4, .int 0)]) [1, 2, 3, 4, 0] rfl ?_
        exact t_X11_foretold_36 hd  _ _ _ _ _ _ _ _  h
      · rw [if_neg c19] at h
        refine ex_if_ne_f (pc := 24) dX11_foretold_24 29 rfl (jz_ne_f c19) ?_
        refine ex_iconst (pc := 27) (-1) dX11_foretold_27 rfl ?_
        cases h
        exact ex_ireturn (pc := 28) dX11_foretold_28
noncomputable def f_X11_foretold (x0 : Nat) (x1 : Int32) (x2 : Int32) (x3 : Int32) (M : Mem) : Option (Int32 × Mem) := if isOb M 11 x0 = true then f_X11_foretold_0 x0 x1 x2 x3 M else none
theorem o_X11_foretold {x0 : Nat} {x1 : Int32} {x2 : Int32} {x3 : Int32} {M : Mem} {res : Int32 × Mem} (h : f_X11_foretold x0 x1 x2 x3 M = some res) : isO M 11 x0 := by
  unfold f_X11_foretold at h
  split at h
  · rename_i hc; exact isOb_iff hc
  · cases h
set_option maxHeartbeats 4000000 in
theorem s_X11_foretold {X : XV} {d : Nat} (hd : 8 ≤ d) {x0 : Nat} {x1 : Int32} {x2 : Int32} {x3 : Int32} {M : Mem} {res : Int32 × Mem} (h : f_X11_foretold x0 x1 x2 x3 M = some res) : Mx X d mX11_foretold [.ref x0, .int x1, .int x2, .int x3] M (some (.int res.1)) res.2 := by
  obtain ⟨d, rfl⟩ : ∃ e, d = e + 1 := ⟨d - 1, by omega⟩
  unfold f_X11_foretold at h
  split at h
  rotate_left
  · cases h
  refine Mx.of (by decide) (Nat.le_of_ble_eq_true rfl) (⟨_, rfl, rfl⟩) ?_
  exact ex_sub (lo' := [(0, .ref x0), (1, .int x1), (2, .int x2), (3, .int x3)]) [0, 1, 2, 3] rfl (t_X11_foretold_0 hd _ _ _ _ _ _  h)
noncomputable def f_X11_behind_0 (x0 : Nat) (x1 : Int32) (x2 : Int32) (x3 : Int32) (M : Mem) : Option (Int32 × Mem) :=
  if x3 = (-1) then
  ((gR M 11 x0 0).bind fun v16 =>
  (wI M v16 x2 0).bind fun q17 =>
  some (0, q17))
  else
  ((f_X11_isDigit x3).bind fun v2 =>
  if v2 = false then
  (some ((-2), M))
  else
  ((gR M 11 x0 0).bind fun v4 =>
  (rI M v4 x2).bind fun v5 =>
  if v5 = 12 then
  (some ((-2), M))
  else
  ((gR M 11 x0 0).bind fun v7 =>
  (gR M 11 x0 0).bind fun v8 =>
  (rI M v8 x2).bind fun v9 =>
  (wI M v7 (x1 + v9) x3).bind fun q10 =>
  (gR q10 11 x0 0).bind fun v11 =>
  (rI q10 v11 x2).bind fun v12 =>
  (wI q10 v11 x2 (v12 + 1)).bind fun q13 =>
  (gR q13 11 x0 0).bind fun v14 =>
  (rI q13 v14 x2).bind fun v15 =>
  some (v15, q13))))
set_option maxHeartbeats 4000000 in
theorem t_X11_behind_0 {X : XV} {d : Nat} (hd : 3 ≤ d + 1) : ∀ (x0 : Nat) (x1 : Int32) (x2 : Int32) (x3 : Int32) (M : Mem) (res : Int32 × Mem), f_X11_behind_0  x0 x1 x2 x3 M = some res → Ex X (d + 1) mX11_behind 0 [(0, .ref x0), (1, .int x1), (2, .int x2), (3, .int x3)] [] M (some (.int res.1)) res.2 := by
  intro x0 x1 x2 x3 M res  h
  unfold f_X11_behind_0 at h
  refine ex_iload_n (pc := 0) 3 dX11_behind_0 rfl rfl ?_
  refine ex_iconst (pc := 1) (-1) dX11_behind_1 rfl ?_
  by_cases c1 : x3 = (-1)
  · rw [if_pos c1] at h
    refine ex_icmp_ne_f (pc := 2) dX11_behind_2 14 rfl c1 ?_
    refine ex_aload_n (pc := 5) 0 dX11_behind_5 rfl rfl ?_
    obtain ⟨v16, ev16, h⟩ := ob_some h
    refine ex_gR (pc := 6) ev16 dX11_behind_6 lfX11_7 ?_
    refine ex_iload_n (pc := 9) 2 dX11_behind_9 rfl rfl ?_
    refine ex_iconst (pc := 10) 0 dX11_behind_10 rfl ?_
    obtain ⟨q17, eq17, h⟩ := ob_some h
    refine ex_wI (pc := 11) eq17 dX11_behind_11 ?_
    refine ex_iconst (pc := 12) 0 dX11_behind_12 rfl ?_
    cases h
    exact ex_ireturn (pc := 13) dX11_behind_13
  · rw [if_neg c1] at h
    refine ex_icmp_ne_t (pc := 2) 14 dX11_behind_2 rfl c1 ?_
    refine ex_iload_n (pc := 14) 3 dX11_behind_14 rfl rfl ?_
    obtain ⟨v2, ev2, h⟩ := ob_some h
    refine ex_callS1r (pc := 15) dX11_behind_15 jX11_isDigit lmX11_95 jsX11_isDigit (Nat.le_of_ble_eq_true rfl) (s_X11_isDigit (by omega)  ev2) ?_
    by_cases c3 : v2 = false
    · rw [if_pos c3] at h
      refine ex_if_eq_t (pc := 18) 32 dX11_behind_18 rfl (jz_eq_t c3) ?_
      refine ex_bipush (pc := 32) (-2) dX11_behind_32 (by decide) ?_
      cases h
      exact ex_ireturn (pc := 34) dX11_behind_34
    · rw [if_neg c3] at h
      refine ex_if_eq_f (pc := 18) dX11_behind_18 32 rfl (jz_eq_f c3) ?_
      refine ex_aload_n (pc := 21) 0 dX11_behind_21 rfl rfl ?_
      obtain ⟨v4, ev4, h⟩ := ob_some h
      refine ex_gR (pc := 22) ev4 dX11_behind_22 lfX11_7 ?_
      refine ex_iload_n (pc := 25) 2 dX11_behind_25 rfl rfl ?_
      obtain ⟨v5, ev5, h⟩ := ob_some h
      refine ex_rI (pc := 26) ev5 dX11_behind_26 ?_
      refine ex_bipush (pc := 27) 12 dX11_behind_27 (by decide) ?_
      by_cases c6 : v5 = 12
      · rw [if_pos c6] at h
        refine ex_icmp_ne_f (pc := 29) dX11_behind_29 35 rfl c6 ?_
        refine ex_bipush (pc := 32) (-2) dX11_behind_32 (by decide) ?_
        cases h
        exact ex_ireturn (pc := 34) dX11_behind_34
      · rw [if_neg c6] at h
        refine ex_icmp_ne_t (pc := 29) 35 dX11_behind_29 rfl c6 ?_
        refine ex_aload_n (pc := 35) 0 dX11_behind_35 rfl rfl ?_
        obtain ⟨v7, ev7, h⟩ := ob_some h
        refine ex_gR (pc := 36) ev7 dX11_behind_36 lfX11_7 ?_
        refine ex_iload_n (pc := 39) 1 dX11_behind_39 rfl rfl ?_
        refine ex_aload_n (pc := 40) 0 dX11_behind_40 rfl rfl ?_
        obtain ⟨v8, ev8, h⟩ := ob_some h
        refine ex_gR (pc := 41) ev8 dX11_behind_41 lfX11_7 ?_
        refine ex_iload_n (pc := 44) 2 dX11_behind_44 rfl rfl ?_
        obtain ⟨v9, ev9, h⟩ := ob_some h
        refine ex_rI (pc := 45) ev9 dX11_behind_45 ?_
        refine ex_iadd (pc := 46) dX11_behind_46 ?_
        refine ex_iload_n (pc := 47) 3 dX11_behind_47 rfl rfl ?_
        obtain ⟨q10, eq10, h⟩ := ob_some h
        refine ex_wI (pc := 48) eq10 dX11_behind_48 ?_
        refine ex_aload_n (pc := 49) 0 dX11_behind_49 rfl rfl ?_
        obtain ⟨v11, ev11, h⟩ := ob_some h
        refine ex_gR (pc := 50) ev11 dX11_behind_50 lfX11_7 ?_
        refine ex_iload_n (pc := 53) 2 dX11_behind_53 rfl rfl ?_
        refine ex_dup2 (pc := 54) dX11_behind_54 rfl rfl ?_
        obtain ⟨v12, ev12, h⟩ := ob_some h
        refine ex_rI (pc := 55) ev12 dX11_behind_55 ?_
        refine ex_iconst (pc := 56) 1 dX11_behind_56 rfl ?_
        refine ex_iadd (pc := 57) dX11_behind_57 ?_
        obtain ⟨q13, eq13, h⟩ := ob_some h
        refine ex_wI (pc := 58) eq13 dX11_behind_58 ?_
        refine ex_aload_n (pc := 59) 0 dX11_behind_59 rfl rfl ?_
        obtain ⟨v14, ev14, h⟩ := ob_some h
        refine ex_gR (pc := 60) ev14 dX11_behind_60 lfX11_7 ?_
        refine ex_iload_n (pc := 63) 2 dX11_behind_63 rfl rfl ?_
        obtain ⟨v15, ev15, h⟩ := ob_some h
        refine ex_rI (pc := 64) ev15 dX11_behind_64 ?_
        cases h
        exact ex_ireturn (pc := 65) dX11_behind_65
noncomputable def f_X11_behind (x0 : Nat) (x1 : Int32) (x2 : Int32) (x3 : Int32) (M : Mem) : Option (Int32 × Mem) := if isOb M 11 x0 = true then f_X11_behind_0 x0 x1 x2 x3 M else none
theorem o_X11_behind {x0 : Nat} {x1 : Int32} {x2 : Int32} {x3 : Int32} {M : Mem} {res : Int32 × Mem} (h : f_X11_behind x0 x1 x2 x3 M = some res) : isO M 11 x0 := by
  unfold f_X11_behind at h
  split at h
  · rename_i hc; exact isOb_iff hc
  · cases h
set_option maxHeartbeats 4000000 in
theorem s_X11_behind {X : XV} {d : Nat} (hd : 3 ≤ d) {x0 : Nat} {x1 : Int32} {x2 : Int32} {x3 : Int32} {M : Mem} {res : Int32 × Mem} (h : f_X11_behind x0 x1 x2 x3 M = some res) : Mx X d mX11_behind [.ref x0, .int x1, .int x2, .int x3] M (some (.int res.1)) res.2 := by
  obtain ⟨d, rfl⟩ : ∃ e, d = e + 1 := ⟨d - 1, by omega⟩
  unfold f_X11_behind at h
  split at h
  rotate_left
  · cases h
  refine Mx.of (by decide) (Nat.le_of_ble_eq_true rfl) (⟨_, rfl, rfl⟩) ?_
  exact ex_sub (lo' := [(0, .ref x0), (1, .int x1), (2, .int x2), (3, .int x3)]) [0, 1, 2, 3] rfl (t_X11_behind_0 hd _ _ _ _ _ _  h)
noncomputable def f_X11_put_0 (x0 : Nat) (x1 : Int32) (M : Mem) : Option (Int32 × Mem) :=
  (f_X11_behind x0 121 4 x1 M).bind fun q1 =>
  some (q1.1, q1.2)
set_option maxHeartbeats 4000000 in
theorem t_X11_put_0 {X : XV} {d : Nat} (hd : 4 ≤ d + 1) : ∀ (x0 : Nat) (x1 : Int32) (M : Mem) (res : Int32 × Mem), f_X11_put_0  x0 x1 M = some res → Ex X (d + 1) mX11_put 0 [(0, .ref x0), (1, .int x1)] [] M (some (.int res.1)) res.2 := by
  intro x0 x1 M res  h
  unfold f_X11_put_0 at h
  refine ex_aload_n (pc := 0) 0 dX11_put_0 rfl rfl ?_
  refine ex_bipush (pc := 1) 121 dX11_put_1 (by decide) ?_
  refine ex_iconst (pc := 3) 4 dX11_put_3 rfl ?_
  refine ex_iload_n (pc := 4) 1 dX11_put_4 rfl rfl ?_
  obtain ⟨q1, eq1, h⟩ := ob_some h
  refine ex_callV3r (pc := 5) dX11_put_5 jX11_behind lmX11_435 jiX11_behind jvX11_behind (o_X11_behind eq1) rfl (Nat.le_of_ble_eq_true rfl) (s_X11_behind (by omega)  eq1) ?_
  cases h
  exact ex_ireturn (pc := 8) dX11_put_8
noncomputable def f_X11_put (x0 : Nat) (x1 : Int32) (M : Mem) : Option (Int32 × Mem) := if isOb M 11 x0 = true then f_X11_put_0 x0 x1 M else none
theorem o_X11_put {x0 : Nat} {x1 : Int32} {M : Mem} {res : Int32 × Mem} (h : f_X11_put x0 x1 M = some res) : isO M 11 x0 := by
  unfold f_X11_put at h
  split at h
  · rename_i hc; exact isOb_iff hc
  · cases h
set_option maxHeartbeats 4000000 in
theorem s_X11_put {X : XV} {d : Nat} (hd : 4 ≤ d) {x0 : Nat} {x1 : Int32} {M : Mem} {res : Int32 × Mem} (h : f_X11_put x0 x1 M = some res) : Mx X d mX11_put [.ref x0, .int x1] M (some (.int res.1)) res.2 := by
  obtain ⟨d, rfl⟩ : ∃ e, d = e + 1 := ⟨d - 1, by omega⟩
  unfold f_X11_put at h
  split at h
  rotate_left
  · cases h
  refine Mx.of (by decide) (Nat.le_of_ble_eq_true rfl) (⟨_, rfl, rfl⟩) ?_
  exact ex_sub (lo' := [(0, .ref x0), (1, .int x1)]) [0, 1] rfl (t_X11_put_0 hd _ _ _ _  h)
noncomputable def f_X11_second_0 (x0 : Nat) (x1 : Int32) (M : Mem) : Option (Int32 × Mem) :=
  (f_X11_behind x0 133 5 x1 M).bind fun q1 =>
  some (q1.1, q1.2)
set_option maxHeartbeats 4000000 in
theorem t_X11_second_0 {X : XV} {d : Nat} (hd : 4 ≤ d + 1) : ∀ (x0 : Nat) (x1 : Int32) (M : Mem) (res : Int32 × Mem), f_X11_second_0  x0 x1 M = some res → Ex X (d + 1) mX11_second 0 [(0, .ref x0), (1, .int x1)] [] M (some (.int res.1)) res.2 := by
  intro x0 x1 M res  h
  unfold f_X11_second_0 at h
  refine ex_aload_n (pc := 0) 0 dX11_second_0 rfl rfl ?_
  refine ex_sipush (pc := 1) 133 dX11_second_1 (by decide) ?_
  refine ex_iconst (pc := 4) 5 dX11_second_4 rfl ?_
  refine ex_iload_n (pc := 5) 1 dX11_second_5 rfl rfl ?_
  obtain ⟨q1, eq1, h⟩ := ob_some h
  refine ex_callV3r (pc := 6) dX11_second_6 jX11_behind lmX11_435 jiX11_behind jvX11_behind (o_X11_behind eq1) rfl (Nat.le_of_ble_eq_true rfl) (s_X11_behind (by omega)  eq1) ?_
  cases h
  exact ex_ireturn (pc := 9) dX11_second_9
noncomputable def f_X11_second (x0 : Nat) (x1 : Int32) (M : Mem) : Option (Int32 × Mem) := if isOb M 11 x0 = true then f_X11_second_0 x0 x1 M else none
theorem o_X11_second {x0 : Nat} {x1 : Int32} {M : Mem} {res : Int32 × Mem} (h : f_X11_second x0 x1 M = some res) : isO M 11 x0 := by
  unfold f_X11_second at h
  split at h
  · rename_i hc; exact isOb_iff hc
  · cases h
set_option maxHeartbeats 4000000 in
theorem s_X11_second {X : XV} {d : Nat} (hd : 4 ≤ d) {x0 : Nat} {x1 : Int32} {M : Mem} {res : Int32 × Mem} (h : f_X11_second x0 x1 M = some res) : Mx X d mX11_second [.ref x0, .int x1] M (some (.int res.1)) res.2 := by
  obtain ⟨d, rfl⟩ : ∃ e, d = e + 1 := ⟨d - 1, by omega⟩
  unfold f_X11_second at h
  split at h
  rotate_left
  · cases h
  refine Mx.of (by decide) (Nat.le_of_ble_eq_true rfl) (⟨_, rfl, rfl⟩) ?_
  exact ex_sub (lo' := [(0, .ref x0), (1, .int x1)]) [0, 1] rfl (t_X11_second_0 hd _ _ _ _  h)
noncomputable def f_X11_goesOn_19 (n0 : Nat) (x0 : Nat) (x1 : Int32) (x2 : Int32) (x3 : Int32) (M : Mem) : Option (Int32) :=
  match n0 with
  | 0 => none
  | n + 1 =>
    (f_X11_wordLong x2).bind fun v1 =>
    if v1 ≤ x3 then
    ((f_X11_wordLong x2).bind fun v3 =>
    some (x1 + v3))
    else
    ((gR M 11 x0 0).bind fun v4 =>
    (rI M v4 ((121 + x1) + x3)).bind fun v5 =>
    (f_X11_wordDigit x2 x3).bind fun v6 =>
    if v5 = v6 then
    (f_X11_goesOn_19 n x0 x1 x2 (x3 + 1) M)
    else
    (some (-1)))
set_option maxHeartbeats 4000000 in
theorem t_X11_goesOn_19 {X : XV} {d : Nat} (hd : 2 ≤ d + 1) : ∀ (n : Nat) (x0 : Nat) (x1 : Int32) (x2 : Int32) (x3 : Int32) (M : Mem) (res : Int32), f_X11_goesOn_19 n  x0 x1 x2 x3 M = some res → Ex X (d + 1) mX11_goesOn 19 [(0, .ref x0), (1, .int x1), (2, .int x2), (3, .int x3)] [] M (some (.int res)) M := by
  intro n
  induction n with
  | zero =>
    intro x0 x1 x2 x3 M res  h
    unfold f_X11_goesOn_19 at h
    cases h
  | succ n ih =>
    intro x0 x1 x2 x3 M res  h
    unfold f_X11_goesOn_19 at h
    refine ex_iload_n (pc := 19) 3 dX11_goesOn_19 rfl rfl ?_
    refine ex_iload_n (pc := 20) 2 dX11_goesOn_20 rfl rfl ?_
    obtain ⟨v1, ev1, h⟩ := ob_some h
    refine ex_callS1r (pc := 21) dX11_goesOn_21 jX11_wordLong lmX11_332 jsX11_wordLong (Nat.le_of_ble_eq_true rfl) (s_X11_wordLong (by omega)  ev1) ?_
    by_cases c2 : v1 ≤ x3
    · rw [if_pos c2] at h
      refine ex_icmp_ge_t (pc := 24) 54 dX11_goesOn_24 rfl c2 ?_
      refine ex_iload_n (pc := 54) 1 dX11_goesOn_54 rfl rfl ?_
      refine ex_iload_n (pc := 55) 2 dX11_goesOn_55 rfl rfl ?_
      obtain ⟨v3, ev3, h⟩ := ob_some h
      refine ex_callS1r (pc := 56) dX11_goesOn_56 jX11_wordLong lmX11_332 jsX11_wordLong (Nat.le_of_ble_eq_true rfl) (s_X11_wordLong (by omega)  ev3) ?_
      refine ex_iadd (pc := 59) dX11_goesOn_59 ?_
      cases h
      exact ex_ireturn (pc := 60) dX11_goesOn_60
    · rw [if_neg c2] at h
      refine ex_icmp_ge_f (pc := 24) dX11_goesOn_24 54 rfl c2 ?_
      refine ex_aload_n (pc := 27) 0 dX11_goesOn_27 rfl rfl ?_
      obtain ⟨v4, ev4, h⟩ := ob_some h
      refine ex_gR (pc := 28) ev4 dX11_goesOn_28 lfX11_7 ?_
      refine ex_bipush (pc := 31) 121 dX11_goesOn_31 (by decide) ?_
      refine ex_iload_n (pc := 33) 1 dX11_goesOn_33 rfl rfl ?_
      refine ex_iadd (pc := 34) dX11_goesOn_34 ?_
      refine ex_iload_n (pc := 35) 3 dX11_goesOn_35 rfl rfl ?_
      refine ex_iadd (pc := 36) dX11_goesOn_36 ?_
      obtain ⟨v5, ev5, h⟩ := ob_some h
      refine ex_rI (pc := 37) ev5 dX11_goesOn_37 ?_
      refine ex_iload_n (pc := 38) 2 dX11_goesOn_38 rfl rfl ?_
      refine ex_iload_n (pc := 39) 3 dX11_goesOn_39 rfl rfl ?_
      obtain ⟨v6, ev6, h⟩ := ob_some h
      refine ex_callS2r (pc := 40) dX11_goesOn_40 jX11_wordDigit lmX11_335 jsX11_wordDigit (Nat.le_of_ble_eq_true rfl) (s_X11_wordDigit (by omega)  ev6) ?_
      by_cases c7 : v5 = v6
      · rw [if_pos c7] at h
        refine ex_icmp_eq_t (pc := 43) 48 dX11_goesOn_43 rfl c7 ?_
        refine ex_iinc (pc := 48) (x3 + 1) 3 [(3, .int (x3 + 1)), (0, .ref x0), (1, .int x1), (2, .int x2)] dX11_goesOn_48 rfl rfl (by decide) rfl ?_
        refine ex_goto (pc := 51) 19 dX11_goesOn_51 rfl ?_
        refine ex_sub (lo' := [(0, .ref x0), (1, .int x1), (2, .int x2), (3, .int (x3 + 1))]) [1, 2, 3, 0] rfl ?_
        exact ih _ _ _ _ _ _  h
      · rw [if_neg c7] at h
        refine ex_icmp_eq_f (pc := 43) dX11_goesOn_43 48 rfl c7 ?_
        refine ex_iconst (pc := 46) (-1) dX11_goesOn_46 rfl ?_
        cases h
        exact ex_ireturn (pc := 47) dX11_goesOn_47
noncomputable def f_X11_goesOn_0 (x0 : Nat) (x1 : Int32) (x2 : Int32) (M : Mem) : Option (Int32) :=
  (f_X11_wordLong x2).bind fun v8 =>
  (gR M 11 x0 0).bind fun v9 =>
  (rI M v9 4).bind fun v10 =>
  if (x1 + v8) ≤ v10 then
  (f_X11_goesOn_19 fu x0 x1 x2 0 M)
  else
  (some (-1))
set_option maxHeartbeats 4000000 in
theorem t_X11_goesOn_0 {X : XV} {d : Nat} (hd : 2 ≤ d + 1) : ∀ (x0 : Nat) (x1 : Int32) (x2 : Int32) (M : Mem) (res : Int32), f_X11_goesOn_0  x0 x1 x2 M = some res → Ex X (d + 1) mX11_goesOn 0 [(0, .ref x0), (1, .int x1), (2, .int x2)] [] M (some (.int res)) M := by
  intro x0 x1 x2 M res  h
  unfold f_X11_goesOn_0 at h
  refine ex_iload_n (pc := 0) 1 dX11_goesOn_0 rfl rfl ?_
  refine ex_iload_n (pc := 1) 2 dX11_goesOn_1 rfl rfl ?_
  obtain ⟨v8, ev8, h⟩ := ob_some h
  refine ex_callS1r (pc := 2) dX11_goesOn_2 jX11_wordLong lmX11_332 jsX11_wordLong (Nat.le_of_ble_eq_true rfl) (s_X11_wordLong (by omega)  ev8) ?_
  refine ex_iadd (pc := 5) dX11_goesOn_5 ?_
  refine ex_aload_n (pc := 6) 0 dX11_goesOn_6 rfl rfl ?_
  obtain ⟨v9, ev9, h⟩ := ob_some h
  refine ex_gR (pc := 7) ev9 dX11_goesOn_7 lfX11_7 ?_
  refine ex_iconst (pc := 10) 4 dX11_goesOn_10 rfl ?_
  obtain ⟨v10, ev10, h⟩ := ob_some h
  refine ex_rI (pc := 11) ev10 dX11_goesOn_11 ?_
  by_cases c11 : (x1 + v8) ≤ v10
  · rw [if_pos c11] at h
    refine ex_icmp_le_t (pc := 12) 17 dX11_goesOn_12 rfl c11 ?_
    refine ex_iconst (pc := 17) 0 dX11_goesOn_17 rfl ?_
    refine ex_istore_n (pc := 18) [(3, .int 0), (0, .ref x0), (1, .int x1), (2, .int x2)] dX11_goesOn_18 rfl (by decide) rfl ?_
    refine ex_sub (lo' := [(0, .ref x0), (1, .int x1), (2, .int x2), (3, .int 0)]) [1, 2, 3, 0] rfl ?_
    exact t_X11_goesOn_19 hd  _ _ _ _ _ _ _  h
  · rw [if_neg c11] at h
    refine ex_icmp_le_f (pc := 12) dX11_goesOn_12 17 rfl c11 ?_
    refine ex_iconst (pc := 15) (-1) dX11_goesOn_15 rfl ?_
    cases h
    exact ex_ireturn (pc := 16) dX11_goesOn_16
noncomputable def f_X11_goesOn (x0 : Nat) (x1 : Int32) (x2 : Int32) (M : Mem) : Option (Int32) := if isOb M 11 x0 = true then f_X11_goesOn_0 x0 x1 x2 M else none
theorem o_X11_goesOn {x0 : Nat} {x1 : Int32} {x2 : Int32} {M : Mem} {res : Int32} (h : f_X11_goesOn x0 x1 x2 M = some res) : isO M 11 x0 := by
  unfold f_X11_goesOn at h
  split at h
  · rename_i hc; exact isOb_iff hc
  · cases h
set_option maxHeartbeats 4000000 in
theorem s_X11_goesOn {X : XV} {d : Nat} (hd : 2 ≤ d) {x0 : Nat} {x1 : Int32} {x2 : Int32} {M : Mem} {res : Int32} (h : f_X11_goesOn x0 x1 x2 M = some res) : Mx X d mX11_goesOn [.ref x0, .int x1, .int x2] M (some (.int res)) M := by
  obtain ⟨d, rfl⟩ : ∃ e, d = e + 1 := ⟨d - 1, by omega⟩
  unfold f_X11_goesOn at h
  split at h
  rotate_left
  · cases h
  refine Mx.of (by decide) (Nat.le_of_ble_eq_true rfl) (⟨_, rfl, rfl⟩) ?_
  exact ex_sub (lo' := [(0, .ref x0), (1, .int x1), (2, .int x2)]) [0, 1, 2] rfl (t_X11_goesOn_0 hd _ _ _ _ _  h)
noncomputable def f_X11_waysOf_147 (k36 : Nat → Int32 → Int32 → Int32 → Int32 → Mem → Option (Int64 × Mem)) (k72 : Nat → Int32 → Int32 → Int32 → Int32 → Int32 → Mem → Option (Int64 × Mem)) (x0 : Nat) (x1 : Int32) (x2 : Int32) (x3 : Int32) (x4 : Int32) (x5 : Int32) (x7 : Int32) (M : Mem) : Option (Int64 × Mem) :=
  if x7 = (-1) then
  (k72 x0 x1 x2 x3 x4 (x5 + 1) M)
  else
  ((gR M 11 x0 27).bind fun v2 =>
  (rL M v2 x7).bind fun v3 =>
  (gR M 11 x0 26).bind fun v4 =>
  (rL M v4 x5).bind fun v5 =>
  (wL M v2 x7 (v3 + ((Int32.toInt64 x3) * v5))).bind fun q6 =>
  k72 x0 x1 x2 x3 x4 (x5 + 1) q6)
set_option maxHeartbeats 4000000 in
theorem t_X11_waysOf_147 {X : XV} {d : Nat} (hd : 3 ≤ d + 1) {k36 : Nat → Int32 → Int32 → Int32 → Int32 → Mem → Option (Int64 × Mem)} (hk36 : ∀ (x0 : Nat) (x1 : Int32) (x2 : Int32) (x3 : Int32) (x4 : Int32) (M : Mem) (res : Int64 × Mem), k36 x0 x1 x2 x3 x4 M = some res → Ex X (d + 1) mX11_waysOf 36 [(0, .ref x0), (1, .int x1), (2, .int x2), (3, .int x3), (4, .int x4)] [] M (some (.long res.1)) res.2) {k72 : Nat → Int32 → Int32 → Int32 → Int32 → Int32 → Mem → Option (Int64 × Mem)} (hk72 : ∀ (x0 : Nat) (x1 : Int32) (x2 : Int32) (x3 : Int32) (x4 : Int32) (x5 : Int32) (M : Mem) (res : Int64 × Mem), k72 x0 x1 x2 x3 x4 x5 M = some res → Ex X (d + 1) mX11_waysOf 72 [(0, .ref x0), (1, .int x1), (2, .int x2), (3, .int x3), (4, .int x4), (5, .int x5)] [] M (some (.long res.1)) res.2) : ∀ (x0 : Nat) (x1 : Int32) (x2 : Int32) (x3 : Int32) (x4 : Int32) (x5 : Int32) (x7 : Int32) (M : Mem) (res : Int64 × Mem), f_X11_waysOf_147 k36 k72 x0 x1 x2 x3 x4 x5 x7 M = some res → Ex X (d + 1) mX11_waysOf 147 [(0, .ref x0), (1, .int x1), (2, .int x2), (3, .int x3), (4, .int x4), (5, .int x5), (7, .int x7)] [] M (some (.long res.1)) res.2 := by
  intro x0 x1 x2 x3 x4 x5 x7 M res  h
  unfold f_X11_waysOf_147 at h
  refine ex_iload (pc := 147) 6 dX11_waysOf_147 rfl ?_
  refine ex_iconst (pc := 149) (-1) dX11_waysOf_149 rfl ?_
  by_cases c1 : x7 = (-1)
  · rw [if_pos c1] at h
    refine ex_icmp_eq_t (pc := 150) 173 dX11_waysOf_150 rfl c1 ?_
    refine ex_iinc (pc := 173) (x5 + 1) 5 [(5, .int (x5 + 1)), (0, .ref x0), (1, .int x1), (2, .int x2), (3, .int x3), (4, .int x4), (7, .int x7)] dX11_waysOf_173 rfl rfl (by decide) rfl ?_
    refine ex_goto (pc := 176) 72 dX11_waysOf_176 rfl ?_
    refine ex_sub (lo' := [(0, .ref x0), (1, .int x1), (2, .int x2), (3, .int x3), (4, .int x4), (5, .int (x5 + 1))]) [1, 2, 3, 4, 5, 0] rfl ?_
    exact hk72 _ _ _ _ _ _ _ _  h
  · rw [if_neg c1] at h
    refine ex_icmp_eq_f (pc := 150) dX11_waysOf_150 173 rfl c1 ?_
    refine ex_aload_n (pc := 153) 0 dX11_waysOf_153 rfl rfl ?_
    obtain ⟨v2, ev2, h⟩ := ob_some h
    refine ex_gR (pc := 154) ev2 dX11_waysOf_154 lfX11_53 ?_
    refine ex_iload (pc := 157) 6 dX11_waysOf_157 rfl ?_
    refine ex_dup2 (pc := 159) dX11_waysOf_159 rfl rfl ?_
    obtain ⟨v3, ev3, h⟩ := ob_some h
    refine ex_rL (pc := 160) ev3 dX11_waysOf_160 ?_
    refine ex_iload_n (pc := 161) 3 dX11_waysOf_161 rfl rfl ?_
    refine ex_i2l (pc := 162) dX11_waysOf_162 ?_
    refine ex_aload_n (pc := 163) 0 dX11_waysOf_163 rfl rfl ?_
    obtain ⟨v4, ev4, h⟩ := ob_some h
    refine ex_gR (pc := 164) ev4 dX11_waysOf_164 lfX11_50 ?_
    refine ex_iload (pc := 167) 5 dX11_waysOf_167 rfl ?_
    obtain ⟨v5, ev5, h⟩ := ob_some h
    refine ex_rL (pc := 169) ev5 dX11_waysOf_169 ?_
    refine ex_lmul (pc := 170) dX11_waysOf_170 ?_
    refine ex_ladd (pc := 171) dX11_waysOf_171 ?_
    obtain ⟨q6, eq6, h⟩ := ob_some h
    refine ex_wL (pc := 172) eq6 dX11_waysOf_172 ?_
    refine ex_iinc (pc := 173) (x5 + 1) 5 [(5, .int (x5 + 1)), (0, .ref x0), (1, .int x1), (2, .int x2), (3, .int x3), (4, .int x4), (7, .int x7)] dX11_waysOf_173 rfl rfl (by decide) rfl ?_
    refine ex_goto (pc := 176) 72 dX11_waysOf_176 rfl ?_
    refine ex_sub (lo' := [(0, .ref x0), (1, .int x1), (2, .int x2), (3, .int x3), (4, .int x4), (5, .int (x5 + 1))]) [1, 2, 3, 4, 5, 0] rfl ?_
    exact hk72 _ _ _ _ _ _ _ _  h
noncomputable def f_X11_waysOf_182 (n0 : Nat) (k36 : Nat → Int32 → Int32 → Int32 → Int32 → Mem → Option (Int64 × Mem)) (x0 : Nat) (x1 : Int32) (x2 : Int32) (x3 : Int32) (x4 : Int32) (x5 : Int32) (M : Mem) : Option (Int64 × Mem) :=
  match n0 with
  | 0 => none
  | n + 1 =>
    if 12 < x5 then
    (k36 x0 x1 x2 x3 (x4 + 1) M)
    else
    ((gR M 11 x0 26).bind fun v8 =>
    (gR M 11 x0 27).bind fun v9 =>
    (rL M v9 x5).bind fun v10 =>
    (wL M v8 x5 v10).bind fun q11 =>
    f_X11_waysOf_182 n k36 x0 x1 x2 x3 x4 (x5 + 1) q11)
set_option maxHeartbeats 4000000 in
theorem t_X11_waysOf_182 {X : XV} {d : Nat} (hd : 3 ≤ d + 1) {k36 : Nat → Int32 → Int32 → Int32 → Int32 → Mem → Option (Int64 × Mem)} (hk36 : ∀ (x0 : Nat) (x1 : Int32) (x2 : Int32) (x3 : Int32) (x4 : Int32) (M : Mem) (res : Int64 × Mem), k36 x0 x1 x2 x3 x4 M = some res → Ex X (d + 1) mX11_waysOf 36 [(0, .ref x0), (1, .int x1), (2, .int x2), (3, .int x3), (4, .int x4)] [] M (some (.long res.1)) res.2) : ∀ (n : Nat) (x0 : Nat) (x1 : Int32) (x2 : Int32) (x3 : Int32) (x4 : Int32) (x5 : Int32) (M : Mem) (res : Int64 × Mem), f_X11_waysOf_182 n k36 x0 x1 x2 x3 x4 x5 M = some res → Ex X (d + 1) mX11_waysOf 182 [(0, .ref x0), (1, .int x1), (2, .int x2), (3, .int x3), (4, .int x4), (5, .int x5)] [] M (some (.long res.1)) res.2 := by
  intro n
  induction n with
  | zero =>
    intro x0 x1 x2 x3 x4 x5 M res  h
    unfold f_X11_waysOf_182 at h
    cases h
  | succ n ih =>
    intro x0 x1 x2 x3 x4 x5 M res  h
    unfold f_X11_waysOf_182 at h
    refine ex_iload (pc := 182) 5 dX11_waysOf_182 rfl ?_
    refine ex_bipush (pc := 184) 12 dX11_waysOf_184 (by decide) ?_
    by_cases c7 : 12 < x5
    · rw [if_pos c7] at h
      refine ex_icmp_gt_t (pc := 186) 209 dX11_waysOf_186 rfl c7 ?_
      refine ex_iinc (pc := 209) (x4 + 1) 4 [(4, .int (x4 + 1)), (0, .ref x0), (1, .int x1), (2, .int x2), (3, .int x3), (5, .int x5)] dX11_waysOf_209 rfl rfl (by decide) rfl ?_
      refine ex_goto (pc := 212) 36 dX11_waysOf_212 rfl ?_
      refine ex_sub (lo' := [(0, .ref x0), (1, .int x1), (2, .int x2), (3, .int x3), (4, .int (x4 + 1))]) [1, 2, 3, 4, 0] rfl ?_
      exact hk36 _ _ _ _ _ _ _  h
    · rw [if_neg c7] at h
      refine ex_icmp_gt_f (pc := 186) dX11_waysOf_186 209 rfl c7 ?_
      refine ex_aload_n (pc := 189) 0 dX11_waysOf_189 rfl rfl ?_
      obtain ⟨v8, ev8, h⟩ := ob_some h
      refine ex_gR (pc := 190) ev8 dX11_waysOf_190 lfX11_50 ?_
      refine ex_iload (pc := 193) 5 dX11_waysOf_193 rfl ?_
      refine ex_aload_n (pc := 195) 0 dX11_waysOf_195 rfl rfl ?_
      obtain ⟨v9, ev9, h⟩ := ob_some h
      refine ex_gR (pc := 196) ev9 dX11_waysOf_196 lfX11_53 ?_
      refine ex_iload (pc := 199) 5 dX11_waysOf_199 rfl ?_
      obtain ⟨v10, ev10, h⟩ := ob_some h
      refine ex_rL (pc := 201) ev10 dX11_waysOf_201 ?_
      obtain ⟨q11, eq11, h⟩ := ob_some h
      refine ex_wL (pc := 202) eq11 dX11_waysOf_202 ?_
      refine ex_iinc (pc := 203) (x5 + 1) 5 [(5, .int (x5 + 1)), (0, .ref x0), (1, .int x1), (2, .int x2), (3, .int x3), (4, .int x4)] dX11_waysOf_203 rfl rfl (by decide) rfl ?_
      refine ex_goto (pc := 206) 182 dX11_waysOf_206 rfl ?_
      refine ex_sub (lo' := [(0, .ref x0), (1, .int x1), (2, .int x2), (3, .int x3), (4, .int x4), (5, .int (x5 + 1))]) [1, 2, 3, 4, 5, 0] rfl ?_
      exact ih _ _ _ _ _ _ _ _  h
noncomputable def f_X11_waysOf_72 (n0 : Nat) (k36 : Nat → Int32 → Int32 → Int32 → Int32 → Mem → Option (Int64 × Mem)) (x0 : Nat) (x1 : Int32) (x2 : Int32) (x3 : Int32) (x4 : Int32) (x5 : Int32) (M : Mem) : Option (Int64 × Mem) :=
  match n0 with
  | 0 => none
  | n + 1 =>
    (gR M 11 x0 0).bind fun v12 =>
    (rI M v12 4).bind fun v13 =>
    if v13 < x5 then
    (f_X11_waysOf_182 fu k36 x0 x1 x2 x3 x4 0 M)
    else
    ((f_X11_digitOf x1 x4).bind fun v15 =>
    (f_X11_ruleOf x0 v15 0 M).bind fun v16 =>
    (f_X11_goesOn x0 x5 v16 M).bind fun v17 =>
    (f_X11_digitOf x1 x4).bind fun v18 =>
    (f_X11_ruleOf x0 v18 1 M).bind fun v19 =>
    (f_X11_goesOn x0 x5 v19 M).bind fun v20 =>
    if v17 = (-1) then
    (f_X11_waysOf_147 k36 (f_X11_waysOf_72 n k36) x0 x1 x2 x3 x4 x5 v20 M)
    else
    ((gR M 11 x0 27).bind fun v22 =>
    (rL M v22 v17).bind fun v23 =>
    (gR M 11 x0 26).bind fun v24 =>
    (rL M v24 x5).bind fun v25 =>
    (wL M v22 v17 (v23 + ((Int32.toInt64 x2) * v25))).bind fun q26 =>
    f_X11_waysOf_147 k36 (f_X11_waysOf_72 n k36) x0 x1 x2 x3 x4 x5 v20 q26))
set_option maxHeartbeats 4000000 in
theorem t_X11_waysOf_72 {X : XV} {d : Nat} (hd : 3 ≤ d + 1) {k36 : Nat → Int32 → Int32 → Int32 → Int32 → Mem → Option (Int64 × Mem)} (hk36 : ∀ (x0 : Nat) (x1 : Int32) (x2 : Int32) (x3 : Int32) (x4 : Int32) (M : Mem) (res : Int64 × Mem), k36 x0 x1 x2 x3 x4 M = some res → Ex X (d + 1) mX11_waysOf 36 [(0, .ref x0), (1, .int x1), (2, .int x2), (3, .int x3), (4, .int x4)] [] M (some (.long res.1)) res.2) : ∀ (n : Nat) (x0 : Nat) (x1 : Int32) (x2 : Int32) (x3 : Int32) (x4 : Int32) (x5 : Int32) (M : Mem) (res : Int64 × Mem), f_X11_waysOf_72 n k36 x0 x1 x2 x3 x4 x5 M = some res → Ex X (d + 1) mX11_waysOf 72 [(0, .ref x0), (1, .int x1), (2, .int x2), (3, .int x3), (4, .int x4), (5, .int x5)] [] M (some (.long res.1)) res.2 := by
  intro n
  induction n with
  | zero =>
    intro x0 x1 x2 x3 x4 x5 M res  h
    unfold f_X11_waysOf_72 at h
    cases h
  | succ n ih =>
    intro x0 x1 x2 x3 x4 x5 M res  h
    unfold f_X11_waysOf_72 at h
    refine ex_iload (pc := 72) 5 dX11_waysOf_72 rfl ?_
    refine ex_aload_n (pc := 74) 0 dX11_waysOf_74 rfl rfl ?_
    obtain ⟨v12, ev12, h⟩ := ob_some h
    refine ex_gR (pc := 75) ev12 dX11_waysOf_75 lfX11_7 ?_
    refine ex_iconst (pc := 78) 4 dX11_waysOf_78 rfl ?_
    obtain ⟨v13, ev13, h⟩ := ob_some h
    refine ex_rI (pc := 79) ev13 dX11_waysOf_79 ?_
    by_cases c14 : v13 < x5
    · rw [if_pos c14] at h
      refine ex_icmp_gt_t (pc := 80) 179 dX11_waysOf_80 rfl c14 ?_
      refine ex_iconst (pc := 179) 0 dX11_waysOf_179 rfl ?_
      refine ex_istore (pc := 180) [(5, .int 0), (0, .ref x0), (1, .int x1), (2, .int x2), (3, .int x3), (4, .int x4)] dX11_waysOf_180 (by decide) rfl ?_
      refine ex_sub (lo' := [(0, .ref x0), (1, .int x1), (2, .int x2), (3, .int x3), (4, .int x4), (5, .int 0)]) [1, 2, 3, 4, 5, 0] rfl ?_
      exact t_X11_waysOf_182 hd hk36 _ _ _ _ _ _ _ _ _  h
    · rw [if_neg c14] at h
      refine ex_icmp_gt_f (pc := 80) dX11_waysOf_80 179 rfl c14 ?_
      refine ex_aload_n (pc := 83) 0 dX11_waysOf_83 rfl rfl ?_
      refine ex_iload (pc := 84) 5 dX11_waysOf_84 rfl ?_
      refine ex_aload_n (pc := 86) 0 dX11_waysOf_86 rfl rfl ?_
      refine ex_iload_n (pc := 87) 1 dX11_waysOf_87 rfl rfl ?_
      refine ex_iload (pc := 88) 4 dX11_waysOf_88 rfl ?_
      obtain ⟨v15, ev15, h⟩ := ob_some h
      refine ex_callS2r (pc := 90) dX11_waysOf_90 jX11_digitOf lmX11_344 jsX11_digitOf (Nat.le_of_ble_eq_true rfl) (s_X11_digitOf (by omega)  ev15) ?_
      refine ex_iconst (pc := 93) 0 dX11_waysOf_93 rfl ?_
      obtain ⟨v16, ev16, h⟩ := ob_some h
      refine ex_callV2r (pc := 94) dX11_waysOf_94 jX11_ruleOf lmX11_350 jiX11_ruleOf jvX11_ruleOf (o_X11_ruleOf ev16) rfl (Nat.le_of_ble_eq_true rfl) (s_X11_ruleOf (by omega)  ev16) ?_
      obtain ⟨v17, ev17, h⟩ := ob_some h
      refine ex_callV2r (pc := 97) dX11_waysOf_97 jX11_goesOn lmX11_438 jiX11_goesOn jvX11_goesOn (o_X11_goesOn ev17) rfl (Nat.le_of_ble_eq_true rfl) (s_X11_goesOn (by omega)  ev17) ?_
      refine ex_istore (pc := 100) [(6, .int v17), (0, .ref x0), (1, .int x1), (2, .int x2), (3, .int x3), (4, .int x4), (5, .int x5)] dX11_waysOf_100 (by decide) rfl ?_
      refine ex_aload_n (pc := 102) 1 dX11_waysOf_102 rfl rfl ?_
      refine ex_iload (pc := 103) 6 dX11_waysOf_103 rfl ?_
      refine ex_aload_n (pc := 105) 1 dX11_waysOf_105 rfl rfl ?_
      refine ex_iload_n (pc := 106) 2 dX11_waysOf_106 rfl rfl ?_
      refine ex_iload (pc := 107) 5 dX11_waysOf_107 rfl ?_
      obtain ⟨v18, ev18, h⟩ := ob_some h
      refine ex_callS2r (pc := 109) dX11_waysOf_109 jX11_digitOf lmX11_344 jsX11_digitOf (Nat.le_of_ble_eq_true rfl) (s_X11_digitOf (by omega)  ev18) ?_
      refine ex_iconst (pc := 112) 1 dX11_waysOf_112 rfl ?_
      obtain ⟨v19, ev19, h⟩ := ob_some h
      refine ex_callV2r (pc := 113) dX11_waysOf_113 jX11_ruleOf lmX11_350 jiX11_ruleOf jvX11_ruleOf (o_X11_ruleOf ev19) rfl (Nat.le_of_ble_eq_true rfl) (s_X11_ruleOf (by omega)  ev19) ?_
      obtain ⟨v20, ev20, h⟩ := ob_some h
      refine ex_callV2r (pc := 116) dX11_waysOf_116 jX11_goesOn lmX11_438 jiX11_goesOn jvX11_goesOn (o_X11_goesOn ev20) rfl (Nat.le_of_ble_eq_true rfl) (s_X11_goesOn (by omega)  ev20) ?_
      refine ex_istore (pc := 119) [(7, .int v20), (6, .int v17), (0, .ref x0), (1, .int x1), (2, .int x2), (3, .int x3), (4, .int x4), (5, .int x5)] dX11_waysOf_119 (by decide) rfl ?_
      refine ex_iload (pc := 121) 1 dX11_waysOf_121 rfl ?_
      refine ex_iconst (pc := 123) (-1) dX11_waysOf_123 rfl ?_
      by_cases c21 : v17 = (-1)
      · rw [if_pos c21] at h
        refine ex_icmp_eq_t (pc := 124) 147 dX11_waysOf_124 rfl c21 ?_
        refine ex_sub (lo' := [(0, .ref x0), (1, .int x1), (2, .int x2), (3, .int x3), (4, .int x4), (5, .int x5), (7, .int v20)]) [2, 3, 4, 5, 6, 7, 0] rfl ?_
        exact t_X11_waysOf_147 hd hk36 ih _ _ _ _ _ _ _ _ _  h
      · rw [if_neg c21] at h
        refine ex_icmp_eq_f (pc := 124) dX11_waysOf_124 147 rfl c21 ?_
        refine ex_aload_n (pc := 127) 2 dX11_waysOf_127 rfl rfl ?_
        obtain ⟨v22, ev22, h⟩ := ob_some h
        refine ex_gR (pc := 128) ev22 dX11_waysOf_128 lfX11_53 ?_
        refine ex_iload (pc := 131) 1 dX11_waysOf_131 rfl ?_
        refine ex_dup2 (pc := 133) dX11_waysOf_133 rfl rfl ?_
        obtain ⟨v23, ev23, h⟩ := ob_some h
        refine ex_rL (pc := 134) ev23 dX11_waysOf_134 ?_
        refine ex_iload_n (pc := 135) 4 dX11_waysOf_135 rfl rfl ?_
        refine ex_i2l (pc := 136) dX11_waysOf_136 ?_
        refine ex_aload_n (pc := 137) 2 dX11_waysOf_137 rfl rfl ?_
        obtain ⟨v24, ev24, h⟩ := ob_some h
        refine ex_gR (pc := 138) ev24 dX11_waysOf_138 lfX11_50 ?_
        refine ex_iload (pc := 141) 7 dX11_waysOf_141 rfl ?_
        obtain ⟨v25, ev25, h⟩ := ob_some h
        refine ex_rL (pc := 143) ev25 dX11_waysOf_143 ?_
        refine ex_lmul (pc := 144) dX11_waysOf_144 ?_
        refine ex_ladd (pc := 145) dX11_waysOf_145 ?_
        obtain ⟨q26, eq26, h⟩ := ob_some h
        refine ex_wL (pc := 146) eq26 dX11_waysOf_146 ?_
        refine ex_sub (lo' := [(0, .ref x0), (1, .int x1), (2, .int x2), (3, .int x3), (4, .int x4), (5, .int x5), (7, .int v20)]) [2, 3, 4, 5, 6, 7, 0] rfl ?_
        exact t_X11_waysOf_147 hd hk36 ih _ _ _ _ _ _ _ _ _  h
noncomputable def f_X11_waysOf_48 (n0 : Nat) (k36 : Nat → Int32 → Int32 → Int32 → Int32 → Mem → Option (Int64 × Mem)) (x0 : Nat) (x1 : Int32) (x2 : Int32) (x3 : Int32) (x4 : Int32) (x5 : Int32) (M : Mem) : Option (Int64 × Mem) :=
  match n0 with
  | 0 => none
  | n + 1 =>
    if 12 < x5 then
    (f_X11_waysOf_72 fu k36 x0 x1 x2 x3 x4 0 M)
    else
    ((gR M 11 x0 27).bind fun v28 =>
    (wL M v28 x5 0).bind fun q29 =>
    f_X11_waysOf_48 n k36 x0 x1 x2 x3 x4 (x5 + 1) q29)
set_option maxHeartbeats 4000000 in
theorem t_X11_waysOf_48 {X : XV} {d : Nat} (hd : 3 ≤ d + 1) {k36 : Nat → Int32 → Int32 → Int32 → Int32 → Mem → Option (Int64 × Mem)} (hk36 : ∀ (x0 : Nat) (x1 : Int32) (x2 : Int32) (x3 : Int32) (x4 : Int32) (M : Mem) (res : Int64 × Mem), k36 x0 x1 x2 x3 x4 M = some res → Ex X (d + 1) mX11_waysOf 36 [(0, .ref x0), (1, .int x1), (2, .int x2), (3, .int x3), (4, .int x4)] [] M (some (.long res.1)) res.2) : ∀ (n : Nat) (x0 : Nat) (x1 : Int32) (x2 : Int32) (x3 : Int32) (x4 : Int32) (x5 : Int32) (M : Mem) (res : Int64 × Mem), f_X11_waysOf_48 n k36 x0 x1 x2 x3 x4 x5 M = some res → Ex X (d + 1) mX11_waysOf 48 [(0, .ref x0), (1, .int x1), (2, .int x2), (3, .int x3), (4, .int x4), (5, .int x5)] [] M (some (.long res.1)) res.2 := by
  intro n
  induction n with
  | zero =>
    intro x0 x1 x2 x3 x4 x5 M res  h
    unfold f_X11_waysOf_48 at h
    cases h
  | succ n ih =>
    intro x0 x1 x2 x3 x4 x5 M res  h
    unfold f_X11_waysOf_48 at h
    refine ex_iload (pc := 48) 5 dX11_waysOf_48 rfl ?_
    refine ex_bipush (pc := 50) 12 dX11_waysOf_50 (by decide) ?_
    by_cases c27 : 12 < x5
    · rw [if_pos c27] at h
      refine ex_icmp_gt_t (pc := 52) 69 dX11_waysOf_52 rfl c27 ?_
      refine ex_iconst (pc := 69) 0 dX11_waysOf_69 rfl ?_
      refine ex_istore (pc := 70) [(5, .int 0), (0, .ref x0), (1, .int x1), (2, .int x2), (3, .int x3), (4, .int x4)] dX11_waysOf_70 (by decide) rfl ?_
      refine ex_sub (lo' := [(0, .ref x0), (1, .int x1), (2, .int x2), (3, .int x3), (4, .int x4), (5, .int 0)]) [1, 2, 3, 4, 5, 0] rfl ?_
      exact t_X11_waysOf_72 hd hk36 _ _ _ _ _ _ _ _ _  h
    · rw [if_neg c27] at h
      refine ex_icmp_gt_f (pc := 52) dX11_waysOf_52 69 rfl c27 ?_
      refine ex_aload_n (pc := 55) 0 dX11_waysOf_55 rfl rfl ?_
      obtain ⟨v28, ev28, h⟩ := ob_some h
      refine ex_gR (pc := 56) ev28 dX11_waysOf_56 lfX11_53 ?_
      refine ex_iload (pc := 59) 5 dX11_waysOf_59 rfl ?_
      refine ex_lconst (pc := 61) 0 dX11_waysOf_61 rfl ?_
      obtain ⟨q29, eq29, h⟩ := ob_some h
      refine ex_wL (pc := 62) eq29 dX11_waysOf_62 ?_
      refine ex_iinc (pc := 63) (x5 + 1) 5 [(5, .int (x5 + 1)), (0, .ref x0), (1, .int x1), (2, .int x2), (3, .int x3), (4, .int x4)] dX11_waysOf_63 rfl rfl (by decide) rfl ?_
      refine ex_goto (pc := 66) 48 dX11_waysOf_66 rfl ?_
      refine ex_sub (lo' := [(0, .ref x0), (1, .int x1), (2, .int x2), (3, .int x3), (4, .int x4), (5, .int (x5 + 1))]) [1, 2, 3, 4, 5, 0] rfl ?_
      exact ih _ _ _ _ _ _ _ _  h
noncomputable def f_X11_waysOf_36 (n0 : Nat) (x0 : Nat) (x1 : Int32) (x2 : Int32) (x3 : Int32) (x4 : Int32) (M : Mem) : Option (Int64 × Mem) :=
  match n0 with
  | 0 => none
  | n + 1 =>
    (f_X11_longOf x1).bind fun v30 =>
    if v30 ≤ x4 then
    ((gR M 11 x0 26).bind fun v32 =>
    (gR M 11 x0 0).bind fun v33 =>
    (rI M v33 4).bind fun v34 =>
    (rL M v32 v34).bind fun v35 =>
    some (v35, M))
    else
    (f_X11_waysOf_48 fu (f_X11_waysOf_36 n) x0 x1 x2 x3 x4 0 M)
set_option maxHeartbeats 4000000 in
theorem t_X11_waysOf_36 {X : XV} {d : Nat} (hd : 3 ≤ d + 1) : ∀ (n : Nat) (x0 : Nat) (x1 : Int32) (x2 : Int32) (x3 : Int32) (x4 : Int32) (M : Mem) (res : Int64 × Mem), f_X11_waysOf_36 n  x0 x1 x2 x3 x4 M = some res → Ex X (d + 1) mX11_waysOf 36 [(0, .ref x0), (1, .int x1), (2, .int x2), (3, .int x3), (4, .int x4)] [] M (some (.long res.1)) res.2 := by
  intro n
  induction n with
  | zero =>
    intro x0 x1 x2 x3 x4 M res  h
    unfold f_X11_waysOf_36 at h
    cases h
  | succ n ih =>
    intro x0 x1 x2 x3 x4 M res  h
    unfold f_X11_waysOf_36 at h
    refine ex_iload (pc := 36) 4 dX11_waysOf_36 rfl ?_
    refine ex_iload_n (pc := 38) 1 dX11_waysOf_38 rfl rfl ?_
    obtain ⟨v30, ev30, h⟩ := ob_some h
    refine ex_callS1r (pc := 39) dX11_waysOf_39 jX11_longOf lmX11_91 jsX11_longOf (Nat.le_of_ble_eq_true rfl) (s_X11_longOf (by omega)  ev30) ?_
    by_cases c31 : v30 ≤ x4
    · rw [if_pos c31] at h
      refine ex_icmp_ge_t (pc := 42) 215 dX11_waysOf_42 rfl c31 ?_
      refine ex_aload_n (pc := 215) 0 dX11_waysOf_215 rfl rfl ?_
      obtain ⟨v32, ev32, h⟩ := ob_some h
      refine ex_gR (pc := 216) ev32 dX11_waysOf_216 lfX11_50 ?_
      refine ex_aload_n (pc := 219) 0 dX11_waysOf_219 rfl rfl ?_
      obtain ⟨v33, ev33, h⟩ := ob_some h
      refine ex_gR (pc := 220) ev33 dX11_waysOf_220 lfX11_7 ?_
      refine ex_iconst (pc := 223) 4 dX11_waysOf_223 rfl ?_
      obtain ⟨v34, ev34, h⟩ := ob_some h
      refine ex_rI (pc := 224) ev34 dX11_waysOf_224 ?_
      obtain ⟨v35, ev35, h⟩ := ob_some h
      refine ex_rL (pc := 225) ev35 dX11_waysOf_225 ?_
      cases h
      exact ex_lreturn (pc := 226) dX11_waysOf_226
    · rw [if_neg c31] at h
      refine ex_icmp_ge_f (pc := 42) dX11_waysOf_42 215 rfl c31 ?_
      refine ex_iconst (pc := 45) 0 dX11_waysOf_45 rfl ?_
      refine ex_istore (pc := 46) [(5, .int 0), (0, .ref x0), (1, .int x1), (2, .int x2), (3, .int x3), (4, .int x4)] dX11_waysOf_46 (by decide) rfl ?_
      refine ex_sub (lo' := [(0, .ref x0), (1, .int x1), (2, .int x2), (3, .int x3), (4, .int x4), (5, .int 0)]) [1, 2, 3, 4, 5, 0] rfl ?_
      exact t_X11_waysOf_48 hd ih _ _ _ _ _ _ _ _ _  h
noncomputable def f_X11_waysOf_3 (n0 : Nat) (x0 : Nat) (x1 : Int32) (x2 : Int32) (x3 : Int32) (x4 : Int32) (M : Mem) : Option (Int64 × Mem) :=
  match n0 with
  | 0 => none
  | n + 1 =>
    if 12 < x4 then
    (f_X11_waysOf_36 fu x0 x1 x2 x3 0 M)
    else
    ((gR M 11 x0 26).bind fun v37 =>
    if x4 = 0 then
    ((wL M v37 x4 1).bind fun q40 =>
    f_X11_waysOf_3 n x0 x1 x2 x3 (x4 + 1) q40)
    else
    ((wL M v37 x4 0).bind fun q39 =>
    f_X11_waysOf_3 n x0 x1 x2 x3 (x4 + 1) q39))
set_option maxHeartbeats 4000000 in
theorem t_X11_waysOf_3 {X : XV} {d : Nat} (hd : 3 ≤ d + 1) : ∀ (n : Nat) (x0 : Nat) (x1 : Int32) (x2 : Int32) (x3 : Int32) (x4 : Int32) (M : Mem) (res : Int64 × Mem), f_X11_waysOf_3 n  x0 x1 x2 x3 x4 M = some res → Ex X (d + 1) mX11_waysOf 3 [(0, .ref x0), (1, .int x1), (2, .int x2), (3, .int x3), (4, .int x4)] [] M (some (.long res.1)) res.2 := by
  intro n
  induction n with
  | zero =>
    intro x0 x1 x2 x3 x4 M res  h
    unfold f_X11_waysOf_3 at h
    cases h
  | succ n ih =>
    intro x0 x1 x2 x3 x4 M res  h
    unfold f_X11_waysOf_3 at h
    refine ex_iload (pc := 3) 4 dX11_waysOf_3 rfl ?_
    refine ex_bipush (pc := 5) 12 dX11_waysOf_5 (by decide) ?_
    by_cases c36 : 12 < x4
    · rw [if_pos c36] at h
      refine ex_icmp_gt_t (pc := 7) 33 dX11_waysOf_7 rfl c36 ?_
      refine ex_iconst (pc := 33) 0 dX11_waysOf_33 rfl ?_
      refine ex_istore (pc := 34) [(4, .int 0), (0, .ref x0), (1, .int x1), (2, .int x2), (3, .int x3)] dX11_waysOf_34 (by decide) rfl ?_
      refine ex_sub (lo' := [(0, .ref x0), (1, .int x1), (2, .int x2), (3, .int x3), (4, .int 0)]) [1, 2, 3, 4, 0] rfl ?_
      exact t_X11_waysOf_36 hd  _ _ _ _ _ _ _ _  h
    · rw [if_neg c36] at h
      refine ex_icmp_gt_f (pc := 7) dX11_waysOf_7 33 rfl c36 ?_
      refine ex_aload_n (pc := 10) 0 dX11_waysOf_10 rfl rfl ?_
      obtain ⟨v37, ev37, h⟩ := ob_some h
      refine ex_gR (pc := 11) ev37 dX11_waysOf_11 lfX11_50 ?_
      refine ex_iload (pc := 14) 4 dX11_waysOf_14 rfl ?_
      refine ex_iload (pc := 16) 4 dX11_waysOf_16 rfl ?_
      by_cases c38 : x4 = 0
      · rw [if_pos c38] at h
        refine ex_if_ne_f (pc := 18) dX11_waysOf_18 25 rfl c38 ?_
        refine ex_lconst (pc := 21) 1 dX11_waysOf_21 rfl ?_
        refine ex_goto (pc := 22) 26 dX11_waysOf_22 rfl ?_
        obtain ⟨q40, eq40, h⟩ := ob_some h
        refine ex_wL (pc := 26) eq40 dX11_waysOf_26 ?_
        refine ex_iinc (pc := 27) (x4 + 1) 4 [(4, .int (x4 + 1)), (0, .ref x0), (1, .int x1), (2, .int x2), (3, .int x3)] dX11_waysOf_27 rfl rfl (by decide) rfl ?_
        refine ex_goto (pc := 30) 3 dX11_waysOf_30 rfl ?_
        refine ex_sub (lo' := [(0, .ref x0), (1, .int x1), (2, .int x2), (3, .int x3), (4, .int (x4 + 1))]) [1, 2, 3, 4, 0] rfl ?_
        exact ih _ _ _ _ _ _ _  h
      · rw [if_neg c38] at h
        refine ex_if_ne_t (pc := 18) 25 dX11_waysOf_18 rfl c38 ?_
        refine ex_lconst (pc := 25) 0 dX11_waysOf_25 rfl ?_
        obtain ⟨q39, eq39, h⟩ := ob_some h
        refine ex_wL (pc := 26) eq39 dX11_waysOf_26 ?_
        refine ex_iinc (pc := 27) (x4 + 1) 4 [(4, .int (x4 + 1)), (0, .ref x0), (1, .int x1), (2, .int x2), (3, .int x3)] dX11_waysOf_27 rfl rfl (by decide) rfl ?_
        refine ex_goto (pc := 30) 3 dX11_waysOf_30 rfl ?_
        refine ex_sub (lo' := [(0, .ref x0), (1, .int x1), (2, .int x2), (3, .int x3), (4, .int (x4 + 1))]) [1, 2, 3, 4, 0] rfl ?_
        exact ih _ _ _ _ _ _ _  h
noncomputable def f_X11_waysOf_0 (x0 : Nat) (x1 : Int32) (x2 : Int32) (x3 : Int32) (M : Mem) : Option (Int64 × Mem) :=
  f_X11_waysOf_3 fu x0 x1 x2 x3 0 M
set_option maxHeartbeats 4000000 in
theorem t_X11_waysOf_0 {X : XV} {d : Nat} (hd : 3 ≤ d + 1) : ∀ (x0 : Nat) (x1 : Int32) (x2 : Int32) (x3 : Int32) (M : Mem) (res : Int64 × Mem), f_X11_waysOf_0  x0 x1 x2 x3 M = some res → Ex X (d + 1) mX11_waysOf 0 [(0, .ref x0), (1, .int x1), (2, .int x2), (3, .int x3)] [] M (some (.long res.1)) res.2 := by
  intro x0 x1 x2 x3 M res  h
  unfold f_X11_waysOf_0 at h
  refine ex_iconst (pc := 0) 0 dX11_waysOf_0 rfl ?_
  refine ex_istore (pc := 1) [(4, .int 0), (0, .ref x0), (1, .int x1), (2, .int x2), (3, .int x3)] dX11_waysOf_1 (by decide) rfl ?_
  refine ex_sub (lo' := [(0, .ref x0), (1, .int x1), (2, .int x2), (3, .int x3), (4, .int 0)]) [1, 2, 3, 4, 0] rfl ?_
  exact t_X11_waysOf_3 hd  _ _ _ _ _ _ _ _  h
noncomputable def f_X11_waysOf (x0 : Nat) (x1 : Int32) (x2 : Int32) (x3 : Int32) (M : Mem) : Option (Int64 × Mem) := if isOb M 11 x0 = true then f_X11_waysOf_0 x0 x1 x2 x3 M else none
theorem o_X11_waysOf {x0 : Nat} {x1 : Int32} {x2 : Int32} {x3 : Int32} {M : Mem} {res : Int64 × Mem} (h : f_X11_waysOf x0 x1 x2 x3 M = some res) : isO M 11 x0 := by
  unfold f_X11_waysOf at h
  split at h
  · rename_i hc; exact isOb_iff hc
  · cases h
set_option maxHeartbeats 4000000 in
theorem s_X11_waysOf {X : XV} {d : Nat} (hd : 3 ≤ d) {x0 : Nat} {x1 : Int32} {x2 : Int32} {x3 : Int32} {M : Mem} {res : Int64 × Mem} (h : f_X11_waysOf x0 x1 x2 x3 M = some res) : Mx X d mX11_waysOf [.ref x0, .int x1, .int x2, .int x3] M (some (.long res.1)) res.2 := by
  obtain ⟨d, rfl⟩ : ∃ e, d = e + 1 := ⟨d - 1, by omega⟩
  unfold f_X11_waysOf at h
  split at h
  rotate_left
  · cases h
  refine Mx.of (by decide) (Nat.le_of_ble_eq_true rfl) (rfl) ?_
  exact ex_sub (lo' := [(0, .ref x0), (1, .int x1), (2, .int x2), (3, .int x3)]) [0, 1, 2, 3] rfl (t_X11_waysOf_0 hd _ _ _ _ _ _  h)
noncomputable def f_X11_may_0 (x0 : Nat) (x1 : Int32) (M : Mem) : Option (Int64 × Mem) :=
  (f_X11_isNumber x1).bind fun v1 =>
  if v1 = false then
  (some ((-1), M))
  else
  ((f_X11_waysOf x0 x1 1 1 M).bind fun q3 =>
  some (q3.1, q3.2))
set_option maxHeartbeats 4000000 in
theorem t_X11_may_0 {X : XV} {d : Nat} (hd : 4 ≤ d + 1) : ∀ (x0 : Nat) (x1 : Int32) (M : Mem) (res : Int64 × Mem), f_X11_may_0  x0 x1 M = some res → Ex X (d + 1) mX11_may 0 [(0, .ref x0), (1, .int x1)] [] M (some (.long res.1)) res.2 := by
  intro x0 x1 M res  h
  unfold f_X11_may_0 at h
  refine ex_iload_n (pc := 0) 1 dX11_may_0 rfl rfl ?_
  obtain ⟨v1, ev1, h⟩ := ob_some h
  refine ex_callS1r (pc := 1) dX11_may_1 jX11_isNumber lmX11_380 jsX11_isNumber (Nat.le_of_ble_eq_true rfl) (s_X11_isNumber (by omega)  ev1) ?_
  by_cases c2 : v1 = false
  · rw [if_pos c2] at h
    refine ex_if_eq_t (pc := 4) 17 dX11_may_4 rfl (jz_eq_t c2) ?_
    refine ex_ldc2 (pc := 17) dX11_may_17 lkX11_444 ?_
    cases h
    exact ex_lreturn (pc := 20) dX11_may_20
  · rw [if_neg c2] at h
    refine ex_if_eq_f (pc := 4) dX11_may_4 17 rfl (jz_eq_f c2) ?_
    refine ex_aload_n (pc := 7) 0 dX11_may_7 rfl rfl ?_
    refine ex_iload_n (pc := 8) 1 dX11_may_8 rfl rfl ?_
    refine ex_iconst (pc := 9) 1 dX11_may_9 rfl ?_
    refine ex_iconst (pc := 10) 1 dX11_may_10 rfl ?_
    obtain ⟨q3, eq3, h⟩ := ob_some h
    refine ex_callV3r (pc := 11) dX11_may_11 jX11_waysOf lmX11_441 jiX11_waysOf jvX11_waysOf (o_X11_waysOf eq3) rfl (Nat.le_of_ble_eq_true rfl) (s_X11_waysOf (by omega)  eq3) ?_
    refine ex_goto (pc := 14) 20 dX11_may_14 rfl ?_
    cases h
    exact ex_lreturn (pc := 20) dX11_may_20
noncomputable def f_X11_may (x0 : Nat) (x1 : Int32) (M : Mem) : Option (Int64 × Mem) := if isOb M 11 x0 = true then f_X11_may_0 x0 x1 M else none
theorem o_X11_may {x0 : Nat} {x1 : Int32} {M : Mem} {res : Int64 × Mem} (h : f_X11_may x0 x1 M = some res) : isO M 11 x0 := by
  unfold f_X11_may at h
  split at h
  · rename_i hc; exact isOb_iff hc
  · cases h
set_option maxHeartbeats 4000000 in
theorem s_X11_may {X : XV} {d : Nat} (hd : 4 ≤ d) {x0 : Nat} {x1 : Int32} {M : Mem} {res : Int64 × Mem} (h : f_X11_may x0 x1 M = some res) : Mx X d mX11_may [.ref x0, .int x1] M (some (.long res.1)) res.2 := by
  obtain ⟨d, rfl⟩ : ∃ e, d = e + 1 := ⟨d - 1, by omega⟩
  unfold f_X11_may at h
  split at h
  rotate_left
  · cases h
  refine Mx.of (by decide) (Nat.le_of_ble_eq_true rfl) (rfl) ?_
  exact ex_sub (lo' := [(0, .ref x0), (1, .int x1)]) [0, 1] rfl (t_X11_may_0 hd _ _ _ _  h)
noncomputable def f_X11_divisor_6 (n0 : Nat) (x4 : Int64) (x6 : Int64) : Option (Int64) :=
  match n0 with
  | 0 => none
  | n + 1 =>
    if (lg_cmp x6 0) = 0 then
    (some x4)
    else
    ((rmL x4 x6).bind fun v2 =>
    f_X11_divisor_6 n x6 v2)
set_option maxHeartbeats 4000000 in
theorem t_X11_divisor_6 {X : XV} {d : Nat} {M : Mem} (hd : 1 ≤ d + 1) : ∀ (n : Nat) (x4 : Int64) (x6 : Int64) (res : Int64), f_X11_divisor_6 n  x4 x6 = some res → Ex X (d + 1) mX11_divisor 6 [(4, .long x4), (6, .long x6)] [] M (some (.long res)) M := by
  intro n
  induction n with
  | zero =>
    intro x4 x6 res  h
    unfold f_X11_divisor_6 at h
    cases h
  | succ n ih =>
    intro x4 x6 res  h
    unfold f_X11_divisor_6 at h
    refine ex_lload (pc := 6) 1 dX11_divisor_6 rfl ?_
    refine ex_lconst (pc := 8) 0 dX11_divisor_8 rfl ?_
    refine ex_lcmp (pc := 9) dX11_divisor_9 ?_
    by_cases c1 : (lg_cmp x6 0) = 0
    · rw [if_pos c1] at h
      refine ex_if_eq_t (pc := 10) 31 dX11_divisor_10 rfl c1 ?_
      refine ex_lload (pc := 31) 0 dX11_divisor_31 rfl ?_
      cases h
      exact ex_lreturn (pc := 33) dX11_divisor_33
    · rw [if_neg c1] at h
      refine ex_if_eq_f (pc := 10) dX11_divisor_10 31 rfl c1 ?_
      refine ex_lload (pc := 13) 0 dX11_divisor_13 rfl ?_
      refine ex_lload (pc := 15) 1 dX11_divisor_15 rfl ?_
      obtain ⟨v2, ev2, h⟩ := ob_some h
      refine ex_lremq (pc := 17) ev2 dX11_divisor_17 ?_
      refine ex_lstore (pc := 18) [(8, .long v2), (4, .long x4), (6, .long x6)] dX11_divisor_18 (by decide) rfl ?_
      refine ex_lload (pc := 20) 2 dX11_divisor_20 rfl ?_
      refine ex_lstore (pc := 22) [(4, .long x6), (8, .long v2), (6, .long x6)] dX11_divisor_22 (by decide) rfl ?_
      refine ex_lload (pc := 24) 1 dX11_divisor_24 rfl ?_
      refine ex_lstore (pc := 26) [(6, .long v2), (4, .long x6), (8, .long v2)] dX11_divisor_26 (by decide) rfl ?_
      refine ex_goto (pc := 28) 6 dX11_divisor_28 rfl ?_
      refine ex_sub (lo' := [(4, .long x6), (6, .long v2)]) [1, 0] rfl ?_
      exact ih _ _ _  h
noncomputable def f_X11_divisor_0 (x0 : Int64) (x2 : Int64) : Option (Int64) :=
  f_X11_divisor_6 fu x0 x2
set_option maxHeartbeats 4000000 in
theorem t_X11_divisor_0 {X : XV} {d : Nat} {M : Mem} (hd : 1 ≤ d + 1) : ∀ (x0 : Int64) (x2 : Int64) (res : Int64), f_X11_divisor_0  x0 x2 = some res → Ex X (d + 1) mX11_divisor 0 [(0, .long x0), (2, .long x2)] [] M (some (.long res)) M := by
  intro x0 x2 res  h
  unfold f_X11_divisor_0 at h
  refine ex_lload_n (pc := 0) 0 dX11_divisor_0 rfl rfl ?_
  refine ex_lstore (pc := 1) [(4, .long x0), (0, .long x0), (2, .long x2)] dX11_divisor_1 (by decide) rfl ?_
  refine ex_lload_n (pc := 3) 2 dX11_divisor_3 rfl rfl ?_
  refine ex_lstore (pc := 4) [(6, .long x2), (4, .long x0), (0, .long x0), (2, .long x2)] dX11_divisor_4 (by decide) rfl ?_
  refine ex_sub (lo' := [(4, .long x0), (6, .long x2)]) [1, 0] rfl ?_
  exact t_X11_divisor_6 hd  _ _ _ _  h
noncomputable def f_X11_divisor (x0 : Int64) (x2 : Int64) : Option (Int64) := f_X11_divisor_0 x0 x2
set_option maxHeartbeats 4000000 in
theorem s_X11_divisor {X : XV} {d : Nat} (hd : 1 ≤ d) {x0 : Int64} {x2 : Int64} {M : Mem} {res : Int64} (h : f_X11_divisor x0 x2 = some res) : Mx X d mX11_divisor [.long x0, .long x2] M (some (.long res)) M := by
  obtain ⟨d, rfl⟩ : ∃ e, d = e + 1 := ⟨d - 1, by omega⟩
  unfold f_X11_divisor at h
  refine Mx.of (by decide) (Nat.le_of_ble_eq_true rfl) (rfl) ?_
  exact ex_sub (lo' := [(0, .long x0), (2, .long x2)]) [0, 1] rfl (t_X11_divisor_0 hd _ _ _  h)
noncomputable def f_X11_tens_4 (n0 : Nat) (x0 : Int32) (x1 : Int64) (x3 : Int32) : Option (Int64) :=
  match n0 with
  | 0 => none
  | n + 1 =>
    if x0 ≤ x3 then
    (some x1)
    else
    (f_X11_tens_4 n x0 (x1 * 10) (x3 + 1))
set_option maxHeartbeats 4000000 in
theorem t_X11_tens_4 {X : XV} {d : Nat} {M : Mem} (hd : 1 ≤ d + 1) : ∀ (n : Nat) (x0 : Int32) (x1 : Int64) (x3 : Int32) (res : Int64), f_X11_tens_4 n  x0 x1 x3 = some res → Ex X (d + 1) mX11_tens 4 [(0, .int x0), (1, .long x1), (3, .int x3)] [] M (some (.long res)) M := by
  intro n
  induction n with
  | zero =>
    intro x0 x1 x3 res  h
    unfold f_X11_tens_4 at h
    cases h
  | succ n ih =>
    intro x0 x1 x3 res  h
    unfold f_X11_tens_4 at h
    refine ex_iload_n (pc := 4) 2 dX11_tens_4 rfl rfl ?_
    refine ex_iload_n (pc := 5) 0 dX11_tens_5 rfl rfl ?_
    by_cases c1 : x0 ≤ x3
    · rw [if_pos c1] at h
      refine ex_icmp_ge_t (pc := 6) 21 dX11_tens_6 rfl c1 ?_
      refine ex_lload_n (pc := 21) 1 dX11_tens_21 rfl rfl ?_
      cases h
      exact ex_lreturn (pc := 22) dX11_tens_22
    · rw [if_neg c1] at h
      refine ex_icmp_ge_f (pc := 6) dX11_tens_6 21 rfl c1 ?_
      refine ex_lload_n (pc := 9) 1 dX11_tens_9 rfl rfl ?_
      refine ex_ldc2 (pc := 10) dX11_tens_10 lkX11_290 ?_
      refine ex_lmul (pc := 13) dX11_tens_13 ?_
      refine ex_lstore_n (pc := 14) [(1, .long (x1 * 10)), (0, .int x0), (3, .int x3)] dX11_tens_14 rfl (by decide) rfl ?_
      refine ex_iinc (pc := 15) (x3 + 1) 2 [(3, .int (x3 + 1)), (1, .long (x1 * 10)), (0, .int x0)] dX11_tens_15 rfl rfl (by decide) rfl ?_
      refine ex_goto (pc := 18) 4 dX11_tens_18 rfl ?_
      refine ex_sub (lo' := [(0, .int x0), (1, .long (x1 * 10)), (3, .int (x3 + 1))]) [2, 1, 0] rfl ?_
      exact ih _ _ _ _  h
noncomputable def f_X11_tens_0 (x0 : Int32) : Option (Int64) :=
  f_X11_tens_4 fu x0 1 0
set_option maxHeartbeats 4000000 in
theorem t_X11_tens_0 {X : XV} {d : Nat} {M : Mem} (hd : 1 ≤ d + 1) : ∀ (x0 : Int32) (res : Int64), f_X11_tens_0  x0 = some res → Ex X (d + 1) mX11_tens 0 [(0, .int x0)] [] M (some (.long res)) M := by
  intro x0 res  h
  unfold f_X11_tens_0 at h
  refine ex_lconst (pc := 0) 1 dX11_tens_0 rfl ?_
  refine ex_lstore_n (pc := 1) [(1, .long 1), (0, .int x0)] dX11_tens_1 rfl (by decide) rfl ?_
  refine ex_iconst (pc := 2) 0 dX11_tens_2 rfl ?_
  refine ex_istore_n (pc := 3) [(3, .int 0), (1, .long 1), (0, .int x0)] dX11_tens_3 rfl (by decide) rfl ?_
  refine ex_sub (lo' := [(0, .int x0), (1, .long 1), (3, .int 0)]) [2, 1, 0] rfl ?_
  exact t_X11_tens_4 hd  _ _ _ _ _  h
noncomputable def f_X11_tens (x0 : Int32) : Option (Int64) := f_X11_tens_0 x0
set_option maxHeartbeats 4000000 in
theorem s_X11_tens {X : XV} {d : Nat} (hd : 1 ≤ d) {x0 : Int32} {M : Mem} {res : Int64} (h : f_X11_tens x0 = some res) : Mx X d mX11_tens [.int x0] M (some (.long res)) M := by
  obtain ⟨d, rfl⟩ : ∃ e, d = e + 1 := ⟨d - 1, by omega⟩
  unfold f_X11_tens at h
  refine Mx.of (by decide) (Nat.le_of_ble_eq_true rfl) (rfl) ?_
  exact ex_sub (lo' := [(0, .int x0)]) [0] rfl (t_X11_tens_0 hd _ _  h)
noncomputable def f_X11_odds_0 (x0 : Nat) (x1 : Int32) (x2 : Int32) (x3 : Bool) (M : Mem) : Option (Int64 × Mem) :=
  (f_X11_isNumber x1).bind fun v1 =>
  if v1 = false then
  (some ((-1), M))
  else
  ((f_X11_isIn x2 0 10).bind fun v3 =>
  if v3 = true then
  ((f_X11_waysOf x0 x1 (10 - x2) x2 M).bind fun q5 =>
  (f_X11_longOf x1).bind fun v6 =>
  (f_X11_tens v6).bind fun v7 =>
  if x3 = false then
  ((f_X11_divisor q5.1 v7).bind fun v9 =>
  (dvL q5.1 v9).bind fun v10 =>
  some (v10, q5.2))
  else
  ((f_X11_divisor q5.1 v7).bind fun v11 =>
  (dvL v7 v11).bind fun v12 =>
  some (v12, q5.2)))
  else
  (some ((-1), M)))
set_option maxHeartbeats 4000000 in
theorem t_X11_odds_0 {X : XV} {d : Nat} (hd : 4 ≤ d + 1) : ∀ (x0 : Nat) (x1 : Int32) (x2 : Int32) (x3 : Bool) (M : Mem) (res : Int64 × Mem), f_X11_odds_0  x0 x1 x2 x3 M = some res → Ex X (d + 1) mX11_odds 0 [(0, .ref x0), (1, .int x1), (2, .int x2), (3, .int (jz x3))] [] M (some (.long res.1)) res.2 := by
  intro x0 x1 x2 x3 M res  h
  unfold f_X11_odds_0 at h
  refine ex_iload_n (pc := 0) 1 dX11_odds_0 rfl rfl ?_
  obtain ⟨v1, ev1, h⟩ := ob_some h
  refine ex_callS1r (pc := 1) dX11_odds_1 jX11_isNumber lmX11_380 jsX11_isNumber (Nat.le_of_ble_eq_true rfl) (s_X11_isNumber (by omega)  ev1) ?_
  by_cases c2 : v1 = false
  · rw [if_pos c2] at h
    refine ex_if_eq_t (pc := 4) 17 dX11_odds_4 rfl (jz_eq_t c2) ?_
    refine ex_ldc2 (pc := 17) dX11_odds_17 lkX11_444 ?_
    cases h
    exact ex_lreturn (pc := 20) dX11_odds_20
  · rw [if_neg c2] at h
    refine ex_if_eq_f (pc := 4) dX11_odds_4 17 rfl (jz_eq_f c2) ?_
    refine ex_iload_n (pc := 7) 2 dX11_odds_7 rfl rfl ?_
    refine ex_iconst (pc := 8) 0 dX11_odds_8 rfl ?_
    refine ex_bipush (pc := 9) 10 dX11_odds_9 (by decide) ?_
    obtain ⟨v3, ev3, h⟩ := ob_some h
    refine ex_callS3r (pc := 11) dX11_odds_11 jX11_isIn lmX11_87 jsX11_isIn (Nat.le_of_ble_eq_true rfl) (s_X11_isIn (by omega)  ev3) ?_
    by_cases c4 : v3 = true
    · rw [if_pos c4] at h
      refine ex_if_ne_t (pc := 14) 21 dX11_odds_14 rfl (jz_ne_t c4) ?_
      refine ex_aload_n (pc := 21) 0 dX11_odds_21 rfl rfl ?_
      refine ex_iload_n (pc := 22) 1 dX11_odds_22 rfl rfl ?_
      refine ex_bipush (pc := 23) 10 dX11_odds_23 (by decide) ?_
      refine ex_iload_n (pc := 25) 2 dX11_odds_25 rfl rfl ?_
      refine ex_isub (pc := 26) dX11_odds_26 ?_
      refine ex_iload_n (pc := 27) 2 dX11_odds_27 rfl rfl ?_
      obtain ⟨q5, eq5, h⟩ := ob_some h
      refine ex_callV3r (pc := 28) dX11_odds_28 jX11_waysOf lmX11_441 jiX11_waysOf jvX11_waysOf (o_X11_waysOf eq5) rfl (Nat.le_of_ble_eq_true rfl) (s_X11_waysOf (by omega)  eq5) ?_
      refine ex_lstore (pc := 31) [(4, .long q5.1), (0, .ref x0), (1, .int x1), (2, .int x2), (3, .int (jz x3))] dX11_odds_31 (by decide) rfl ?_
      refine ex_iload_n (pc := 33) 2 dX11_odds_33 rfl rfl ?_
      obtain ⟨v6, ev6, h⟩ := ob_some h
      refine ex_callS1r (pc := 34) dX11_odds_34 jX11_longOf lmX11_91 jsX11_longOf (Nat.le_of_ble_eq_true rfl) (s_X11_longOf (by omega)  ev6) ?_
      obtain ⟨v7, ev7, h⟩ := ob_some h
      refine ex_callS1r (pc := 37) dX11_odds_37 jX11_tens lmX11_446 jsX11_tens (Nat.le_of_ble_eq_true rfl) (s_X11_tens (by omega)  ev7) ?_
      refine ex_lstore (pc := 40) [(6, .long v7), (4, .long q5.1), (0, .ref x0), (1, .int x1), (2, .int x2), (3, .int (jz x3))] dX11_odds_40 (by decide) rfl ?_
      refine ex_iload_n (pc := 42) 5 dX11_odds_42 rfl rfl ?_
      by_cases c8 : x3 = false
      · rw [if_pos c8] at h
        refine ex_if_eq_t (pc := 43) 51 dX11_odds_43 rfl (jz_eq_t c8) ?_
        refine ex_lload (pc := 51) 1 dX11_odds_51 rfl ?_
        refine ex_lload (pc := 53) 1 dX11_odds_53 rfl ?_
        refine ex_lload (pc := 55) 0 dX11_odds_55 rfl ?_
        obtain ⟨v9, ev9, h⟩ := ob_some h
        refine ex_callS2r (pc := 57) dX11_odds_57 jX11_divisor lmX11_450 jsX11_divisor (Nat.le_of_ble_eq_true rfl) (s_X11_divisor (by omega)  ev9) ?_
        obtain ⟨v10, ev10, h⟩ := ob_some h
        refine ex_ldivq (pc := 60) ev10 dX11_odds_60 ?_
        cases h
        exact ex_lreturn (pc := 61) dX11_odds_61
      · rw [if_neg c8] at h
        refine ex_if_eq_f (pc := 43) dX11_odds_43 51 rfl (jz_eq_f c8) ?_
        refine ex_lload (pc := 46) 0 dX11_odds_46 rfl ?_
        refine ex_goto (pc := 48) 53 dX11_odds_48 rfl ?_
        refine ex_lload (pc := 53) 1 dX11_odds_53 rfl ?_
        refine ex_lload (pc := 55) 0 dX11_odds_55 rfl ?_
        obtain ⟨v11, ev11, h⟩ := ob_some h
        refine ex_callS2r (pc := 57) dX11_odds_57 jX11_divisor lmX11_450 jsX11_divisor (Nat.le_of_ble_eq_true rfl) (s_X11_divisor (by omega)  ev11) ?_
        obtain ⟨v12, ev12, h⟩ := ob_some h
        refine ex_ldivq (pc := 60) ev12 dX11_odds_60 ?_
        cases h
        exact ex_lreturn (pc := 61) dX11_odds_61
    · rw [if_neg c4] at h
      refine ex_if_ne_f (pc := 14) dX11_odds_14 21 rfl (jz_ne_f c4) ?_
      refine ex_ldc2 (pc := 17) dX11_odds_17 lkX11_444 ?_
      cases h
      exact ex_lreturn (pc := 20) dX11_odds_20
noncomputable def f_X11_odds (x0 : Nat) (x1 : Int32) (x2 : Int32) (x3 : Bool) (M : Mem) : Option (Int64 × Mem) := if isOb M 11 x0 = true then f_X11_odds_0 x0 x1 x2 x3 M else none
theorem o_X11_odds {x0 : Nat} {x1 : Int32} {x2 : Int32} {x3 : Bool} {M : Mem} {res : Int64 × Mem} (h : f_X11_odds x0 x1 x2 x3 M = some res) : isO M 11 x0 := by
  unfold f_X11_odds at h
  split at h
  · rename_i hc; exact isOb_iff hc
  · cases h
set_option maxHeartbeats 4000000 in
theorem s_X11_odds {X : XV} {d : Nat} (hd : 4 ≤ d) {x0 : Nat} {x1 : Int32} {x2 : Int32} {x3 : Bool} {M : Mem} {res : Int64 × Mem} (h : f_X11_odds x0 x1 x2 x3 M = some res) : Mx X d mX11_odds [.ref x0, .int x1, .int x2, .int (jz x3)] M (some (.long res.1)) res.2 := by
  obtain ⟨d, rfl⟩ : ∃ e, d = e + 1 := ⟨d - 1, by omega⟩
  unfold f_X11_odds at h
  split at h
  rotate_left
  · cases h
  refine Mx.of (by decide) (Nat.le_of_ble_eq_true rfl) (rfl) ?_
  exact ex_sub (lo' := [(0, .ref x0), (1, .int x1), (2, .int x2), (3, .int (jz x3))]) [0, 1, 2, 3] rfl (t_X11_odds_0 hd _ _ _ _ _ _  h)
noncomputable def f_X11_day_0 (x0 : Nat) (x1 : Int32) (M : Mem) : Option (Int32 × Mem) :=
  if x1 = (-1) then
  ((gR M 11 x0 0).bind fun v16 =>
  (wI M v16 6 0).bind fun q17 =>
  some (0, q17))
  else
  ((f_X11_isNumber x1).bind fun v2 =>
  if v2 = false then
  (some ((-2), M))
  else
  ((gR M 11 x0 0).bind fun v4 =>
  (rI M v4 6).bind fun v5 =>
  if v5 = 8 then
  (some ((-2), M))
  else
  ((gR M 11 x0 0).bind fun v7 =>
  (gR M 11 x0 0).bind fun v8 =>
  (rI M v8 6).bind fun v9 =>
  (wI M v7 (145 + v9) x1).bind fun q10 =>
  (gR q10 11 x0 0).bind fun v11 =>
  (rI q10 v11 6).bind fun v12 =>
  (wI q10 v11 6 (v12 + 1)).bind fun q13 =>
  (gR q13 11 x0 0).bind fun v14 =>
  (rI q13 v14 6).bind fun v15 =>
  some (v15, q13))))
set_option maxHeartbeats 4000000 in
theorem t_X11_day_0 {X : XV} {d : Nat} (hd : 3 ≤ d + 1) : ∀ (x0 : Nat) (x1 : Int32) (M : Mem) (res : Int32 × Mem), f_X11_day_0  x0 x1 M = some res → Ex X (d + 1) mX11_day 0 [(0, .ref x0), (1, .int x1)] [] M (some (.int res.1)) res.2 := by
  intro x0 x1 M res  h
  unfold f_X11_day_0 at h
  refine ex_iload_n (pc := 0) 1 dX11_day_0 rfl rfl ?_
  refine ex_iconst (pc := 1) (-1) dX11_day_1 rfl ?_
  by_cases c1 : x1 = (-1)
  · rw [if_pos c1] at h
    refine ex_icmp_ne_f (pc := 2) dX11_day_2 15 rfl c1 ?_
    refine ex_aload_n (pc := 5) 0 dX11_day_5 rfl rfl ?_
    obtain ⟨v16, ev16, h⟩ := ob_some h
    refine ex_gR (pc := 6) ev16 dX11_day_6 lfX11_7 ?_
    refine ex_bipush (pc := 9) 6 dX11_day_9 (by decide) ?_
    refine ex_iconst (pc := 11) 0 dX11_day_11 rfl ?_
    obtain ⟨q17, eq17, h⟩ := ob_some h
    refine ex_wI (pc := 12) eq17 dX11_day_12 ?_
    refine ex_iconst (pc := 13) 0 dX11_day_13 rfl ?_
    cases h
    exact ex_ireturn (pc := 14) dX11_day_14
  · rw [if_neg c1] at h
    refine ex_icmp_ne_t (pc := 2) 15 dX11_day_2 rfl c1 ?_
    refine ex_iload_n (pc := 15) 1 dX11_day_15 rfl rfl ?_
    obtain ⟨v2, ev2, h⟩ := ob_some h
    refine ex_callS1r (pc := 16) dX11_day_16 jX11_isNumber lmX11_380 jsX11_isNumber (Nat.le_of_ble_eq_true rfl) (s_X11_isNumber (by omega)  ev2) ?_
    by_cases c3 : v2 = false
    · rw [if_pos c3] at h
      refine ex_if_eq_t (pc := 19) 34 dX11_day_19 rfl (jz_eq_t c3) ?_
      refine ex_bipush (pc := 34) (-2) dX11_day_34 (by decide) ?_
      cases h
      exact ex_ireturn (pc := 36) dX11_day_36
    · rw [if_neg c3] at h
      refine ex_if_eq_f (pc := 19) dX11_day_19 34 rfl (jz_eq_f c3) ?_
      refine ex_aload_n (pc := 22) 0 dX11_day_22 rfl rfl ?_
      obtain ⟨v4, ev4, h⟩ := ob_some h
      refine ex_gR (pc := 23) ev4 dX11_day_23 lfX11_7 ?_
      refine ex_bipush (pc := 26) 6 dX11_day_26 (by decide) ?_
      obtain ⟨v5, ev5, h⟩ := ob_some h
      refine ex_rI (pc := 28) ev5 dX11_day_28 ?_
      refine ex_bipush (pc := 29) 8 dX11_day_29 (by decide) ?_
      by_cases c6 : v5 = 8
      · rw [if_pos c6] at h
        refine ex_icmp_ne_f (pc := 31) dX11_day_31 37 rfl c6 ?_
        refine ex_bipush (pc := 34) (-2) dX11_day_34 (by decide) ?_
        cases h
        exact ex_ireturn (pc := 36) dX11_day_36
      · rw [if_neg c6] at h
        refine ex_icmp_ne_t (pc := 31) 37 dX11_day_31 rfl c6 ?_
        refine ex_aload_n (pc := 37) 0 dX11_day_37 rfl rfl ?_
        obtain ⟨v7, ev7, h⟩ := ob_some h
        refine ex_gR (pc := 38) ev7 dX11_day_38 lfX11_7 ?_
        refine ex_sipush (pc := 41) 145 dX11_day_41 (by decide) ?_
        refine ex_aload_n (pc := 44) 0 dX11_day_44 rfl rfl ?_
        obtain ⟨v8, ev8, h⟩ := ob_some h
        refine ex_gR (pc := 45) ev8 dX11_day_45 lfX11_7 ?_
        refine ex_bipush (pc := 48) 6 dX11_day_48 (by decide) ?_
        obtain ⟨v9, ev9, h⟩ := ob_some h
        refine ex_rI (pc := 50) ev9 dX11_day_50 ?_
        refine ex_iadd (pc := 51) dX11_day_51 ?_
        refine ex_iload_n (pc := 52) 1 dX11_day_52 rfl rfl ?_
        obtain ⟨q10, eq10, h⟩ := ob_some h
        refine ex_wI (pc := 53) eq10 dX11_day_53 ?_
        refine ex_aload_n (pc := 54) 0 dX11_day_54 rfl rfl ?_
        obtain ⟨v11, ev11, h⟩ := ob_some h
        refine ex_gR (pc := 55) ev11 dX11_day_55 lfX11_7 ?_
        refine ex_bipush (pc := 58) 6 dX11_day_58 (by decide) ?_
        refine ex_dup2 (pc := 60) dX11_day_60 rfl rfl ?_
        obtain ⟨v12, ev12, h⟩ := ob_some h
        refine ex_rI (pc := 61) ev12 dX11_day_61 ?_
        refine ex_iconst (pc := 62) 1 dX11_day_62 rfl ?_
        refine ex_iadd (pc := 63) dX11_day_63 ?_
        obtain ⟨q13, eq13, h⟩ := ob_some h
        refine ex_wI (pc := 64) eq13 dX11_day_64 ?_
        refine ex_aload_n (pc := 65) 0 dX11_day_65 rfl rfl ?_
        obtain ⟨v14, ev14, h⟩ := ob_some h
        refine ex_gR (pc := 66) ev14 dX11_day_66 lfX11_7 ?_
        refine ex_bipush (pc := 69) 6 dX11_day_69 (by decide) ?_
        obtain ⟨v15, ev15, h⟩ := ob_some h
        refine ex_rI (pc := 71) ev15 dX11_day_71 ?_
        cases h
        exact ex_ireturn (pc := 72) dX11_day_72
noncomputable def f_X11_day (x0 : Nat) (x1 : Int32) (M : Mem) : Option (Int32 × Mem) := if isOb M 11 x0 = true then f_X11_day_0 x0 x1 M else none
theorem o_X11_day {x0 : Nat} {x1 : Int32} {M : Mem} {res : Int32 × Mem} (h : f_X11_day x0 x1 M = some res) : isO M 11 x0 := by
  unfold f_X11_day at h
  split at h
  · rename_i hc; exact isOb_iff hc
  · cases h
set_option maxHeartbeats 4000000 in
theorem s_X11_day {X : XV} {d : Nat} (hd : 3 ≤ d) {x0 : Nat} {x1 : Int32} {M : Mem} {res : Int32 × Mem} (h : f_X11_day x0 x1 M = some res) : Mx X d mX11_day [.ref x0, .int x1] M (some (.int res.1)) res.2 := by
  obtain ⟨d, rfl⟩ : ∃ e, d = e + 1 := ⟨d - 1, by omega⟩
  unfold f_X11_day at h
  split at h
  rotate_left
  · cases h
  refine Mx.of (by decide) (Nat.le_of_ble_eq_true rfl) (⟨_, rfl, rfl⟩) ?_
  exact ex_sub (lo' := [(0, .ref x0), (1, .int x1)]) [0, 1] rfl (t_X11_day_0 hd _ _ _ _  h)
noncomputable def f_X11_fits_44 (k4 : Nat → Int32 → Int32 → Mem → Option (Int32 × Mem)) (x0 : Nat) (x2 : Int32) (s0 : Int32) (s1 : Int32) (M : Mem) : Option (Int32 × Mem) :=
  k4 x0 (s1 ||| s0) (x2 + 1) M
set_option maxHeartbeats 4000000 in
theorem t_X11_fits_44 {X : XV} {d : Nat} (hd : 4 ≤ d + 1) {k4 : Nat → Int32 → Int32 → Mem → Option (Int32 × Mem)} (hk4 : ∀ (x0 : Nat) (x1 : Int32) (x2 : Int32) (M : Mem) (res : Int32 × Mem), k4 x0 x1 x2 M = some res → Ex X (d + 1) mX11_fits 4 [(0, .ref x0), (1, .int x1), (2, .int x2)] [] M (some (.int res.1)) res.2) : ∀ (x0 : Nat) (x2 : Int32) (s0 : Int32) (s1 : Int32) (M : Mem) (res : Int32 × Mem), f_X11_fits_44 k4 x0 x2 s0 s1 M = some res → Ex X (d + 1) mX11_fits 44 [(0, .ref x0), (2, .int x2)] [.int s0, .int s1] M (some (.int res.1)) res.2 := by
  intro x0 x2 s0 s1 M res  h
  unfold f_X11_fits_44 at h
  refine ex_ior (pc := 44) dX11_fits_44 ?_
  refine ex_istore_n (pc := 45) [(1, .int (s1 ||| s0)), (0, .ref x0), (2, .int x2)] dX11_fits_45 rfl (by decide) rfl ?_
  refine ex_iinc (pc := 46) (x2 + 1) 2 [(2, .int (x2 + 1)), (1, .int (s1 ||| s0)), (0, .ref x0)] dX11_fits_46 rfl rfl (by decide) rfl ?_
  refine ex_goto (pc := 49) 4 dX11_fits_49 rfl ?_
  refine ex_sub (lo' := [(0, .ref x0), (1, .int (s1 ||| s0)), (2, .int (x2 + 1))]) [2, 1, 0] rfl ?_
  exact hk4 _ _ _ _ _  h
noncomputable def f_X11_fits_4 (n0 : Nat) (x0 : Nat) (x1 : Int32) (x2 : Int32) (M : Mem) : Option (Int32 × Mem) :=
  match n0 with
  | 0 => none
  | n + 1 =>
    (gR M 11 x0 0).bind fun v1 =>
    (rI M v1 6).bind fun v2 =>
    if v2 ≤ x2 then
    (some (x1, M))
    else
    ((gR M 11 x0 0).bind fun v4 =>
    (rI M v4 (145 + x2)).bind fun v5 =>
    (f_X11_waysOf x0 v5 1 1 M).bind fun q6 =>
    if (lg_cmp q6.1 0) ≤ 0 then
    (f_X11_fits_44 (f_X11_fits_4 n) x0 x2 0 x1 q6.2)
    else
    (f_X11_fits_44 (f_X11_fits_4 n) x0 x2 (jshl 1 x2) x1 q6.2))
set_option maxHeartbeats 4000000 in
theorem t_X11_fits_4 {X : XV} {d : Nat} (hd : 4 ≤ d + 1) : ∀ (n : Nat) (x0 : Nat) (x1 : Int32) (x2 : Int32) (M : Mem) (res : Int32 × Mem), f_X11_fits_4 n  x0 x1 x2 M = some res → Ex X (d + 1) mX11_fits 4 [(0, .ref x0), (1, .int x1), (2, .int x2)] [] M (some (.int res.1)) res.2 := by
  intro n
  induction n with
  | zero =>
    intro x0 x1 x2 M res  h
    unfold f_X11_fits_4 at h
    cases h
  | succ n ih =>
    intro x0 x1 x2 M res  h
    unfold f_X11_fits_4 at h
    refine ex_iload_n (pc := 4) 2 dX11_fits_4 rfl rfl ?_
    refine ex_aload_n (pc := 5) 0 dX11_fits_5 rfl rfl ?_
    obtain ⟨v1, ev1, h⟩ := ob_some h
    refine ex_gR (pc := 6) ev1 dX11_fits_6 lfX11_7 ?_
    refine ex_bipush (pc := 9) 6 dX11_fits_9 (by decide) ?_
    obtain ⟨v2, ev2, h⟩ := ob_some h
    refine ex_rI (pc := 11) ev2 dX11_fits_11 ?_
    by_cases c3 : v2 ≤ x2
    · rw [if_pos c3] at h
      refine ex_icmp_ge_t (pc := 12) 52 dX11_fits_12 rfl c3 ?_
      refine ex_iload_n (pc := 52) 1 dX11_fits_52 rfl rfl ?_
      cases h
      exact ex_ireturn (pc := 53) dX11_fits_53
    · rw [if_neg c3] at h
      refine ex_icmp_ge_f (pc := 12) dX11_fits_12 52 rfl c3 ?_
      refine ex_iload_n (pc := 15) 1 dX11_fits_15 rfl rfl ?_
      refine ex_aload_n (pc := 16) 0 dX11_fits_16 rfl rfl ?_
      refine ex_aload_n (pc := 17) 0 dX11_fits_17 rfl rfl ?_
      obtain ⟨v4, ev4, h⟩ := ob_some h
      refine ex_gR (pc := 18) ev4 dX11_fits_18 lfX11_7 ?_
      refine ex_sipush (pc := 21) 145 dX11_fits_21 (by decide) ?_
      refine ex_iload_n (pc := 24) 2 dX11_fits_24 rfl rfl ?_
      refine ex_iadd (pc := 25) dX11_fits_25 ?_
      obtain ⟨v5, ev5, h⟩ := ob_some h
      refine ex_rI (pc := 26) ev5 dX11_fits_26 ?_
      refine ex_iconst (pc := 27) 1 dX11_fits_27 rfl ?_
      refine ex_iconst (pc := 28) 1 dX11_fits_28 rfl ?_
      obtain ⟨q6, eq6, h⟩ := ob_some h
      refine ex_callV3r (pc := 29) dX11_fits_29 jX11_waysOf lmX11_441 jiX11_waysOf jvX11_waysOf (o_X11_waysOf eq6) rfl (Nat.le_of_ble_eq_true rfl) (s_X11_waysOf (by omega)  eq6) ?_
      refine ex_lconst (pc := 32) 0 dX11_fits_32 rfl ?_
      refine ex_lcmp (pc := 33) dX11_fits_33 ?_
      by_cases c7 : (lg_cmp q6.1 0) ≤ 0
      · rw [if_pos c7] at h
        refine ex_if_le_t (pc := 34) 43 dX11_fits_34 rfl c7 ?_
        refine ex_iconst (pc := 43) 0 dX11_fits_43 rfl ?_
        refine ex_sub (lo' := [(0, .ref x0), (2, .int x2)]) [0, 2] rfl ?_
        exact t_X11_fits_44 hd ih _ _ _ _ _ _  h
      · rw [if_neg c7] at h
        refine ex_if_le_f (pc := 34) dX11_fits_34 43 rfl c7 ?_
        refine ex_iconst (pc := 37) 1 dX11_fits_37 rfl ?_
        refine ex_iload_n (pc := 38) 2 dX11_fits_38 rfl rfl ?_
        refine ex_ishl (pc := 39) dX11_fits_39 ?_
        refine ex_goto (pc := 40) 44 dX11_fits_40 rfl ?_
        refine ex_sub (lo' := [(0, .ref x0), (2, .int x2)]) [0, 2] rfl ?_
        exact t_X11_fits_44 hd ih _ _ _ _ _ _  h
noncomputable def f_X11_fits_0 (x0 : Nat) (M : Mem) : Option (Int32 × Mem) :=
  f_X11_fits_4 fu x0 0 0 M
set_option maxHeartbeats 4000000 in
theorem t_X11_fits_0 {X : XV} {d : Nat} (hd : 4 ≤ d + 1) : ∀ (x0 : Nat) (M : Mem) (res : Int32 × Mem), f_X11_fits_0  x0 M = some res → Ex X (d + 1) mX11_fits 0 [(0, .ref x0)] [] M (some (.int res.1)) res.2 := by
  intro x0 M res  h
  unfold f_X11_fits_0 at h
  refine ex_iconst (pc := 0) 0 dX11_fits_0 rfl ?_
  refine ex_istore_n (pc := 1) [(1, .int 0), (0, .ref x0)] dX11_fits_1 rfl (by decide) rfl ?_
  refine ex_iconst (pc := 2) 0 dX11_fits_2 rfl ?_
  refine ex_istore_n (pc := 3) [(2, .int 0), (1, .int 0), (0, .ref x0)] dX11_fits_3 rfl (by decide) rfl ?_
  refine ex_sub (lo' := [(0, .ref x0), (1, .int 0), (2, .int 0)]) [2, 1, 0] rfl ?_
  exact t_X11_fits_4 hd  _ _ _ _ _ _  h
noncomputable def f_X11_fits (x0 : Nat) (M : Mem) : Option (Int32 × Mem) := if isOb M 11 x0 = true then f_X11_fits_0 x0 M else none
theorem o_X11_fits {x0 : Nat} {M : Mem} {res : Int32 × Mem} (h : f_X11_fits x0 M = some res) : isO M 11 x0 := by
  unfold f_X11_fits at h
  split at h
  · rename_i hc; exact isOb_iff hc
  · cases h
set_option maxHeartbeats 4000000 in
theorem s_X11_fits {X : XV} {d : Nat} (hd : 4 ≤ d) {x0 : Nat} {M : Mem} {res : Int32 × Mem} (h : f_X11_fits x0 M = some res) : Mx X d mX11_fits [.ref x0] M (some (.int res.1)) res.2 := by
  obtain ⟨d, rfl⟩ : ∃ e, d = e + 1 := ⟨d - 1, by omega⟩
  unfold f_X11_fits at h
  split at h
  rotate_left
  · cases h
  refine Mx.of (by decide) (Nat.le_of_ble_eq_true rfl) (⟨_, rfl, rfl⟩) ?_
  exact ex_sub (lo' := [(0, .ref x0)]) [0] rfl (t_X11_fits_0 hd _ _ _  h)
noncomputable def f_X11_likeliest_19 (n0 : Nat) (x0 : Nat) (x1 : Int32) (x2 : Int32) (x3 : Int64) (x5 : Int32) (M : Mem) : Option (Int32 × Mem) :=
  match n0 with
  | 0 => none
  | n + 1 =>
    (gR M 11 x0 0).bind fun v1 =>
    (rI M v1 6).bind fun v2 =>
    if v2 ≤ x5 then
    (some (x2, M))
    else
    ((gR M 11 x0 0).bind fun v4 =>
    (rI M v4 (145 + x5)).bind fun v5 =>
    (f_X11_waysOf x0 v5 (10 - x1) x1 M).bind fun q6 =>
    (gR q6.2 11 x0 0).bind fun v7 =>
    (rI q6.2 v7 (145 + x5)).bind fun v8 =>
    (f_X11_longOf v8).bind fun v9 =>
    (f_X11_tens (4 - v9)).bind fun v10 =>
    if 0 < (lg_cmp (q6.1 * v10) x3) then
    (f_X11_likeliest_19 n x0 x1 x5 (q6.1 * v10) (x5 + 1) q6.2)
    else
    (f_X11_likeliest_19 n x0 x1 x2 x3 (x5 + 1) q6.2))
set_option maxHeartbeats 4000000 in
theorem t_X11_likeliest_19 {X : XV} {d : Nat} (hd : 4 ≤ d + 1) : ∀ (n : Nat) (x0 : Nat) (x1 : Int32) (x2 : Int32) (x3 : Int64) (x5 : Int32) (M : Mem) (res : Int32 × Mem), f_X11_likeliest_19 n  x0 x1 x2 x3 x5 M = some res → Ex X (d + 1) mX11_likeliest 19 [(0, .ref x0), (1, .int x1), (2, .int x2), (3, .long x3), (5, .int x5)] [] M (some (.int res.1)) res.2 := by
  intro n
  induction n with
  | zero =>
    intro x0 x1 x2 x3 x5 M res  h
    unfold f_X11_likeliest_19 at h
    cases h
  | succ n ih =>
    intro x0 x1 x2 x3 x5 M res  h
    unfold f_X11_likeliest_19 at h
    refine ex_iload (pc := 19) 4 dX11_likeliest_19 rfl ?_
    refine ex_aload_n (pc := 21) 0 dX11_likeliest_21 rfl rfl ?_
    obtain ⟨v1, ev1, h⟩ := ob_some h
    refine ex_gR (pc := 22) ev1 dX11_likeliest_22 lfX11_7 ?_
    refine ex_bipush (pc := 25) 6 dX11_likeliest_25 (by decide) ?_
    obtain ⟨v2, ev2, h⟩ := ob_some h
    refine ex_rI (pc := 27) ev2 dX11_likeliest_27 ?_
    by_cases c3 : v2 ≤ x5
    · rw [if_pos c3] at h
      refine ex_icmp_ge_t (pc := 28) 95 dX11_likeliest_28 rfl c3 ?_
      refine ex_iload_n (pc := 95) 2 dX11_likeliest_95 rfl rfl ?_
      cases h
      exact ex_ireturn (pc := 96) dX11_likeliest_96
    · rw [if_neg c3] at h
      refine ex_icmp_ge_f (pc := 28) dX11_likeliest_28 95 rfl c3 ?_
      refine ex_aload_n (pc := 31) 0 dX11_likeliest_31 rfl rfl ?_
      refine ex_aload_n (pc := 32) 0 dX11_likeliest_32 rfl rfl ?_
      obtain ⟨v4, ev4, h⟩ := ob_some h
      refine ex_gR (pc := 33) ev4 dX11_likeliest_33 lfX11_7 ?_
      refine ex_sipush (pc := 36) 145 dX11_likeliest_36 (by decide) ?_
      refine ex_iload (pc := 39) 4 dX11_likeliest_39 rfl ?_
      refine ex_iadd (pc := 41) dX11_likeliest_41 ?_
      obtain ⟨v5, ev5, h⟩ := ob_some h
      refine ex_rI (pc := 42) ev5 dX11_likeliest_42 ?_
      refine ex_bipush (pc := 43) 10 dX11_likeliest_43 (by decide) ?_
      refine ex_iload_n (pc := 45) 1 dX11_likeliest_45 rfl rfl ?_
      refine ex_isub (pc := 46) dX11_likeliest_46 ?_
      refine ex_iload_n (pc := 47) 1 dX11_likeliest_47 rfl rfl ?_
      obtain ⟨q6, eq6, h⟩ := ob_some h
      refine ex_callV3r (pc := 48) dX11_likeliest_48 jX11_waysOf lmX11_441 jiX11_waysOf jvX11_waysOf (o_X11_waysOf eq6) rfl (Nat.le_of_ble_eq_true rfl) (s_X11_waysOf (by omega)  eq6) ?_
      refine ex_iconst (pc := 51) 4 dX11_likeliest_51 rfl ?_
      refine ex_aload_n (pc := 52) 0 dX11_likeliest_52 rfl rfl ?_
      obtain ⟨v7, ev7, h⟩ := ob_some h
      refine ex_gR (pc := 53) ev7 dX11_likeliest_53 lfX11_7 ?_
      refine ex_sipush (pc := 56) 145 dX11_likeliest_56 (by decide) ?_
      refine ex_iload (pc := 59) 4 dX11_likeliest_59 rfl ?_
      refine ex_iadd (pc := 61) dX11_likeliest_61 ?_
      obtain ⟨v8, ev8, h⟩ := ob_some h
      refine ex_rI (pc := 62) ev8 dX11_likeliest_62 ?_
      obtain ⟨v9, ev9, h⟩ := ob_some h
      refine ex_callS1r (pc := 63) dX11_likeliest_63 jX11_longOf lmX11_91 jsX11_longOf (Nat.le_of_ble_eq_true rfl) (s_X11_longOf (by omega)  ev9) ?_
      refine ex_isub (pc := 66) dX11_likeliest_66 ?_
      obtain ⟨v10, ev10, h⟩ := ob_some h
      refine ex_callS1r (pc := 67) dX11_likeliest_67 jX11_tens lmX11_446 jsX11_tens (Nat.le_of_ble_eq_true rfl) (s_X11_tens (by omega)  ev10) ?_
      refine ex_lmul (pc := 70) dX11_likeliest_70 ?_
      refine ex_lstore (pc := 71) [(6, .long (q6.1 * v10)), (0, .ref x0), (1, .int x1), (2, .int x2), (3, .long x3), (5, .int x5)] dX11_likeliest_71 (by decide) rfl ?_
      refine ex_lload (pc := 73) 0 dX11_likeliest_73 rfl ?_
      refine ex_lload_n (pc := 75) 4 dX11_likeliest_75 rfl rfl ?_
      refine ex_lcmp (pc := 76) dX11_likeliest_76 ?_
      by_cases c11 : 0 < (lg_cmp (q6.1 * v10) x3)
      · rw [if_pos c11] at h
        refine ex_if_gt_t (pc := 77) 83 dX11_likeliest_77 rfl c11 ?_
        refine ex_lload (pc := 83) 0 dX11_likeliest_83 rfl ?_
        refine ex_lstore_n (pc := 85) [(3, .long (q6.1 * v10)), (6, .long (q6.1 * v10)), (0, .ref x0), (1, .int x1), (2, .int x2), (5, .int x5)] dX11_likeliest_85 rfl (by decide) rfl ?_
        refine ex_iload (pc := 86) 5 dX11_likeliest_86 rfl ?_
        refine ex_istore_n (pc := 88) [(2, .int x5), (3, .long (q6.1 * v10)), (6, .long (q6.1 * v10)), (0, .ref x0), (1, .int x1), (5, .int x5)] dX11_likeliest_88 rfl (by decide) rfl ?_
        refine ex_iinc (pc := 89) (x5 + 1) 5 [(5, .int (x5 + 1)), (2, .int x5), (3, .long (q6.1 * v10)), (6, .long (q6.1 * v10)), (0, .ref x0), (1, .int x1)] dX11_likeliest_89 rfl rfl (by decide) rfl ?_
        refine ex_goto (pc := 92) 19 dX11_likeliest_92 rfl ?_
        refine ex_sub (lo' := [(0, .ref x0), (1, .int x1), (2, .int x5), (3, .long (q6.1 * v10)), (5, .int (x5 + 1))]) [4, 5, 1, 2, 0] rfl ?_
        exact ih _ _ _ _ _ _ _  h
      · rw [if_neg c11] at h
        refine ex_if_gt_f (pc := 77) dX11_likeliest_77 83 rfl c11 ?_
        refine ex_goto (pc := 80) 89 dX11_likeliest_80 rfl ?_
        refine ex_iinc (pc := 89) (x5 + 1) 5 [(5, .int (x5 + 1)), (6, .long (q6.1 * v10)), (0, .ref x0), (1, .int x1), (2, .int x2), (3, .long x3)] dX11_likeliest_89 rfl rfl (by decide) rfl ?_
        refine ex_goto (pc := 92) 19 dX11_likeliest_92 rfl ?_
        refine ex_sub (lo' := [(0, .ref x0), (1, .int x1), (2, .int x2), (3, .long x3), (5, .int (x5 + 1))]) [2, 3, 4, 5, 0] rfl ?_
        exact ih _ _ _ _ _ _ _  h
noncomputable def f_X11_likeliest_0 (x0 : Nat) (x1 : Int32) (M : Mem) : Option (Int32 × Mem) :=
  (f_X11_isIn x1 0 10).bind fun v12 =>
  if v12 = true then
  (f_X11_likeliest_19 fu x0 x1 (-1) 0 0 M)
  else
  (some ((-1), M))
set_option maxHeartbeats 4000000 in
theorem t_X11_likeliest_0 {X : XV} {d : Nat} (hd : 4 ≤ d + 1) : ∀ (x0 : Nat) (x1 : Int32) (M : Mem) (res : Int32 × Mem), f_X11_likeliest_0  x0 x1 M = some res → Ex X (d + 1) mX11_likeliest 0 [(0, .ref x0), (1, .int x1)] [] M (some (.int res.1)) res.2 := by
  intro x0 x1 M res  h
  unfold f_X11_likeliest_0 at h
  refine ex_iload_n (pc := 0) 1 dX11_likeliest_0 rfl rfl ?_
  refine ex_iconst (pc := 1) 0 dX11_likeliest_1 rfl ?_
  refine ex_bipush (pc := 2) 10 dX11_likeliest_2 (by decide) ?_
  obtain ⟨v12, ev12, h⟩ := ob_some h
  refine ex_callS3r (pc := 4) dX11_likeliest_4 jX11_isIn lmX11_87 jsX11_isIn (Nat.le_of_ble_eq_true rfl) (s_X11_isIn (by omega)  ev12) ?_
  by_cases c13 : v12 = true
  · rw [if_pos c13] at h
    refine ex_if_ne_t (pc := 7) 12 dX11_likeliest_7 rfl (jz_ne_t c13) ?_
    refine ex_iconst (pc := 12) (-1) dX11_likeliest_12 rfl ?_
    refine ex_istore_n (pc := 13) [(2, .int (-1)), (0, .ref x0), (1, .int x1)] dX11_likeliest_13 rfl (by decide) rfl ?_
    refine ex_lconst (pc := 14) 0 dX11_likeliest_14 rfl ?_
    refine ex_lstore_n (pc := 15) [(3, .long 0), (2, .int (-1)), (0, .ref x0), (1, .int x1)] dX11_likeliest_15 rfl (by decide) rfl ?_
    refine ex_iconst (pc := 16) 0 dX11_likeliest_16 rfl ?_
    refine ex_istore (pc := 17) [(5, .int 0), (3, .long 0), (2, .int (-1)), (0, .ref x0), (1, .int x1)] dX11_likeliest_17 (by decide) rfl ?_
    refine ex_sub (lo' := [(0, .ref x0), (1, .int x1), (2, .int (-1)), (3, .long 0), (5, .int 0)]) [3, 4, 2, 1, 0] rfl ?_
    exact t_X11_likeliest_19 hd  _ _ _ _ _ _ _ _  h
  · rw [if_neg c13] at h
    refine ex_if_ne_f (pc := 7) dX11_likeliest_7 12 rfl (jz_ne_f c13) ?_
    refine ex_iconst (pc := 10) (-1) dX11_likeliest_10 rfl ?_
    cases h
    exact ex_ireturn (pc := 11) dX11_likeliest_11
noncomputable def f_X11_likeliest (x0 : Nat) (x1 : Int32) (M : Mem) : Option (Int32 × Mem) := if isOb M 11 x0 = true then f_X11_likeliest_0 x0 x1 M else none
theorem o_X11_likeliest {x0 : Nat} {x1 : Int32} {M : Mem} {res : Int32 × Mem} (h : f_X11_likeliest x0 x1 M = some res) : isO M 11 x0 := by
  unfold f_X11_likeliest at h
  split at h
  · rename_i hc; exact isOb_iff hc
  · cases h
set_option maxHeartbeats 4000000 in
theorem s_X11_likeliest {X : XV} {d : Nat} (hd : 4 ≤ d) {x0 : Nat} {x1 : Int32} {M : Mem} {res : Int32 × Mem} (h : f_X11_likeliest x0 x1 M = some res) : Mx X d mX11_likeliest [.ref x0, .int x1] M (some (.int res.1)) res.2 := by
  obtain ⟨d, rfl⟩ : ∃ e, d = e + 1 := ⟨d - 1, by omega⟩
  unfold f_X11_likeliest at h
  split at h
  rotate_left
  · cases h
  refine Mx.of (by decide) (Nat.le_of_ble_eq_true rfl) (⟨_, rfl, rfl⟩) ?_
  exact ex_sub (lo' := [(0, .ref x0), (1, .int x1)]) [0, 1] rfl (t_X11_likeliest_0 hd _ _ _ _  h)
noncomputable def f_X11_takesBy_0 (x0 : Nat) (x1 : Int32) (x2 : Int32) (x3 : Int32) (M : Mem) : Option (Int32) :=
  (f_X11_ruleOf x0 x2 x3 M).bind fun v1 =>
  (f_X11_goesOn x0 x1 v1 M).bind fun v2 =>
  if v2 = (-1) then
  (some 1000000000)
  else
  (if v2 = x1 then
  (some 1000000000)
  else
  ((gR M 11 x0 28).bind fun v5 =>
  (rI M v5 v2).bind fun v6 =>
  some (1 + v6)))
set_option maxHeartbeats 4000000 in
theorem t_X11_takesBy_0 {X : XV} {d : Nat} (hd : 3 ≤ d + 1) : ∀ (x0 : Nat) (x1 : Int32) (x2 : Int32) (x3 : Int32) (M : Mem) (res : Int32), f_X11_takesBy_0  x0 x1 x2 x3 M = some res → Ex X (d + 1) mX11_takesBy 0 [(0, .ref x0), (1, .int x1), (2, .int x2), (3, .int x3)] [] M (some (.int res)) M := by
  intro x0 x1 x2 x3 M res  h
  unfold f_X11_takesBy_0 at h
  refine ex_aload_n (pc := 0) 0 dX11_takesBy_0 rfl rfl ?_
  refine ex_iload_n (pc := 1) 1 dX11_takesBy_1 rfl rfl ?_
  refine ex_aload_n (pc := 2) 0 dX11_takesBy_2 rfl rfl ?_
  refine ex_iload_n (pc := 3) 2 dX11_takesBy_3 rfl rfl ?_
  refine ex_iload_n (pc := 4) 3 dX11_takesBy_4 rfl rfl ?_
  obtain ⟨v1, ev1, h⟩ := ob_some h
  refine ex_callV2r (pc := 5) dX11_takesBy_5 jX11_ruleOf lmX11_350 jiX11_ruleOf jvX11_ruleOf (o_X11_ruleOf ev1) rfl (Nat.le_of_ble_eq_true rfl) (s_X11_ruleOf (by omega)  ev1) ?_
  obtain ⟨v2, ev2, h⟩ := ob_some h
  refine ex_callV2r (pc := 8) dX11_takesBy_8 jX11_goesOn lmX11_438 jiX11_goesOn jvX11_goesOn (o_X11_goesOn ev2) rfl (Nat.le_of_ble_eq_true rfl) (s_X11_goesOn (by omega)  ev2) ?_
  refine ex_istore (pc := 11) [(4, .int v2), (0, .ref x0), (1, .int x1), (2, .int x2), (3, .int x3)] dX11_takesBy_11 (by decide) rfl ?_
  refine ex_iload (pc := 13) 0 dX11_takesBy_13 rfl ?_
  refine ex_iconst (pc := 15) (-1) dX11_takesBy_15 rfl ?_
  by_cases c3 : v2 = (-1)
  · rw [if_pos c3] at h
    refine ex_icmp_eq_t (pc := 16) 25 dX11_takesBy_16 rfl c3 ?_
    refine ex_ldcw (pc := 25) dX11_takesBy_25 lkX11_454 ?_
    refine ex_goto (pc := 28) 40 dX11_takesBy_28 rfl ?_
    cases h
    exact ex_ireturn (pc := 40) dX11_takesBy_40
  · rw [if_neg c3] at h
    refine ex_icmp_eq_f (pc := 16) dX11_takesBy_16 25 rfl c3 ?_
    refine ex_iload (pc := 19) 0 dX11_takesBy_19 rfl ?_
    refine ex_iload_n (pc := 21) 2 dX11_takesBy_21 rfl rfl ?_
    by_cases c4 : v2 = x1
    · rw [if_pos c4] at h
      refine ex_icmp_ne_f (pc := 22) dX11_takesBy_22 31 rfl c4 ?_
      refine ex_ldcw (pc := 25) dX11_takesBy_25 lkX11_454 ?_
      refine ex_goto (pc := 28) 40 dX11_takesBy_28 rfl ?_
      cases h
      exact ex_ireturn (pc := 40) dX11_takesBy_40
    · rw [if_neg c4] at h
      refine ex_icmp_ne_t (pc := 22) 31 dX11_takesBy_22 rfl c4 ?_
      refine ex_iconst (pc := 31) 1 dX11_takesBy_31 rfl ?_
      refine ex_aload_n (pc := 32) 1 dX11_takesBy_32 rfl rfl ?_
      obtain ⟨v5, ev5, h⟩ := ob_some h
      refine ex_gR (pc := 33) ev5 dX11_takesBy_33 lfX11_56 ?_
      refine ex_iload (pc := 36) 0 dX11_takesBy_36 rfl ?_
      obtain ⟨v6, ev6, h⟩ := ob_some h
      refine ex_rI (pc := 38) ev6 dX11_takesBy_38 ?_
      refine ex_iadd (pc := 39) dX11_takesBy_39 ?_
      cases h
      exact ex_ireturn (pc := 40) dX11_takesBy_40
noncomputable def f_X11_takesBy (x0 : Nat) (x1 : Int32) (x2 : Int32) (x3 : Int32) (M : Mem) : Option (Int32) := if isOb M 11 x0 = true then f_X11_takesBy_0 x0 x1 x2 x3 M else none
theorem o_X11_takesBy {x0 : Nat} {x1 : Int32} {x2 : Int32} {x3 : Int32} {M : Mem} {res : Int32} (h : f_X11_takesBy x0 x1 x2 x3 M = some res) : isO M 11 x0 := by
  unfold f_X11_takesBy at h
  split at h
  · rename_i hc; exact isOb_iff hc
  · cases h
set_option maxHeartbeats 4000000 in
theorem s_X11_takesBy {X : XV} {d : Nat} (hd : 3 ≤ d) {x0 : Nat} {x1 : Int32} {x2 : Int32} {x3 : Int32} {M : Mem} {res : Int32} (h : f_X11_takesBy x0 x1 x2 x3 M = some res) : Mx X d mX11_takesBy [.ref x0, .int x1, .int x2, .int x3] M (some (.int res)) M := by
  obtain ⟨d, rfl⟩ : ∃ e, d = e + 1 := ⟨d - 1, by omega⟩
  unfold f_X11_takesBy at h
  split at h
  rotate_left
  · cases h
  refine Mx.of (by decide) (Nat.le_of_ble_eq_true rfl) (⟨_, rfl, rfl⟩) ?_
  exact ex_sub (lo' := [(0, .ref x0), (1, .int x1), (2, .int x2), (3, .int x3)]) [0, 1, 2, 3] rfl (t_X11_takesBy_0 hd _ _ _ _ _ _  h)
noncomputable def f_X11_layTakes_44 (n0 : Nat) (k21 : Nat → Int32 → Mem → Option (Mem)) (k36 : Nat → Int32 → Int32 → Mem → Option (Mem)) (x0 : Nat) (x1 : Int32) (x2 : Int32) (x3 : Int32) (M : Mem) : Option (Mem) :=
  match n0 with
  | 0 => none
  | n + 1 =>
    if 2 ≤ x3 then
    (k36 x0 x1 (x2 + 1) M)
    else
    ((f_X11_takesBy x0 x1 x2 x3 M).bind fun v2 =>
    (gR M 11 x0 28).bind fun v3 =>
    (rI M v3 x1).bind fun v4 =>
    if v4 ≤ v2 then
    (f_X11_layTakes_44 n k21 k36 x0 x1 x2 (x3 + 1) M)
    else
    ((gR M 11 x0 28).bind fun v6 =>
    (f_X11_takesBy x0 x1 x2 x3 M).bind fun v7 =>
    (wI M v6 x1 v7).bind fun q8 =>
    f_X11_layTakes_44 n k21 k36 x0 x1 x2 (x3 + 1) q8))
set_option maxHeartbeats 4000000 in
theorem t_X11_layTakes_44 {X : XV} {d : Nat} (hd : 4 ≤ d + 1) {k21 : Nat → Int32 → Mem → Option (Mem)} (hk21 : ∀ (x0 : Nat) (x1 : Int32) (M : Mem) (res : Mem), k21 x0 x1 M = some res → Ex X (d + 1) mX11_layTakes 21 [(0, .ref x0), (1, .int x1)] [] M none res) {k36 : Nat → Int32 → Int32 → Mem → Option (Mem)} (hk36 : ∀ (x0 : Nat) (x1 : Int32) (x2 : Int32) (M : Mem) (res : Mem), k36 x0 x1 x2 M = some res → Ex X (d + 1) mX11_layTakes 36 [(0, .ref x0), (1, .int x1), (2, .int x2)] [] M none res) : ∀ (n : Nat) (x0 : Nat) (x1 : Int32) (x2 : Int32) (x3 : Int32) (M : Mem) (res : Mem), f_X11_layTakes_44 n k21 k36 x0 x1 x2 x3 M = some res → Ex X (d + 1) mX11_layTakes 44 [(0, .ref x0), (1, .int x1), (2, .int x2), (3, .int x3)] [] M none res := by
  intro n
  induction n with
  | zero =>
    intro x0 x1 x2 x3 M res  h
    unfold f_X11_layTakes_44 at h
    cases h
  | succ n ih =>
    intro x0 x1 x2 x3 M res  h
    unfold f_X11_layTakes_44 at h
    refine ex_iload_n (pc := 44) 3 dX11_layTakes_44 rfl rfl ?_
    refine ex_iconst (pc := 45) 2 dX11_layTakes_45 rfl ?_
    by_cases c1 : 2 ≤ x3
    · rw [if_pos c1] at h
      refine ex_icmp_ge_t (pc := 46) 84 dX11_layTakes_46 rfl c1 ?_
      refine ex_iinc (pc := 84) (x2 + 1) 2 [(2, .int (x2 + 1)), (0, .ref x0), (1, .int x1), (3, .int x3)] dX11_layTakes_84 rfl rfl (by decide) rfl ?_
      refine ex_goto (pc := 87) 36 dX11_layTakes_87 rfl ?_
      refine ex_sub (lo' := [(0, .ref x0), (1, .int x1), (2, .int (x2 + 1))]) [1, 2, 0] rfl ?_
      exact hk36 _ _ _ _ _  h
    · rw [if_neg c1] at h
      refine ex_icmp_ge_f (pc := 46) dX11_layTakes_46 84 rfl c1 ?_
      refine ex_aload_n (pc := 49) 0 dX11_layTakes_49 rfl rfl ?_
      refine ex_iload_n (pc := 50) 1 dX11_layTakes_50 rfl rfl ?_
      refine ex_iload_n (pc := 51) 2 dX11_layTakes_51 rfl rfl ?_
      refine ex_iload_n (pc := 52) 3 dX11_layTakes_52 rfl rfl ?_
      obtain ⟨v2, ev2, h⟩ := ob_some h
      refine ex_callV3r (pc := 53) dX11_layTakes_53 jX11_takesBy lmX11_455 jiX11_takesBy jvX11_takesBy (o_X11_takesBy ev2) rfl (Nat.le_of_ble_eq_true rfl) (s_X11_takesBy (by omega)  ev2) ?_
      refine ex_aload_n (pc := 56) 0 dX11_layTakes_56 rfl rfl ?_
      obtain ⟨v3, ev3, h⟩ := ob_some h
      refine ex_gR (pc := 57) ev3 dX11_layTakes_57 lfX11_56 ?_
      refine ex_iload_n (pc := 60) 1 dX11_layTakes_60 rfl rfl ?_
      obtain ⟨v4, ev4, h⟩ := ob_some h
      refine ex_rI (pc := 61) ev4 dX11_layTakes_61 ?_
      by_cases c5 : v4 ≤ v2
      · rw [if_pos c5] at h
        refine ex_icmp_ge_t (pc := 62) 78 dX11_layTakes_62 rfl c5 ?_
        refine ex_iinc (pc := 78) (x3 + 1) 3 [(3, .int (x3 + 1)), (0, .ref x0), (1, .int x1), (2, .int x2)] dX11_layTakes_78 rfl rfl (by decide) rfl ?_
        refine ex_goto (pc := 81) 44 dX11_layTakes_81 rfl ?_
        refine ex_sub (lo' := [(0, .ref x0), (1, .int x1), (2, .int x2), (3, .int (x3 + 1))]) [1, 2, 3, 0] rfl ?_
        exact ih _ _ _ _ _ _  h
      · rw [if_neg c5] at h
        refine ex_icmp_ge_f (pc := 62) dX11_layTakes_62 78 rfl c5 ?_
        refine ex_aload_n (pc := 65) 0 dX11_layTakes_65 rfl rfl ?_
        obtain ⟨v6, ev6, h⟩ := ob_some h
        refine ex_gR (pc := 66) ev6 dX11_layTakes_66 lfX11_56 ?_
        refine ex_iload_n (pc := 69) 1 dX11_layTakes_69 rfl rfl ?_
        refine ex_aload_n (pc := 70) 0 dX11_layTakes_70 rfl rfl ?_
        refine ex_iload_n (pc := 71) 1 dX11_layTakes_71 rfl rfl ?_
        refine ex_iload_n (pc := 72) 2 dX11_layTakes_72 rfl rfl ?_
        refine ex_iload_n (pc := 73) 3 dX11_layTakes_73 rfl rfl ?_
        obtain ⟨v7, ev7, h⟩ := ob_some h
        refine ex_callV3r (pc := 74) dX11_layTakes_74 jX11_takesBy lmX11_455 jiX11_takesBy jvX11_takesBy (o_X11_takesBy ev7) rfl (Nat.le_of_ble_eq_true rfl) (s_X11_takesBy (by omega)  ev7) ?_
        obtain ⟨q8, eq8, h⟩ := ob_some h
        refine ex_wI (pc := 77) eq8 dX11_layTakes_77 ?_
        refine ex_iinc (pc := 78) (x3 + 1) 3 [(3, .int (x3 + 1)), (0, .ref x0), (1, .int x1), (2, .int x2)] dX11_layTakes_78 rfl rfl (by decide) rfl ?_
        refine ex_goto (pc := 81) 44 dX11_layTakes_81 rfl ?_
        refine ex_sub (lo' := [(0, .ref x0), (1, .int x1), (2, .int x2), (3, .int (x3 + 1))]) [1, 2, 3, 0] rfl ?_
        exact ih _ _ _ _ _ _  h
noncomputable def f_X11_layTakes_36 (n0 : Nat) (k21 : Nat → Int32 → Mem → Option (Mem)) (x0 : Nat) (x1 : Int32) (x2 : Int32) (M : Mem) : Option (Mem) :=
  match n0 with
  | 0 => none
  | n + 1 =>
    if 10 ≤ x2 then
    (k21 x0 (x1 + (-1)) M)
    else
    (f_X11_layTakes_44 fu k21 (f_X11_layTakes_36 n k21) x0 x1 x2 0 M)
set_option maxHeartbeats 4000000 in
theorem t_X11_layTakes_36 {X : XV} {d : Nat} (hd : 4 ≤ d + 1) {k21 : Nat → Int32 → Mem → Option (Mem)} (hk21 : ∀ (x0 : Nat) (x1 : Int32) (M : Mem) (res : Mem), k21 x0 x1 M = some res → Ex X (d + 1) mX11_layTakes 21 [(0, .ref x0), (1, .int x1)] [] M none res) : ∀ (n : Nat) (x0 : Nat) (x1 : Int32) (x2 : Int32) (M : Mem) (res : Mem), f_X11_layTakes_36 n k21 x0 x1 x2 M = some res → Ex X (d + 1) mX11_layTakes 36 [(0, .ref x0), (1, .int x1), (2, .int x2)] [] M none res := by
  intro n
  induction n with
  | zero =>
    intro x0 x1 x2 M res  h
    unfold f_X11_layTakes_36 at h
    cases h
  | succ n ih =>
    intro x0 x1 x2 M res  h
    unfold f_X11_layTakes_36 at h
    refine ex_iload_n (pc := 36) 2 dX11_layTakes_36 rfl rfl ?_
    refine ex_bipush (pc := 37) 10 dX11_layTakes_37 (by decide) ?_
    by_cases c9 : 10 ≤ x2
    · rw [if_pos c9] at h
      refine ex_icmp_ge_t (pc := 39) 90 dX11_layTakes_39 rfl c9 ?_
      refine ex_iinc (pc := 90) (x1 + (-1)) 1 [(1, .int (x1 + (-1))), (0, .ref x0), (2, .int x2)] dX11_layTakes_90 rfl rfl (by decide) rfl ?_
      refine ex_goto (pc := 93) 21 dX11_layTakes_93 rfl ?_
      refine ex_sub (lo' := [(0, .ref x0), (1, .int (x1 + (-1)))]) [1, 0] rfl ?_
      exact hk21 _ _ _ _  h
    · rw [if_neg c9] at h
      refine ex_icmp_ge_f (pc := 39) dX11_layTakes_39 90 rfl c9 ?_
      refine ex_iconst (pc := 42) 0 dX11_layTakes_42 rfl ?_
      refine ex_istore_n (pc := 43) [(3, .int 0), (0, .ref x0), (1, .int x1), (2, .int x2)] dX11_layTakes_43 rfl (by decide) rfl ?_
      refine ex_sub (lo' := [(0, .ref x0), (1, .int x1), (2, .int x2), (3, .int 0)]) [1, 2, 3, 0] rfl ?_
      exact t_X11_layTakes_44 hd hk21 ih _ _ _ _ _ _ _  h
noncomputable def f_X11_layTakes_21 (n0 : Nat) (x0 : Nat) (x1 : Int32) (M : Mem) : Option (Mem) :=
  match n0 with
  | 0 => none
  | n + 1 =>
    if x1 < 0 then
    (some M)
    else
    ((gR M 11 x0 28).bind fun v11 =>
    (wI M v11 x1 1000000000).bind fun q12 =>
    f_X11_layTakes_36 fu (f_X11_layTakes_21 n) x0 x1 0 q12)
set_option maxHeartbeats 4000000 in
theorem t_X11_layTakes_21 {X : XV} {d : Nat} (hd : 4 ≤ d + 1) : ∀ (n : Nat) (x0 : Nat) (x1 : Int32) (M : Mem) (res : Mem), f_X11_layTakes_21 n  x0 x1 M = some res → Ex X (d + 1) mX11_layTakes 21 [(0, .ref x0), (1, .int x1)] [] M none res := by
  intro n
  induction n with
  | zero =>
    intro x0 x1 M res  h
    unfold f_X11_layTakes_21 at h
    cases h
  | succ n ih =>
    intro x0 x1 M res  h
    unfold f_X11_layTakes_21 at h
    refine ex_iload_n (pc := 21) 1 dX11_layTakes_21 rfl rfl ?_
    by_cases c10 : x1 < 0
    · rw [if_pos c10] at h
      refine ex_if_lt_t (pc := 22) 96 dX11_layTakes_22 rfl c10 ?_
      cases h
      exact ex_return (pc := 96) dX11_layTakes_96
    · rw [if_neg c10] at h
      refine ex_if_lt_f (pc := 22) dX11_layTakes_22 96 rfl c10 ?_
      refine ex_aload_n (pc := 25) 0 dX11_layTakes_25 rfl rfl ?_
      obtain ⟨v11, ev11, h⟩ := ob_some h
      refine ex_gR (pc := 26) ev11 dX11_layTakes_26 lfX11_56 ?_
      refine ex_iload_n (pc := 29) 1 dX11_layTakes_29 rfl rfl ?_
      refine ex_ldcw (pc := 30) dX11_layTakes_30 lkX11_454 ?_
      obtain ⟨q12, eq12, h⟩ := ob_some h
      refine ex_wI (pc := 33) eq12 dX11_layTakes_33 ?_
      refine ex_iconst (pc := 34) 0 dX11_layTakes_34 rfl ?_
      refine ex_istore_n (pc := 35) [(2, .int 0), (0, .ref x0), (1, .int x1)] dX11_layTakes_35 rfl (by decide) rfl ?_
      refine ex_sub (lo' := [(0, .ref x0), (1, .int x1), (2, .int 0)]) [1, 2, 0] rfl ?_
      exact t_X11_layTakes_36 hd ih _ _ _ _ _ _  h
noncomputable def f_X11_layTakes_0 (x0 : Nat) (M : Mem) : Option (Mem) :=
  (gR M 11 x0 28).bind fun v13 =>
  (gR M 11 x0 0).bind fun v14 =>
  (rI M v14 4).bind fun v15 =>
  (wI M v13 v15 0).bind fun q16 =>
  (gR q16 11 x0 0).bind fun v17 =>
  (rI q16 v17 4).bind fun v18 =>
  f_X11_layTakes_21 fu x0 (v18 - 1) q16
set_option maxHeartbeats 4000000 in
theorem t_X11_layTakes_0 {X : XV} {d : Nat} (hd : 4 ≤ d + 1) : ∀ (x0 : Nat) (M : Mem) (res : Mem), f_X11_layTakes_0  x0 M = some res → Ex X (d + 1) mX11_layTakes 0 [(0, .ref x0)] [] M none res := by
  intro x0 M res  h
  unfold f_X11_layTakes_0 at h
  refine ex_aload_n (pc := 0) 0 dX11_layTakes_0 rfl rfl ?_
  obtain ⟨v13, ev13, h⟩ := ob_some h
  refine ex_gR (pc := 1) ev13 dX11_layTakes_1 lfX11_56 ?_
  refine ex_aload_n (pc := 4) 0 dX11_layTakes_4 rfl rfl ?_
  obtain ⟨v14, ev14, h⟩ := ob_some h
  refine ex_gR (pc := 5) ev14 dX11_layTakes_5 lfX11_7 ?_
  refine ex_iconst (pc := 8) 4 dX11_layTakes_8 rfl ?_
  obtain ⟨v15, ev15, h⟩ := ob_some h
  refine ex_rI (pc := 9) ev15 dX11_layTakes_9 ?_
  refine ex_iconst (pc := 10) 0 dX11_layTakes_10 rfl ?_
  obtain ⟨q16, eq16, h⟩ := ob_some h
  refine ex_wI (pc := 11) eq16 dX11_layTakes_11 ?_
  refine ex_aload_n (pc := 12) 0 dX11_layTakes_12 rfl rfl ?_
  obtain ⟨v17, ev17, h⟩ := ob_some h
  refine ex_gR (pc := 13) ev17 dX11_layTakes_13 lfX11_7 ?_
  refine ex_iconst (pc := 16) 4 dX11_layTakes_16 rfl ?_
  obtain ⟨v18, ev18, h⟩ := ob_some h
  refine ex_rI (pc := 17) ev18 dX11_layTakes_17 ?_
  refine ex_iconst (pc := 18) 1 dX11_layTakes_18 rfl ?_
  refine ex_isub (pc := 19) dX11_layTakes_19 ?_
  refine ex_istore_n (pc := 20) [(1, .int (v18 - 1)), (0, .ref x0)] dX11_layTakes_20 rfl (by decide) rfl ?_
  refine ex_sub (lo' := [(0, .ref x0), (1, .int (v18 - 1))]) [1, 0] rfl ?_
  exact t_X11_layTakes_21 hd  _ _ _ _ _  h
noncomputable def f_X11_layTakes (x0 : Nat) (M : Mem) : Option (Mem) := if isOb M 11 x0 = true then f_X11_layTakes_0 x0 M else none
theorem o_X11_layTakes {x0 : Nat} {M : Mem} {res : Mem} (h : f_X11_layTakes x0 M = some res) : isO M 11 x0 := by
  unfold f_X11_layTakes at h
  split at h
  · rename_i hc; exact isOb_iff hc
  · cases h
set_option maxHeartbeats 4000000 in
theorem s_X11_layTakes {X : XV} {d : Nat} (hd : 4 ≤ d) {x0 : Nat} {M : Mem} {res : Mem} (h : f_X11_layTakes x0 M = some res) : Mx X d mX11_layTakes [.ref x0] M none res := by
  obtain ⟨d, rfl⟩ : ∃ e, d = e + 1 := ⟨d - 1, by omega⟩
  unfold f_X11_layTakes at h
  split at h
  rotate_left
  · cases h
  refine Mx.of (by decide) (Nat.le_of_ble_eq_true rfl) (rfl) ?_
  exact ex_sub (lo' := [(0, .ref x0)]) [0] rfl (t_X11_layTakes_0 hd _ _ _  h)
noncomputable def f_X11_placesBy_19 (n0 : Nat) (k5 : Nat → Int32 → Int32 → Int32 → Int32 → Mem → Option (Int32)) (x0 : Nat) (x1 : Int32) (x2 : Int32) (x3 : Int32) (x4 : Int32) (x5 : Int32) (M : Mem) : Option (Int32) :=
  match n0 with
  | 0 => none
  | n + 1 =>
    if 2 ≤ x5 then
    (k5 x0 x1 x2 x3 (x4 + 1) M)
    else
    ((f_X11_has x1 x4).bind fun v2 =>
    if v2 = false then
    (f_X11_placesBy_19 n k5 x0 x1 x2 x3 x4 (x5 + 1) M)
    else
    ((f_X11_takesBy x0 x4 x2 x5 M).bind fun v4 =>
    (gR M 11 x0 28).bind fun v5 =>
    (rI M v5 x4).bind fun v6 =>
    if v4 = v6 then
    ((f_X11_ruleOf x0 x2 x5 M).bind fun v8 =>
    (f_X11_goesOn x0 x4 v8 M).bind fun v9 =>
    f_X11_placesBy_19 n k5 x0 x1 x2 (x3 ||| (jshl 1 v9)) x4 (x5 + 1) M)
    else
    (f_X11_placesBy_19 n k5 x0 x1 x2 x3 x4 (x5 + 1) M)))
set_option maxHeartbeats 4000000 in
theorem t_X11_placesBy_19 {X : XV} {d : Nat} (hd : 4 ≤ d + 1) {k5 : Nat → Int32 → Int32 → Int32 → Int32 → Mem → Option (Int32)} (hk5 : ∀ (x0 : Nat) (x1 : Int32) (x2 : Int32) (x3 : Int32) (x4 : Int32) (M : Mem) (res : Int32), k5 x0 x1 x2 x3 x4 M = some res → Ex X (d + 1) mX11_placesBy 5 [(0, .ref x0), (1, .int x1), (2, .int x2), (3, .int x3), (4, .int x4)] [] M (some (.int res)) M) : ∀ (n : Nat) (x0 : Nat) (x1 : Int32) (x2 : Int32) (x3 : Int32) (x4 : Int32) (x5 : Int32) (M : Mem) (res : Int32), f_X11_placesBy_19 n k5 x0 x1 x2 x3 x4 x5 M = some res → Ex X (d + 1) mX11_placesBy 19 [(0, .ref x0), (1, .int x1), (2, .int x2), (3, .int x3), (4, .int x4), (5, .int x5)] [] M (some (.int res)) M := by
  intro n
  induction n with
  | zero =>
    intro x0 x1 x2 x3 x4 x5 M res  h
    unfold f_X11_placesBy_19 at h
    cases h
  | succ n ih =>
    intro x0 x1 x2 x3 x4 x5 M res  h
    unfold f_X11_placesBy_19 at h
    refine ex_iload (pc := 19) 5 dX11_placesBy_19 rfl ?_
    refine ex_iconst (pc := 21) 2 dX11_placesBy_21 rfl ?_
    by_cases c1 : 2 ≤ x5
    · rw [if_pos c1] at h
      refine ex_icmp_ge_t (pc := 22) 77 dX11_placesBy_22 rfl c1 ?_
      refine ex_iinc (pc := 77) (x4 + 1) 4 [(4, .int (x4 + 1)), (0, .ref x0), (1, .int x1), (2, .int x2), (3, .int x3), (5, .int x5)] dX11_placesBy_77 rfl rfl (by decide) rfl ?_
      refine ex_goto (pc := 80) 5 dX11_placesBy_80 rfl ?_
      refine ex_sub (lo' := [(0, .ref x0), (1, .int x1), (2, .int x2), (3, .int x3), (4, .int (x4 + 1))]) [1, 2, 3, 4, 0] rfl ?_
      exact hk5 _ _ _ _ _ _ _  h
    · rw [if_neg c1] at h
      refine ex_icmp_ge_f (pc := 22) dX11_placesBy_22 77 rfl c1 ?_
      refine ex_iload_n (pc := 25) 1 dX11_placesBy_25 rfl rfl ?_
      refine ex_iload (pc := 26) 4 dX11_placesBy_26 rfl ?_
      obtain ⟨v2, ev2, h⟩ := ob_some h
      refine ex_callS2r (pc := 28) dX11_placesBy_28 jX11_has lmX11_269 jsX11_has (Nat.le_of_ble_eq_true rfl) (s_X11_has (by omega)  ev2) ?_
      by_cases c3 : v2 = false
      · rw [if_pos c3] at h
        refine ex_if_eq_t (pc := 31) 71 dX11_placesBy_31 rfl (jz_eq_t c3) ?_
        refine ex_iinc (pc := 71) (x5 + 1) 5 [(5, .int (x5 + 1)), (0, .ref x0), (1, .int x1), (2, .int x2), (3, .int x3), (4, .int x4)] dX11_placesBy_71 rfl rfl (by decide) rfl ?_
        refine ex_goto (pc := 74) 19 dX11_placesBy_74 rfl ?_
        refine ex_sub (lo' := [(0, .ref x0), (1, .int x1), (2, .int x2), (3, .int x3), (4, .int x4), (5, .int (x5 + 1))]) [1, 2, 3, 4, 5, 0] rfl ?_
        exact ih _ _ _ _ _ _ _ _  h
      · rw [if_neg c3] at h
        refine ex_if_eq_f (pc := 31) dX11_placesBy_31 71 rfl (jz_eq_f c3) ?_
        refine ex_aload_n (pc := 34) 0 dX11_placesBy_34 rfl rfl ?_
        refine ex_iload (pc := 35) 4 dX11_placesBy_35 rfl ?_
        refine ex_iload_n (pc := 37) 2 dX11_placesBy_37 rfl rfl ?_
        refine ex_iload (pc := 38) 5 dX11_placesBy_38 rfl ?_
        obtain ⟨v4, ev4, h⟩ := ob_some h
        refine ex_callV3r (pc := 40) dX11_placesBy_40 jX11_takesBy lmX11_455 jiX11_takesBy jvX11_takesBy (o_X11_takesBy ev4) rfl (Nat.le_of_ble_eq_true rfl) (s_X11_takesBy (by omega)  ev4) ?_
        refine ex_aload_n (pc := 43) 0 dX11_placesBy_43 rfl rfl ?_
        obtain ⟨v5, ev5, h⟩ := ob_some h
        refine ex_gR (pc := 44) ev5 dX11_placesBy_44 lfX11_56 ?_
        refine ex_iload (pc := 47) 4 dX11_placesBy_47 rfl ?_
        obtain ⟨v6, ev6, h⟩ := ob_some h
        refine ex_rI (pc := 49) ev6 dX11_placesBy_49 ?_
        by_cases c7 : v4 = v6
        · rw [if_pos c7] at h
          refine ex_icmp_ne_f (pc := 50) dX11_placesBy_50 71 rfl c7 ?_
          refine ex_iload_n (pc := 53) 3 dX11_placesBy_53 rfl rfl ?_
          refine ex_iconst (pc := 54) 1 dX11_placesBy_54 rfl ?_
          refine ex_aload_n (pc := 55) 0 dX11_placesBy_55 rfl rfl ?_
          refine ex_iload (pc := 56) 4 dX11_placesBy_56 rfl ?_
          refine ex_aload_n (pc := 58) 0 dX11_placesBy_58 rfl rfl ?_
          refine ex_iload_n (pc := 59) 2 dX11_placesBy_59 rfl rfl ?_
          refine ex_iload (pc := 60) 5 dX11_placesBy_60 rfl ?_
          obtain ⟨v8, ev8, h⟩ := ob_some h
          refine ex_callV2r (pc := 62) dX11_placesBy_62 jX11_ruleOf lmX11_350 jiX11_ruleOf jvX11_ruleOf (o_X11_ruleOf ev8) rfl (Nat.le_of_ble_eq_true rfl) (s_X11_ruleOf (by omega)  ev8) ?_
          obtain ⟨v9, ev9, h⟩ := ob_some h
          refine ex_callV2r (pc := 65) dX11_placesBy_65 jX11_goesOn lmX11_438 jiX11_goesOn jvX11_goesOn (o_X11_goesOn ev9) rfl (Nat.le_of_ble_eq_true rfl) (s_X11_goesOn (by omega)  ev9) ?_
          refine ex_ishl (pc := 68) dX11_placesBy_68 ?_
          refine ex_ior (pc := 69) dX11_placesBy_69 ?_
          refine ex_istore_n (pc := 70) [(3, .int (x3 ||| (jshl 1 v9))), (0, .ref x0), (1, .int x1), (2, .int x2), (4, .int x4), (5, .int x5)] dX11_placesBy_70 rfl (by decide) rfl ?_
          refine ex_iinc (pc := 71) (x5 + 1) 5 [(5, .int (x5 + 1)), (3, .int (x3 ||| (jshl 1 v9))), (0, .ref x0), (1, .int x1), (2, .int x2), (4, .int x4)] dX11_placesBy_71 rfl rfl (by decide) rfl ?_
          refine ex_goto (pc := 74) 19 dX11_placesBy_74 rfl ?_
          refine ex_sub (lo' := [(0, .ref x0), (1, .int x1), (2, .int x2), (3, .int (x3 ||| (jshl 1 v9))), (4, .int x4), (5, .int (x5 + 1))]) [2, 3, 4, 1, 5, 0] rfl ?_
          exact ih _ _ _ _ _ _ _ _  h
        · rw [if_neg c7] at h
          refine ex_icmp_ne_t (pc := 50) 71 dX11_placesBy_50 rfl c7 ?_
          refine ex_iinc (pc := 71) (x5 + 1) 5 [(5, .int (x5 + 1)), (0, .ref x0), (1, .int x1), (2, .int x2), (3, .int x3), (4, .int x4)] dX11_placesBy_71 rfl rfl (by decide) rfl ?_
          refine ex_goto (pc := 74) 19 dX11_placesBy_74 rfl ?_
          refine ex_sub (lo' := [(0, .ref x0), (1, .int x1), (2, .int x2), (3, .int x3), (4, .int x4), (5, .int (x5 + 1))]) [1, 2, 3, 4, 5, 0] rfl ?_
          exact ih _ _ _ _ _ _ _ _  h
noncomputable def f_X11_placesBy_5 (n0 : Nat) (x0 : Nat) (x1 : Int32) (x2 : Int32) (x3 : Int32) (x4 : Int32) (M : Mem) : Option (Int32) :=
  match n0 with
  | 0 => none
  | n + 1 =>
    (gR M 11 x0 0).bind fun v10 =>
    (rI M v10 4).bind fun v11 =>
    if v11 ≤ x4 then
    (some x3)
    else
    (f_X11_placesBy_19 fu (f_X11_placesBy_5 n) x0 x1 x2 x3 x4 0 M)
set_option maxHeartbeats 4000000 in
theorem t_X11_placesBy_5 {X : XV} {d : Nat} (hd : 4 ≤ d + 1) : ∀ (n : Nat) (x0 : Nat) (x1 : Int32) (x2 : Int32) (x3 : Int32) (x4 : Int32) (M : Mem) (res : Int32), f_X11_placesBy_5 n  x0 x1 x2 x3 x4 M = some res → Ex X (d + 1) mX11_placesBy 5 [(0, .ref x0), (1, .int x1), (2, .int x2), (3, .int x3), (4, .int x4)] [] M (some (.int res)) M := by
  intro n
  induction n with
  | zero =>
    intro x0 x1 x2 x3 x4 M res  h
    unfold f_X11_placesBy_5 at h
    cases h
  | succ n ih =>
    intro x0 x1 x2 x3 x4 M res  h
    unfold f_X11_placesBy_5 at h
    refine ex_iload (pc := 5) 4 dX11_placesBy_5 rfl ?_
    refine ex_aload_n (pc := 7) 0 dX11_placesBy_7 rfl rfl ?_
    obtain ⟨v10, ev10, h⟩ := ob_some h
    refine ex_gR (pc := 8) ev10 dX11_placesBy_8 lfX11_7 ?_
    refine ex_iconst (pc := 11) 4 dX11_placesBy_11 rfl ?_
    obtain ⟨v11, ev11, h⟩ := ob_some h
    refine ex_rI (pc := 12) ev11 dX11_placesBy_12 ?_
    by_cases c12 : v11 ≤ x4
    · rw [if_pos c12] at h
      refine ex_icmp_ge_t (pc := 13) 83 dX11_placesBy_13 rfl c12 ?_
      refine ex_iload_n (pc := 83) 3 dX11_placesBy_83 rfl rfl ?_
      cases h
      exact ex_ireturn (pc := 84) dX11_placesBy_84
    · rw [if_neg c12] at h
      refine ex_icmp_ge_f (pc := 13) dX11_placesBy_13 83 rfl c12 ?_
      refine ex_iconst (pc := 16) 0 dX11_placesBy_16 rfl ?_
      refine ex_istore (pc := 17) [(5, .int 0), (0, .ref x0), (1, .int x1), (2, .int x2), (3, .int x3), (4, .int x4)] dX11_placesBy_17 (by decide) rfl ?_
      refine ex_sub (lo' := [(0, .ref x0), (1, .int x1), (2, .int x2), (3, .int x3), (4, .int x4), (5, .int 0)]) [1, 2, 3, 4, 5, 0] rfl ?_
      exact t_X11_placesBy_19 hd ih _ _ _ _ _ _ _ _ _  h
noncomputable def f_X11_placesBy_0 (x0 : Nat) (x1 : Int32) (x2 : Int32) (M : Mem) : Option (Int32) :=
  f_X11_placesBy_5 fu x0 x1 x2 0 0 M
set_option maxHeartbeats 4000000 in
theorem t_X11_placesBy_0 {X : XV} {d : Nat} (hd : 4 ≤ d + 1) : ∀ (x0 : Nat) (x1 : Int32) (x2 : Int32) (M : Mem) (res : Int32), f_X11_placesBy_0  x0 x1 x2 M = some res → Ex X (d + 1) mX11_placesBy 0 [(0, .ref x0), (1, .int x1), (2, .int x2)] [] M (some (.int res)) M := by
  intro x0 x1 x2 M res  h
  unfold f_X11_placesBy_0 at h
  refine ex_iconst (pc := 0) 0 dX11_placesBy_0 rfl ?_
  refine ex_istore_n (pc := 1) [(3, .int 0), (0, .ref x0), (1, .int x1), (2, .int x2)] dX11_placesBy_1 rfl (by decide) rfl ?_
  refine ex_iconst (pc := 2) 0 dX11_placesBy_2 rfl ?_
  refine ex_istore (pc := 3) [(4, .int 0), (3, .int 0), (0, .ref x0), (1, .int x1), (2, .int x2)] dX11_placesBy_3 (by decide) rfl ?_
  refine ex_sub (lo' := [(0, .ref x0), (1, .int x1), (2, .int x2), (3, .int 0), (4, .int 0)]) [2, 3, 4, 1, 0] rfl ?_
  exact t_X11_placesBy_5 hd  _ _ _ _ _ _ _ _  h
noncomputable def f_X11_placesBy (x0 : Nat) (x1 : Int32) (x2 : Int32) (M : Mem) : Option (Int32) := if isOb M 11 x0 = true then f_X11_placesBy_0 x0 x1 x2 M else none
theorem o_X11_placesBy {x0 : Nat} {x1 : Int32} {x2 : Int32} {M : Mem} {res : Int32} (h : f_X11_placesBy x0 x1 x2 M = some res) : isO M 11 x0 := by
  unfold f_X11_placesBy at h
  split at h
  · rename_i hc; exact isOb_iff hc
  · cases h
set_option maxHeartbeats 4000000 in
theorem s_X11_placesBy {X : XV} {d : Nat} (hd : 4 ≤ d) {x0 : Nat} {x1 : Int32} {x2 : Int32} {M : Mem} {res : Int32} (h : f_X11_placesBy x0 x1 x2 M = some res) : Mx X d mX11_placesBy [.ref x0, .int x1, .int x2] M (some (.int res)) M := by
  obtain ⟨d, rfl⟩ : ∃ e, d = e + 1 := ⟨d - 1, by omega⟩
  unfold f_X11_placesBy at h
  split at h
  rotate_left
  · cases h
  refine Mx.of (by decide) (Nat.le_of_ble_eq_true rfl) (⟨_, rfl, rfl⟩) ?_
  exact ex_sub (lo' := [(0, .ref x0), (1, .int x1), (2, .int x2)]) [0, 1, 2] rfl (t_X11_placesBy_0 hd _ _ _ _ _  h)
noncomputable def f_X11_layRow_68 (x0 : Nat) (M : Mem) : Option (Int32 × Mem) :=
  (gR M 11 x0 29).bind fun v1 =>
  (rI M v1 0).bind fun v2 =>
  if 10 ≤ v2 then
  (some ((-1), M))
  else
  (some (1, M))
set_option maxHeartbeats 4000000 in
theorem t_X11_layRow_68 {X : XV} {d : Nat} (hd : 5 ≤ d + 1) : ∀ (x0 : Nat) (M : Mem) (res : Int32 × Mem), f_X11_layRow_68  x0 M = some res → Ex X (d + 1) mX11_layRow 68 [(0, .ref x0)] [] M (some (.int res.1)) res.2 := by
  intro x0 M res  h
  unfold f_X11_layRow_68 at h
  refine ex_aload_n (pc := 68) 0 dX11_layRow_68 rfl rfl ?_
  obtain ⟨v1, ev1, h⟩ := ob_some h
  refine ex_gR (pc := 69) ev1 dX11_layRow_69 lfX11_59 ?_
  refine ex_iconst (pc := 72) 0 dX11_layRow_72 rfl ?_
  obtain ⟨v2, ev2, h⟩ := ob_some h
  refine ex_rI (pc := 73) ev2 dX11_layRow_73 ?_
  refine ex_bipush (pc := 74) 10 dX11_layRow_74 (by decide) ?_
  by_cases c3 : 10 ≤ v2
  · rw [if_pos c3] at h
    refine ex_icmp_ge_t (pc := 76) 83 dX11_layRow_76 rfl c3 ?_
    refine ex_iconst (pc := 83) (-1) dX11_layRow_83 rfl ?_
    cases h
    exact ex_ireturn (pc := 84) dX11_layRow_84
  · rw [if_neg c3] at h
    refine ex_icmp_ge_f (pc := 76) dX11_layRow_76 83 rfl c3 ?_
    refine ex_iconst (pc := 79) 1 dX11_layRow_79 rfl ?_
    refine ex_goto (pc := 80) 84 dX11_layRow_80 rfl ?_
    cases h
    exact ex_ireturn (pc := 84) dX11_layRow_84
noncomputable def f_X11_layRow_16 (n0 : Nat) (x0 : Nat) (M : Mem) : Option (Int32 × Mem) :=
  match n0 with
  | 0 => none
  | n + 1 =>
    (gR M 11 x0 29).bind fun v4 =>
    (rI M v4 0).bind fun v5 =>
    if 10 ≤ v5 then
    (f_X11_layRow_68 x0 M)
    else
    ((gR M 11 x0 29).bind fun v7 =>
    (rI M v7 0).bind fun v8 =>
    (f_X11_ruleOf x0 v8 0 M).bind fun v9 =>
    if v9 = 0 then
    (f_X11_layRow_68 x0 M)
    else
    ((gR M 11 x0 29).bind fun v11 =>
    (rI M v11 0).bind fun v12 =>
    (f_X11_ruleOf x0 v12 1 M).bind fun v13 =>
    if v13 = 0 then
    (f_X11_layRow_68 x0 M)
    else
    ((gR M 11 x0 29).bind fun v15 =>
    (rI M v15 0).bind fun v16 =>
    (wI M v15 0 (v16 + 1)).bind fun q17 =>
    f_X11_layRow_16 n x0 q17)))
set_option maxHeartbeats 4000000 in
theorem t_X11_layRow_16 {X : XV} {d : Nat} (hd : 5 ≤ d + 1) : ∀ (n : Nat) (x0 : Nat) (M : Mem) (res : Int32 × Mem), f_X11_layRow_16 n  x0 M = some res → Ex X (d + 1) mX11_layRow 16 [(0, .ref x0)] [] M (some (.int res.1)) res.2 := by
  intro n
  induction n with
  | zero =>
    intro x0 M res  h
    unfold f_X11_layRow_16 at h
    cases h
  | succ n ih =>
    intro x0 M res  h
    unfold f_X11_layRow_16 at h
    refine ex_aload_n (pc := 16) 0 dX11_layRow_16 rfl rfl ?_
    obtain ⟨v4, ev4, h⟩ := ob_some h
    refine ex_gR (pc := 17) ev4 dX11_layRow_17 lfX11_59 ?_
    refine ex_iconst (pc := 20) 0 dX11_layRow_20 rfl ?_
    obtain ⟨v5, ev5, h⟩ := ob_some h
    refine ex_rI (pc := 21) ev5 dX11_layRow_21 ?_
    refine ex_bipush (pc := 22) 10 dX11_layRow_22 (by decide) ?_
    by_cases c6 : 10 ≤ v5
    · rw [if_pos c6] at h
      refine ex_icmp_ge_t (pc := 24) 68 dX11_layRow_24 rfl c6 ?_
      refine ex_sub (lo' := [(0, .ref x0)]) [0] rfl ?_
      exact t_X11_layRow_68 hd  _ _ _  h
    · rw [if_neg c6] at h
      refine ex_icmp_ge_f (pc := 24) dX11_layRow_24 68 rfl c6 ?_
      refine ex_aload_n (pc := 27) 0 dX11_layRow_27 rfl rfl ?_
      refine ex_aload_n (pc := 28) 0 dX11_layRow_28 rfl rfl ?_
      obtain ⟨v7, ev7, h⟩ := ob_some h
      refine ex_gR (pc := 29) ev7 dX11_layRow_29 lfX11_59 ?_
      refine ex_iconst (pc := 32) 0 dX11_layRow_32 rfl ?_
      obtain ⟨v8, ev8, h⟩ := ob_some h
      refine ex_rI (pc := 33) ev8 dX11_layRow_33 ?_
      refine ex_iconst (pc := 34) 0 dX11_layRow_34 rfl ?_
      obtain ⟨v9, ev9, h⟩ := ob_some h
      refine ex_callV2r (pc := 35) dX11_layRow_35 jX11_ruleOf lmX11_350 jiX11_ruleOf jvX11_ruleOf (o_X11_ruleOf ev9) rfl (Nat.le_of_ble_eq_true rfl) (s_X11_ruleOf (by omega)  ev9) ?_
      by_cases c10 : v9 = 0
      · rw [if_pos c10] at h
        refine ex_if_eq_t (pc := 38) 68 dX11_layRow_38 rfl c10 ?_
        refine ex_sub (lo' := [(0, .ref x0)]) [0] rfl ?_
        exact t_X11_layRow_68 hd  _ _ _  h
      · rw [if_neg c10] at h
        refine ex_if_eq_f (pc := 38) dX11_layRow_38 68 rfl c10 ?_
        refine ex_aload_n (pc := 41) 0 dX11_layRow_41 rfl rfl ?_
        refine ex_aload_n (pc := 42) 0 dX11_layRow_42 rfl rfl ?_
        obtain ⟨v11, ev11, h⟩ := ob_some h
        refine ex_gR (pc := 43) ev11 dX11_layRow_43 lfX11_59 ?_
        refine ex_iconst (pc := 46) 0 dX11_layRow_46 rfl ?_
        obtain ⟨v12, ev12, h⟩ := ob_some h
        refine ex_rI (pc := 47) ev12 dX11_layRow_47 ?_
        refine ex_iconst (pc := 48) 1 dX11_layRow_48 rfl ?_
        obtain ⟨v13, ev13, h⟩ := ob_some h
        refine ex_callV2r (pc := 49) dX11_layRow_49 jX11_ruleOf lmX11_350 jiX11_ruleOf jvX11_ruleOf (o_X11_ruleOf ev13) rfl (Nat.le_of_ble_eq_true rfl) (s_X11_ruleOf (by omega)  ev13) ?_
        by_cases c14 : v13 = 0
        · rw [if_pos c14] at h
          refine ex_if_eq_t (pc := 52) 68 dX11_layRow_52 rfl c14 ?_
          refine ex_sub (lo' := [(0, .ref x0)]) [0] rfl ?_
          exact t_X11_layRow_68 hd  _ _ _  h
        · rw [if_neg c14] at h
          refine ex_if_eq_f (pc := 52) dX11_layRow_52 68 rfl c14 ?_
          refine ex_aload_n (pc := 55) 0 dX11_layRow_55 rfl rfl ?_
          obtain ⟨v15, ev15, h⟩ := ob_some h
          refine ex_gR (pc := 56) ev15 dX11_layRow_56 lfX11_59 ?_
          refine ex_iconst (pc := 59) 0 dX11_layRow_59 rfl ?_
          refine ex_dup2 (pc := 60) dX11_layRow_60 rfl rfl ?_
          obtain ⟨v16, ev16, h⟩ := ob_some h
          refine ex_rI (pc := 61) ev16 dX11_layRow_61 ?_
          refine ex_iconst (pc := 62) 1 dX11_layRow_62 rfl ?_
          refine ex_iadd (pc := 63) dX11_layRow_63 ?_
          obtain ⟨q17, eq17, h⟩ := ob_some h
          refine ex_wI (pc := 64) eq17 dX11_layRow_64 ?_
          refine ex_goto (pc := 65) 16 dX11_layRow_65 rfl ?_
          refine ex_sub (lo' := [(0, .ref x0)]) [0] rfl ?_
          exact ih _ _ _  h
noncomputable def f_X11_layRow_119 (n0 : Nat) (k107 : Nat → Int32 → Int32 → Mem → Option (Int32 × Mem)) (x0 : Nat) (x1 : Int32) (x2 : Int32) (x3 : Int32) (M : Mem) : Option (Int32 × Mem) :=
  match n0 with
  | 0 => none
  | n + 1 =>
    (f_X11_placesBy x0 x1 x3 M).bind fun v18 =>
    if v18 = 0 then
    (f_X11_layRow_119 n k107 x0 x1 x2 (x3 + 1) M)
    else
    ((gR M 11 x0 29).bind fun v20 =>
    (wI M v20 x2 x3).bind fun q21 =>
    (f_X11_placesBy x0 x1 x3 q21).bind fun v22 =>
    k107 x0 v22 (x2 + 1) q21)
set_option maxHeartbeats 4000000 in
theorem t_X11_layRow_119 {X : XV} {d : Nat} (hd : 5 ≤ d + 1) {k107 : Nat → Int32 → Int32 → Mem → Option (Int32 × Mem)} (hk107 : ∀ (x0 : Nat) (x1 : Int32) (x2 : Int32) (M : Mem) (res : Int32 × Mem), k107 x0 x1 x2 M = some res → Ex X (d + 1) mX11_layRow 107 [(0, .ref x0), (1, .int x1), (2, .int x2)] [] M (some (.int res.1)) res.2) : ∀ (n : Nat) (x0 : Nat) (x1 : Int32) (x2 : Int32) (x3 : Int32) (M : Mem) (res : Int32 × Mem), f_X11_layRow_119 n k107 x0 x1 x2 x3 M = some res → Ex X (d + 1) mX11_layRow 119 [(0, .ref x0), (1, .int x1), (2, .int x2), (3, .int x3)] [] M (some (.int res.1)) res.2 := by
  intro n
  induction n with
  | zero =>
    intro x0 x1 x2 x3 M res  h
    unfold f_X11_layRow_119 at h
    cases h
  | succ n ih =>
    intro x0 x1 x2 x3 M res  h
    unfold f_X11_layRow_119 at h
    refine ex_aload_n (pc := 119) 0 dX11_layRow_119 rfl rfl ?_
    refine ex_iload_n (pc := 120) 1 dX11_layRow_120 rfl rfl ?_
    refine ex_iload_n (pc := 121) 3 dX11_layRow_121 rfl rfl ?_
    obtain ⟨v18, ev18, h⟩ := ob_some h
    refine ex_callV2r (pc := 122) dX11_layRow_122 jX11_placesBy lmX11_461 jiX11_placesBy jvX11_placesBy (o_X11_placesBy ev18) rfl (Nat.le_of_ble_eq_true rfl) (s_X11_placesBy (by omega)  ev18) ?_
    by_cases c19 : v18 = 0
    · rw [if_pos c19] at h
      refine ex_if_ne_f (pc := 125) dX11_layRow_125 134 rfl c19 ?_
      refine ex_iinc (pc := 128) (x3 + 1) 3 [(3, .int (x3 + 1)), (0, .ref x0), (1, .int x1), (2, .int x2)] dX11_layRow_128 rfl rfl (by decide) rfl ?_
      refine ex_goto (pc := 131) 119 dX11_layRow_131 rfl ?_
      refine ex_sub (lo' := [(0, .ref x0), (1, .int x1), (2, .int x2), (3, .int (x3 + 1))]) [1, 2, 3, 0] rfl ?_
      exact ih _ _ _ _ _ _  h
    · rw [if_neg c19] at h
      refine ex_if_ne_t (pc := 125) 134 dX11_layRow_125 rfl c19 ?_
      refine ex_aload_n (pc := 134) 0 dX11_layRow_134 rfl rfl ?_
      obtain ⟨v20, ev20, h⟩ := ob_some h
      refine ex_gR (pc := 135) ev20 dX11_layRow_135 lfX11_59 ?_
      refine ex_iload_n (pc := 138) 2 dX11_layRow_138 rfl rfl ?_
      refine ex_iload_n (pc := 139) 3 dX11_layRow_139 rfl rfl ?_
      obtain ⟨q21, eq21, h⟩ := ob_some h
      refine ex_wI (pc := 140) eq21 dX11_layRow_140 ?_
      refine ex_aload_n (pc := 141) 0 dX11_layRow_141 rfl rfl ?_
      refine ex_iload_n (pc := 142) 1 dX11_layRow_142 rfl rfl ?_
      refine ex_iload_n (pc := 143) 3 dX11_layRow_143 rfl rfl ?_
      obtain ⟨v22, ev22, h⟩ := ob_some h
      refine ex_callV2r (pc := 144) dX11_layRow_144 jX11_placesBy lmX11_461 jiX11_placesBy jvX11_placesBy (o_X11_placesBy ev22) rfl (Nat.le_of_ble_eq_true rfl) (s_X11_placesBy (by omega)  ev22) ?_
      refine ex_istore_n (pc := 147) [(1, .int v22), (0, .ref x0), (2, .int x2), (3, .int x3)] dX11_layRow_147 rfl (by decide) rfl ?_
      refine ex_iinc (pc := 148) (x2 + 1) 2 [(2, .int (x2 + 1)), (1, .int v22), (0, .ref x0), (3, .int x3)] dX11_layRow_148 rfl rfl (by decide) rfl ?_
      refine ex_goto (pc := 151) 107 dX11_layRow_151 rfl ?_
      refine ex_sub (lo' := [(0, .ref x0), (1, .int v22), (2, .int (x2 + 1))]) [2, 1, 0] rfl ?_
      exact hk107 _ _ _ _ _  h
noncomputable def f_X11_layRow_107 (n0 : Nat) (x0 : Nat) (x1 : Int32) (x2 : Int32) (M : Mem) : Option (Int32 × Mem) :=
  match n0 with
  | 0 => none
  | n + 1 =>
    (gR M 11 x0 28).bind fun v23 =>
    (rI M v23 0).bind fun v24 =>
    if v24 ≤ x2 then
    ((gR M 11 x0 28).bind fun v26 =>
    (rI M v26 0).bind fun v27 =>
    some (v27, M))
    else
    (f_X11_layRow_119 fu (f_X11_layRow_107 n) x0 x1 x2 0 M)
set_option maxHeartbeats 4000000 in
theorem t_X11_layRow_107 {X : XV} {d : Nat} (hd : 5 ≤ d + 1) : ∀ (n : Nat) (x0 : Nat) (x1 : Int32) (x2 : Int32) (M : Mem) (res : Int32 × Mem), f_X11_layRow_107 n  x0 x1 x2 M = some res → Ex X (d + 1) mX11_layRow 107 [(0, .ref x0), (1, .int x1), (2, .int x2)] [] M (some (.int res.1)) res.2 := by
  intro n
  induction n with
  | zero =>
    intro x0 x1 x2 M res  h
    unfold f_X11_layRow_107 at h
    cases h
  | succ n ih =>
    intro x0 x1 x2 M res  h
    unfold f_X11_layRow_107 at h
    refine ex_iload_n (pc := 107) 2 dX11_layRow_107 rfl rfl ?_
    refine ex_aload_n (pc := 108) 0 dX11_layRow_108 rfl rfl ?_
    obtain ⟨v23, ev23, h⟩ := ob_some h
    refine ex_gR (pc := 109) ev23 dX11_layRow_109 lfX11_56 ?_
    refine ex_iconst (pc := 112) 0 dX11_layRow_112 rfl ?_
    obtain ⟨v24, ev24, h⟩ := ob_some h
    refine ex_rI (pc := 113) ev24 dX11_layRow_113 ?_
    by_cases c25 : v24 ≤ x2
    · rw [if_pos c25] at h
      refine ex_icmp_ge_t (pc := 114) 154 dX11_layRow_114 rfl c25 ?_
      refine ex_aload_n (pc := 154) 0 dX11_layRow_154 rfl rfl ?_
      obtain ⟨v26, ev26, h⟩ := ob_some h
      refine ex_gR (pc := 155) ev26 dX11_layRow_155 lfX11_56 ?_
      refine ex_iconst (pc := 158) 0 dX11_layRow_158 rfl ?_
      obtain ⟨v27, ev27, h⟩ := ob_some h
      refine ex_rI (pc := 159) ev27 dX11_layRow_159 ?_
      cases h
      exact ex_ireturn (pc := 160) dX11_layRow_160
    · rw [if_neg c25] at h
      refine ex_icmp_ge_f (pc := 114) dX11_layRow_114 154 rfl c25 ?_
      refine ex_iconst (pc := 117) 0 dX11_layRow_117 rfl ?_
      refine ex_istore_n (pc := 118) [(3, .int 0), (0, .ref x0), (1, .int x1), (2, .int x2)] dX11_layRow_118 rfl (by decide) rfl ?_
      refine ex_sub (lo' := [(0, .ref x0), (1, .int x1), (2, .int x2), (3, .int 0)]) [1, 2, 3, 0] rfl ?_
      exact t_X11_layRow_119 hd ih _ _ _ _ _ _ _  h
noncomputable def f_X11_layRow_0 (x0 : Nat) (M : Mem) : Option (Int32 × Mem) :=
  (gR M 11 x0 0).bind fun v28 =>
  (rI M v28 4).bind fun v29 =>
  if v29 = 0 then
  ((gR M 11 x0 29).bind fun v35 =>
  (wI M v35 0 0).bind fun q36 =>
  f_X11_layRow_16 fu x0 q36)
  else
  ((f_X11_layTakes x0 M).bind fun q31 =>
  (gR q31 11 x0 28).bind fun v32 =>
  (rI q31 v32 0).bind fun v33 =>
  if v33 < 1000000000 then
  (f_X11_layRow_107 fu x0 1 0 q31)
  else
  (some ((-1), q31)))
set_option maxHeartbeats 4000000 in
theorem t_X11_layRow_0 {X : XV} {d : Nat} (hd : 5 ≤ d + 1) : ∀ (x0 : Nat) (M : Mem) (res : Int32 × Mem), f_X11_layRow_0  x0 M = some res → Ex X (d + 1) mX11_layRow 0 [(0, .ref x0)] [] M (some (.int res.1)) res.2 := by
  intro x0 M res  h
  unfold f_X11_layRow_0 at h
  refine ex_aload_n (pc := 0) 0 dX11_layRow_0 rfl rfl ?_
  obtain ⟨v28, ev28, h⟩ := ob_some h
  refine ex_gR (pc := 1) ev28 dX11_layRow_1 lfX11_7 ?_
  refine ex_iconst (pc := 4) 4 dX11_layRow_4 rfl ?_
  obtain ⟨v29, ev29, h⟩ := ob_some h
  refine ex_rI (pc := 5) ev29 dX11_layRow_5 ?_
  by_cases c30 : v29 = 0
  · rw [if_pos c30] at h
    refine ex_if_ne_f (pc := 6) dX11_layRow_6 85 rfl c30 ?_
    refine ex_aload_n (pc := 9) 0 dX11_layRow_9 rfl rfl ?_
    obtain ⟨v35, ev35, h⟩ := ob_some h
    refine ex_gR (pc := 10) ev35 dX11_layRow_10 lfX11_59 ?_
    refine ex_iconst (pc := 13) 0 dX11_layRow_13 rfl ?_
    refine ex_iconst (pc := 14) 0 dX11_layRow_14 rfl ?_
    obtain ⟨q36, eq36, h⟩ := ob_some h
    refine ex_wI (pc := 15) eq36 dX11_layRow_15 ?_
    refine ex_sub (lo' := [(0, .ref x0)]) [0] rfl ?_
    exact t_X11_layRow_16 hd  _ _ _ _  h
  · rw [if_neg c30] at h
    refine ex_if_ne_t (pc := 6) 85 dX11_layRow_6 rfl c30 ?_
    refine ex_aload_n (pc := 85) 0 dX11_layRow_85 rfl rfl ?_
    obtain ⟨q31, eq31, h⟩ := ob_some h
    refine ex_callV0v (pc := 86) dX11_layRow_86 jX11_layTakes lmX11_458 jiX11_layTakes jvX11_layTakes (o_X11_layTakes eq31) rfl (Nat.le_of_ble_eq_true rfl) (s_X11_layTakes (by omega)  eq31) ?_
    refine ex_aload_n (pc := 89) 0 dX11_layRow_89 rfl rfl ?_
    obtain ⟨v32, ev32, h⟩ := ob_some h
    refine ex_gR (pc := 90) ev32 dX11_layRow_90 lfX11_56 ?_
    refine ex_iconst (pc := 93) 0 dX11_layRow_93 rfl ?_
    obtain ⟨v33, ev33, h⟩ := ob_some h
    refine ex_rI (pc := 94) ev33 dX11_layRow_94 ?_
    refine ex_ldcw (pc := 95) dX11_layRow_95 lkX11_454 ?_
    by_cases c34 : v33 < 1000000000
    · rw [if_pos c34] at h
      refine ex_icmp_lt_t (pc := 98) 103 dX11_layRow_98 rfl c34 ?_
      refine ex_iconst (pc := 103) 1 dX11_layRow_103 rfl ?_
      refine ex_istore_n (pc := 104) [(1, .int 1), (0, .ref x0)] dX11_layRow_104 rfl (by decide) rfl ?_
      refine ex_iconst (pc := 105) 0 dX11_layRow_105 rfl ?_
      refine ex_istore_n (pc := 106) [(2, .int 0), (1, .int 1), (0, .ref x0)] dX11_layRow_106 rfl (by decide) rfl ?_
      refine ex_sub (lo' := [(0, .ref x0), (1, .int 1), (2, .int 0)]) [2, 1, 0] rfl ?_
      exact t_X11_layRow_107 hd  _ _ _ _ _ _  h
    · rw [if_neg c34] at h
      refine ex_icmp_lt_f (pc := 98) dX11_layRow_98 103 rfl c34 ?_
      refine ex_iconst (pc := 101) (-1) dX11_layRow_101 rfl ?_
      cases h
      exact ex_ireturn (pc := 102) dX11_layRow_102
noncomputable def f_X11_layRow (x0 : Nat) (M : Mem) : Option (Int32 × Mem) := if isOb M 11 x0 = true then f_X11_layRow_0 x0 M else none
theorem o_X11_layRow {x0 : Nat} {M : Mem} {res : Int32 × Mem} (h : f_X11_layRow x0 M = some res) : isO M 11 x0 := by
  unfold f_X11_layRow at h
  split at h
  · rename_i hc; exact isOb_iff hc
  · cases h
set_option maxHeartbeats 4000000 in
theorem s_X11_layRow {X : XV} {d : Nat} (hd : 5 ≤ d) {x0 : Nat} {M : Mem} {res : Int32 × Mem} (h : f_X11_layRow x0 M = some res) : Mx X d mX11_layRow [.ref x0] M (some (.int res.1)) res.2 := by
  obtain ⟨d, rfl⟩ : ∃ e, d = e + 1 := ⟨d - 1, by omega⟩
  unfold f_X11_layRow at h
  split at h
  rotate_left
  · cases h
  refine Mx.of (by decide) (Nat.le_of_ble_eq_true rfl) (⟨_, rfl, rfl⟩) ?_
  exact ex_sub (lo' := [(0, .ref x0)]) [0] rfl (t_X11_layRow_0 hd _ _ _  h)
noncomputable def f_X11_add_0 (x0 : Nat) (x1 : Int32) (M : Mem) : Option (Int32 × Mem) :=
  (f_X11_layRow x0 M).bind fun q1 =>
  if q1.1 = (-1) then
  (some ((-2), q1.2))
  else
  ((f_X11_isIn x1 (-1) (q1.1 - 1)).bind fun v3 =>
  if v3 = true then
  (if x1 = (-1) then
  (some (q1.1, q1.2))
  else
  ((gR q1.2 11 x0 29).bind fun v6 =>
  (rI q1.2 v6 x1).bind fun v7 =>
  some (v7, q1.2)))
  else
  (some ((-2), q1.2)))
set_option maxHeartbeats 4000000 in
theorem t_X11_add_0 {X : XV} {d : Nat} (hd : 6 ≤ d + 1) : ∀ (x0 : Nat) (x1 : Int32) (M : Mem) (res : Int32 × Mem), f_X11_add_0  x0 x1 M = some res → Ex X (d + 1) mX11_add 0 [(0, .ref x0), (1, .int x1)] [] M (some (.int res.1)) res.2 := by
  intro x0 x1 M res  h
  unfold f_X11_add_0 at h
  refine ex_aload_n (pc := 0) 0 dX11_add_0 rfl rfl ?_
  obtain ⟨q1, eq1, h⟩ := ob_some h
  refine ex_callV0r (pc := 1) dX11_add_1 jX11_layRow lmX11_464 jiX11_layRow jvX11_layRow (o_X11_layRow eq1) rfl (Nat.le_of_ble_eq_true rfl) (s_X11_layRow (by omega)  eq1) ?_
  refine ex_istore_n (pc := 4) [(2, .int q1.1), (0, .ref x0), (1, .int x1)] dX11_add_4 rfl (by decide) rfl ?_
  refine ex_iload_n (pc := 5) 0 dX11_add_5 rfl rfl ?_
  refine ex_iconst (pc := 6) (-1) dX11_add_6 rfl ?_
  by_cases c2 : q1.1 = (-1)
  · rw [if_pos c2] at h
    refine ex_icmp_eq_t (pc := 7) 21 dX11_add_7 rfl c2 ?_
    refine ex_bipush (pc := 21) (-2) dX11_add_21 (by decide) ?_
    cases h
    exact ex_ireturn (pc := 23) dX11_add_23
  · rw [if_neg c2] at h
    refine ex_icmp_eq_f (pc := 7) dX11_add_7 21 rfl c2 ?_
    refine ex_iload_n (pc := 10) 2 dX11_add_10 rfl rfl ?_
    refine ex_iconst (pc := 11) (-1) dX11_add_11 rfl ?_
    refine ex_iload_n (pc := 12) 0 dX11_add_12 rfl rfl ?_
    refine ex_iconst (pc := 13) 1 dX11_add_13 rfl ?_
    refine ex_isub (pc := 14) dX11_add_14 ?_
    obtain ⟨v3, ev3, h⟩ := ob_some h
    refine ex_callS3r (pc := 15) dX11_add_15 jX11_isIn lmX11_87 jsX11_isIn (Nat.le_of_ble_eq_true rfl) (s_X11_isIn (by omega)  ev3) ?_
    by_cases c4 : v3 = true
    · rw [if_pos c4] at h
      refine ex_if_ne_t (pc := 18) 24 dX11_add_18 rfl (jz_ne_t c4) ?_
      refine ex_iload_n (pc := 24) 2 dX11_add_24 rfl rfl ?_
      refine ex_iconst (pc := 25) (-1) dX11_add_25 rfl ?_
      by_cases c5 : x1 = (-1)
      · rw [if_pos c5] at h
        refine ex_icmp_ne_f (pc := 26) dX11_add_26 33 rfl c5 ?_
        refine ex_iload_n (pc := 29) 0 dX11_add_29 rfl rfl ?_
        refine ex_goto (pc := 30) 39 dX11_add_30 rfl ?_
        cases h
        exact ex_ireturn (pc := 39) dX11_add_39
      · rw [if_neg c5] at h
        refine ex_icmp_ne_t (pc := 26) 33 dX11_add_26 rfl c5 ?_
        refine ex_aload_n (pc := 33) 1 dX11_add_33 rfl rfl ?_
        obtain ⟨v6, ev6, h⟩ := ob_some h
        refine ex_gR (pc := 34) ev6 dX11_add_34 lfX11_59 ?_
        refine ex_iload_n (pc := 37) 2 dX11_add_37 rfl rfl ?_
        obtain ⟨v7, ev7, h⟩ := ob_some h
        refine ex_rI (pc := 38) ev7 dX11_add_38 ?_
        cases h
        exact ex_ireturn (pc := 39) dX11_add_39
    · rw [if_neg c4] at h
      refine ex_if_ne_f (pc := 18) dX11_add_18 24 rfl (jz_ne_f c4) ?_
      refine ex_bipush (pc := 21) (-2) dX11_add_21 (by decide) ?_
      cases h
      exact ex_ireturn (pc := 23) dX11_add_23
noncomputable def f_X11_add (x0 : Nat) (x1 : Int32) (M : Mem) : Option (Int32 × Mem) := if isOb M 11 x0 = true then f_X11_add_0 x0 x1 M else none
theorem o_X11_add {x0 : Nat} {x1 : Int32} {M : Mem} {res : Int32 × Mem} (h : f_X11_add x0 x1 M = some res) : isO M 11 x0 := by
  unfold f_X11_add at h
  split at h
  · rename_i hc; exact isOb_iff hc
  · cases h
set_option maxHeartbeats 4000000 in
theorem s_X11_add {X : XV} {d : Nat} (hd : 6 ≤ d) {x0 : Nat} {x1 : Int32} {M : Mem} {res : Int32 × Mem} (h : f_X11_add x0 x1 M = some res) : Mx X d mX11_add [.ref x0, .int x1] M (some (.int res.1)) res.2 := by
  obtain ⟨d, rfl⟩ : ∃ e, d = e + 1 := ⟨d - 1, by omega⟩
  unfold f_X11_add at h
  split at h
  rotate_left
  · cases h
  refine Mx.of (by decide) (Nat.le_of_ble_eq_true rfl) (⟨_, rfl, rfl⟩) ?_
  exact ex_sub (lo' := [(0, .ref x0), (1, .int x1)]) [0, 1] rfl (t_X11_add_0 hd _ _ _ _  h)
noncomputable def f_X11_duet_170 (k38 : Nat → Int32 → Int32 → Int32 → Mem → Option (Int32 × Mem)) (k49 : Nat → Int32 → Int32 → Int32 → Int32 → Mem → Option (Int32 × Mem)) (x0 : Nat) (x1 : Int32) (x2 : Int32) (x3 : Int32) (x4 : Int32) (x5 : Int32) (M : Mem) : Option (Int32 × Mem) :=
  (gR M 11 x0 30).bind fun v1 =>
  (wI M v1 ((13 * x3) + x4) x5).bind fun q2 =>
  k49 x0 x1 x2 x3 (x4 + 1) q2
set_option maxHeartbeats 4000000 in
theorem t_X11_duet_170 {X : XV} {d : Nat} (hd : 3 ≤ d + 1) {k38 : Nat → Int32 → Int32 → Int32 → Mem → Option (Int32 × Mem)} (hk38 : ∀ (x0 : Nat) (x1 : Int32) (x2 : Int32) (x3 : Int32) (M : Mem) (res : Int32 × Mem), k38 x0 x1 x2 x3 M = some res → Ex X (d + 1) mX11_duet 38 [(0, .ref x0), (1, .int x1), (2, .int x2), (3, .int x3)] [] M (some (.int res.1)) res.2) {k49 : Nat → Int32 → Int32 → Int32 → Int32 → Mem → Option (Int32 × Mem)} (hk49 : ∀ (x0 : Nat) (x1 : Int32) (x2 : Int32) (x3 : Int32) (x4 : Int32) (M : Mem) (res : Int32 × Mem), k49 x0 x1 x2 x3 x4 M = some res → Ex X (d + 1) mX11_duet 49 [(0, .ref x0), (1, .int x1), (2, .int x2), (3, .int x3), (4, .int x4)] [] M (some (.int res.1)) res.2) : ∀ (x0 : Nat) (x1 : Int32) (x2 : Int32) (x3 : Int32) (x4 : Int32) (x5 : Int32) (M : Mem) (res : Int32 × Mem), f_X11_duet_170 k38 k49 x0 x1 x2 x3 x4 x5 M = some res → Ex X (d + 1) mX11_duet 170 [(0, .ref x0), (1, .int x1), (2, .int x2), (3, .int x3), (4, .int x4), (5, .int x5)] [] M (some (.int res.1)) res.2 := by
  intro x0 x1 x2 x3 x4 x5 M res  h
  unfold f_X11_duet_170 at h
  refine ex_aload_n (pc := 170) 0 dX11_duet_170 rfl rfl ?_
  obtain ⟨v1, ev1, h⟩ := ob_some h
  refine ex_gR (pc := 171) ev1 dX11_duet_171 lfX11_62 ?_
  refine ex_bipush (pc := 174) 13 dX11_duet_174 (by decide) ?_
  refine ex_iload_n (pc := 176) 3 dX11_duet_176 rfl rfl ?_
  refine ex_imul (pc := 177) dX11_duet_177 ?_
  refine ex_iload (pc := 178) 4 dX11_duet_178 rfl ?_
  refine ex_iadd (pc := 180) dX11_duet_180 ?_
  refine ex_iload (pc := 181) 5 dX11_duet_181 rfl ?_
  obtain ⟨q2, eq2, h⟩ := ob_some h
  refine ex_wI (pc := 183) eq2 dX11_duet_183 ?_
  refine ex_iinc (pc := 184) (x4 + 1) 4 [(4, .int (x4 + 1)), (0, .ref x0), (1, .int x1), (2, .int x2), (3, .int x3), (5, .int x5)] dX11_duet_184 rfl rfl (by decide) rfl ?_
  refine ex_goto (pc := 187) 49 dX11_duet_187 rfl ?_
  refine ex_sub (lo' := [(0, .ref x0), (1, .int x1), (2, .int x2), (3, .int x3), (4, .int (x4 + 1))]) [1, 2, 3, 4, 0] rfl ?_
  exact hk49 _ _ _ _ _ _ _  h
noncomputable def f_X11_duet_121 (k38 : Nat → Int32 → Int32 → Int32 → Mem → Option (Int32 × Mem)) (k49 : Nat → Int32 → Int32 → Int32 → Int32 → Mem → Option (Int32 × Mem)) (x0 : Nat) (x1 : Int32) (x2 : Int32) (x3 : Int32) (x4 : Int32) (x5 : Int32) (M : Mem) : Option (Int32 × Mem) :=
  if x4 ≤ 0 then
  (f_X11_duet_170 k38 k49 x0 x1 x2 x3 x4 x5 M)
  else
  ((f_X11_digitOf x2 (x4 - 1)).bind fun v4 =>
  (gR M 11 x0 0).bind fun v5 =>
  (rI M v5 (((121 + x3) + x4) - 1)).bind fun v6 =>
  if v4 = v6 then
  ((gR M 11 x0 30).bind fun v8 =>
  (rI M v8 (((13 * x3) + x4) - 1)).bind fun v9 =>
  f_X11_duet_170 k38 k49 x0 x1 x2 x3 x4 (x5 + v9) M)
  else
  (f_X11_duet_170 k38 k49 x0 x1 x2 x3 x4 x5 M))
set_option maxHeartbeats 4000000 in
theorem t_X11_duet_121 {X : XV} {d : Nat} (hd : 3 ≤ d + 1) {k38 : Nat → Int32 → Int32 → Int32 → Mem → Option (Int32 × Mem)} (hk38 : ∀ (x0 : Nat) (x1 : Int32) (x2 : Int32) (x3 : Int32) (M : Mem) (res : Int32 × Mem), k38 x0 x1 x2 x3 M = some res → Ex X (d + 1) mX11_duet 38 [(0, .ref x0), (1, .int x1), (2, .int x2), (3, .int x3)] [] M (some (.int res.1)) res.2) {k49 : Nat → Int32 → Int32 → Int32 → Int32 → Mem → Option (Int32 × Mem)} (hk49 : ∀ (x0 : Nat) (x1 : Int32) (x2 : Int32) (x3 : Int32) (x4 : Int32) (M : Mem) (res : Int32 × Mem), k49 x0 x1 x2 x3 x4 M = some res → Ex X (d + 1) mX11_duet 49 [(0, .ref x0), (1, .int x1), (2, .int x2), (3, .int x3), (4, .int x4)] [] M (some (.int res.1)) res.2) : ∀ (x0 : Nat) (x1 : Int32) (x2 : Int32) (x3 : Int32) (x4 : Int32) (x5 : Int32) (M : Mem) (res : Int32 × Mem), f_X11_duet_121 k38 k49 x0 x1 x2 x3 x4 x5 M = some res → Ex X (d + 1) mX11_duet 121 [(0, .ref x0), (1, .int x1), (2, .int x2), (3, .int x3), (4, .int x4), (5, .int x5)] [] M (some (.int res.1)) res.2 := by
  intro x0 x1 x2 x3 x4 x5 M res  h
  unfold f_X11_duet_121 at h
  refine ex_iload (pc := 121) 4 dX11_duet_121 rfl ?_
  by_cases c3 : x4 ≤ 0
  · rw [if_pos c3] at h
    refine ex_if_le_t (pc := 123) 170 dX11_duet_123 rfl c3 ?_
    refine ex_sub (lo' := [(0, .ref x0), (1, .int x1), (2, .int x2), (3, .int x3), (4, .int x4), (5, .int x5)]) [0, 1, 2, 3, 4, 5] rfl ?_
    exact t_X11_duet_170 hd hk38 hk49 _ _ _ _ _ _ _ _  h
  · rw [if_neg c3] at h
    refine ex_if_le_f (pc := 123) dX11_duet_123 170 rfl c3 ?_
    refine ex_iload_n (pc := 126) 2 dX11_duet_126 rfl rfl ?_
    refine ex_iload (pc := 127) 4 dX11_duet_127 rfl ?_
    refine ex_iconst (pc := 129) 1 dX11_duet_129 rfl ?_
    refine ex_isub (pc := 130) dX11_duet_130 ?_
    obtain ⟨v4, ev4, h⟩ := ob_some h
    refine ex_callS2r (pc := 131) dX11_duet_131 jX11_digitOf lmX11_344 jsX11_digitOf (Nat.le_of_ble_eq_true rfl) (s_X11_digitOf (by omega)  ev4) ?_
    refine ex_aload_n (pc := 134) 0 dX11_duet_134 rfl rfl ?_
    obtain ⟨v5, ev5, h⟩ := ob_some h
    refine ex_gR (pc := 135) ev5 dX11_duet_135 lfX11_7 ?_
    refine ex_bipush (pc := 138) 121 dX11_duet_138 (by decide) ?_
    refine ex_iload_n (pc := 140) 3 dX11_duet_140 rfl rfl ?_
    refine ex_iadd (pc := 141) dX11_duet_141 ?_
    refine ex_iload (pc := 142) 4 dX11_duet_142 rfl ?_
    refine ex_iadd (pc := 144) dX11_duet_144 ?_
    refine ex_iconst (pc := 145) 1 dX11_duet_145 rfl ?_
    refine ex_isub (pc := 146) dX11_duet_146 ?_
    obtain ⟨v6, ev6, h⟩ := ob_some h
    refine ex_rI (pc := 147) ev6 dX11_duet_147 ?_
    by_cases c7 : v4 = v6
    · rw [if_pos c7] at h
      refine ex_icmp_ne_f (pc := 148) dX11_duet_148 170 rfl c7 ?_
      refine ex_iload (pc := 151) 5 dX11_duet_151 rfl ?_
      refine ex_aload_n (pc := 153) 0 dX11_duet_153 rfl rfl ?_
      obtain ⟨v8, ev8, h⟩ := ob_some h
      refine ex_gR (pc := 154) ev8 dX11_duet_154 lfX11_62 ?_
      refine ex_bipush (pc := 157) 13 dX11_duet_157 (by decide) ?_
      refine ex_iload_n (pc := 159) 3 dX11_duet_159 rfl rfl ?_
      refine ex_imul (pc := 160) dX11_duet_160 ?_
      refine ex_iload (pc := 161) 4 dX11_duet_161 rfl ?_
      refine ex_iadd (pc := 163) dX11_duet_163 ?_
      refine ex_iconst (pc := 164) 1 dX11_duet_164 rfl ?_
      refine ex_isub (pc := 165) dX11_duet_165 ?_
      obtain ⟨v9, ev9, h⟩ := ob_some h
      refine ex_rI (pc := 166) ev9 dX11_duet_166 ?_
      refine ex_iadd (pc := 167) dX11_duet_167 ?_
      refine ex_istore (pc := 168) [(5, .int (x5 + v9)), (0, .ref x0), (1, .int x1), (2, .int x2), (3, .int x3), (4, .int x4)] dX11_duet_168 (by decide) rfl ?_
      refine ex_sub (lo' := [(0, .ref x0), (1, .int x1), (2, .int x2), (3, .int x3), (4, .int x4), (5, .int (x5 + v9))]) [1, 2, 3, 4, 5, 0] rfl ?_
      exact t_X11_duet_170 hd hk38 hk49 _ _ _ _ _ _ _ _  h
    · rw [if_neg c7] at h
      refine ex_icmp_ne_t (pc := 148) 170 dX11_duet_148 rfl c7 ?_
      refine ex_sub (lo' := [(0, .ref x0), (1, .int x1), (2, .int x2), (3, .int x3), (4, .int x4), (5, .int x5)]) [0, 1, 2, 3, 4, 5] rfl ?_
      exact t_X11_duet_170 hd hk38 hk49 _ _ _ _ _ _ _ _  h
noncomputable def f_X11_duet_72 (k38 : Nat → Int32 → Int32 → Int32 → Mem → Option (Int32 × Mem)) (k49 : Nat → Int32 → Int32 → Int32 → Int32 → Mem → Option (Int32 × Mem)) (x0 : Nat) (x1 : Int32) (x2 : Int32) (x3 : Int32) (x4 : Int32) (s0 : Bool) (M : Mem) : Option (Int32 × Mem) :=
  if x3 ≤ 0 then
  (f_X11_duet_121 k38 k49 x0 x1 x2 x3 x4 (jz s0) M)
  else
  ((f_X11_digitOf x1 (x3 - 1)).bind fun v11 =>
  (gR M 11 x0 0).bind fun v12 =>
  (rI M v12 (((121 + x3) + x4) - 1)).bind fun v13 =>
  if v11 = v13 then
  ((gR M 11 x0 30).bind fun v15 =>
  (rI M v15 ((13 * (x3 - 1)) + x4)).bind fun v16 =>
  f_X11_duet_121 k38 k49 x0 x1 x2 x3 x4 ((jz s0) + v16) M)
  else
  (f_X11_duet_121 k38 k49 x0 x1 x2 x3 x4 (jz s0) M))
set_option maxHeartbeats 4000000 in
theorem t_X11_duet_72 {X : XV} {d : Nat} (hd : 3 ≤ d + 1) {k38 : Nat → Int32 → Int32 → Int32 → Mem → Option (Int32 × Mem)} (hk38 : ∀ (x0 : Nat) (x1 : Int32) (x2 : Int32) (x3 : Int32) (M : Mem) (res : Int32 × Mem), k38 x0 x1 x2 x3 M = some res → Ex X (d + 1) mX11_duet 38 [(0, .ref x0), (1, .int x1), (2, .int x2), (3, .int x3)] [] M (some (.int res.1)) res.2) {k49 : Nat → Int32 → Int32 → Int32 → Int32 → Mem → Option (Int32 × Mem)} (hk49 : ∀ (x0 : Nat) (x1 : Int32) (x2 : Int32) (x3 : Int32) (x4 : Int32) (M : Mem) (res : Int32 × Mem), k49 x0 x1 x2 x3 x4 M = some res → Ex X (d + 1) mX11_duet 49 [(0, .ref x0), (1, .int x1), (2, .int x2), (3, .int x3), (4, .int x4)] [] M (some (.int res.1)) res.2) : ∀ (x0 : Nat) (x1 : Int32) (x2 : Int32) (x3 : Int32) (x4 : Int32) (s0 : Bool) (M : Mem) (res : Int32 × Mem), f_X11_duet_72 k38 k49 x0 x1 x2 x3 x4 s0 M = some res → Ex X (d + 1) mX11_duet 72 [(0, .ref x0), (1, .int x1), (2, .int x2), (3, .int x3), (4, .int x4)] [.int (jz s0)] M (some (.int res.1)) res.2 := by
  intro x0 x1 x2 x3 x4 s0 M res  h
  unfold f_X11_duet_72 at h
  refine ex_istore (pc := 72) [(5, .int (jz s0)), (0, .ref x0), (1, .int x1), (2, .int x2), (3, .int x3), (4, .int x4)] dX11_duet_72 (by decide) rfl ?_
  refine ex_iload_n (pc := 74) 4 dX11_duet_74 rfl rfl ?_
  by_cases c10 : x3 ≤ 0
  · rw [if_pos c10] at h
    refine ex_if_le_t (pc := 75) 121 dX11_duet_75 rfl c10 ?_
    refine ex_sub (lo' := [(0, .ref x0), (1, .int x1), (2, .int x2), (3, .int x3), (4, .int x4), (5, .int (jz s0))]) [1, 2, 3, 4, 5, 0] rfl ?_
    exact t_X11_duet_121 hd hk38 hk49 _ _ _ _ _ _ _ _  h
  · rw [if_neg c10] at h
    refine ex_if_le_f (pc := 75) dX11_duet_75 121 rfl c10 ?_
    refine ex_iload_n (pc := 78) 2 dX11_duet_78 rfl rfl ?_
    refine ex_iload_n (pc := 79) 4 dX11_duet_79 rfl rfl ?_
    refine ex_iconst (pc := 80) 1 dX11_duet_80 rfl ?_
    refine ex_isub (pc := 81) dX11_duet_81 ?_
    obtain ⟨v11, ev11, h⟩ := ob_some h
    refine ex_callS2r (pc := 82) dX11_duet_82 jX11_digitOf lmX11_344 jsX11_digitOf (Nat.le_of_ble_eq_true rfl) (s_X11_digitOf (by omega)  ev11) ?_
    refine ex_aload_n (pc := 85) 1 dX11_duet_85 rfl rfl ?_
    obtain ⟨v12, ev12, h⟩ := ob_some h
    refine ex_gR (pc := 86) ev12 dX11_duet_86 lfX11_7 ?_
    refine ex_bipush (pc := 89) 121 dX11_duet_89 (by decide) ?_
    refine ex_iload_n (pc := 91) 4 dX11_duet_91 rfl rfl ?_
    refine ex_iadd (pc := 92) dX11_duet_92 ?_
    refine ex_iload (pc := 93) 5 dX11_duet_93 rfl ?_
    refine ex_iadd (pc := 95) dX11_duet_95 ?_
    refine ex_iconst (pc := 96) 1 dX11_duet_96 rfl ?_
    refine ex_isub (pc := 97) dX11_duet_97 ?_
    obtain ⟨v13, ev13, h⟩ := ob_some h
    refine ex_rI (pc := 98) ev13 dX11_duet_98 ?_
    by_cases c14 : v11 = v13
    · rw [if_pos c14] at h
      refine ex_icmp_ne_f (pc := 99) dX11_duet_99 121 rfl c14 ?_
      refine ex_iload (pc := 102) 0 dX11_duet_102 rfl ?_
      refine ex_aload_n (pc := 104) 1 dX11_duet_104 rfl rfl ?_
      obtain ⟨v15, ev15, h⟩ := ob_some h
      refine ex_gR (pc := 105) ev15 dX11_duet_105 lfX11_62 ?_
      refine ex_bipush (pc := 108) 13 dX11_duet_108 (by decide) ?_
      refine ex_iload_n (pc := 110) 4 dX11_duet_110 rfl rfl ?_
      refine ex_iconst (pc := 111) 1 dX11_duet_111 rfl ?_
      refine ex_isub (pc := 112) dX11_duet_112 ?_
      refine ex_imul (pc := 113) dX11_duet_113 ?_
      refine ex_iload (pc := 114) 5 dX11_duet_114 rfl ?_
      refine ex_iadd (pc := 116) dX11_duet_116 ?_
      obtain ⟨v16, ev16, h⟩ := ob_some h
      refine ex_rI (pc := 117) ev16 dX11_duet_117 ?_
      refine ex_iadd (pc := 118) dX11_duet_118 ?_
      refine ex_istore (pc := 119) [(5, .int ((jz s0) + v16)), (0, .ref x0), (1, .int x1), (2, .int x2), (3, .int x3), (4, .int x4)] dX11_duet_119 (by decide) rfl ?_
      refine ex_sub (lo' := [(0, .ref x0), (1, .int x1), (2, .int x2), (3, .int x3), (4, .int x4), (5, .int ((jz s0) + v16))]) [1, 2, 3, 4, 5, 0] rfl ?_
      exact t_X11_duet_121 hd hk38 hk49 _ _ _ _ _ _ _ _  h
    · rw [if_neg c14] at h
      refine ex_icmp_ne_t (pc := 99) 121 dX11_duet_99 rfl c14 ?_
      refine ex_sub (lo' := [(0, .ref x0), (1, .int x1), (2, .int x2), (3, .int x3), (4, .int x4), (5, .int (jz s0))]) [1, 2, 3, 4, 5, 0] rfl ?_
      exact t_X11_duet_121 hd hk38 hk49 _ _ _ _ _ _ _ _  h
noncomputable def f_X11_duet_71 (k38 : Nat → Int32 → Int32 → Int32 → Mem → Option (Int32 × Mem)) (k49 : Nat → Int32 → Int32 → Int32 → Int32 → Mem → Option (Int32 × Mem)) (x0 : Nat) (x1 : Int32) (x2 : Int32) (x3 : Int32) (x4 : Int32) (M : Mem) : Option (Int32 × Mem) :=
  f_X11_duet_72 k38 k49 x0 x1 x2 x3 x4 false M
set_option maxHeartbeats 4000000 in
theorem t_X11_duet_71 {X : XV} {d : Nat} (hd : 3 ≤ d + 1) {k38 : Nat → Int32 → Int32 → Int32 → Mem → Option (Int32 × Mem)} (hk38 : ∀ (x0 : Nat) (x1 : Int32) (x2 : Int32) (x3 : Int32) (M : Mem) (res : Int32 × Mem), k38 x0 x1 x2 x3 M = some res → Ex X (d + 1) mX11_duet 38 [(0, .ref x0), (1, .int x1), (2, .int x2), (3, .int x3)] [] M (some (.int res.1)) res.2) {k49 : Nat → Int32 → Int32 → Int32 → Int32 → Mem → Option (Int32 × Mem)} (hk49 : ∀ (x0 : Nat) (x1 : Int32) (x2 : Int32) (x3 : Int32) (x4 : Int32) (M : Mem) (res : Int32 × Mem), k49 x0 x1 x2 x3 x4 M = some res → Ex X (d + 1) mX11_duet 49 [(0, .ref x0), (1, .int x1), (2, .int x2), (3, .int x3), (4, .int x4)] [] M (some (.int res.1)) res.2) : ∀ (x0 : Nat) (x1 : Int32) (x2 : Int32) (x3 : Int32) (x4 : Int32) (M : Mem) (res : Int32 × Mem), f_X11_duet_71 k38 k49 x0 x1 x2 x3 x4 M = some res → Ex X (d + 1) mX11_duet 71 [(0, .ref x0), (1, .int x1), (2, .int x2), (3, .int x3), (4, .int x4)] [] M (some (.int res.1)) res.2 := by
  intro x0 x1 x2 x3 x4 M res  h
  unfold f_X11_duet_71 at h
  refine ex_iconst (pc := 71) 0 dX11_duet_71 rfl ?_
  refine ex_sub (lo' := [(0, .ref x0), (1, .int x1), (2, .int x2), (3, .int x3), (4, .int x4)]) [0, 1, 2, 3, 4] rfl ?_
  exact t_X11_duet_72 hd hk38 hk49 _ _ _ _ _ _ _ _  h
noncomputable def f_X11_duet_49 (n0 : Nat) (k38 : Nat → Int32 → Int32 → Int32 → Mem → Option (Int32 × Mem)) (x0 : Nat) (x1 : Int32) (x2 : Int32) (x3 : Int32) (x4 : Int32) (M : Mem) : Option (Int32 × Mem) :=
  match n0 with
  | 0 => none
  | n + 1 =>
    (f_X11_longOf x2).bind fun v17 =>
    if v17 < x4 then
    (k38 x0 x1 x2 (x3 + 1) M)
    else
    (if x3 = 0 then
    (if x4 = 0 then
    (f_X11_duet_72 k38 (f_X11_duet_49 n k38) x0 x1 x2 x3 x4 true M)
    else
    (f_X11_duet_71 k38 (f_X11_duet_49 n k38) x0 x1 x2 x3 x4 M))
    else
    (f_X11_duet_71 k38 (f_X11_duet_49 n k38) x0 x1 x2 x3 x4 M))
set_option maxHeartbeats 4000000 in
theorem t_X11_duet_49 {X : XV} {d : Nat} (hd : 3 ≤ d + 1) {k38 : Nat → Int32 → Int32 → Int32 → Mem → Option (Int32 × Mem)} (hk38 : ∀ (x0 : Nat) (x1 : Int32) (x2 : Int32) (x3 : Int32) (M : Mem) (res : Int32 × Mem), k38 x0 x1 x2 x3 M = some res → Ex X (d + 1) mX11_duet 38 [(0, .ref x0), (1, .int x1), (2, .int x2), (3, .int x3)] [] M (some (.int res.1)) res.2) : ∀ (n : Nat) (x0 : Nat) (x1 : Int32) (x2 : Int32) (x3 : Int32) (x4 : Int32) (M : Mem) (res : Int32 × Mem), f_X11_duet_49 n k38 x0 x1 x2 x3 x4 M = some res → Ex X (d + 1) mX11_duet 49 [(0, .ref x0), (1, .int x1), (2, .int x2), (3, .int x3), (4, .int x4)] [] M (some (.int res.1)) res.2 := by
  intro n
  induction n with
  | zero =>
    intro x0 x1 x2 x3 x4 M res  h
    unfold f_X11_duet_49 at h
    cases h
  | succ n ih =>
    intro x0 x1 x2 x3 x4 M res  h
    unfold f_X11_duet_49 at h
    refine ex_iload (pc := 49) 4 dX11_duet_49 rfl ?_
    refine ex_iload_n (pc := 51) 2 dX11_duet_51 rfl rfl ?_
    obtain ⟨v17, ev17, h⟩ := ob_some h
    refine ex_callS1r (pc := 52) dX11_duet_52 jX11_longOf lmX11_91 jsX11_longOf (Nat.le_of_ble_eq_true rfl) (s_X11_longOf (by omega)  ev17) ?_
    by_cases c18 : v17 < x4
    · rw [if_pos c18] at h
      refine ex_icmp_gt_t (pc := 55) 190 dX11_duet_55 rfl c18 ?_
      refine ex_iinc (pc := 190) (x3 + 1) 3 [(3, .int (x3 + 1)), (0, .ref x0), (1, .int x1), (2, .int x2), (4, .int x4)] dX11_duet_190 rfl rfl (by decide) rfl ?_
      refine ex_goto (pc := 193) 38 dX11_duet_193 rfl ?_
      refine ex_sub (lo' := [(0, .ref x0), (1, .int x1), (2, .int x2), (3, .int (x3 + 1))]) [1, 2, 3, 0] rfl ?_
      exact hk38 _ _ _ _ _ _  h
    · rw [if_neg c18] at h
      refine ex_icmp_gt_f (pc := 55) dX11_duet_55 190 rfl c18 ?_
      refine ex_iload_n (pc := 58) 3 dX11_duet_58 rfl rfl ?_
      by_cases c19 : x3 = 0
      · rw [if_pos c19] at h
        refine ex_if_ne_f (pc := 59) dX11_duet_59 71 rfl c19 ?_
        refine ex_iload (pc := 62) 4 dX11_duet_62 rfl ?_
        by_cases c20 : x4 = 0
        · rw [if_pos c20] at h
          refine ex_if_ne_f (pc := 64) dX11_duet_64 71 rfl c20 ?_
          refine ex_iconst (pc := 67) 1 dX11_duet_67 rfl ?_
          refine ex_goto (pc := 68) 72 dX11_duet_68 rfl ?_
          refine ex_sub (lo' := [(0, .ref x0), (1, .int x1), (2, .int x2), (3, .int x3), (4, .int x4)]) [0, 1, 2, 3, 4] rfl ?_
          exact t_X11_duet_72 hd hk38 ih _ _ _ _ _ _ _ _  h
        · rw [if_neg c20] at h
          refine ex_if_ne_t (pc := 64) 71 dX11_duet_64 rfl c20 ?_
          refine ex_sub (lo' := [(0, .ref x0), (1, .int x1), (2, .int x2), (3, .int x3), (4, .int x4)]) [0, 1, 2, 3, 4] rfl ?_
          exact t_X11_duet_71 hd hk38 ih _ _ _ _ _ _ _  h
      · rw [if_neg c19] at h
        refine ex_if_ne_t (pc := 59) 71 dX11_duet_59 rfl c19 ?_
        refine ex_sub (lo' := [(0, .ref x0), (1, .int x1), (2, .int x2), (3, .int x3), (4, .int x4)]) [0, 1, 2, 3, 4] rfl ?_
        exact t_X11_duet_71 hd hk38 ih _ _ _ _ _ _ _  h
noncomputable def f_X11_duet_38 (n0 : Nat) (x0 : Nat) (x1 : Int32) (x2 : Int32) (x3 : Int32) (M : Mem) : Option (Int32 × Mem) :=
  match n0 with
  | 0 => none
  | n + 1 =>
    (f_X11_longOf x1).bind fun v21 =>
    if v21 < x3 then
    ((gR M 11 x0 30).bind fun v23 =>
    (f_X11_longOf x1).bind fun v24 =>
    (f_X11_longOf x2).bind fun v25 =>
    (rI M v23 ((13 * v24) + v25)).bind fun v26 =>
    some (v26, M))
    else
    (f_X11_duet_49 fu (f_X11_duet_38 n) x0 x1 x2 x3 0 M)
set_option maxHeartbeats 4000000 in
theorem t_X11_duet_38 {X : XV} {d : Nat} (hd : 3 ≤ d + 1) : ∀ (n : Nat) (x0 : Nat) (x1 : Int32) (x2 : Int32) (x3 : Int32) (M : Mem) (res : Int32 × Mem), f_X11_duet_38 n  x0 x1 x2 x3 M = some res → Ex X (d + 1) mX11_duet 38 [(0, .ref x0), (1, .int x1), (2, .int x2), (3, .int x3)] [] M (some (.int res.1)) res.2 := by
  intro n
  induction n with
  | zero =>
    intro x0 x1 x2 x3 M res  h
    unfold f_X11_duet_38 at h
    cases h
  | succ n ih =>
    intro x0 x1 x2 x3 M res  h
    unfold f_X11_duet_38 at h
    refine ex_iload_n (pc := 38) 3 dX11_duet_38 rfl rfl ?_
    refine ex_iload_n (pc := 39) 1 dX11_duet_39 rfl rfl ?_
    obtain ⟨v21, ev21, h⟩ := ob_some h
    refine ex_callS1r (pc := 40) dX11_duet_40 jX11_longOf lmX11_91 jsX11_longOf (Nat.le_of_ble_eq_true rfl) (s_X11_longOf (by omega)  ev21) ?_
    by_cases c22 : v21 < x3
    · rw [if_pos c22] at h
      refine ex_icmp_gt_t (pc := 43) 196 dX11_duet_43 rfl c22 ?_
      refine ex_aload_n (pc := 196) 0 dX11_duet_196 rfl rfl ?_
      obtain ⟨v23, ev23, h⟩ := ob_some h
      refine ex_gR (pc := 197) ev23 dX11_duet_197 lfX11_62 ?_
      refine ex_bipush (pc := 200) 13 dX11_duet_200 (by decide) ?_
      refine ex_iload_n (pc := 202) 1 dX11_duet_202 rfl rfl ?_
      obtain ⟨v24, ev24, h⟩ := ob_some h
      refine ex_callS1r (pc := 203) dX11_duet_203 jX11_longOf lmX11_91 jsX11_longOf (Nat.le_of_ble_eq_true rfl) (s_X11_longOf (by omega)  ev24) ?_
      refine ex_imul (pc := 206) dX11_duet_206 ?_
      refine ex_iload_n (pc := 207) 2 dX11_duet_207 rfl rfl ?_
      obtain ⟨v25, ev25, h⟩ := ob_some h
      refine ex_callS1r (pc := 208) dX11_duet_208 jX11_longOf lmX11_91 jsX11_longOf (Nat.le_of_ble_eq_true rfl) (s_X11_longOf (by omega)  ev25) ?_
      refine ex_iadd (pc := 211) dX11_duet_211 ?_
      obtain ⟨v26, ev26, h⟩ := ob_some h
      refine ex_rI (pc := 212) ev26 dX11_duet_212 ?_
      cases h
      exact ex_ireturn (pc := 213) dX11_duet_213
    · rw [if_neg c22] at h
      refine ex_icmp_gt_f (pc := 43) dX11_duet_43 196 rfl c22 ?_
      refine ex_iconst (pc := 46) 0 dX11_duet_46 rfl ?_
      refine ex_istore (pc := 47) [(4, .int 0), (0, .ref x0), (1, .int x1), (2, .int x2), (3, .int x3)] dX11_duet_47 (by decide) rfl ?_
      refine ex_sub (lo' := [(0, .ref x0), (1, .int x1), (2, .int x2), (3, .int x3), (4, .int 0)]) [1, 2, 3, 4, 0] rfl ?_
      exact t_X11_duet_49 hd ih _ _ _ _ _ _ _ _  h
noncomputable def f_X11_duet_0 (x0 : Nat) (x1 : Int32) (x2 : Int32) (M : Mem) : Option (Int32 × Mem) :=
  (f_X11_isNumber x1).bind fun v27 =>
  if v27 = false then
  (some ((-1), M))
  else
  ((f_X11_isNumber x2).bind fun v29 =>
  if v29 = true then
  ((f_X11_longOf x1).bind fun v31 =>
  (f_X11_longOf x2).bind fun v32 =>
  (gR M 11 x0 0).bind fun v33 =>
  (rI M v33 4).bind fun v34 =>
  if (v31 + v32) = v34 then
  (f_X11_duet_38 fu x0 x1 x2 0 M)
  else
  (some (0, M)))
  else
  (some ((-1), M)))
set_option maxHeartbeats 4000000 in
theorem t_X11_duet_0 {X : XV} {d : Nat} (hd : 3 ≤ d + 1) : ∀ (x0 : Nat) (x1 : Int32) (x2 : Int32) (M : Mem) (res : Int32 × Mem), f_X11_duet_0  x0 x1 x2 M = some res → Ex X (d + 1) mX11_duet 0 [(0, .ref x0), (1, .int x1), (2, .int x2)] [] M (some (.int res.1)) res.2 := by
  intro x0 x1 x2 M res  h
  unfold f_X11_duet_0 at h
  refine ex_iload_n (pc := 0) 1 dX11_duet_0 rfl rfl ?_
  obtain ⟨v27, ev27, h⟩ := ob_some h
  refine ex_callS1r (pc := 1) dX11_duet_1 jX11_isNumber lmX11_380 jsX11_isNumber (Nat.le_of_ble_eq_true rfl) (s_X11_isNumber (by omega)  ev27) ?_
  by_cases c28 : v27 = false
  · rw [if_pos c28] at h
    refine ex_if_eq_t (pc := 4) 14 dX11_duet_4 rfl (jz_eq_t c28) ?_
    refine ex_iconst (pc := 14) (-1) dX11_duet_14 rfl ?_
    cases h
    exact ex_ireturn (pc := 15) dX11_duet_15
  · rw [if_neg c28] at h
    refine ex_if_eq_f (pc := 4) dX11_duet_4 14 rfl (jz_eq_f c28) ?_
    refine ex_iload_n (pc := 7) 2 dX11_duet_7 rfl rfl ?_
    obtain ⟨v29, ev29, h⟩ := ob_some h
    refine ex_callS1r (pc := 8) dX11_duet_8 jX11_isNumber lmX11_380 jsX11_isNumber (Nat.le_of_ble_eq_true rfl) (s_X11_isNumber (by omega)  ev29) ?_
    by_cases c30 : v29 = true
    · rw [if_pos c30] at h
      refine ex_if_ne_t (pc := 11) 16 dX11_duet_11 rfl (jz_ne_t c30) ?_
      refine ex_iload_n (pc := 16) 1 dX11_duet_16 rfl rfl ?_
      obtain ⟨v31, ev31, h⟩ := ob_some h
      refine ex_callS1r (pc := 17) dX11_duet_17 jX11_longOf lmX11_91 jsX11_longOf (Nat.le_of_ble_eq_true rfl) (s_X11_longOf (by omega)  ev31) ?_
      refine ex_iload_n (pc := 20) 2 dX11_duet_20 rfl rfl ?_
      obtain ⟨v32, ev32, h⟩ := ob_some h
      refine ex_callS1r (pc := 21) dX11_duet_21 jX11_longOf lmX11_91 jsX11_longOf (Nat.le_of_ble_eq_true rfl) (s_X11_longOf (by omega)  ev32) ?_
      refine ex_iadd (pc := 24) dX11_duet_24 ?_
      refine ex_aload_n (pc := 25) 0 dX11_duet_25 rfl rfl ?_
      obtain ⟨v33, ev33, h⟩ := ob_some h
      refine ex_gR (pc := 26) ev33 dX11_duet_26 lfX11_7 ?_
      refine ex_iconst (pc := 29) 4 dX11_duet_29 rfl ?_
      obtain ⟨v34, ev34, h⟩ := ob_some h
      refine ex_rI (pc := 30) ev34 dX11_duet_30 ?_
      by_cases c35 : (v31 + v32) = v34
      · rw [if_pos c35] at h
        refine ex_icmp_eq_t (pc := 31) 36 dX11_duet_31 rfl c35 ?_
        refine ex_iconst (pc := 36) 0 dX11_duet_36 rfl ?_
        refine ex_istore_n (pc := 37) [(3, .int 0), (0, .ref x0), (1, .int x1), (2, .int x2)] dX11_duet_37 rfl (by decide) rfl ?_
        refine ex_sub (lo' := [(0, .ref x0), (1, .int x1), (2, .int x2), (3, .int 0)]) [1, 2, 3, 0] rfl ?_
        exact t_X11_duet_38 hd  _ _ _ _ _ _ _  h
      · rw [if_neg c35] at h
        refine ex_icmp_eq_f (pc := 31) dX11_duet_31 36 rfl c35 ?_
        refine ex_iconst (pc := 34) 0 dX11_duet_34 rfl ?_
        cases h
        exact ex_ireturn (pc := 35) dX11_duet_35
    · rw [if_neg c30] at h
      refine ex_if_ne_f (pc := 11) dX11_duet_11 16 rfl (jz_ne_f c30) ?_
      refine ex_iconst (pc := 14) (-1) dX11_duet_14 rfl ?_
      cases h
      exact ex_ireturn (pc := 15) dX11_duet_15
noncomputable def f_X11_duet (x0 : Nat) (x1 : Int32) (x2 : Int32) (M : Mem) : Option (Int32 × Mem) := if isOb M 11 x0 = true then f_X11_duet_0 x0 x1 x2 M else none
theorem o_X11_duet {x0 : Nat} {x1 : Int32} {x2 : Int32} {M : Mem} {res : Int32 × Mem} (h : f_X11_duet x0 x1 x2 M = some res) : isO M 11 x0 := by
  unfold f_X11_duet at h
  split at h
  · rename_i hc; exact isOb_iff hc
  · cases h
set_option maxHeartbeats 4000000 in
theorem s_X11_duet {X : XV} {d : Nat} (hd : 3 ≤ d) {x0 : Nat} {x1 : Int32} {x2 : Int32} {M : Mem} {res : Int32 × Mem} (h : f_X11_duet x0 x1 x2 M = some res) : Mx X d mX11_duet [.ref x0, .int x1, .int x2] M (some (.int res.1)) res.2 := by
  obtain ⟨d, rfl⟩ : ∃ e, d = e + 1 := ⟨d - 1, by omega⟩
  unfold f_X11_duet at h
  split at h
  rotate_left
  · cases h
  refine Mx.of (by decide) (Nat.le_of_ble_eq_true rfl) (⟨_, rfl, rfl⟩) ?_
  exact ex_sub (lo' := [(0, .ref x0), (1, .int x1), (2, .int x2)]) [0, 1, 2] rfl (t_X11_duet_0 hd _ _ _ _ _  h)
noncomputable def f_X11_layCommon_145 (k7 : Nat → Int32 → Mem → Option (Mem)) (k18 : Nat → Int32 → Int32 → Mem → Option (Mem)) (x0 : Nat) (x1 : Int32) (x2 : Int32) (x3 : Int32) (M : Mem) : Option (Mem) :=
  (gR M 11 x0 30).bind fun v1 =>
  (wI M v1 ((13 * x1) + x2) x3).bind fun q2 =>
  k18 x0 x1 (x2 + (-1)) q2
set_option maxHeartbeats 4000000 in
theorem t_X11_layCommon_145 {X : XV} {d : Nat} (hd : 1 ≤ d + 1) {k7 : Nat → Int32 → Mem → Option (Mem)} (hk7 : ∀ (x0 : Nat) (x1 : Int32) (M : Mem) (res : Mem), k7 x0 x1 M = some res → Ex X (d + 1) mX11_layCommon 7 [(0, .ref x0), (1, .int x1)] [] M none res) {k18 : Nat → Int32 → Int32 → Mem → Option (Mem)} (hk18 : ∀ (x0 : Nat) (x1 : Int32) (x2 : Int32) (M : Mem) (res : Mem), k18 x0 x1 x2 M = some res → Ex X (d + 1) mX11_layCommon 18 [(0, .ref x0), (1, .int x1), (2, .int x2)] [] M none res) : ∀ (x0 : Nat) (x1 : Int32) (x2 : Int32) (x3 : Int32) (M : Mem) (res : Mem), f_X11_layCommon_145 k7 k18 x0 x1 x2 x3 M = some res → Ex X (d + 1) mX11_layCommon 145 [(0, .ref x0), (1, .int x1), (2, .int x2), (3, .int x3)] [] M none res := by
  intro x0 x1 x2 x3 M res  h
  unfold f_X11_layCommon_145 at h
  refine ex_aload_n (pc := 145) 0 dX11_layCommon_145 rfl rfl ?_
  obtain ⟨v1, ev1, h⟩ := ob_some h
  refine ex_gR (pc := 146) ev1 dX11_layCommon_146 lfX11_62 ?_
  refine ex_bipush (pc := 149) 13 dX11_layCommon_149 (by decide) ?_
  refine ex_iload_n (pc := 151) 1 dX11_layCommon_151 rfl rfl ?_
  refine ex_imul (pc := 152) dX11_layCommon_152 ?_
  refine ex_iload_n (pc := 153) 2 dX11_layCommon_153 rfl rfl ?_
  refine ex_iadd (pc := 154) dX11_layCommon_154 ?_
  refine ex_iload_n (pc := 155) 3 dX11_layCommon_155 rfl rfl ?_
  obtain ⟨q2, eq2, h⟩ := ob_some h
  refine ex_wI (pc := 156) eq2 dX11_layCommon_156 ?_
  refine ex_iinc (pc := 157) (x2 + (-1)) 2 [(2, .int (x2 + (-1))), (0, .ref x0), (1, .int x1), (3, .int x3)] dX11_layCommon_157 rfl rfl (by decide) rfl ?_
  refine ex_goto (pc := 160) 18 dX11_layCommon_160 rfl ?_
  refine ex_sub (lo' := [(0, .ref x0), (1, .int x1), (2, .int (x2 + (-1)))]) [1, 2, 0] rfl ?_
  exact hk18 _ _ _ _ _  h
noncomputable def f_X11_layCommon_144 (k7 : Nat → Int32 → Mem → Option (Mem)) (k18 : Nat → Int32 → Int32 → Mem → Option (Mem)) (x0 : Nat) (x1 : Int32) (x2 : Int32) (s0 : Int32) (M : Mem) : Option (Mem) :=
  f_X11_layCommon_145 k7 k18 x0 x1 x2 s0 M
set_option maxHeartbeats 4000000 in
theorem t_X11_layCommon_144 {X : XV} {d : Nat} (hd : 1 ≤ d + 1) {k7 : Nat → Int32 → Mem → Option (Mem)} (hk7 : ∀ (x0 : Nat) (x1 : Int32) (M : Mem) (res : Mem), k7 x0 x1 M = some res → Ex X (d + 1) mX11_layCommon 7 [(0, .ref x0), (1, .int x1)] [] M none res) {k18 : Nat → Int32 → Int32 → Mem → Option (Mem)} (hk18 : ∀ (x0 : Nat) (x1 : Int32) (x2 : Int32) (M : Mem) (res : Mem), k18 x0 x1 x2 M = some res → Ex X (d + 1) mX11_layCommon 18 [(0, .ref x0), (1, .int x1), (2, .int x2)] [] M none res) : ∀ (x0 : Nat) (x1 : Int32) (x2 : Int32) (s0 : Int32) (M : Mem) (res : Mem), f_X11_layCommon_144 k7 k18 x0 x1 x2 s0 M = some res → Ex X (d + 1) mX11_layCommon 144 [(0, .ref x0), (1, .int x1), (2, .int x2)] [.int s0] M none res := by
  intro x0 x1 x2 s0 M res  h
  unfold f_X11_layCommon_144 at h
  refine ex_istore_n (pc := 144) [(3, .int s0), (0, .ref x0), (1, .int x1), (2, .int x2)] dX11_layCommon_144 rfl (by decide) rfl ?_
  refine ex_sub (lo' := [(0, .ref x0), (1, .int x1), (2, .int x2), (3, .int s0)]) [1, 2, 3, 0] rfl ?_
  exact t_X11_layCommon_145 hd hk7 hk18 _ _ _ _ _ _  h
noncomputable def f_X11_layCommon_18 (n0 : Nat) (k7 : Nat → Int32 → Mem → Option (Mem)) (x0 : Nat) (x1 : Int32) (x2 : Int32) (M : Mem) : Option (Mem) :=
  match n0 with
  | 0 => none
  | n + 1 =>
    if x2 < 0 then
    (k7 x0 (x1 + (-1)) M)
    else
    ((gR M 11 x0 0).bind fun v4 =>
    (rI M v4 4).bind fun v5 =>
    if v5 ≤ x1 then
    (f_X11_layCommon_145 k7 (f_X11_layCommon_18 n k7) x0 x1 x2 0 M)
    else
    ((gR M 11 x0 0).bind fun v7 =>
    (rI M v7 5).bind fun v8 =>
    if v8 ≤ x2 then
    (f_X11_layCommon_145 k7 (f_X11_layCommon_18 n k7) x0 x1 x2 0 M)
    else
    ((gR M 11 x0 0).bind fun v10 =>
    (rI M v10 (121 + x1)).bind fun v11 =>
    (gR M 11 x0 0).bind fun v12 =>
    (rI M v12 (133 + x2)).bind fun v13 =>
    if v11 = v13 then
    ((gR M 11 x0 30).bind fun v24 =>
    (rI M v24 (((13 * (x1 + 1)) + x2) + 1)).bind fun v25 =>
    f_X11_layCommon_144 k7 (f_X11_layCommon_18 n k7) x0 x1 x2 (1 + v25) M)
    else
    ((gR M 11 x0 30).bind fun v15 =>
    (rI M v15 ((13 * (x1 + 1)) + x2)).bind fun v16 =>
    (gR M 11 x0 30).bind fun v17 =>
    (rI M v17 (((13 * x1) + x2) + 1)).bind fun v18 =>
    if v16 ≤ v18 then
    ((gR M 11 x0 30).bind fun v20 =>
    (rI M v20 (((13 * x1) + x2) + 1)).bind fun v21 =>
    f_X11_layCommon_144 k7 (f_X11_layCommon_18 n k7) x0 x1 x2 v21 M)
    else
    ((gR M 11 x0 30).bind fun v22 =>
    (rI M v22 ((13 * (x1 + 1)) + x2)).bind fun v23 =>
    f_X11_layCommon_144 k7 (f_X11_layCommon_18 n k7) x0 x1 x2 v23 M)))))
set_option maxHeartbeats 4000000 in
theorem t_X11_layCommon_18 {X : XV} {d : Nat} (hd : 1 ≤ d + 1) {k7 : Nat → Int32 → Mem → Option (Mem)} (hk7 : ∀ (x0 : Nat) (x1 : Int32) (M : Mem) (res : Mem), k7 x0 x1 M = some res → Ex X (d + 1) mX11_layCommon 7 [(0, .ref x0), (1, .int x1)] [] M none res) : ∀ (n : Nat) (x0 : Nat) (x1 : Int32) (x2 : Int32) (M : Mem) (res : Mem), f_X11_layCommon_18 n k7 x0 x1 x2 M = some res → Ex X (d + 1) mX11_layCommon 18 [(0, .ref x0), (1, .int x1), (2, .int x2)] [] M none res := by
  intro n
  induction n with
  | zero =>
    intro x0 x1 x2 M res  h
    unfold f_X11_layCommon_18 at h
    cases h
  | succ n ih =>
    intro x0 x1 x2 M res  h
    unfold f_X11_layCommon_18 at h
    refine ex_iload_n (pc := 18) 2 dX11_layCommon_18 rfl rfl ?_
    by_cases c3 : x2 < 0
    · rw [if_pos c3] at h
      refine ex_if_lt_t (pc := 19) 163 dX11_layCommon_19 rfl c3 ?_
      refine ex_iinc (pc := 163) (x1 + (-1)) 1 [(1, .int (x1 + (-1))), (0, .ref x0), (2, .int x2)] dX11_layCommon_163 rfl rfl (by decide) rfl ?_
      refine ex_goto (pc := 166) 7 dX11_layCommon_166 rfl ?_
      refine ex_sub (lo' := [(0, .ref x0), (1, .int (x1 + (-1)))]) [1, 0] rfl ?_
      exact hk7 _ _ _ _  h
    · rw [if_neg c3] at h
      refine ex_if_lt_f (pc := 19) dX11_layCommon_19 163 rfl c3 ?_
      refine ex_iconst (pc := 22) 0 dX11_layCommon_22 rfl ?_
      refine ex_istore_n (pc := 23) [(3, .int 0), (0, .ref x0), (1, .int x1), (2, .int x2)] dX11_layCommon_23 rfl (by decide) rfl ?_
      refine ex_iload_n (pc := 24) 2 dX11_layCommon_24 rfl rfl ?_
      refine ex_aload_n (pc := 25) 1 dX11_layCommon_25 rfl rfl ?_
      obtain ⟨v4, ev4, h⟩ := ob_some h
      refine ex_gR (pc := 26) ev4 dX11_layCommon_26 lfX11_7 ?_
      refine ex_iconst (pc := 29) 4 dX11_layCommon_29 rfl ?_
      obtain ⟨v5, ev5, h⟩ := ob_some h
      refine ex_rI (pc := 30) ev5 dX11_layCommon_30 ?_
      by_cases c6 : v5 ≤ x1
      · rw [if_pos c6] at h
        refine ex_icmp_ge_t (pc := 31) 145 dX11_layCommon_31 rfl c6 ?_
        refine ex_sub (lo' := [(0, .ref x0), (1, .int x1), (2, .int x2), (3, .int 0)]) [1, 2, 3, 0] rfl ?_
        exact t_X11_layCommon_145 hd hk7 ih _ _ _ _ _ _  h
      · rw [if_neg c6] at h
        refine ex_icmp_ge_f (pc := 31) dX11_layCommon_31 145 rfl c6 ?_
        refine ex_iload_n (pc := 34) 3 dX11_layCommon_34 rfl rfl ?_
        refine ex_aload_n (pc := 35) 1 dX11_layCommon_35 rfl rfl ?_
        obtain ⟨v7, ev7, h⟩ := ob_some h
        refine ex_gR (pc := 36) ev7 dX11_layCommon_36 lfX11_7 ?_
        refine ex_iconst (pc := 39) 5 dX11_layCommon_39 rfl ?_
        obtain ⟨v8, ev8, h⟩ := ob_some h
        refine ex_rI (pc := 40) ev8 dX11_layCommon_40 ?_
        by_cases c9 : v8 ≤ x2
        · rw [if_pos c9] at h
          refine ex_icmp_ge_t (pc := 41) 145 dX11_layCommon_41 rfl c9 ?_
          refine ex_sub (lo' := [(0, .ref x0), (1, .int x1), (2, .int x2), (3, .int 0)]) [1, 2, 3, 0] rfl ?_
          exact t_X11_layCommon_145 hd hk7 ih _ _ _ _ _ _  h
        · rw [if_neg c9] at h
          refine ex_icmp_ge_f (pc := 41) dX11_layCommon_41 145 rfl c9 ?_
          refine ex_aload_n (pc := 44) 1 dX11_layCommon_44 rfl rfl ?_
          obtain ⟨v10, ev10, h⟩ := ob_some h
          refine ex_gR (pc := 45) ev10 dX11_layCommon_45 lfX11_7 ?_
          refine ex_bipush (pc := 48) 121 dX11_layCommon_48 (by decide) ?_
          refine ex_iload_n (pc := 50) 2 dX11_layCommon_50 rfl rfl ?_
          refine ex_iadd (pc := 51) dX11_layCommon_51 ?_
          obtain ⟨v11, ev11, h⟩ := ob_some h
          refine ex_rI (pc := 52) ev11 dX11_layCommon_52 ?_
          refine ex_aload_n (pc := 53) 1 dX11_layCommon_53 rfl rfl ?_
          obtain ⟨v12, ev12, h⟩ := ob_some h
          refine ex_gR (pc := 54) ev12 dX11_layCommon_54 lfX11_7 ?_
          refine ex_sipush (pc := 57) 133 dX11_layCommon_57 (by decide) ?_
          refine ex_iload_n (pc := 60) 3 dX11_layCommon_60 rfl rfl ?_
          refine ex_iadd (pc := 61) dX11_layCommon_61 ?_
          obtain ⟨v13, ev13, h⟩ := ob_some h
          refine ex_rI (pc := 62) ev13 dX11_layCommon_62 ?_
          by_cases c14 : v11 = v13
          · rw [if_pos c14] at h
            refine ex_icmp_ne_f (pc := 63) dX11_layCommon_63 86 rfl c14 ?_
            refine ex_iconst (pc := 66) 1 dX11_layCommon_66 rfl ?_
            refine ex_aload_n (pc := 67) 1 dX11_layCommon_67 rfl rfl ?_
            obtain ⟨v24, ev24, h⟩ := ob_some h
            refine ex_gR (pc := 68) ev24 dX11_layCommon_68 lfX11_62 ?_
            refine ex_bipush (pc := 71) 13 dX11_layCommon_71 (by decide) ?_
            refine ex_iload_n (pc := 73) 2 dX11_layCommon_73 rfl rfl ?_
            refine ex_iconst (pc := 74) 1 dX11_layCommon_74 rfl ?_
            refine ex_iadd (pc := 75) dX11_layCommon_75 ?_
            refine ex_imul (pc := 76) dX11_layCommon_76 ?_
            refine ex_iload_n (pc := 77) 3 dX11_layCommon_77 rfl rfl ?_
            refine ex_iadd (pc := 78) dX11_layCommon_78 ?_
            refine ex_iconst (pc := 79) 1 dX11_layCommon_79 rfl ?_
            refine ex_iadd (pc := 80) dX11_layCommon_80 ?_
            obtain ⟨v25, ev25, h⟩ := ob_some h
            refine ex_rI (pc := 81) ev25 dX11_layCommon_81 ?_
            refine ex_iadd (pc := 82) dX11_layCommon_82 ?_
            refine ex_goto (pc := 83) 144 dX11_layCommon_83 rfl ?_
            refine ex_sub (lo' := [(0, .ref x0), (1, .int x1), (2, .int x2)]) [1, 2, 3] rfl ?_
            exact t_X11_layCommon_144 hd hk7 ih _ _ _ _ _ _  h
          · rw [if_neg c14] at h
            refine ex_icmp_ne_t (pc := 63) 86 dX11_layCommon_63 rfl c14 ?_
            refine ex_aload_n (pc := 86) 1 dX11_layCommon_86 rfl rfl ?_
            obtain ⟨v15, ev15, h⟩ := ob_some h
            refine ex_gR (pc := 87) ev15 dX11_layCommon_87 lfX11_62 ?_
            refine ex_bipush (pc := 90) 13 dX11_layCommon_90 (by decide) ?_
            refine ex_iload_n (pc := 92) 2 dX11_layCommon_92 rfl rfl ?_
            refine ex_iconst (pc := 93) 1 dX11_layCommon_93 rfl ?_
            refine ex_iadd (pc := 94) dX11_layCommon_94 ?_
            refine ex_imul (pc := 95) dX11_layCommon_95 ?_
            refine ex_iload_n (pc := 96) 3 dX11_layCommon_96 rfl rfl ?_
            refine ex_iadd (pc := 97) dX11_layCommon_97 ?_
            obtain ⟨v16, ev16, h⟩ := ob_some h
            refine ex_rI (pc := 98) ev16 dX11_layCommon_98 ?_
            refine ex_aload_n (pc := 99) 1 dX11_layCommon_99 rfl rfl ?_
            obtain ⟨v17, ev17, h⟩ := ob_some h
            refine ex_gR (pc := 100) ev17 dX11_layCommon_100 lfX11_62 ?_
            refine ex_bipush (pc := 103) 13 dX11_layCommon_103 (by decide) ?_
            refine ex_iload_n (pc := 105) 2 dX11_layCommon_105 rfl rfl ?_
            refine ex_imul (pc := 106) dX11_layCommon_106 ?_
            refine ex_iload_n (pc := 107) 3 dX11_layCommon_107 rfl rfl ?_
            refine ex_iadd (pc := 108) dX11_layCommon_108 ?_
            refine ex_iconst (pc := 109) 1 dX11_layCommon_109 rfl ?_
            refine ex_iadd (pc := 110) dX11_layCommon_110 ?_
            obtain ⟨v18, ev18, h⟩ := ob_some h
            refine ex_rI (pc := 111) ev18 dX11_layCommon_111 ?_
            by_cases c19 : v16 ≤ v18
            · rw [if_pos c19] at h
              refine ex_icmp_le_t (pc := 112) 131 dX11_layCommon_112 rfl c19 ?_
              refine ex_aload_n (pc := 131) 1 dX11_layCommon_131 rfl rfl ?_
              obtain ⟨v20, ev20, h⟩ := ob_some h
              refine ex_gR (pc := 132) ev20 dX11_layCommon_132 lfX11_62 ?_
              refine ex_bipush (pc := 135) 13 dX11_layCommon_135 (by decide) ?_
              refine ex_iload_n (pc := 137) 2 dX11_layCommon_137 rfl rfl ?_
              refine ex_imul (pc := 138) dX11_layCommon_138 ?_
              refine ex_iload_n (pc := 139) 3 dX11_layCommon_139 rfl rfl ?_
              refine ex_iadd (pc := 140) dX11_layCommon_140 ?_
              refine ex_iconst (pc := 141) 1 dX11_layCommon_141 rfl ?_
              refine ex_iadd (pc := 142) dX11_layCommon_142 ?_
              obtain ⟨v21, ev21, h⟩ := ob_some h
              refine ex_rI (pc := 143) ev21 dX11_layCommon_143 ?_
              refine ex_sub (lo' := [(0, .ref x0), (1, .int x1), (2, .int x2)]) [1, 2, 3] rfl ?_
              exact t_X11_layCommon_144 hd hk7 ih _ _ _ _ _ _  h
            · rw [if_neg c19] at h
              refine ex_icmp_le_f (pc := 112) dX11_layCommon_112 131 rfl c19 ?_
              refine ex_aload_n (pc := 115) 1 dX11_layCommon_115 rfl rfl ?_
              obtain ⟨v22, ev22, h⟩ := ob_some h
              refine ex_gR (pc := 116) ev22 dX11_layCommon_116 lfX11_62 ?_
              refine ex_bipush (pc := 119) 13 dX11_layCommon_119 (by decide) ?_
              refine ex_iload_n (pc := 121) 2 dX11_layCommon_121 rfl rfl ?_
              refine ex_iconst (pc := 122) 1 dX11_layCommon_122 rfl ?_
              refine ex_iadd (pc := 123) dX11_layCommon_123 ?_
              refine ex_imul (pc := 124) dX11_layCommon_124 ?_
              refine ex_iload_n (pc := 125) 3 dX11_layCommon_125 rfl rfl ?_
              refine ex_iadd (pc := 126) dX11_layCommon_126 ?_
              obtain ⟨v23, ev23, h⟩ := ob_some h
              refine ex_rI (pc := 127) ev23 dX11_layCommon_127 ?_
              refine ex_goto (pc := 128) 144 dX11_layCommon_128 rfl ?_
              refine ex_sub (lo' := [(0, .ref x0), (1, .int x1), (2, .int x2)]) [1, 2, 3] rfl ?_
              exact t_X11_layCommon_144 hd hk7 ih _ _ _ _ _ _  h
noncomputable def f_X11_layCommon_7 (n0 : Nat) (x0 : Nat) (x1 : Int32) (M : Mem) : Option (Mem) :=
  match n0 with
  | 0 => none
  | n + 1 =>
    if x1 < 0 then
    (some M)
    else
    ((gR M 11 x0 0).bind fun v27 =>
    (rI M v27 5).bind fun v28 =>
    f_X11_layCommon_18 fu (f_X11_layCommon_7 n) x0 x1 v28 M)
set_option maxHeartbeats 4000000 in
theorem t_X11_layCommon_7 {X : XV} {d : Nat} (hd : 1 ≤ d + 1) : ∀ (n : Nat) (x0 : Nat) (x1 : Int32) (M : Mem) (res : Mem), f_X11_layCommon_7 n  x0 x1 M = some res → Ex X (d + 1) mX11_layCommon 7 [(0, .ref x0), (1, .int x1)] [] M none res := by
  intro n
  induction n with
  | zero =>
    intro x0 x1 M res  h
    unfold f_X11_layCommon_7 at h
    cases h
  | succ n ih =>
    intro x0 x1 M res  h
    unfold f_X11_layCommon_7 at h
    refine ex_iload_n (pc := 7) 1 dX11_layCommon_7 rfl rfl ?_
    by_cases c26 : x1 < 0
    · rw [if_pos c26] at h
      refine ex_if_lt_t (pc := 8) 169 dX11_layCommon_8 rfl c26 ?_
      cases h
      exact ex_return (pc := 169) dX11_layCommon_169
    · rw [if_neg c26] at h
      refine ex_if_lt_f (pc := 8) dX11_layCommon_8 169 rfl c26 ?_
      refine ex_aload_n (pc := 11) 0 dX11_layCommon_11 rfl rfl ?_
      obtain ⟨v27, ev27, h⟩ := ob_some h
      refine ex_gR (pc := 12) ev27 dX11_layCommon_12 lfX11_7 ?_
      refine ex_iconst (pc := 15) 5 dX11_layCommon_15 rfl ?_
      obtain ⟨v28, ev28, h⟩ := ob_some h
      refine ex_rI (pc := 16) ev28 dX11_layCommon_16 ?_
      refine ex_istore_n (pc := 17) [(2, .int v28), (0, .ref x0), (1, .int x1)] dX11_layCommon_17 rfl (by decide) rfl ?_
      refine ex_sub (lo' := [(0, .ref x0), (1, .int x1), (2, .int v28)]) [1, 2, 0] rfl ?_
      exact t_X11_layCommon_18 hd ih _ _ _ _ _ _  h
noncomputable def f_X11_layCommon_0 (x0 : Nat) (M : Mem) : Option (Mem) :=
  (gR M 11 x0 0).bind fun v29 =>
  (rI M v29 4).bind fun v30 =>
  f_X11_layCommon_7 fu x0 v30 M
set_option maxHeartbeats 4000000 in
theorem t_X11_layCommon_0 {X : XV} {d : Nat} (hd : 1 ≤ d + 1) : ∀ (x0 : Nat) (M : Mem) (res : Mem), f_X11_layCommon_0  x0 M = some res → Ex X (d + 1) mX11_layCommon 0 [(0, .ref x0)] [] M none res := by
  intro x0 M res  h
  unfold f_X11_layCommon_0 at h
  refine ex_aload_n (pc := 0) 0 dX11_layCommon_0 rfl rfl ?_
  obtain ⟨v29, ev29, h⟩ := ob_some h
  refine ex_gR (pc := 1) ev29 dX11_layCommon_1 lfX11_7 ?_
  refine ex_iconst (pc := 4) 4 dX11_layCommon_4 rfl ?_
  obtain ⟨v30, ev30, h⟩ := ob_some h
  refine ex_rI (pc := 5) ev30 dX11_layCommon_5 ?_
  refine ex_istore_n (pc := 6) [(1, .int v30), (0, .ref x0)] dX11_layCommon_6 rfl (by decide) rfl ?_
  refine ex_sub (lo' := [(0, .ref x0), (1, .int v30)]) [1, 0] rfl ?_
  exact t_X11_layCommon_7 hd  _ _ _ _ _  h
noncomputable def f_X11_layCommon (x0 : Nat) (M : Mem) : Option (Mem) := if isOb M 11 x0 = true then f_X11_layCommon_0 x0 M else none
theorem o_X11_layCommon {x0 : Nat} {M : Mem} {res : Mem} (h : f_X11_layCommon x0 M = some res) : isO M 11 x0 := by
  unfold f_X11_layCommon at h
  split at h
  · rename_i hc; exact isOb_iff hc
  · cases h
set_option maxHeartbeats 4000000 in
theorem s_X11_layCommon {X : XV} {d : Nat} (hd : 1 ≤ d) {x0 : Nat} {M : Mem} {res : Mem} (h : f_X11_layCommon x0 M = some res) : Mx X d mX11_layCommon [.ref x0] M none res := by
  obtain ⟨d, rfl⟩ : ∃ e, d = e + 1 := ⟨d - 1, by omega⟩
  unfold f_X11_layCommon at h
  split at h
  rotate_left
  · cases h
  refine Mx.of (by decide) (Nat.le_of_ble_eq_true rfl) (rfl) ?_
  exact ex_sub (lo' := [(0, .ref x0)]) [0] rfl (t_X11_layCommon_0 hd _ _ _  h)
noncomputable def f_X11_firstOf_3 (n0 : Nat) (x0 : Nat) (x1 : Int32) (x2 : Int32) (x4 : Int32) (x5 : Int32) (M : Mem) : Option (Int32) :=
  match n0 with
  | 0 => none
  | n + 1 =>
    (gR M 11 x0 0).bind fun v1 =>
    (rI M v1 x2).bind fun v2 =>
    if v2 ≤ x5 then
    (some (-1))
    else
    ((gR M 11 x0 0).bind fun v4 =>
    (rI M v4 (x1 + x5)).bind fun v5 =>
    if v5 = x4 then
    (some (x5 + 1))
    else
    (f_X11_firstOf_3 n x0 x1 x2 x4 (x5 + 1) M))
set_option maxHeartbeats 4000000 in
theorem t_X11_firstOf_3 {X : XV} {d : Nat} (hd : 1 ≤ d + 1) : ∀ (n : Nat) (x0 : Nat) (x1 : Int32) (x2 : Int32) (x4 : Int32) (x5 : Int32) (M : Mem) (res : Int32), f_X11_firstOf_3 n  x0 x1 x2 x4 x5 M = some res → Ex X (d + 1) mX11_firstOf 3 [(0, .ref x0), (1, .int x1), (2, .int x2), (4, .int x4), (5, .int x5)] [] M (some (.int res)) M := by
  intro n
  induction n with
  | zero =>
    intro x0 x1 x2 x4 x5 M res  h
    unfold f_X11_firstOf_3 at h
    cases h
  | succ n ih =>
    intro x0 x1 x2 x4 x5 M res  h
    unfold f_X11_firstOf_3 at h
    refine ex_iload (pc := 3) 4 dX11_firstOf_3 rfl ?_
    refine ex_aload_n (pc := 5) 0 dX11_firstOf_5 rfl rfl ?_
    obtain ⟨v1, ev1, h⟩ := ob_some h
    refine ex_gR (pc := 6) ev1 dX11_firstOf_6 lfX11_7 ?_
    refine ex_iload_n (pc := 9) 2 dX11_firstOf_9 rfl rfl ?_
    obtain ⟨v2, ev2, h⟩ := ob_some h
    refine ex_rI (pc := 10) ev2 dX11_firstOf_10 ?_
    by_cases c3 : v2 ≤ x5
    · rw [if_pos c3] at h
      refine ex_icmp_ge_t (pc := 11) 39 dX11_firstOf_11 rfl c3 ?_
      refine ex_iconst (pc := 39) (-1) dX11_firstOf_39 rfl ?_
      cases h
      exact ex_ireturn (pc := 40) dX11_firstOf_40
    · rw [if_neg c3] at h
      refine ex_icmp_ge_f (pc := 11) dX11_firstOf_11 39 rfl c3 ?_
      refine ex_aload_n (pc := 14) 0 dX11_firstOf_14 rfl rfl ?_
      obtain ⟨v4, ev4, h⟩ := ob_some h
      refine ex_gR (pc := 15) ev4 dX11_firstOf_15 lfX11_7 ?_
      refine ex_iload_n (pc := 18) 1 dX11_firstOf_18 rfl rfl ?_
      refine ex_iload (pc := 19) 4 dX11_firstOf_19 rfl ?_
      refine ex_iadd (pc := 21) dX11_firstOf_21 ?_
      obtain ⟨v5, ev5, h⟩ := ob_some h
      refine ex_rI (pc := 22) ev5 dX11_firstOf_22 ?_
      refine ex_iload (pc := 23) 3 dX11_firstOf_23 rfl ?_
      by_cases c6 : v5 = x4
      · rw [if_pos c6] at h
        refine ex_icmp_ne_f (pc := 25) dX11_firstOf_25 33 rfl c6 ?_
        refine ex_iload (pc := 28) 4 dX11_firstOf_28 rfl ?_
        refine ex_iconst (pc := 30) 1 dX11_firstOf_30 rfl ?_
        refine ex_iadd (pc := 31) dX11_firstOf_31 ?_
        cases h
        exact ex_ireturn (pc := 32) dX11_firstOf_32
      · rw [if_neg c6] at h
        refine ex_icmp_ne_t (pc := 25) 33 dX11_firstOf_25 rfl c6 ?_
        refine ex_iinc (pc := 33) (x5 + 1) 4 [(5, .int (x5 + 1)), (0, .ref x0), (1, .int x1), (2, .int x2), (4, .int x4)] dX11_firstOf_33 rfl rfl (by decide) rfl ?_
        refine ex_goto (pc := 36) 3 dX11_firstOf_36 rfl ?_
        refine ex_sub (lo' := [(0, .ref x0), (1, .int x1), (2, .int x2), (4, .int x4), (5, .int (x5 + 1))]) [1, 2, 3, 4, 0] rfl ?_
        exact ih _ _ _ _ _ _ _  h
noncomputable def f_X11_firstOf_0 (x0 : Nat) (x1 : Int32) (x2 : Int32) (x3 : Int32) (x4 : Int32) (M : Mem) : Option (Int32) :=
  f_X11_firstOf_3 fu x0 x1 x2 x4 x3 M
set_option maxHeartbeats 4000000 in
theorem t_X11_firstOf_0 {X : XV} {d : Nat} (hd : 1 ≤ d + 1) : ∀ (x0 : Nat) (x1 : Int32) (x2 : Int32) (x3 : Int32) (x4 : Int32) (M : Mem) (res : Int32), f_X11_firstOf_0  x0 x1 x2 x3 x4 M = some res → Ex X (d + 1) mX11_firstOf 0 [(0, .ref x0), (1, .int x1), (2, .int x2), (3, .int x3), (4, .int x4)] [] M (some (.int res)) M := by
  intro x0 x1 x2 x3 x4 M res  h
  unfold f_X11_firstOf_0 at h
  refine ex_iload_n (pc := 0) 3 dX11_firstOf_0 rfl rfl ?_
  refine ex_istore (pc := 1) [(5, .int x3), (0, .ref x0), (1, .int x1), (2, .int x2), (3, .int x3), (4, .int x4)] dX11_firstOf_1 (by decide) rfl ?_
  refine ex_sub (lo' := [(0, .ref x0), (1, .int x1), (2, .int x2), (4, .int x4), (5, .int x3)]) [1, 2, 3, 5, 0] rfl ?_
  exact t_X11_firstOf_3 hd  _ _ _ _ _ _ _ _  h
noncomputable def f_X11_firstOf (x0 : Nat) (x1 : Int32) (x2 : Int32) (x3 : Int32) (x4 : Int32) (M : Mem) : Option (Int32) := if isOb M 11 x0 = true then f_X11_firstOf_0 x0 x1 x2 x3 x4 M else none
theorem o_X11_firstOf {x0 : Nat} {x1 : Int32} {x2 : Int32} {x3 : Int32} {x4 : Int32} {M : Mem} {res : Int32} (h : f_X11_firstOf x0 x1 x2 x3 x4 M = some res) : isO M 11 x0 := by
  unfold f_X11_firstOf at h
  split at h
  · rename_i hc; exact isOb_iff hc
  · cases h
set_option maxHeartbeats 4000000 in
theorem s_X11_firstOf {X : XV} {d : Nat} (hd : 1 ≤ d) {x0 : Nat} {x1 : Int32} {x2 : Int32} {x3 : Int32} {x4 : Int32} {M : Mem} {res : Int32} (h : f_X11_firstOf x0 x1 x2 x3 x4 M = some res) : Mx X d mX11_firstOf [.ref x0, .int x1, .int x2, .int x3, .int x4] M (some (.int res)) M := by
  obtain ⟨d, rfl⟩ : ∃ e, d = e + 1 := ⟨d - 1, by omega⟩
  unfold f_X11_firstOf at h
  split at h
  rotate_left
  · cases h
  refine Mx.of (by decide) (Nat.le_of_ble_eq_true rfl) (⟨_, rfl, rfl⟩) ?_
  exact ex_sub (lo' := [(0, .ref x0), (1, .int x1), (2, .int x2), (3, .int x3), (4, .int x4)]) [0, 1, 2, 3, 4] rfl (t_X11_firstOf_0 hd _ _ _ _ _ _ _  h)
noncomputable def f_X11_isNextOf_0 (x0 : Nat) (x1 : Int32) (x2 : Int32) (x3 : Int32) (x4 : Int32) (M : Mem) : Option (Bool) :=
  (f_X11_firstOf x0 121 4 x1 x3 M).bind fun v1 =>
  (f_X11_firstOf x0 133 5 x2 x3 M).bind fun v2 =>
  if v1 = (-1) then
  (some false)
  else
  (if v2 = (-1) then
  (some false)
  else
  ((gR M 11 x0 30).bind fun v5 =>
  (rI M v5 ((13 * v1) + v2)).bind fun v6 =>
  if (1 + v6) = x4 then
  (some true)
  else
  (some false)))
set_option maxHeartbeats 4000000 in
theorem t_X11_isNextOf_0 {X : XV} {d : Nat} (hd : 2 ≤ d + 1) : ∀ (x0 : Nat) (x1 : Int32) (x2 : Int32) (x3 : Int32) (x4 : Int32) (M : Mem) (res : Bool), f_X11_isNextOf_0  x0 x1 x2 x3 x4 M = some res → Ex X (d + 1) mX11_isNextOf 0 [(0, .ref x0), (1, .int x1), (2, .int x2), (3, .int x3), (4, .int x4)] [] M (some (.int (jz res))) M := by
  intro x0 x1 x2 x3 x4 M res  h
  unfold f_X11_isNextOf_0 at h
  refine ex_aload_n (pc := 0) 0 dX11_isNextOf_0 rfl rfl ?_
  refine ex_bipush (pc := 1) 121 dX11_isNextOf_1 (by decide) ?_
  refine ex_iconst (pc := 3) 4 dX11_isNextOf_3 rfl ?_
  refine ex_iload_n (pc := 4) 1 dX11_isNextOf_4 rfl rfl ?_
  refine ex_iload_n (pc := 5) 3 dX11_isNextOf_5 rfl rfl ?_
  obtain ⟨v1, ev1, h⟩ := ob_some h
  refine ex_callV4r (pc := 6) dX11_isNextOf_6 jX11_firstOf lmX11_474 jiX11_firstOf jvX11_firstOf (o_X11_firstOf ev1) rfl (Nat.le_of_ble_eq_true rfl) (s_X11_firstOf (by omega)  ev1) ?_
  refine ex_istore (pc := 9) [(5, .int v1), (0, .ref x0), (1, .int x1), (2, .int x2), (3, .int x3), (4, .int x4)] dX11_isNextOf_9 (by decide) rfl ?_
  refine ex_aload_n (pc := 11) 1 dX11_isNextOf_11 rfl rfl ?_
  refine ex_sipush (pc := 12) 133 dX11_isNextOf_12 (by decide) ?_
  refine ex_iconst (pc := 15) 5 dX11_isNextOf_15 rfl ?_
  refine ex_iload_n (pc := 16) 3 dX11_isNextOf_16 rfl rfl ?_
  refine ex_iload_n (pc := 17) 4 dX11_isNextOf_17 rfl rfl ?_
  obtain ⟨v2, ev2, h⟩ := ob_some h
  refine ex_callV4r (pc := 18) dX11_isNextOf_18 jX11_firstOf lmX11_474 jiX11_firstOf jvX11_firstOf (o_X11_firstOf ev2) rfl (Nat.le_of_ble_eq_true rfl) (s_X11_firstOf (by omega)  ev2) ?_
  refine ex_istore (pc := 21) [(6, .int v2), (5, .int v1), (0, .ref x0), (1, .int x1), (2, .int x2), (3, .int x3), (4, .int x4)] dX11_isNextOf_21 (by decide) rfl ?_
  refine ex_iload (pc := 23) 1 dX11_isNextOf_23 rfl ?_
  refine ex_iconst (pc := 25) (-1) dX11_isNextOf_25 rfl ?_
  by_cases c3 : v1 = (-1)
  · rw [if_pos c3] at h
    refine ex_icmp_eq_t (pc := 26) 59 dX11_isNextOf_26 rfl c3 ?_
    refine ex_iconst (pc := 59) 0 dX11_isNextOf_59 rfl ?_
    cases h
    exact ex_ireturn (pc := 60) dX11_isNextOf_60
  · rw [if_neg c3] at h
    refine ex_icmp_eq_f (pc := 26) dX11_isNextOf_26 59 rfl c3 ?_
    refine ex_iload (pc := 29) 0 dX11_isNextOf_29 rfl ?_
    refine ex_iconst (pc := 31) (-1) dX11_isNextOf_31 rfl ?_
    by_cases c4 : v2 = (-1)
    · rw [if_pos c4] at h
      refine ex_icmp_eq_t (pc := 32) 59 dX11_isNextOf_32 rfl c4 ?_
      refine ex_iconst (pc := 59) 0 dX11_isNextOf_59 rfl ?_
      cases h
      exact ex_ireturn (pc := 60) dX11_isNextOf_60
    · rw [if_neg c4] at h
      refine ex_icmp_eq_f (pc := 32) dX11_isNextOf_32 59 rfl c4 ?_
      refine ex_iconst (pc := 35) 1 dX11_isNextOf_35 rfl ?_
      refine ex_aload_n (pc := 36) 2 dX11_isNextOf_36 rfl rfl ?_
      obtain ⟨v5, ev5, h⟩ := ob_some h
      refine ex_gR (pc := 37) ev5 dX11_isNextOf_37 lfX11_62 ?_
      refine ex_bipush (pc := 40) 13 dX11_isNextOf_40 (by decide) ?_
      refine ex_iload (pc := 42) 1 dX11_isNextOf_42 rfl ?_
      refine ex_imul (pc := 44) dX11_isNextOf_44 ?_
      refine ex_iload (pc := 45) 0 dX11_isNextOf_45 rfl ?_
      refine ex_iadd (pc := 47) dX11_isNextOf_47 ?_
      obtain ⟨v6, ev6, h⟩ := ob_some h
      refine ex_rI (pc := 48) ev6 dX11_isNextOf_48 ?_
      refine ex_iadd (pc := 49) dX11_isNextOf_49 ?_
      refine ex_iload (pc := 50) 6 dX11_isNextOf_50 rfl ?_
      by_cases c7 : (1 + v6) = x4
      · rw [if_pos c7] at h
        refine ex_icmp_ne_f (pc := 52) dX11_isNextOf_52 59 rfl c7 ?_
        refine ex_iconst (pc := 55) 1 dX11_isNextOf_55 rfl ?_
        refine ex_goto (pc := 56) 60 dX11_isNextOf_56 rfl ?_
        cases h
        exact ex_ireturn (pc := 60) dX11_isNextOf_60
      · rw [if_neg c7] at h
        refine ex_icmp_ne_t (pc := 52) 59 dX11_isNextOf_52 rfl c7 ?_
        refine ex_iconst (pc := 59) 0 dX11_isNextOf_59 rfl ?_
        cases h
        exact ex_ireturn (pc := 60) dX11_isNextOf_60
noncomputable def f_X11_isNextOf (x0 : Nat) (x1 : Int32) (x2 : Int32) (x3 : Int32) (x4 : Int32) (M : Mem) : Option (Bool) := if isOb M 11 x0 = true then f_X11_isNextOf_0 x0 x1 x2 x3 x4 M else none
theorem o_X11_isNextOf {x0 : Nat} {x1 : Int32} {x2 : Int32} {x3 : Int32} {x4 : Int32} {M : Mem} {res : Bool} (h : f_X11_isNextOf x0 x1 x2 x3 x4 M = some res) : isO M 11 x0 := by
  unfold f_X11_isNextOf at h
  split at h
  · rename_i hc; exact isOb_iff hc
  · cases h
set_option maxHeartbeats 4000000 in
theorem s_X11_isNextOf {X : XV} {d : Nat} (hd : 2 ≤ d) {x0 : Nat} {x1 : Int32} {x2 : Int32} {x3 : Int32} {x4 : Int32} {M : Mem} {res : Bool} (h : f_X11_isNextOf x0 x1 x2 x3 x4 M = some res) : Mx X d mX11_isNextOf [.ref x0, .int x1, .int x2, .int x3, .int x4] M (some (.int (jz res))) M := by
  obtain ⟨d, rfl⟩ : ∃ e, d = e + 1 := ⟨d - 1, by omega⟩
  unfold f_X11_isNextOf at h
  split at h
  rotate_left
  · cases h
  refine Mx.of (by decide) (Nat.le_of_ble_eq_true rfl) (⟨_, rfl, jz_nar _⟩) ?_
  exact ex_sub (lo' := [(0, .ref x0), (1, .int x1), (2, .int x2), (3, .int x3), (4, .int x4)]) [0, 1, 2, 3, 4] rfl (t_X11_isNextOf_0 hd _ _ _ _ _ _ _  h)
noncomputable def f_X11_common_52 (n0 : Nat) (k43 : Nat → Int32 → Int32 → Int32 → Int32 → Int32 → Int32 → Mem → Option (Int32 × Mem)) (x0 : Nat) (x1 : Int32) (x2 : Int32) (x3 : Int32) (x4 : Int32) (x5 : Int32) (x6 : Int32) (M : Mem) : Option (Int32 × Mem) :=
  match n0 with
  | 0 => none
  | n + 1 =>
    (f_X11_isNextOf x0 x3 x4 x5 x2 M).bind fun v1 =>
    if v1 = true then
    ((f_X11_firstOf x0 121 4 x3 x5 M).bind fun v3 =>
    (f_X11_firstOf x0 133 5 x4 x5 M).bind fun v4 =>
    k43 x0 x1 (x2 + (-1)) v3 v4 x5 (x6 + 1) M)
    else
    (f_X11_common_52 n k43 x0 x1 x2 x3 x4 (x5 + 1) x6 M)
set_option maxHeartbeats 4000000 in
theorem t_X11_common_52 {X : XV} {d : Nat} (hd : 3 ≤ d + 1) {k43 : Nat → Int32 → Int32 → Int32 → Int32 → Int32 → Int32 → Mem → Option (Int32 × Mem)} (hk43 : ∀ (x0 : Nat) (x1 : Int32) (x2 : Int32) (x3 : Int32) (x4 : Int32) (x5 : Int32) (x6 : Int32) (M : Mem) (res : Int32 × Mem), k43 x0 x1 x2 x3 x4 x5 x6 M = some res → Ex X (d + 1) mX11_common 43 [(0, .ref x0), (1, .int x1), (2, .int x2), (3, .int x3), (4, .int x4), (5, .int x5), (6, .int x6)] [] M (some (.int res.1)) res.2) : ∀ (n : Nat) (x0 : Nat) (x1 : Int32) (x2 : Int32) (x3 : Int32) (x4 : Int32) (x5 : Int32) (x6 : Int32) (M : Mem) (res : Int32 × Mem), f_X11_common_52 n k43 x0 x1 x2 x3 x4 x5 x6 M = some res → Ex X (d + 1) mX11_common 52 [(0, .ref x0), (1, .int x1), (2, .int x2), (3, .int x3), (4, .int x4), (5, .int x5), (6, .int x6)] [] M (some (.int res.1)) res.2 := by
  intro n
  induction n with
  | zero =>
    intro x0 x1 x2 x3 x4 x5 x6 M res  h
    unfold f_X11_common_52 at h
    cases h
  | succ n ih =>
    intro x0 x1 x2 x3 x4 x5 x6 M res  h
    unfold f_X11_common_52 at h
    refine ex_aload_n (pc := 52) 0 dX11_common_52 rfl rfl ?_
    refine ex_iload_n (pc := 53) 3 dX11_common_53 rfl rfl ?_
    refine ex_iload (pc := 54) 4 dX11_common_54 rfl ?_
    refine ex_iload (pc := 56) 5 dX11_common_56 rfl ?_
    refine ex_iload_n (pc := 58) 2 dX11_common_58 rfl rfl ?_
    obtain ⟨v1, ev1, h⟩ := ob_some h
    refine ex_callV4r (pc := 59) dX11_common_59 jX11_isNextOf lmX11_470 jiX11_isNextOf jvX11_isNextOf (o_X11_isNextOf ev1) rfl (Nat.le_of_ble_eq_true rfl) (s_X11_isNextOf (by omega)  ev1) ?_
    by_cases c2 : v1 = true
    · rw [if_pos c2] at h
      refine ex_if_ne_t (pc := 62) 71 dX11_common_62 rfl (jz_ne_t c2) ?_
      refine ex_aload_n (pc := 71) 0 dX11_common_71 rfl rfl ?_
      refine ex_bipush (pc := 72) 121 dX11_common_72 (by decide) ?_
      refine ex_iconst (pc := 74) 4 dX11_common_74 rfl ?_
      refine ex_iload_n (pc := 75) 3 dX11_common_75 rfl rfl ?_
      refine ex_iload (pc := 76) 5 dX11_common_76 rfl ?_
      obtain ⟨v3, ev3, h⟩ := ob_some h
      refine ex_callV4r (pc := 78) dX11_common_78 jX11_firstOf lmX11_474 jiX11_firstOf jvX11_firstOf (o_X11_firstOf ev3) rfl (Nat.le_of_ble_eq_true rfl) (s_X11_firstOf (by omega)  ev3) ?_
      refine ex_istore_n (pc := 81) [(3, .int v3), (0, .ref x0), (1, .int x1), (2, .int x2), (4, .int x4), (5, .int x5), (6, .int x6)] dX11_common_81 rfl (by decide) rfl ?_
      refine ex_aload_n (pc := 82) 1 dX11_common_82 rfl rfl ?_
      refine ex_sipush (pc := 83) 133 dX11_common_83 (by decide) ?_
      refine ex_iconst (pc := 86) 5 dX11_common_86 rfl ?_
      refine ex_iload (pc := 87) 4 dX11_common_87 rfl ?_
      refine ex_iload (pc := 89) 5 dX11_common_89 rfl ?_
      obtain ⟨v4, ev4, h⟩ := ob_some h
      refine ex_callV4r (pc := 91) dX11_common_91 jX11_firstOf lmX11_474 jiX11_firstOf jvX11_firstOf (o_X11_firstOf ev4) rfl (Nat.le_of_ble_eq_true rfl) (s_X11_firstOf (by omega)  ev4) ?_
      refine ex_istore (pc := 94) [(4, .int v4), (3, .int v3), (0, .ref x0), (1, .int x1), (2, .int x2), (5, .int x5), (6, .int x6)] dX11_common_94 (by decide) rfl ?_
      refine ex_iinc (pc := 96) (x2 + (-1)) 4 [(2, .int (x2 + (-1))), (4, .int v4), (3, .int v3), (0, .ref x0), (1, .int x1), (5, .int x5), (6, .int x6)] dX11_common_96 rfl rfl (by decide) rfl ?_
      refine ex_iinc (pc := 99) (x6 + 1) 6 [(6, .int (x6 + 1)), (2, .int (x2 + (-1))), (4, .int v4), (3, .int v3), (0, .ref x0), (1, .int x1), (5, .int x5)] dX11_common_99 rfl rfl (by decide) rfl ?_
      refine ex_goto (pc := 102) 43 dX11_common_102 rfl ?_
      refine ex_sub (lo' := [(0, .ref x0), (1, .int x1), (2, .int (x2 + (-1))), (3, .int v3), (4, .int v4), (5, .int x5), (6, .int (x6 + 1))]) [4, 5, 1, 3, 2, 6, 0] rfl ?_
      exact hk43 _ _ _ _ _ _ _ _ _  h
    · rw [if_neg c2] at h
      refine ex_if_ne_f (pc := 62) dX11_common_62 71 rfl (jz_ne_f c2) ?_
      refine ex_iinc (pc := 65) (x5 + 1) 5 [(5, .int (x5 + 1)), (0, .ref x0), (1, .int x1), (2, .int x2), (3, .int x3), (4, .int x4), (6, .int x6)] dX11_common_65 rfl rfl (by decide) rfl ?_
      refine ex_goto (pc := 68) 52 dX11_common_68 rfl ?_
      refine ex_sub (lo' := [(0, .ref x0), (1, .int x1), (2, .int x2), (3, .int x3), (4, .int x4), (5, .int (x5 + 1)), (6, .int x6)]) [1, 2, 3, 4, 5, 0, 6] rfl ?_
      exact ih _ _ _ _ _ _ _ _ _  h
noncomputable def f_X11_common_43 (n0 : Nat) (x0 : Nat) (x1 : Int32) (x2 : Int32) (x3 : Int32) (x4 : Int32) (x5 : Int32) (x6 : Int32) (M : Mem) : Option (Int32 × Mem) :=
  match n0 with
  | 0 => none
  | n + 1 =>
    if x1 < x6 then
    (some (x5, M))
    else
    (f_X11_common_52 fu (f_X11_common_43 n) x0 x1 x2 x3 x4 0 x6 M)
set_option maxHeartbeats 4000000 in
theorem t_X11_common_43 {X : XV} {d : Nat} (hd : 3 ≤ d + 1) : ∀ (n : Nat) (x0 : Nat) (x1 : Int32) (x2 : Int32) (x3 : Int32) (x4 : Int32) (x5 : Int32) (x6 : Int32) (M : Mem) (res : Int32 × Mem), f_X11_common_43 n  x0 x1 x2 x3 x4 x5 x6 M = some res → Ex X (d + 1) mX11_common 43 [(0, .ref x0), (1, .int x1), (2, .int x2), (3, .int x3), (4, .int x4), (5, .int x5), (6, .int x6)] [] M (some (.int res.1)) res.2 := by
  intro n
  induction n with
  | zero =>
    intro x0 x1 x2 x3 x4 x5 x6 M res  h
    unfold f_X11_common_43 at h
    cases h
  | succ n ih =>
    intro x0 x1 x2 x3 x4 x5 x6 M res  h
    unfold f_X11_common_43 at h
    refine ex_iload (pc := 43) 6 dX11_common_43 rfl ?_
    refine ex_iload_n (pc := 45) 1 dX11_common_45 rfl rfl ?_
    by_cases c5 : x1 < x6
    · rw [if_pos c5] at h
      refine ex_icmp_gt_t (pc := 46) 105 dX11_common_46 rfl c5 ?_
      refine ex_iload (pc := 105) 5 dX11_common_105 rfl ?_
      cases h
      exact ex_ireturn (pc := 107) dX11_common_107
    · rw [if_neg c5] at h
      refine ex_icmp_gt_f (pc := 46) dX11_common_46 105 rfl c5 ?_
      refine ex_iconst (pc := 49) 0 dX11_common_49 rfl ?_
      refine ex_istore (pc := 50) [(5, .int 0), (0, .ref x0), (1, .int x1), (2, .int x2), (3, .int x3), (4, .int x4), (6, .int x6)] dX11_common_50 (by decide) rfl ?_
      refine ex_sub (lo' := [(0, .ref x0), (1, .int x1), (2, .int x2), (3, .int x3), (4, .int x4), (5, .int 0), (6, .int x6)]) [1, 2, 3, 4, 5, 0, 6] rfl ?_
      exact t_X11_common_52 hd ih _ _ _ _ _ _ _ _ _ _  h
noncomputable def f_X11_common_0 (x0 : Nat) (x1 : Int32) (M : Mem) : Option (Int32 × Mem) :=
  (f_X11_layCommon x0 M).bind fun q6 =>
  (gR q6 11 x0 30).bind fun v7 =>
  (rI q6 v7 0).bind fun v8 =>
  (f_X11_isIn x1 (-1) (v8 - 1)).bind fun v9 =>
  if v9 = true then
  (if x1 = (-1) then
  (some (v8, q6))
  else
  (f_X11_common_43 fu x0 x1 v8 0 0 0 0 q6))
  else
  (some ((-2), q6))
set_option maxHeartbeats 4000000 in
theorem t_X11_common_0 {X : XV} {d : Nat} (hd : 3 ≤ d + 1) : ∀ (x0 : Nat) (x1 : Int32) (M : Mem) (res : Int32 × Mem), f_X11_common_0  x0 x1 M = some res → Ex X (d + 1) mX11_common 0 [(0, .ref x0), (1, .int x1)] [] M (some (.int res.1)) res.2 := by
  intro x0 x1 M res  h
  unfold f_X11_common_0 at h
  refine ex_aload_n (pc := 0) 0 dX11_common_0 rfl rfl ?_
  obtain ⟨q6, eq6, h⟩ := ob_some h
  refine ex_callV0v (pc := 1) dX11_common_1 jX11_layCommon lmX11_467 jiX11_layCommon jvX11_layCommon (o_X11_layCommon eq6) rfl (Nat.le_of_ble_eq_true rfl) (s_X11_layCommon (by omega)  eq6) ?_
  refine ex_aload_n (pc := 4) 0 dX11_common_4 rfl rfl ?_
  obtain ⟨v7, ev7, h⟩ := ob_some h
  refine ex_gR (pc := 5) ev7 dX11_common_5 lfX11_62 ?_
  refine ex_iconst (pc := 8) 0 dX11_common_8 rfl ?_
  obtain ⟨v8, ev8, h⟩ := ob_some h
  refine ex_rI (pc := 9) ev8 dX11_common_9 ?_
  refine ex_istore_n (pc := 10) [(2, .int v8), (0, .ref x0), (1, .int x1)] dX11_common_10 rfl (by decide) rfl ?_
  refine ex_iload_n (pc := 11) 2 dX11_common_11 rfl rfl ?_
  refine ex_iconst (pc := 12) (-1) dX11_common_12 rfl ?_
  refine ex_iload_n (pc := 13) 0 dX11_common_13 rfl rfl ?_
  refine ex_iconst (pc := 14) 1 dX11_common_14 rfl ?_
  refine ex_isub (pc := 15) dX11_common_15 ?_
  obtain ⟨v9, ev9, h⟩ := ob_some h
  refine ex_callS3r (pc := 16) dX11_common_16 jX11_isIn lmX11_87 jsX11_isIn (Nat.le_of_ble_eq_true rfl) (s_X11_isIn (by omega)  ev9) ?_
  by_cases c10 : v9 = true
  · rw [if_pos c10] at h
    refine ex_if_ne_t (pc := 19) 25 dX11_common_19 rfl (jz_ne_t c10) ?_
    refine ex_iload_n (pc := 25) 2 dX11_common_25 rfl rfl ?_
    refine ex_iconst (pc := 26) (-1) dX11_common_26 rfl ?_
    by_cases c11 : x1 = (-1)
    · rw [if_pos c11] at h
      refine ex_icmp_ne_f (pc := 27) dX11_common_27 32 rfl c11 ?_
      refine ex_iload_n (pc := 30) 0 dX11_common_30 rfl rfl ?_
      cases h
      exact ex_ireturn (pc := 31) dX11_common_31
    · rw [if_neg c11] at h
      refine ex_icmp_ne_t (pc := 27) 32 dX11_common_27 rfl c11 ?_
      refine ex_iconst (pc := 32) 0 dX11_common_32 rfl ?_
      refine ex_istore_n (pc := 33) [(3, .int 0), (2, .int v8), (0, .ref x0), (1, .int x1)] dX11_common_33 rfl (by decide) rfl ?_
      refine ex_iconst (pc := 34) 0 dX11_common_34 rfl ?_
      refine ex_istore (pc := 35) [(4, .int 0), (3, .int 0), (2, .int v8), (0, .ref x0), (1, .int x1)] dX11_common_35 (by decide) rfl ?_
      refine ex_iconst (pc := 37) 0 dX11_common_37 rfl ?_
      refine ex_istore (pc := 38) [(5, .int 0), (4, .int 0), (3, .int 0), (2, .int v8), (0, .ref x0), (1, .int x1)] dX11_common_38 (by decide) rfl ?_
      refine ex_iconst (pc := 40) 0 dX11_common_40 rfl ?_
      refine ex_istore (pc := 41) [(6, .int 0), (5, .int 0), (4, .int 0), (3, .int 0), (2, .int v8), (0, .ref x0), (1, .int x1)] dX11_common_41 (by decide) rfl ?_
      refine ex_sub (lo' := [(0, .ref x0), (1, .int x1), (2, .int v8), (3, .int 0), (4, .int 0), (5, .int 0), (6, .int 0)]) [5, 6, 4, 3, 2, 1, 0] rfl ?_
      exact t_X11_common_43 hd  _ _ _ _ _ _ _ _ _ _  h
  · rw [if_neg c10] at h
    refine ex_if_ne_f (pc := 19) dX11_common_19 25 rfl (jz_ne_f c10) ?_
    refine ex_bipush (pc := 22) (-2) dX11_common_22 (by decide) ?_
    cases h
    exact ex_ireturn (pc := 24) dX11_common_24
noncomputable def f_X11_common (x0 : Nat) (x1 : Int32) (M : Mem) : Option (Int32 × Mem) := if isOb M 11 x0 = true then f_X11_common_0 x0 x1 M else none
theorem o_X11_common {x0 : Nat} {x1 : Int32} {M : Mem} {res : Int32 × Mem} (h : f_X11_common x0 x1 M = some res) : isO M 11 x0 := by
  unfold f_X11_common at h
  split at h
  · rename_i hc; exact isOb_iff hc
  · cases h
set_option maxHeartbeats 4000000 in
theorem s_X11_common {X : XV} {d : Nat} (hd : 3 ≤ d) {x0 : Nat} {x1 : Int32} {M : Mem} {res : Int32 × Mem} (h : f_X11_common x0 x1 M = some res) : Mx X d mX11_common [.ref x0, .int x1] M (some (.int res.1)) res.2 := by
  obtain ⟨d, rfl⟩ : ∃ e, d = e + 1 := ⟨d - 1, by omega⟩
  unfold f_X11_common at h
  split at h
  rotate_left
  · cases h
  refine Mx.of (by decide) (Nat.le_of_ble_eq_true rfl) (⟨_, rfl, rfl⟩) ?_
  exact ex_sub (lo' := [(0, .ref x0), (1, .int x1)]) [0, 1] rfl (t_X11_common_0 hd _ _ _ _  h)
