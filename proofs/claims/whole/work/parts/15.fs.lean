noncomputable def b_X2_readAsk_0 (rec : Nat → Nat → Int32 → Mem → Option (Bool × Mem)) (x0 : Nat) (M : Mem) : Option (Bool × Mem) :=
  (gR M 2 x0 0).bind fun v1 =>
  (gI M 7 v1 2).bind fun v2 =>
  if v2 = 26 then
  ((gI M 2 x0 4).bind fun v4 =>
  if v4 < 8 then
  ((gI M 2 x0 4).bind fun v6 =>
  (pF M 2 x0 4 (.int (v6 + 1))).bind fun q7 =>
  (gR q7 2 x0 0).bind fun v8 =>
  (f_X7_advance v8 q7).bind fun q9 =>
  (rec 0 x0 0 q9).bind fun q10 =>
  (gI q10.2 2 x0 4).bind fun v11 =>
  (pF q10.2 2 x0 4 (.int (v11 - 1))).bind fun q12 =>
  (f_X2_order x0 26 0 q12).bind fun q13 =>
  some (q10.1, q13.2))
  else
  ((f_X2_refuse x0 3 M).bind fun q14 =>
  some (q14.1, q14.2)))
  else
  ((rec 3 x0 0 M).bind fun q15 =>
  some (q15.1, q15.2))
set_option maxHeartbeats 4000000 in
theorem t_X2_readAsk_0 {X : XV} {d : Nat} {rec : Nat → Nat → Int32 → Mem → Option (Bool × Mem)} (hrec : rdOK X d rec) (hd : 7 ≤ d + 1) : ∀ (x0 : Nat) (M : Mem) (res : Bool × Mem), b_X2_readAsk_0 rec  x0 M = some res → Ex X (d + 1) mX2_readAsk 0 [(0, .ref x0)] [] M (some (.int (jz res.1))) res.2 := by
  intro x0 M res  h
  unfold b_X2_readAsk_0 at h
  refine ex_aload_n (pc := 0) 0 dX2_readAsk_0 rfl rfl ?_
  obtain ⟨v1, ev1, h⟩ := ob_some h
  refine ex_gR (pc := 1) ev1 dX2_readAsk_1 lfX2_34 ?_
  obtain ⟨v2, ev2, h⟩ := ob_some h
  refine ex_gI (pc := 4) ev2 dX2_readAsk_4 lfX2_58 ?_
  refine ex_bipush (pc := 7) 26 dX2_readAsk_7 (by decide) ?_
  by_cases c3 : v2 = 26
  · rw [if_pos c3] at h
    refine ex_icmp_eq_t (pc := 9) 17 dX2_readAsk_9 rfl c3 ?_
    refine ex_aload_n (pc := 17) 0 dX2_readAsk_17 rfl rfl ?_
    obtain ⟨v4, ev4, h⟩ := ob_some h
    refine ex_gI (pc := 18) ev4 dX2_readAsk_18 lfX2_38 ?_
    refine ex_bipush (pc := 21) 8 dX2_readAsk_21 (by decide) ?_
    by_cases c5 : v4 < 8
    · rw [if_pos c5] at h
      refine ex_icmp_lt_t (pc := 23) 32 dX2_readAsk_23 rfl c5 ?_
      refine ex_aload_n (pc := 32) 0 dX2_readAsk_32 rfl rfl ?_
      refine ex_dup (pc := 33) dX2_readAsk_33 rfl ?_
      obtain ⟨v6, ev6, h⟩ := ob_some h
      refine ex_gI (pc := 34) ev6 dX2_readAsk_34 lfX2_38 ?_
      refine ex_iconst (pc := 37) 1 dX2_readAsk_37 rfl ?_
      refine ex_iadd (pc := 38) dX2_readAsk_38 ?_
      obtain ⟨q7, eq7, h⟩ := ob_some h
      refine ex_pF (pc := 39) eq7 dX2_readAsk_39 lfX2_38 rfl rfl (fun _ hq => by cases hq; rfl) ?_
      refine ex_aload_n (pc := 42) 0 dX2_readAsk_42 rfl rfl ?_
      obtain ⟨v8, ev8, h⟩ := ob_some h
      refine ex_gR (pc := 43) ev8 dX2_readAsk_43 lfX2_34 ?_
      obtain ⟨q9, eq9, h⟩ := ob_some h
      refine ex_callV0v (pc := 46) dX2_readAsk_46 jX7_advance lmX2_86 jiX7_advance jvX7_advance (o_X7_advance eq9) rfl (Nat.le_of_ble_eq_true rfl) (s_X7_advance (by omega)  eq9) ?_
      refine ex_aload_n (pc := 49) 0 dX2_readAsk_49 rfl rfl ?_
      obtain ⟨q10, eq10, h⟩ := ob_some h
      refine ex_callV0r (pc := 50) dX2_readAsk_50 jX2_readAsk lmX2_143 jiX2_readAsk jvX2_readAsk (hrec 0 _ _ _ _ eq10).1 rfl (Nat.le_of_ble_eq_true rfl) (hrec 0 _ _ _ _ eq10).2 ?_
      refine ex_istore_n (pc := 53) [(1, .int (jz q10.1)), (0, .ref x0)] dX2_readAsk_53 rfl (by decide) rfl ?_
      refine ex_aload_n (pc := 54) 1 dX2_readAsk_54 rfl rfl ?_
      refine ex_dup (pc := 55) dX2_readAsk_55 rfl ?_
      obtain ⟨v11, ev11, h⟩ := ob_some h
      refine ex_gI (pc := 56) ev11 dX2_readAsk_56 lfX2_38 ?_
      refine ex_iconst (pc := 59) 1 dX2_readAsk_59 rfl ?_
      refine ex_isub (pc := 60) dX2_readAsk_60 ?_
      obtain ⟨q12, eq12, h⟩ := ob_some h
      refine ex_pF (pc := 61) eq12 dX2_readAsk_61 lfX2_38 rfl rfl (fun _ hq => by cases hq; rfl) ?_
      refine ex_aload_n (pc := 64) 1 dX2_readAsk_64 rfl rfl ?_
      refine ex_bipush (pc := 65) 26 dX2_readAsk_65 (by decide) ?_
      refine ex_iconst (pc := 67) 0 dX2_readAsk_67 rfl ?_
      obtain ⟨q13, eq13, h⟩ := ob_some h
      refine ex_callV2r (pc := 68) dX2_readAsk_68 jX2_order lmX2_114 jiX2_order jvX2_order (o_X2_order eq13) rfl (Nat.le_of_ble_eq_true rfl) (s_X2_order (by omega)  eq13) ?_
      refine ex_pop (pc := 71) dX2_readAsk_71 rfl ?_
      refine ex_iload_n (pc := 72) 0 dX2_readAsk_72 rfl rfl ?_
      cases h
      exact ex_ireturn (pc := 73) dX2_readAsk_73
    · rw [if_neg c5] at h
      refine ex_icmp_lt_f (pc := 23) dX2_readAsk_23 32 rfl c5 ?_
      refine ex_aload_n (pc := 26) 0 dX2_readAsk_26 rfl rfl ?_
      refine ex_iconst (pc := 27) 3 dX2_readAsk_27 rfl ?_
      obtain ⟨q14, eq14, h⟩ := ob_some h
      refine ex_callV1r (pc := 28) dX2_readAsk_28 jX2_refuse lmX2_82 jiX2_refuse jvX2_refuse (o_X2_refuse eq14) rfl (Nat.le_of_ble_eq_true rfl) (s_X2_refuse (by omega)  eq14) ?_
      cases h
      exact ex_ireturn (pc := 31) dX2_readAsk_31
  · rw [if_neg c3] at h
    refine ex_icmp_eq_f (pc := 9) dX2_readAsk_9 17 rfl c3 ?_
    refine ex_aload_n (pc := 12) 0 dX2_readAsk_12 rfl rfl ?_
    obtain ⟨q15, eq15, h⟩ := ob_some h
    refine ex_callV0r (pc := 13) dX2_readAsk_13 jX2_readComparison lmX2_146 jiX2_readComparison jvX2_readComparison (hrec 3 _ _ _ _ eq15).1 rfl (Nat.le_of_ble_eq_true rfl) (hrec 3 _ _ _ _ eq15).2 ?_
    cases h
    exact ex_ireturn (pc := 16) dX2_readAsk_16
noncomputable def b_X2_readBoth_7 (rec : Nat → Nat → Int32 → Mem → Option (Bool × Mem)) (n0 : Nat) (x0 : Nat) (x1 : Bool) (x2 : Int32) (M : Mem) : Option (Bool × Mem) :=
  match n0 with
  | 0 => none
  | n + 1 =>
    if 300 ≤ x2 then
    (some (x1, M))
    else
    (if x1 = false then
    (some (x1, M))
    else
    ((gR M 2 x0 0).bind fun v3 =>
    (gI M 7 v3 2).bind fun v4 =>
    if v4 = 25 then
    ((gR M 2 x0 0).bind fun v6 =>
    (f_X7_advance v6 M).bind fun q7 =>
    (rec 0 x0 0 q7).bind fun q8 =>
    (f_X2_order x0 25 0 q8.2).bind fun q9 =>
    b_X2_readBoth_7 rec n x0 q8.1 (x2 + 1) q9.2)
    else
    (some (x1, M))))
set_option maxHeartbeats 4000000 in
theorem t_X2_readBoth_7 {X : XV} {d : Nat} {rec : Nat → Nat → Int32 → Mem → Option (Bool × Mem)} (hrec : rdOK X d rec) (hd : 7 ≤ d + 1) : ∀ (n : Nat) (x0 : Nat) (x1 : Bool) (x2 : Int32) (M : Mem) (res : Bool × Mem), b_X2_readBoth_7 rec n  x0 x1 x2 M = some res → Ex X (d + 1) mX2_readBoth 7 [(0, .ref x0), (1, .int (jz x1)), (2, .int x2)] [] M (some (.int (jz res.1))) res.2 := by
  intro n
  induction n with
  | zero =>
    intro x0 x1 x2 M res  h
    unfold b_X2_readBoth_7 at h
    cases h
  | succ n ih =>
    intro x0 x1 x2 M res  h
    unfold b_X2_readBoth_7 at h
    refine ex_iload_n (pc := 7) 2 dX2_readBoth_7 rfl rfl ?_
    refine ex_sipush (pc := 8) 300 dX2_readBoth_8 (by decide) ?_
    by_cases c1 : 300 ≤ x2
    · rw [if_pos c1] at h
      refine ex_icmp_ge_t (pc := 11) 56 dX2_readBoth_11 rfl c1 ?_
      refine ex_iload_n (pc := 56) 1 dX2_readBoth_56 rfl rfl ?_
      cases h
      exact ex_ireturn (pc := 57) dX2_readBoth_57
    · rw [if_neg c1] at h
      refine ex_icmp_ge_f (pc := 11) dX2_readBoth_11 56 rfl c1 ?_
      refine ex_iload_n (pc := 14) 1 dX2_readBoth_14 rfl rfl ?_
      by_cases c2 : x1 = false
      · rw [if_pos c2] at h
        refine ex_if_eq_t (pc := 15) 56 dX2_readBoth_15 rfl (jz_eq_t c2) ?_
        refine ex_iload_n (pc := 56) 1 dX2_readBoth_56 rfl rfl ?_
        cases h
        exact ex_ireturn (pc := 57) dX2_readBoth_57
      · rw [if_neg c2] at h
        refine ex_if_eq_f (pc := 15) dX2_readBoth_15 56 rfl (jz_eq_f c2) ?_
        refine ex_aload_n (pc := 18) 0 dX2_readBoth_18 rfl rfl ?_
        obtain ⟨v3, ev3, h⟩ := ob_some h
        refine ex_gR (pc := 19) ev3 dX2_readBoth_19 lfX2_34 ?_
        obtain ⟨v4, ev4, h⟩ := ob_some h
        refine ex_gI (pc := 22) ev4 dX2_readBoth_22 lfX2_58 ?_
        refine ex_bipush (pc := 25) 25 dX2_readBoth_25 (by decide) ?_
        by_cases c5 : v4 = 25
        · rw [if_pos c5] at h
          refine ex_icmp_ne_f (pc := 27) dX2_readBoth_27 56 rfl c5 ?_
          refine ex_aload_n (pc := 30) 0 dX2_readBoth_30 rfl rfl ?_
          obtain ⟨v6, ev6, h⟩ := ob_some h
          refine ex_gR (pc := 31) ev6 dX2_readBoth_31 lfX2_34 ?_
          obtain ⟨q7, eq7, h⟩ := ob_some h
          refine ex_callV0v (pc := 34) dX2_readBoth_34 jX7_advance lmX2_86 jiX7_advance jvX7_advance (o_X7_advance eq7) rfl (Nat.le_of_ble_eq_true rfl) (s_X7_advance (by omega)  eq7) ?_
          refine ex_aload_n (pc := 37) 0 dX2_readBoth_37 rfl rfl ?_
          obtain ⟨q8, eq8, h⟩ := ob_some h
          refine ex_callV0r (pc := 38) dX2_readBoth_38 jX2_readAsk lmX2_143 jiX2_readAsk jvX2_readAsk (hrec 0 _ _ _ _ eq8).1 rfl (Nat.le_of_ble_eq_true rfl) (hrec 0 _ _ _ _ eq8).2 ?_
          refine ex_istore_n (pc := 41) [(1, .int (jz q8.1)), (0, .ref x0), (2, .int x2)] dX2_readBoth_41 rfl (by decide) rfl ?_
          refine ex_aload_n (pc := 42) 1 dX2_readBoth_42 rfl rfl ?_
          refine ex_bipush (pc := 43) 25 dX2_readBoth_43 (by decide) ?_
          refine ex_iconst (pc := 45) 0 dX2_readBoth_45 rfl ?_
          obtain ⟨q9, eq9, h⟩ := ob_some h
          refine ex_callV2r (pc := 46) dX2_readBoth_46 jX2_order lmX2_114 jiX2_order jvX2_order (o_X2_order eq9) rfl (Nat.le_of_ble_eq_true rfl) (s_X2_order (by omega)  eq9) ?_
          refine ex_pop (pc := 49) dX2_readBoth_49 rfl ?_
          refine ex_iinc (pc := 50) (x2 + 1) 2 [(2, .int (x2 + 1)), (1, .int (jz q8.1)), (0, .ref x0)] dX2_readBoth_50 rfl rfl (by decide) rfl ?_
          refine ex_goto (pc := 53) 7 dX2_readBoth_53 rfl ?_
          refine ex_sub (lo' := [(0, .ref x0), (1, .int (jz q8.1)), (2, .int (x2 + 1))]) [2, 1, 0] rfl ?_
          exact ih _ _ _ _ _  h
        · rw [if_neg c5] at h
          refine ex_icmp_ne_t (pc := 27) 56 dX2_readBoth_27 rfl c5 ?_
          refine ex_iload_n (pc := 56) 1 dX2_readBoth_56 rfl rfl ?_
          cases h
          exact ex_ireturn (pc := 57) dX2_readBoth_57
noncomputable def b_X2_readBoth_0 (rec : Nat → Nat → Int32 → Mem → Option (Bool × Mem)) (x0 : Nat) (M : Mem) : Option (Bool × Mem) :=
  (rec 0 x0 0 M).bind fun q10 =>
  b_X2_readBoth_7 rec fu x0 q10.1 0 q10.2
set_option maxHeartbeats 4000000 in
theorem t_X2_readBoth_0 {X : XV} {d : Nat} {rec : Nat → Nat → Int32 → Mem → Option (Bool × Mem)} (hrec : rdOK X d rec) (hd : 7 ≤ d + 1) : ∀ (x0 : Nat) (M : Mem) (res : Bool × Mem), b_X2_readBoth_0 rec  x0 M = some res → Ex X (d + 1) mX2_readBoth 0 [(0, .ref x0)] [] M (some (.int (jz res.1))) res.2 := by
  intro x0 M res  h
  unfold b_X2_readBoth_0 at h
  refine ex_aload_n (pc := 0) 0 dX2_readBoth_0 rfl rfl ?_
  obtain ⟨q10, eq10, h⟩ := ob_some h
  refine ex_callV0r (pc := 1) dX2_readBoth_1 jX2_readAsk lmX2_143 jiX2_readAsk jvX2_readAsk (hrec 0 _ _ _ _ eq10).1 rfl (Nat.le_of_ble_eq_true rfl) (hrec 0 _ _ _ _ eq10).2 ?_
  refine ex_istore_n (pc := 4) [(1, .int (jz q10.1)), (0, .ref x0)] dX2_readBoth_4 rfl (by decide) rfl ?_
  refine ex_iconst (pc := 5) 0 dX2_readBoth_5 rfl ?_
  refine ex_istore_n (pc := 6) [(2, .int 0), (1, .int (jz q10.1)), (0, .ref x0)] dX2_readBoth_6 rfl (by decide) rfl ?_
  refine ex_sub (lo' := [(0, .ref x0), (1, .int (jz q10.1)), (2, .int 0)]) [2, 1, 0] rfl ?_
  exact t_X2_readBoth_7 hrec hd  _ _ _ _ _ _  h
noncomputable def b_X2_readChoice_0 (rec : Nat → Nat → Int32 → Mem → Option (Bool × Mem)) (x0 : Nat) (M : Mem) : Option (Bool × Mem) :=
  (rec 4 x0 0 M).bind fun q1 =>
  if q1.1 = false then
  (some (false, q1.2))
  else
  ((f_X2_expect x0 21 q1.2).bind fun q3 =>
  if q3.1 = true then
  ((f_X2_order x0 21 0 q3.2).bind fun q5 =>
  (rec 8 x0 0 q5.2).bind fun q6 =>
  if q6.1 = false then
  (some (false, q6.2))
  else
  ((f_X2_expect x0 22 q6.2).bind fun q8 =>
  if q8.1 = true then
  ((f_X2_order x0 22 0 q8.2).bind fun q10 =>
  (f_X2_aim x0 q5.1 q10.2).bind fun q11 =>
  (rec 8 x0 0 q11).bind fun q12 =>
  if q12.1 = false then
  (some (false, q12.2))
  else
  ((f_X2_expect x0 23 q12.2).bind fun q14 =>
  if q14.1 = true then
  ((f_X2_aim x0 q10.1 q14.2).bind fun q16 =>
  some (true, q16))
  else
  (some (false, q14.2))))
  else
  (some (false, q8.2))))
  else
  (some (false, q3.2)))
set_option maxHeartbeats 4000000 in
theorem t_X2_readChoice_0 {X : XV} {d : Nat} {rec : Nat → Nat → Int32 → Mem → Option (Bool × Mem)} (hrec : rdOK X d rec) (hd : 8 ≤ d + 1) : ∀ (x0 : Nat) (M : Mem) (res : Bool × Mem), b_X2_readChoice_0 rec  x0 M = some res → Ex X (d + 1) mX2_readChoice 0 [(0, .ref x0)] [] M (some (.int (jz res.1))) res.2 := by
  intro x0 M res  h
  unfold b_X2_readChoice_0 at h
  refine ex_aload_n (pc := 0) 0 dX2_readChoice_0 rfl rfl ?_
  obtain ⟨q1, eq1, h⟩ := ob_some h
  refine ex_callV0r (pc := 1) dX2_readChoice_1 jX2_readEither lmX2_133 jiX2_readEither jvX2_readEither (hrec 4 _ _ _ _ eq1).1 rfl (Nat.le_of_ble_eq_true rfl) (hrec 4 _ _ _ _ eq1).2 ?_
  by_cases c2 : q1.1 = false
  · rw [if_pos c2] at h
    refine ex_if_eq_t (pc := 4) 16 dX2_readChoice_4 rfl (jz_eq_t c2) ?_
    refine ex_iconst (pc := 16) 0 dX2_readChoice_16 rfl ?_
    cases h
    exact ex_ireturn (pc := 17) dX2_readChoice_17
  · rw [if_neg c2] at h
    refine ex_if_eq_f (pc := 4) dX2_readChoice_4 16 rfl (jz_eq_f c2) ?_
    refine ex_aload_n (pc := 7) 0 dX2_readChoice_7 rfl rfl ?_
    refine ex_bipush (pc := 8) 21 dX2_readChoice_8 (by decide) ?_
    obtain ⟨q3, eq3, h⟩ := ob_some h
    refine ex_callV1r (pc := 10) dX2_readChoice_10 jX2_expect lmX2_98 jiX2_expect jvX2_expect (o_X2_expect eq3) rfl (Nat.le_of_ble_eq_true rfl) (s_X2_expect (by omega)  eq3) ?_
    by_cases c4 : q3.1 = true
    · rw [if_pos c4] at h
      refine ex_if_ne_t (pc := 13) 18 dX2_readChoice_13 rfl (jz_ne_t c4) ?_
      refine ex_aload_n (pc := 18) 0 dX2_readChoice_18 rfl rfl ?_
      refine ex_bipush (pc := 19) 21 dX2_readChoice_19 (by decide) ?_
      refine ex_iconst (pc := 21) 0 dX2_readChoice_21 rfl ?_
      obtain ⟨q5, eq5, h⟩ := ob_some h
      refine ex_callV2r (pc := 22) dX2_readChoice_22 jX2_order lmX2_114 jiX2_order jvX2_order (o_X2_order eq5) rfl (Nat.le_of_ble_eq_true rfl) (s_X2_order (by omega)  eq5) ?_
      refine ex_istore_n (pc := 25) [(1, .int q5.1), (0, .ref x0)] dX2_readChoice_25 rfl (by decide) rfl ?_
      refine ex_aload_n (pc := 26) 1 dX2_readChoice_26 rfl rfl ?_
      obtain ⟨q6, eq6, h⟩ := ob_some h
      refine ex_callV0r (pc := 27) dX2_readChoice_27 jX2_readSum lmX2_92 jiX2_readSum jvX2_readSum (hrec 8 _ _ _ _ eq6).1 rfl (Nat.le_of_ble_eq_true rfl) (hrec 8 _ _ _ _ eq6).2 ?_
      by_cases c7 : q6.1 = false
      · rw [if_pos c7] at h
        refine ex_if_eq_t (pc := 30) 42 dX2_readChoice_30 rfl (jz_eq_t c7) ?_
        refine ex_iconst (pc := 42) 0 dX2_readChoice_42 rfl ?_
        cases h
        exact ex_ireturn (pc := 43) dX2_readChoice_43
      · rw [if_neg c7] at h
        refine ex_if_eq_f (pc := 30) dX2_readChoice_30 42 rfl (jz_eq_f c7) ?_
        refine ex_aload_n (pc := 33) 1 dX2_readChoice_33 rfl rfl ?_
        refine ex_bipush (pc := 34) 22 dX2_readChoice_34 (by decide) ?_
        obtain ⟨q8, eq8, h⟩ := ob_some h
        refine ex_callV1r (pc := 36) dX2_readChoice_36 jX2_expect lmX2_98 jiX2_expect jvX2_expect (o_X2_expect eq8) rfl (Nat.le_of_ble_eq_true rfl) (s_X2_expect (by omega)  eq8) ?_
        by_cases c9 : q8.1 = true
        · rw [if_pos c9] at h
          refine ex_if_ne_t (pc := 39) 44 dX2_readChoice_39 rfl (jz_ne_t c9) ?_
          refine ex_aload_n (pc := 44) 1 dX2_readChoice_44 rfl rfl ?_
          refine ex_bipush (pc := 45) 22 dX2_readChoice_45 (by decide) ?_
          refine ex_iconst (pc := 47) 0 dX2_readChoice_47 rfl ?_
          obtain ⟨q10, eq10, h⟩ := ob_some h
          refine ex_callV2r (pc := 48) dX2_readChoice_48 jX2_order lmX2_114 jiX2_order jvX2_order (o_X2_order eq10) rfl (Nat.le_of_ble_eq_true rfl) (s_X2_order (by omega)  eq10) ?_
          refine ex_istore_n (pc := 51) [(2, .int q10.1), (1, .int q5.1), (0, .ref x0)] dX2_readChoice_51 rfl (by decide) rfl ?_
          refine ex_aload_n (pc := 52) 2 dX2_readChoice_52 rfl rfl ?_
          refine ex_iload_n (pc := 53) 1 dX2_readChoice_53 rfl rfl ?_
          obtain ⟨q11, eq11, h⟩ := ob_some h
          refine ex_callV1v (pc := 54) dX2_readChoice_54 jX2_aim lmX2_136 jiX2_aim jvX2_aim (o_X2_aim eq11) rfl (Nat.le_of_ble_eq_true rfl) (s_X2_aim (by omega)  eq11) ?_
          refine ex_aload_n (pc := 57) 2 dX2_readChoice_57 rfl rfl ?_
          obtain ⟨q12, eq12, h⟩ := ob_some h
          refine ex_callV0r (pc := 58) dX2_readChoice_58 jX2_readSum lmX2_92 jiX2_readSum jvX2_readSum (hrec 8 _ _ _ _ eq12).1 rfl (Nat.le_of_ble_eq_true rfl) (hrec 8 _ _ _ _ eq12).2 ?_
          by_cases c13 : q12.1 = false
          · rw [if_pos c13] at h
            refine ex_if_eq_t (pc := 61) 73 dX2_readChoice_61 rfl (jz_eq_t c13) ?_
            refine ex_iconst (pc := 73) 0 dX2_readChoice_73 rfl ?_
            cases h
            exact ex_ireturn (pc := 74) dX2_readChoice_74
          · rw [if_neg c13] at h
            refine ex_if_eq_f (pc := 61) dX2_readChoice_61 73 rfl (jz_eq_f c13) ?_
            refine ex_aload_n (pc := 64) 2 dX2_readChoice_64 rfl rfl ?_
            refine ex_bipush (pc := 65) 23 dX2_readChoice_65 (by decide) ?_
            obtain ⟨q14, eq14, h⟩ := ob_some h
            refine ex_callV1r (pc := 67) dX2_readChoice_67 jX2_expect lmX2_98 jiX2_expect jvX2_expect (o_X2_expect eq14) rfl (Nat.le_of_ble_eq_true rfl) (s_X2_expect (by omega)  eq14) ?_
            by_cases c15 : q14.1 = true
            · rw [if_pos c15] at h
              refine ex_if_ne_t (pc := 70) 75 dX2_readChoice_70 rfl (jz_ne_t c15) ?_
              refine ex_aload_n (pc := 75) 2 dX2_readChoice_75 rfl rfl ?_
              refine ex_iload_n (pc := 76) 0 dX2_readChoice_76 rfl rfl ?_
              obtain ⟨q16, eq16, h⟩ := ob_some h
              refine ex_callV1v (pc := 77) dX2_readChoice_77 jX2_aim lmX2_136 jiX2_aim jvX2_aim (o_X2_aim eq16) rfl (Nat.le_of_ble_eq_true rfl) (s_X2_aim (by omega)  eq16) ?_
              refine ex_iconst (pc := 80) 1 dX2_readChoice_80 rfl ?_
              cases h
              exact ex_ireturn (pc := 81) dX2_readChoice_81
            · rw [if_neg c15] at h
              refine ex_if_ne_f (pc := 70) dX2_readChoice_70 75 rfl (jz_ne_f c15) ?_
              refine ex_iconst (pc := 73) 0 dX2_readChoice_73 rfl ?_
              cases h
              exact ex_ireturn (pc := 74) dX2_readChoice_74
        · rw [if_neg c9] at h
          refine ex_if_ne_f (pc := 39) dX2_readChoice_39 44 rfl (jz_ne_f c9) ?_
          refine ex_iconst (pc := 42) 0 dX2_readChoice_42 rfl ?_
          cases h
          exact ex_ireturn (pc := 43) dX2_readChoice_43
    · rw [if_neg c4] at h
      refine ex_if_ne_f (pc := 13) dX2_readChoice_13 18 rfl (jz_ne_f c4) ?_
      refine ex_iconst (pc := 16) 0 dX2_readChoice_16 rfl ?_
      cases h
      exact ex_ireturn (pc := 17) dX2_readChoice_17
noncomputable def b_X2_readComparison_46 (rec : Nat → Nat → Int32 → Mem → Option (Bool × Mem)) (x0 : Nat) (x1 : Int32) (M : Mem) : Option (Bool × Mem) :=
  (gR M 2 x0 0).bind fun v1 =>
  (f_X7_advance v1 M).bind fun q2 =>
  (rec 8 x0 0 q2).bind fun q3 =>
  (f_X2_order x0 x1 0 q3.2).bind fun q4 =>
  some (q3.1, q4.2)
set_option maxHeartbeats 4000000 in
theorem t_X2_readComparison_46 {X : XV} {d : Nat} {rec : Nat → Nat → Int32 → Mem → Option (Bool × Mem)} (hrec : rdOK X d rec) (hd : 7 ≤ d + 1) : ∀ (x0 : Nat) (x1 : Int32) (M : Mem) (res : Bool × Mem), b_X2_readComparison_46 rec  x0 x1 M = some res → Ex X (d + 1) mX2_readComparison 46 [(0, .ref x0), (1, .int x1)] [] M (some (.int (jz res.1))) res.2 := by
  intro x0 x1 M res  h
  unfold b_X2_readComparison_46 at h
  refine ex_aload_n (pc := 46) 0 dX2_readComparison_46 rfl rfl ?_
  obtain ⟨v1, ev1, h⟩ := ob_some h
  refine ex_gR (pc := 47) ev1 dX2_readComparison_47 lfX2_34 ?_
  obtain ⟨q2, eq2, h⟩ := ob_some h
  refine ex_callV0v (pc := 50) dX2_readComparison_50 jX7_advance lmX2_86 jiX7_advance jvX7_advance (o_X7_advance eq2) rfl (Nat.le_of_ble_eq_true rfl) (s_X7_advance (by omega)  eq2) ?_
  refine ex_aload_n (pc := 53) 0 dX2_readComparison_53 rfl rfl ?_
  obtain ⟨q3, eq3, h⟩ := ob_some h
  refine ex_callV0r (pc := 54) dX2_readComparison_54 jX2_readSum lmX2_92 jiX2_readSum jvX2_readSum (hrec 8 _ _ _ _ eq3).1 rfl (Nat.le_of_ble_eq_true rfl) (hrec 8 _ _ _ _ eq3).2 ?_
  refine ex_istore_n (pc := 57) [(2, .int (jz q3.1)), (0, .ref x0), (1, .int x1)] dX2_readComparison_57 rfl (by decide) rfl ?_
  refine ex_aload_n (pc := 58) 1 dX2_readComparison_58 rfl rfl ?_
  refine ex_iload_n (pc := 59) 2 dX2_readComparison_59 rfl rfl ?_
  refine ex_iconst (pc := 60) 0 dX2_readComparison_60 rfl ?_
  obtain ⟨q4, eq4, h⟩ := ob_some h
  refine ex_callV2r (pc := 61) dX2_readComparison_61 jX2_order lmX2_114 jiX2_order jvX2_order (o_X2_order eq4) rfl (Nat.le_of_ble_eq_true rfl) (s_X2_order (by omega)  eq4) ?_
  refine ex_pop (pc := 64) dX2_readComparison_64 rfl ?_
  refine ex_iload_n (pc := 65) 0 dX2_readComparison_65 rfl rfl ?_
  cases h
  exact ex_ireturn (pc := 66) dX2_readComparison_66
noncomputable def b_X2_readComparison_0 (rec : Nat → Nat → Int32 → Mem → Option (Bool × Mem)) (x0 : Nat) (M : Mem) : Option (Bool × Mem) :=
  (rec 8 x0 0 M).bind fun q5 =>
  if q5.1 = true then
  ((gR q5.2 2 x0 0).bind fun v7 =>
  (gI q5.2 7 v7 2).bind fun v8 =>
  (f_X10_within v8 28 31).bind fun v9 =>
  if v9 = true then
  (b_X2_readComparison_46 rec x0 v8 q5.2)
  else
  (if v8 = 39 then
  (b_X2_readComparison_46 rec x0 v8 q5.2)
  else
  (if v8 = 40 then
  (b_X2_readComparison_46 rec x0 v8 q5.2)
  else
  ((f_X2_refuse x0 1 q5.2).bind fun q13 =>
  some (q13.1, q13.2)))))
  else
  (some (false, q5.2))
set_option maxHeartbeats 4000000 in
theorem t_X2_readComparison_0 {X : XV} {d : Nat} {rec : Nat → Nat → Int32 → Mem → Option (Bool × Mem)} (hrec : rdOK X d rec) (hd : 7 ≤ d + 1) : ∀ (x0 : Nat) (M : Mem) (res : Bool × Mem), b_X2_readComparison_0 rec  x0 M = some res → Ex X (d + 1) mX2_readComparison 0 [(0, .ref x0)] [] M (some (.int (jz res.1))) res.2 := by
  intro x0 M res  h
  unfold b_X2_readComparison_0 at h
  refine ex_aload_n (pc := 0) 0 dX2_readComparison_0 rfl rfl ?_
  obtain ⟨q5, eq5, h⟩ := ob_some h
  refine ex_callV0r (pc := 1) dX2_readComparison_1 jX2_readSum lmX2_92 jiX2_readSum jvX2_readSum (hrec 8 _ _ _ _ eq5).1 rfl (Nat.le_of_ble_eq_true rfl) (hrec 8 _ _ _ _ eq5).2 ?_
  by_cases c6 : q5.1 = true
  · rw [if_pos c6] at h
    refine ex_if_ne_t (pc := 4) 9 dX2_readComparison_4 rfl (jz_ne_t c6) ?_
    refine ex_aload_n (pc := 9) 0 dX2_readComparison_9 rfl rfl ?_
    obtain ⟨v7, ev7, h⟩ := ob_some h
    refine ex_gR (pc := 10) ev7 dX2_readComparison_10 lfX2_34 ?_
    obtain ⟨v8, ev8, h⟩ := ob_some h
    refine ex_gI (pc := 13) ev8 dX2_readComparison_13 lfX2_58 ?_
    refine ex_istore_n (pc := 16) [(1, .int v8), (0, .ref x0)] dX2_readComparison_16 rfl (by decide) rfl ?_
    refine ex_iload_n (pc := 17) 0 dX2_readComparison_17 rfl rfl ?_
    refine ex_bipush (pc := 18) 28 dX2_readComparison_18 (by decide) ?_
    refine ex_bipush (pc := 20) 31 dX2_readComparison_20 (by decide) ?_
    obtain ⟨v9, ev9, h⟩ := ob_some h
    refine ex_callSN3r (pc := 22) dX2_readComparison_22 jX10_within lnX2_108 jsX10_within (Nat.le_of_ble_eq_true rfl) (s_X10_within (by omega)  ev9) ?_
    by_cases c10 : v9 = true
    · rw [if_pos c10] at h
      refine ex_if_ne_t (pc := 25) 46 dX2_readComparison_25 rfl (jz_ne_t c10) ?_
      refine ex_sub (lo' := [(0, .ref x0), (1, .int v8)]) [1, 0] rfl ?_
      exact t_X2_readComparison_46 hrec hd  _ _ _ _  h
    · rw [if_neg c10] at h
      refine ex_if_ne_f (pc := 25) dX2_readComparison_25 46 rfl (jz_ne_f c10) ?_
      refine ex_iload_n (pc := 28) 0 dX2_readComparison_28 rfl rfl ?_
      refine ex_bipush (pc := 29) 39 dX2_readComparison_29 (by decide) ?_
      by_cases c11 : v8 = 39
      · rw [if_pos c11] at h
        refine ex_icmp_eq_t (pc := 31) 46 dX2_readComparison_31 rfl c11 ?_
        refine ex_sub (lo' := [(0, .ref x0), (1, .int v8)]) [1, 0] rfl ?_
        exact t_X2_readComparison_46 hrec hd  _ _ _ _  h
      · rw [if_neg c11] at h
        refine ex_icmp_eq_f (pc := 31) dX2_readComparison_31 46 rfl c11 ?_
        refine ex_iload_n (pc := 34) 0 dX2_readComparison_34 rfl rfl ?_
        refine ex_bipush (pc := 35) 40 dX2_readComparison_35 (by decide) ?_
        by_cases c12 : v8 = 40
        · rw [if_pos c12] at h
          refine ex_icmp_eq_t (pc := 37) 46 dX2_readComparison_37 rfl c12 ?_
          refine ex_sub (lo' := [(0, .ref x0), (1, .int v8)]) [1, 0] rfl ?_
          exact t_X2_readComparison_46 hrec hd  _ _ _ _  h
        · rw [if_neg c12] at h
          refine ex_icmp_eq_f (pc := 37) dX2_readComparison_37 46 rfl c12 ?_
          refine ex_aload_n (pc := 40) 1 dX2_readComparison_40 rfl rfl ?_
          refine ex_iconst (pc := 41) 1 dX2_readComparison_41 rfl ?_
          obtain ⟨q13, eq13, h⟩ := ob_some h
          refine ex_callV1r (pc := 42) dX2_readComparison_42 jX2_refuse lmX2_82 jiX2_refuse jvX2_refuse (o_X2_refuse eq13) rfl (Nat.le_of_ble_eq_true rfl) (s_X2_refuse (by omega)  eq13) ?_
          cases h
          exact ex_ireturn (pc := 45) dX2_readComparison_45
  · rw [if_neg c6] at h
    refine ex_if_ne_f (pc := 4) dX2_readComparison_4 9 rfl (jz_ne_f c6) ?_
    refine ex_iconst (pc := 7) 0 dX2_readComparison_7 rfl ?_
    cases h
    exact ex_ireturn (pc := 8) dX2_readComparison_8
noncomputable def b_X2_readEither_7 (rec : Nat → Nat → Int32 → Mem → Option (Bool × Mem)) (n0 : Nat) (x0 : Nat) (x1 : Bool) (x2 : Int32) (M : Mem) : Option (Bool × Mem) :=
  match n0 with
  | 0 => none
  | n + 1 =>
    if 300 ≤ x2 then
    (some (x1, M))
    else
    (if x1 = false then
    (some (x1, M))
    else
    ((gR M 2 x0 0).bind fun v3 =>
    (gI M 7 v3 2).bind fun v4 =>
    if v4 = 24 then
    ((gR M 2 x0 0).bind fun v6 =>
    (f_X7_advance v6 M).bind fun q7 =>
    (rec 1 x0 0 q7).bind fun q8 =>
    (f_X2_order x0 24 0 q8.2).bind fun q9 =>
    b_X2_readEither_7 rec n x0 q8.1 (x2 + 1) q9.2)
    else
    (some (x1, M))))
set_option maxHeartbeats 4000000 in
theorem t_X2_readEither_7 {X : XV} {d : Nat} {rec : Nat → Nat → Int32 → Mem → Option (Bool × Mem)} (hrec : rdOK X d rec) (hd : 7 ≤ d + 1) : ∀ (n : Nat) (x0 : Nat) (x1 : Bool) (x2 : Int32) (M : Mem) (res : Bool × Mem), b_X2_readEither_7 rec n  x0 x1 x2 M = some res → Ex X (d + 1) mX2_readEither 7 [(0, .ref x0), (1, .int (jz x1)), (2, .int x2)] [] M (some (.int (jz res.1))) res.2 := by
  intro n
  induction n with
  | zero =>
    intro x0 x1 x2 M res  h
    unfold b_X2_readEither_7 at h
    cases h
  | succ n ih =>
    intro x0 x1 x2 M res  h
    unfold b_X2_readEither_7 at h
    refine ex_iload_n (pc := 7) 2 dX2_readEither_7 rfl rfl ?_
    refine ex_sipush (pc := 8) 300 dX2_readEither_8 (by decide) ?_
    by_cases c1 : 300 ≤ x2
    · rw [if_pos c1] at h
      refine ex_icmp_ge_t (pc := 11) 56 dX2_readEither_11 rfl c1 ?_
      refine ex_iload_n (pc := 56) 1 dX2_readEither_56 rfl rfl ?_
      cases h
      exact ex_ireturn (pc := 57) dX2_readEither_57
    · rw [if_neg c1] at h
      refine ex_icmp_ge_f (pc := 11) dX2_readEither_11 56 rfl c1 ?_
      refine ex_iload_n (pc := 14) 1 dX2_readEither_14 rfl rfl ?_
      by_cases c2 : x1 = false
      · rw [if_pos c2] at h
        refine ex_if_eq_t (pc := 15) 56 dX2_readEither_15 rfl (jz_eq_t c2) ?_
        refine ex_iload_n (pc := 56) 1 dX2_readEither_56 rfl rfl ?_
        cases h
        exact ex_ireturn (pc := 57) dX2_readEither_57
      · rw [if_neg c2] at h
        refine ex_if_eq_f (pc := 15) dX2_readEither_15 56 rfl (jz_eq_f c2) ?_
        refine ex_aload_n (pc := 18) 0 dX2_readEither_18 rfl rfl ?_
        obtain ⟨v3, ev3, h⟩ := ob_some h
        refine ex_gR (pc := 19) ev3 dX2_readEither_19 lfX2_34 ?_
        obtain ⟨v4, ev4, h⟩ := ob_some h
        refine ex_gI (pc := 22) ev4 dX2_readEither_22 lfX2_58 ?_
        refine ex_bipush (pc := 25) 24 dX2_readEither_25 (by decide) ?_
        by_cases c5 : v4 = 24
        · rw [if_pos c5] at h
          refine ex_icmp_ne_f (pc := 27) dX2_readEither_27 56 rfl c5 ?_
          refine ex_aload_n (pc := 30) 0 dX2_readEither_30 rfl rfl ?_
          obtain ⟨v6, ev6, h⟩ := ob_some h
          refine ex_gR (pc := 31) ev6 dX2_readEither_31 lfX2_34 ?_
          obtain ⟨q7, eq7, h⟩ := ob_some h
          refine ex_callV0v (pc := 34) dX2_readEither_34 jX7_advance lmX2_86 jiX7_advance jvX7_advance (o_X7_advance eq7) rfl (Nat.le_of_ble_eq_true rfl) (s_X7_advance (by omega)  eq7) ?_
          refine ex_aload_n (pc := 37) 0 dX2_readEither_37 rfl rfl ?_
          obtain ⟨q8, eq8, h⟩ := ob_some h
          refine ex_callV0r (pc := 38) dX2_readEither_38 jX2_readBoth lmX2_140 jiX2_readBoth jvX2_readBoth (hrec 1 _ _ _ _ eq8).1 rfl (Nat.le_of_ble_eq_true rfl) (hrec 1 _ _ _ _ eq8).2 ?_
          refine ex_istore_n (pc := 41) [(1, .int (jz q8.1)), (0, .ref x0), (2, .int x2)] dX2_readEither_41 rfl (by decide) rfl ?_
          refine ex_aload_n (pc := 42) 1 dX2_readEither_42 rfl rfl ?_
          refine ex_bipush (pc := 43) 24 dX2_readEither_43 (by decide) ?_
          refine ex_iconst (pc := 45) 0 dX2_readEither_45 rfl ?_
          obtain ⟨q9, eq9, h⟩ := ob_some h
          refine ex_callV2r (pc := 46) dX2_readEither_46 jX2_order lmX2_114 jiX2_order jvX2_order (o_X2_order eq9) rfl (Nat.le_of_ble_eq_true rfl) (s_X2_order (by omega)  eq9) ?_
          refine ex_pop (pc := 49) dX2_readEither_49 rfl ?_
          refine ex_iinc (pc := 50) (x2 + 1) 2 [(2, .int (x2 + 1)), (1, .int (jz q8.1)), (0, .ref x0)] dX2_readEither_50 rfl rfl (by decide) rfl ?_
          refine ex_goto (pc := 53) 7 dX2_readEither_53 rfl ?_
          refine ex_sub (lo' := [(0, .ref x0), (1, .int (jz q8.1)), (2, .int (x2 + 1))]) [2, 1, 0] rfl ?_
          exact ih _ _ _ _ _  h
        · rw [if_neg c5] at h
          refine ex_icmp_ne_t (pc := 27) 56 dX2_readEither_27 rfl c5 ?_
          refine ex_iload_n (pc := 56) 1 dX2_readEither_56 rfl rfl ?_
          cases h
          exact ex_ireturn (pc := 57) dX2_readEither_57
noncomputable def b_X2_readEither_0 (rec : Nat → Nat → Int32 → Mem → Option (Bool × Mem)) (x0 : Nat) (M : Mem) : Option (Bool × Mem) :=
  (rec 1 x0 0 M).bind fun q10 =>
  b_X2_readEither_7 rec fu x0 q10.1 0 q10.2
set_option maxHeartbeats 4000000 in
theorem t_X2_readEither_0 {X : XV} {d : Nat} {rec : Nat → Nat → Int32 → Mem → Option (Bool × Mem)} (hrec : rdOK X d rec) (hd : 7 ≤ d + 1) : ∀ (x0 : Nat) (M : Mem) (res : Bool × Mem), b_X2_readEither_0 rec  x0 M = some res → Ex X (d + 1) mX2_readEither 0 [(0, .ref x0)] [] M (some (.int (jz res.1))) res.2 := by
  intro x0 M res  h
  unfold b_X2_readEither_0 at h
  refine ex_aload_n (pc := 0) 0 dX2_readEither_0 rfl rfl ?_
  obtain ⟨q10, eq10, h⟩ := ob_some h
  refine ex_callV0r (pc := 1) dX2_readEither_1 jX2_readBoth lmX2_140 jiX2_readBoth jvX2_readBoth (hrec 1 _ _ _ _ eq10).1 rfl (Nat.le_of_ble_eq_true rfl) (hrec 1 _ _ _ _ eq10).2 ?_
  refine ex_istore_n (pc := 4) [(1, .int (jz q10.1)), (0, .ref x0)] dX2_readEither_4 rfl (by decide) rfl ?_
  refine ex_iconst (pc := 5) 0 dX2_readEither_5 rfl ?_
  refine ex_istore_n (pc := 6) [(2, .int 0), (1, .int (jz q10.1)), (0, .ref x0)] dX2_readEither_6 rfl (by decide) rfl ?_
  refine ex_sub (lo' := [(0, .ref x0), (1, .int (jz q10.1)), (2, .int 0)]) [2, 1, 0] rfl ?_
  exact t_X2_readEither_7 hrec hd  _ _ _ _ _ _  h
noncomputable def b_X2_readOne_72 (rec : Nat → Nat → Int32 → Mem → Option (Bool × Mem)) (x0 : Nat) (x1 : Int32) (M : Mem) : Option (Bool × Mem) :=
  (gI M 2 x0 4).bind fun v1 =>
  if v1 < 8 then
  ((gI M 2 x0 4).bind fun v3 =>
  (pF M 2 x0 4 (.int (v3 + 1))).bind fun q4 =>
  (gR q4 2 x0 0).bind fun v5 =>
  (f_X7_advance v5 q4).bind fun q6 =>
  (rec 6 x0 x1 q6).bind fun q7 =>
  (gI q7.2 2 x0 4).bind fun v8 =>
  (pF q7.2 2 x0 4 (.int (v8 - 1))).bind fun q9 =>
  some (q7.1, q9))
  else
  ((f_X2_refuse x0 3 M).bind fun q10 =>
  some (q10.1, q10.2))
set_option maxHeartbeats 4000000 in
theorem t_X2_readOne_72 {X : XV} {d : Nat} {rec : Nat → Nat → Int32 → Mem → Option (Bool × Mem)} (hrec : rdOK X d rec) (hd : 8 ≤ d + 1) : ∀ (x0 : Nat) (x1 : Int32) (M : Mem) (res : Bool × Mem), b_X2_readOne_72 rec  x0 x1 M = some res → Ex X (d + 1) mX2_readOne 72 [(0, .ref x0), (1, .int x1)] [] M (some (.int (jz res.1))) res.2 := by
  intro x0 x1 M res  h
  unfold b_X2_readOne_72 at h
  refine ex_aload_n (pc := 72) 0 dX2_readOne_72 rfl rfl ?_
  obtain ⟨v1, ev1, h⟩ := ob_some h
  refine ex_gI (pc := 73) ev1 dX2_readOne_73 lfX2_38 ?_
  refine ex_bipush (pc := 76) 8 dX2_readOne_76 (by decide) ?_
  by_cases c2 : v1 < 8
  · rw [if_pos c2] at h
    refine ex_icmp_lt_t (pc := 78) 87 dX2_readOne_78 rfl c2 ?_
    refine ex_aload_n (pc := 87) 0 dX2_readOne_87 rfl rfl ?_
    refine ex_dup (pc := 88) dX2_readOne_88 rfl ?_
    obtain ⟨v3, ev3, h⟩ := ob_some h
    refine ex_gI (pc := 89) ev3 dX2_readOne_89 lfX2_38 ?_
    refine ex_iconst (pc := 92) 1 dX2_readOne_92 rfl ?_
    refine ex_iadd (pc := 93) dX2_readOne_93 ?_
    obtain ⟨q4, eq4, h⟩ := ob_some h
    refine ex_pF (pc := 94) eq4 dX2_readOne_94 lfX2_38 rfl rfl (fun _ hq => by cases hq; rfl) ?_
    refine ex_aload_n (pc := 97) 0 dX2_readOne_97 rfl rfl ?_
    obtain ⟨v5, ev5, h⟩ := ob_some h
    refine ex_gR (pc := 98) ev5 dX2_readOne_98 lfX2_34 ?_
    obtain ⟨q6, eq6, h⟩ := ob_some h
    refine ex_callV0v (pc := 101) dX2_readOne_101 jX7_advance lmX2_86 jiX7_advance jvX7_advance (o_X7_advance eq6) rfl (Nat.le_of_ble_eq_true rfl) (s_X7_advance (by omega)  eq6) ?_
    refine ex_aload_n (pc := 104) 0 dX2_readOne_104 rfl rfl ?_
    refine ex_iload_n (pc := 105) 1 dX2_readOne_105 rfl rfl ?_
    obtain ⟨q7, eq7, h⟩ := ob_some h
    refine ex_callV1r (pc := 106) dX2_readOne_106 jX2_readOpened lmX2_127 jiX2_readOpened jvX2_readOpened (hrec 6 _ _ _ _ eq7).1 rfl (Nat.le_of_ble_eq_true rfl) (hrec 6 _ _ _ _ eq7).2 ?_
    refine ex_istore_n (pc := 109) [(2, .int (jz q7.1)), (0, .ref x0), (1, .int x1)] dX2_readOne_109 rfl (by decide) rfl ?_
    refine ex_aload_n (pc := 110) 1 dX2_readOne_110 rfl rfl ?_
    refine ex_dup (pc := 111) dX2_readOne_111 rfl ?_
    obtain ⟨v8, ev8, h⟩ := ob_some h
    refine ex_gI (pc := 112) ev8 dX2_readOne_112 lfX2_38 ?_
    refine ex_iconst (pc := 115) 1 dX2_readOne_115 rfl ?_
    refine ex_isub (pc := 116) dX2_readOne_116 ?_
    obtain ⟨q9, eq9, h⟩ := ob_some h
    refine ex_pF (pc := 117) eq9 dX2_readOne_117 lfX2_38 rfl rfl (fun _ hq => by cases hq; rfl) ?_
    refine ex_iload_n (pc := 120) 0 dX2_readOne_120 rfl rfl ?_
    cases h
    exact ex_ireturn (pc := 121) dX2_readOne_121
  · rw [if_neg c2] at h
    refine ex_icmp_lt_f (pc := 78) dX2_readOne_78 87 rfl c2 ?_
    refine ex_aload_n (pc := 81) 0 dX2_readOne_81 rfl rfl ?_
    refine ex_iconst (pc := 82) 3 dX2_readOne_82 rfl ?_
    obtain ⟨q10, eq10, h⟩ := ob_some h
    refine ex_callV1r (pc := 83) dX2_readOne_83 jX2_refuse lmX2_82 jiX2_refuse jvX2_refuse (o_X2_refuse eq10) rfl (Nat.le_of_ble_eq_true rfl) (s_X2_refuse (by omega)  eq10) ?_
    cases h
    exact ex_ireturn (pc := 86) dX2_readOne_86
noncomputable def b_X2_readOne_0 (rec : Nat → Nat → Int32 → Mem → Option (Bool × Mem)) (x0 : Nat) (M : Mem) : Option (Bool × Mem) :=
  (gR M 2 x0 0).bind fun v11 =>
  (gI M 7 v11 2).bind fun v12 =>
  if v12 = 27 then
  ((f_X2_readNumber x0 M).bind fun q23 =>
  some (q23.1, q23.2))
  else
  ((f_X10_within v12 8 15).bind fun v14 =>
  if v14 = false then
  (if v12 = 36 then
  (b_X2_readOne_72 rec x0 v12 M)
  else
  (if v12 = 33 then
  (b_X2_readOne_72 rec x0 v12 M)
  else
  (if v12 = 18 then
  (b_X2_readOne_72 rec x0 v12 M)
  else
  (if v12 = 19 then
  (b_X2_readOne_72 rec x0 v12 M)
  else
  (if v12 = 20 then
  (b_X2_readOne_72 rec x0 v12 M)
  else
  ((f_X2_refuse x0 1 M).bind fun q21 =>
  some (q21.1, q21.2)))))))
  else
  ((f_X2_readName x0 v12 M).bind fun q22 =>
  some (q22.1, q22.2)))
set_option maxHeartbeats 4000000 in
theorem t_X2_readOne_0 {X : XV} {d : Nat} {rec : Nat → Nat → Int32 → Mem → Option (Bool × Mem)} (hrec : rdOK X d rec) (hd : 8 ≤ d + 1) : ∀ (x0 : Nat) (M : Mem) (res : Bool × Mem), b_X2_readOne_0 rec  x0 M = some res → Ex X (d + 1) mX2_readOne 0 [(0, .ref x0)] [] M (some (.int (jz res.1))) res.2 := by
  intro x0 M res  h
  unfold b_X2_readOne_0 at h
  refine ex_aload_n (pc := 0) 0 dX2_readOne_0 rfl rfl ?_
  obtain ⟨v11, ev11, h⟩ := ob_some h
  refine ex_gR (pc := 1) ev11 dX2_readOne_1 lfX2_34 ?_
  obtain ⟨v12, ev12, h⟩ := ob_some h
  refine ex_gI (pc := 4) ev12 dX2_readOne_4 lfX2_58 ?_
  refine ex_istore_n (pc := 7) [(1, .int v12), (0, .ref x0)] dX2_readOne_7 rfl (by decide) rfl ?_
  refine ex_iload_n (pc := 8) 0 dX2_readOne_8 rfl rfl ?_
  refine ex_bipush (pc := 9) 27 dX2_readOne_9 (by decide) ?_
  by_cases c13 : v12 = 27
  · rw [if_pos c13] at h
    refine ex_icmp_ne_f (pc := 11) dX2_readOne_11 19 rfl c13 ?_
    refine ex_aload_n (pc := 14) 1 dX2_readOne_14 rfl rfl ?_
    obtain ⟨q23, eq23, h⟩ := ob_some h
    refine ex_callV0r (pc := 15) dX2_readOne_15 jX2_readNumber lmX2_121 jiX2_readNumber jvX2_readNumber (o_X2_readNumber eq23) rfl (Nat.le_of_ble_eq_true rfl) (s_X2_readNumber (by omega)  eq23) ?_
    cases h
    exact ex_ireturn (pc := 18) dX2_readOne_18
  · rw [if_neg c13] at h
    refine ex_icmp_ne_t (pc := 11) 19 dX2_readOne_11 rfl c13 ?_
    refine ex_iload_n (pc := 19) 0 dX2_readOne_19 rfl rfl ?_
    refine ex_bipush (pc := 20) 8 dX2_readOne_20 (by decide) ?_
    refine ex_bipush (pc := 22) 15 dX2_readOne_22 (by decide) ?_
    obtain ⟨v14, ev14, h⟩ := ob_some h
    refine ex_callSN3r (pc := 24) dX2_readOne_24 jX10_within lnX2_108 jsX10_within (Nat.le_of_ble_eq_true rfl) (s_X10_within (by omega)  ev14) ?_
    by_cases c15 : v14 = false
    · rw [if_pos c15] at h
      refine ex_if_eq_t (pc := 27) 36 dX2_readOne_27 rfl (jz_eq_t c15) ?_
      refine ex_iload_n (pc := 36) 0 dX2_readOne_36 rfl rfl ?_
      refine ex_bipush (pc := 37) 36 dX2_readOne_37 (by decide) ?_
      by_cases c16 : v12 = 36
      · rw [if_pos c16] at h
        refine ex_icmp_eq_t (pc := 39) 72 dX2_readOne_39 rfl c16 ?_
        refine ex_sub (lo' := [(0, .ref x0), (1, .int v12)]) [1, 0] rfl ?_
        exact t_X2_readOne_72 hrec hd  _ _ _ _  h
      · rw [if_neg c16] at h
        refine ex_icmp_eq_f (pc := 39) dX2_readOne_39 72 rfl c16 ?_
        refine ex_iload_n (pc := 42) 0 dX2_readOne_42 rfl rfl ?_
        refine ex_bipush (pc := 43) 33 dX2_readOne_43 (by decide) ?_
        by_cases c17 : v12 = 33
        · rw [if_pos c17] at h
          refine ex_icmp_eq_t (pc := 45) 72 dX2_readOne_45 rfl c17 ?_
          refine ex_sub (lo' := [(0, .ref x0), (1, .int v12)]) [1, 0] rfl ?_
          exact t_X2_readOne_72 hrec hd  _ _ _ _  h
        · rw [if_neg c17] at h
          refine ex_icmp_eq_f (pc := 45) dX2_readOne_45 72 rfl c17 ?_
          refine ex_iload_n (pc := 48) 0 dX2_readOne_48 rfl rfl ?_
          refine ex_bipush (pc := 49) 18 dX2_readOne_49 (by decide) ?_
          by_cases c18 : v12 = 18
          · rw [if_pos c18] at h
            refine ex_icmp_eq_t (pc := 51) 72 dX2_readOne_51 rfl c18 ?_
            refine ex_sub (lo' := [(0, .ref x0), (1, .int v12)]) [1, 0] rfl ?_
            exact t_X2_readOne_72 hrec hd  _ _ _ _  h
          · rw [if_neg c18] at h
            refine ex_icmp_eq_f (pc := 51) dX2_readOne_51 72 rfl c18 ?_
            refine ex_iload_n (pc := 54) 0 dX2_readOne_54 rfl rfl ?_
            refine ex_bipush (pc := 55) 19 dX2_readOne_55 (by decide) ?_
            by_cases c19 : v12 = 19
            · rw [if_pos c19] at h
              refine ex_icmp_eq_t (pc := 57) 72 dX2_readOne_57 rfl c19 ?_
              refine ex_sub (lo' := [(0, .ref x0), (1, .int v12)]) [1, 0] rfl ?_
              exact t_X2_readOne_72 hrec hd  _ _ _ _  h
            · rw [if_neg c19] at h
              refine ex_icmp_eq_f (pc := 57) dX2_readOne_57 72 rfl c19 ?_
              refine ex_iload_n (pc := 60) 0 dX2_readOne_60 rfl rfl ?_
              refine ex_bipush (pc := 61) 20 dX2_readOne_61 (by decide) ?_
              by_cases c20 : v12 = 20
              · rw [if_pos c20] at h
                refine ex_icmp_eq_t (pc := 63) 72 dX2_readOne_63 rfl c20 ?_
                refine ex_sub (lo' := [(0, .ref x0), (1, .int v12)]) [1, 0] rfl ?_
                exact t_X2_readOne_72 hrec hd  _ _ _ _  h
              · rw [if_neg c20] at h
                refine ex_icmp_eq_f (pc := 63) dX2_readOne_63 72 rfl c20 ?_
                refine ex_aload_n (pc := 66) 1 dX2_readOne_66 rfl rfl ?_
                refine ex_iconst (pc := 67) 1 dX2_readOne_67 rfl ?_
                obtain ⟨q21, eq21, h⟩ := ob_some h
                refine ex_callV1r (pc := 68) dX2_readOne_68 jX2_refuse lmX2_82 jiX2_refuse jvX2_refuse (o_X2_refuse eq21) rfl (Nat.le_of_ble_eq_true rfl) (s_X2_refuse (by omega)  eq21) ?_
                cases h
                exact ex_ireturn (pc := 71) dX2_readOne_71
    · rw [if_neg c15] at h
      refine ex_if_eq_f (pc := 27) dX2_readOne_27 36 rfl (jz_eq_f c15) ?_
      refine ex_aload_n (pc := 30) 1 dX2_readOne_30 rfl rfl ?_
      refine ex_iload_n (pc := 31) 0 dX2_readOne_31 rfl rfl ?_
      obtain ⟨q22, eq22, h⟩ := ob_some h
      refine ex_callV1r (pc := 32) dX2_readOne_32 jX2_readName lmX2_124 jiX2_readName jvX2_readName (o_X2_readName eq22) rfl (Nat.le_of_ble_eq_true rfl) (s_X2_readName (by omega)  eq22) ?_
      cases h
      exact ex_ireturn (pc := 35) dX2_readOne_35
noncomputable def b_X2_readOpened_0 (rec : Nat → Nat → Int32 → Mem → Option (Bool × Mem)) (x0 : Nat) (x1 : Int32) (M : Mem) : Option (Bool × Mem) :=
  if x1 = 36 then
  ((rec 8 x0 0 M).bind fun q8 =>
  if q8.1 = false then
  (some (false, q8.2))
  else
  ((f_X2_expect x0 37 q8.2).bind fun q10 =>
  if q10.1 = false then
  (some (false, q10.2))
  else
  (some (true, q10.2))))
  else
  (if x1 = 20 then
  ((rec 2 x0 0 M).bind fun q7 =>
  some (q7.1, q7.2))
  else
  ((rec 5 x0 0 M).bind fun q3 =>
  if x1 = 33 then
  ((f_X2_order x0 43 0 q3.2).bind fun q6 =>
  some (q3.1, q6.2))
  else
  ((f_X2_order x0 x1 0 q3.2).bind fun q5 =>
  some (q3.1, q5.2))))
set_option maxHeartbeats 4000000 in
theorem t_X2_readOpened_0 {X : XV} {d : Nat} {rec : Nat → Nat → Int32 → Mem → Option (Bool × Mem)} (hrec : rdOK X d rec) (hd : 8 ≤ d + 1) : ∀ (x0 : Nat) (x1 : Int32) (M : Mem) (res : Bool × Mem), b_X2_readOpened_0 rec  x0 x1 M = some res → Ex X (d + 1) mX2_readOpened 0 [(0, .ref x0), (1, .int x1)] [] M (some (.int (jz res.1))) res.2 := by
  intro x0 x1 M res  h
  unfold b_X2_readOpened_0 at h
  refine ex_iload_n (pc := 0) 1 dX2_readOpened_0 rfl rfl ?_
  refine ex_bipush (pc := 1) 36 dX2_readOpened_1 (by decide) ?_
  by_cases c1 : x1 = 36
  · rw [if_pos c1] at h
    refine ex_icmp_ne_f (pc := 3) dX2_readOpened_3 28 rfl c1 ?_
    refine ex_aload_n (pc := 6) 0 dX2_readOpened_6 rfl rfl ?_
    obtain ⟨q8, eq8, h⟩ := ob_some h
    refine ex_callV0r (pc := 7) dX2_readOpened_7 jX2_readSum lmX2_92 jiX2_readSum jvX2_readSum (hrec 8 _ _ _ _ eq8).1 rfl (Nat.le_of_ble_eq_true rfl) (hrec 8 _ _ _ _ eq8).2 ?_
    by_cases c9 : q8.1 = false
    · rw [if_pos c9] at h
      refine ex_if_eq_t (pc := 10) 26 dX2_readOpened_10 rfl (jz_eq_t c9) ?_
      refine ex_iconst (pc := 26) 0 dX2_readOpened_26 rfl ?_
      cases h
      exact ex_ireturn (pc := 27) dX2_readOpened_27
    · rw [if_neg c9] at h
      refine ex_if_eq_f (pc := 10) dX2_readOpened_10 26 rfl (jz_eq_f c9) ?_
      refine ex_aload_n (pc := 13) 0 dX2_readOpened_13 rfl rfl ?_
      refine ex_bipush (pc := 14) 37 dX2_readOpened_14 (by decide) ?_
      obtain ⟨q10, eq10, h⟩ := ob_some h
      refine ex_callV1r (pc := 16) dX2_readOpened_16 jX2_expect lmX2_98 jiX2_expect jvX2_expect (o_X2_expect eq10) rfl (Nat.le_of_ble_eq_true rfl) (s_X2_expect (by omega)  eq10) ?_
      by_cases c11 : q10.1 = false
      · rw [if_pos c11] at h
        refine ex_if_eq_t (pc := 19) 26 dX2_readOpened_19 rfl (jz_eq_t c11) ?_
        refine ex_iconst (pc := 26) 0 dX2_readOpened_26 rfl ?_
        cases h
        exact ex_ireturn (pc := 27) dX2_readOpened_27
      · rw [if_neg c11] at h
        refine ex_if_eq_f (pc := 19) dX2_readOpened_19 26 rfl (jz_eq_f c11) ?_
        refine ex_iconst (pc := 22) 1 dX2_readOpened_22 rfl ?_
        refine ex_goto (pc := 23) 27 dX2_readOpened_23 rfl ?_
        cases h
        exact ex_ireturn (pc := 27) dX2_readOpened_27
  · rw [if_neg c1] at h
    refine ex_icmp_ne_t (pc := 3) 28 dX2_readOpened_3 rfl c1 ?_
    refine ex_iload_n (pc := 28) 1 dX2_readOpened_28 rfl rfl ?_
    refine ex_bipush (pc := 29) 20 dX2_readOpened_29 (by decide) ?_
    by_cases c2 : x1 = 20
    · rw [if_pos c2] at h
      refine ex_icmp_ne_f (pc := 31) dX2_readOpened_31 39 rfl c2 ?_
      refine ex_aload_n (pc := 34) 0 dX2_readOpened_34 rfl rfl ?_
      obtain ⟨q7, eq7, h⟩ := ob_some h
      refine ex_callV0r (pc := 35) dX2_readOpened_35 jX2_readChoice lmX2_130 jiX2_readChoice jvX2_readChoice (hrec 2 _ _ _ _ eq7).1 rfl (Nat.le_of_ble_eq_true rfl) (hrec 2 _ _ _ _ eq7).2 ?_
      cases h
      exact ex_ireturn (pc := 38) dX2_readOpened_38
    · rw [if_neg c2] at h
      refine ex_icmp_ne_t (pc := 31) 39 dX2_readOpened_31 rfl c2 ?_
      refine ex_aload_n (pc := 39) 0 dX2_readOpened_39 rfl rfl ?_
      obtain ⟨q3, eq3, h⟩ := ob_some h
      refine ex_callV0r (pc := 40) dX2_readOpened_40 jX2_readOne lmX2_118 jiX2_readOne jvX2_readOne (hrec 5 _ _ _ _ eq3).1 rfl (Nat.le_of_ble_eq_true rfl) (hrec 5 _ _ _ _ eq3).2 ?_
      refine ex_istore_n (pc := 43) [(2, .int (jz q3.1)), (0, .ref x0), (1, .int x1)] dX2_readOpened_43 rfl (by decide) rfl ?_
      refine ex_aload_n (pc := 44) 1 dX2_readOpened_44 rfl rfl ?_
      refine ex_iload_n (pc := 45) 2 dX2_readOpened_45 rfl rfl ?_
      refine ex_bipush (pc := 46) 33 dX2_readOpened_46 (by decide) ?_
      by_cases c4 : x1 = 33
      · rw [if_pos c4] at h
        refine ex_icmp_ne_f (pc := 48) dX2_readOpened_48 56 rfl c4 ?_
        refine ex_bipush (pc := 51) 43 dX2_readOpened_51 (by decide) ?_
        refine ex_goto (pc := 53) 57 dX2_readOpened_53 rfl ?_
        refine ex_iconst (pc := 57) 0 dX2_readOpened_57 rfl ?_
        obtain ⟨q6, eq6, h⟩ := ob_some h
        refine ex_callV2r (pc := 58) dX2_readOpened_58 jX2_order lmX2_114 jiX2_order jvX2_order (o_X2_order eq6) rfl (Nat.le_of_ble_eq_true rfl) (s_X2_order (by omega)  eq6) ?_
        refine ex_pop (pc := 61) dX2_readOpened_61 rfl ?_
        refine ex_iload_n (pc := 62) 0 dX2_readOpened_62 rfl rfl ?_
        cases h
        exact ex_ireturn (pc := 63) dX2_readOpened_63
      · rw [if_neg c4] at h
        refine ex_icmp_ne_t (pc := 48) 56 dX2_readOpened_48 rfl c4 ?_
        refine ex_iload_n (pc := 56) 2 dX2_readOpened_56 rfl rfl ?_
        refine ex_iconst (pc := 57) 0 dX2_readOpened_57 rfl ?_
        obtain ⟨q5, eq5, h⟩ := ob_some h
        refine ex_callV2r (pc := 58) dX2_readOpened_58 jX2_order lmX2_114 jiX2_order jvX2_order (o_X2_order eq5) rfl (Nat.le_of_ble_eq_true rfl) (s_X2_order (by omega)  eq5) ?_
        refine ex_pop (pc := 61) dX2_readOpened_61 rfl ?_
        refine ex_iload_n (pc := 62) 0 dX2_readOpened_62 rfl rfl ?_
        cases h
        exact ex_ireturn (pc := 63) dX2_readOpened_63
noncomputable def b_X2_readProduct_42 (rec : Nat → Nat → Int32 → Mem → Option (Bool × Mem)) (k7 : Nat → Bool → Int32 → Mem → Option (Bool × Mem)) (x0 : Nat) (x2 : Int32) (M : Mem) : Option (Bool × Mem) :=
  (gR M 2 x0 0).bind fun v1 =>
  (gI M 7 v1 2).bind fun v2 =>
  (gR M 2 x0 0).bind fun v3 =>
  (f_X7_advance v3 M).bind fun q4 =>
  (rec 5 x0 0 q4).bind fun q5 =>
  (f_X2_order x0 v2 0 q5.2).bind fun q6 =>
  k7 x0 q5.1 (x2 + 1) q6.2
set_option maxHeartbeats 4000000 in
theorem t_X2_readProduct_42 {X : XV} {d : Nat} {rec : Nat → Nat → Int32 → Mem → Option (Bool × Mem)} (hrec : rdOK X d rec) (hd : 7 ≤ d + 1) {k7 : Nat → Bool → Int32 → Mem → Option (Bool × Mem)} (hk7 : ∀ (x0 : Nat) (x1 : Bool) (x2 : Int32) (M : Mem) (res : Bool × Mem), k7 x0 x1 x2 M = some res → Ex X (d + 1) mX2_readProduct 7 [(0, .ref x0), (1, .int (jz x1)), (2, .int x2)] [] M (some (.int (jz res.1))) res.2) : ∀ (x0 : Nat) (x2 : Int32) (M : Mem) (res : Bool × Mem), b_X2_readProduct_42 rec k7 x0 x2 M = some res → Ex X (d + 1) mX2_readProduct 42 [(0, .ref x0), (2, .int x2)] [] M (some (.int (jz res.1))) res.2 := by
  intro x0 x2 M res  h
  unfold b_X2_readProduct_42 at h
  refine ex_aload_n (pc := 42) 0 dX2_readProduct_42 rfl rfl ?_
  obtain ⟨v1, ev1, h⟩ := ob_some h
  refine ex_gR (pc := 43) ev1 dX2_readProduct_43 lfX2_34 ?_
  obtain ⟨v2, ev2, h⟩ := ob_some h
  refine ex_gI (pc := 46) ev2 dX2_readProduct_46 lfX2_58 ?_
  refine ex_istore_n (pc := 49) [(3, .int v2), (0, .ref x0), (2, .int x2)] dX2_readProduct_49 rfl (by decide) rfl ?_
  refine ex_aload_n (pc := 50) 1 dX2_readProduct_50 rfl rfl ?_
  obtain ⟨v3, ev3, h⟩ := ob_some h
  refine ex_gR (pc := 51) ev3 dX2_readProduct_51 lfX2_34 ?_
  obtain ⟨q4, eq4, h⟩ := ob_some h
  refine ex_callV0v (pc := 54) dX2_readProduct_54 jX7_advance lmX2_86 jiX7_advance jvX7_advance (o_X7_advance eq4) rfl (Nat.le_of_ble_eq_true rfl) (s_X7_advance (by omega)  eq4) ?_
  refine ex_aload_n (pc := 57) 1 dX2_readProduct_57 rfl rfl ?_
  obtain ⟨q5, eq5, h⟩ := ob_some h
  refine ex_callV0r (pc := 58) dX2_readProduct_58 jX2_readOne lmX2_118 jiX2_readOne jvX2_readOne (hrec 5 _ _ _ _ eq5).1 rfl (Nat.le_of_ble_eq_true rfl) (hrec 5 _ _ _ _ eq5).2 ?_
  refine ex_istore_n (pc := 61) [(1, .int (jz q5.1)), (3, .int v2), (0, .ref x0), (2, .int x2)] dX2_readProduct_61 rfl (by decide) rfl ?_
  refine ex_aload_n (pc := 62) 2 dX2_readProduct_62 rfl rfl ?_
  refine ex_iload_n (pc := 63) 1 dX2_readProduct_63 rfl rfl ?_
  refine ex_iconst (pc := 64) 0 dX2_readProduct_64 rfl ?_
  obtain ⟨q6, eq6, h⟩ := ob_some h
  refine ex_callV2r (pc := 65) dX2_readProduct_65 jX2_order lmX2_114 jiX2_order jvX2_order (o_X2_order eq6) rfl (Nat.le_of_ble_eq_true rfl) (s_X2_order (by omega)  eq6) ?_
  refine ex_pop (pc := 68) dX2_readProduct_68 rfl ?_
  refine ex_iinc (pc := 69) (x2 + 1) 3 [(2, .int (x2 + 1)), (1, .int (jz q5.1)), (3, .int v2), (0, .ref x0)] dX2_readProduct_69 rfl rfl (by decide) rfl ?_
  refine ex_goto (pc := 72) 7 dX2_readProduct_72 rfl ?_
  refine ex_sub (lo' := [(0, .ref x0), (1, .int (jz q5.1)), (2, .int (x2 + 1))]) [3, 1, 0] rfl ?_
  exact hk7 _ _ _ _ _  h
noncomputable def b_X2_readProduct_7 (rec : Nat → Nat → Int32 → Mem → Option (Bool × Mem)) (n0 : Nat) (x0 : Nat) (x1 : Bool) (x2 : Int32) (M : Mem) : Option (Bool × Mem) :=
  match n0 with
  | 0 => none
  | n + 1 =>
    if 300 ≤ x2 then
    (some (x1, M))
    else
    (if x1 = false then
    (some (x1, M))
    else
    ((gR M 2 x0 0).bind fun v9 =>
    (gI M 7 v9 2).bind fun v10 =>
    if v10 = 34 then
    (b_X2_readProduct_42 rec (b_X2_readProduct_7 rec n) x0 x2 M)
    else
    ((gR M 2 x0 0).bind fun v12 =>
    (gI M 7 v12 2).bind fun v13 =>
    if v13 = 35 then
    (b_X2_readProduct_42 rec (b_X2_readProduct_7 rec n) x0 x2 M)
    else
    (some (x1, M)))))
set_option maxHeartbeats 4000000 in
theorem t_X2_readProduct_7 {X : XV} {d : Nat} {rec : Nat → Nat → Int32 → Mem → Option (Bool × Mem)} (hrec : rdOK X d rec) (hd : 7 ≤ d + 1) : ∀ (n : Nat) (x0 : Nat) (x1 : Bool) (x2 : Int32) (M : Mem) (res : Bool × Mem), b_X2_readProduct_7 rec n  x0 x1 x2 M = some res → Ex X (d + 1) mX2_readProduct 7 [(0, .ref x0), (1, .int (jz x1)), (2, .int x2)] [] M (some (.int (jz res.1))) res.2 := by
  intro n
  induction n with
  | zero =>
    intro x0 x1 x2 M res  h
    unfold b_X2_readProduct_7 at h
    cases h
  | succ n ih =>
    intro x0 x1 x2 M res  h
    unfold b_X2_readProduct_7 at h
    refine ex_iload_n (pc := 7) 2 dX2_readProduct_7 rfl rfl ?_
    refine ex_sipush (pc := 8) 300 dX2_readProduct_8 (by decide) ?_
    by_cases c7 : 300 ≤ x2
    · rw [if_pos c7] at h
      refine ex_icmp_ge_t (pc := 11) 75 dX2_readProduct_11 rfl c7 ?_
      refine ex_iload_n (pc := 75) 1 dX2_readProduct_75 rfl rfl ?_
      cases h
      exact ex_ireturn (pc := 76) dX2_readProduct_76
    · rw [if_neg c7] at h
      refine ex_icmp_ge_f (pc := 11) dX2_readProduct_11 75 rfl c7 ?_
      refine ex_iload_n (pc := 14) 1 dX2_readProduct_14 rfl rfl ?_
      by_cases c8 : x1 = false
      · rw [if_pos c8] at h
        refine ex_if_eq_t (pc := 15) 75 dX2_readProduct_15 rfl (jz_eq_t c8) ?_
        refine ex_iload_n (pc := 75) 1 dX2_readProduct_75 rfl rfl ?_
        cases h
        exact ex_ireturn (pc := 76) dX2_readProduct_76
      · rw [if_neg c8] at h
        refine ex_if_eq_f (pc := 15) dX2_readProduct_15 75 rfl (jz_eq_f c8) ?_
        refine ex_aload_n (pc := 18) 0 dX2_readProduct_18 rfl rfl ?_
        obtain ⟨v9, ev9, h⟩ := ob_some h
        refine ex_gR (pc := 19) ev9 dX2_readProduct_19 lfX2_34 ?_
        obtain ⟨v10, ev10, h⟩ := ob_some h
        refine ex_gI (pc := 22) ev10 dX2_readProduct_22 lfX2_58 ?_
        refine ex_bipush (pc := 25) 34 dX2_readProduct_25 (by decide) ?_
        by_cases c11 : v10 = 34
        · rw [if_pos c11] at h
          refine ex_icmp_eq_t (pc := 27) 42 dX2_readProduct_27 rfl c11 ?_
          refine ex_sub (lo' := [(0, .ref x0), (2, .int x2)]) [0, 2] rfl ?_
          exact t_X2_readProduct_42 hrec hd ih _ _ _ _  h
        · rw [if_neg c11] at h
          refine ex_icmp_eq_f (pc := 27) dX2_readProduct_27 42 rfl c11 ?_
          refine ex_aload_n (pc := 30) 0 dX2_readProduct_30 rfl rfl ?_
          obtain ⟨v12, ev12, h⟩ := ob_some h
          refine ex_gR (pc := 31) ev12 dX2_readProduct_31 lfX2_34 ?_
          obtain ⟨v13, ev13, h⟩ := ob_some h
          refine ex_gI (pc := 34) ev13 dX2_readProduct_34 lfX2_58 ?_
          refine ex_bipush (pc := 37) 35 dX2_readProduct_37 (by decide) ?_
          by_cases c14 : v13 = 35
          · rw [if_pos c14] at h
            refine ex_icmp_ne_f (pc := 39) dX2_readProduct_39 75 rfl c14 ?_
            refine ex_sub (lo' := [(0, .ref x0), (2, .int x2)]) [0, 2] rfl ?_
            exact t_X2_readProduct_42 hrec hd ih _ _ _ _  h
          · rw [if_neg c14] at h
            refine ex_icmp_ne_t (pc := 39) 75 dX2_readProduct_39 rfl c14 ?_
            refine ex_iload_n (pc := 75) 1 dX2_readProduct_75 rfl rfl ?_
            cases h
            exact ex_ireturn (pc := 76) dX2_readProduct_76
noncomputable def b_X2_readProduct_0 (rec : Nat → Nat → Int32 → Mem → Option (Bool × Mem)) (x0 : Nat) (M : Mem) : Option (Bool × Mem) :=
  (rec 5 x0 0 M).bind fun q15 =>
  b_X2_readProduct_7 rec fu x0 q15.1 0 q15.2
set_option maxHeartbeats 4000000 in
theorem t_X2_readProduct_0 {X : XV} {d : Nat} {rec : Nat → Nat → Int32 → Mem → Option (Bool × Mem)} (hrec : rdOK X d rec) (hd : 7 ≤ d + 1) : ∀ (x0 : Nat) (M : Mem) (res : Bool × Mem), b_X2_readProduct_0 rec  x0 M = some res → Ex X (d + 1) mX2_readProduct 0 [(0, .ref x0)] [] M (some (.int (jz res.1))) res.2 := by
  intro x0 M res  h
  unfold b_X2_readProduct_0 at h
  refine ex_aload_n (pc := 0) 0 dX2_readProduct_0 rfl rfl ?_
  obtain ⟨q15, eq15, h⟩ := ob_some h
  refine ex_callV0r (pc := 1) dX2_readProduct_1 jX2_readOne lmX2_118 jiX2_readOne jvX2_readOne (hrec 5 _ _ _ _ eq15).1 rfl (Nat.le_of_ble_eq_true rfl) (hrec 5 _ _ _ _ eq15).2 ?_
  refine ex_istore_n (pc := 4) [(1, .int (jz q15.1)), (0, .ref x0)] dX2_readProduct_4 rfl (by decide) rfl ?_
  refine ex_iconst (pc := 5) 0 dX2_readProduct_5 rfl ?_
  refine ex_istore_n (pc := 6) [(2, .int 0), (1, .int (jz q15.1)), (0, .ref x0)] dX2_readProduct_6 rfl (by decide) rfl ?_
  refine ex_sub (lo' := [(0, .ref x0), (1, .int (jz q15.1)), (2, .int 0)]) [2, 1, 0] rfl ?_
  exact t_X2_readProduct_7 hrec hd  _ _ _ _ _ _  h
noncomputable def b_X2_readSum_42 (rec : Nat → Nat → Int32 → Mem → Option (Bool × Mem)) (k7 : Nat → Bool → Int32 → Mem → Option (Bool × Mem)) (x0 : Nat) (x2 : Int32) (M : Mem) : Option (Bool × Mem) :=
  (gR M 2 x0 0).bind fun v1 =>
  (gI M 7 v1 2).bind fun v2 =>
  (gR M 2 x0 0).bind fun v3 =>
  (f_X7_advance v3 M).bind fun q4 =>
  (rec 7 x0 0 q4).bind fun q5 =>
  (f_X2_order x0 v2 0 q5.2).bind fun q6 =>
  k7 x0 q5.1 (x2 + 1) q6.2
set_option maxHeartbeats 4000000 in
theorem t_X2_readSum_42 {X : XV} {d : Nat} {rec : Nat → Nat → Int32 → Mem → Option (Bool × Mem)} (hrec : rdOK X d rec) (hd : 7 ≤ d + 1) {k7 : Nat → Bool → Int32 → Mem → Option (Bool × Mem)} (hk7 : ∀ (x0 : Nat) (x1 : Bool) (x2 : Int32) (M : Mem) (res : Bool × Mem), k7 x0 x1 x2 M = some res → Ex X (d + 1) mX2_readSum 7 [(0, .ref x0), (1, .int (jz x1)), (2, .int x2)] [] M (some (.int (jz res.1))) res.2) : ∀ (x0 : Nat) (x2 : Int32) (M : Mem) (res : Bool × Mem), b_X2_readSum_42 rec k7 x0 x2 M = some res → Ex X (d + 1) mX2_readSum 42 [(0, .ref x0), (2, .int x2)] [] M (some (.int (jz res.1))) res.2 := by
  intro x0 x2 M res  h
  unfold b_X2_readSum_42 at h
  refine ex_aload_n (pc := 42) 0 dX2_readSum_42 rfl rfl ?_
  obtain ⟨v1, ev1, h⟩ := ob_some h
  refine ex_gR (pc := 43) ev1 dX2_readSum_43 lfX2_34 ?_
  obtain ⟨v2, ev2, h⟩ := ob_some h
  refine ex_gI (pc := 46) ev2 dX2_readSum_46 lfX2_58 ?_
  refine ex_istore_n (pc := 49) [(3, .int v2), (0, .ref x0), (2, .int x2)] dX2_readSum_49 rfl (by decide) rfl ?_
  refine ex_aload_n (pc := 50) 1 dX2_readSum_50 rfl rfl ?_
  obtain ⟨v3, ev3, h⟩ := ob_some h
  refine ex_gR (pc := 51) ev3 dX2_readSum_51 lfX2_34 ?_
  obtain ⟨q4, eq4, h⟩ := ob_some h
  refine ex_callV0v (pc := 54) dX2_readSum_54 jX7_advance lmX2_86 jiX7_advance jvX7_advance (o_X7_advance eq4) rfl (Nat.le_of_ble_eq_true rfl) (s_X7_advance (by omega)  eq4) ?_
  refine ex_aload_n (pc := 57) 1 dX2_readSum_57 rfl rfl ?_
  obtain ⟨q5, eq5, h⟩ := ob_some h
  refine ex_callV0r (pc := 58) dX2_readSum_58 jX2_readProduct lmX2_111 jiX2_readProduct jvX2_readProduct (hrec 7 _ _ _ _ eq5).1 rfl (Nat.le_of_ble_eq_true rfl) (hrec 7 _ _ _ _ eq5).2 ?_
  refine ex_istore_n (pc := 61) [(1, .int (jz q5.1)), (3, .int v2), (0, .ref x0), (2, .int x2)] dX2_readSum_61 rfl (by decide) rfl ?_
  refine ex_aload_n (pc := 62) 2 dX2_readSum_62 rfl rfl ?_
  refine ex_iload_n (pc := 63) 1 dX2_readSum_63 rfl rfl ?_
  refine ex_iconst (pc := 64) 0 dX2_readSum_64 rfl ?_
  obtain ⟨q6, eq6, h⟩ := ob_some h
  refine ex_callV2r (pc := 65) dX2_readSum_65 jX2_order lmX2_114 jiX2_order jvX2_order (o_X2_order eq6) rfl (Nat.le_of_ble_eq_true rfl) (s_X2_order (by omega)  eq6) ?_
  refine ex_pop (pc := 68) dX2_readSum_68 rfl ?_
  refine ex_iinc (pc := 69) (x2 + 1) 3 [(2, .int (x2 + 1)), (1, .int (jz q5.1)), (3, .int v2), (0, .ref x0)] dX2_readSum_69 rfl rfl (by decide) rfl ?_
  refine ex_goto (pc := 72) 7 dX2_readSum_72 rfl ?_
  refine ex_sub (lo' := [(0, .ref x0), (1, .int (jz q5.1)), (2, .int (x2 + 1))]) [3, 1, 0] rfl ?_
  exact hk7 _ _ _ _ _  h
noncomputable def b_X2_readSum_7 (rec : Nat → Nat → Int32 → Mem → Option (Bool × Mem)) (n0 : Nat) (x0 : Nat) (x1 : Bool) (x2 : Int32) (M : Mem) : Option (Bool × Mem) :=
  match n0 with
  | 0 => none
  | n + 1 =>
    if 300 ≤ x2 then
    (some (x1, M))
    else
    (if x1 = false then
    (some (x1, M))
    else
    ((gR M 2 x0 0).bind fun v9 =>
    (gI M 7 v9 2).bind fun v10 =>
    if v10 = 32 then
    (b_X2_readSum_42 rec (b_X2_readSum_7 rec n) x0 x2 M)
    else
    ((gR M 2 x0 0).bind fun v12 =>
    (gI M 7 v12 2).bind fun v13 =>
    if v13 = 33 then
    (b_X2_readSum_42 rec (b_X2_readSum_7 rec n) x0 x2 M)
    else
    (some (x1, M)))))
set_option maxHeartbeats 4000000 in
theorem t_X2_readSum_7 {X : XV} {d : Nat} {rec : Nat → Nat → Int32 → Mem → Option (Bool × Mem)} (hrec : rdOK X d rec) (hd : 7 ≤ d + 1) : ∀ (n : Nat) (x0 : Nat) (x1 : Bool) (x2 : Int32) (M : Mem) (res : Bool × Mem), b_X2_readSum_7 rec n  x0 x1 x2 M = some res → Ex X (d + 1) mX2_readSum 7 [(0, .ref x0), (1, .int (jz x1)), (2, .int x2)] [] M (some (.int (jz res.1))) res.2 := by
  intro n
  induction n with
  | zero =>
    intro x0 x1 x2 M res  h
    unfold b_X2_readSum_7 at h
    cases h
  | succ n ih =>
    intro x0 x1 x2 M res  h
    unfold b_X2_readSum_7 at h
    refine ex_iload_n (pc := 7) 2 dX2_readSum_7 rfl rfl ?_
    refine ex_sipush (pc := 8) 300 dX2_readSum_8 (by decide) ?_
    by_cases c7 : 300 ≤ x2
    · rw [if_pos c7] at h
      refine ex_icmp_ge_t (pc := 11) 75 dX2_readSum_11 rfl c7 ?_
      refine ex_iload_n (pc := 75) 1 dX2_readSum_75 rfl rfl ?_
      cases h
      exact ex_ireturn (pc := 76) dX2_readSum_76
    · rw [if_neg c7] at h
      refine ex_icmp_ge_f (pc := 11) dX2_readSum_11 75 rfl c7 ?_
      refine ex_iload_n (pc := 14) 1 dX2_readSum_14 rfl rfl ?_
      by_cases c8 : x1 = false
      · rw [if_pos c8] at h
        refine ex_if_eq_t (pc := 15) 75 dX2_readSum_15 rfl (jz_eq_t c8) ?_
        refine ex_iload_n (pc := 75) 1 dX2_readSum_75 rfl rfl ?_
        cases h
        exact ex_ireturn (pc := 76) dX2_readSum_76
      · rw [if_neg c8] at h
        refine ex_if_eq_f (pc := 15) dX2_readSum_15 75 rfl (jz_eq_f c8) ?_
        refine ex_aload_n (pc := 18) 0 dX2_readSum_18 rfl rfl ?_
        obtain ⟨v9, ev9, h⟩ := ob_some h
        refine ex_gR (pc := 19) ev9 dX2_readSum_19 lfX2_34 ?_
        obtain ⟨v10, ev10, h⟩ := ob_some h
        refine ex_gI (pc := 22) ev10 dX2_readSum_22 lfX2_58 ?_
        refine ex_bipush (pc := 25) 32 dX2_readSum_25 (by decide) ?_
        by_cases c11 : v10 = 32
        · rw [if_pos c11] at h
          refine ex_icmp_eq_t (pc := 27) 42 dX2_readSum_27 rfl c11 ?_
          refine ex_sub (lo' := [(0, .ref x0), (2, .int x2)]) [0, 2] rfl ?_
          exact t_X2_readSum_42 hrec hd ih _ _ _ _  h
        · rw [if_neg c11] at h
          refine ex_icmp_eq_f (pc := 27) dX2_readSum_27 42 rfl c11 ?_
          refine ex_aload_n (pc := 30) 0 dX2_readSum_30 rfl rfl ?_
          obtain ⟨v12, ev12, h⟩ := ob_some h
          refine ex_gR (pc := 31) ev12 dX2_readSum_31 lfX2_34 ?_
          obtain ⟨v13, ev13, h⟩ := ob_some h
          refine ex_gI (pc := 34) ev13 dX2_readSum_34 lfX2_58 ?_
          refine ex_bipush (pc := 37) 33 dX2_readSum_37 (by decide) ?_
          by_cases c14 : v13 = 33
          · rw [if_pos c14] at h
            refine ex_icmp_ne_f (pc := 39) dX2_readSum_39 75 rfl c14 ?_
            refine ex_sub (lo' := [(0, .ref x0), (2, .int x2)]) [0, 2] rfl ?_
            exact t_X2_readSum_42 hrec hd ih _ _ _ _  h
          · rw [if_neg c14] at h
            refine ex_icmp_ne_t (pc := 39) 75 dX2_readSum_39 rfl c14 ?_
            refine ex_iload_n (pc := 75) 1 dX2_readSum_75 rfl rfl ?_
            cases h
            exact ex_ireturn (pc := 76) dX2_readSum_76
noncomputable def b_X2_readSum_0 (rec : Nat → Nat → Int32 → Mem → Option (Bool × Mem)) (x0 : Nat) (M : Mem) : Option (Bool × Mem) :=
  (rec 7 x0 0 M).bind fun q15 =>
  b_X2_readSum_7 rec fu x0 q15.1 0 q15.2
set_option maxHeartbeats 4000000 in
theorem t_X2_readSum_0 {X : XV} {d : Nat} {rec : Nat → Nat → Int32 → Mem → Option (Bool × Mem)} (hrec : rdOK X d rec) (hd : 7 ≤ d + 1) : ∀ (x0 : Nat) (M : Mem) (res : Bool × Mem), b_X2_readSum_0 rec  x0 M = some res → Ex X (d + 1) mX2_readSum 0 [(0, .ref x0)] [] M (some (.int (jz res.1))) res.2 := by
  intro x0 M res  h
  unfold b_X2_readSum_0 at h
  refine ex_aload_n (pc := 0) 0 dX2_readSum_0 rfl rfl ?_
  obtain ⟨q15, eq15, h⟩ := ob_some h
  refine ex_callV0r (pc := 1) dX2_readSum_1 jX2_readProduct lmX2_111 jiX2_readProduct jvX2_readProduct (hrec 7 _ _ _ _ eq15).1 rfl (Nat.le_of_ble_eq_true rfl) (hrec 7 _ _ _ _ eq15).2 ?_
  refine ex_istore_n (pc := 4) [(1, .int (jz q15.1)), (0, .ref x0)] dX2_readSum_4 rfl (by decide) rfl ?_
  refine ex_iconst (pc := 5) 0 dX2_readSum_5 rfl ?_
  refine ex_istore_n (pc := 6) [(2, .int 0), (1, .int (jz q15.1)), (0, .ref x0)] dX2_readSum_6 rfl (by decide) rfl ?_
  refine ex_sub (lo' := [(0, .ref x0), (1, .int (jz q15.1)), (2, .int 0)]) [2, 1, 0] rfl ?_
  exact t_X2_readSum_7 hrec hd  _ _ _ _ _ _  h
