noncomputable def f_X6_distance_31 (k2 : Nat → Nat → Nat → Int32 → Mem → Option (Int32 × Mem)) (k13 : Nat → Nat → Nat → Int32 → Int32 → Mem → Option (Int32 × Mem)) (x0 : Nat) (x1 : Nat) (x2 : Nat) (x3 : Int32) (x4 : Int32) (M : Mem) : Option (Int32 × Mem) :=
  (gR M 6 x0 4).bind fun v1 =>
  (rR 4 M v1 x3).bind fun w2 =>
  (wI M w2 x4 (x3 + x4)).bind fun q3 =>
  k13 x0 x1 x2 x3 (x4 + 1) q3
set_option maxHeartbeats 4000000 in
theorem t_X6_distance_31 {X : XV} {d : Nat} (hd : 3 ≤ d + 1) {k2 : Nat → Nat → Nat → Int32 → Mem → Option (Int32 × Mem)} (hk2 : ∀ (x0 : Nat) (x1 : Nat) (x2 : Nat) (x3 : Int32) (M : Mem) (res : Int32 × Mem), k2 x0 x1 x2 x3 M = some res → Ex X (d + 1) mX6_distance 2 [(0, .ref x0), (1, .ref x1), (2, .ref x2), (3, .int x3)] [] M (some (.int res.1)) res.2) {k13 : Nat → Nat → Nat → Int32 → Int32 → Mem → Option (Int32 × Mem)} (hk13 : ∀ (x0 : Nat) (x1 : Nat) (x2 : Nat) (x3 : Int32) (x4 : Int32) (M : Mem) (res : Int32 × Mem), k13 x0 x1 x2 x3 x4 M = some res → Ex X (d + 1) mX6_distance 13 [(0, .ref x0), (1, .ref x1), (2, .ref x2), (3, .int x3), (4, .int x4)] [] M (some (.int res.1)) res.2) : ∀ (x0 : Nat) (x1 : Nat) (x2 : Nat) (x3 : Int32) (x4 : Int32) (M : Mem) (res : Int32 × Mem), f_X6_distance_31 k2 k13 x0 x1 x2 x3 x4 M = some res → Ex X (d + 1) mX6_distance 31 [(0, .ref x0), (1, .ref x1), (2, .ref x2), (3, .int x3), (4, .int x4)] [] M (some (.int res.1)) res.2 := by
  intro x0 x1 x2 x3 x4 M res  h
  unfold f_X6_distance_31 at h
  refine ex_aload_n (pc := 31) 0 dX6_distance_31 rfl rfl ?_
  obtain ⟨v1, ev1, h⟩ := ob_some h
  refine ex_gR (pc := 32) ev1 dX6_distance_32 lfX6_32 ?_
  refine ex_iload_n (pc := 35) 3 dX6_distance_35 rfl rfl ?_
  obtain ⟨w2, ew2, h⟩ := ob_some h
  refine ex_rR (pc := 36) ew2 (by decide) dX6_distance_36 ?_
  refine ex_iload (pc := 37) 4 dX6_distance_37 rfl ?_
  refine ex_iload_n (pc := 39) 3 dX6_distance_39 rfl rfl ?_
  refine ex_iload (pc := 40) 4 dX6_distance_40 rfl ?_
  refine ex_iadd (pc := 42) dX6_distance_42 ?_
  obtain ⟨q3, eq3, h⟩ := ob_some h
  refine ex_wI (pc := 43) eq3 dX6_distance_43 ?_
  refine ex_goto (pc := 44) 131 dX6_distance_44 rfl ?_
  refine ex_iinc (pc := 131) (x4 + 1) 4 [(4, .int (x4 + 1)), (0, .ref x0), (1, .ref x1), (2, .ref x2), (3, .int x3)] dX6_distance_131 rfl rfl (by decide) rfl ?_
  refine ex_goto (pc := 134) 13 dX6_distance_134 rfl ?_
  refine ex_sub (lo' := [(0, .ref x0), (1, .ref x1), (2, .ref x2), (3, .int x3), (4, .int (x4 + 1))]) [1, 2, 3, 4, 0] rfl ?_
  exact hk13 _ _ _ _ _ _ _  h
noncomputable def f_X6_distance_83 (k2 : Nat → Nat → Nat → Int32 → Mem → Option (Int32 × Mem)) (k13 : Nat → Nat → Nat → Int32 → Int32 → Mem → Option (Int32 × Mem)) (x0 : Nat) (x1 : Nat) (x2 : Nat) (x3 : Int32) (x4 : Int32) (s0 : Bool) (s1 : Int32) (M : Mem) : Option (Int32 × Mem) :=
  (gR M 6 x0 4).bind fun v4 =>
  (rR 4 M v4 (x3 - 1)).bind fun w5 =>
  (rI M w5 x4).bind fun v6 =>
  (gR M 6 x0 4).bind fun v7 =>
  (rR 4 M v7 x3).bind fun w8 =>
  (rI M w8 (x4 - 1)).bind fun v9 =>
  (gR M 6 x0 4).bind fun v10 =>
  (rR 4 M v10 x3).bind fun w11 =>
  (wI M w11 x4 (jmin (s1 + (jz s0)) ((jmin v6 v9) + 1))).bind fun q12 =>
  k13 x0 x1 x2 x3 (x4 + 1) q12
set_option maxHeartbeats 4000000 in
theorem t_X6_distance_83 {X : XV} {d : Nat} (hd : 3 ≤ d + 1) {k2 : Nat → Nat → Nat → Int32 → Mem → Option (Int32 × Mem)} (hk2 : ∀ (x0 : Nat) (x1 : Nat) (x2 : Nat) (x3 : Int32) (M : Mem) (res : Int32 × Mem), k2 x0 x1 x2 x3 M = some res → Ex X (d + 1) mX6_distance 2 [(0, .ref x0), (1, .ref x1), (2, .ref x2), (3, .int x3)] [] M (some (.int res.1)) res.2) {k13 : Nat → Nat → Nat → Int32 → Int32 → Mem → Option (Int32 × Mem)} (hk13 : ∀ (x0 : Nat) (x1 : Nat) (x2 : Nat) (x3 : Int32) (x4 : Int32) (M : Mem) (res : Int32 × Mem), k13 x0 x1 x2 x3 x4 M = some res → Ex X (d + 1) mX6_distance 13 [(0, .ref x0), (1, .ref x1), (2, .ref x2), (3, .int x3), (4, .int x4)] [] M (some (.int res.1)) res.2) : ∀ (x0 : Nat) (x1 : Nat) (x2 : Nat) (x3 : Int32) (x4 : Int32) (s0 : Bool) (s1 : Int32) (M : Mem) (res : Int32 × Mem), f_X6_distance_83 k2 k13 x0 x1 x2 x3 x4 s0 s1 M = some res → Ex X (d + 1) mX6_distance 83 [(0, .ref x0), (1, .ref x1), (2, .ref x2), (3, .int x3), (4, .int x4)] [.int (jz s0), .int s1] M (some (.int res.1)) res.2 := by
  intro x0 x1 x2 x3 x4 s0 s1 M res  h
  unfold f_X6_distance_83 at h
  refine ex_iadd (pc := 83) dX6_distance_83 ?_
  refine ex_istore (pc := 84) [(5, .int (s1 + (jz s0))), (0, .ref x0), (1, .ref x1), (2, .ref x2), (3, .int x3), (4, .int x4)] dX6_distance_84 (by decide) rfl ?_
  refine ex_aload_n (pc := 86) 1 dX6_distance_86 rfl rfl ?_
  obtain ⟨v4, ev4, h⟩ := ob_some h
  refine ex_gR (pc := 87) ev4 dX6_distance_87 lfX6_32 ?_
  refine ex_iload_n (pc := 90) 4 dX6_distance_90 rfl rfl ?_
  refine ex_iconst (pc := 91) 1 dX6_distance_91 rfl ?_
  refine ex_isub (pc := 92) dX6_distance_92 ?_
  obtain ⟨w5, ew5, h⟩ := ob_some h
  refine ex_rR (pc := 93) ew5 (by decide) dX6_distance_93 ?_
  refine ex_iload (pc := 94) 5 dX6_distance_94 rfl ?_
  obtain ⟨v6, ev6, h⟩ := ob_some h
  refine ex_rI (pc := 96) ev6 dX6_distance_96 ?_
  refine ex_aload_n (pc := 97) 1 dX6_distance_97 rfl rfl ?_
  obtain ⟨v7, ev7, h⟩ := ob_some h
  refine ex_gR (pc := 98) ev7 dX6_distance_98 lfX6_32 ?_
  refine ex_iload_n (pc := 101) 4 dX6_distance_101 rfl rfl ?_
  obtain ⟨w8, ew8, h⟩ := ob_some h
  refine ex_rR (pc := 102) ew8 (by decide) dX6_distance_102 ?_
  refine ex_iload (pc := 103) 5 dX6_distance_103 rfl ?_
  refine ex_iconst (pc := 105) 1 dX6_distance_105 rfl ?_
  refine ex_isub (pc := 106) dX6_distance_106 ?_
  obtain ⟨v9, ev9, h⟩ := ob_some h
  refine ex_rI (pc := 107) ev9 dX6_distance_107 ?_
  refine ex_mmin (pc := 108) dX6_distance_108 lmX6_118 (by omega) (Nat.le_of_ble_eq_true rfl) ?_
  refine ex_iconst (pc := 111) 1 dX6_distance_111 rfl ?_
  refine ex_iadd (pc := 112) dX6_distance_112 ?_
  refine ex_istore (pc := 113) [(6, .int ((jmin v6 v9) + 1)), (5, .int (s1 + (jz s0))), (0, .ref x0), (1, .ref x1), (2, .ref x2), (3, .int x3), (4, .int x4)] dX6_distance_113 (by decide) rfl ?_
  refine ex_aload_n (pc := 115) 2 dX6_distance_115 rfl rfl ?_
  obtain ⟨v10, ev10, h⟩ := ob_some h
  refine ex_gR (pc := 116) ev10 dX6_distance_116 lfX6_32 ?_
  refine ex_iload_n (pc := 119) 5 dX6_distance_119 rfl rfl ?_
  obtain ⟨w11, ew11, h⟩ := ob_some h
  refine ex_rR (pc := 120) ew11 (by decide) dX6_distance_120 ?_
  refine ex_iload (pc := 121) 6 dX6_distance_121 rfl ?_
  refine ex_iload (pc := 123) 1 dX6_distance_123 rfl ?_
  refine ex_iload (pc := 125) 0 dX6_distance_125 rfl ?_
  refine ex_mmin (pc := 127) dX6_distance_127 lmX6_118 (by omega) (Nat.le_of_ble_eq_true rfl) ?_
  obtain ⟨q12, eq12, h⟩ := ob_some h
  refine ex_wI (pc := 130) eq12 dX6_distance_130 ?_
  refine ex_iinc (pc := 131) (x4 + 1) 6 [(4, .int (x4 + 1)), (6, .int ((jmin v6 v9) + 1)), (5, .int (s1 + (jz s0))), (0, .ref x0), (1, .ref x1), (2, .ref x2), (3, .int x3)] dX6_distance_131 rfl rfl (by decide) rfl ?_
  refine ex_goto (pc := 134) 13 dX6_distance_134 rfl ?_
  refine ex_sub (lo' := [(0, .ref x0), (1, .ref x1), (2, .ref x2), (3, .int x3), (4, .int (x4 + 1))]) [3, 4, 5, 6, 0] rfl ?_
  exact hk13 _ _ _ _ _ _ _  h
noncomputable def f_X6_distance_13 (n0 : Nat) (k2 : Nat → Nat → Nat → Int32 → Mem → Option (Int32 × Mem)) (x0 : Nat) (x1 : Nat) (x2 : Nat) (x3 : Int32) (x4 : Int32) (M : Mem) : Option (Int32 × Mem) :=
  match n0 with
  | 0 => none
  | n + 1 =>
    (gI M 3 x2 1).bind fun v13 =>
    if v13 < x4 then
    (k2 x0 x1 x2 (x3 + 1) M)
    else
    (if x3 = 0 then
    (f_X6_distance_31 k2 (f_X6_distance_13 n k2) x0 x1 x2 x3 x4 M)
    else
    (if x4 = 0 then
    (f_X6_distance_31 k2 (f_X6_distance_13 n k2) x0 x1 x2 x3 x4 M)
    else
    ((gR M 6 x0 4).bind fun v17 =>
    (rR 4 M v17 (x3 - 1)).bind fun w18 =>
    (rI M w18 (x4 - 1)).bind fun v19 =>
    (f_X3_get x1 (x3 - 1) M).bind fun v20 =>
    (f_X3_get x2 (x4 - 1) M).bind fun v21 =>
    if v20 = v21 then
    (f_X6_distance_83 k2 (f_X6_distance_13 n k2) x0 x1 x2 x3 x4 false v19 M)
    else
    (f_X6_distance_83 k2 (f_X6_distance_13 n k2) x0 x1 x2 x3 x4 true v19 M))))
set_option maxHeartbeats 4000000 in
theorem t_X6_distance_13 {X : XV} {d : Nat} (hd : 3 ≤ d + 1) {k2 : Nat → Nat → Nat → Int32 → Mem → Option (Int32 × Mem)} (hk2 : ∀ (x0 : Nat) (x1 : Nat) (x2 : Nat) (x3 : Int32) (M : Mem) (res : Int32 × Mem), k2 x0 x1 x2 x3 M = some res → Ex X (d + 1) mX6_distance 2 [(0, .ref x0), (1, .ref x1), (2, .ref x2), (3, .int x3)] [] M (some (.int res.1)) res.2) : ∀ (n : Nat) (x0 : Nat) (x1 : Nat) (x2 : Nat) (x3 : Int32) (x4 : Int32) (M : Mem) (res : Int32 × Mem), f_X6_distance_13 n k2 x0 x1 x2 x3 x4 M = some res → Ex X (d + 1) mX6_distance 13 [(0, .ref x0), (1, .ref x1), (2, .ref x2), (3, .int x3), (4, .int x4)] [] M (some (.int res.1)) res.2 := by
  intro n
  induction n with
  | zero =>
    intro x0 x1 x2 x3 x4 M res  h
    unfold f_X6_distance_13 at h
    cases h
  | succ n ih =>
    intro x0 x1 x2 x3 x4 M res  h
    unfold f_X6_distance_13 at h
    refine ex_iload (pc := 13) 4 dX6_distance_13 rfl ?_
    refine ex_aload_n (pc := 15) 2 dX6_distance_15 rfl rfl ?_
    obtain ⟨v13, ev13, h⟩ := ob_some h
    refine ex_gI (pc := 16) ev13 dX6_distance_16 lfX6_59 ?_
    by_cases c14 : v13 < x4
    · rw [if_pos c14] at h
      refine ex_icmp_gt_t (pc := 19) 137 dX6_distance_19 rfl c14 ?_
      refine ex_iinc (pc := 137) (x3 + 1) 3 [(3, .int (x3 + 1)), (0, .ref x0), (1, .ref x1), (2, .ref x2), (4, .int x4)] dX6_distance_137 rfl rfl (by decide) rfl ?_
      refine ex_goto (pc := 140) 2 dX6_distance_140 rfl ?_
      refine ex_sub (lo' := [(0, .ref x0), (1, .ref x1), (2, .ref x2), (3, .int (x3 + 1))]) [1, 2, 3, 0] rfl ?_
      exact hk2 _ _ _ _ _ _  h
    · rw [if_neg c14] at h
      refine ex_icmp_gt_f (pc := 19) dX6_distance_19 137 rfl c14 ?_
      refine ex_iload_n (pc := 22) 3 dX6_distance_22 rfl rfl ?_
      by_cases c15 : x3 = 0
      · rw [if_pos c15] at h
        refine ex_if_eq_t (pc := 23) 31 dX6_distance_23 rfl c15 ?_
        refine ex_sub (lo' := [(0, .ref x0), (1, .ref x1), (2, .ref x2), (3, .int x3), (4, .int x4)]) [0, 1, 2, 3, 4] rfl ?_
        exact t_X6_distance_31 hd hk2 ih _ _ _ _ _ _ _  h
      · rw [if_neg c15] at h
        refine ex_if_eq_f (pc := 23) dX6_distance_23 31 rfl c15 ?_
        refine ex_iload (pc := 26) 4 dX6_distance_26 rfl ?_
        by_cases c16 : x4 = 0
        · rw [if_pos c16] at h
          refine ex_if_ne_f (pc := 28) dX6_distance_28 47 rfl c16 ?_
          refine ex_sub (lo' := [(0, .ref x0), (1, .ref x1), (2, .ref x2), (3, .int x3), (4, .int x4)]) [0, 1, 2, 3, 4] rfl ?_
          exact t_X6_distance_31 hd hk2 ih _ _ _ _ _ _ _  h
        · rw [if_neg c16] at h
          refine ex_if_ne_t (pc := 28) 47 dX6_distance_28 rfl c16 ?_
          refine ex_aload_n (pc := 47) 0 dX6_distance_47 rfl rfl ?_
          obtain ⟨v17, ev17, h⟩ := ob_some h
          refine ex_gR (pc := 48) ev17 dX6_distance_48 lfX6_32 ?_
          refine ex_iload_n (pc := 51) 3 dX6_distance_51 rfl rfl ?_
          refine ex_iconst (pc := 52) 1 dX6_distance_52 rfl ?_
          refine ex_isub (pc := 53) dX6_distance_53 ?_
          obtain ⟨w18, ew18, h⟩ := ob_some h
          refine ex_rR (pc := 54) ew18 (by decide) dX6_distance_54 ?_
          refine ex_iload (pc := 55) 4 dX6_distance_55 rfl ?_
          refine ex_iconst (pc := 57) 1 dX6_distance_57 rfl ?_
          refine ex_isub (pc := 58) dX6_distance_58 ?_
          obtain ⟨v19, ev19, h⟩ := ob_some h
          refine ex_rI (pc := 59) ev19 dX6_distance_59 ?_
          refine ex_aload_n (pc := 60) 1 dX6_distance_60 rfl rfl ?_
          refine ex_iload_n (pc := 61) 3 dX6_distance_61 rfl rfl ?_
          refine ex_iconst (pc := 62) 1 dX6_distance_62 rfl ?_
          refine ex_isub (pc := 63) dX6_distance_63 ?_
          obtain ⟨v20, ev20, h⟩ := ob_some h
          refine ex_callV1r (pc := 64) dX6_distance_64 jX3_get lmX6_89 jiX3_get jvX3_get (o_X3_get ev20) rfl (Nat.le_of_ble_eq_true rfl) (s_X3_get (by omega)  ev20) ?_
          refine ex_aload_n (pc := 67) 2 dX6_distance_67 rfl rfl ?_
          refine ex_iload (pc := 68) 4 dX6_distance_68 rfl ?_
          refine ex_iconst (pc := 70) 1 dX6_distance_70 rfl ?_
          refine ex_isub (pc := 71) dX6_distance_71 ?_
          obtain ⟨v21, ev21, h⟩ := ob_some h
          refine ex_callV1r (pc := 72) dX6_distance_72 jX3_get lmX6_89 jiX3_get jvX3_get (o_X3_get ev21) rfl (Nat.le_of_ble_eq_true rfl) (s_X3_get (by omega)  ev21) ?_
          by_cases c22 : v20 = v21
          · rw [if_pos c22] at h
            refine ex_icmp_ne_f (pc := 75) dX6_distance_75 82 rfl c22 ?_
            refine ex_iconst (pc := 78) 0 dX6_distance_78 rfl ?_
            refine ex_goto (pc := 79) 83 dX6_distance_79 rfl ?_
            refine ex_sub (lo' := [(0, .ref x0), (1, .ref x1), (2, .ref x2), (3, .int x3), (4, .int x4)]) [0, 1, 2, 3, 4] rfl ?_
            exact t_X6_distance_83 hd hk2 ih _ _ _ _ _ _ _ _ _  h
          · rw [if_neg c22] at h
            refine ex_icmp_ne_t (pc := 75) 82 dX6_distance_75 rfl c22 ?_
            refine ex_iconst (pc := 82) 1 dX6_distance_82 rfl ?_
            refine ex_sub (lo' := [(0, .ref x0), (1, .ref x1), (2, .ref x2), (3, .int x3), (4, .int x4)]) [0, 1, 2, 3, 4] rfl ?_
            exact t_X6_distance_83 hd hk2 ih _ _ _ _ _ _ _ _ _  h
noncomputable def f_X6_distance_2 (n0 : Nat) (x0 : Nat) (x1 : Nat) (x2 : Nat) (x3 : Int32) (M : Mem) : Option (Int32 × Mem) :=
  match n0 with
  | 0 => none
  | n + 1 =>
    (gI M 3 x1 1).bind fun v23 =>
    if v23 < x3 then
    ((gR M 6 x0 4).bind fun v25 =>
    (gI M 3 x1 1).bind fun v26 =>
    (rR 4 M v25 v26).bind fun w27 =>
    (gI M 3 x2 1).bind fun v28 =>
    (rI M w27 v28).bind fun v29 =>
    some (v29, M))
    else
    (f_X6_distance_13 fu (f_X6_distance_2 n) x0 x1 x2 x3 0 M)
set_option maxHeartbeats 4000000 in
theorem t_X6_distance_2 {X : XV} {d : Nat} (hd : 3 ≤ d + 1) : ∀ (n : Nat) (x0 : Nat) (x1 : Nat) (x2 : Nat) (x3 : Int32) (M : Mem) (res : Int32 × Mem), f_X6_distance_2 n  x0 x1 x2 x3 M = some res → Ex X (d + 1) mX6_distance 2 [(0, .ref x0), (1, .ref x1), (2, .ref x2), (3, .int x3)] [] M (some (.int res.1)) res.2 := by
  intro n
  induction n with
  | zero =>
    intro x0 x1 x2 x3 M res  h
    unfold f_X6_distance_2 at h
    cases h
  | succ n ih =>
    intro x0 x1 x2 x3 M res  h
    unfold f_X6_distance_2 at h
    refine ex_iload_n (pc := 2) 3 dX6_distance_2 rfl rfl ?_
    refine ex_aload_n (pc := 3) 1 dX6_distance_3 rfl rfl ?_
    obtain ⟨v23, ev23, h⟩ := ob_some h
    refine ex_gI (pc := 4) ev23 dX6_distance_4 lfX6_59 ?_
    by_cases c24 : v23 < x3
    · rw [if_pos c24] at h
      refine ex_icmp_gt_t (pc := 7) 143 dX6_distance_7 rfl c24 ?_
      refine ex_aload_n (pc := 143) 0 dX6_distance_143 rfl rfl ?_
      obtain ⟨v25, ev25, h⟩ := ob_some h
      refine ex_gR (pc := 144) ev25 dX6_distance_144 lfX6_32 ?_
      refine ex_aload_n (pc := 147) 1 dX6_distance_147 rfl rfl ?_
      obtain ⟨v26, ev26, h⟩ := ob_some h
      refine ex_gI (pc := 148) ev26 dX6_distance_148 lfX6_59 ?_
      obtain ⟨w27, ew27, h⟩ := ob_some h
      refine ex_rR (pc := 151) ew27 (by decide) dX6_distance_151 ?_
      refine ex_aload_n (pc := 152) 2 dX6_distance_152 rfl rfl ?_
      obtain ⟨v28, ev28, h⟩ := ob_some h
      refine ex_gI (pc := 153) ev28 dX6_distance_153 lfX6_59 ?_
      obtain ⟨v29, ev29, h⟩ := ob_some h
      refine ex_rI (pc := 156) ev29 dX6_distance_156 ?_
      cases h
      exact ex_ireturn (pc := 157) dX6_distance_157
    · rw [if_neg c24] at h
      refine ex_icmp_gt_f (pc := 7) dX6_distance_7 143 rfl c24 ?_
      refine ex_iconst (pc := 10) 0 dX6_distance_10 rfl ?_
      refine ex_istore (pc := 11) [(4, .int 0), (0, .ref x0), (1, .ref x1), (2, .ref x2), (3, .int x3)] dX6_distance_11 (by decide) rfl ?_
      refine ex_sub (lo' := [(0, .ref x0), (1, .ref x1), (2, .ref x2), (3, .int x3), (4, .int 0)]) [1, 2, 3, 4, 0] rfl ?_
      exact t_X6_distance_13 hd ih _ _ _ _ _ _ _ _  h
noncomputable def f_X6_distance_0 (x0 : Nat) (x1 : Nat) (x2 : Nat) (M : Mem) : Option (Int32 × Mem) :=
  f_X6_distance_2 fu x0 x1 x2 0 M
set_option maxHeartbeats 4000000 in
theorem t_X6_distance_0 {X : XV} {d : Nat} (hd : 3 ≤ d + 1) : ∀ (x0 : Nat) (x1 : Nat) (x2 : Nat) (M : Mem) (res : Int32 × Mem), f_X6_distance_0  x0 x1 x2 M = some res → Ex X (d + 1) mX6_distance 0 [(0, .ref x0), (1, .ref x1), (2, .ref x2)] [] M (some (.int res.1)) res.2 := by
  intro x0 x1 x2 M res  h
  unfold f_X6_distance_0 at h
  refine ex_iconst (pc := 0) 0 dX6_distance_0 rfl ?_
  refine ex_istore_n (pc := 1) [(3, .int 0), (0, .ref x0), (1, .ref x1), (2, .ref x2)] dX6_distance_1 rfl (by decide) rfl ?_
  refine ex_sub (lo' := [(0, .ref x0), (1, .ref x1), (2, .ref x2), (3, .int 0)]) [1, 2, 3, 0] rfl ?_
  exact t_X6_distance_2 hd  _ _ _ _ _ _ _  h
noncomputable def f_X6_distance (x0 : Nat) (x1 : Nat) (x2 : Nat) (M : Mem) : Option (Int32 × Mem) := if isOb M 6 x0 = true then f_X6_distance_0 x0 x1 x2 M else none
theorem o_X6_distance {x0 : Nat} {x1 : Nat} {x2 : Nat} {M : Mem} {res : Int32 × Mem} (h : f_X6_distance x0 x1 x2 M = some res) : isO M 6 x0 := by
  unfold f_X6_distance at h
  split at h
  · rename_i hc; exact isOb_iff hc
  · cases h
set_option maxHeartbeats 4000000 in
theorem s_X6_distance {X : XV} {d : Nat} (hd : 3 ≤ d) {x0 : Nat} {x1 : Nat} {x2 : Nat} {M : Mem} {res : Int32 × Mem} (h : f_X6_distance x0 x1 x2 M = some res) : Mx X d mX6_distance [.ref x0, .ref x1, .ref x2] M (some (.int res.1)) res.2 := by
  obtain ⟨d, rfl⟩ : ∃ e, d = e + 1 := ⟨d - 1, by omega⟩
  unfold f_X6_distance at h
  split at h
  rotate_left
  · cases h
  refine Mx.of (by decide) (Nat.le_of_ble_eq_true rfl) (⟨_, rfl, rfl⟩) ?_
  exact ex_sub (lo' := [(0, .ref x0), (1, .ref x1), (2, .ref x2)]) [0, 1, 2] rfl (t_X6_distance_0 hd _ _ _ _ _  h)
noncomputable def f_X6_growOnce_10 (n0 : Nat) (x0 : Nat) (x1 : Nat) (x2 : Int32) (M : Mem) : Option (Mem) :=
  match n0 with
  | 0 => none
  | n + 1 =>
    if 10 ≤ x2 then
    ((gR M 6 x0 6).bind fun v2 =>
    (gR M 6 x0 5).bind fun v3 =>
    (cpI M v2 0 v3 0 10).bind fun q4 =>
    some q4)
    else
    ((f_X10_ruleIndex x2 false).bind fun v5 =>
    (rI M x1 v5).bind fun v6 =>
    (f_X10_within v6 11 110).bind fun v7 =>
    if v7 = false then
    ((f_X10_within v6 1 10).bind fun v9 =>
    if v9 = false then
    (f_X6_growOnce_10 n x0 x1 (x2 + 1) M)
    else
    ((gR M 6 x0 6).bind fun v11 =>
    (rI M v11 (v6 - 1)).bind fun v12 =>
    (gR M 6 x0 5).bind fun v13 =>
    (rI M v13 x2).bind fun v14 =>
    (wI M v11 (v6 - 1) (v12 + v14)).bind fun q15 =>
    f_X6_growOnce_10 n x0 x1 (x2 + 1) q15))
    else
    ((gR M 6 x0 6).bind fun v16 =>
    (rI M v16 ((v6 - 11) / 10)).bind fun v17 =>
    (gR M 6 x0 5).bind fun v18 =>
    (rI M v18 x2).bind fun v19 =>
    (wI M v16 ((v6 - 11) / 10) (v17 + v19)).bind fun q20 =>
    (gR q20 6 x0 6).bind fun v21 =>
    (rI q20 v21 (jrem (v6 - 11) 10)).bind fun v22 =>
    (gR q20 6 x0 5).bind fun v23 =>
    (rI q20 v23 x2).bind fun v24 =>
    (wI q20 v21 (jrem (v6 - 11) 10) (v22 + v24)).bind fun q25 =>
    f_X6_growOnce_10 n x0 x1 (x2 + 1) q25))
set_option maxHeartbeats 4000000 in
theorem t_X6_growOnce_10 {X : XV} {d : Nat} (hd : 2 ≤ d + 1) : ∀ (n : Nat) (x0 : Nat) (x1 : Nat) (x2 : Int32) (M : Mem) (res : Mem), f_X6_growOnce_10 n  x0 x1 x2 M = some res → Ex X (d + 1) mX6_growOnce 10 [(0, .ref x0), (1, .ref x1), (2, .int x2)] [] M none res := by
  intro n
  induction n with
  | zero =>
    intro x0 x1 x2 M res  h
    unfold f_X6_growOnce_10 at h
    cases h
  | succ n ih =>
    intro x0 x1 x2 M res  h
    unfold f_X6_growOnce_10 at h
    refine ex_iload_n (pc := 10) 2 dX6_growOnce_10 rfl rfl ?_
    refine ex_bipush (pc := 11) 10 dX6_growOnce_11 (by decide) ?_
    by_cases c1 : 10 ≤ x2
    · rw [if_pos c1] at h
      refine ex_icmp_ge_t (pc := 13) 113 dX6_growOnce_13 rfl c1 ?_
      refine ex_aload_n (pc := 113) 0 dX6_growOnce_113 rfl rfl ?_
      obtain ⟨v2, ev2, h⟩ := ob_some h
      refine ex_gR (pc := 114) ev2 dX6_growOnce_114 lfX6_38 ?_
      refine ex_iconst (pc := 117) 0 dX6_growOnce_117 rfl ?_
      refine ex_aload_n (pc := 118) 0 dX6_growOnce_118 rfl rfl ?_
      obtain ⟨v3, ev3, h⟩ := ob_some h
      refine ex_gR (pc := 119) ev3 dX6_growOnce_119 lfX6_35 ?_
      refine ex_iconst (pc := 122) 0 dX6_growOnce_122 rfl ?_
      refine ex_bipush (pc := 123) 10 dX6_growOnce_123 (by decide) ?_
      obtain ⟨q4, eq4, h⟩ := ob_some h
      refine ex_cp (pc := 125) eq4 dX6_growOnce_125 lmX6_71 (by omega) (Nat.le_of_ble_eq_true rfl) ?_
      cases h
      exact ex_return (pc := 128) dX6_growOnce_128
    · rw [if_neg c1] at h
      refine ex_icmp_ge_f (pc := 13) dX6_growOnce_13 113 rfl c1 ?_
      refine ex_aload_n (pc := 16) 1 dX6_growOnce_16 rfl rfl ?_
      refine ex_iload_n (pc := 17) 2 dX6_growOnce_17 rfl rfl ?_
      refine ex_iconst (pc := 18) 0 dX6_growOnce_18 rfl ?_
      obtain ⟨v5, ev5, h⟩ := ob_some h
      refine ex_callSN2r (pc := 19) dX6_growOnce_19 jX10_ruleIndex lnX6_55 jsX10_ruleIndex (Nat.le_of_ble_eq_true rfl) (s_X10_ruleIndex (by omega)  ev5) ?_
      obtain ⟨v6, ev6, h⟩ := ob_some h
      refine ex_rI (pc := 22) ev6 dX6_growOnce_22 ?_
      refine ex_istore_n (pc := 23) [(3, .int v6), (0, .ref x0), (1, .ref x1), (2, .int x2)] dX6_growOnce_23 rfl (by decide) rfl ?_
      refine ex_iload_n (pc := 24) 0 dX6_growOnce_24 rfl rfl ?_
      refine ex_bipush (pc := 25) 11 dX6_growOnce_25 (by decide) ?_
      refine ex_bipush (pc := 27) 110 dX6_growOnce_27 (by decide) ?_
      obtain ⟨v7, ev7, h⟩ := ob_some h
      refine ex_callSN3r (pc := 29) dX6_growOnce_29 jX10_within lnX6_77 jsX10_within (Nat.le_of_ble_eq_true rfl) (s_X10_within (by omega)  ev7) ?_
      by_cases c8 : v7 = false
      · rw [if_pos c8] at h
        refine ex_if_eq_t (pc := 32) 80 dX6_growOnce_32 rfl (jz_eq_t c8) ?_
        refine ex_iload_n (pc := 80) 0 dX6_growOnce_80 rfl rfl ?_
        refine ex_iconst (pc := 81) 1 dX6_growOnce_81 rfl ?_
        refine ex_bipush (pc := 82) 10 dX6_growOnce_82 (by decide) ?_
        obtain ⟨v9, ev9, h⟩ := ob_some h
        refine ex_callSN3r (pc := 84) dX6_growOnce_84 jX10_within lnX6_77 jsX10_within (Nat.le_of_ble_eq_true rfl) (s_X10_within (by omega)  ev9) ?_
        by_cases c10 : v9 = false
        · rw [if_pos c10] at h
          refine ex_if_eq_t (pc := 87) 107 dX6_growOnce_87 rfl (jz_eq_t c10) ?_
          refine ex_iinc (pc := 107) (x2 + 1) 3 [(2, .int (x2 + 1)), (3, .int v6), (0, .ref x0), (1, .ref x1)] dX6_growOnce_107 rfl rfl (by decide) rfl ?_
          refine ex_goto (pc := 110) 10 dX6_growOnce_110 rfl ?_
          refine ex_sub (lo' := [(0, .ref x0), (1, .ref x1), (2, .int (x2 + 1))]) [2, 3, 0] rfl ?_
          exact ih _ _ _ _ _  h
        · rw [if_neg c10] at h
          refine ex_if_eq_f (pc := 87) dX6_growOnce_87 107 rfl (jz_eq_f c10) ?_
          refine ex_aload_n (pc := 90) 1 dX6_growOnce_90 rfl rfl ?_
          obtain ⟨v11, ev11, h⟩ := ob_some h
          refine ex_gR (pc := 91) ev11 dX6_growOnce_91 lfX6_38 ?_
          refine ex_iload_n (pc := 94) 0 dX6_growOnce_94 rfl rfl ?_
          refine ex_iconst (pc := 95) 1 dX6_growOnce_95 rfl ?_
          refine ex_isub (pc := 96) dX6_growOnce_96 ?_
          refine ex_dup2 (pc := 97) dX6_growOnce_97 rfl rfl ?_
          obtain ⟨v12, ev12, h⟩ := ob_some h
          refine ex_rI (pc := 98) ev12 dX6_growOnce_98 ?_
          refine ex_aload_n (pc := 99) 1 dX6_growOnce_99 rfl rfl ?_
          obtain ⟨v13, ev13, h⟩ := ob_some h
          refine ex_gR (pc := 100) ev13 dX6_growOnce_100 lfX6_35 ?_
          refine ex_iload_n (pc := 103) 3 dX6_growOnce_103 rfl rfl ?_
          obtain ⟨v14, ev14, h⟩ := ob_some h
          refine ex_rI (pc := 104) ev14 dX6_growOnce_104 ?_
          refine ex_iadd (pc := 105) dX6_growOnce_105 ?_
          obtain ⟨q15, eq15, h⟩ := ob_some h
          refine ex_wI (pc := 106) eq15 dX6_growOnce_106 ?_
          refine ex_iinc (pc := 107) (x2 + 1) 3 [(2, .int (x2 + 1)), (3, .int v6), (0, .ref x0), (1, .ref x1)] dX6_growOnce_107 rfl rfl (by decide) rfl ?_
          refine ex_goto (pc := 110) 10 dX6_growOnce_110 rfl ?_
          refine ex_sub (lo' := [(0, .ref x0), (1, .ref x1), (2, .int (x2 + 1))]) [2, 3, 0] rfl ?_
          exact ih _ _ _ _ _  h
      · rw [if_neg c8] at h
        refine ex_if_eq_f (pc := 32) dX6_growOnce_32 80 rfl (jz_eq_f c8) ?_
        refine ex_aload_n (pc := 35) 1 dX6_growOnce_35 rfl rfl ?_
        obtain ⟨v16, ev16, h⟩ := ob_some h
        refine ex_gR (pc := 36) ev16 dX6_growOnce_36 lfX6_38 ?_
        refine ex_iload_n (pc := 39) 0 dX6_growOnce_39 rfl rfl ?_
        refine ex_bipush (pc := 40) 11 dX6_growOnce_40 (by decide) ?_
        refine ex_isub (pc := 42) dX6_growOnce_42 ?_
        refine ex_bipush (pc := 43) 10 dX6_growOnce_43 (by decide) ?_
        refine ex_idiv (pc := 45) dX6_growOnce_45 (by decide) ?_
        refine ex_dup2 (pc := 46) dX6_growOnce_46 rfl rfl ?_
        obtain ⟨v17, ev17, h⟩ := ob_some h
        refine ex_rI (pc := 47) ev17 dX6_growOnce_47 ?_
        refine ex_aload_n (pc := 48) 1 dX6_growOnce_48 rfl rfl ?_
        obtain ⟨v18, ev18, h⟩ := ob_some h
        refine ex_gR (pc := 49) ev18 dX6_growOnce_49 lfX6_35 ?_
        refine ex_iload_n (pc := 52) 3 dX6_growOnce_52 rfl rfl ?_
        obtain ⟨v19, ev19, h⟩ := ob_some h
        refine ex_rI (pc := 53) ev19 dX6_growOnce_53 ?_
        refine ex_iadd (pc := 54) dX6_growOnce_54 ?_
        obtain ⟨q20, eq20, h⟩ := ob_some h
        refine ex_wI (pc := 55) eq20 dX6_growOnce_55 ?_
        refine ex_aload_n (pc := 56) 1 dX6_growOnce_56 rfl rfl ?_
        obtain ⟨v21, ev21, h⟩ := ob_some h
        refine ex_gR (pc := 57) ev21 dX6_growOnce_57 lfX6_38 ?_
        refine ex_iload_n (pc := 60) 0 dX6_growOnce_60 rfl rfl ?_
        refine ex_bipush (pc := 61) 11 dX6_growOnce_61 (by decide) ?_
        refine ex_isub (pc := 63) dX6_growOnce_63 ?_
        refine ex_bipush (pc := 64) 10 dX6_growOnce_64 (by decide) ?_
        refine ex_irem (pc := 66) dX6_growOnce_66 (by decide) ?_
        refine ex_dup2 (pc := 67) dX6_growOnce_67 rfl rfl ?_
        obtain ⟨v22, ev22, h⟩ := ob_some h
        refine ex_rI (pc := 68) ev22 dX6_growOnce_68 ?_
        refine ex_aload_n (pc := 69) 1 dX6_growOnce_69 rfl rfl ?_
        obtain ⟨v23, ev23, h⟩ := ob_some h
        refine ex_gR (pc := 70) ev23 dX6_growOnce_70 lfX6_35 ?_
        refine ex_iload_n (pc := 73) 3 dX6_growOnce_73 rfl rfl ?_
        obtain ⟨v24, ev24, h⟩ := ob_some h
        refine ex_rI (pc := 74) ev24 dX6_growOnce_74 ?_
        refine ex_iadd (pc := 75) dX6_growOnce_75 ?_
        obtain ⟨q25, eq25, h⟩ := ob_some h
        refine ex_wI (pc := 76) eq25 dX6_growOnce_76 ?_
        refine ex_goto (pc := 77) 107 dX6_growOnce_77 rfl ?_
        refine ex_iinc (pc := 107) (x2 + 1) 3 [(2, .int (x2 + 1)), (3, .int v6), (0, .ref x0), (1, .ref x1)] dX6_growOnce_107 rfl rfl (by decide) rfl ?_
        refine ex_goto (pc := 110) 10 dX6_growOnce_110 rfl ?_
        refine ex_sub (lo' := [(0, .ref x0), (1, .ref x1), (2, .int (x2 + 1))]) [2, 3, 0] rfl ?_
        exact ih _ _ _ _ _  h
noncomputable def f_X6_growOnce_0 (x0 : Nat) (x1 : Nat) (M : Mem) : Option (Mem) :=
  (gR M 6 x0 6).bind fun v26 =>
  (f_J7_fill_53178 v26 0 M).bind fun q27 =>
  f_X6_growOnce_10 fu x0 x1 0 q27
set_option maxHeartbeats 4000000 in
theorem t_X6_growOnce_0 {X : XV} {d : Nat} (hd : 2 ≤ d + 1) : ∀ (x0 : Nat) (x1 : Nat) (M : Mem) (res : Mem), f_X6_growOnce_0  x0 x1 M = some res → Ex X (d + 1) mX6_growOnce 0 [(0, .ref x0), (1, .ref x1)] [] M none res := by
  intro x0 x1 M res  h
  unfold f_X6_growOnce_0 at h
  refine ex_aload_n (pc := 0) 0 dX6_growOnce_0 rfl rfl ?_
  obtain ⟨v26, ev26, h⟩ := ob_some h
  refine ex_gR (pc := 1) ev26 dX6_growOnce_1 lfX6_38 ?_
  refine ex_iconst (pc := 4) 0 dX6_growOnce_4 rfl ?_
  obtain ⟨q27, eq27, h⟩ := ob_some h
  refine ex_callS2v (pc := 5) dX6_growOnce_5 jJ7_fill_53178 lmX6_41 jsJ7_fill_53178 (Nat.le_of_ble_eq_true rfl) (s_J7_fill_53178 (by omega)  eq27) ?_
  refine ex_iconst (pc := 8) 0 dX6_growOnce_8 rfl ?_
  refine ex_istore_n (pc := 9) [(2, .int 0), (0, .ref x0), (1, .ref x1)] dX6_growOnce_9 rfl (by decide) rfl ?_
  refine ex_sub (lo' := [(0, .ref x0), (1, .ref x1), (2, .int 0)]) [1, 2, 0] rfl ?_
  exact t_X6_growOnce_10 hd  _ _ _ _ _ _  h
noncomputable def f_X6_growOnce (x0 : Nat) (x1 : Nat) (M : Mem) : Option (Mem) := if isOb M 6 x0 = true then f_X6_growOnce_0 x0 x1 M else none
theorem o_X6_growOnce {x0 : Nat} {x1 : Nat} {M : Mem} {res : Mem} (h : f_X6_growOnce x0 x1 M = some res) : isO M 6 x0 := by
  unfold f_X6_growOnce at h
  split at h
  · rename_i hc; exact isOb_iff hc
  · cases h
set_option maxHeartbeats 4000000 in
theorem s_X6_growOnce {X : XV} {d : Nat} (hd : 2 ≤ d) {x0 : Nat} {x1 : Nat} {M : Mem} {res : Mem} (h : f_X6_growOnce x0 x1 M = some res) : Mx X d mX6_growOnce [.ref x0, .ref x1] M none res := by
  obtain ⟨d, rfl⟩ : ∃ e, d = e + 1 := ⟨d - 1, by omega⟩
  unfold f_X6_growOnce at h
  split at h
  rotate_left
  · cases h
  refine Mx.of (by decide) (Nat.le_of_ble_eq_true rfl) (rfl) ?_
  exact ex_sub (lo' := [(0, .ref x0), (1, .ref x1)]) [0, 1] rfl (t_X6_growOnce_0 hd _ _ _ _  h)
noncomputable def f_X6_grown_71 (n0 : Nat) (x0 : Nat) (x5 : Int32) (x6 : Int32) (M : Mem) : Option (Int32 × Mem) :=
  match n0 with
  | 0 => none
  | n + 1 =>
    if 10 ≤ x6 then
    (some ((jmin x5 9999), M))
    else
    ((gR M 6 x0 5).bind fun v2 =>
    (rI M v2 x6).bind fun v3 =>
    f_X6_grown_71 n x0 (x5 + v3) (x6 + 1) M)
set_option maxHeartbeats 4000000 in
theorem t_X6_grown_71 {X : XV} {d : Nat} (hd : 3 ≤ d + 1) : ∀ (n : Nat) (x0 : Nat) (x5 : Int32) (x6 : Int32) (M : Mem) (res : Int32 × Mem), f_X6_grown_71 n  x0 x5 x6 M = some res → Ex X (d + 1) mX6_grown 71 [(0, .ref x0), (5, .int x5), (6, .int x6)] [] M (some (.int res.1)) res.2 := by
  intro n
  induction n with
  | zero =>
    intro x0 x5 x6 M res  h
    unfold f_X6_grown_71 at h
    cases h
  | succ n ih =>
    intro x0 x5 x6 M res  h
    unfold f_X6_grown_71 at h
    refine ex_iload (pc := 71) 2 dX6_grown_71 rfl ?_
    refine ex_bipush (pc := 73) 10 dX6_grown_73 (by decide) ?_
    by_cases c1 : 10 ≤ x6
    · rw [if_pos c1] at h
      refine ex_icmp_ge_t (pc := 75) 96 dX6_grown_75 rfl c1 ?_
      refine ex_iload (pc := 96) 1 dX6_grown_96 rfl ?_
      refine ex_sipush (pc := 98) 9999 dX6_grown_98 (by decide) ?_
      refine ex_mmin (pc := 101) dX6_grown_101 lmX6_118 (by omega) (Nat.le_of_ble_eq_true rfl) ?_
      cases h
      exact ex_ireturn (pc := 104) dX6_grown_104
    · rw [if_neg c1] at h
      refine ex_icmp_ge_f (pc := 75) dX6_grown_75 96 rfl c1 ?_
      refine ex_iload (pc := 78) 1 dX6_grown_78 rfl ?_
      refine ex_aload_n (pc := 80) 0 dX6_grown_80 rfl rfl ?_
      obtain ⟨v2, ev2, h⟩ := ob_some h
      refine ex_gR (pc := 81) ev2 dX6_grown_81 lfX6_35 ?_
      refine ex_iload (pc := 84) 2 dX6_grown_84 rfl ?_
      obtain ⟨v3, ev3, h⟩ := ob_some h
      refine ex_rI (pc := 86) ev3 dX6_grown_86 ?_
      refine ex_iadd (pc := 87) dX6_grown_87 ?_
      refine ex_istore (pc := 88) [(5, .int (x5 + v3)), (0, .ref x0), (6, .int x6)] dX6_grown_88 (by decide) rfl ?_
      refine ex_iinc (pc := 90) (x6 + 1) 2 [(6, .int (x6 + 1)), (5, .int (x5 + v3)), (0, .ref x0)] dX6_grown_90 rfl rfl (by decide) rfl ?_
      refine ex_goto (pc := 93) 71 dX6_grown_93 rfl ?_
      refine ex_sub (lo' := [(0, .ref x0), (5, .int (x5 + v3)), (6, .int (x6 + 1))]) [2, 1, 0] rfl ?_
      exact ih _ _ _ _ _  h
noncomputable def f_X6_grown_48 (n0 : Nat) (x0 : Nat) (x2 : Int32) (x3 : Nat) (x5 : Int32) (M : Mem) : Option (Int32 × Mem) :=
  match n0 with
  | 0 => none
  | n + 1 =>
    if x2 ≤ x5 then
    (f_X6_grown_71 fu x0 0 0 M)
    else
    ((f_X6_growOnce x0 x3 M).bind fun q5 =>
    f_X6_grown_48 n x0 x2 x3 (x5 + 1) q5)
set_option maxHeartbeats 4000000 in
theorem t_X6_grown_48 {X : XV} {d : Nat} (hd : 3 ≤ d + 1) : ∀ (n : Nat) (x0 : Nat) (x2 : Int32) (x3 : Nat) (x5 : Int32) (M : Mem) (res : Int32 × Mem), f_X6_grown_48 n  x0 x2 x3 x5 M = some res → Ex X (d + 1) mX6_grown 48 [(0, .ref x0), (2, .int x2), (3, .ref x3), (5, .int x5)] [] M (some (.int res.1)) res.2 := by
  intro n
  induction n with
  | zero =>
    intro x0 x2 x3 x5 M res  h
    unfold f_X6_grown_48 at h
    cases h
  | succ n ih =>
    intro x0 x2 x3 x5 M res  h
    unfold f_X6_grown_48 at h
    refine ex_iload (pc := 48) 3 dX6_grown_48 rfl ?_
    refine ex_iload_n (pc := 50) 1 dX6_grown_50 rfl rfl ?_
    by_cases c4 : x2 ≤ x5
    · rw [if_pos c4] at h
      refine ex_icmp_ge_t (pc := 51) 65 dX6_grown_51 rfl c4 ?_
      refine ex_iconst (pc := 65) 0 dX6_grown_65 rfl ?_
      refine ex_istore (pc := 66) [(5, .int 0), (0, .ref x0), (2, .int x2), (3, .ref x3)] dX6_grown_66 (by decide) rfl ?_
      refine ex_iconst (pc := 68) 0 dX6_grown_68 rfl ?_
      refine ex_istore (pc := 69) [(6, .int 0), (5, .int 0), (0, .ref x0), (2, .int x2), (3, .ref x3)] dX6_grown_69 (by decide) rfl ?_
      refine ex_sub (lo' := [(0, .ref x0), (5, .int 0), (6, .int 0)]) [2, 1, 0] rfl ?_
      exact t_X6_grown_71 hd  _ _ _ _ _ _  h
    · rw [if_neg c4] at h
      refine ex_icmp_ge_f (pc := 51) dX6_grown_51 65 rfl c4 ?_
      refine ex_aload_n (pc := 54) 0 dX6_grown_54 rfl rfl ?_
      refine ex_aload_n (pc := 55) 2 dX6_grown_55 rfl rfl ?_
      obtain ⟨q5, eq5, h⟩ := ob_some h
      refine ex_callV1v (pc := 56) dX6_grown_56 jX6_growOnce lmX6_121 jiX6_growOnce jvX6_growOnce (o_X6_growOnce eq5) rfl (Nat.le_of_ble_eq_true rfl) (s_X6_growOnce (by omega)  eq5) ?_
      refine ex_iinc (pc := 59) (x5 + 1) 3 [(5, .int (x5 + 1)), (0, .ref x0), (2, .int x2), (3, .ref x3)] dX6_grown_59 rfl rfl (by decide) rfl ?_
      refine ex_goto (pc := 62) 48 dX6_grown_62 rfl ?_
      refine ex_sub (lo' := [(0, .ref x0), (2, .int x2), (3, .ref x3), (5, .int (x5 + 1))]) [1, 2, 3, 0] rfl ?_
      exact ih _ _ _ _ _ _  h
noncomputable def f_X6_grown_17 (n0 : Nat) (x0 : Nat) (x1 : Int32) (x2 : Int32) (x3 : Nat) (x4 : Int32) (x5 : Int32) (M : Mem) : Option (Int32 × Mem) :=
  match n0 with
  | 0 => none
  | n + 1 =>
    if x4 ≤ x5 then
    (f_X6_grown_48 fu x0 x2 x3 0 M)
    else
    ((gR M 6 x0 5).bind fun v7 =>
    (f_X10_digitAt x1 x5).bind fun v8 =>
    (rI M v7 v8).bind fun v9 =>
    (wI M v7 v8 (v9 + 1)).bind fun q10 =>
    f_X6_grown_17 n x0 x1 x2 x3 x4 (x5 + 1) q10)
set_option maxHeartbeats 4000000 in
theorem t_X6_grown_17 {X : XV} {d : Nat} (hd : 3 ≤ d + 1) : ∀ (n : Nat) (x0 : Nat) (x1 : Int32) (x2 : Int32) (x3 : Nat) (x4 : Int32) (x5 : Int32) (M : Mem) (res : Int32 × Mem), f_X6_grown_17 n  x0 x1 x2 x3 x4 x5 M = some res → Ex X (d + 1) mX6_grown 17 [(0, .ref x0), (1, .int x1), (2, .int x2), (3, .ref x3), (4, .int x4), (5, .int x5)] [] M (some (.int res.1)) res.2 := by
  intro n
  induction n with
  | zero =>
    intro x0 x1 x2 x3 x4 x5 M res  h
    unfold f_X6_grown_17 at h
    cases h
  | succ n ih =>
    intro x0 x1 x2 x3 x4 x5 M res  h
    unfold f_X6_grown_17 at h
    refine ex_iload (pc := 17) 5 dX6_grown_17 rfl ?_
    refine ex_iload (pc := 19) 4 dX6_grown_19 rfl ?_
    by_cases c6 : x4 ≤ x5
    · rw [if_pos c6] at h
      refine ex_icmp_ge_t (pc := 21) 45 dX6_grown_21 rfl c6 ?_
      refine ex_iconst (pc := 45) 0 dX6_grown_45 rfl ?_
      refine ex_istore (pc := 46) [(5, .int 0), (0, .ref x0), (1, .int x1), (2, .int x2), (3, .ref x3), (4, .int x4)] dX6_grown_46 (by decide) rfl ?_
      refine ex_sub (lo' := [(0, .ref x0), (2, .int x2), (3, .ref x3), (5, .int 0)]) [1, 3, 4, 0] rfl ?_
      exact t_X6_grown_48 hd  _ _ _ _ _ _ _  h
    · rw [if_neg c6] at h
      refine ex_icmp_ge_f (pc := 21) dX6_grown_21 45 rfl c6 ?_
      refine ex_aload_n (pc := 24) 0 dX6_grown_24 rfl rfl ?_
      obtain ⟨v7, ev7, h⟩ := ob_some h
      refine ex_gR (pc := 25) ev7 dX6_grown_25 lfX6_35 ?_
      refine ex_iload_n (pc := 28) 1 dX6_grown_28 rfl rfl ?_
      refine ex_iload (pc := 29) 5 dX6_grown_29 rfl ?_
      obtain ⟨v8, ev8, h⟩ := ob_some h
      refine ex_callSN2r (pc := 31) dX6_grown_31 jX10_digitAt lnX6_51 jsX10_digitAt (Nat.le_of_ble_eq_true rfl) (s_X10_digitAt (by omega)  ev8) ?_
      refine ex_dup2 (pc := 34) dX6_grown_34 rfl rfl ?_
      obtain ⟨v9, ev9, h⟩ := ob_some h
      refine ex_rI (pc := 35) ev9 dX6_grown_35 ?_
      refine ex_iconst (pc := 36) 1 dX6_grown_36 rfl ?_
      refine ex_iadd (pc := 37) dX6_grown_37 ?_
      obtain ⟨q10, eq10, h⟩ := ob_some h
      refine ex_wI (pc := 38) eq10 dX6_grown_38 ?_
      refine ex_iinc (pc := 39) (x5 + 1) 5 [(5, .int (x5 + 1)), (0, .ref x0), (1, .int x1), (2, .int x2), (3, .ref x3), (4, .int x4)] dX6_grown_39 rfl rfl (by decide) rfl ?_
      refine ex_goto (pc := 42) 17 dX6_grown_42 rfl ?_
      refine ex_sub (lo' := [(0, .ref x0), (1, .int x1), (2, .int x2), (3, .ref x3), (4, .int x4), (5, .int (x5 + 1))]) [1, 2, 3, 4, 5, 0] rfl ?_
      exact ih _ _ _ _ _ _ _ _  h
noncomputable def f_X6_grown_0 (x0 : Nat) (x1 : Int32) (x2 : Int32) (x3 : Nat) (M : Mem) : Option (Int32 × Mem) :=
  (gR M 6 x0 5).bind fun v11 =>
  (f_J7_fill_53178 v11 0 M).bind fun q12 =>
  (f_X10_digitCount x1).bind fun v13 =>
  f_X6_grown_17 fu x0 x1 x2 x3 v13 0 q12
set_option maxHeartbeats 4000000 in
theorem t_X6_grown_0 {X : XV} {d : Nat} (hd : 3 ≤ d + 1) : ∀ (x0 : Nat) (x1 : Int32) (x2 : Int32) (x3 : Nat) (M : Mem) (res : Int32 × Mem), f_X6_grown_0  x0 x1 x2 x3 M = some res → Ex X (d + 1) mX6_grown 0 [(0, .ref x0), (1, .int x1), (2, .int x2), (3, .ref x3)] [] M (some (.int res.1)) res.2 := by
  intro x0 x1 x2 x3 M res  h
  unfold f_X6_grown_0 at h
  refine ex_aload_n (pc := 0) 0 dX6_grown_0 rfl rfl ?_
  obtain ⟨v11, ev11, h⟩ := ob_some h
  refine ex_gR (pc := 1) ev11 dX6_grown_1 lfX6_35 ?_
  refine ex_iconst (pc := 4) 0 dX6_grown_4 rfl ?_
  obtain ⟨q12, eq12, h⟩ := ob_some h
  refine ex_callS2v (pc := 5) dX6_grown_5 jJ7_fill_53178 lmX6_41 jsJ7_fill_53178 (Nat.le_of_ble_eq_true rfl) (s_J7_fill_53178 (by omega)  eq12) ?_
  refine ex_iload_n (pc := 8) 1 dX6_grown_8 rfl rfl ?_
  obtain ⟨v13, ev13, h⟩ := ob_some h
  refine ex_callSN1r (pc := 9) dX6_grown_9 jX10_digitCount lnX6_47 jsX10_digitCount (Nat.le_of_ble_eq_true rfl) (s_X10_digitCount (by omega)  ev13) ?_
  refine ex_istore (pc := 12) [(4, .int v13), (0, .ref x0), (1, .int x1), (2, .int x2), (3, .ref x3)] dX6_grown_12 (by decide) rfl ?_
  refine ex_iconst (pc := 14) 0 dX6_grown_14 rfl ?_
  refine ex_istore (pc := 15) [(5, .int 0), (4, .int v13), (0, .ref x0), (1, .int x1), (2, .int x2), (3, .ref x3)] dX6_grown_15 (by decide) rfl ?_
  refine ex_sub (lo' := [(0, .ref x0), (1, .int x1), (2, .int x2), (3, .ref x3), (4, .int v13), (5, .int 0)]) [2, 3, 4, 5, 1, 0] rfl ?_
  exact t_X6_grown_17 hd  _ _ _ _ _ _ _ _ _  h
noncomputable def f_X6_grown (x0 : Nat) (x1 : Int32) (x2 : Int32) (x3 : Nat) (M : Mem) : Option (Int32 × Mem) := if isOb M 6 x0 = true then f_X6_grown_0 x0 x1 x2 x3 M else none
theorem o_X6_grown {x0 : Nat} {x1 : Int32} {x2 : Int32} {x3 : Nat} {M : Mem} {res : Int32 × Mem} (h : f_X6_grown x0 x1 x2 x3 M = some res) : isO M 6 x0 := by
  unfold f_X6_grown at h
  split at h
  · rename_i hc; exact isOb_iff hc
  · cases h
set_option maxHeartbeats 4000000 in
theorem s_X6_grown {X : XV} {d : Nat} (hd : 3 ≤ d) {x0 : Nat} {x1 : Int32} {x2 : Int32} {x3 : Nat} {M : Mem} {res : Int32 × Mem} (h : f_X6_grown x0 x1 x2 x3 M = some res) : Mx X d mX6_grown [.ref x0, .int x1, .int x2, .ref x3] M (some (.int res.1)) res.2 := by
  obtain ⟨d, rfl⟩ : ∃ e, d = e + 1 := ⟨d - 1, by omega⟩
  unfold f_X6_grown at h
  split at h
  rotate_left
  · cases h
  refine Mx.of (by decide) (Nat.le_of_ble_eq_true rfl) (⟨_, rfl, rfl⟩) ?_
  exact ex_sub (lo' := [(0, .ref x0), (1, .int x1), (2, .int x2), (3, .ref x3)]) [0, 1, 2, 3] rfl (t_X6_grown_0 hd _ _ _ _ _ _  h)
noncomputable def f_X7_init_0 (x0 : Nat) (M : Mem) : Option (Mem) :=
  (nwI M 300).bind fun q1 =>
  (pF q1 7 x0 0 (.ref M.1)).bind fun q2 =>
  some q2
set_option maxHeartbeats 4000000 in
theorem t_X7_init_0 {X : XV} {d : Nat} (hd : 1 ≤ d + 1) : ∀ (x0 : Nat) (M : Mem) (res : Mem), f_X7_init_0  x0 M = some res → Ex X (d + 1) mX7_init 0 [(0, .ref x0)] [] M none res := by
  intro x0 M res  h
  unfold f_X7_init_0 at h
  refine ex_aload_n (pc := 0) 0 dX7_init_0 rfl rfl ?_
  refine ex_obj (pc := 1) dX7_init_1 lmX7_3 (by omega) (Nat.le_of_ble_eq_true rfl) ?_
  refine ex_aload_n (pc := 4) 0 dX7_init_4 rfl rfl ?_
  refine ex_sipush (pc := 5) 300 dX7_init_5 (by decide) ?_
  obtain ⟨q1, eq1, h⟩ := ob_some h
  refine ex_nwI (pc := 8) eq1 dX7_init_8 ?_
  obtain ⟨q2, eq2, h⟩ := ob_some h
  refine ex_pFF (pc := 10) eq2 dX7_init_10 lfX7_9 rfl rfl (fun _ hq => by cases hq; exact ⟨rfl, rfl⟩) rfl ?_
  cases h
  exact ex_return (pc := 13) dX7_init_13
noncomputable def f_X7_init (x0 : Nat) (M : Mem) : Option (Mem) := f_X7_init_0 x0 M
set_option maxHeartbeats 4000000 in
theorem s_X7_init {X : XV} {d : Nat} (hd : 1 ≤ d) {x0 : Nat} {M : Mem} {res : Mem} (h : f_X7_init x0 M = some res) : Mx X d mX7_init [.ref x0] M none res := by
  obtain ⟨d, rfl⟩ : ∃ e, d = e + 1 := ⟨d - 1, by omega⟩
  unfold f_X7_init at h
  refine Mx.of (by decide) (Nat.le_of_ble_eq_true rfl) (rfl) ?_
  exact ex_sub (lo' := [(0, .ref x0)]) [0] rfl (t_X7_init_0 hd _ _ _  h)
noncomputable def f_X7_append_3 (n0 : Nat) (x0 : Nat) (x1 : Int32) (x2 : Int32) (M : Mem) : Option (Mem) :=
  match n0 with
  | 0 => none
  | n + 1 =>
    if x2 < 0 then
    (some M)
    else
    ((gI M 7 x0 1).bind fun v2 =>
    (f_X10_within v2 0 299).bind fun v3 =>
    if v3 = false then
    (f_X7_append_3 n x0 x1 (x2 + (-8)) M)
    else
    ((gR M 7 x0 0).bind fun v5 =>
    (gI M 7 x0 1).bind fun v6 =>
    (wI M v5 v6 ((jushr x1 x2) &&& 255)).bind fun q7 =>
    (gI q7 7 x0 1).bind fun v8 =>
    (pF q7 7 x0 1 (.int (v8 + 1))).bind fun q9 =>
    f_X7_append_3 n x0 x1 (x2 + (-8)) q9))
set_option maxHeartbeats 4000000 in
theorem t_X7_append_3 {X : XV} {d : Nat} (hd : 2 ≤ d + 1) : ∀ (n : Nat) (x0 : Nat) (x1 : Int32) (x2 : Int32) (M : Mem) (res : Mem), f_X7_append_3 n  x0 x1 x2 M = some res → Ex X (d + 1) mX7_append 3 [(0, .ref x0), (1, .int x1), (2, .int x2)] [] M none res := by
  intro n
  induction n with
  | zero =>
    intro x0 x1 x2 M res  h
    unfold f_X7_append_3 at h
    cases h
  | succ n ih =>
    intro x0 x1 x2 M res  h
    unfold f_X7_append_3 at h
    refine ex_iload_n (pc := 3) 2 dX7_append_3 rfl rfl ?_
    by_cases c1 : x2 < 0
    · rw [if_pos c1] at h
      refine ex_if_lt_t (pc := 4) 53 dX7_append_4 rfl c1 ?_
      cases h
      exact ex_return (pc := 53) dX7_append_53
    · rw [if_neg c1] at h
      refine ex_if_lt_f (pc := 4) dX7_append_4 53 rfl c1 ?_
      refine ex_aload_n (pc := 7) 0 dX7_append_7 rfl rfl ?_
      obtain ⟨v2, ev2, h⟩ := ob_some h
      refine ex_gI (pc := 8) ev2 dX7_append_8 lfX7_15 ?_
      refine ex_iconst (pc := 11) 0 dX7_append_11 rfl ?_
      refine ex_sipush (pc := 12) 299 dX7_append_12 (by decide) ?_
      obtain ⟨v3, ev3, h⟩ := ob_some h
      refine ex_callSN3r (pc := 15) dX7_append_15 jX10_within lnX7_19 jsX10_within (Nat.le_of_ble_eq_true rfl) (s_X10_within (by omega)  ev3) ?_
      by_cases c4 : v3 = false
      · rw [if_pos c4] at h
        refine ex_if_eq_t (pc := 18) 47 dX7_append_18 rfl (jz_eq_t c4) ?_
        refine ex_iinc (pc := 47) (x2 + (-8)) 2 [(2, .int (x2 + (-8))), (0, .ref x0), (1, .int x1)] dX7_append_47 rfl rfl (by decide) rfl ?_
        refine ex_goto (pc := 50) 3 dX7_append_50 rfl ?_
        refine ex_sub (lo' := [(0, .ref x0), (1, .int x1), (2, .int (x2 + (-8)))]) [1, 2, 0] rfl ?_
        exact ih _ _ _ _ _  h
      · rw [if_neg c4] at h
        refine ex_if_eq_f (pc := 18) dX7_append_18 47 rfl (jz_eq_f c4) ?_
        refine ex_aload_n (pc := 21) 0 dX7_append_21 rfl rfl ?_
        obtain ⟨v5, ev5, h⟩ := ob_some h
        refine ex_gR (pc := 22) ev5 dX7_append_22 lfX7_9 ?_
        refine ex_aload_n (pc := 25) 0 dX7_append_25 rfl rfl ?_
        obtain ⟨v6, ev6, h⟩ := ob_some h
        refine ex_gI (pc := 26) ev6 dX7_append_26 lfX7_15 ?_
        refine ex_iload_n (pc := 29) 1 dX7_append_29 rfl rfl ?_
        refine ex_iload_n (pc := 30) 2 dX7_append_30 rfl rfl ?_
        refine ex_iushr (pc := 31) dX7_append_31 ?_
        refine ex_sipush (pc := 32) 255 dX7_append_32 (by decide) ?_
        refine ex_iand (pc := 35) dX7_append_35 ?_
        obtain ⟨q7, eq7, h⟩ := ob_some h
        refine ex_wI (pc := 36) eq7 dX7_append_36 ?_
        refine ex_aload_n (pc := 37) 0 dX7_append_37 rfl rfl ?_
        refine ex_dup (pc := 38) dX7_append_38 rfl ?_
        obtain ⟨v8, ev8, h⟩ := ob_some h
        refine ex_gI (pc := 39) ev8 dX7_append_39 lfX7_15 ?_
        refine ex_iconst (pc := 42) 1 dX7_append_42 rfl ?_
        refine ex_iadd (pc := 43) dX7_append_43 ?_
        obtain ⟨q9, eq9, h⟩ := ob_some h
        refine ex_pF (pc := 44) eq9 dX7_append_44 lfX7_15 rfl rfl (fun _ hq => by cases hq; rfl) ?_
        refine ex_iinc (pc := 47) (x2 + (-8)) 2 [(2, .int (x2 + (-8))), (0, .ref x0), (1, .int x1)] dX7_append_47 rfl rfl (by decide) rfl ?_
        refine ex_goto (pc := 50) 3 dX7_append_50 rfl ?_
        refine ex_sub (lo' := [(0, .ref x0), (1, .int x1), (2, .int (x2 + (-8)))]) [1, 2, 0] rfl ?_
        exact ih _ _ _ _ _  h
noncomputable def f_X7_append_0 (x0 : Nat) (x1 : Int32) (M : Mem) : Option (Mem) :=
  f_X7_append_3 fu x0 x1 24 M
set_option maxHeartbeats 4000000 in
theorem t_X7_append_0 {X : XV} {d : Nat} (hd : 2 ≤ d + 1) : ∀ (x0 : Nat) (x1 : Int32) (M : Mem) (res : Mem), f_X7_append_0  x0 x1 M = some res → Ex X (d + 1) mX7_append 0 [(0, .ref x0), (1, .int x1)] [] M none res := by
  intro x0 x1 M res  h
  unfold f_X7_append_0 at h
  refine ex_bipush (pc := 0) 24 dX7_append_0 (by decide) ?_
  refine ex_istore_n (pc := 2) [(2, .int 24), (0, .ref x0), (1, .int x1)] dX7_append_2 rfl (by decide) rfl ?_
  refine ex_sub (lo' := [(0, .ref x0), (1, .int x1), (2, .int 24)]) [1, 2, 0] rfl ?_
  exact t_X7_append_3 hd  _ _ _ _ _ _  h
noncomputable def f_X7_append (x0 : Nat) (x1 : Int32) (M : Mem) : Option (Mem) := if isOb M 7 x0 = true then f_X7_append_0 x0 x1 M else none
theorem o_X7_append {x0 : Nat} {x1 : Int32} {M : Mem} {res : Mem} (h : f_X7_append x0 x1 M = some res) : isO M 7 x0 := by
  unfold f_X7_append at h
  split at h
  · rename_i hc; exact isOb_iff hc
  · cases h
set_option maxHeartbeats 4000000 in
theorem s_X7_append {X : XV} {d : Nat} (hd : 2 ≤ d) {x0 : Nat} {x1 : Int32} {M : Mem} {res : Mem} (h : f_X7_append x0 x1 M = some res) : Mx X d mX7_append [.ref x0, .int x1] M none res := by
  obtain ⟨d, rfl⟩ : ∃ e, d = e + 1 := ⟨d - 1, by omega⟩
  unfold f_X7_append at h
  split at h
  rotate_left
  · cases h
  refine Mx.of (by decide) (Nat.le_of_ble_eq_true rfl) (rfl) ?_
  exact ex_sub (lo' := [(0, .ref x0), (1, .int x1)]) [0, 1] rfl (t_X7_append_0 hd _ _ _ _  h)
noncomputable def f_X8_clausePart_0 (x0 : Nat) (x1 : Int32) (x2 : Int32) (M : Mem) : Option (Int32) :=
  if ((x1 * 3) + x2) < 0 then
  (some (-1))
  else
  ((gR M 8 x0 4).bind fun v2 =>
  (lnA M v2).bind fun v3 =>
  if v3 ≤ ((x1 * 3) + x2) then
  (some (-1))
  else
  ((gR M 8 x0 4).bind fun v5 =>
  (rI M v5 ((x1 * 3) + x2)).bind fun v6 =>
  some v6))
set_option maxHeartbeats 4000000 in
theorem t_X8_clausePart_0 {X : XV} {d : Nat} (hd : 1 ≤ d + 1) : ∀ (x0 : Nat) (x1 : Int32) (x2 : Int32) (M : Mem) (res : Int32), f_X8_clausePart_0  x0 x1 x2 M = some res → Ex X (d + 1) mX8_clausePart 0 [(0, .ref x0), (1, .int x1), (2, .int x2)] [] M (some (.int res)) M := by
  intro x0 x1 x2 M res  h
  unfold f_X8_clausePart_0 at h
  refine ex_iload_n (pc := 0) 1 dX8_clausePart_0 rfl rfl ?_
  refine ex_iconst (pc := 1) 3 dX8_clausePart_1 rfl ?_
  refine ex_imul (pc := 2) dX8_clausePart_2 ?_
  refine ex_iload_n (pc := 3) 2 dX8_clausePart_3 rfl rfl ?_
  refine ex_iadd (pc := 4) dX8_clausePart_4 ?_
  refine ex_istore_n (pc := 5) [(3, .int ((x1 * 3) + x2)), (0, .ref x0), (1, .int x1), (2, .int x2)] dX8_clausePart_5 rfl (by decide) rfl ?_
  refine ex_iload_n (pc := 6) 0 dX8_clausePart_6 rfl rfl ?_
  by_cases c1 : ((x1 * 3) + x2) < 0
  · rw [if_pos c1] at h
    refine ex_if_lt_t (pc := 7) 28 dX8_clausePart_7 rfl c1 ?_
    refine ex_iconst (pc := 28) (-1) dX8_clausePart_28 rfl ?_
    cases h
    exact ex_ireturn (pc := 29) dX8_clausePart_29
  · rw [if_neg c1] at h
    refine ex_if_lt_f (pc := 7) dX8_clausePart_7 28 rfl c1 ?_
    refine ex_iload_n (pc := 10) 0 dX8_clausePart_10 rfl rfl ?_
    refine ex_aload_n (pc := 11) 1 dX8_clausePart_11 rfl rfl ?_
    obtain ⟨v2, ev2, h⟩ := ob_some h
    refine ex_gR (pc := 12) ev2 dX8_clausePart_12 lfX8_24 ?_
    obtain ⟨v3, ev3, h⟩ := ob_some h
    refine ex_ln (pc := 15) ev3 dX8_clausePart_15 ?_
    by_cases c4 : v3 ≤ ((x1 * 3) + x2)
    · rw [if_pos c4] at h
      refine ex_icmp_ge_t (pc := 16) 28 dX8_clausePart_16 rfl c4 ?_
      refine ex_iconst (pc := 28) (-1) dX8_clausePart_28 rfl ?_
      cases h
      exact ex_ireturn (pc := 29) dX8_clausePart_29
    · rw [if_neg c4] at h
      refine ex_icmp_ge_f (pc := 16) dX8_clausePart_16 28 rfl c4 ?_
      refine ex_aload_n (pc := 19) 1 dX8_clausePart_19 rfl rfl ?_
      obtain ⟨v5, ev5, h⟩ := ob_some h
      refine ex_gR (pc := 20) ev5 dX8_clausePart_20 lfX8_24 ?_
      refine ex_iload_n (pc := 23) 0 dX8_clausePart_23 rfl rfl ?_
      obtain ⟨v6, ev6, h⟩ := ob_some h
      refine ex_rI (pc := 24) ev6 dX8_clausePart_24 ?_
      refine ex_goto (pc := 25) 29 dX8_clausePart_25 rfl ?_
      cases h
      exact ex_ireturn (pc := 29) dX8_clausePart_29
noncomputable def f_X8_clausePart (x0 : Nat) (x1 : Int32) (x2 : Int32) (M : Mem) : Option (Int32) := if isOb M 8 x0 = true then f_X8_clausePart_0 x0 x1 x2 M else none
theorem o_X8_clausePart {x0 : Nat} {x1 : Int32} {x2 : Int32} {M : Mem} {res : Int32} (h : f_X8_clausePart x0 x1 x2 M = some res) : isO M 8 x0 := by
  unfold f_X8_clausePart at h
  split at h
  · rename_i hc; exact isOb_iff hc
  · cases h
set_option maxHeartbeats 4000000 in
theorem s_X8_clausePart {X : XV} {d : Nat} (hd : 1 ≤ d) {x0 : Nat} {x1 : Int32} {x2 : Int32} {M : Mem} {res : Int32} (h : f_X8_clausePart x0 x1 x2 M = some res) : Mx X d mX8_clausePart [.ref x0, .int x1, .int x2] M (some (.int res)) M := by
  obtain ⟨d, rfl⟩ : ∃ e, d = e + 1 := ⟨d - 1, by omega⟩
  unfold f_X8_clausePart at h
  split at h
  rotate_left
  · cases h
  refine Mx.of (by decide) (Nat.le_of_ble_eq_true rfl) (⟨_, rfl, rfl⟩) ?_
  exact ex_sub (lo' := [(0, .ref x0), (1, .int x1), (2, .int x2)]) [0, 1, 2] rfl (t_X8_clausePart_0 hd _ _ _ _ _  h)
noncomputable def f_X9_install_0 (x0 : Nat) (x1 : Int32) (x2 : Int32) (M : Mem) : Option (Int32 × Mem) :=
  (gI M 9 x0 0).bind fun v1 =>
  (f_X10_within v1 0 4).bind fun v2 =>
  if v2 = true then
  ((gR M 9 x0 4).bind fun v4 =>
  (gI M 9 x0 0).bind fun v5 =>
  (wI M v4 v5 x1).bind fun q6 =>
  (gR q6 9 x0 5).bind fun v7 =>
  (gI q6 9 x0 0).bind fun v8 =>
  (wI q6 v7 v8 x2).bind fun q9 =>
  (gI q9 9 x0 0).bind fun v10 =>
  (f_X9_setAsTold x0 v10 q9).bind fun q11 =>
  (gI q11 9 x0 0).bind fun v12 =>
  (pF q11 9 x0 0 (.int (v12 + 1))).bind fun q13 =>
  (gI q13 9 x0 0).bind fun v14 =>
  some ((v14 - 1), q13))
  else
  (some ((-1), M))
set_option maxHeartbeats 4000000 in
theorem t_X9_install_0 {X : XV} {d : Nat} (hd : 2 ≤ d + 1) : ∀ (x0 : Nat) (x1 : Int32) (x2 : Int32) (M : Mem) (res : Int32 × Mem), f_X9_install_0  x0 x1 x2 M = some res → Ex X (d + 1) mX9_install 0 [(0, .ref x0), (1, .int x1), (2, .int x2)] [] M (some (.int res.1)) res.2 := by
  intro x0 x1 x2 M res  h
  unfold f_X9_install_0 at h
  refine ex_aload_n (pc := 0) 0 dX9_install_0 rfl rfl ?_
  obtain ⟨v1, ev1, h⟩ := ob_some h
  refine ex_gI (pc := 1) ev1 dX9_install_1 lfX9_40 ?_
  refine ex_iconst (pc := 4) 0 dX9_install_4 rfl ?_
  refine ex_iconst (pc := 5) 4 dX9_install_5 rfl ?_
  obtain ⟨v2, ev2, h⟩ := ob_some h
  refine ex_callSN3r (pc := 6) dX9_install_6 jX10_within lnX9_43 jsX10_within (Nat.le_of_ble_eq_true rfl) (s_X10_within (by omega)  ev2) ?_
  by_cases c3 : v2 = true
  · rw [if_pos c3] at h
    refine ex_if_ne_t (pc := 9) 14 dX9_install_9 rfl (jz_ne_t c3) ?_
    refine ex_aload_n (pc := 14) 0 dX9_install_14 rfl rfl ?_
    obtain ⟨v4, ev4, h⟩ := ob_some h
    refine ex_gR (pc := 15) ev4 dX9_install_15 lfX9_15 ?_
    refine ex_aload_n (pc := 18) 0 dX9_install_18 rfl rfl ?_
    obtain ⟨v5, ev5, h⟩ := ob_some h
    refine ex_gI (pc := 19) ev5 dX9_install_19 lfX9_40 ?_
    refine ex_iload_n (pc := 22) 1 dX9_install_22 rfl rfl ?_
    obtain ⟨q6, eq6, h⟩ := ob_some h
    refine ex_wI (pc := 23) eq6 dX9_install_23 ?_
    refine ex_aload_n (pc := 24) 0 dX9_install_24 rfl rfl ?_
    obtain ⟨v7, ev7, h⟩ := ob_some h
    refine ex_gR (pc := 25) ev7 dX9_install_25 lfX9_19 ?_
    refine ex_aload_n (pc := 28) 0 dX9_install_28 rfl rfl ?_
    obtain ⟨v8, ev8, h⟩ := ob_some h
    refine ex_gI (pc := 29) ev8 dX9_install_29 lfX9_40 ?_
    refine ex_iload_n (pc := 32) 2 dX9_install_32 rfl rfl ?_
    obtain ⟨q9, eq9, h⟩ := ob_some h
    refine ex_wI (pc := 33) eq9 dX9_install_33 ?_
    refine ex_aload_n (pc := 34) 0 dX9_install_34 rfl rfl ?_
    refine ex_aload_n (pc := 35) 0 dX9_install_35 rfl rfl ?_
    obtain ⟨v10, ev10, h⟩ := ob_some h
    refine ex_gI (pc := 36) ev10 dX9_install_36 lfX9_40 ?_
    obtain ⟨q11, eq11, h⟩ := ob_some h
    refine ex_callV1v (pc := 39) dX9_install_39 jX9_setAsTold lmX9_47 jiX9_setAsTold jvX9_setAsTold (o_X9_setAsTold eq11) rfl (Nat.le_of_ble_eq_true rfl) (s_X9_setAsTold (by omega)  eq11) ?_
    refine ex_aload_n (pc := 42) 0 dX9_install_42 rfl rfl ?_
    refine ex_dup (pc := 43) dX9_install_43 rfl ?_
    obtain ⟨v12, ev12, h⟩ := ob_some h
    refine ex_gI (pc := 44) ev12 dX9_install_44 lfX9_40 ?_
    refine ex_iconst (pc := 47) 1 dX9_install_47 rfl ?_
    refine ex_iadd (pc := 48) dX9_install_48 ?_
    obtain ⟨q13, eq13, h⟩ := ob_some h
    refine ex_pF (pc := 49) eq13 dX9_install_49 lfX9_40 rfl rfl (fun _ hq => by cases hq; rfl) ?_
    refine ex_aload_n (pc := 52) 0 dX9_install_52 rfl rfl ?_
    obtain ⟨v14, ev14, h⟩ := ob_some h
    refine ex_gI (pc := 53) ev14 dX9_install_53 lfX9_40 ?_
    refine ex_iconst (pc := 56) 1 dX9_install_56 rfl ?_
    refine ex_isub (pc := 57) dX9_install_57 ?_
    cases h
    exact ex_ireturn (pc := 58) dX9_install_58
  · rw [if_neg c3] at h
    refine ex_if_ne_f (pc := 9) dX9_install_9 14 rfl (jz_ne_f c3) ?_
    refine ex_iconst (pc := 12) (-1) dX9_install_12 rfl ?_
    cases h
    exact ex_ireturn (pc := 13) dX9_install_13
noncomputable def f_X9_install (x0 : Nat) (x1 : Int32) (x2 : Int32) (M : Mem) : Option (Int32 × Mem) := if isOb M 9 x0 = true then f_X9_install_0 x0 x1 x2 M else none
theorem o_X9_install {x0 : Nat} {x1 : Int32} {x2 : Int32} {M : Mem} {res : Int32 × Mem} (h : f_X9_install x0 x1 x2 M = some res) : isO M 9 x0 := by
  unfold f_X9_install at h
  split at h
  · rename_i hc; exact isOb_iff hc
  · cases h
set_option maxHeartbeats 4000000 in
theorem s_X9_install {X : XV} {d : Nat} (hd : 2 ≤ d) {x0 : Nat} {x1 : Int32} {x2 : Int32} {M : Mem} {res : Int32 × Mem} (h : f_X9_install x0 x1 x2 M = some res) : Mx X d mX9_install [.ref x0, .int x1, .int x2] M (some (.int res.1)) res.2 := by
  obtain ⟨d, rfl⟩ : ∃ e, d = e + 1 := ⟨d - 1, by omega⟩
  unfold f_X9_install at h
  split at h
  rotate_left
  · cases h
  refine Mx.of (by decide) (Nat.le_of_ble_eq_true rfl) (⟨_, rfl, rfl⟩) ?_
  exact ex_sub (lo' := [(0, .ref x0), (1, .int x1), (2, .int x2)]) [0, 1, 2] rfl (t_X9_install_0 hd _ _ _ _ _  h)
noncomputable def f_X9_canTurn_0 (x0 : Nat) (x1 : Int32) (M : Mem) : Option (Bool) :=
  (f_X9_has x0 x1 M).bind fun v1 =>
  if v1 = false then
  (some false)
  else
  ((gR M 9 x0 6).bind fun v3 =>
  (rI M v3 x1).bind fun v4 =>
  if 99 ≤ v4 then
  (some false)
  else
  (some true))
set_option maxHeartbeats 4000000 in
theorem t_X9_canTurn_0 {X : XV} {d : Nat} (hd : 2 ≤ d + 1) : ∀ (x0 : Nat) (x1 : Int32) (M : Mem) (res : Bool), f_X9_canTurn_0  x0 x1 M = some res → Ex X (d + 1) mX9_canTurn 0 [(0, .ref x0), (1, .int x1)] [] M (some (.int (jz res))) M := by
  intro x0 x1 M res  h
  unfold f_X9_canTurn_0 at h
  refine ex_aload_n (pc := 0) 0 dX9_canTurn_0 rfl rfl ?_
  refine ex_iload_n (pc := 1) 1 dX9_canTurn_1 rfl rfl ?_
  obtain ⟨v1, ev1, h⟩ := ob_some h
  refine ex_callV1r (pc := 2) dX9_canTurn_2 jX9_has lmX9_51 jiX9_has jvX9_has (o_X9_has ev1) rfl (Nat.le_of_ble_eq_true rfl) (s_X9_has (by omega)  ev1) ?_
  by_cases c2 : v1 = false
  · rw [if_pos c2] at h
    refine ex_if_eq_t (pc := 5) 23 dX9_canTurn_5 rfl (jz_eq_t c2) ?_
    refine ex_iconst (pc := 23) 0 dX9_canTurn_23 rfl ?_
    cases h
    exact ex_ireturn (pc := 24) dX9_canTurn_24
  · rw [if_neg c2] at h
    refine ex_if_eq_f (pc := 5) dX9_canTurn_5 23 rfl (jz_eq_f c2) ?_
    refine ex_aload_n (pc := 8) 0 dX9_canTurn_8 rfl rfl ?_
    obtain ⟨v3, ev3, h⟩ := ob_some h
    refine ex_gR (pc := 9) ev3 dX9_canTurn_9 lfX9_22 ?_
    refine ex_iload_n (pc := 12) 1 dX9_canTurn_12 rfl rfl ?_
    obtain ⟨v4, ev4, h⟩ := ob_some h
    refine ex_rI (pc := 13) ev4 dX9_canTurn_13 ?_
    refine ex_bipush (pc := 14) 99 dX9_canTurn_14 (by decide) ?_
    by_cases c5 : 99 ≤ v4
    · rw [if_pos c5] at h
      refine ex_icmp_ge_t (pc := 16) 23 dX9_canTurn_16 rfl c5 ?_
      refine ex_iconst (pc := 23) 0 dX9_canTurn_23 rfl ?_
      cases h
      exact ex_ireturn (pc := 24) dX9_canTurn_24
    · rw [if_neg c5] at h
      refine ex_icmp_ge_f (pc := 16) dX9_canTurn_16 23 rfl c5 ?_
      refine ex_iconst (pc := 19) 1 dX9_canTurn_19 rfl ?_
      refine ex_goto (pc := 20) 24 dX9_canTurn_20 rfl ?_
      cases h
      exact ex_ireturn (pc := 24) dX9_canTurn_24
noncomputable def f_X9_canTurn (x0 : Nat) (x1 : Int32) (M : Mem) : Option (Bool) := if isOb M 9 x0 = true then f_X9_canTurn_0 x0 x1 M else none
theorem o_X9_canTurn {x0 : Nat} {x1 : Int32} {M : Mem} {res : Bool} (h : f_X9_canTurn x0 x1 M = some res) : isO M 9 x0 := by
  unfold f_X9_canTurn at h
  split at h
  · rename_i hc; exact isOb_iff hc
  · cases h
set_option maxHeartbeats 4000000 in
theorem s_X9_canTurn {X : XV} {d : Nat} (hd : 2 ≤ d) {x0 : Nat} {x1 : Int32} {M : Mem} {res : Bool} (h : f_X9_canTurn x0 x1 M = some res) : Mx X d mX9_canTurn [.ref x0, .int x1] M (some (.int (jz res))) M := by
  obtain ⟨d, rfl⟩ : ∃ e, d = e + 1 := ⟨d - 1, by omega⟩
  unfold f_X9_canTurn at h
  split at h
  rotate_left
  · cases h
  refine Mx.of (by decide) (Nat.le_of_ble_eq_true rfl) (⟨_, rfl, jz_nar _⟩) ?_
  exact ex_sub (lo' := [(0, .ref x0), (1, .int x1)]) [0, 1] rfl (t_X9_canTurn_0 hd _ _ _ _  h)
noncomputable def f_X9_turn_0 (x0 : Nat) (x1 : Int32) (x2 : Int32) (M : Mem) : Option (Mem) :=
  (gR M 9 x0 8).bind fun v1 =>
  (gR M 9 x0 8).bind fun v2 =>
  (rI M v2 x1).bind fun v3 =>
  (wI M v1 x1 (jrem (v3 + x2) 10000)).bind fun q4 =>
  (gR q4 9 x0 6).bind fun v5 =>
  (rI q4 v5 x1).bind fun v6 =>
  (wI q4 v5 x1 (v6 + 1)).bind fun q7 =>
  some q7
set_option maxHeartbeats 4000000 in
theorem t_X9_turn_0 {X : XV} {d : Nat} (hd : 1 ≤ d + 1) : ∀ (x0 : Nat) (x1 : Int32) (x2 : Int32) (M : Mem) (res : Mem), f_X9_turn_0  x0 x1 x2 M = some res → Ex X (d + 1) mX9_turn 0 [(0, .ref x0), (1, .int x1), (2, .int x2)] [] M none res := by
  intro x0 x1 x2 M res  h
  unfold f_X9_turn_0 at h
  refine ex_aload_n (pc := 0) 0 dX9_turn_0 rfl rfl ?_
  obtain ⟨v1, ev1, h⟩ := ob_some h
  refine ex_gR (pc := 1) ev1 dX9_turn_1 lfX9_28 ?_
  refine ex_iload_n (pc := 4) 1 dX9_turn_4 rfl rfl ?_
  refine ex_aload_n (pc := 5) 0 dX9_turn_5 rfl rfl ?_
  obtain ⟨v2, ev2, h⟩ := ob_some h
  refine ex_gR (pc := 6) ev2 dX9_turn_6 lfX9_28 ?_
  refine ex_iload_n (pc := 9) 1 dX9_turn_9 rfl rfl ?_
  obtain ⟨v3, ev3, h⟩ := ob_some h
  refine ex_rI (pc := 10) ev3 dX9_turn_10 ?_
  refine ex_iload_n (pc := 11) 2 dX9_turn_11 rfl rfl ?_
  refine ex_iadd (pc := 12) dX9_turn_12 ?_
  refine ex_sipush (pc := 13) 10000 dX9_turn_13 (by decide) ?_
  refine ex_irem (pc := 16) dX9_turn_16 (by decide) ?_
  obtain ⟨q4, eq4, h⟩ := ob_some h
  refine ex_wI (pc := 17) eq4 dX9_turn_17 ?_
  refine ex_aload_n (pc := 18) 0 dX9_turn_18 rfl rfl ?_
  obtain ⟨v5, ev5, h⟩ := ob_some h
  refine ex_gR (pc := 19) ev5 dX9_turn_19 lfX9_22 ?_
  refine ex_iload_n (pc := 22) 1 dX9_turn_22 rfl rfl ?_
  refine ex_dup2 (pc := 23) dX9_turn_23 rfl rfl ?_
  obtain ⟨v6, ev6, h⟩ := ob_some h
  refine ex_rI (pc := 24) ev6 dX9_turn_24 ?_
  refine ex_iconst (pc := 25) 1 dX9_turn_25 rfl ?_
  refine ex_iadd (pc := 26) dX9_turn_26 ?_
  obtain ⟨q7, eq7, h⟩ := ob_some h
  refine ex_wI (pc := 27) eq7 dX9_turn_27 ?_
  cases h
  exact ex_return (pc := 28) dX9_turn_28
noncomputable def f_X9_turn (x0 : Nat) (x1 : Int32) (x2 : Int32) (M : Mem) : Option (Mem) := if isOb M 9 x0 = true then f_X9_turn_0 x0 x1 x2 M else none
theorem o_X9_turn {x0 : Nat} {x1 : Int32} {x2 : Int32} {M : Mem} {res : Mem} (h : f_X9_turn x0 x1 x2 M = some res) : isO M 9 x0 := by
  unfold f_X9_turn at h
  split at h
  · rename_i hc; exact isOb_iff hc
  · cases h
set_option maxHeartbeats 4000000 in
theorem s_X9_turn {X : XV} {d : Nat} (hd : 1 ≤ d) {x0 : Nat} {x1 : Int32} {x2 : Int32} {M : Mem} {res : Mem} (h : f_X9_turn x0 x1 x2 M = some res) : Mx X d mX9_turn [.ref x0, .int x1, .int x2] M none res := by
  obtain ⟨d, rfl⟩ : ∃ e, d = e + 1 := ⟨d - 1, by omega⟩
  unfold f_X9_turn at h
  split at h
  rotate_left
  · cases h
  refine Mx.of (by decide) (Nat.le_of_ble_eq_true rfl) (rfl) ?_
  exact ex_sub (lo' := [(0, .ref x0), (1, .int x1), (2, .int x2)]) [0, 1, 2] rfl (t_X9_turn_0 hd _ _ _ _ _  h)
noncomputable def f_X9_hasRoll_0 (x0 : Nat) (x1 : Int32) (M : Mem) : Option (Bool) :=
  (f_X9_has x0 x1 M).bind fun v1 =>
  if v1 = false then
  (some false)
  else
  ((gR M 9 x0 9).bind fun v3 =>
  (rI M v3 x1).bind fun v4 =>
  if v4 ≤ 0 then
  (some false)
  else
  (some true))
set_option maxHeartbeats 4000000 in
theorem t_X9_hasRoll_0 {X : XV} {d : Nat} (hd : 2 ≤ d + 1) : ∀ (x0 : Nat) (x1 : Int32) (M : Mem) (res : Bool), f_X9_hasRoll_0  x0 x1 M = some res → Ex X (d + 1) mX9_hasRoll 0 [(0, .ref x0), (1, .int x1)] [] M (some (.int (jz res))) M := by
  intro x0 x1 M res  h
  unfold f_X9_hasRoll_0 at h
  refine ex_aload_n (pc := 0) 0 dX9_hasRoll_0 rfl rfl ?_
  refine ex_iload_n (pc := 1) 1 dX9_hasRoll_1 rfl rfl ?_
  obtain ⟨v1, ev1, h⟩ := ob_some h
  refine ex_callV1r (pc := 2) dX9_hasRoll_2 jX9_has lmX9_51 jiX9_has jvX9_has (o_X9_has ev1) rfl (Nat.le_of_ble_eq_true rfl) (s_X9_has (by omega)  ev1) ?_
  by_cases c2 : v1 = false
  · rw [if_pos c2] at h
    refine ex_if_eq_t (pc := 5) 21 dX9_hasRoll_5 rfl (jz_eq_t c2) ?_
    refine ex_iconst (pc := 21) 0 dX9_hasRoll_21 rfl ?_
    cases h
    exact ex_ireturn (pc := 22) dX9_hasRoll_22
  · rw [if_neg c2] at h
    refine ex_if_eq_f (pc := 5) dX9_hasRoll_5 21 rfl (jz_eq_f c2) ?_
    refine ex_aload_n (pc := 8) 0 dX9_hasRoll_8 rfl rfl ?_
    obtain ⟨v3, ev3, h⟩ := ob_some h
    refine ex_gR (pc := 9) ev3 dX9_hasRoll_9 lfX9_31 ?_
    refine ex_iload_n (pc := 12) 1 dX9_hasRoll_12 rfl rfl ?_
    obtain ⟨v4, ev4, h⟩ := ob_some h
    refine ex_rI (pc := 13) ev4 dX9_hasRoll_13 ?_
    by_cases c5 : v4 ≤ 0
    · rw [if_pos c5] at h
      refine ex_if_le_t (pc := 14) 21 dX9_hasRoll_14 rfl c5 ?_
      refine ex_iconst (pc := 21) 0 dX9_hasRoll_21 rfl ?_
      cases h
      exact ex_ireturn (pc := 22) dX9_hasRoll_22
    · rw [if_neg c5] at h
      refine ex_if_le_f (pc := 14) dX9_hasRoll_14 21 rfl c5 ?_
      refine ex_iconst (pc := 17) 1 dX9_hasRoll_17 rfl ?_
      refine ex_goto (pc := 18) 22 dX9_hasRoll_18 rfl ?_
      cases h
      exact ex_ireturn (pc := 22) dX9_hasRoll_22
noncomputable def f_X9_hasRoll (x0 : Nat) (x1 : Int32) (M : Mem) : Option (Bool) := if isOb M 9 x0 = true then f_X9_hasRoll_0 x0 x1 M else none
theorem o_X9_hasRoll {x0 : Nat} {x1 : Int32} {M : Mem} {res : Bool} (h : f_X9_hasRoll x0 x1 M = some res) : isO M 9 x0 := by
  unfold f_X9_hasRoll at h
  split at h
  · rename_i hc; exact isOb_iff hc
  · cases h
set_option maxHeartbeats 4000000 in
theorem s_X9_hasRoll {X : XV} {d : Nat} (hd : 2 ≤ d) {x0 : Nat} {x1 : Int32} {M : Mem} {res : Bool} (h : f_X9_hasRoll x0 x1 M = some res) : Mx X d mX9_hasRoll [.ref x0, .int x1] M (some (.int (jz res))) M := by
  obtain ⟨d, rfl⟩ : ∃ e, d = e + 1 := ⟨d - 1, by omega⟩
  unfold f_X9_hasRoll at h
  split at h
  rotate_left
  · cases h
  refine Mx.of (by decide) (Nat.le_of_ble_eq_true rfl) (⟨_, rfl, jz_nar _⟩) ?_
  exact ex_sub (lo' := [(0, .ref x0), (1, .int x1)]) [0, 1] rfl (t_X9_hasRoll_0 hd _ _ _ _  h)
noncomputable def f_X9_bookedOf_4 (n0 : Nat) (x0 : Nat) (x1 : Int32) (x2 : Int32) (x3 : Int32) (M : Mem) : Option (Int32) :=
  match n0 with
  | 0 => none
  | n + 1 =>
    (gI M 9 x0 3).bind fun v1 =>
    if v1 ≤ x3 then
    (some x2)
    else
    ((gR M 9 x0 11).bind fun v3 =>
    (rI M v3 ((x3 * 4) + 1)).bind fun v4 =>
    if v4 = x1 then
    (f_X9_bookedOf_4 n x0 x1 (x2 + 1) (x3 + 1) M)
    else
    (f_X9_bookedOf_4 n x0 x1 x2 (x3 + 1) M))
set_option maxHeartbeats 4000000 in
theorem t_X9_bookedOf_4 {X : XV} {d : Nat} (hd : 1 ≤ d + 1) : ∀ (n : Nat) (x0 : Nat) (x1 : Int32) (x2 : Int32) (x3 : Int32) (M : Mem) (res : Int32), f_X9_bookedOf_4 n  x0 x1 x2 x3 M = some res → Ex X (d + 1) mX9_bookedOf 4 [(0, .ref x0), (1, .int x1), (2, .int x2), (3, .int x3)] [] M (some (.int res)) M := by
  intro n
  induction n with
  | zero =>
    intro x0 x1 x2 x3 M res  h
    unfold f_X9_bookedOf_4 at h
    cases h
  | succ n ih =>
    intro x0 x1 x2 x3 M res  h
    unfold f_X9_bookedOf_4 at h
    refine ex_iload_n (pc := 4) 3 dX9_bookedOf_4 rfl rfl ?_
    refine ex_aload_n (pc := 5) 0 dX9_bookedOf_5 rfl rfl ?_
    obtain ⟨v1, ev1, h⟩ := ob_some h
    refine ex_gI (pc := 6) ev1 dX9_bookedOf_6 lfX9_75 ?_
    by_cases c2 : v1 ≤ x3
    · rw [if_pos c2] at h
      refine ex_icmp_ge_t (pc := 9) 35 dX9_bookedOf_9 rfl c2 ?_
      refine ex_iload_n (pc := 35) 2 dX9_bookedOf_35 rfl rfl ?_
      cases h
      exact ex_ireturn (pc := 36) dX9_bookedOf_36
    · rw [if_neg c2] at h
      refine ex_icmp_ge_f (pc := 9) dX9_bookedOf_9 35 rfl c2 ?_
      refine ex_aload_n (pc := 12) 0 dX9_bookedOf_12 rfl rfl ?_
      obtain ⟨v3, ev3, h⟩ := ob_some h
      refine ex_gR (pc := 13) ev3 dX9_bookedOf_13 lfX9_37 ?_
      refine ex_iload_n (pc := 16) 3 dX9_bookedOf_16 rfl rfl ?_
      refine ex_iconst (pc := 17) 4 dX9_bookedOf_17 rfl ?_
      refine ex_imul (pc := 18) dX9_bookedOf_18 ?_
      refine ex_iconst (pc := 19) 1 dX9_bookedOf_19 rfl ?_
      refine ex_iadd (pc := 20) dX9_bookedOf_20 ?_
      obtain ⟨v4, ev4, h⟩ := ob_some h
      refine ex_rI (pc := 21) ev4 dX9_bookedOf_21 ?_
      refine ex_iload_n (pc := 22) 1 dX9_bookedOf_22 rfl rfl ?_
      by_cases c5 : v4 = x1
      · rw [if_pos c5] at h
        refine ex_icmp_ne_f (pc := 23) dX9_bookedOf_23 29 rfl c5 ?_
        refine ex_iinc (pc := 26) (x2 + 1) 2 [(2, .int (x2 + 1)), (0, .ref x0), (1, .int x1), (3, .int x3)] dX9_bookedOf_26 rfl rfl (by decide) rfl ?_
        refine ex_iinc (pc := 29) (x3 + 1) 3 [(3, .int (x3 + 1)), (2, .int (x2 + 1)), (0, .ref x0), (1, .int x1)] dX9_bookedOf_29 rfl rfl (by decide) rfl ?_
        refine ex_goto (pc := 32) 4 dX9_bookedOf_32 rfl ?_
        refine ex_sub (lo' := [(0, .ref x0), (1, .int x1), (2, .int (x2 + 1)), (3, .int (x3 + 1))]) [2, 3, 1, 0] rfl ?_
        exact ih _ _ _ _ _ _  h
      · rw [if_neg c5] at h
        refine ex_icmp_ne_t (pc := 23) 29 dX9_bookedOf_23 rfl c5 ?_
        refine ex_iinc (pc := 29) (x3 + 1) 3 [(3, .int (x3 + 1)), (0, .ref x0), (1, .int x1), (2, .int x2)] dX9_bookedOf_29 rfl rfl (by decide) rfl ?_
        refine ex_goto (pc := 32) 4 dX9_bookedOf_32 rfl ?_
        refine ex_sub (lo' := [(0, .ref x0), (1, .int x1), (2, .int x2), (3, .int (x3 + 1))]) [1, 2, 3, 0] rfl ?_
        exact ih _ _ _ _ _ _  h
noncomputable def f_X9_bookedOf_0 (x0 : Nat) (x1 : Int32) (M : Mem) : Option (Int32) :=
  f_X9_bookedOf_4 fu x0 x1 0 0 M
set_option maxHeartbeats 4000000 in
theorem t_X9_bookedOf_0 {X : XV} {d : Nat} (hd : 1 ≤ d + 1) : ∀ (x0 : Nat) (x1 : Int32) (M : Mem) (res : Int32), f_X9_bookedOf_0  x0 x1 M = some res → Ex X (d + 1) mX9_bookedOf 0 [(0, .ref x0), (1, .int x1)] [] M (some (.int res)) M := by
  intro x0 x1 M res  h
  unfold f_X9_bookedOf_0 at h
  refine ex_iconst (pc := 0) 0 dX9_bookedOf_0 rfl ?_
  refine ex_istore_n (pc := 1) [(2, .int 0), (0, .ref x0), (1, .int x1)] dX9_bookedOf_1 rfl (by decide) rfl ?_
  refine ex_iconst (pc := 2) 0 dX9_bookedOf_2 rfl ?_
  refine ex_istore_n (pc := 3) [(3, .int 0), (2, .int 0), (0, .ref x0), (1, .int x1)] dX9_bookedOf_3 rfl (by decide) rfl ?_
  refine ex_sub (lo' := [(0, .ref x0), (1, .int x1), (2, .int 0), (3, .int 0)]) [2, 3, 1, 0] rfl ?_
  exact t_X9_bookedOf_4 hd  _ _ _ _ _ _ _  h
noncomputable def f_X9_bookedOf (x0 : Nat) (x1 : Int32) (M : Mem) : Option (Int32) := if isOb M 9 x0 = true then f_X9_bookedOf_0 x0 x1 M else none
theorem o_X9_bookedOf {x0 : Nat} {x1 : Int32} {M : Mem} {res : Int32} (h : f_X9_bookedOf x0 x1 M = some res) : isO M 9 x0 := by
  unfold f_X9_bookedOf at h
  split at h
  · rename_i hc; exact isOb_iff hc
  · cases h
set_option maxHeartbeats 4000000 in
theorem s_X9_bookedOf {X : XV} {d : Nat} (hd : 1 ≤ d) {x0 : Nat} {x1 : Int32} {M : Mem} {res : Int32} (h : f_X9_bookedOf x0 x1 M = some res) : Mx X d mX9_bookedOf [.ref x0, .int x1] M (some (.int res)) M := by
  obtain ⟨d, rfl⟩ : ∃ e, d = e + 1 := ⟨d - 1, by omega⟩
  unfold f_X9_bookedOf at h
  split at h
  rotate_left
  · cases h
  refine Mx.of (by decide) (Nat.le_of_ble_eq_true rfl) (⟨_, rfl, rfl⟩) ?_
  exact ex_sub (lo' := [(0, .ref x0), (1, .int x1)]) [0, 1] rfl (t_X9_bookedOf_0 hd _ _ _ _  h)
noncomputable def f_X9_sumOf_4 (n0 : Nat) (x0 : Nat) (x1 : Int32) (x2 : Int32) (x3 : Int32) (M : Mem) : Option (Int32) :=
  match n0 with
  | 0 => none
  | n + 1 =>
    (gI M 9 x0 0).bind fun v1 =>
    if v1 ≤ x3 then
    (some x2)
    else
    (if ((jshr x1 x3) &&& 1) = 1 then
    ((gR M 9 x0 8).bind fun v4 =>
    (rI M v4 x3).bind fun v5 =>
    f_X9_sumOf_4 n x0 x1 (x2 + v5) (x3 + 1) M)
    else
    (f_X9_sumOf_4 n x0 x1 x2 (x3 + 1) M))
set_option maxHeartbeats 4000000 in
theorem t_X9_sumOf_4 {X : XV} {d : Nat} (hd : 1 ≤ d + 1) : ∀ (n : Nat) (x0 : Nat) (x1 : Int32) (x2 : Int32) (x3 : Int32) (M : Mem) (res : Int32), f_X9_sumOf_4 n  x0 x1 x2 x3 M = some res → Ex X (d + 1) mX9_sumOf 4 [(0, .ref x0), (1, .int x1), (2, .int x2), (3, .int x3)] [] M (some (.int res)) M := by
  intro n
  induction n with
  | zero =>
    intro x0 x1 x2 x3 M res  h
    unfold f_X9_sumOf_4 at h
    cases h
  | succ n ih =>
    intro x0 x1 x2 x3 M res  h
    unfold f_X9_sumOf_4 at h
    refine ex_iload_n (pc := 4) 3 dX9_sumOf_4 rfl rfl ?_
    refine ex_aload_n (pc := 5) 0 dX9_sumOf_5 rfl rfl ?_
    obtain ⟨v1, ev1, h⟩ := ob_some h
    refine ex_gI (pc := 6) ev1 dX9_sumOf_6 lfX9_40 ?_
    by_cases c2 : v1 ≤ x3
    · rw [if_pos c2] at h
      refine ex_icmp_ge_t (pc := 9) 36 dX9_sumOf_9 rfl c2 ?_
      refine ex_iload_n (pc := 36) 2 dX9_sumOf_36 rfl rfl ?_
      cases h
      exact ex_ireturn (pc := 37) dX9_sumOf_37
    · rw [if_neg c2] at h
      refine ex_icmp_ge_f (pc := 9) dX9_sumOf_9 36 rfl c2 ?_
      refine ex_iload_n (pc := 12) 1 dX9_sumOf_12 rfl rfl ?_
      refine ex_iload_n (pc := 13) 3 dX9_sumOf_13 rfl rfl ?_
      refine ex_ishr (pc := 14) dX9_sumOf_14 ?_
      refine ex_iconst (pc := 15) 1 dX9_sumOf_15 rfl ?_
      refine ex_iand (pc := 16) dX9_sumOf_16 ?_
      refine ex_iconst (pc := 17) 1 dX9_sumOf_17 rfl ?_
      by_cases c3 : ((jshr x1 x3) &&& 1) = 1
      · rw [if_pos c3] at h
        refine ex_icmp_ne_f (pc := 18) dX9_sumOf_18 30 rfl c3 ?_
        refine ex_iload_n (pc := 21) 2 dX9_sumOf_21 rfl rfl ?_
        refine ex_aload_n (pc := 22) 0 dX9_sumOf_22 rfl rfl ?_
        obtain ⟨v4, ev4, h⟩ := ob_some h
        refine ex_gR (pc := 23) ev4 dX9_sumOf_23 lfX9_28 ?_
        refine ex_iload_n (pc := 26) 3 dX9_sumOf_26 rfl rfl ?_
        obtain ⟨v5, ev5, h⟩ := ob_some h
        refine ex_rI (pc := 27) ev5 dX9_sumOf_27 ?_
        refine ex_iadd (pc := 28) dX9_sumOf_28 ?_
        refine ex_istore_n (pc := 29) [(2, .int (x2 + v5)), (0, .ref x0), (1, .int x1), (3, .int x3)] dX9_sumOf_29 rfl (by decide) rfl ?_
        refine ex_iinc (pc := 30) (x3 + 1) 3 [(3, .int (x3 + 1)), (2, .int (x2 + v5)), (0, .ref x0), (1, .int x1)] dX9_sumOf_30 rfl rfl (by decide) rfl ?_
        refine ex_goto (pc := 33) 4 dX9_sumOf_33 rfl ?_
        refine ex_sub (lo' := [(0, .ref x0), (1, .int x1), (2, .int (x2 + v5)), (3, .int (x3 + 1))]) [2, 3, 1, 0] rfl ?_
        exact ih _ _ _ _ _ _  h
      · rw [if_neg c3] at h
        refine ex_icmp_ne_t (pc := 18) 30 dX9_sumOf_18 rfl c3 ?_
        refine ex_iinc (pc := 30) (x3 + 1) 3 [(3, .int (x3 + 1)), (0, .ref x0), (1, .int x1), (2, .int x2)] dX9_sumOf_30 rfl rfl (by decide) rfl ?_
        refine ex_goto (pc := 33) 4 dX9_sumOf_33 rfl ?_
        refine ex_sub (lo' := [(0, .ref x0), (1, .int x1), (2, .int x2), (3, .int (x3 + 1))]) [1, 2, 3, 0] rfl ?_
        exact ih _ _ _ _ _ _  h
noncomputable def f_X9_sumOf_0 (x0 : Nat) (x1 : Int32) (M : Mem) : Option (Int32) :=
  f_X9_sumOf_4 fu x0 x1 0 0 M
set_option maxHeartbeats 4000000 in
theorem t_X9_sumOf_0 {X : XV} {d : Nat} (hd : 1 ≤ d + 1) : ∀ (x0 : Nat) (x1 : Int32) (M : Mem) (res : Int32), f_X9_sumOf_0  x0 x1 M = some res → Ex X (d + 1) mX9_sumOf 0 [(0, .ref x0), (1, .int x1)] [] M (some (.int res)) M := by
  intro x0 x1 M res  h
  unfold f_X9_sumOf_0 at h
  refine ex_iconst (pc := 0) 0 dX9_sumOf_0 rfl ?_
  refine ex_istore_n (pc := 1) [(2, .int 0), (0, .ref x0), (1, .int x1)] dX9_sumOf_1 rfl (by decide) rfl ?_
  refine ex_iconst (pc := 2) 0 dX9_sumOf_2 rfl ?_
  refine ex_istore_n (pc := 3) [(3, .int 0), (2, .int 0), (0, .ref x0), (1, .int x1)] dX9_sumOf_3 rfl (by decide) rfl ?_
  refine ex_sub (lo' := [(0, .ref x0), (1, .int x1), (2, .int 0), (3, .int 0)]) [2, 3, 1, 0] rfl ?_
  exact t_X9_sumOf_4 hd  _ _ _ _ _ _ _  h
noncomputable def f_X9_sumOf (x0 : Nat) (x1 : Int32) (M : Mem) : Option (Int32) := if isOb M 9 x0 = true then f_X9_sumOf_0 x0 x1 M else none
theorem o_X9_sumOf {x0 : Nat} {x1 : Int32} {M : Mem} {res : Int32} (h : f_X9_sumOf x0 x1 M = some res) : isO M 9 x0 := by
  unfold f_X9_sumOf at h
  split at h
  · rename_i hc; exact isOb_iff hc
  · cases h
set_option maxHeartbeats 4000000 in
theorem s_X9_sumOf {X : XV} {d : Nat} (hd : 1 ≤ d) {x0 : Nat} {x1 : Int32} {M : Mem} {res : Int32} (h : f_X9_sumOf x0 x1 M = some res) : Mx X d mX9_sumOf [.ref x0, .int x1] M (some (.int res)) M := by
  obtain ⟨d, rfl⟩ : ∃ e, d = e + 1 := ⟨d - 1, by omega⟩
  unfold f_X9_sumOf at h
  split at h
  rotate_left
  · cases h
  refine Mx.of (by decide) (Nat.le_of_ble_eq_true rfl) (⟨_, rfl, rfl⟩) ?_
  exact ex_sub (lo' := [(0, .ref x0), (1, .int x1)]) [0, 1] rfl (t_X9_sumOf_0 hd _ _ _ _  h)
noncomputable def f_X10_init_0 (x0 : Nat) (M : Mem) : Option (Mem) :=
  (some (nwO M 4 16)).bind fun q1 =>
  (f_X4_init M.1 q1).bind fun q2 =>
  (pF q2 10 x0 0 (.ref M.1)).bind fun q3 =>
  (some (nwO q3 4 16)).bind fun q4 =>
  (f_X4_init q3.1 q4).bind fun q5 =>
  (pF q5 10 x0 1 (.ref q3.1)).bind fun q6 =>
  (some (nwO q6 7 6)).bind fun q7 =>
  (f_X7_init q6.1 q7).bind fun q8 =>
  (pF q8 10 x0 2 (.ref q6.1)).bind fun q9 =>
  (some (nwO q9 2 12)).bind fun q10 =>
  (gR q10 10 x0 2).bind fun v11 =>
  (f_X2_init q9.1 v11 q10).bind fun q12 =>
  (pF q12 10 x0 3 (.ref q9.1)).bind fun q13 =>
  (some (nwO q13 0 2)).bind fun q14 =>
  (f_X0_init q13.1 q14).bind fun q15 =>
  (pF q15 10 x0 4 (.ref q13.1)).bind fun q16 =>
  (some (nwO q16 6 7)).bind fun q17 =>
  (f_X6_init q16.1 q17).bind fun q18 =>
  (pF q18 10 x0 5 (.ref q16.1)).bind fun q19 =>
  (some (nwO q19 1 3)).bind fun q20 =>
  (f_X1_init q19.1 q20).bind fun q21 =>
  (pF q21 10 x0 6 (.ref q19.1)).bind fun q22 =>
  (some (nwO q22 5 3)).bind fun q23 =>
  (f_X5_init q22.1 q23).bind fun q24 =>
  (pF q24 10 x0 7 (.ref q22.1)).bind fun q25 =>
  (some (nwO q25 9 12)).bind fun q26 =>
  (f_X9_init q25.1 q26).bind fun q27 =>
  (pF q27 10 x0 8 (.ref q25.1)).bind fun q28 =>
  some q28
set_option maxHeartbeats 4000000 in
theorem t_X10_init_0 {X : XV} {d : Nat} (hd : 3 ≤ d + 1) : ∀ (x0 : Nat) (M : Mem) (res : Mem), f_X10_init_0  x0 M = some res → Ex X (d + 1) mX10_init 0 [(0, .ref x0)] [] M none res := by
  intro x0 M res  h
  unfold f_X10_init_0 at h
  refine ex_aload_n (pc := 0) 0 dX10_init_0 rfl rfl ?_
  refine ex_obj (pc := 1) dX10_init_1 lmX10_1 (by omega) (Nat.le_of_ble_eq_true rfl) ?_
  refine ex_aload_n (pc := 4) 0 dX10_init_4 rfl rfl ?_
  obtain ⟨q1, eq1, h⟩ := ob_some h
  refine ex_nwO (pc := 5) eq1 dX10_init_5 lwX10_7 ?_
  refine ex_dup (pc := 8) dX10_init_8 rfl ?_
  obtain ⟨q2, eq2, h⟩ := ob_some h
  refine ex_callI0v (pc := 9) dX10_init_9 jX4_init lmX10_9 jiX4_init rfl rfl (Nat.le_of_ble_eq_true rfl) (s_X4_init (by omega)  eq2) ?_
  obtain ⟨q3, eq3, h⟩ := ob_some h
  refine ex_pFF (pc := 12) eq3 dX10_init_12 lfX10_10 rfl rfl (fun _ hq => by cases hq; exact ⟨rfl, rfl⟩) rfl ?_
  refine ex_aload_n (pc := 15) 0 dX10_init_15 rfl rfl ?_
  obtain ⟨q4, eq4, h⟩ := ob_some h
  refine ex_nwO (pc := 16) eq4 dX10_init_16 lwX10_7 ?_
  refine ex_dup (pc := 19) dX10_init_19 rfl ?_
  obtain ⟨q5, eq5, h⟩ := ob_some h
  refine ex_callI0v (pc := 20) dX10_init_20 jX4_init lmX10_9 jiX4_init rfl rfl (Nat.le_of_ble_eq_true rfl) (s_X4_init (by omega)  eq5) ?_
  obtain ⟨q6, eq6, h⟩ := ob_some h
  refine ex_pFF (pc := 23) eq6 dX10_init_23 lfX10_16 rfl rfl (fun _ hq => by cases hq; exact ⟨rfl, rfl⟩) rfl ?_
  refine ex_aload_n (pc := 26) 0 dX10_init_26 rfl rfl ?_
  obtain ⟨q7, eq7, h⟩ := ob_some h
  refine ex_nwO (pc := 27) eq7 dX10_init_27 lwX10_19 ?_
  refine ex_dup (pc := 30) dX10_init_30 rfl ?_
  obtain ⟨q8, eq8, h⟩ := ob_some h
  refine ex_callIN0v (pc := 31) dX10_init_31 jX7_init lnX10_21 jiX7_init rfl rfl (Nat.le_of_ble_eq_true rfl) (s_X7_init (by omega)  eq8) ?_
  obtain ⟨q9, eq9, h⟩ := ob_some h
  refine ex_pFF (pc := 34) eq9 dX10_init_34 lfX10_22 rfl rfl (fun _ hq => by cases hq; exact ⟨rfl, rfl⟩) rfl ?_
  refine ex_aload_n (pc := 37) 0 dX10_init_37 rfl rfl ?_
  obtain ⟨q10, eq10, h⟩ := ob_some h
  refine ex_nwO (pc := 38) eq10 dX10_init_38 lwX10_26 ?_
  refine ex_dup (pc := 41) dX10_init_41 rfl ?_
  refine ex_aload_n (pc := 42) 0 dX10_init_42 rfl rfl ?_
  obtain ⟨v11, ev11, h⟩ := ob_some h
  refine ex_gR (pc := 43) ev11 dX10_init_43 lfX10_22 ?_
  obtain ⟨q12, eq12, h⟩ := ob_some h
  refine ex_callI1v (pc := 46) dX10_init_46 jX2_init lmX10_28 jiX2_init rfl rfl (Nat.le_of_ble_eq_true rfl) (s_X2_init (by omega)  eq12) ?_
  obtain ⟨q13, eq13, h⟩ := ob_some h
  refine ex_pFF (pc := 49) eq13 dX10_init_49 lfX10_31 rfl rfl (fun _ hq => by cases hq; exact ⟨rfl, rfl⟩) rfl ?_
  refine ex_aload_n (pc := 52) 0 dX10_init_52 rfl rfl ?_
  obtain ⟨q14, eq14, h⟩ := ob_some h
  refine ex_nwO (pc := 53) eq14 dX10_init_53 lwX10_35 ?_
  refine ex_dup (pc := 56) dX10_init_56 rfl ?_
  obtain ⟨q15, eq15, h⟩ := ob_some h
  refine ex_callIN0v (pc := 57) dX10_init_57 jX0_init lnX10_37 jiX0_init rfl rfl (Nat.le_of_ble_eq_true rfl) (s_X0_init (by omega)  eq15) ?_
  obtain ⟨q16, eq16, h⟩ := ob_some h
  refine ex_pFF (pc := 60) eq16 dX10_init_60 lfX10_38 rfl rfl (fun _ hq => by cases hq; exact ⟨rfl, rfl⟩) rfl ?_
  refine ex_aload_n (pc := 63) 0 dX10_init_63 rfl rfl ?_
  obtain ⟨q17, eq17, h⟩ := ob_some h
  refine ex_nwO (pc := 64) eq17 dX10_init_64 lwX10_42 ?_
  refine ex_dup (pc := 67) dX10_init_67 rfl ?_
  obtain ⟨q18, eq18, h⟩ := ob_some h
  refine ex_callIN0v (pc := 68) dX10_init_68 jX6_init lnX10_44 jiX6_init rfl rfl (Nat.le_of_ble_eq_true rfl) (s_X6_init (by omega)  eq18) ?_
  obtain ⟨q19, eq19, h⟩ := ob_some h
  refine ex_pFF (pc := 71) eq19 dX10_init_71 lfX10_45 rfl rfl (fun _ hq => by cases hq; exact ⟨rfl, rfl⟩) rfl ?_
  refine ex_aload_n (pc := 74) 0 dX10_init_74 rfl rfl ?_
  obtain ⟨q20, eq20, h⟩ := ob_some h
  refine ex_nwO (pc := 75) eq20 dX10_init_75 lwX10_49 ?_
  refine ex_dup (pc := 78) dX10_init_78 rfl ?_
  obtain ⟨q21, eq21, h⟩ := ob_some h
  refine ex_callIN0v (pc := 79) dX10_init_79 jX1_init lnX10_51 jiX1_init rfl rfl (Nat.le_of_ble_eq_true rfl) (s_X1_init (by omega)  eq21) ?_
  obtain ⟨q22, eq22, h⟩ := ob_some h
  refine ex_pFF (pc := 82) eq22 dX10_init_82 lfX10_52 rfl rfl (fun _ hq => by cases hq; exact ⟨rfl, rfl⟩) rfl ?_
  refine ex_aload_n (pc := 85) 0 dX10_init_85 rfl rfl ?_
  obtain ⟨q23, eq23, h⟩ := ob_some h
  refine ex_nwO (pc := 86) eq23 dX10_init_86 lwX10_56 ?_
  refine ex_dup (pc := 89) dX10_init_89 rfl ?_
  obtain ⟨q24, eq24, h⟩ := ob_some h
  refine ex_callIN0v (pc := 90) dX10_init_90 jX5_init lnX10_58 jiX5_init rfl rfl (Nat.le_of_ble_eq_true rfl) (s_X5_init (by omega)  eq24) ?_
  obtain ⟨q25, eq25, h⟩ := ob_some h
  refine ex_pFF (pc := 93) eq25 dX10_init_93 lfX10_59 rfl rfl (fun _ hq => by cases hq; exact ⟨rfl, rfl⟩) rfl ?_
  refine ex_aload_n (pc := 96) 0 dX10_init_96 rfl rfl ?_
  obtain ⟨q26, eq26, h⟩ := ob_some h
  refine ex_nwO (pc := 97) eq26 dX10_init_97 lwX10_63 ?_
  refine ex_dup (pc := 100) dX10_init_100 rfl ?_
  obtain ⟨q27, eq27, h⟩ := ob_some h
  refine ex_callIN0v (pc := 101) dX10_init_101 jX9_init lnX10_65 jiX9_init rfl rfl (Nat.le_of_ble_eq_true rfl) (s_X9_init (by omega)  eq27) ?_
  obtain ⟨q28, eq28, h⟩ := ob_some h
  refine ex_pFF (pc := 104) eq28 dX10_init_104 lfX10_66 rfl rfl (fun _ hq => by cases hq; exact ⟨rfl, rfl⟩) rfl ?_
  cases h
  exact ex_return (pc := 107) dX10_init_107
noncomputable def f_X10_init (x0 : Nat) (M : Mem) : Option (Mem) := f_X10_init_0 x0 M
set_option maxHeartbeats 4000000 in
theorem s_X10_init {X : XV} {d : Nat} (hd : 3 ≤ d) {x0 : Nat} {M : Mem} {res : Mem} (h : f_X10_init x0 M = some res) : Mx X d mX10_init [.ref x0] M none res := by
  obtain ⟨d, rfl⟩ : ∃ e, d = e + 1 := ⟨d - 1, by omega⟩
  unfold f_X10_init at h
  refine Mx.of (by decide) (Nat.le_of_ble_eq_true rfl) (rfl) ?_
  exact ex_sub (lo' := [(0, .ref x0)]) [0] rfl (t_X10_init_0 hd _ _ _  h)
noncomputable def f_X10_machine_0 (x0 : Nat) (x1 : Int32) (x2 : Int32) (M : Mem) : Option (Int32 × Mem) :=
  (f_X10_within x1 0 9).bind fun v1 =>
  if v1 = false then
  (some ((-1), M))
  else
  ((f_X10_within x2 0 99).bind fun v3 =>
  if v3 = true then
  ((gR M 10 x0 0).bind fun v5 =>
  (gR M 4 v5 0).bind fun v6 =>
  (f_X9_install v6 x1 x2 M).bind fun q7 =>
  some (q7.1, q7.2))
  else
  (some ((-1), M)))
set_option maxHeartbeats 4000000 in
theorem t_X10_machine_0 {X : XV} {d : Nat} (hd : 3 ≤ d + 1) : ∀ (x0 : Nat) (x1 : Int32) (x2 : Int32) (M : Mem) (res : Int32 × Mem), f_X10_machine_0  x0 x1 x2 M = some res → Ex X (d + 1) mX10_machine 0 [(0, .ref x0), (1, .int x1), (2, .int x2)] [] M (some (.int res.1)) res.2 := by
  intro x0 x1 x2 M res  h
  unfold f_X10_machine_0 at h
  refine ex_iload_n (pc := 0) 1 dX10_machine_0 rfl rfl ?_
  refine ex_iconst (pc := 1) 0 dX10_machine_1 rfl ?_
  refine ex_bipush (pc := 2) 9 dX10_machine_2 (by decide) ?_
  obtain ⟨v1, ev1, h⟩ := ob_some h
  refine ex_callS3r (pc := 4) dX10_machine_4 jX10_within lmX10_70 jsX10_within (Nat.le_of_ble_eq_true rfl) (s_X10_within (by omega)  ev1) ?_
  by_cases c2 : v1 = false
  · rw [if_pos c2] at h
    refine ex_if_eq_t (pc := 7) 20 dX10_machine_7 rfl (jz_eq_t c2) ?_
    refine ex_iconst (pc := 20) (-1) dX10_machine_20 rfl ?_
    cases h
    exact ex_ireturn (pc := 21) dX10_machine_21
  · rw [if_neg c2] at h
    refine ex_if_eq_f (pc := 7) dX10_machine_7 20 rfl (jz_eq_f c2) ?_
    refine ex_iload_n (pc := 10) 2 dX10_machine_10 rfl rfl ?_
    refine ex_iconst (pc := 11) 0 dX10_machine_11 rfl ?_
    refine ex_bipush (pc := 12) 99 dX10_machine_12 (by decide) ?_
    obtain ⟨v3, ev3, h⟩ := ob_some h
    refine ex_callS3r (pc := 14) dX10_machine_14 jX10_within lmX10_70 jsX10_within (Nat.le_of_ble_eq_true rfl) (s_X10_within (by omega)  ev3) ?_
    by_cases c4 : v3 = true
    · rw [if_pos c4] at h
      refine ex_if_ne_t (pc := 17) 22 dX10_machine_17 rfl (jz_ne_t c4) ?_
      refine ex_aload_n (pc := 22) 0 dX10_machine_22 rfl rfl ?_
      obtain ⟨v5, ev5, h⟩ := ob_some h
      refine ex_gR (pc := 23) ev5 dX10_machine_23 lfX10_10 ?_
      obtain ⟨v6, ev6, h⟩ := ob_some h
      refine ex_gR (pc := 26) ev6 dX10_machine_26 lfX10_74 ?_
      refine ex_iload_n (pc := 29) 1 dX10_machine_29 rfl rfl ?_
      refine ex_iload_n (pc := 30) 2 dX10_machine_30 rfl rfl ?_
      obtain ⟨q7, eq7, h⟩ := ob_some h
      refine ex_callV2r (pc := 31) dX10_machine_31 jX9_install lmX10_77 jiX9_install jvX9_install (o_X9_install eq7) rfl (Nat.le_of_ble_eq_true rfl) (s_X9_install (by omega)  eq7) ?_
      cases h
      exact ex_ireturn (pc := 34) dX10_machine_34
    · rw [if_neg c4] at h
      refine ex_if_ne_f (pc := 17) dX10_machine_17 22 rfl (jz_ne_f c4) ?_
      refine ex_iconst (pc := 20) (-1) dX10_machine_20 rfl ?_
      cases h
      exact ex_ireturn (pc := 21) dX10_machine_21
noncomputable def f_X10_machine (x0 : Nat) (x1 : Int32) (x2 : Int32) (M : Mem) : Option (Int32 × Mem) := if isOb M 10 x0 = true then f_X10_machine_0 x0 x1 x2 M else none
theorem o_X10_machine {x0 : Nat} {x1 : Int32} {x2 : Int32} {M : Mem} {res : Int32 × Mem} (h : f_X10_machine x0 x1 x2 M = some res) : isO M 10 x0 := by
  unfold f_X10_machine at h
  split at h
  · rename_i hc; exact isOb_iff hc
  · cases h
set_option maxHeartbeats 4000000 in
theorem s_X10_machine {X : XV} {d : Nat} (hd : 3 ≤ d) {x0 : Nat} {x1 : Int32} {x2 : Int32} {M : Mem} {res : Int32 × Mem} (h : f_X10_machine x0 x1 x2 M = some res) : Mx X d mX10_machine [.ref x0, .int x1, .int x2] M (some (.int res.1)) res.2 := by
  obtain ⟨d, rfl⟩ : ∃ e, d = e + 1 := ⟨d - 1, by omega⟩
  unfold f_X10_machine at h
  split at h
  rotate_left
  · cases h
  refine Mx.of (by decide) (Nat.le_of_ble_eq_true rfl) (⟨_, rfl, rfl⟩) ?_
  exact ex_sub (lo' := [(0, .ref x0), (1, .int x1), (2, .int x2)]) [0, 1, 2] rfl (t_X10_machine_0 hd _ _ _ _ _  h)
noncomputable def f_X10_rule_0 (x0 : Nat) (x1 : Int32) (x2 : Bool) (x3 : Int32) (M : Mem) : Option (Bool × Mem) :=
  (f_X10_within x1 0 9).bind fun v1 =>
  if v1 = false then
  (some (false, M))
  else
  ((f_X10_within x3 0 110).bind fun v3 =>
  if v3 = true then
  ((gR M 10 x0 0).bind fun v5 =>
  (gR M 4 v5 7).bind fun v6 =>
  (f_X10_ruleIndex x1 x2).bind fun v7 =>
  (wI M v6 v7 x3).bind fun q8 =>
  some (true, q8))
  else
  (some (false, M)))
set_option maxHeartbeats 4000000 in
theorem t_X10_rule_0 {X : XV} {d : Nat} (hd : 2 ≤ d + 1) : ∀ (x0 : Nat) (x1 : Int32) (x2 : Bool) (x3 : Int32) (M : Mem) (res : Bool × Mem), f_X10_rule_0  x0 x1 x2 x3 M = some res → Ex X (d + 1) mX10_rule 0 [(0, .ref x0), (1, .int x1), (2, .int (jz x2)), (3, .int x3)] [] M (some (.int (jz res.1))) res.2 := by
  intro x0 x1 x2 x3 M res  h
  unfold f_X10_rule_0 at h
  refine ex_iload_n (pc := 0) 1 dX10_rule_0 rfl rfl ?_
  refine ex_iconst (pc := 1) 0 dX10_rule_1 rfl ?_
  refine ex_bipush (pc := 2) 9 dX10_rule_2 (by decide) ?_
  obtain ⟨v1, ev1, h⟩ := ob_some h
  refine ex_callS3r (pc := 4) dX10_rule_4 jX10_within lmX10_70 jsX10_within (Nat.le_of_ble_eq_true rfl) (s_X10_within (by omega)  ev1) ?_
  by_cases c2 : v1 = false
  · rw [if_pos c2] at h
    refine ex_if_eq_t (pc := 7) 20 dX10_rule_7 rfl (jz_eq_t c2) ?_
    refine ex_iconst (pc := 20) 0 dX10_rule_20 rfl ?_
    cases h
    exact ex_ireturn (pc := 21) dX10_rule_21
  · rw [if_neg c2] at h
    refine ex_if_eq_f (pc := 7) dX10_rule_7 20 rfl (jz_eq_f c2) ?_
    refine ex_iload_n (pc := 10) 3 dX10_rule_10 rfl rfl ?_
    refine ex_iconst (pc := 11) 0 dX10_rule_11 rfl ?_
    refine ex_bipush (pc := 12) 110 dX10_rule_12 (by decide) ?_
    obtain ⟨v3, ev3, h⟩ := ob_some h
    refine ex_callS3r (pc := 14) dX10_rule_14 jX10_within lmX10_70 jsX10_within (Nat.le_of_ble_eq_true rfl) (s_X10_within (by omega)  ev3) ?_
    by_cases c4 : v3 = true
    · rw [if_pos c4] at h
      refine ex_if_ne_t (pc := 17) 22 dX10_rule_17 rfl (jz_ne_t c4) ?_
      refine ex_aload_n (pc := 22) 0 dX10_rule_22 rfl rfl ?_
      obtain ⟨v5, ev5, h⟩ := ob_some h
      refine ex_gR (pc := 23) ev5 dX10_rule_23 lfX10_10 ?_
      obtain ⟨v6, ev6, h⟩ := ob_some h
      refine ex_gR (pc := 26) ev6 dX10_rule_26 lfX10_81 ?_
      refine ex_iload_n (pc := 29) 1 dX10_rule_29 rfl rfl ?_
      refine ex_iload_n (pc := 30) 2 dX10_rule_30 rfl rfl ?_
      obtain ⟨v7, ev7, h⟩ := ob_some h
      refine ex_callS2r (pc := 31) dX10_rule_31 jX10_ruleIndex lmX10_85 jsX10_ruleIndex (Nat.le_of_ble_eq_true rfl) (s_X10_ruleIndex (by omega)  ev7) ?_
      refine ex_iload_n (pc := 34) 3 dX10_rule_34 rfl rfl ?_
      obtain ⟨q8, eq8, h⟩ := ob_some h
      refine ex_wI (pc := 35) eq8 dX10_rule_35 ?_
      refine ex_iconst (pc := 36) 1 dX10_rule_36 rfl ?_
      cases h
      exact ex_ireturn (pc := 37) dX10_rule_37
    · rw [if_neg c4] at h
      refine ex_if_ne_f (pc := 17) dX10_rule_17 22 rfl (jz_ne_f c4) ?_
      refine ex_iconst (pc := 20) 0 dX10_rule_20 rfl ?_
      cases h
      exact ex_ireturn (pc := 21) dX10_rule_21
noncomputable def f_X10_rule (x0 : Nat) (x1 : Int32) (x2 : Bool) (x3 : Int32) (M : Mem) : Option (Bool × Mem) := if isOb M 10 x0 = true then f_X10_rule_0 x0 x1 x2 x3 M else none
theorem o_X10_rule {x0 : Nat} {x1 : Int32} {x2 : Bool} {x3 : Int32} {M : Mem} {res : Bool × Mem} (h : f_X10_rule x0 x1 x2 x3 M = some res) : isO M 10 x0 := by
  unfold f_X10_rule at h
  split at h
  · rename_i hc; exact isOb_iff hc
  · cases h
set_option maxHeartbeats 4000000 in
theorem s_X10_rule {X : XV} {d : Nat} (hd : 2 ≤ d) {x0 : Nat} {x1 : Int32} {x2 : Bool} {x3 : Int32} {M : Mem} {res : Bool × Mem} (h : f_X10_rule x0 x1 x2 x3 M = some res) : Mx X d mX10_rule [.ref x0, .int x1, .int (jz x2), .int x3] M (some (.int (jz res.1))) res.2 := by
  obtain ⟨d, rfl⟩ : ∃ e, d = e + 1 := ⟨d - 1, by omega⟩
  unfold f_X10_rule at h
  split at h
  rotate_left
  · cases h
  refine Mx.of (by decide) (Nat.le_of_ble_eq_true rfl) (⟨_, rfl, jz_nar _⟩) ?_
  exact ex_sub (lo' := [(0, .ref x0), (1, .int x1), (2, .int (jz x2)), (3, .int x3)]) [0, 1, 2, 3] rfl (t_X10_rule_0 hd _ _ _ _ _ _  h)
noncomputable def f_X10_feed_0 (x0 : Nat) (x1 : Int32) (x2 : Int32) (x3 : Int32) (x4 : Int32) (x5 : Int32) (M : Mem) : Option (Int32 × Mem) :=
  (gR M 10 x0 2).bind fun v1 =>
  (gI M 7 v1 1).bind fun v2 =>
  if v2 ≤ 280 then
  ((gR M 10 x0 2).bind fun v4 =>
  (f_X7_append v4 x1 M).bind fun q5 =>
  (gR q5 10 x0 2).bind fun v6 =>
  (f_X7_append v6 x2 q5).bind fun q7 =>
  (gR q7 10 x0 2).bind fun v8 =>
  (f_X7_append v8 x3 q7).bind fun q9 =>
  (gR q9 10 x0 2).bind fun v10 =>
  (f_X7_append v10 x4 q9).bind fun q11 =>
  (gR q11 10 x0 2).bind fun v12 =>
  (f_X7_append v12 x5 q11).bind fun q13 =>
  (gR q13 10 x0 2).bind fun v14 =>
  (gI q13 7 v14 1).bind fun v15 =>
  some (v15, q13))
  else
  (some ((-1), M))
set_option maxHeartbeats 4000000 in
theorem t_X10_feed_0 {X : XV} {d : Nat} (hd : 3 ≤ d + 1) : ∀ (x0 : Nat) (x1 : Int32) (x2 : Int32) (x3 : Int32) (x4 : Int32) (x5 : Int32) (M : Mem) (res : Int32 × Mem), f_X10_feed_0  x0 x1 x2 x3 x4 x5 M = some res → Ex X (d + 1) mX10_feed 0 [(0, .ref x0), (1, .int x1), (2, .int x2), (3, .int x3), (4, .int x4), (5, .int x5)] [] M (some (.int res.1)) res.2 := by
  intro x0 x1 x2 x3 x4 x5 M res  h
  unfold f_X10_feed_0 at h
  refine ex_aload_n (pc := 0) 0 dX10_feed_0 rfl rfl ?_
  obtain ⟨v1, ev1, h⟩ := ob_some h
  refine ex_gR (pc := 1) ev1 dX10_feed_1 lfX10_22 ?_
  obtain ⟨v2, ev2, h⟩ := ob_some h
  refine ex_gI (pc := 4) ev2 dX10_feed_4 lfX10_89 ?_
  refine ex_sipush (pc := 7) 280 dX10_feed_7 (by decide) ?_
  by_cases c3 : v2 ≤ 280
  · rw [if_pos c3] at h
    refine ex_icmp_le_t (pc := 10) 15 dX10_feed_10 rfl c3 ?_
    refine ex_aload_n (pc := 15) 0 dX10_feed_15 rfl rfl ?_
    obtain ⟨v4, ev4, h⟩ := ob_some h
    refine ex_gR (pc := 16) ev4 dX10_feed_16 lfX10_22 ?_
    refine ex_iload_n (pc := 19) 1 dX10_feed_19 rfl rfl ?_
    obtain ⟨q5, eq5, h⟩ := ob_some h
    refine ex_callV1v (pc := 20) dX10_feed_20 jX7_append lmX10_93 jiX7_append jvX7_append (o_X7_append eq5) rfl (Nat.le_of_ble_eq_true rfl) (s_X7_append (by omega)  eq5) ?_
    refine ex_aload_n (pc := 23) 0 dX10_feed_23 rfl rfl ?_
    obtain ⟨v6, ev6, h⟩ := ob_some h
    refine ex_gR (pc := 24) ev6 dX10_feed_24 lfX10_22 ?_
    refine ex_iload_n (pc := 27) 2 dX10_feed_27 rfl rfl ?_
    obtain ⟨q7, eq7, h⟩ := ob_some h
    refine ex_callV1v (pc := 28) dX10_feed_28 jX7_append lmX10_93 jiX7_append jvX7_append (o_X7_append eq7) rfl (Nat.le_of_ble_eq_true rfl) (s_X7_append (by omega)  eq7) ?_
    refine ex_aload_n (pc := 31) 0 dX10_feed_31 rfl rfl ?_
    obtain ⟨v8, ev8, h⟩ := ob_some h
    refine ex_gR (pc := 32) ev8 dX10_feed_32 lfX10_22 ?_
    refine ex_iload_n (pc := 35) 3 dX10_feed_35 rfl rfl ?_
    obtain ⟨q9, eq9, h⟩ := ob_some h
    refine ex_callV1v (pc := 36) dX10_feed_36 jX7_append lmX10_93 jiX7_append jvX7_append (o_X7_append eq9) rfl (Nat.le_of_ble_eq_true rfl) (s_X7_append (by omega)  eq9) ?_
    refine ex_aload_n (pc := 39) 0 dX10_feed_39 rfl rfl ?_
    obtain ⟨v10, ev10, h⟩ := ob_some h
    refine ex_gR (pc := 40) ev10 dX10_feed_40 lfX10_22 ?_
    refine ex_iload (pc := 43) 4 dX10_feed_43 rfl ?_
    obtain ⟨q11, eq11, h⟩ := ob_some h
    refine ex_callV1v (pc := 45) dX10_feed_45 jX7_append lmX10_93 jiX7_append jvX7_append (o_X7_append eq11) rfl (Nat.le_of_ble_eq_true rfl) (s_X7_append (by omega)  eq11) ?_
    refine ex_aload_n (pc := 48) 0 dX10_feed_48 rfl rfl ?_
    obtain ⟨v12, ev12, h⟩ := ob_some h
    refine ex_gR (pc := 49) ev12 dX10_feed_49 lfX10_22 ?_
    refine ex_iload (pc := 52) 5 dX10_feed_52 rfl ?_
    obtain ⟨q13, eq13, h⟩ := ob_some h
    refine ex_callV1v (pc := 54) dX10_feed_54 jX7_append lmX10_93 jiX7_append jvX7_append (o_X7_append eq13) rfl (Nat.le_of_ble_eq_true rfl) (s_X7_append (by omega)  eq13) ?_
    refine ex_aload_n (pc := 57) 0 dX10_feed_57 rfl rfl ?_
    obtain ⟨v14, ev14, h⟩ := ob_some h
    refine ex_gR (pc := 58) ev14 dX10_feed_58 lfX10_22 ?_
    obtain ⟨v15, ev15, h⟩ := ob_some h
    refine ex_gI (pc := 61) ev15 dX10_feed_61 lfX10_89 ?_
    cases h
    exact ex_ireturn (pc := 64) dX10_feed_64
  · rw [if_neg c3] at h
    refine ex_icmp_le_f (pc := 10) dX10_feed_10 15 rfl c3 ?_
    refine ex_iconst (pc := 13) (-1) dX10_feed_13 rfl ?_
    cases h
    exact ex_ireturn (pc := 14) dX10_feed_14
noncomputable def f_X10_feed (x0 : Nat) (x1 : Int32) (x2 : Int32) (x3 : Int32) (x4 : Int32) (x5 : Int32) (M : Mem) : Option (Int32 × Mem) := if isOb M 10 x0 = true then f_X10_feed_0 x0 x1 x2 x3 x4 x5 M else none
theorem o_X10_feed {x0 : Nat} {x1 : Int32} {x2 : Int32} {x3 : Int32} {x4 : Int32} {x5 : Int32} {M : Mem} {res : Int32 × Mem} (h : f_X10_feed x0 x1 x2 x3 x4 x5 M = some res) : isO M 10 x0 := by
  unfold f_X10_feed at h
  split at h
  · rename_i hc; exact isOb_iff hc
  · cases h
set_option maxHeartbeats 4000000 in
theorem s_X10_feed {X : XV} {d : Nat} (hd : 3 ≤ d) {x0 : Nat} {x1 : Int32} {x2 : Int32} {x3 : Int32} {x4 : Int32} {x5 : Int32} {M : Mem} {res : Int32 × Mem} (h : f_X10_feed x0 x1 x2 x3 x4 x5 M = some res) : Mx X d mX10_feed [.ref x0, .int x1, .int x2, .int x3, .int x4, .int x5] M (some (.int res.1)) res.2 := by
  obtain ⟨d, rfl⟩ : ∃ e, d = e + 1 := ⟨d - 1, by omega⟩
  unfold f_X10_feed at h
  split at h
  rotate_left
  · cases h
  refine Mx.of (by decide) (Nat.le_of_ble_eq_true rfl) (⟨_, rfl, rfl⟩) ?_
  exact ex_sub (lo' := [(0, .ref x0), (1, .int x1), (2, .int x2), (3, .int x3), (4, .int x4), (5, .int x5)]) [0, 1, 2, 3, 4, 5] rfl (t_X10_feed_0 hd _ _ _ _ _ _ _ _  h)
noncomputable def f_X10_end_0 (x0 : Nat) (x1 : Int32) (M : Mem) : Option (Int32 × Mem) :=
  (gR M 10 x0 2).bind fun v1 =>
  (gI M 7 v1 1).bind fun v2 =>
  (f_X10_within x1 0 v2).bind fun v3 =>
  if v3 = true then
  ((gR M 10 x0 2).bind fun v5 =>
  (pF M 7 v5 1 (.int x1)).bind fun q6 =>
  some (x1, q6))
  else
  (some ((-1), M))
set_option maxHeartbeats 4000000 in
theorem t_X10_end_0 {X : XV} {d : Nat} (hd : 2 ≤ d + 1) : ∀ (x0 : Nat) (x1 : Int32) (M : Mem) (res : Int32 × Mem), f_X10_end_0  x0 x1 M = some res → Ex X (d + 1) mX10_end 0 [(0, .ref x0), (1, .int x1)] [] M (some (.int res.1)) res.2 := by
  intro x0 x1 M res  h
  unfold f_X10_end_0 at h
  refine ex_iload_n (pc := 0) 1 dX10_end_0 rfl rfl ?_
  refine ex_iconst (pc := 1) 0 dX10_end_1 rfl ?_
  refine ex_aload_n (pc := 2) 0 dX10_end_2 rfl rfl ?_
  obtain ⟨v1, ev1, h⟩ := ob_some h
  refine ex_gR (pc := 3) ev1 dX10_end_3 lfX10_22 ?_
  obtain ⟨v2, ev2, h⟩ := ob_some h
  refine ex_gI (pc := 6) ev2 dX10_end_6 lfX10_89 ?_
  obtain ⟨v3, ev3, h⟩ := ob_some h
  refine ex_callS3r (pc := 9) dX10_end_9 jX10_within lmX10_70 jsX10_within (Nat.le_of_ble_eq_true rfl) (s_X10_within (by omega)  ev3) ?_
  by_cases c4 : v3 = true
  · rw [if_pos c4] at h
    refine ex_if_ne_t (pc := 12) 17 dX10_end_12 rfl (jz_ne_t c4) ?_
    refine ex_aload_n (pc := 17) 0 dX10_end_17 rfl rfl ?_
    obtain ⟨v5, ev5, h⟩ := ob_some h
    refine ex_gR (pc := 18) ev5 dX10_end_18 lfX10_22 ?_
    refine ex_iload_n (pc := 21) 1 dX10_end_21 rfl rfl ?_
    obtain ⟨q6, eq6, h⟩ := ob_some h
    refine ex_pF (pc := 22) eq6 dX10_end_22 lfX10_89 rfl rfl (fun _ hq => by cases hq; rfl) ?_
    refine ex_iload_n (pc := 25) 1 dX10_end_25 rfl rfl ?_
    cases h
    exact ex_ireturn (pc := 26) dX10_end_26
  · rw [if_neg c4] at h
    refine ex_if_ne_f (pc := 12) dX10_end_12 17 rfl (jz_ne_f c4) ?_
    refine ex_iconst (pc := 15) (-1) dX10_end_15 rfl ?_
    cases h
    exact ex_ireturn (pc := 16) dX10_end_16
noncomputable def f_X10_end (x0 : Nat) (x1 : Int32) (M : Mem) : Option (Int32 × Mem) := if isOb M 10 x0 = true then f_X10_end_0 x0 x1 M else none
theorem o_X10_end {x0 : Nat} {x1 : Int32} {M : Mem} {res : Int32 × Mem} (h : f_X10_end x0 x1 M = some res) : isO M 10 x0 := by
  unfold f_X10_end at h
  split at h
  · rename_i hc; exact isOb_iff hc
  · cases h
set_option maxHeartbeats 4000000 in
theorem s_X10_end {X : XV} {d : Nat} (hd : 2 ≤ d) {x0 : Nat} {x1 : Int32} {M : Mem} {res : Int32 × Mem} (h : f_X10_end x0 x1 M = some res) : Mx X d mX10_end [.ref x0, .int x1] M (some (.int res.1)) res.2 := by
  obtain ⟨d, rfl⟩ : ∃ e, d = e + 1 := ⟨d - 1, by omega⟩
  unfold f_X10_end at h
  split at h
  rotate_left
  · cases h
  refine Mx.of (by decide) (Nat.le_of_ble_eq_true rfl) (⟨_, rfl, rfl⟩) ?_
  exact ex_sub (lo' := [(0, .ref x0), (1, .int x1)]) [0, 1] rfl (t_X10_end_0 hd _ _ _ _  h)
noncomputable def f_X10_fault_0 (x0 : Nat) (x1 : Int32) (M : Mem) : Option (Int32) :=
  if x1 = 0 then
  ((gR M 10 x0 3).bind fun v5 =>
  (gI M 2 v5 1).bind fun v6 =>
  some v6)
  else
  (if x1 = 1 then
  ((gR M 10 x0 3).bind fun v3 =>
  (gI M 2 v3 2).bind fun v4 =>
  some v4)
  else
  (some (-1)))
set_option maxHeartbeats 4000000 in
theorem t_X10_fault_0 {X : XV} {d : Nat} (hd : 1 ≤ d + 1) : ∀ (x0 : Nat) (x1 : Int32) (M : Mem) (res : Int32), f_X10_fault_0  x0 x1 M = some res → Ex X (d + 1) mX10_fault 0 [(0, .ref x0), (1, .int x1)] [] M (some (.int res)) M := by
  intro x0 x1 M res  h
  unfold f_X10_fault_0 at h
  refine ex_iload_n (pc := 0) 1 dX10_fault_0 rfl rfl ?_
  by_cases c1 : x1 = 0
  · rw [if_pos c1] at h
    refine ex_if_ne_f (pc := 1) dX10_fault_1 12 rfl c1 ?_
    refine ex_aload_n (pc := 4) 0 dX10_fault_4 rfl rfl ?_
    obtain ⟨v5, ev5, h⟩ := ob_some h
    refine ex_gR (pc := 5) ev5 dX10_fault_5 lfX10_31 ?_
    obtain ⟨v6, ev6, h⟩ := ob_some h
    refine ex_gI (pc := 8) ev6 dX10_fault_8 lfX10_112 ?_
    cases h
    exact ex_ireturn (pc := 11) dX10_fault_11
  · rw [if_neg c1] at h
    refine ex_if_ne_t (pc := 1) 12 dX10_fault_1 rfl c1 ?_
    refine ex_iload_n (pc := 12) 1 dX10_fault_12 rfl rfl ?_
    refine ex_iconst (pc := 13) 1 dX10_fault_13 rfl ?_
    by_cases c2 : x1 = 1
    · rw [if_pos c2] at h
      refine ex_icmp_ne_f (pc := 14) dX10_fault_14 27 rfl c2 ?_
      refine ex_aload_n (pc := 17) 0 dX10_fault_17 rfl rfl ?_
      obtain ⟨v3, ev3, h⟩ := ob_some h
      refine ex_gR (pc := 18) ev3 dX10_fault_18 lfX10_31 ?_
      obtain ⟨v4, ev4, h⟩ := ob_some h
      refine ex_gI (pc := 21) ev4 dX10_fault_21 lfX10_115 ?_
      refine ex_goto (pc := 24) 28 dX10_fault_24 rfl ?_
      cases h
      exact ex_ireturn (pc := 28) dX10_fault_28
    · rw [if_neg c2] at h
      refine ex_icmp_ne_t (pc := 14) 27 dX10_fault_14 rfl c2 ?_
      refine ex_iconst (pc := 27) (-1) dX10_fault_27 rfl ?_
      cases h
      exact ex_ireturn (pc := 28) dX10_fault_28
noncomputable def f_X10_fault (x0 : Nat) (x1 : Int32) (M : Mem) : Option (Int32) := if isOb M 10 x0 = true then f_X10_fault_0 x0 x1 M else none
theorem o_X10_fault {x0 : Nat} {x1 : Int32} {M : Mem} {res : Int32} (h : f_X10_fault x0 x1 M = some res) : isO M 10 x0 := by
  unfold f_X10_fault at h
  split at h
  · rename_i hc; exact isOb_iff hc
  · cases h
set_option maxHeartbeats 4000000 in
theorem s_X10_fault {X : XV} {d : Nat} (hd : 1 ≤ d) {x0 : Nat} {x1 : Int32} {M : Mem} {res : Int32} (h : f_X10_fault x0 x1 M = some res) : Mx X d mX10_fault [.ref x0, .int x1] M (some (.int res)) M := by
  obtain ⟨d, rfl⟩ : ∃ e, d = e + 1 := ⟨d - 1, by omega⟩
  unfold f_X10_fault at h
  split at h
  rotate_left
  · cases h
  refine Mx.of (by decide) (Nat.le_of_ble_eq_true rfl) (⟨_, rfl, rfl⟩) ?_
  exact ex_sub (lo' := [(0, .ref x0), (1, .int x1)]) [0, 1] rfl (t_X10_fault_0 hd _ _ _ _  h)
noncomputable def f_X10_by_0 (x0 : Nat) (x1 : Int32) (M : Mem) : Option (Bool × Mem) :=
  (gR M 10 x0 0).bind fun v1 =>
  (gI M 4 v1 5).bind fun v2 =>
  (f_X10_within x1 (-1) (v2 - 1)).bind fun v3 =>
  if v3 = true then
  ((gR M 10 x0 0).bind fun v5 =>
  (pF M 4 v5 6 (.int x1)).bind fun q6 =>
  some (true, q6))
  else
  (some (false, M))
set_option maxHeartbeats 4000000 in
theorem t_X10_by_0 {X : XV} {d : Nat} (hd : 2 ≤ d + 1) : ∀ (x0 : Nat) (x1 : Int32) (M : Mem) (res : Bool × Mem), f_X10_by_0  x0 x1 M = some res → Ex X (d + 1) mX10_by 0 [(0, .ref x0), (1, .int x1)] [] M (some (.int (jz res.1))) res.2 := by
  intro x0 x1 M res  h
  unfold f_X10_by_0 at h
  refine ex_iload_n (pc := 0) 1 dX10_by_0 rfl rfl ?_
  refine ex_iconst (pc := 1) (-1) dX10_by_1 rfl ?_
  refine ex_aload_n (pc := 2) 0 dX10_by_2 rfl rfl ?_
  obtain ⟨v1, ev1, h⟩ := ob_some h
  refine ex_gR (pc := 3) ev1 dX10_by_3 lfX10_10 ?_
  obtain ⟨v2, ev2, h⟩ := ob_some h
  refine ex_gI (pc := 6) ev2 dX10_by_6 lfX10_97 ?_
  refine ex_iconst (pc := 9) 1 dX10_by_9 rfl ?_
  refine ex_isub (pc := 10) dX10_by_10 ?_
  obtain ⟨v3, ev3, h⟩ := ob_some h
  refine ex_callS3r (pc := 11) dX10_by_11 jX10_within lmX10_70 jsX10_within (Nat.le_of_ble_eq_true rfl) (s_X10_within (by omega)  ev3) ?_
  by_cases c4 : v3 = true
  · rw [if_pos c4] at h
    refine ex_if_ne_t (pc := 14) 19 dX10_by_14 rfl (jz_ne_t c4) ?_
    refine ex_aload_n (pc := 19) 0 dX10_by_19 rfl rfl ?_
    obtain ⟨v5, ev5, h⟩ := ob_some h
    refine ex_gR (pc := 20) ev5 dX10_by_20 lfX10_10 ?_
    refine ex_iload_n (pc := 23) 1 dX10_by_23 rfl rfl ?_
    obtain ⟨q6, eq6, h⟩ := ob_some h
    refine ex_pF (pc := 24) eq6 dX10_by_24 lfX10_118 rfl rfl (fun _ hq => by cases hq; rfl) ?_
    refine ex_iconst (pc := 27) 1 dX10_by_27 rfl ?_
    cases h
    exact ex_ireturn (pc := 28) dX10_by_28
  · rw [if_neg c4] at h
    refine ex_if_ne_f (pc := 14) dX10_by_14 19 rfl (jz_ne_f c4) ?_
    refine ex_iconst (pc := 17) 0 dX10_by_17 rfl ?_
    cases h
    exact ex_ireturn (pc := 18) dX10_by_18
noncomputable def f_X10_by (x0 : Nat) (x1 : Int32) (M : Mem) : Option (Bool × Mem) := if isOb M 10 x0 = true then f_X10_by_0 x0 x1 M else none
theorem o_X10_by {x0 : Nat} {x1 : Int32} {M : Mem} {res : Bool × Mem} (h : f_X10_by x0 x1 M = some res) : isO M 10 x0 := by
  unfold f_X10_by at h
  split at h
  · rename_i hc; exact isOb_iff hc
  · cases h
set_option maxHeartbeats 4000000 in
theorem s_X10_by {X : XV} {d : Nat} (hd : 2 ≤ d) {x0 : Nat} {x1 : Int32} {M : Mem} {res : Bool × Mem} (h : f_X10_by x0 x1 M = some res) : Mx X d mX10_by [.ref x0, .int x1] M (some (.int (jz res.1))) res.2 := by
  obtain ⟨d, rfl⟩ : ∃ e, d = e + 1 := ⟨d - 1, by omega⟩
  unfold f_X10_by at h
  split at h
  rotate_left
  · cases h
  refine Mx.of (by decide) (Nat.le_of_ble_eq_true rfl) (⟨_, rfl, jz_nar _⟩) ?_
  exact ex_sub (lo' := [(0, .ref x0), (1, .int x1)]) [0, 1] rfl (t_X10_by_0 hd _ _ _ _  h)
noncomputable def f_X10_crank_0 (x0 : Nat) (x1 : Int32) (x2 : Int32) (M : Mem) : Option (Int32 × Mem) :=
  (f_X10_within x2 0 9999).bind fun v1 =>
  if v1 = false then
  (some ((-1), M))
  else
  ((gR M 10 x0 0).bind fun v3 =>
  (gR M 4 v3 0).bind fun v4 =>
  (f_X9_canTurn v4 x1 M).bind fun v5 =>
  if v5 = true then
  ((gR M 10 x0 0).bind fun v7 =>
  (f_X4_remember v7 M).bind fun q8 =>
  (gR q8 10 x0 0).bind fun v9 =>
  (gR q8 4 v9 0).bind fun v10 =>
  (f_X9_turn v10 x1 x2 q8).bind fun q11 =>
  (gR q11 10 x0 0).bind fun v12 =>
  (gR q11 4 v12 0).bind fun v13 =>
  (gR q11 9 v13 8).bind fun v14 =>
  (rI q11 v14 x1).bind fun v15 =>
  some (v15, q11))
  else
  (some ((-1), M)))
set_option maxHeartbeats 4000000 in
theorem t_X10_crank_0 {X : XV} {d : Nat} (hd : 4 ≤ d + 1) : ∀ (x0 : Nat) (x1 : Int32) (x2 : Int32) (M : Mem) (res : Int32 × Mem), f_X10_crank_0  x0 x1 x2 M = some res → Ex X (d + 1) mX10_crank 0 [(0, .ref x0), (1, .int x1), (2, .int x2)] [] M (some (.int res.1)) res.2 := by
  intro x0 x1 x2 M res  h
  unfold f_X10_crank_0 at h
  refine ex_iload_n (pc := 0) 2 dX10_crank_0 rfl rfl ?_
  refine ex_iconst (pc := 1) 0 dX10_crank_1 rfl ?_
  refine ex_sipush (pc := 2) 9999 dX10_crank_2 (by decide) ?_
  obtain ⟨v1, ev1, h⟩ := ob_some h
  refine ex_callS3r (pc := 5) dX10_crank_5 jX10_within lmX10_70 jsX10_within (Nat.le_of_ble_eq_true rfl) (s_X10_within (by omega)  ev1) ?_
  by_cases c2 : v1 = false
  · rw [if_pos c2] at h
    refine ex_if_eq_t (pc := 8) 25 dX10_crank_8 rfl (jz_eq_t c2) ?_
    refine ex_iconst (pc := 25) (-1) dX10_crank_25 rfl ?_
    cases h
    exact ex_ireturn (pc := 26) dX10_crank_26
  · rw [if_neg c2] at h
    refine ex_if_eq_f (pc := 8) dX10_crank_8 25 rfl (jz_eq_f c2) ?_
    refine ex_aload_n (pc := 11) 0 dX10_crank_11 rfl rfl ?_
    obtain ⟨v3, ev3, h⟩ := ob_some h
    refine ex_gR (pc := 12) ev3 dX10_crank_12 lfX10_10 ?_
    obtain ⟨v4, ev4, h⟩ := ob_some h
    refine ex_gR (pc := 15) ev4 dX10_crank_15 lfX10_74 ?_
    refine ex_iload_n (pc := 18) 1 dX10_crank_18 rfl rfl ?_
    obtain ⟨v5, ev5, h⟩ := ob_some h
    refine ex_callV1r (pc := 19) dX10_crank_19 jX9_canTurn lmX10_121 jiX9_canTurn jvX9_canTurn (o_X9_canTurn ev5) rfl (Nat.le_of_ble_eq_true rfl) (s_X9_canTurn (by omega)  ev5) ?_
    by_cases c6 : v5 = true
    · rw [if_pos c6] at h
      refine ex_if_ne_t (pc := 22) 27 dX10_crank_22 rfl (jz_ne_t c6) ?_
      refine ex_aload_n (pc := 27) 0 dX10_crank_27 rfl rfl ?_
      obtain ⟨v7, ev7, h⟩ := ob_some h
      refine ex_gR (pc := 28) ev7 dX10_crank_28 lfX10_10 ?_
      obtain ⟨q8, eq8, h⟩ := ob_some h
      refine ex_callV0v (pc := 31) dX10_crank_31 jX4_remember lmX10_125 jiX4_remember jvX4_remember (o_X4_remember eq8) rfl (Nat.le_of_ble_eq_true rfl) (s_X4_remember (by omega)  eq8) ?_
      refine ex_aload_n (pc := 34) 0 dX10_crank_34 rfl rfl ?_
      obtain ⟨v9, ev9, h⟩ := ob_some h
      refine ex_gR (pc := 35) ev9 dX10_crank_35 lfX10_10 ?_
      obtain ⟨v10, ev10, h⟩ := ob_some h
      refine ex_gR (pc := 38) ev10 dX10_crank_38 lfX10_74 ?_
      refine ex_iload_n (pc := 41) 1 dX10_crank_41 rfl rfl ?_
      refine ex_iload_n (pc := 42) 2 dX10_crank_42 rfl rfl ?_
      obtain ⟨q11, eq11, h⟩ := ob_some h
      refine ex_callV2v (pc := 43) dX10_crank_43 jX9_turn lmX10_128 jiX9_turn jvX9_turn (o_X9_turn eq11) rfl (Nat.le_of_ble_eq_true rfl) (s_X9_turn (by omega)  eq11) ?_
      refine ex_aload_n (pc := 46) 0 dX10_crank_46 rfl rfl ?_
      obtain ⟨v12, ev12, h⟩ := ob_some h
      refine ex_gR (pc := 47) ev12 dX10_crank_47 lfX10_10 ?_
      obtain ⟨v13, ev13, h⟩ := ob_some h
      refine ex_gR (pc := 50) ev13 dX10_crank_50 lfX10_74 ?_
      obtain ⟨v14, ev14, h⟩ := ob_some h
      refine ex_gR (pc := 53) ev14 dX10_crank_53 lfX10_132 ?_
      refine ex_iload_n (pc := 56) 1 dX10_crank_56 rfl rfl ?_
      obtain ⟨v15, ev15, h⟩ := ob_some h
      refine ex_rI (pc := 57) ev15 dX10_crank_57 ?_
      cases h
      exact ex_ireturn (pc := 58) dX10_crank_58
    · rw [if_neg c6] at h
      refine ex_if_ne_f (pc := 22) dX10_crank_22 27 rfl (jz_ne_f c6) ?_
      refine ex_iconst (pc := 25) (-1) dX10_crank_25 rfl ?_
      cases h
      exact ex_ireturn (pc := 26) dX10_crank_26
noncomputable def f_X10_crank (x0 : Nat) (x1 : Int32) (x2 : Int32) (M : Mem) : Option (Int32 × Mem) := if isOb M 10 x0 = true then f_X10_crank_0 x0 x1 x2 M else none
theorem o_X10_crank {x0 : Nat} {x1 : Int32} {x2 : Int32} {M : Mem} {res : Int32 × Mem} (h : f_X10_crank x0 x1 x2 M = some res) : isO M 10 x0 := by
  unfold f_X10_crank at h
  split at h
  · rename_i hc; exact isOb_iff hc
  · cases h
set_option maxHeartbeats 4000000 in
theorem s_X10_crank {X : XV} {d : Nat} (hd : 4 ≤ d) {x0 : Nat} {x1 : Int32} {x2 : Int32} {M : Mem} {res : Int32 × Mem} (h : f_X10_crank x0 x1 x2 M = some res) : Mx X d mX10_crank [.ref x0, .int x1, .int x2] M (some (.int res.1)) res.2 := by
  obtain ⟨d, rfl⟩ : ∃ e, d = e + 1 := ⟨d - 1, by omega⟩
  unfold f_X10_crank at h
  split at h
  rotate_left
  · cases h
  refine Mx.of (by decide) (Nat.le_of_ble_eq_true rfl) (⟨_, rfl, rfl⟩) ?_
  exact ex_sub (lo' := [(0, .ref x0), (1, .int x1), (2, .int x2)]) [0, 1, 2] rfl (t_X10_crank_0 hd _ _ _ _ _  h)
noncomputable def f_X10_oil_0 (x0 : Nat) (x1 : Int32) (x2 : Int32) (M : Mem) : Option (Bool × Mem) :=
  (f_X10_within x2 0 9).bind fun v1 =>
  if v1 = false then
  (some (false, M))
  else
  ((gR M 10 x0 0).bind fun v3 =>
  (gR M 4 v3 0).bind fun v4 =>
  (f_X9_has v4 x1 M).bind fun v5 =>
  if v5 = true then
  ((gR M 10 x0 0).bind fun v7 =>
  (f_X4_remember v7 M).bind fun q8 =>
  (gR q8 10 x0 0).bind fun v9 =>
  (gR q8 4 v9 0).bind fun v10 =>
  (gR q8 9 v10 7).bind fun v11 =>
  (wI q8 v11 x1 x2).bind fun q12 =>
  some (true, q12))
  else
  (some (false, M)))
set_option maxHeartbeats 4000000 in
theorem t_X10_oil_0 {X : XV} {d : Nat} (hd : 4 ≤ d + 1) : ∀ (x0 : Nat) (x1 : Int32) (x2 : Int32) (M : Mem) (res : Bool × Mem), f_X10_oil_0  x0 x1 x2 M = some res → Ex X (d + 1) mX10_oil 0 [(0, .ref x0), (1, .int x1), (2, .int x2)] [] M (some (.int (jz res.1))) res.2 := by
  intro x0 x1 x2 M res  h
  unfold f_X10_oil_0 at h
  refine ex_iload_n (pc := 0) 2 dX10_oil_0 rfl rfl ?_
  refine ex_iconst (pc := 1) 0 dX10_oil_1 rfl ?_
  refine ex_bipush (pc := 2) 9 dX10_oil_2 (by decide) ?_
  obtain ⟨v1, ev1, h⟩ := ob_some h
  refine ex_callS3r (pc := 4) dX10_oil_4 jX10_within lmX10_70 jsX10_within (Nat.le_of_ble_eq_true rfl) (s_X10_within (by omega)  ev1) ?_
  by_cases c2 : v1 = false
  · rw [if_pos c2] at h
    refine ex_if_eq_t (pc := 7) 24 dX10_oil_7 rfl (jz_eq_t c2) ?_
    refine ex_iconst (pc := 24) 0 dX10_oil_24 rfl ?_
    cases h
    exact ex_ireturn (pc := 25) dX10_oil_25
  · rw [if_neg c2] at h
    refine ex_if_eq_f (pc := 7) dX10_oil_7 24 rfl (jz_eq_f c2) ?_
    refine ex_aload_n (pc := 10) 0 dX10_oil_10 rfl rfl ?_
    obtain ⟨v3, ev3, h⟩ := ob_some h
    refine ex_gR (pc := 11) ev3 dX10_oil_11 lfX10_10 ?_
    obtain ⟨v4, ev4, h⟩ := ob_some h
    refine ex_gR (pc := 14) ev4 dX10_oil_14 lfX10_74 ?_
    refine ex_iload_n (pc := 17) 1 dX10_oil_17 rfl rfl ?_
    obtain ⟨v5, ev5, h⟩ := ob_some h
    refine ex_callV1r (pc := 18) dX10_oil_18 jX9_has lmX10_135 jiX9_has jvX9_has (o_X9_has ev5) rfl (Nat.le_of_ble_eq_true rfl) (s_X9_has (by omega)  ev5) ?_
    by_cases c6 : v5 = true
    · rw [if_pos c6] at h
      refine ex_if_ne_t (pc := 21) 26 dX10_oil_21 rfl (jz_ne_t c6) ?_
      refine ex_aload_n (pc := 26) 0 dX10_oil_26 rfl rfl ?_
      obtain ⟨v7, ev7, h⟩ := ob_some h
      refine ex_gR (pc := 27) ev7 dX10_oil_27 lfX10_10 ?_
      obtain ⟨q8, eq8, h⟩ := ob_some h
      refine ex_callV0v (pc := 30) dX10_oil_30 jX4_remember lmX10_125 jiX4_remember jvX4_remember (o_X4_remember eq8) rfl (Nat.le_of_ble_eq_true rfl) (s_X4_remember (by omega)  eq8) ?_
      refine ex_aload_n (pc := 33) 0 dX10_oil_33 rfl rfl ?_
      obtain ⟨v9, ev9, h⟩ := ob_some h
      refine ex_gR (pc := 34) ev9 dX10_oil_34 lfX10_10 ?_
      obtain ⟨v10, ev10, h⟩ := ob_some h
      refine ex_gR (pc := 37) ev10 dX10_oil_37 lfX10_74 ?_
      obtain ⟨v11, ev11, h⟩ := ob_some h
      refine ex_gR (pc := 40) ev11 dX10_oil_40 lfX10_138 ?_
      refine ex_iload_n (pc := 43) 1 dX10_oil_43 rfl rfl ?_
      refine ex_iload_n (pc := 44) 2 dX10_oil_44 rfl rfl ?_
      obtain ⟨q12, eq12, h⟩ := ob_some h
      refine ex_wI (pc := 45) eq12 dX10_oil_45 ?_
      refine ex_iconst (pc := 46) 1 dX10_oil_46 rfl ?_
      cases h
      exact ex_ireturn (pc := 47) dX10_oil_47
    · rw [if_neg c6] at h
      refine ex_if_ne_f (pc := 21) dX10_oil_21 26 rfl (jz_ne_f c6) ?_
      refine ex_iconst (pc := 24) 0 dX10_oil_24 rfl ?_
      cases h
      exact ex_ireturn (pc := 25) dX10_oil_25
noncomputable def f_X10_oil (x0 : Nat) (x1 : Int32) (x2 : Int32) (M : Mem) : Option (Bool × Mem) := if isOb M 10 x0 = true then f_X10_oil_0 x0 x1 x2 M else none
theorem o_X10_oil {x0 : Nat} {x1 : Int32} {x2 : Int32} {M : Mem} {res : Bool × Mem} (h : f_X10_oil x0 x1 x2 M = some res) : isO M 10 x0 := by
  unfold f_X10_oil at h
  split at h
  · rename_i hc; exact isOb_iff hc
  · cases h
set_option maxHeartbeats 4000000 in
theorem s_X10_oil {X : XV} {d : Nat} (hd : 4 ≤ d) {x0 : Nat} {x1 : Int32} {x2 : Int32} {M : Mem} {res : Bool × Mem} (h : f_X10_oil x0 x1 x2 M = some res) : Mx X d mX10_oil [.ref x0, .int x1, .int x2] M (some (.int (jz res.1))) res.2 := by
  obtain ⟨d, rfl⟩ : ∃ e, d = e + 1 := ⟨d - 1, by omega⟩
  unfold f_X10_oil at h
  split at h
  rotate_left
  · cases h
  refine Mx.of (by decide) (Nat.le_of_ble_eq_true rfl) (⟨_, rfl, jz_nar _⟩) ?_
  exact ex_sub (lo' := [(0, .ref x0), (1, .int x1), (2, .int x2)]) [0, 1, 2] rfl (t_X10_oil_0 hd _ _ _ _ _  h)
noncomputable def f_X10_lift_0 (x0 : Nat) (x1 : Int32) (M : Mem) : Option (Bool × Mem) :=
  (gR M 10 x0 0).bind fun v1 =>
  (gR M 4 v1 0).bind fun v2 =>
  (f_X9_hasRoll v2 x1 M).bind fun v3 =>
  if v3 = true then
  ((gR M 10 x0 0).bind fun v5 =>
  (f_X4_remember v5 M).bind fun q6 =>
  (gR q6 10 x0 0).bind fun v7 =>
  (gR q6 4 v7 0).bind fun v8 =>
  (gR q6 9 v8 9).bind fun v9 =>
  (wI q6 v9 x1 0).bind fun q10 =>
  some (true, q10))
  else
  (some (false, M))
set_option maxHeartbeats 4000000 in
theorem t_X10_lift_0 {X : XV} {d : Nat} (hd : 4 ≤ d + 1) : ∀ (x0 : Nat) (x1 : Int32) (M : Mem) (res : Bool × Mem), f_X10_lift_0  x0 x1 M = some res → Ex X (d + 1) mX10_lift 0 [(0, .ref x0), (1, .int x1)] [] M (some (.int (jz res.1))) res.2 := by
  intro x0 x1 M res  h
  unfold f_X10_lift_0 at h
  refine ex_aload_n (pc := 0) 0 dX10_lift_0 rfl rfl ?_
  obtain ⟨v1, ev1, h⟩ := ob_some h
  refine ex_gR (pc := 1) ev1 dX10_lift_1 lfX10_10 ?_
  obtain ⟨v2, ev2, h⟩ := ob_some h
  refine ex_gR (pc := 4) ev2 dX10_lift_4 lfX10_74 ?_
  refine ex_iload_n (pc := 7) 1 dX10_lift_7 rfl rfl ?_
  obtain ⟨v3, ev3, h⟩ := ob_some h
  refine ex_callV1r (pc := 8) dX10_lift_8 jX9_hasRoll lmX10_141 jiX9_hasRoll jvX9_hasRoll (o_X9_hasRoll ev3) rfl (Nat.le_of_ble_eq_true rfl) (s_X9_hasRoll (by omega)  ev3) ?_
  by_cases c4 : v3 = true
  · rw [if_pos c4] at h
    refine ex_if_ne_t (pc := 11) 16 dX10_lift_11 rfl (jz_ne_t c4) ?_
    refine ex_aload_n (pc := 16) 0 dX10_lift_16 rfl rfl ?_
    obtain ⟨v5, ev5, h⟩ := ob_some h
    refine ex_gR (pc := 17) ev5 dX10_lift_17 lfX10_10 ?_
    obtain ⟨q6, eq6, h⟩ := ob_some h
    refine ex_callV0v (pc := 20) dX10_lift_20 jX4_remember lmX10_125 jiX4_remember jvX4_remember (o_X4_remember eq6) rfl (Nat.le_of_ble_eq_true rfl) (s_X4_remember (by omega)  eq6) ?_
    refine ex_aload_n (pc := 23) 0 dX10_lift_23 rfl rfl ?_
    obtain ⟨v7, ev7, h⟩ := ob_some h
    refine ex_gR (pc := 24) ev7 dX10_lift_24 lfX10_10 ?_
    obtain ⟨v8, ev8, h⟩ := ob_some h
    refine ex_gR (pc := 27) ev8 dX10_lift_27 lfX10_74 ?_
    obtain ⟨v9, ev9, h⟩ := ob_some h
    refine ex_gR (pc := 30) ev9 dX10_lift_30 lfX10_144 ?_
    refine ex_iload_n (pc := 33) 1 dX10_lift_33 rfl rfl ?_
    refine ex_iconst (pc := 34) 0 dX10_lift_34 rfl ?_
    obtain ⟨q10, eq10, h⟩ := ob_some h
    refine ex_wI (pc := 35) eq10 dX10_lift_35 ?_
    refine ex_iconst (pc := 36) 1 dX10_lift_36 rfl ?_
    cases h
    exact ex_ireturn (pc := 37) dX10_lift_37
  · rw [if_neg c4] at h
    refine ex_if_ne_f (pc := 11) dX10_lift_11 16 rfl (jz_ne_f c4) ?_
    refine ex_iconst (pc := 14) 0 dX10_lift_14 rfl ?_
    cases h
    exact ex_ireturn (pc := 15) dX10_lift_15
noncomputable def f_X10_lift (x0 : Nat) (x1 : Int32) (M : Mem) : Option (Bool × Mem) := if isOb M 10 x0 = true then f_X10_lift_0 x0 x1 M else none
theorem o_X10_lift {x0 : Nat} {x1 : Int32} {M : Mem} {res : Bool × Mem} (h : f_X10_lift x0 x1 M = some res) : isO M 10 x0 := by
  unfold f_X10_lift at h
  split at h
  · rename_i hc; exact isOb_iff hc
  · cases h
set_option maxHeartbeats 4000000 in
theorem s_X10_lift {X : XV} {d : Nat} (hd : 4 ≤ d) {x0 : Nat} {x1 : Int32} {M : Mem} {res : Bool × Mem} (h : f_X10_lift x0 x1 M = some res) : Mx X d mX10_lift [.ref x0, .int x1] M (some (.int (jz res.1))) res.2 := by
  obtain ⟨d, rfl⟩ : ∃ e, d = e + 1 := ⟨d - 1, by omega⟩
  unfold f_X10_lift at h
  split at h
  rotate_left
  · cases h
  refine Mx.of (by decide) (Nat.le_of_ble_eq_true rfl) (⟨_, rfl, jz_nar _⟩) ?_
  exact ex_sub (lo' := [(0, .ref x0), (1, .int x1)]) [0, 1] rfl (t_X10_lift_0 hd _ _ _ _  h)
noncomputable def f_X10_passNights_24 (n0 : Nat) (x0 : Nat) (x2 : Int32) (x3 : Int32) (x4 : Int32) (M : Mem) : Option (Int32 × Mem) :=
  match n0 with
  | 0 => none
  | n + 1 =>
    if x3 ≤ x4 then
    (some (x2, M))
    else
    ((gR M 10 x0 0).bind fun v2 =>
    (f_X4_remember v2 M).bind fun q3 =>
    (gR q3 10 x0 4).bind fun v4 =>
    (gR q3 10 x0 0).bind fun v5 =>
    (gR q3 4 v5 0).bind fun v6 =>
    (gR q3 10 x0 0).bind fun v7 =>
    (gR q3 4 v7 7).bind fun v8 =>
    (gR q3 10 x0 0).bind fun v9 =>
    (f_X4_theText v9 q3).bind fun v10 =>
    (f_X0_pass v4 v6 v8 v10 q3).bind fun q11 =>
    f_X10_passNights_24 n x0 (x2 + q11.1) x3 (x4 + 1) q11.2)
set_option maxHeartbeats 4000000 in
theorem t_X10_passNights_24 {X : XV} {d : Nat} (hd : 6 ≤ d + 1) : ∀ (n : Nat) (x0 : Nat) (x2 : Int32) (x3 : Int32) (x4 : Int32) (M : Mem) (res : Int32 × Mem), f_X10_passNights_24 n  x0 x2 x3 x4 M = some res → Ex X (d + 1) mX10_passNights 24 [(0, .ref x0), (2, .int x2), (3, .int x3), (4, .int x4)] [] M (some (.int res.1)) res.2 := by
  intro n
  induction n with
  | zero =>
    intro x0 x2 x3 x4 M res  h
    unfold f_X10_passNights_24 at h
    cases h
  | succ n ih =>
    intro x0 x2 x3 x4 M res  h
    unfold f_X10_passNights_24 at h
    refine ex_iload (pc := 24) 3 dX10_passNights_24 rfl ?_
    refine ex_iload_n (pc := 26) 2 dX10_passNights_26 rfl rfl ?_
    by_cases c1 : x3 ≤ x4
    · rw [if_pos c1] at h
      refine ex_icmp_ge_t (pc := 27) 74 dX10_passNights_27 rfl c1 ?_
      refine ex_iload_n (pc := 74) 1 dX10_passNights_74 rfl rfl ?_
      cases h
      exact ex_ireturn (pc := 75) dX10_passNights_75
    · rw [if_neg c1] at h
      refine ex_icmp_ge_f (pc := 27) dX10_passNights_27 74 rfl c1 ?_
      refine ex_aload_n (pc := 30) 0 dX10_passNights_30 rfl rfl ?_
      obtain ⟨v2, ev2, h⟩ := ob_some h
      refine ex_gR (pc := 31) ev2 dX10_passNights_31 lfX10_10 ?_
      obtain ⟨q3, eq3, h⟩ := ob_some h
      refine ex_callV0v (pc := 34) dX10_passNights_34 jX4_remember lmX10_125 jiX4_remember jvX4_remember (o_X4_remember eq3) rfl (Nat.le_of_ble_eq_true rfl) (s_X4_remember (by omega)  eq3) ?_
      refine ex_iload_n (pc := 37) 1 dX10_passNights_37 rfl rfl ?_
      refine ex_aload_n (pc := 38) 0 dX10_passNights_38 rfl rfl ?_
      obtain ⟨v4, ev4, h⟩ := ob_some h
      refine ex_gR (pc := 39) ev4 dX10_passNights_39 lfX10_38 ?_
      refine ex_aload_n (pc := 42) 0 dX10_passNights_42 rfl rfl ?_
      obtain ⟨v5, ev5, h⟩ := ob_some h
      refine ex_gR (pc := 43) ev5 dX10_passNights_43 lfX10_10 ?_
      obtain ⟨v6, ev6, h⟩ := ob_some h
      refine ex_gR (pc := 46) ev6 dX10_passNights_46 lfX10_74 ?_
      refine ex_aload_n (pc := 49) 0 dX10_passNights_49 rfl rfl ?_
      obtain ⟨v7, ev7, h⟩ := ob_some h
      refine ex_gR (pc := 50) ev7 dX10_passNights_50 lfX10_10 ?_
      obtain ⟨v8, ev8, h⟩ := ob_some h
      refine ex_gR (pc := 53) ev8 dX10_passNights_53 lfX10_81 ?_
      refine ex_aload_n (pc := 56) 0 dX10_passNights_56 rfl rfl ?_
      obtain ⟨v9, ev9, h⟩ := ob_some h
      refine ex_gR (pc := 57) ev9 dX10_passNights_57 lfX10_10 ?_
      obtain ⟨v10, ev10, h⟩ := ob_some h
      refine ex_callV0r (pc := 60) dX10_passNights_60 jX4_theText lmX10_169 jiX4_theText jvX4_theText (o_X4_theText ev10) rfl (Nat.le_of_ble_eq_true rfl) (s_X4_theText (by omega)  ev10) ?_
      obtain ⟨q11, eq11, h⟩ := ob_some h
      refine ex_callV3r (pc := 63) dX10_passNights_63 jX0_pass lmX10_172 jiX0_pass jvX0_pass (o_X0_pass eq11) rfl (Nat.le_of_ble_eq_true rfl) (s_X0_pass (by omega)  eq11) ?_
      refine ex_iadd (pc := 66) dX10_passNights_66 ?_
      refine ex_istore_n (pc := 67) [(2, .int (x2 + q11.1)), (0, .ref x0), (3, .int x3), (4, .int x4)] dX10_passNights_67 rfl (by decide) rfl ?_
      refine ex_iinc (pc := 68) (x4 + 1) 3 [(4, .int (x4 + 1)), (2, .int (x2 + q11.1)), (0, .ref x0), (3, .int x3)] dX10_passNights_68 rfl rfl (by decide) rfl ?_
      refine ex_goto (pc := 71) 24 dX10_passNights_71 rfl ?_
      refine ex_sub (lo' := [(0, .ref x0), (2, .int (x2 + q11.1)), (3, .int x3), (4, .int (x4 + 1))]) [2, 1, 3, 0] rfl ?_
      exact ih _ _ _ _ _ _  h
noncomputable def f_X10_passNights_0 (x0 : Nat) (x1 : Int32) (M : Mem) : Option (Int32 × Mem) :=
  (gR M 10 x0 0).bind fun v12 =>
  (gR M 4 v12 0).bind fun v13 =>
  (gI M 9 v13 1).bind fun v14 =>
  f_X10_passNights_24 fu x0 0 (jmin x1 (9999 - v14)) 0 M
set_option maxHeartbeats 4000000 in
theorem t_X10_passNights_0 {X : XV} {d : Nat} (hd : 6 ≤ d + 1) : ∀ (x0 : Nat) (x1 : Int32) (M : Mem) (res : Int32 × Mem), f_X10_passNights_0  x0 x1 M = some res → Ex X (d + 1) mX10_passNights 0 [(0, .ref x0), (1, .int x1)] [] M (some (.int res.1)) res.2 := by
  intro x0 x1 M res  h
  unfold f_X10_passNights_0 at h
  refine ex_iconst (pc := 0) 0 dX10_passNights_0 rfl ?_
  refine ex_istore_n (pc := 1) [(2, .int 0), (0, .ref x0), (1, .int x1)] dX10_passNights_1 rfl (by decide) rfl ?_
  refine ex_iload_n (pc := 2) 2 dX10_passNights_2 rfl rfl ?_
  refine ex_sipush (pc := 3) 9999 dX10_passNights_3 (by decide) ?_
  refine ex_aload_n (pc := 6) 1 dX10_passNights_6 rfl rfl ?_
  obtain ⟨v12, ev12, h⟩ := ob_some h
  refine ex_gR (pc := 7) ev12 dX10_passNights_7 lfX10_10 ?_
  obtain ⟨v13, ev13, h⟩ := ob_some h
  refine ex_gR (pc := 10) ev13 dX10_passNights_10 lfX10_74 ?_
  obtain ⟨v14, ev14, h⟩ := ob_some h
  refine ex_gI (pc := 13) ev14 dX10_passNights_13 lfX10_147 ?_
  refine ex_isub (pc := 16) dX10_passNights_16 ?_
  refine ex_mmin (pc := 17) dX10_passNights_17 lmX10_217 (by omega) (Nat.le_of_ble_eq_true rfl) ?_
  refine ex_istore_n (pc := 20) [(3, .int (jmin x1 (9999 - v14))), (2, .int 0), (0, .ref x0), (1, .int x1)] dX10_passNights_20 rfl (by decide) rfl ?_
  refine ex_iconst (pc := 21) 0 dX10_passNights_21 rfl ?_
  refine ex_istore (pc := 22) [(4, .int 0), (3, .int (jmin x1 (9999 - v14))), (2, .int 0), (0, .ref x0), (1, .int x1)] dX10_passNights_22 (by decide) rfl ?_
  refine ex_sub (lo' := [(0, .ref x0), (2, .int 0), (3, .int (jmin x1 (9999 - v14))), (4, .int 0)]) [3, 2, 1, 0] rfl ?_
  exact t_X10_passNights_24 hd  _ _ _ _ _ _ _  h
noncomputable def f_X10_passNights (x0 : Nat) (x1 : Int32) (M : Mem) : Option (Int32 × Mem) := if isOb M 10 x0 = true then f_X10_passNights_0 x0 x1 M else none
theorem o_X10_passNights {x0 : Nat} {x1 : Int32} {M : Mem} {res : Int32 × Mem} (h : f_X10_passNights x0 x1 M = some res) : isO M 10 x0 := by
  unfold f_X10_passNights at h
  split at h
  · rename_i hc; exact isOb_iff hc
  · cases h
set_option maxHeartbeats 4000000 in
theorem s_X10_passNights {X : XV} {d : Nat} (hd : 6 ≤ d) {x0 : Nat} {x1 : Int32} {M : Mem} {res : Int32 × Mem} (h : f_X10_passNights x0 x1 M = some res) : Mx X d mX10_passNights [.ref x0, .int x1] M (some (.int res.1)) res.2 := by
  obtain ⟨d, rfl⟩ : ∃ e, d = e + 1 := ⟨d - 1, by omega⟩
  unfold f_X10_passNights at h
  split at h
  rotate_left
  · cases h
  refine Mx.of (by decide) (Nat.le_of_ble_eq_true rfl) (⟨_, rfl, rfl⟩) ?_
  exact ex_sub (lo' := [(0, .ref x0), (1, .int x1)]) [0, 1] rfl (t_X10_passNights_0 hd _ _ _ _  h)
noncomputable def f_X10_night_0 (x0 : Nat) (x1 : Int32) (M : Mem) : Option (Int32 × Mem) :=
  (f_X10_within x1 1 60).bind fun v1 =>
  if v1 = false then
  (some ((-1), M))
  else
  ((gR M 10 x0 0).bind fun v3 =>
  (gR M 4 v3 0).bind fun v4 =>
  (gI M 9 v4 1).bind fun v5 =>
  if x1 ≤ (9999 - v5) then
  ((f_X10_passNights x0 x1 M).bind fun q7 =>
  some (q7.1, q7.2))
  else
  (some ((-1), M)))
set_option maxHeartbeats 4000000 in
theorem t_X10_night_0 {X : XV} {d : Nat} (hd : 7 ≤ d + 1) : ∀ (x0 : Nat) (x1 : Int32) (M : Mem) (res : Int32 × Mem), f_X10_night_0  x0 x1 M = some res → Ex X (d + 1) mX10_night 0 [(0, .ref x0), (1, .int x1)] [] M (some (.int res.1)) res.2 := by
  intro x0 x1 M res  h
  unfold f_X10_night_0 at h
  refine ex_iload_n (pc := 0) 1 dX10_night_0 rfl rfl ?_
  refine ex_iconst (pc := 1) 1 dX10_night_1 rfl ?_
  refine ex_bipush (pc := 2) 60 dX10_night_2 (by decide) ?_
  obtain ⟨v1, ev1, h⟩ := ob_some h
  refine ex_callS3r (pc := 4) dX10_night_4 jX10_within lmX10_70 jsX10_within (Nat.le_of_ble_eq_true rfl) (s_X10_within (by omega)  ev1) ?_
  by_cases c2 : v1 = false
  · rw [if_pos c2] at h
    refine ex_if_eq_t (pc := 7) 28 dX10_night_7 rfl (jz_eq_t c2) ?_
    refine ex_iconst (pc := 28) (-1) dX10_night_28 rfl ?_
    cases h
    exact ex_ireturn (pc := 29) dX10_night_29
  · rw [if_neg c2] at h
    refine ex_if_eq_f (pc := 7) dX10_night_7 28 rfl (jz_eq_f c2) ?_
    refine ex_iload_n (pc := 10) 1 dX10_night_10 rfl rfl ?_
    refine ex_sipush (pc := 11) 9999 dX10_night_11 (by decide) ?_
    refine ex_aload_n (pc := 14) 0 dX10_night_14 rfl rfl ?_
    obtain ⟨v3, ev3, h⟩ := ob_some h
    refine ex_gR (pc := 15) ev3 dX10_night_15 lfX10_10 ?_
    obtain ⟨v4, ev4, h⟩ := ob_some h
    refine ex_gR (pc := 18) ev4 dX10_night_18 lfX10_74 ?_
    obtain ⟨v5, ev5, h⟩ := ob_some h
    refine ex_gI (pc := 21) ev5 dX10_night_21 lfX10_147 ?_
    refine ex_isub (pc := 24) dX10_night_24 ?_
    by_cases c6 : x1 ≤ (9999 - v5)
    · rw [if_pos c6] at h
      refine ex_icmp_le_t (pc := 25) 30 dX10_night_25 rfl c6 ?_
      refine ex_aload_n (pc := 30) 0 dX10_night_30 rfl rfl ?_
      refine ex_iload_n (pc := 31) 1 dX10_night_31 rfl rfl ?_
      obtain ⟨q7, eq7, h⟩ := ob_some h
      refine ex_callV1r (pc := 32) dX10_night_32 jX10_passNights lmX10_150 jiX10_passNights jvX10_passNights (o_X10_passNights eq7) rfl (Nat.le_of_ble_eq_true rfl) (s_X10_passNights (by omega)  eq7) ?_
      cases h
      exact ex_ireturn (pc := 35) dX10_night_35
    · rw [if_neg c6] at h
      refine ex_icmp_le_f (pc := 25) dX10_night_25 30 rfl c6 ?_
      refine ex_iconst (pc := 28) (-1) dX10_night_28 rfl ?_
      cases h
      exact ex_ireturn (pc := 29) dX10_night_29
noncomputable def f_X10_night (x0 : Nat) (x1 : Int32) (M : Mem) : Option (Int32 × Mem) := if isOb M 10 x0 = true then f_X10_night_0 x0 x1 M else none
theorem o_X10_night {x0 : Nat} {x1 : Int32} {M : Mem} {res : Int32 × Mem} (h : f_X10_night x0 x1 M = some res) : isO M 10 x0 := by
  unfold f_X10_night at h
  split at h
  · rename_i hc; exact isOb_iff hc
  · cases h
set_option maxHeartbeats 4000000 in
theorem s_X10_night {X : XV} {d : Nat} (hd : 7 ≤ d) {x0 : Nat} {x1 : Int32} {M : Mem} {res : Int32 × Mem} (h : f_X10_night x0 x1 M = some res) : Mx X d mX10_night [.ref x0, .int x1] M (some (.int res.1)) res.2 := by
  obtain ⟨d, rfl⟩ : ∃ e, d = e + 1 := ⟨d - 1, by omega⟩
  unfold f_X10_night at h
  split at h
  rotate_left
  · cases h
  refine Mx.of (by decide) (Nat.le_of_ble_eq_true rfl) (⟨_, rfl, rfl⟩) ?_
  exact ex_sub (lo' := [(0, .ref x0), (1, .int x1)]) [0, 1] rfl (t_X10_night_0 hd _ _ _ _  h)
noncomputable def f_X10_playClause_0 (x0 : Nat) (x1 : Option Nat) (x2 : Int32) (M : Mem) : Option (Bool × Mem) :=
  (x1).bind fun t1 =>
  (f_X8_clausePart t1 x2 1 M).bind fun v2 =>
  (f_X8_clausePart t1 x2 2 M).bind fun v3 =>
  (gR M 10 x0 0).bind fun v4 =>
  (gR M 4 v4 0).bind fun v5 =>
  (gI M 9 v5 1).bind fun v6 =>
  (f_X8_clausePart t1 x2 0 M).bind fun v7 =>
  if v7 = 3 then
  ((f_X10_machine x0 v2 v3 M).bind fun q9 =>
  if q9.1 = (-1) then
  (some (false, q9.2))
  else
  (some (true, q9.2)))
  else
  (if v7 = 4 then
  ((f_X10_rule x0 v2 false v3 M).bind fun q12 =>
  some (q12.1, q12.2))
  else
  (if v7 = 5 then
  ((f_X10_rule x0 v2 true v3 M).bind fun q14 =>
  some (q14.1, q14.2))
  else
  (if v7 = 6 then
  ((f_X10_crank x0 v3 v2 M).bind fun q16 =>
  if q16.1 = (-1) then
  (some (false, q16.2))
  else
  (some (true, q16.2)))
  else
  (if v7 = 7 then
  ((f_X10_lift x0 v2 M).bind fun q19 =>
  some (q19.1, q19.2))
  else
  (if v7 = 8 then
  ((f_X10_oil x0 v2 v3 M).bind fun q21 =>
  some (q21.1, q21.2))
  else
  (if v7 = 9 then
  ((f_X10_passNights x0 v2 M).bind fun q23 =>
  (gR q23.2 10 x0 0).bind fun v24 =>
  (gR q23.2 4 v24 0).bind fun v25 =>
  (gI q23.2 9 v25 1).bind fun v26 =>
  if (v26 - v6) = v2 then
  (some (true, q23.2))
  else
  (some (false, q23.2)))
  else
  (some (true, M))))))))
set_option maxHeartbeats 4000000 in
theorem t_X10_playClause_0 {X : XV} {d : Nat} (hd : 7 ≤ d + 1) : ∀ (x0 : Nat) (x1 : Option Nat) (x2 : Int32) (M : Mem) (res : Bool × Mem), f_X10_playClause_0  x0 x1 x2 M = some res → Ex X (d + 1) mX10_playClause 0 [(0, .ref x0), (1, va_rf x1), (2, .int x2)] [] M (some (.int (jz res.1))) res.2 := by
  intro x0 x1 x2 M res  h
  unfold f_X10_playClause_0 at h
  refine ex_aloadq_n (pc := 0) 1 dX10_playClause_0 rfl rfl ?_
  refine ex_iload_n (pc := 1) 2 dX10_playClause_1 rfl rfl ?_
  refine ex_iconst (pc := 2) 1 dX10_playClause_2 rfl ?_
  obtain ⟨t1, et1, h⟩ := ob_some h
  rw [et1]
  obtain ⟨v2, ev2, h⟩ := ob_some h
  refine ex_callV2r (pc := 3) dX10_playClause_3 jX8_clausePart lmX10_347 jiX8_clausePart jvX8_clausePart (o_X8_clausePart ev2) rfl (Nat.le_of_ble_eq_true rfl) (s_X8_clausePart (by omega)  ev2) ?_
  refine ex_istore_n (pc := 6) [(3, .int v2), (0, .ref x0), (1, .ref t1), (2, .int x2)] dX10_playClause_6 rfl (by decide) rfl ?_
  refine ex_aload_n (pc := 7) 2 dX10_playClause_7 rfl rfl ?_
  refine ex_iload_n (pc := 8) 3 dX10_playClause_8 rfl rfl ?_
  refine ex_iconst (pc := 9) 2 dX10_playClause_9 rfl ?_
  obtain ⟨v3, ev3, h⟩ := ob_some h
  refine ex_callV2r (pc := 10) dX10_playClause_10 jX8_clausePart lmX10_347 jiX8_clausePart jvX8_clausePart (o_X8_clausePart ev3) rfl (Nat.le_of_ble_eq_true rfl) (s_X8_clausePart (by omega)  ev3) ?_
  refine ex_istore (pc := 13) [(4, .int v3), (3, .int v2), (0, .ref x0), (1, .ref t1), (2, .int x2)] dX10_playClause_13 (by decide) rfl ?_
  refine ex_aload_n (pc := 15) 2 dX10_playClause_15 rfl rfl ?_
  obtain ⟨v4, ev4, h⟩ := ob_some h
  refine ex_gR (pc := 16) ev4 dX10_playClause_16 lfX10_10 ?_
  obtain ⟨v5, ev5, h⟩ := ob_some h
  refine ex_gR (pc := 19) ev5 dX10_playClause_19 lfX10_74 ?_
  obtain ⟨v6, ev6, h⟩ := ob_some h
  refine ex_gI (pc := 22) ev6 dX10_playClause_22 lfX10_147 ?_
  refine ex_istore (pc := 25) [(5, .int v6), (4, .int v3), (3, .int v2), (0, .ref x0), (1, .ref t1), (2, .int x2)] dX10_playClause_25 (by decide) rfl ?_
  refine ex_aload_n (pc := 27) 4 dX10_playClause_27 rfl rfl ?_
  refine ex_iload_n (pc := 28) 5 dX10_playClause_28 rfl rfl ?_
  refine ex_iconst (pc := 29) 0 dX10_playClause_29 rfl ?_
  obtain ⟨v7, ev7, h⟩ := ob_some h
  refine ex_callV2r (pc := 30) dX10_playClause_30 jX8_clausePart lmX10_347 jiX8_clausePart jvX8_clausePart (o_X8_clausePart ev7) rfl (Nat.le_of_ble_eq_true rfl) (s_X8_clausePart (by omega)  ev7) ?_
  by_cases c8 : v7 = 3
  · rw [if_pos c8] at h
    refine ex_tabIn (pc := 33) 76 dX10_playClause_33 (by rw [c8]; decide) (by rw [c8]; decide) (by rw [c8]; rfl) rfl ?_
    refine ex_aload_n (pc := 76) 3 dX10_playClause_76 rfl rfl ?_
    refine ex_iload_n (pc := 77) 2 dX10_playClause_77 rfl rfl ?_
    refine ex_iload (pc := 78) 1 dX10_playClause_78 rfl ?_
    obtain ⟨q9, eq9, h⟩ := ob_some h
    refine ex_callV2r (pc := 80) dX10_playClause_80 jX10_machine lmX10_350 jiX10_machine jvX10_machine (o_X10_machine eq9) rfl (Nat.le_of_ble_eq_true rfl) (s_X10_machine (by omega)  eq9) ?_
    refine ex_iconst (pc := 83) (-1) dX10_playClause_83 rfl ?_
    by_cases c10 : q9.1 = (-1)
    · rw [if_pos c10] at h
      refine ex_icmp_eq_t (pc := 84) 91 dX10_playClause_84 rfl c10 ?_
      refine ex_iconst (pc := 91) 0 dX10_playClause_91 rfl ?_
      cases h
      exact ex_ireturn (pc := 92) dX10_playClause_92
    · rw [if_neg c10] at h
      refine ex_icmp_eq_f (pc := 84) dX10_playClause_84 91 rfl c10 ?_
      refine ex_iconst (pc := 87) 1 dX10_playClause_87 rfl ?_
      refine ex_goto (pc := 88) 92 dX10_playClause_88 rfl ?_
      cases h
      exact ex_ireturn (pc := 92) dX10_playClause_92
  · rw [if_neg c8] at h
    by_cases c11 : v7 = 4
    · rw [if_pos c11] at h
      refine ex_tabIn (pc := 33) 93 dX10_playClause_33 (by rw [c11]; decide) (by rw [c11]; decide) (by rw [c11]; rfl) rfl ?_
      refine ex_aload_n (pc := 93) 3 dX10_playClause_93 rfl rfl ?_
      refine ex_iload_n (pc := 94) 2 dX10_playClause_94 rfl rfl ?_
      refine ex_iconst (pc := 95) 0 dX10_playClause_95 rfl ?_
      refine ex_iload (pc := 96) 1 dX10_playClause_96 rfl ?_
      obtain ⟨q12, eq12, h⟩ := ob_some h
      refine ex_callV3r (pc := 98) dX10_playClause_98 jX10_rule lmX10_353 jiX10_rule jvX10_rule (o_X10_rule eq12) rfl (Nat.le_of_ble_eq_true rfl) (s_X10_rule (by omega)  eq12) ?_
      cases h
      exact ex_ireturn (pc := 101) dX10_playClause_101
    · rw [if_neg c11] at h
      by_cases c13 : v7 = 5
      · rw [if_pos c13] at h
        refine ex_tabIn (pc := 33) 102 dX10_playClause_33 (by rw [c13]; decide) (by rw [c13]; decide) (by rw [c13]; rfl) rfl ?_
        refine ex_aload_n (pc := 102) 3 dX10_playClause_102 rfl rfl ?_
        refine ex_iload_n (pc := 103) 2 dX10_playClause_103 rfl rfl ?_
        refine ex_iconst (pc := 104) 1 dX10_playClause_104 rfl ?_
        refine ex_iload (pc := 105) 1 dX10_playClause_105 rfl ?_
        obtain ⟨q14, eq14, h⟩ := ob_some h
        refine ex_callV3r (pc := 107) dX10_playClause_107 jX10_rule lmX10_353 jiX10_rule jvX10_rule (o_X10_rule eq14) rfl (Nat.le_of_ble_eq_true rfl) (s_X10_rule (by omega)  eq14) ?_
        cases h
        exact ex_ireturn (pc := 110) dX10_playClause_110
      · rw [if_neg c13] at h
        by_cases c15 : v7 = 6
        · rw [if_pos c15] at h
          refine ex_tabIn (pc := 33) 111 dX10_playClause_33 (by rw [c15]; decide) (by rw [c15]; decide) (by rw [c15]; rfl) rfl ?_
          refine ex_aload_n (pc := 111) 3 dX10_playClause_111 rfl rfl ?_
          refine ex_iload (pc := 112) 1 dX10_playClause_112 rfl ?_
          refine ex_iload_n (pc := 114) 2 dX10_playClause_114 rfl rfl ?_
          obtain ⟨q16, eq16, h⟩ := ob_some h
          refine ex_callV2r (pc := 115) dX10_playClause_115 jX10_crank lmX10_357 jiX10_crank jvX10_crank (o_X10_crank eq16) rfl (Nat.le_of_ble_eq_true rfl) (s_X10_crank (by omega)  eq16) ?_
          refine ex_iconst (pc := 118) (-1) dX10_playClause_118 rfl ?_
          by_cases c17 : q16.1 = (-1)
          · rw [if_pos c17] at h
            refine ex_icmp_eq_t (pc := 119) 126 dX10_playClause_119 rfl c17 ?_
            refine ex_iconst (pc := 126) 0 dX10_playClause_126 rfl ?_
            cases h
            exact ex_ireturn (pc := 127) dX10_playClause_127
          · rw [if_neg c17] at h
            refine ex_icmp_eq_f (pc := 119) dX10_playClause_119 126 rfl c17 ?_
            refine ex_iconst (pc := 122) 1 dX10_playClause_122 rfl ?_
            refine ex_goto (pc := 123) 127 dX10_playClause_123 rfl ?_
            cases h
            exact ex_ireturn (pc := 127) dX10_playClause_127
        · rw [if_neg c15] at h
          by_cases c18 : v7 = 7
          · rw [if_pos c18] at h
            refine ex_tabIn (pc := 33) 136 dX10_playClause_33 (by rw [c18]; decide) (by rw [c18]; decide) (by rw [c18]; rfl) rfl ?_
            refine ex_aload_n (pc := 136) 3 dX10_playClause_136 rfl rfl ?_
            refine ex_iload_n (pc := 137) 2 dX10_playClause_137 rfl rfl ?_
            obtain ⟨q19, eq19, h⟩ := ob_some h
            refine ex_callV1r (pc := 138) dX10_playClause_138 jX10_lift lmX10_363 jiX10_lift jvX10_lift (o_X10_lift eq19) rfl (Nat.le_of_ble_eq_true rfl) (s_X10_lift (by omega)  eq19) ?_
            cases h
            exact ex_ireturn (pc := 141) dX10_playClause_141
          · rw [if_neg c18] at h
            by_cases c20 : v7 = 8
            · rw [if_pos c20] at h
              refine ex_tabIn (pc := 33) 128 dX10_playClause_33 (by rw [c20]; decide) (by rw [c20]; decide) (by rw [c20]; rfl) rfl ?_
              refine ex_aload_n (pc := 128) 3 dX10_playClause_128 rfl rfl ?_
              refine ex_iload_n (pc := 129) 2 dX10_playClause_129 rfl rfl ?_
              refine ex_iload (pc := 130) 1 dX10_playClause_130 rfl ?_
              obtain ⟨q21, eq21, h⟩ := ob_some h
              refine ex_callV2r (pc := 132) dX10_playClause_132 jX10_oil lmX10_360 jiX10_oil jvX10_oil (o_X10_oil eq21) rfl (Nat.le_of_ble_eq_true rfl) (s_X10_oil (by omega)  eq21) ?_
              cases h
              exact ex_ireturn (pc := 135) dX10_playClause_135
            · rw [if_neg c20] at h
              by_cases c22 : v7 = 9
              · rw [if_pos c22] at h
                refine ex_tabIn (pc := 33) 142 dX10_playClause_33 (by rw [c22]; decide) (by rw [c22]; decide) (by rw [c22]; rfl) rfl ?_
                refine ex_aload_n (pc := 142) 3 dX10_playClause_142 rfl rfl ?_
                refine ex_iload_n (pc := 143) 2 dX10_playClause_143 rfl rfl ?_
                obtain ⟨q23, eq23, h⟩ := ob_some h
                refine ex_callV1r (pc := 144) dX10_playClause_144 jX10_passNights lmX10_150 jiX10_passNights jvX10_passNights (o_X10_passNights eq23) rfl (Nat.le_of_ble_eq_true rfl) (s_X10_passNights (by omega)  eq23) ?_
                refine ex_pop (pc := 147) dX10_playClause_147 rfl ?_
                refine ex_aload_n (pc := 148) 3 dX10_playClause_148 rfl rfl ?_
                obtain ⟨v24, ev24, h⟩ := ob_some h
                refine ex_gR (pc := 149) ev24 dX10_playClause_149 lfX10_10 ?_
                obtain ⟨v25, ev25, h⟩ := ob_some h
                refine ex_gR (pc := 152) ev25 dX10_playClause_152 lfX10_74 ?_
                obtain ⟨v26, ev26, h⟩ := ob_some h
                refine ex_gI (pc := 155) ev26 dX10_playClause_155 lfX10_147 ?_
                refine ex_iload (pc := 158) 0 dX10_playClause_158 rfl ?_
                refine ex_isub (pc := 160) dX10_playClause_160 ?_
                refine ex_iload_n (pc := 161) 2 dX10_playClause_161 rfl rfl ?_
                by_cases c27 : (v26 - v6) = v2
                · rw [if_pos c27] at h
                  refine ex_icmp_ne_f (pc := 162) dX10_playClause_162 169 rfl c27 ?_
                  refine ex_iconst (pc := 165) 1 dX10_playClause_165 rfl ?_
                  refine ex_goto (pc := 166) 170 dX10_playClause_166 rfl ?_
                  cases h
                  exact ex_ireturn (pc := 170) dX10_playClause_170
                · rw [if_neg c27] at h
                  refine ex_icmp_ne_t (pc := 162) 169 dX10_playClause_162 rfl c27 ?_
                  refine ex_iconst (pc := 169) 0 dX10_playClause_169 rfl ?_
                  cases h
                  exact ex_ireturn (pc := 170) dX10_playClause_170
              · rw [if_neg c22] at h
                have zc8 : ¬ (v7).toInt = 3 := fun e9 => c8 (i32_of e9 (by decide))
                have zc11 : ¬ (v7).toInt = 4 := fun e9 => c11 (i32_of e9 (by decide))
                have zc13 : ¬ (v7).toInt = 5 := fun e9 => c13 (i32_of e9 (by decide))
                have zc15 : ¬ (v7).toInt = 6 := fun e9 => c15 (i32_of e9 (by decide))
                have zc18 : ¬ (v7).toInt = 7 := fun e9 => c18 (i32_of e9 (by decide))
                have zc20 : ¬ (v7).toInt = 8 := fun e9 => c20 (i32_of e9 (by decide))
                have zc22 : ¬ (v7).toInt = 9 := fun e9 => c22 (i32_of e9 (by decide))
                refine ex_tabOut (pc := 33) 171 dX10_playClause_33 (by omega) rfl ?_
                refine ex_iconst (pc := 171) 1 dX10_playClause_171 rfl ?_
                cases h
                exact ex_ireturn (pc := 172) dX10_playClause_172
noncomputable def f_X10_playClause (x0 : Nat) (x1 : Option Nat) (x2 : Int32) (M : Mem) : Option (Bool × Mem) := if isOb M 10 x0 = true then f_X10_playClause_0 x0 x1 x2 M else none
theorem o_X10_playClause {x0 : Nat} {x1 : Option Nat} {x2 : Int32} {M : Mem} {res : Bool × Mem} (h : f_X10_playClause x0 x1 x2 M = some res) : isO M 10 x0 := by
  unfold f_X10_playClause at h
  split at h
  · rename_i hc; exact isOb_iff hc
  · cases h
set_option maxHeartbeats 4000000 in
theorem s_X10_playClause {X : XV} {d : Nat} (hd : 7 ≤ d) {x0 : Nat} {x1 : Option Nat} {x2 : Int32} {M : Mem} {res : Bool × Mem} (h : f_X10_playClause x0 x1 x2 M = some res) : Mx X d mX10_playClause [.ref x0, va_rf x1, .int x2] M (some (.int (jz res.1))) res.2 := by
  obtain ⟨d, rfl⟩ : ∃ e, d = e + 1 := ⟨d - 1, by omega⟩
  unfold f_X10_playClause at h
  split at h
  rotate_left
  · cases h
  cases x1 <;>
    (refine Mx.of (by decide) (Nat.le_of_ble_eq_true rfl) (⟨_, rfl, jz_nar _⟩) ?_; exact ex_sub [0, 1, 2] rfl (t_X10_playClause_0 hd _ _ _ _ _  h))
noncomputable def f_X10_played_44 (n0 : Nat) (x0 : Nat) (x2 : Option Nat) (x3 : Int32) (M : Mem) : Option (Int32 × Mem) :=
  match n0 with
  | 0 => none
  | n + 1 =>
    (x2).bind fun t1 =>
    (gI M 8 t1 5).bind fun v2 =>
    if v2 ≤ x3 then
    (some ((-1), M))
    else
    ((f_X10_playClause x0 (some t1) x3 M).bind fun q4 =>
    if q4.1 = true then
    (f_X10_played_44 n x0 (some t1) (x3 + 1) q4.2)
    else
    (some (x3, q4.2)))
set_option maxHeartbeats 4000000 in
theorem t_X10_played_44 {X : XV} {d : Nat} (hd : 8 ≤ d + 1) : ∀ (n : Nat) (x0 : Nat) (x2 : Option Nat) (x3 : Int32) (M : Mem) (res : Int32 × Mem), f_X10_played_44 n  x0 x2 x3 M = some res → Ex X (d + 1) mX10_played 44 [(0, .ref x0), (2, va_rf x2), (3, .int x3)] [] M (some (.int res.1)) res.2 := by
  intro n
  induction n with
  | zero =>
    intro x0 x2 x3 M res  h
    unfold f_X10_played_44 at h
    cases h
  | succ n ih =>
    intro x0 x2 x3 M res  h
    unfold f_X10_played_44 at h
    refine ex_iload_n (pc := 44) 2 dX10_played_44 rfl rfl ?_
    refine ex_aloadq_n (pc := 45) 1 dX10_played_45 rfl rfl ?_
    obtain ⟨t1, et1, h⟩ := ob_some h
    rw [et1]
    obtain ⟨v2, ev2, h⟩ := ob_some h
    refine ex_gI (pc := 46) ev2 dX10_played_46 lfX10_154 ?_
    by_cases c3 : v2 ≤ x3
    · rw [if_pos c3] at h
      refine ex_icmp_ge_t (pc := 49) 69 dX10_played_49 rfl c3 ?_
      refine ex_iconst (pc := 69) (-1) dX10_played_69 rfl ?_
      cases h
      exact ex_ireturn (pc := 70) dX10_played_70
    · rw [if_neg c3] at h
      refine ex_icmp_ge_f (pc := 49) dX10_played_49 69 rfl c3 ?_
      refine ex_aload_n (pc := 52) 0 dX10_played_52 rfl rfl ?_
      refine ex_aload_n (pc := 53) 1 dX10_played_53 rfl rfl ?_
      refine ex_iload_n (pc := 54) 2 dX10_played_54 rfl rfl ?_
      obtain ⟨q4, eq4, h⟩ := ob_some h
      refine ex_callV2r (pc := 55) dX10_played_55 jX10_playClause lmX10_159 jiX10_playClause jvX10_playClause (o_X10_playClause eq4) rfl (Nat.le_of_ble_eq_true rfl) (s_X10_playClause (by omega)  eq4) ?_
      by_cases c5 : q4.1 = true
      · rw [if_pos c5] at h
        refine ex_if_ne_t (pc := 58) 63 dX10_played_58 rfl (jz_ne_t c5) ?_
        refine ex_iinc (pc := 63) (x3 + 1) 2 [(3, .int (x3 + 1)), (0, .ref x0), (2, .ref t1)] dX10_played_63 rfl rfl (by decide) rfl ?_
        refine ex_goto (pc := 66) 44 dX10_played_66 rfl ?_
        refine ex_sub (lo' := [(0, .ref x0), (2, va_rf (some t1)), (3, .int (x3 + 1))]) [1, 2, 0] rfl ?_
        exact ih _ _ _ _ _  h
      · rw [if_neg c5] at h
        refine ex_if_ne_f (pc := 58) dX10_played_58 63 rfl (jz_ne_f c5) ?_
        refine ex_iload_n (pc := 61) 2 dX10_played_61 rfl rfl ?_
        cases h
        exact ex_ireturn (pc := 62) dX10_played_62
noncomputable def f_X10_played_0 (x0 : Nat) (x1 : Int32) (M : Mem) : Option (Int32 × Mem) :=
  (gR M 10 x0 0).bind fun v6 =>
  (gI M 4 v6 5).bind fun v7 =>
  (f_X10_within x1 0 (v7 - 1)).bind fun v8 =>
  if v8 = false then
  (some ((-2), M))
  else
  ((gR M 10 x0 0).bind fun v10 =>
  (gR M 4 v10 4).bind fun v11 =>
  (rQ 3 M v11 x1).bind fun o12 =>
  if o12 = none then
  (some ((-2), M))
  else
  ((gR M 10 x0 0).bind fun v15 =>
  (gR M 4 v15 4).bind fun v16 =>
  (rQ 3 M v16 x1).bind fun o17 =>
  f_X10_played_44 fu x0 o17 0 M))
set_option maxHeartbeats 4000000 in
theorem t_X10_played_0 {X : XV} {d : Nat} (hd : 8 ≤ d + 1) : ∀ (x0 : Nat) (x1 : Int32) (M : Mem) (res : Int32 × Mem), f_X10_played_0  x0 x1 M = some res → Ex X (d + 1) mX10_played 0 [(0, .ref x0), (1, .int x1)] [] M (some (.int res.1)) res.2 := by
  intro x0 x1 M res  h
  unfold f_X10_played_0 at h
  refine ex_iload_n (pc := 0) 1 dX10_played_0 rfl rfl ?_
  refine ex_iconst (pc := 1) 0 dX10_played_1 rfl ?_
  refine ex_aload_n (pc := 2) 0 dX10_played_2 rfl rfl ?_
  obtain ⟨v6, ev6, h⟩ := ob_some h
  refine ex_gR (pc := 3) ev6 dX10_played_3 lfX10_10 ?_
  obtain ⟨v7, ev7, h⟩ := ob_some h
  refine ex_gI (pc := 6) ev7 dX10_played_6 lfX10_97 ?_
  refine ex_iconst (pc := 9) 1 dX10_played_9 rfl ?_
  refine ex_isub (pc := 10) dX10_played_10 ?_
  obtain ⟨v8, ev8, h⟩ := ob_some h
  refine ex_callS3r (pc := 11) dX10_played_11 jX10_within lmX10_70 jsX10_within (Nat.le_of_ble_eq_true rfl) (s_X10_within (by omega)  ev8) ?_
  by_cases c9 : v8 = false
  · rw [if_pos c9] at h
    refine ex_if_eq_t (pc := 14) 29 dX10_played_14 rfl (jz_eq_t c9) ?_
    refine ex_bipush (pc := 29) (-2) dX10_played_29 (by decide) ?_
    cases h
    exact ex_ireturn (pc := 31) dX10_played_31
  · rw [if_neg c9] at h
    refine ex_if_eq_f (pc := 14) dX10_played_14 29 rfl (jz_eq_f c9) ?_
    refine ex_aload_n (pc := 17) 0 dX10_played_17 rfl rfl ?_
    obtain ⟨v10, ev10, h⟩ := ob_some h
    refine ex_gR (pc := 18) ev10 dX10_played_18 lfX10_10 ?_
    obtain ⟨v11, ev11, h⟩ := ob_some h
    refine ex_gR (pc := 21) ev11 dX10_played_21 lfX10_104 ?_
    refine ex_iload_n (pc := 24) 1 dX10_played_24 rfl rfl ?_
    obtain ⟨o12, eo12, h⟩ := ob_some h
    refine ex_rQ (pc := 25) eo12 (by decide) dX10_played_25 ?_
    by_cases c13 : o12 = none
    · rw [if_pos c13] at h
      refine ex_ifnonnullq_f (pc := 26) dX10_played_26 c13 ?_
      refine ex_bipush (pc := 29) (-2) dX10_played_29 (by decide) ?_
      cases h
      exact ex_ireturn (pc := 31) dX10_played_31
    · rw [if_neg c13] at h
      obtain ⟨t14, et14⟩ := Option.ne_none_iff_exists'.mp c13
      refine ex_ifnonnullq_t (pc := 26) 32 dX10_played_26 rfl et14 ?_
      refine ex_aload_n (pc := 32) 0 dX10_played_32 rfl rfl ?_
      obtain ⟨v15, ev15, h⟩ := ob_some h
      refine ex_gR (pc := 33) ev15 dX10_played_33 lfX10_10 ?_
      obtain ⟨v16, ev16, h⟩ := ob_some h
      refine ex_gR (pc := 36) ev16 dX10_played_36 lfX10_104 ?_
      refine ex_iload_n (pc := 39) 1 dX10_played_39 rfl rfl ?_
      obtain ⟨o17, eo17, h⟩ := ob_some h
      refine ex_rQ (pc := 40) eo17 (by decide) dX10_played_40 ?_
      refine ex_astoreq_n (pc := 41) [(2, va_rf o17), (0, .ref x0), (1, .int x1)] dX10_played_41 rfl (by decide) rfl ?_
      refine ex_iconst (pc := 42) 0 dX10_played_42 rfl ?_
      refine ex_istore_n (pc := 43) [(3, .int 0), (2, va_rf o17), (0, .ref x0), (1, .int x1)] dX10_played_43 rfl (by decide) (by cases o17 <;> rfl) ?_
      refine ex_sub (lo' := [(0, .ref x0), (2, va_rf o17), (3, .int 0)]) [2, 1, 0] rfl ?_
      exact t_X10_played_44 hd  _ _ _ _ _ _  h
noncomputable def f_X10_played (x0 : Nat) (x1 : Int32) (M : Mem) : Option (Int32 × Mem) := if isOb M 10 x0 = true then f_X10_played_0 x0 x1 M else none
theorem o_X10_played {x0 : Nat} {x1 : Int32} {M : Mem} {res : Int32 × Mem} (h : f_X10_played x0 x1 M = some res) : isO M 10 x0 := by
  unfold f_X10_played at h
  split at h
  · rename_i hc; exact isOb_iff hc
  · cases h
set_option maxHeartbeats 4000000 in
theorem s_X10_played {X : XV} {d : Nat} (hd : 8 ≤ d) {x0 : Nat} {x1 : Int32} {M : Mem} {res : Int32 × Mem} (h : f_X10_played x0 x1 M = some res) : Mx X d mX10_played [.ref x0, .int x1] M (some (.int res.1)) res.2 := by
  obtain ⟨d, rfl⟩ : ∃ e, d = e + 1 := ⟨d - 1, by omega⟩
  unfold f_X10_played at h
  split at h
  rotate_left
  · cases h
  refine Mx.of (by decide) (Nat.le_of_ble_eq_true rfl) (⟨_, rfl, rfl⟩) ?_
  exact ex_sub (lo' := [(0, .ref x0), (1, .int x1)]) [0, 1] rfl (t_X10_played_0 hd _ _ _ _  h)
noncomputable def f_X10_handle_0 (x0 : Nat) (x1 : Int32) (x2 : Int32) (M : Mem) : Option (Mem) :=
  (gR M 10 x0 0).bind fun v1 =>
  (gR M 4 v1 0).bind fun v2 =>
  (f_X9_has v2 x1 M).bind fun v3 =>
  if v3 = true then
  (if 1 < (jrem x2 5) then
  (if (jrem x2 5) = 2 then
  ((gR M 9 v2 7).bind fun v9 =>
  (wI M v9 x1 (jrem x2 10)).bind fun q10 =>
  some q10)
  else
  ((gR M 9 v2 9).bind fun v7 =>
  (wI M v7 x1 0).bind fun q8 =>
  some q8))
  else
  ((f_X9_canTurn v2 x1 M).bind fun v11 =>
  if v11 = false then
  (some M)
  else
  ((f_X9_turn v2 x1 (jrem x2 997) M).bind fun q13 =>
  some q13)))
  else
  (some M)
set_option maxHeartbeats 4000000 in
theorem t_X10_handle_0 {X : XV} {d : Nat} (hd : 3 ≤ d + 1) : ∀ (x0 : Nat) (x1 : Int32) (x2 : Int32) (M : Mem) (res : Mem), f_X10_handle_0  x0 x1 x2 M = some res → Ex X (d + 1) mX10_handle 0 [(0, .ref x0), (1, .int x1), (2, .int x2)] [] M none res := by
  intro x0 x1 x2 M res  h
  unfold f_X10_handle_0 at h
  refine ex_aload_n (pc := 0) 0 dX10_handle_0 rfl rfl ?_
  obtain ⟨v1, ev1, h⟩ := ob_some h
  refine ex_gR (pc := 1) ev1 dX10_handle_1 lfX10_10 ?_
  obtain ⟨v2, ev2, h⟩ := ob_some h
  refine ex_gR (pc := 4) ev2 dX10_handle_4 lfX10_74 ?_
  refine ex_astore_n (pc := 7) [(3, .ref v2), (0, .ref x0), (1, .int x1), (2, .int x2)] dX10_handle_7 rfl (by decide) rfl ?_
  refine ex_aload_n (pc := 8) 0 dX10_handle_8 rfl rfl ?_
  refine ex_iload_n (pc := 9) 2 dX10_handle_9 rfl rfl ?_
  obtain ⟨v3, ev3, h⟩ := ob_some h
  refine ex_callV1r (pc := 10) dX10_handle_10 jX9_has lmX10_135 jiX9_has jvX9_has (o_X9_has ev3) rfl (Nat.le_of_ble_eq_true rfl) (s_X9_has (by omega)  ev3) ?_
  by_cases c4 : v3 = true
  · rw [if_pos c4] at h
    refine ex_if_ne_t (pc := 13) 17 dX10_handle_13 rfl (jz_ne_t c4) ?_
    refine ex_iload_n (pc := 17) 3 dX10_handle_17 rfl rfl ?_
    refine ex_iconst (pc := 18) 5 dX10_handle_18 rfl ?_
    refine ex_irem (pc := 19) dX10_handle_19 (by decide) ?_
    refine ex_istore (pc := 20) [(4, .int (jrem x2 5)), (3, .ref v2), (0, .ref x0), (1, .int x1), (2, .int x2)] dX10_handle_20 (by decide) rfl ?_
    refine ex_iload (pc := 22) 0 dX10_handle_22 rfl ?_
    refine ex_iconst (pc := 24) 1 dX10_handle_24 rfl ?_
    by_cases c5 : 1 < (jrem x2 5)
    · rw [if_pos c5] at h
      refine ex_icmp_gt_t (pc := 25) 49 dX10_handle_25 rfl c5 ?_
      refine ex_iload (pc := 49) 0 dX10_handle_49 rfl ?_
      refine ex_iconst (pc := 51) 2 dX10_handle_51 rfl ?_
      by_cases c6 : (jrem x2 5) = 2
      · rw [if_pos c6] at h
        refine ex_icmp_ne_f (pc := 52) dX10_handle_52 68 rfl c6 ?_
        refine ex_aload_n (pc := 55) 1 dX10_handle_55 rfl rfl ?_
        obtain ⟨v9, ev9, h⟩ := ob_some h
        refine ex_gR (pc := 56) ev9 dX10_handle_56 lfX10_138 ?_
        refine ex_iload_n (pc := 59) 3 dX10_handle_59 rfl rfl ?_
        refine ex_iload_n (pc := 60) 4 dX10_handle_60 rfl rfl ?_
        refine ex_bipush (pc := 61) 10 dX10_handle_61 (by decide) ?_
        refine ex_irem (pc := 63) dX10_handle_63 (by decide) ?_
        obtain ⟨q10, eq10, h⟩ := ob_some h
        refine ex_wI (pc := 64) eq10 dX10_handle_64 ?_
        refine ex_goto (pc := 65) 75 dX10_handle_65 rfl ?_
        cases h
        exact ex_return (pc := 75) dX10_handle_75
      · rw [if_neg c6] at h
        refine ex_icmp_ne_t (pc := 52) 68 dX10_handle_52 rfl c6 ?_
        refine ex_aload_n (pc := 68) 1 dX10_handle_68 rfl rfl ?_
        obtain ⟨v7, ev7, h⟩ := ob_some h
        refine ex_gR (pc := 69) ev7 dX10_handle_69 lfX10_144 ?_
        refine ex_iload_n (pc := 72) 3 dX10_handle_72 rfl rfl ?_
        refine ex_iconst (pc := 73) 0 dX10_handle_73 rfl ?_
        obtain ⟨q8, eq8, h⟩ := ob_some h
        refine ex_wI (pc := 74) eq8 dX10_handle_74 ?_
        cases h
        exact ex_return (pc := 75) dX10_handle_75
    · rw [if_neg c5] at h
      refine ex_icmp_gt_f (pc := 25) dX10_handle_25 49 rfl c5 ?_
      refine ex_aload_n (pc := 28) 1 dX10_handle_28 rfl rfl ?_
      refine ex_iload_n (pc := 29) 3 dX10_handle_29 rfl rfl ?_
      obtain ⟨v11, ev11, h⟩ := ob_some h
      refine ex_callV1r (pc := 30) dX10_handle_30 jX9_canTurn lmX10_121 jiX9_canTurn jvX9_canTurn (o_X9_canTurn ev11) rfl (Nat.le_of_ble_eq_true rfl) (s_X9_canTurn (by omega)  ev11) ?_
      by_cases c12 : v11 = false
      · rw [if_pos c12] at h
        refine ex_if_eq_t (pc := 33) 75 dX10_handle_33 rfl (jz_eq_t c12) ?_
        cases h
        exact ex_return (pc := 75) dX10_handle_75
      · rw [if_neg c12] at h
        refine ex_if_eq_f (pc := 33) dX10_handle_33 75 rfl (jz_eq_f c12) ?_
        refine ex_aload_n (pc := 36) 1 dX10_handle_36 rfl rfl ?_
        refine ex_iload_n (pc := 37) 3 dX10_handle_37 rfl rfl ?_
        refine ex_iload_n (pc := 38) 4 dX10_handle_38 rfl rfl ?_
        refine ex_sipush (pc := 39) 997 dX10_handle_39 (by decide) ?_
        refine ex_irem (pc := 42) dX10_handle_42 (by decide) ?_
        obtain ⟨q13, eq13, h⟩ := ob_some h
        refine ex_callV2v (pc := 43) dX10_handle_43 jX9_turn lmX10_128 jiX9_turn jvX9_turn (o_X9_turn eq13) rfl (Nat.le_of_ble_eq_true rfl) (s_X9_turn (by omega)  eq13) ?_
        refine ex_goto (pc := 46) 75 dX10_handle_46 rfl ?_
        cases h
        exact ex_return (pc := 75) dX10_handle_75
  · rw [if_neg c4] at h
    refine ex_if_ne_f (pc := 13) dX10_handle_13 17 rfl (jz_ne_f c4) ?_
    cases h
    exact ex_return (pc := 16) dX10_handle_16
noncomputable def f_X10_handle (x0 : Nat) (x1 : Int32) (x2 : Int32) (M : Mem) : Option (Mem) := if isOb M 10 x0 = true then f_X10_handle_0 x0 x1 x2 M else none
theorem o_X10_handle {x0 : Nat} {x1 : Int32} {x2 : Int32} {M : Mem} {res : Mem} (h : f_X10_handle x0 x1 x2 M = some res) : isO M 10 x0 := by
  unfold f_X10_handle at h
  split at h
  · rename_i hc; exact isOb_iff hc
  · cases h
set_option maxHeartbeats 4000000 in
theorem s_X10_handle {X : XV} {d : Nat} (hd : 3 ≤ d) {x0 : Nat} {x1 : Int32} {x2 : Int32} {M : Mem} {res : Mem} (h : f_X10_handle x0 x1 x2 M = some res) : Mx X d mX10_handle [.ref x0, .int x1, .int x2] M none res := by
  obtain ⟨d, rfl⟩ : ∃ e, d = e + 1 := ⟨d - 1, by omega⟩
  unfold f_X10_handle at h
  split at h
  rotate_left
  · cases h
  refine Mx.of (by decide) (Nat.le_of_ble_eq_true rfl) (rfl) ?_
  exact ex_sub (lo' := [(0, .ref x0), (1, .int x1), (2, .int x2)]) [0, 1, 2] rfl (t_X10_handle_0 hd _ _ _ _ _  h)
noncomputable def f_X10_decades_49 (n0 : Nat) (x0 : Nat) (x2 : Int32) (x3 : Int32) (M : Mem) : Option (Int32 × Mem) :=
  match n0 with
  | 0 => none
  | n + 1 =>
    if x2 ≤ x3 then
    ((gR M 10 x0 0).bind fun v2 =>
    (gR M 4 v2 0).bind fun v3 =>
    (gI M 9 v3 1).bind fun v4 =>
    some (v4, M))
    else
    ((gR M 10 x0 0).bind fun v5 =>
    (gR M 4 v5 0).bind fun v6 =>
    (gI M 9 v6 2).bind fun v7 =>
    (gR M 10 x0 0).bind fun v8 =>
    (gR M 4 v8 0).bind fun v9 =>
    (f_X9_renewX v9 M).bind fun q10 =>
    if (jrem v7 5) = 4 then
    ((gR q10 10 x0 0).bind fun v21 =>
    (gR q10 4 v21 0).bind fun v22 =>
    (gI q10 9 v22 1).bind fun v23 =>
    if 9999 ≤ v23 then
    (f_X10_decades_49 n x0 x2 (x3 + 1) q10)
    else
    ((gR q10 10 x0 4).bind fun v25 =>
    (gR q10 10 x0 0).bind fun v26 =>
    (gR q10 4 v26 0).bind fun v27 =>
    (gR q10 10 x0 0).bind fun v28 =>
    (gR q10 4 v28 7).bind fun v29 =>
    (gR q10 10 x0 0).bind fun v30 =>
    (f_X4_theText v30 q10).bind fun v31 =>
    (f_X0_pass v25 v27 v29 v31 q10).bind fun q32 =>
    f_X10_decades_49 n x0 x2 (x3 + 1) q32.2))
    else
    ((gR q10 10 x0 0).bind fun v12 =>
    (gR q10 4 v12 0).bind fun v13 =>
    (gI q10 9 v13 0).bind fun v14 =>
    if v14 ≤ 0 then
    (f_X10_decades_49 n x0 x2 (x3 + 1) q10)
    else
    ((gR q10 10 x0 0).bind fun v16 =>
    (gR q10 4 v16 0).bind fun v17 =>
    (gI q10 9 v17 0).bind fun v18 =>
    (rmI v7 v18).bind fun v19 =>
    (f_X10_handle x0 v19 v7 q10).bind fun q20 =>
    f_X10_decades_49 n x0 x2 (x3 + 1) q20)))
set_option maxHeartbeats 4000000 in
theorem t_X10_decades_49 {X : XV} {d : Nat} (hd : 6 ≤ d + 1) : ∀ (n : Nat) (x0 : Nat) (x2 : Int32) (x3 : Int32) (M : Mem) (res : Int32 × Mem), f_X10_decades_49 n  x0 x2 x3 M = some res → Ex X (d + 1) mX10_decades 49 [(0, .ref x0), (2, .int x2), (3, .int x3)] [] M (some (.int res.1)) res.2 := by
  intro n
  induction n with
  | zero =>
    intro x0 x2 x3 M res  h
    unfold f_X10_decades_49 at h
    cases h
  | succ n ih =>
    intro x0 x2 x3 M res  h
    unfold f_X10_decades_49 at h
    refine ex_iload_n (pc := 49) 2 dX10_decades_49 rfl rfl ?_
    refine ex_iload_n (pc := 50) 1 dX10_decades_50 rfl rfl ?_
    by_cases c1 : x2 ≤ x3
    · rw [if_pos c1] at h
      refine ex_icmp_ge_t (pc := 51) 170 dX10_decades_51 rfl c1 ?_
      refine ex_aload_n (pc := 170) 0 dX10_decades_170 rfl rfl ?_
      obtain ⟨v2, ev2, h⟩ := ob_some h
      refine ex_gR (pc := 171) ev2 dX10_decades_171 lfX10_10 ?_
      obtain ⟨v3, ev3, h⟩ := ob_some h
      refine ex_gR (pc := 174) ev3 dX10_decades_174 lfX10_74 ?_
      obtain ⟨v4, ev4, h⟩ := ob_some h
      refine ex_gI (pc := 177) ev4 dX10_decades_177 lfX10_147 ?_
      cases h
      exact ex_ireturn (pc := 180) dX10_decades_180
    · rw [if_neg c1] at h
      refine ex_icmp_ge_f (pc := 51) dX10_decades_51 170 rfl c1 ?_
      refine ex_aload_n (pc := 54) 0 dX10_decades_54 rfl rfl ?_
      obtain ⟨v5, ev5, h⟩ := ob_some h
      refine ex_gR (pc := 55) ev5 dX10_decades_55 lfX10_10 ?_
      obtain ⟨v6, ev6, h⟩ := ob_some h
      refine ex_gR (pc := 58) ev6 dX10_decades_58 lfX10_74 ?_
      obtain ⟨v7, ev7, h⟩ := ob_some h
      refine ex_gI (pc := 61) ev7 dX10_decades_61 lfX10_163 ?_
      refine ex_istore (pc := 64) [(4, .int v7), (0, .ref x0), (2, .int x2), (3, .int x3)] dX10_decades_64 (by decide) rfl ?_
      refine ex_aload_n (pc := 66) 1 dX10_decades_66 rfl rfl ?_
      obtain ⟨v8, ev8, h⟩ := ob_some h
      refine ex_gR (pc := 67) ev8 dX10_decades_67 lfX10_10 ?_
      obtain ⟨v9, ev9, h⟩ := ob_some h
      refine ex_gR (pc := 70) ev9 dX10_decades_70 lfX10_74 ?_
      obtain ⟨q10, eq10, h⟩ := ob_some h
      refine ex_callV0v (pc := 73) dX10_decades_73 jX9_renewX lmX10_166 jiX9_renewX jvX9_renewX (o_X9_renewX eq10) rfl (Nat.le_of_ble_eq_true rfl) (s_X9_renewX (by omega)  eq10) ?_
      refine ex_iload (pc := 76) 0 dX10_decades_76 rfl ?_
      refine ex_iconst (pc := 78) 5 dX10_decades_78 rfl ?_
      refine ex_irem (pc := 79) dX10_decades_79 (by decide) ?_
      refine ex_iconst (pc := 80) 4 dX10_decades_80 rfl ?_
      by_cases c11 : (jrem v7 5) = 4
      · rw [if_pos c11] at h
        refine ex_icmp_ne_f (pc := 81) dX10_decades_81 132 rfl c11 ?_
        refine ex_aload_n (pc := 84) 1 dX10_decades_84 rfl rfl ?_
        obtain ⟨v21, ev21, h⟩ := ob_some h
        refine ex_gR (pc := 85) ev21 dX10_decades_85 lfX10_10 ?_
        obtain ⟨v22, ev22, h⟩ := ob_some h
        refine ex_gR (pc := 88) ev22 dX10_decades_88 lfX10_74 ?_
        obtain ⟨v23, ev23, h⟩ := ob_some h
        refine ex_gI (pc := 91) ev23 dX10_decades_91 lfX10_147 ?_
        refine ex_sipush (pc := 94) 9999 dX10_decades_94 (by decide) ?_
        by_cases c24 : 9999 ≤ v23
        · rw [if_pos c24] at h
          refine ex_icmp_ge_t (pc := 97) 164 dX10_decades_97 rfl c24 ?_
          refine ex_iinc (pc := 164) (x3 + 1) 3 [(3, .int (x3 + 1)), (4, .int v7), (0, .ref x0), (2, .int x2)] dX10_decades_164 rfl rfl (by decide) rfl ?_
          refine ex_goto (pc := 167) 49 dX10_decades_167 rfl ?_
          refine ex_sub (lo' := [(0, .ref x0), (2, .int x2), (3, .int (x3 + 1))]) [2, 3, 0] rfl ?_
          exact ih _ _ _ _ _  h
        · rw [if_neg c24] at h
          refine ex_icmp_ge_f (pc := 97) dX10_decades_97 164 rfl c24 ?_
          refine ex_aload_n (pc := 100) 1 dX10_decades_100 rfl rfl ?_
          obtain ⟨v25, ev25, h⟩ := ob_some h
          refine ex_gR (pc := 101) ev25 dX10_decades_101 lfX10_38 ?_
          refine ex_aload_n (pc := 104) 1 dX10_decades_104 rfl rfl ?_
          obtain ⟨v26, ev26, h⟩ := ob_some h
          refine ex_gR (pc := 105) ev26 dX10_decades_105 lfX10_10 ?_
          obtain ⟨v27, ev27, h⟩ := ob_some h
          refine ex_gR (pc := 108) ev27 dX10_decades_108 lfX10_74 ?_
          refine ex_aload_n (pc := 111) 1 dX10_decades_111 rfl rfl ?_
          obtain ⟨v28, ev28, h⟩ := ob_some h
          refine ex_gR (pc := 112) ev28 dX10_decades_112 lfX10_10 ?_
          obtain ⟨v29, ev29, h⟩ := ob_some h
          refine ex_gR (pc := 115) ev29 dX10_decades_115 lfX10_81 ?_
          refine ex_aload_n (pc := 118) 1 dX10_decades_118 rfl rfl ?_
          obtain ⟨v30, ev30, h⟩ := ob_some h
          refine ex_gR (pc := 119) ev30 dX10_decades_119 lfX10_10 ?_
          obtain ⟨v31, ev31, h⟩ := ob_some h
          refine ex_callV0r (pc := 122) dX10_decades_122 jX4_theText lmX10_169 jiX4_theText jvX4_theText (o_X4_theText ev31) rfl (Nat.le_of_ble_eq_true rfl) (s_X4_theText (by omega)  ev31) ?_
          obtain ⟨q32, eq32, h⟩ := ob_some h
          refine ex_callV3r (pc := 125) dX10_decades_125 jX0_pass lmX10_172 jiX0_pass jvX0_pass (o_X0_pass eq32) rfl (Nat.le_of_ble_eq_true rfl) (s_X0_pass (by omega)  eq32) ?_
          refine ex_pop (pc := 128) dX10_decades_128 rfl ?_
          refine ex_goto (pc := 129) 164 dX10_decades_129 rfl ?_
          refine ex_iinc (pc := 164) (x3 + 1) 3 [(3, .int (x3 + 1)), (4, .int v7), (0, .ref x0), (2, .int x2)] dX10_decades_164 rfl rfl (by decide) rfl ?_
          refine ex_goto (pc := 167) 49 dX10_decades_167 rfl ?_
          refine ex_sub (lo' := [(0, .ref x0), (2, .int x2), (3, .int (x3 + 1))]) [2, 3, 0] rfl ?_
          exact ih _ _ _ _ _  h
      · rw [if_neg c11] at h
        refine ex_icmp_ne_t (pc := 81) 132 dX10_decades_81 rfl c11 ?_
        refine ex_aload_n (pc := 132) 1 dX10_decades_132 rfl rfl ?_
        obtain ⟨v12, ev12, h⟩ := ob_some h
        refine ex_gR (pc := 133) ev12 dX10_decades_133 lfX10_10 ?_
        obtain ⟨v13, ev13, h⟩ := ob_some h
        refine ex_gR (pc := 136) ev13 dX10_decades_136 lfX10_74 ?_
        obtain ⟨v14, ev14, h⟩ := ob_some h
        refine ex_gI (pc := 139) ev14 dX10_decades_139 lfX10_176 ?_
        by_cases c15 : v14 ≤ 0
        · rw [if_pos c15] at h
          refine ex_if_le_t (pc := 142) 164 dX10_decades_142 rfl c15 ?_
          refine ex_iinc (pc := 164) (x3 + 1) 3 [(3, .int (x3 + 1)), (4, .int v7), (0, .ref x0), (2, .int x2)] dX10_decades_164 rfl rfl (by decide) rfl ?_
          refine ex_goto (pc := 167) 49 dX10_decades_167 rfl ?_
          refine ex_sub (lo' := [(0, .ref x0), (2, .int x2), (3, .int (x3 + 1))]) [2, 3, 0] rfl ?_
          exact ih _ _ _ _ _  h
        · rw [if_neg c15] at h
          refine ex_if_le_f (pc := 142) dX10_decades_142 164 rfl c15 ?_
          refine ex_aload_n (pc := 145) 1 dX10_decades_145 rfl rfl ?_
          refine ex_iload (pc := 146) 0 dX10_decades_146 rfl ?_
          refine ex_aload_n (pc := 148) 1 dX10_decades_148 rfl rfl ?_
          obtain ⟨v16, ev16, h⟩ := ob_some h
          refine ex_gR (pc := 149) ev16 dX10_decades_149 lfX10_10 ?_
          obtain ⟨v17, ev17, h⟩ := ob_some h
          refine ex_gR (pc := 152) ev17 dX10_decades_152 lfX10_74 ?_
          obtain ⟨v18, ev18, h⟩ := ob_some h
          refine ex_gI (pc := 155) ev18 dX10_decades_155 lfX10_176 ?_
          obtain ⟨v19, ev19, h⟩ := ob_some h
          refine ex_iremq (pc := 158) ev19 dX10_decades_158 ?_
          refine ex_iload (pc := 159) 0 dX10_decades_159 rfl ?_
          obtain ⟨q20, eq20, h⟩ := ob_some h
          refine ex_callV2v (pc := 161) dX10_decades_161 jX10_handle lmX10_179 jiX10_handle jvX10_handle (o_X10_handle eq20) rfl (Nat.le_of_ble_eq_true rfl) (s_X10_handle (by omega)  eq20) ?_
          refine ex_iinc (pc := 164) (x3 + 1) 3 [(3, .int (x3 + 1)), (4, .int v7), (0, .ref x0), (2, .int x2)] dX10_decades_164 rfl rfl (by decide) rfl ?_
          refine ex_goto (pc := 167) 49 dX10_decades_167 rfl ?_
          refine ex_sub (lo' := [(0, .ref x0), (2, .int x2), (3, .int (x3 + 1))]) [2, 3, 0] rfl ?_
          exact ih _ _ _ _ _  h
noncomputable def f_X10_decades_0 (x0 : Nat) (x1 : Int32) (x2 : Int32) (M : Mem) : Option (Int32 × Mem) :=
  (f_X10_within x1 0 9999).bind fun v33 =>
  if v33 = false then
  (some ((-1), M))
  else
  ((f_X10_within x2 1 40).bind fun v35 =>
  if v35 = true then
  ((gR M 10 x0 0).bind fun v37 =>
  (f_X4_remember v37 M).bind fun q38 =>
  (gR q38 10 x0 0).bind fun v39 =>
  (gR q38 4 v39 0).bind fun v40 =>
  (pF q38 9 v40 2 (.int ((x1 * 2) + 193))).bind fun q41 =>
  f_X10_decades_49 fu x0 x2 0 q41)
  else
  (some ((-1), M)))
set_option maxHeartbeats 4000000 in
theorem t_X10_decades_0 {X : XV} {d : Nat} (hd : 6 ≤ d + 1) : ∀ (x0 : Nat) (x1 : Int32) (x2 : Int32) (M : Mem) (res : Int32 × Mem), f_X10_decades_0  x0 x1 x2 M = some res → Ex X (d + 1) mX10_decades 0 [(0, .ref x0), (1, .int x1), (2, .int x2)] [] M (some (.int res.1)) res.2 := by
  intro x0 x1 x2 M res  h
  unfold f_X10_decades_0 at h
  refine ex_iload_n (pc := 0) 1 dX10_decades_0 rfl rfl ?_
  refine ex_iconst (pc := 1) 0 dX10_decades_1 rfl ?_
  refine ex_sipush (pc := 2) 9999 dX10_decades_2 (by decide) ?_
  obtain ⟨v33, ev33, h⟩ := ob_some h
  refine ex_callS3r (pc := 5) dX10_decades_5 jX10_within lmX10_70 jsX10_within (Nat.le_of_ble_eq_true rfl) (s_X10_within (by omega)  ev33) ?_
  by_cases c34 : v33 = false
  · rw [if_pos c34] at h
    refine ex_if_eq_t (pc := 8) 21 dX10_decades_8 rfl (jz_eq_t c34) ?_
    refine ex_iconst (pc := 21) (-1) dX10_decades_21 rfl ?_
    cases h
    exact ex_ireturn (pc := 22) dX10_decades_22
  · rw [if_neg c34] at h
    refine ex_if_eq_f (pc := 8) dX10_decades_8 21 rfl (jz_eq_f c34) ?_
    refine ex_iload_n (pc := 11) 2 dX10_decades_11 rfl rfl ?_
    refine ex_iconst (pc := 12) 1 dX10_decades_12 rfl ?_
    refine ex_bipush (pc := 13) 40 dX10_decades_13 (by decide) ?_
    obtain ⟨v35, ev35, h⟩ := ob_some h
    refine ex_callS3r (pc := 15) dX10_decades_15 jX10_within lmX10_70 jsX10_within (Nat.le_of_ble_eq_true rfl) (s_X10_within (by omega)  ev35) ?_
    by_cases c36 : v35 = true
    · rw [if_pos c36] at h
      refine ex_if_ne_t (pc := 18) 23 dX10_decades_18 rfl (jz_ne_t c36) ?_
      refine ex_aload_n (pc := 23) 0 dX10_decades_23 rfl rfl ?_
      obtain ⟨v37, ev37, h⟩ := ob_some h
      refine ex_gR (pc := 24) ev37 dX10_decades_24 lfX10_10 ?_
      obtain ⟨q38, eq38, h⟩ := ob_some h
      refine ex_callV0v (pc := 27) dX10_decades_27 jX4_remember lmX10_125 jiX4_remember jvX4_remember (o_X4_remember eq38) rfl (Nat.le_of_ble_eq_true rfl) (s_X4_remember (by omega)  eq38) ?_
      refine ex_aload_n (pc := 30) 0 dX10_decades_30 rfl rfl ?_
      obtain ⟨v39, ev39, h⟩ := ob_some h
      refine ex_gR (pc := 31) ev39 dX10_decades_31 lfX10_10 ?_
      obtain ⟨v40, ev40, h⟩ := ob_some h
      refine ex_gR (pc := 34) ev40 dX10_decades_34 lfX10_74 ?_
      refine ex_iload_n (pc := 37) 1 dX10_decades_37 rfl rfl ?_
      refine ex_iconst (pc := 38) 2 dX10_decades_38 rfl ?_
      refine ex_imul (pc := 39) dX10_decades_39 ?_
      refine ex_sipush (pc := 40) 193 dX10_decades_40 (by decide) ?_
      refine ex_iadd (pc := 43) dX10_decades_43 ?_
      obtain ⟨q41, eq41, h⟩ := ob_some h
      refine ex_pF (pc := 44) eq41 dX10_decades_44 lfX10_163 rfl rfl (fun _ hq => by cases hq; rfl) ?_
      refine ex_iconst (pc := 47) 0 dX10_decades_47 rfl ?_
      refine ex_istore_n (pc := 48) [(3, .int 0), (0, .ref x0), (1, .int x1), (2, .int x2)] dX10_decades_48 rfl (by decide) rfl ?_
      refine ex_sub (lo' := [(0, .ref x0), (2, .int x2), (3, .int 0)]) [1, 3, 0] rfl ?_
      exact t_X10_decades_49 hd  _ _ _ _ _ _  h
    · rw [if_neg c36] at h
      refine ex_if_ne_f (pc := 18) dX10_decades_18 23 rfl (jz_ne_f c36) ?_
      refine ex_iconst (pc := 21) (-1) dX10_decades_21 rfl ?_
      cases h
      exact ex_ireturn (pc := 22) dX10_decades_22
noncomputable def f_X10_decades (x0 : Nat) (x1 : Int32) (x2 : Int32) (M : Mem) : Option (Int32 × Mem) := if isOb M 10 x0 = true then f_X10_decades_0 x0 x1 x2 M else none
theorem o_X10_decades {x0 : Nat} {x1 : Int32} {x2 : Int32} {M : Mem} {res : Int32 × Mem} (h : f_X10_decades x0 x1 x2 M = some res) : isO M 10 x0 := by
  unfold f_X10_decades at h
  split at h
  · rename_i hc; exact isOb_iff hc
  · cases h
set_option maxHeartbeats 4000000 in
theorem s_X10_decades {X : XV} {d : Nat} (hd : 6 ≤ d) {x0 : Nat} {x1 : Int32} {x2 : Int32} {M : Mem} {res : Int32 × Mem} (h : f_X10_decades x0 x1 x2 M = some res) : Mx X d mX10_decades [.ref x0, .int x1, .int x2] M (some (.int res.1)) res.2 := by
  obtain ⟨d, rfl⟩ : ∃ e, d = e + 1 := ⟨d - 1, by omega⟩
  unfold f_X10_decades at h
  split at h
  rotate_left
  · cases h
  refine Mx.of (by decide) (Nat.le_of_ble_eq_true rfl) (⟨_, rfl, rfl⟩) ?_
  exact ex_sub (lo' := [(0, .ref x0), (1, .int x1), (2, .int x2)]) [0, 1, 2] rfl (t_X10_decades_0 hd _ _ _ _ _  h)
noncomputable def f_X10_undo_0 (x0 : Nat) (M : Mem) : Option (Int32 × Mem) :=
  (gR M 10 x0 0).bind fun v1 =>
  (f_X4_takeBack v1 M).bind fun q2 =>
  if q2.1 = false then
  (some ((-1), q2.2))
  else
  ((gR q2.2 10 x0 0).bind fun v4 =>
  (gI q2.2 4 v4 3).bind fun v5 =>
  some (v5, q2.2))
set_option maxHeartbeats 4000000 in
theorem t_X10_undo_0 {X : XV} {d : Nat} (hd : 4 ≤ d + 1) : ∀ (x0 : Nat) (M : Mem) (res : Int32 × Mem), f_X10_undo_0  x0 M = some res → Ex X (d + 1) mX10_undo 0 [(0, .ref x0)] [] M (some (.int res.1)) res.2 := by
  intro x0 M res  h
  unfold f_X10_undo_0 at h
  refine ex_aload_n (pc := 0) 0 dX10_undo_0 rfl rfl ?_
  obtain ⟨v1, ev1, h⟩ := ob_some h
  refine ex_gR (pc := 1) ev1 dX10_undo_1 lfX10_10 ?_
  obtain ⟨q2, eq2, h⟩ := ob_some h
  refine ex_callV0r (pc := 4) dX10_undo_4 jX4_takeBack lmX10_182 jiX4_takeBack jvX4_takeBack (o_X4_takeBack eq2) rfl (Nat.le_of_ble_eq_true rfl) (s_X4_takeBack (by omega)  eq2) ?_
  by_cases c3 : q2.1 = false
  · rw [if_pos c3] at h
    refine ex_if_eq_t (pc := 7) 20 dX10_undo_7 rfl (jz_eq_t c3) ?_
    refine ex_iconst (pc := 20) (-1) dX10_undo_20 rfl ?_
    cases h
    exact ex_ireturn (pc := 21) dX10_undo_21
  · rw [if_neg c3] at h
    refine ex_if_eq_f (pc := 7) dX10_undo_7 20 rfl (jz_eq_f c3) ?_
    refine ex_aload_n (pc := 10) 0 dX10_undo_10 rfl rfl ?_
    obtain ⟨v4, ev4, h⟩ := ob_some h
    refine ex_gR (pc := 11) ev4 dX10_undo_11 lfX10_10 ?_
    obtain ⟨v5, ev5, h⟩ := ob_some h
    refine ex_gI (pc := 14) ev5 dX10_undo_14 lfX10_185 ?_
    refine ex_goto (pc := 17) 21 dX10_undo_17 rfl ?_
    cases h
    exact ex_ireturn (pc := 21) dX10_undo_21
noncomputable def f_X10_undo (x0 : Nat) (M : Mem) : Option (Int32 × Mem) := if isOb M 10 x0 = true then f_X10_undo_0 x0 M else none
theorem o_X10_undo {x0 : Nat} {M : Mem} {res : Int32 × Mem} (h : f_X10_undo x0 M = some res) : isO M 10 x0 := by
  unfold f_X10_undo at h
  split at h
  · rename_i hc; exact isOb_iff hc
  · cases h
set_option maxHeartbeats 4000000 in
theorem s_X10_undo {X : XV} {d : Nat} (hd : 4 ≤ d) {x0 : Nat} {M : Mem} {res : Int32 × Mem} (h : f_X10_undo x0 M = some res) : Mx X d mX10_undo [.ref x0] M (some (.int res.1)) res.2 := by
  obtain ⟨d, rfl⟩ : ∃ e, d = e + 1 := ⟨d - 1, by omega⟩
  unfold f_X10_undo at h
  split at h
  rotate_left
  · cases h
  refine Mx.of (by decide) (Nat.le_of_ble_eq_true rfl) (⟨_, rfl, rfl⟩) ?_
  exact ex_sub (lo' := [(0, .ref x0)]) [0] rfl (t_X10_undo_0 hd _ _ _  h)
noncomputable def f_X10_of_0 (x0 : Nat) (x1 : Int32) (x2 : Int32) (M : Mem) : Option (Int32 × Mem) :=
  (gR M 10 x0 0).bind fun v1 =>
  (gR M 4 v1 0).bind fun v2 =>
  (f_X9_has v2 x1 M).bind fun v3 =>
  if v3 = true then
  (if x2 = 0 then
  ((gR M 9 v2 4).bind fun v6 =>
  (rI M v6 x1).bind fun v7 =>
  some (v7, M))
  else
  (if x2 = 1 then
  ((gR M 9 v2 6).bind fun v9 =>
  (rI M v9 x1).bind fun v10 =>
  some (v10, M))
  else
  (if x2 = 2 then
  ((gR M 9 v2 7).bind fun v12 =>
  (rI M v12 x1).bind fun v13 =>
  some (v13, M))
  else
  (if x2 = 3 then
  ((gR M 9 v2 8).bind fun v15 =>
  (rI M v15 x1).bind fun v16 =>
  some (v16, M))
  else
  (if x2 = 4 then
  ((gR M 9 v2 9).bind fun v18 =>
  (rI M v18 x1).bind fun v19 =>
  some (v19, M))
  else
  (if x2 = 5 then
  ((gR M 10 x0 4).bind fun v21 =>
  (gR M 10 x0 0).bind fun v22 =>
  (f_X4_theText v22 M).bind fun v23 =>
  (f_X0_loose v21 v23 v2 x1 M).bind fun q24 =>
  some (q24.1, q24.2))
  else
  (if x2 = 6 then
  ((gR M 10 x0 4).bind fun v26 =>
  (gR M 10 x0 0).bind fun v27 =>
  (f_X4_theText v27 M).bind fun v28 =>
  (f_X0_believes v26 v28 v2 x1 M).bind fun q29 =>
  some (q29.1, q29.2))
  else
  (if x2 = 7 then
  ((gR M 10 x0 4).bind fun v31 =>
  (gR M 10 x0 0).bind fun v32 =>
  (f_X4_theText v32 M).bind fun v33 =>
  (f_X0_wears v31 v33 v2 x1 M).bind fun q34 =>
  some (q34.1, q34.2))
  else
  (if 10 ≤ x2 then
  ((f_X9_rollDigit v2 x1 (x2 - 10) M).bind fun v36 =>
  some (v36, M))
  else
  (some ((-1), M)))))))))))
  else
  (some ((-1), M))
set_option maxHeartbeats 4000000 in
theorem t_X10_of_0 {X : XV} {d : Nat} (hd : 5 ≤ d + 1) : ∀ (x0 : Nat) (x1 : Int32) (x2 : Int32) (M : Mem) (res : Int32 × Mem), f_X10_of_0  x0 x1 x2 M = some res → Ex X (d + 1) mX10_of 0 [(0, .ref x0), (1, .int x1), (2, .int x2)] [] M (some (.int res.1)) res.2 := by
  intro x0 x1 x2 M res  h
  unfold f_X10_of_0 at h
  refine ex_aload_n (pc := 0) 0 dX10_of_0 rfl rfl ?_
  obtain ⟨v1, ev1, h⟩ := ob_some h
  refine ex_gR (pc := 1) ev1 dX10_of_1 lfX10_10 ?_
  obtain ⟨v2, ev2, h⟩ := ob_some h
  refine ex_gR (pc := 4) ev2 dX10_of_4 lfX10_74 ?_
  refine ex_astore_n (pc := 7) [(3, .ref v2), (0, .ref x0), (1, .int x1), (2, .int x2)] dX10_of_7 rfl (by decide) rfl ?_
  refine ex_aload_n (pc := 8) 0 dX10_of_8 rfl rfl ?_
  refine ex_iload_n (pc := 9) 2 dX10_of_9 rfl rfl ?_
  obtain ⟨v3, ev3, h⟩ := ob_some h
  refine ex_callV1r (pc := 10) dX10_of_10 jX9_has lmX10_135 jiX9_has jvX9_has (o_X9_has ev3) rfl (Nat.le_of_ble_eq_true rfl) (s_X9_has (by omega)  ev3) ?_
  by_cases c4 : v3 = true
  · rw [if_pos c4] at h
    refine ex_if_ne_t (pc := 13) 18 dX10_of_13 rfl (jz_ne_t c4) ?_
    refine ex_iload_n (pc := 18) 3 dX10_of_18 rfl rfl ?_
    by_cases c5 : x2 = 0
    · rw [if_pos c5] at h
      refine ex_tabIn (pc := 19) 64 dX10_of_19 (by rw [c5]; decide) (by rw [c5]; decide) (by rw [c5]; rfl) rfl ?_
      refine ex_aload_n (pc := 64) 0 dX10_of_64 rfl rfl ?_
      obtain ⟨v6, ev6, h⟩ := ob_some h
      refine ex_gR (pc := 65) ev6 dX10_of_65 lfX10_188 ?_
      refine ex_iload_n (pc := 68) 2 dX10_of_68 rfl rfl ?_
      obtain ⟨v7, ev7, h⟩ := ob_some h
      refine ex_rI (pc := 69) ev7 dX10_of_69 ?_
      cases h
      exact ex_ireturn (pc := 70) dX10_of_70
    · rw [if_neg c5] at h
      by_cases c8 : x2 = 1
      · rw [if_pos c8] at h
        refine ex_tabIn (pc := 19) 71 dX10_of_19 (by rw [c8]; decide) (by rw [c8]; decide) (by rw [c8]; rfl) rfl ?_
        refine ex_aload_n (pc := 71) 0 dX10_of_71 rfl rfl ?_
        obtain ⟨v9, ev9, h⟩ := ob_some h
        refine ex_gR (pc := 72) ev9 dX10_of_72 lfX10_191 ?_
        refine ex_iload_n (pc := 75) 2 dX10_of_75 rfl rfl ?_
        obtain ⟨v10, ev10, h⟩ := ob_some h
        refine ex_rI (pc := 76) ev10 dX10_of_76 ?_
        cases h
        exact ex_ireturn (pc := 77) dX10_of_77
      · rw [if_neg c8] at h
        by_cases c11 : x2 = 2
        · rw [if_pos c11] at h
          refine ex_tabIn (pc := 19) 78 dX10_of_19 (by rw [c11]; decide) (by rw [c11]; decide) (by rw [c11]; rfl) rfl ?_
          refine ex_aload_n (pc := 78) 0 dX10_of_78 rfl rfl ?_
          obtain ⟨v12, ev12, h⟩ := ob_some h
          refine ex_gR (pc := 79) ev12 dX10_of_79 lfX10_138 ?_
          refine ex_iload_n (pc := 82) 2 dX10_of_82 rfl rfl ?_
          obtain ⟨v13, ev13, h⟩ := ob_some h
          refine ex_rI (pc := 83) ev13 dX10_of_83 ?_
          cases h
          exact ex_ireturn (pc := 84) dX10_of_84
        · rw [if_neg c11] at h
          by_cases c14 : x2 = 3
          · rw [if_pos c14] at h
            refine ex_tabIn (pc := 19) 85 dX10_of_19 (by rw [c14]; decide) (by rw [c14]; decide) (by rw [c14]; rfl) rfl ?_
            refine ex_aload_n (pc := 85) 0 dX10_of_85 rfl rfl ?_
            obtain ⟨v15, ev15, h⟩ := ob_some h
            refine ex_gR (pc := 86) ev15 dX10_of_86 lfX10_132 ?_
            refine ex_iload_n (pc := 89) 2 dX10_of_89 rfl rfl ?_
            obtain ⟨v16, ev16, h⟩ := ob_some h
            refine ex_rI (pc := 90) ev16 dX10_of_90 ?_
            cases h
            exact ex_ireturn (pc := 91) dX10_of_91
          · rw [if_neg c14] at h
            by_cases c17 : x2 = 4
            · rw [if_pos c17] at h
              refine ex_tabIn (pc := 19) 92 dX10_of_19 (by rw [c17]; decide) (by rw [c17]; decide) (by rw [c17]; rfl) rfl ?_
              refine ex_aload_n (pc := 92) 0 dX10_of_92 rfl rfl ?_
              obtain ⟨v18, ev18, h⟩ := ob_some h
              refine ex_gR (pc := 93) ev18 dX10_of_93 lfX10_144 ?_
              refine ex_iload_n (pc := 96) 2 dX10_of_96 rfl rfl ?_
              obtain ⟨v19, ev19, h⟩ := ob_some h
              refine ex_rI (pc := 97) ev19 dX10_of_97 ?_
              cases h
              exact ex_ireturn (pc := 98) dX10_of_98
            · rw [if_neg c17] at h
              by_cases c20 : x2 = 5
              · rw [if_pos c20] at h
                refine ex_tabIn (pc := 19) 99 dX10_of_19 (by rw [c20]; decide) (by rw [c20]; decide) (by rw [c20]; rfl) rfl ?_
                refine ex_aload_n (pc := 99) 1 dX10_of_99 rfl rfl ?_
                obtain ⟨v21, ev21, h⟩ := ob_some h
                refine ex_gR (pc := 100) ev21 dX10_of_100 lfX10_38 ?_
                refine ex_aload_n (pc := 103) 1 dX10_of_103 rfl rfl ?_
                obtain ⟨v22, ev22, h⟩ := ob_some h
                refine ex_gR (pc := 104) ev22 dX10_of_104 lfX10_10 ?_
                obtain ⟨v23, ev23, h⟩ := ob_some h
                refine ex_callV0r (pc := 107) dX10_of_107 jX4_theText lmX10_169 jiX4_theText jvX4_theText (o_X4_theText ev23) rfl (Nat.le_of_ble_eq_true rfl) (s_X4_theText (by omega)  ev23) ?_
                refine ex_aload_n (pc := 110) 0 dX10_of_110 rfl rfl ?_
                refine ex_iload_n (pc := 111) 2 dX10_of_111 rfl rfl ?_
                obtain ⟨q24, eq24, h⟩ := ob_some h
                refine ex_callV3r (pc := 112) dX10_of_112 jX0_loose lmX10_194 jiX0_loose jvX0_loose (o_X0_loose eq24) rfl (Nat.le_of_ble_eq_true rfl) (s_X0_loose (by omega)  eq24) ?_
                cases h
                exact ex_ireturn (pc := 115) dX10_of_115
              · rw [if_neg c20] at h
                by_cases c25 : x2 = 6
                · rw [if_pos c25] at h
                  refine ex_tabIn (pc := 19) 116 dX10_of_19 (by rw [c25]; decide) (by rw [c25]; decide) (by rw [c25]; rfl) rfl ?_
                  refine ex_aload_n (pc := 116) 1 dX10_of_116 rfl rfl ?_
                  obtain ⟨v26, ev26, h⟩ := ob_some h
                  refine ex_gR (pc := 117) ev26 dX10_of_117 lfX10_38 ?_
                  refine ex_aload_n (pc := 120) 1 dX10_of_120 rfl rfl ?_
                  obtain ⟨v27, ev27, h⟩ := ob_some h
                  refine ex_gR (pc := 121) ev27 dX10_of_121 lfX10_10 ?_
                  obtain ⟨v28, ev28, h⟩ := ob_some h
                  refine ex_callV0r (pc := 124) dX10_of_124 jX4_theText lmX10_169 jiX4_theText jvX4_theText (o_X4_theText ev28) rfl (Nat.le_of_ble_eq_true rfl) (s_X4_theText (by omega)  ev28) ?_
                  refine ex_aload_n (pc := 127) 0 dX10_of_127 rfl rfl ?_
                  refine ex_iload_n (pc := 128) 2 dX10_of_128 rfl rfl ?_
                  obtain ⟨q29, eq29, h⟩ := ob_some h
                  refine ex_callV3r (pc := 129) dX10_of_129 jX0_believes lmX10_198 jiX0_believes jvX0_believes (o_X0_believes eq29) rfl (Nat.le_of_ble_eq_true rfl) (s_X0_believes (by omega)  eq29) ?_
                  cases h
                  exact ex_ireturn (pc := 132) dX10_of_132
                · rw [if_neg c25] at h
                  by_cases c30 : x2 = 7
                  · rw [if_pos c30] at h
                    refine ex_tabIn (pc := 19) 133 dX10_of_19 (by rw [c30]; decide) (by rw [c30]; decide) (by rw [c30]; rfl) rfl ?_
                    refine ex_aload_n (pc := 133) 1 dX10_of_133 rfl rfl ?_
                    obtain ⟨v31, ev31, h⟩ := ob_some h
                    refine ex_gR (pc := 134) ev31 dX10_of_134 lfX10_38 ?_
                    refine ex_aload_n (pc := 137) 1 dX10_of_137 rfl rfl ?_
                    obtain ⟨v32, ev32, h⟩ := ob_some h
                    refine ex_gR (pc := 138) ev32 dX10_of_138 lfX10_10 ?_
                    obtain ⟨v33, ev33, h⟩ := ob_some h
                    refine ex_callV0r (pc := 141) dX10_of_141 jX4_theText lmX10_169 jiX4_theText jvX4_theText (o_X4_theText ev33) rfl (Nat.le_of_ble_eq_true rfl) (s_X4_theText (by omega)  ev33) ?_
                    refine ex_aload_n (pc := 144) 0 dX10_of_144 rfl rfl ?_
                    refine ex_iload_n (pc := 145) 2 dX10_of_145 rfl rfl ?_
                    obtain ⟨q34, eq34, h⟩ := ob_some h
                    refine ex_callV3r (pc := 146) dX10_of_146 jX0_wears lmX10_201 jiX0_wears jvX0_wears (o_X0_wears eq34) rfl (Nat.le_of_ble_eq_true rfl) (s_X0_wears (by omega)  eq34) ?_
                    cases h
                    exact ex_ireturn (pc := 149) dX10_of_149
                  · rw [if_neg c30] at h
                    have zc5 : ¬ (x2).toInt = 0 := fun e9 => c5 (i32_of e9 (by decide))
                    have zc8 : ¬ (x2).toInt = 1 := fun e9 => c8 (i32_of e9 (by decide))
                    have zc11 : ¬ (x2).toInt = 2 := fun e9 => c11 (i32_of e9 (by decide))
                    have zc14 : ¬ (x2).toInt = 3 := fun e9 => c14 (i32_of e9 (by decide))
                    have zc17 : ¬ (x2).toInt = 4 := fun e9 => c17 (i32_of e9 (by decide))
                    have zc20 : ¬ (x2).toInt = 5 := fun e9 => c20 (i32_of e9 (by decide))
                    have zc25 : ¬ (x2).toInt = 6 := fun e9 => c25 (i32_of e9 (by decide))
                    have zc30 : ¬ (x2).toInt = 7 := fun e9 => c30 (i32_of e9 (by decide))
                    refine ex_tabOut (pc := 19) 150 dX10_of_19 (by omega) rfl ?_
                    refine ex_iload_n (pc := 150) 3 dX10_of_150 rfl rfl ?_
                    refine ex_bipush (pc := 151) 10 dX10_of_151 (by decide) ?_
                    by_cases c35 : 10 ≤ x2
                    · rw [if_pos c35] at h
                      refine ex_icmp_ge_t (pc := 153) 160 dX10_of_153 rfl c35 ?_
                      refine ex_aload_n (pc := 160) 0 dX10_of_160 rfl rfl ?_
                      refine ex_iload_n (pc := 161) 2 dX10_of_161 rfl rfl ?_
                      refine ex_iload_n (pc := 162) 3 dX10_of_162 rfl rfl ?_
                      refine ex_bipush (pc := 163) 10 dX10_of_163 (by decide) ?_
                      refine ex_isub (pc := 165) dX10_of_165 ?_
                      obtain ⟨v36, ev36, h⟩ := ob_some h
                      refine ex_callV2r (pc := 166) dX10_of_166 jX9_rollDigit lmX10_204 jiX9_rollDigit jvX9_rollDigit (o_X9_rollDigit ev36) rfl (Nat.le_of_ble_eq_true rfl) (s_X9_rollDigit (by omega)  ev36) ?_
                      cases h
                      exact ex_ireturn (pc := 169) dX10_of_169
                    · rw [if_neg c35] at h
                      refine ex_icmp_ge_f (pc := 153) dX10_of_153 160 rfl c35 ?_
                      refine ex_iconst (pc := 156) (-1) dX10_of_156 rfl ?_
                      refine ex_goto (pc := 157) 169 dX10_of_157 rfl ?_
                      cases h
                      exact ex_ireturn (pc := 169) dX10_of_169
  · rw [if_neg c4] at h
    refine ex_if_ne_f (pc := 13) dX10_of_13 18 rfl (jz_ne_f c4) ?_
    refine ex_iconst (pc := 16) (-1) dX10_of_16 rfl ?_
    cases h
    exact ex_ireturn (pc := 17) dX10_of_17
noncomputable def f_X10_of (x0 : Nat) (x1 : Int32) (x2 : Int32) (M : Mem) : Option (Int32 × Mem) := if isOb M 10 x0 = true then f_X10_of_0 x0 x1 x2 M else none
theorem o_X10_of {x0 : Nat} {x1 : Int32} {x2 : Int32} {M : Mem} {res : Int32 × Mem} (h : f_X10_of x0 x1 x2 M = some res) : isO M 10 x0 := by
  unfold f_X10_of at h
  split at h
  · rename_i hc; exact isOb_iff hc
  · cases h
set_option maxHeartbeats 4000000 in
theorem s_X10_of {X : XV} {d : Nat} (hd : 5 ≤ d) {x0 : Nat} {x1 : Int32} {x2 : Int32} {M : Mem} {res : Int32 × Mem} (h : f_X10_of x0 x1 x2 M = some res) : Mx X d mX10_of [.ref x0, .int x1, .int x2] M (some (.int res.1)) res.2 := by
  obtain ⟨d, rfl⟩ : ∃ e, d = e + 1 := ⟨d - 1, by omega⟩
  unfold f_X10_of at h
  split at h
  rotate_left
  · cases h
  refine Mx.of (by decide) (Nat.le_of_ble_eq_true rfl) (⟨_, rfl, rfl⟩) ?_
  exact ex_sub (lo' := [(0, .ref x0), (1, .int x1), (2, .int x2)]) [0, 1, 2] rfl (t_X10_of_0 hd _ _ _ _ _  h)
noncomputable def f_X10_told_0 (x0 : Nat) (x1 : Int32) (x2 : Bool) (M : Mem) : Option (Int32) :=
  (f_X10_within x1 0 9).bind fun v1 =>
  if v1 = false then
  (some (-1))
  else
  ((gR M 10 x0 0).bind fun v3 =>
  (gR M 4 v3 7).bind fun v4 =>
  (f_X10_ruleIndex x1 x2).bind fun v5 =>
  (rI M v4 v5).bind fun v6 =>
  some v6)
set_option maxHeartbeats 4000000 in
theorem t_X10_told_0 {X : XV} {d : Nat} (hd : 2 ≤ d + 1) : ∀ (x0 : Nat) (x1 : Int32) (x2 : Bool) (M : Mem) (res : Int32), f_X10_told_0  x0 x1 x2 M = some res → Ex X (d + 1) mX10_told 0 [(0, .ref x0), (1, .int x1), (2, .int (jz x2))] [] M (some (.int res)) M := by
  intro x0 x1 x2 M res  h
  unfold f_X10_told_0 at h
  refine ex_iload_n (pc := 0) 1 dX10_told_0 rfl rfl ?_
  refine ex_iconst (pc := 1) 0 dX10_told_1 rfl ?_
  refine ex_bipush (pc := 2) 9 dX10_told_2 (by decide) ?_
  obtain ⟨v1, ev1, h⟩ := ob_some h
  refine ex_callS3r (pc := 4) dX10_told_4 jX10_within lmX10_70 jsX10_within (Nat.le_of_ble_eq_true rfl) (s_X10_within (by omega)  ev1) ?_
  by_cases c2 : v1 = false
  · rw [if_pos c2] at h
    refine ex_if_eq_t (pc := 7) 26 dX10_told_7 rfl (jz_eq_t c2) ?_
    refine ex_iconst (pc := 26) (-1) dX10_told_26 rfl ?_
    cases h
    exact ex_ireturn (pc := 27) dX10_told_27
  · rw [if_neg c2] at h
    refine ex_if_eq_f (pc := 7) dX10_told_7 26 rfl (jz_eq_f c2) ?_
    refine ex_aload_n (pc := 10) 0 dX10_told_10 rfl rfl ?_
    obtain ⟨v3, ev3, h⟩ := ob_some h
    refine ex_gR (pc := 11) ev3 dX10_told_11 lfX10_10 ?_
    obtain ⟨v4, ev4, h⟩ := ob_some h
    refine ex_gR (pc := 14) ev4 dX10_told_14 lfX10_81 ?_
    refine ex_iload_n (pc := 17) 1 dX10_told_17 rfl rfl ?_
    refine ex_iload_n (pc := 18) 2 dX10_told_18 rfl rfl ?_
    obtain ⟨v5, ev5, h⟩ := ob_some h
    refine ex_callS2r (pc := 19) dX10_told_19 jX10_ruleIndex lmX10_85 jsX10_ruleIndex (Nat.le_of_ble_eq_true rfl) (s_X10_ruleIndex (by omega)  ev5) ?_
    obtain ⟨v6, ev6, h⟩ := ob_some h
    refine ex_rI (pc := 22) ev6 dX10_told_22 ?_
    refine ex_goto (pc := 23) 27 dX10_told_23 rfl ?_
    cases h
    exact ex_ireturn (pc := 27) dX10_told_27
noncomputable def f_X10_told (x0 : Nat) (x1 : Int32) (x2 : Bool) (M : Mem) : Option (Int32) := if isOb M 10 x0 = true then f_X10_told_0 x0 x1 x2 M else none
theorem o_X10_told {x0 : Nat} {x1 : Int32} {x2 : Bool} {M : Mem} {res : Int32} (h : f_X10_told x0 x1 x2 M = some res) : isO M 10 x0 := by
  unfold f_X10_told at h
  split at h
  · rename_i hc; exact isOb_iff hc
  · cases h
set_option maxHeartbeats 4000000 in
theorem s_X10_told {X : XV} {d : Nat} (hd : 2 ≤ d) {x0 : Nat} {x1 : Int32} {x2 : Bool} {M : Mem} {res : Int32} (h : f_X10_told x0 x1 x2 M = some res) : Mx X d mX10_told [.ref x0, .int x1, .int (jz x2)] M (some (.int res)) M := by
  obtain ⟨d, rfl⟩ : ∃ e, d = e + 1 := ⟨d - 1, by omega⟩
  unfold f_X10_told at h
  split at h
  rotate_left
  · cases h
  refine Mx.of (by decide) (Nat.le_of_ble_eq_true rfl) (⟨_, rfl, rfl⟩) ?_
  exact ex_sub (lo' := [(0, .ref x0), (1, .int x1), (2, .int (jz x2))]) [0, 1, 2] rfl (t_X10_told_0 hd _ _ _ _ _  h)
noncomputable def f_X10_is_0 (x0 : Nat) (x1 : Int32) (M : Mem) : Option (Int32) :=
  if x1 = 0 then
  ((gR M 10 x0 0).bind fun v6 =>
  (gR M 4 v6 0).bind fun v7 =>
  (gI M 9 v7 1).bind fun v8 =>
  some v8)
  else
  (if x1 = 1 then
  ((gR M 10 x0 0).bind fun v3 =>
  (gR M 4 v3 0).bind fun v4 =>
  (gI M 9 v4 2).bind fun v5 =>
  some v5)
  else
  (some (-2)))
set_option maxHeartbeats 4000000 in
theorem t_X10_is_0 {X : XV} {d : Nat} (hd : 1 ≤ d + 1) : ∀ (x0 : Nat) (x1 : Int32) (M : Mem) (res : Int32), f_X10_is_0  x0 x1 M = some res → Ex X (d + 1) mX10_is 0 [(0, .ref x0), (1, .int x1)] [] M (some (.int res)) M := by
  intro x0 x1 M res  h
  unfold f_X10_is_0 at h
  refine ex_iload_n (pc := 0) 1 dX10_is_0 rfl rfl ?_
  by_cases c1 : x1 = 0
  · rw [if_pos c1] at h
    refine ex_if_ne_f (pc := 1) dX10_is_1 15 rfl c1 ?_
    refine ex_aload_n (pc := 4) 0 dX10_is_4 rfl rfl ?_
    obtain ⟨v6, ev6, h⟩ := ob_some h
    refine ex_gR (pc := 5) ev6 dX10_is_5 lfX10_10 ?_
    obtain ⟨v7, ev7, h⟩ := ob_some h
    refine ex_gR (pc := 8) ev7 dX10_is_8 lfX10_74 ?_
    obtain ⟨v8, ev8, h⟩ := ob_some h
    refine ex_gI (pc := 11) ev8 dX10_is_11 lfX10_147 ?_
    cases h
    exact ex_ireturn (pc := 14) dX10_is_14
  · rw [if_neg c1] at h
    refine ex_if_ne_t (pc := 1) 15 dX10_is_1 rfl c1 ?_
    refine ex_iload_n (pc := 15) 1 dX10_is_15 rfl rfl ?_
    refine ex_iconst (pc := 16) 1 dX10_is_16 rfl ?_
    by_cases c2 : x1 = 1
    · rw [if_pos c2] at h
      refine ex_icmp_ne_f (pc := 17) dX10_is_17 33 rfl c2 ?_
      refine ex_aload_n (pc := 20) 0 dX10_is_20 rfl rfl ?_
      obtain ⟨v3, ev3, h⟩ := ob_some h
      refine ex_gR (pc := 21) ev3 dX10_is_21 lfX10_10 ?_
      obtain ⟨v4, ev4, h⟩ := ob_some h
      refine ex_gR (pc := 24) ev4 dX10_is_24 lfX10_74 ?_
      obtain ⟨v5, ev5, h⟩ := ob_some h
      refine ex_gI (pc := 27) ev5 dX10_is_27 lfX10_163 ?_
      refine ex_goto (pc := 30) 35 dX10_is_30 rfl ?_
      cases h
      exact ex_ireturn (pc := 35) dX10_is_35
    · rw [if_neg c2] at h
      refine ex_icmp_ne_t (pc := 17) 33 dX10_is_17 rfl c2 ?_
      refine ex_bipush (pc := 33) (-2) dX10_is_33 (by decide) ?_
      cases h
      exact ex_ireturn (pc := 35) dX10_is_35
noncomputable def f_X10_is (x0 : Nat) (x1 : Int32) (M : Mem) : Option (Int32) := if isOb M 10 x0 = true then f_X10_is_0 x0 x1 M else none
theorem o_X10_is {x0 : Nat} {x1 : Int32} {M : Mem} {res : Int32} (h : f_X10_is x0 x1 M = some res) : isO M 10 x0 := by
  unfold f_X10_is at h
  split at h
  · rename_i hc; exact isOb_iff hc
  · cases h
set_option maxHeartbeats 4000000 in
theorem s_X10_is {X : XV} {d : Nat} (hd : 1 ≤ d) {x0 : Nat} {x1 : Int32} {M : Mem} {res : Int32} (h : f_X10_is x0 x1 M = some res) : Mx X d mX10_is [.ref x0, .int x1] M (some (.int res)) M := by
  obtain ⟨d, rfl⟩ : ∃ e, d = e + 1 := ⟨d - 1, by omega⟩
  unfold f_X10_is at h
  split at h
  rotate_left
  · cases h
  refine Mx.of (by decide) (Nat.le_of_ble_eq_true rfl) (⟨_, rfl, rfl⟩) ?_
  exact ex_sub (lo' := [(0, .ref x0), (1, .int x1)]) [0, 1] rfl (t_X10_is_0 hd _ _ _ _  h)
noncomputable def f_X10_book_0 (x0 : Nat) (x1 : Int32) (x2 : Int32) (M : Mem) : Option (Int32) :=
  if x1 = (-1) then
  ((gR M 10 x0 0).bind fun v13 =>
  (gR M 4 v13 0).bind fun v14 =>
  (gI M 9 v14 3).bind fun v15 =>
  some v15)
  else
  ((gR M 10 x0 0).bind fun v2 =>
  (gR M 4 v2 0).bind fun v3 =>
  (gI M 9 v3 3).bind fun v4 =>
  (f_X10_within x1 0 (v4 - 1)).bind fun v5 =>
  if v5 = false then
  (some (-2))
  else
  ((f_X10_within x2 0 3).bind fun v7 =>
  if v7 = true then
  ((gR M 10 x0 0).bind fun v9 =>
  (gR M 4 v9 0).bind fun v10 =>
  (gR M 9 v10 11).bind fun v11 =>
  (rI M v11 ((x1 * 4) + x2)).bind fun v12 =>
  some v12)
  else
  (some (-2))))
set_option maxHeartbeats 4000000 in
theorem t_X10_book_0 {X : XV} {d : Nat} (hd : 2 ≤ d + 1) : ∀ (x0 : Nat) (x1 : Int32) (x2 : Int32) (M : Mem) (res : Int32), f_X10_book_0  x0 x1 x2 M = some res → Ex X (d + 1) mX10_book 0 [(0, .ref x0), (1, .int x1), (2, .int x2)] [] M (some (.int res)) M := by
  intro x0 x1 x2 M res  h
  unfold f_X10_book_0 at h
  refine ex_iload_n (pc := 0) 1 dX10_book_0 rfl rfl ?_
  refine ex_iconst (pc := 1) (-1) dX10_book_1 rfl ?_
  by_cases c1 : x1 = (-1)
  · rw [if_pos c1] at h
    refine ex_icmp_ne_f (pc := 2) dX10_book_2 16 rfl c1 ?_
    refine ex_aload_n (pc := 5) 0 dX10_book_5 rfl rfl ?_
    obtain ⟨v13, ev13, h⟩ := ob_some h
    refine ex_gR (pc := 6) ev13 dX10_book_6 lfX10_10 ?_
    obtain ⟨v14, ev14, h⟩ := ob_some h
    refine ex_gR (pc := 9) ev14 dX10_book_9 lfX10_74 ?_
    obtain ⟨v15, ev15, h⟩ := ob_some h
    refine ex_gI (pc := 12) ev15 dX10_book_12 lfX10_207 ?_
    cases h
    exact ex_ireturn (pc := 15) dX10_book_15
  · rw [if_neg c1] at h
    refine ex_icmp_ne_t (pc := 2) 16 dX10_book_2 rfl c1 ?_
    refine ex_iload_n (pc := 16) 1 dX10_book_16 rfl rfl ?_
    refine ex_iconst (pc := 17) 0 dX10_book_17 rfl ?_
    refine ex_aload_n (pc := 18) 0 dX10_book_18 rfl rfl ?_
    obtain ⟨v2, ev2, h⟩ := ob_some h
    refine ex_gR (pc := 19) ev2 dX10_book_19 lfX10_10 ?_
    obtain ⟨v3, ev3, h⟩ := ob_some h
    refine ex_gR (pc := 22) ev3 dX10_book_22 lfX10_74 ?_
    obtain ⟨v4, ev4, h⟩ := ob_some h
    refine ex_gI (pc := 25) ev4 dX10_book_25 lfX10_207 ?_
    refine ex_iconst (pc := 28) 1 dX10_book_28 rfl ?_
    refine ex_isub (pc := 29) dX10_book_29 ?_
    obtain ⟨v5, ev5, h⟩ := ob_some h
    refine ex_callS3r (pc := 30) dX10_book_30 jX10_within lmX10_70 jsX10_within (Nat.le_of_ble_eq_true rfl) (s_X10_within (by omega)  ev5) ?_
    by_cases c6 : v5 = false
    · rw [if_pos c6] at h
      refine ex_if_eq_t (pc := 33) 45 dX10_book_33 rfl (jz_eq_t c6) ?_
      refine ex_bipush (pc := 45) (-2) dX10_book_45 (by decide) ?_
      cases h
      exact ex_ireturn (pc := 47) dX10_book_47
    · rw [if_neg c6] at h
      refine ex_if_eq_f (pc := 33) dX10_book_33 45 rfl (jz_eq_f c6) ?_
      refine ex_iload_n (pc := 36) 2 dX10_book_36 rfl rfl ?_
      refine ex_iconst (pc := 37) 0 dX10_book_37 rfl ?_
      refine ex_iconst (pc := 38) 3 dX10_book_38 rfl ?_
      obtain ⟨v7, ev7, h⟩ := ob_some h
      refine ex_callS3r (pc := 39) dX10_book_39 jX10_within lmX10_70 jsX10_within (Nat.le_of_ble_eq_true rfl) (s_X10_within (by omega)  ev7) ?_
      by_cases c8 : v7 = true
      · rw [if_pos c8] at h
        refine ex_if_ne_t (pc := 42) 48 dX10_book_42 rfl (jz_ne_t c8) ?_
        refine ex_aload_n (pc := 48) 0 dX10_book_48 rfl rfl ?_
        obtain ⟨v9, ev9, h⟩ := ob_some h
        refine ex_gR (pc := 49) ev9 dX10_book_49 lfX10_10 ?_
        obtain ⟨v10, ev10, h⟩ := ob_some h
        refine ex_gR (pc := 52) ev10 dX10_book_52 lfX10_74 ?_
        obtain ⟨v11, ev11, h⟩ := ob_some h
        refine ex_gR (pc := 55) ev11 dX10_book_55 lfX10_210 ?_
        refine ex_iload_n (pc := 58) 1 dX10_book_58 rfl rfl ?_
        refine ex_iconst (pc := 59) 4 dX10_book_59 rfl ?_
        refine ex_imul (pc := 60) dX10_book_60 ?_
        refine ex_iload_n (pc := 61) 2 dX10_book_61 rfl rfl ?_
        refine ex_iadd (pc := 62) dX10_book_62 ?_
        obtain ⟨v12, ev12, h⟩ := ob_some h
        refine ex_rI (pc := 63) ev12 dX10_book_63 ?_
        cases h
        exact ex_ireturn (pc := 64) dX10_book_64
      · rw [if_neg c8] at h
        refine ex_if_ne_f (pc := 42) dX10_book_42 48 rfl (jz_ne_f c8) ?_
        refine ex_bipush (pc := 45) (-2) dX10_book_45 (by decide) ?_
        cases h
        exact ex_ireturn (pc := 47) dX10_book_47
noncomputable def f_X10_book (x0 : Nat) (x1 : Int32) (x2 : Int32) (M : Mem) : Option (Int32) := if isOb M 10 x0 = true then f_X10_book_0 x0 x1 x2 M else none
theorem o_X10_book {x0 : Nat} {x1 : Int32} {x2 : Int32} {M : Mem} {res : Int32} (h : f_X10_book x0 x1 x2 M = some res) : isO M 10 x0 := by
  unfold f_X10_book at h
  split at h
  · rename_i hc; exact isOb_iff hc
  · cases h
set_option maxHeartbeats 4000000 in
theorem s_X10_book {X : XV} {d : Nat} (hd : 2 ≤ d) {x0 : Nat} {x1 : Int32} {x2 : Int32} {M : Mem} {res : Int32} (h : f_X10_book x0 x1 x2 M = some res) : Mx X d mX10_book [.ref x0, .int x1, .int x2] M (some (.int res)) M := by
  obtain ⟨d, rfl⟩ : ∃ e, d = e + 1 := ⟨d - 1, by omega⟩
  unfold f_X10_book at h
  split at h
  rotate_left
  · cases h
  refine Mx.of (by decide) (Nat.le_of_ble_eq_true rfl) (⟨_, rfl, rfl⟩) ?_
  exact ex_sub (lo' := [(0, .ref x0), (1, .int x1), (2, .int x2)]) [0, 1, 2] rfl (t_X10_book_0 hd _ _ _ _ _  h)
noncomputable def f_X10_foretold_69 (n0 : Nat) (x0 : Nat) (x2 : Int32) (x3 : Int32) (x4 : Int32) (x5 : Int32) (M : Mem) : Option (Int32 × Mem) :=
  match n0 with
  | 0 => none
  | n + 1 =>
    if x4 ≤ x5 then
    (if x3 = 0 then
    ((gR M 10 x0 8).bind fun v10 =>
    (gR M 9 v10 8).bind fun v11 =>
    (rI M v11 x2).bind fun v12 =>
    some (v12, M))
    else
    (if x3 = 1 then
    ((gR M 10 x0 8).bind fun v7 =>
    (gR M 9 v7 6).bind fun v8 =>
    (rI M v8 x2).bind fun v9 =>
    some (v9, M))
    else
    ((gR M 10 x0 8).bind fun v4 =>
    (gR M 9 v4 9).bind fun v5 =>
    (rI M v5 x2).bind fun v6 =>
    some (v6, M))))
    else
    ((gR M 10 x0 4).bind fun v13 =>
    (gR M 10 x0 8).bind fun v14 =>
    (gR M 10 x0 0).bind fun v15 =>
    (gR M 4 v15 7).bind fun v16 =>
    (gR M 10 x0 0).bind fun v17 =>
    (f_X4_theText v17 M).bind fun v18 =>
    (f_X0_pass v13 v14 v16 v18 M).bind fun q19 =>
    f_X10_foretold_69 n x0 x2 x3 x4 (x5 + 1) q19.2)
set_option maxHeartbeats 4000000 in
theorem t_X10_foretold_69 {X : XV} {d : Nat} (hd : 6 ≤ d + 1) : ∀ (n : Nat) (x0 : Nat) (x2 : Int32) (x3 : Int32) (x4 : Int32) (x5 : Int32) (M : Mem) (res : Int32 × Mem), f_X10_foretold_69 n  x0 x2 x3 x4 x5 M = some res → Ex X (d + 1) mX10_foretold 69 [(0, .ref x0), (2, .int x2), (3, .int x3), (4, .int x4), (5, .int x5)] [] M (some (.int res.1)) res.2 := by
  intro n
  induction n with
  | zero =>
    intro x0 x2 x3 x4 x5 M res  h
    unfold f_X10_foretold_69 at h
    cases h
  | succ n ih =>
    intro x0 x2 x3 x4 x5 M res  h
    unfold f_X10_foretold_69 at h
    refine ex_iload (pc := 69) 4 dX10_foretold_69 rfl ?_
    refine ex_iload (pc := 71) 3 dX10_foretold_71 rfl ?_
    by_cases c1 : x4 ≤ x5
    · rw [if_pos c1] at h
      refine ex_icmp_ge_t (pc := 73) 108 dX10_foretold_73 rfl c1 ?_
      refine ex_iload_n (pc := 108) 2 dX10_foretold_108 rfl rfl ?_
      by_cases c2 : x3 = 0
      · rw [if_pos c2] at h
        refine ex_if_ne_f (pc := 109) dX10_foretold_109 122 rfl c2 ?_
        refine ex_aload_n (pc := 112) 0 dX10_foretold_112 rfl rfl ?_
        obtain ⟨v10, ev10, h⟩ := ob_some h
        refine ex_gR (pc := 113) ev10 dX10_foretold_113 lfX10_66 ?_
        obtain ⟨v11, ev11, h⟩ := ob_some h
        refine ex_gR (pc := 116) ev11 dX10_foretold_116 lfX10_132 ?_
        refine ex_iload_n (pc := 119) 1 dX10_foretold_119 rfl rfl ?_
        obtain ⟨v12, ev12, h⟩ := ob_some h
        refine ex_rI (pc := 120) ev12 dX10_foretold_120 ?_
        cases h
        exact ex_ireturn (pc := 121) dX10_foretold_121
      · rw [if_neg c2] at h
        refine ex_if_ne_t (pc := 109) 122 dX10_foretold_109 rfl c2 ?_
        refine ex_iload_n (pc := 122) 2 dX10_foretold_122 rfl rfl ?_
        refine ex_iconst (pc := 123) 1 dX10_foretold_123 rfl ?_
        by_cases c3 : x3 = 1
        · rw [if_pos c3] at h
          refine ex_icmp_ne_f (pc := 124) dX10_foretold_124 139 rfl c3 ?_
          refine ex_aload_n (pc := 127) 0 dX10_foretold_127 rfl rfl ?_
          obtain ⟨v7, ev7, h⟩ := ob_some h
          refine ex_gR (pc := 128) ev7 dX10_foretold_128 lfX10_66 ?_
          obtain ⟨v8, ev8, h⟩ := ob_some h
          refine ex_gR (pc := 131) ev8 dX10_foretold_131 lfX10_191 ?_
          refine ex_iload_n (pc := 134) 1 dX10_foretold_134 rfl rfl ?_
          obtain ⟨v9, ev9, h⟩ := ob_some h
          refine ex_rI (pc := 135) ev9 dX10_foretold_135 ?_
          refine ex_goto (pc := 136) 148 dX10_foretold_136 rfl ?_
          cases h
          exact ex_ireturn (pc := 148) dX10_foretold_148
        · rw [if_neg c3] at h
          refine ex_icmp_ne_t (pc := 124) 139 dX10_foretold_124 rfl c3 ?_
          refine ex_aload_n (pc := 139) 0 dX10_foretold_139 rfl rfl ?_
          obtain ⟨v4, ev4, h⟩ := ob_some h
          refine ex_gR (pc := 140) ev4 dX10_foretold_140 lfX10_66 ?_
          obtain ⟨v5, ev5, h⟩ := ob_some h
          refine ex_gR (pc := 143) ev5 dX10_foretold_143 lfX10_144 ?_
          refine ex_iload_n (pc := 146) 1 dX10_foretold_146 rfl rfl ?_
          obtain ⟨v6, ev6, h⟩ := ob_some h
          refine ex_rI (pc := 147) ev6 dX10_foretold_147 ?_
          cases h
          exact ex_ireturn (pc := 148) dX10_foretold_148
    · rw [if_neg c1] at h
      refine ex_icmp_ge_f (pc := 73) dX10_foretold_73 108 rfl c1 ?_
      refine ex_aload_n (pc := 76) 0 dX10_foretold_76 rfl rfl ?_
      obtain ⟨v13, ev13, h⟩ := ob_some h
      refine ex_gR (pc := 77) ev13 dX10_foretold_77 lfX10_38 ?_
      refine ex_aload_n (pc := 80) 0 dX10_foretold_80 rfl rfl ?_
      obtain ⟨v14, ev14, h⟩ := ob_some h
      refine ex_gR (pc := 81) ev14 dX10_foretold_81 lfX10_66 ?_
      refine ex_aload_n (pc := 84) 0 dX10_foretold_84 rfl rfl ?_
      obtain ⟨v15, ev15, h⟩ := ob_some h
      refine ex_gR (pc := 85) ev15 dX10_foretold_85 lfX10_10 ?_
      obtain ⟨v16, ev16, h⟩ := ob_some h
      refine ex_gR (pc := 88) ev16 dX10_foretold_88 lfX10_81 ?_
      refine ex_aload_n (pc := 91) 0 dX10_foretold_91 rfl rfl ?_
      obtain ⟨v17, ev17, h⟩ := ob_some h
      refine ex_gR (pc := 92) ev17 dX10_foretold_92 lfX10_10 ?_
      obtain ⟨v18, ev18, h⟩ := ob_some h
      refine ex_callV0r (pc := 95) dX10_foretold_95 jX4_theText lmX10_169 jiX4_theText jvX4_theText (o_X4_theText ev18) rfl (Nat.le_of_ble_eq_true rfl) (s_X4_theText (by omega)  ev18) ?_
      obtain ⟨q19, eq19, h⟩ := ob_some h
      refine ex_callV3r (pc := 98) dX10_foretold_98 jX0_pass lmX10_172 jiX0_pass jvX0_pass (o_X0_pass eq19) rfl (Nat.le_of_ble_eq_true rfl) (s_X0_pass (by omega)  eq19) ?_
      refine ex_pop (pc := 101) dX10_foretold_101 rfl ?_
      refine ex_iinc (pc := 102) (x5 + 1) 4 [(5, .int (x5 + 1)), (0, .ref x0), (2, .int x2), (3, .int x3), (4, .int x4)] dX10_foretold_102 rfl rfl (by decide) rfl ?_
      refine ex_goto (pc := 105) 69 dX10_foretold_105 rfl ?_
      refine ex_sub (lo' := [(0, .ref x0), (2, .int x2), (3, .int x3), (4, .int x4), (5, .int (x5 + 1))]) [1, 2, 3, 4, 0] rfl ?_
      exact ih _ _ _ _ _ _ _  h
noncomputable def f_X10_foretold_0 (x0 : Nat) (x1 : Int32) (x2 : Int32) (x3 : Int32) (M : Mem) : Option (Int32 × Mem) :=
  (f_X10_within x1 1 60).bind fun v20 =>
  if v20 = false then
  (some ((-1), M))
  else
  ((gR M 10 x0 0).bind fun v22 =>
  (gR M 4 v22 0).bind fun v23 =>
  (f_X9_has v23 x2 M).bind fun v24 =>
  if v24 = false then
  (some ((-1), M))
  else
  ((f_X10_within x3 0 2).bind fun v26 =>
  if v26 = true then
  ((gR M 10 x0 8).bind fun v28 =>
  (gR M 10 x0 0).bind fun v29 =>
  (gR M 4 v29 0).bind fun v30 =>
  (f_X9_copyFrom v28 v30 M).bind fun q31 =>
  (gR q31 10 x0 8).bind fun v32 =>
  (gI q31 9 v32 1).bind fun v33 =>
  f_X10_foretold_69 fu x0 x2 x3 (jmin x1 (9999 - v33)) 0 q31)
  else
  (some ((-1), M))))
set_option maxHeartbeats 4000000 in
theorem t_X10_foretold_0 {X : XV} {d : Nat} (hd : 6 ≤ d + 1) : ∀ (x0 : Nat) (x1 : Int32) (x2 : Int32) (x3 : Int32) (M : Mem) (res : Int32 × Mem), f_X10_foretold_0  x0 x1 x2 x3 M = some res → Ex X (d + 1) mX10_foretold 0 [(0, .ref x0), (1, .int x1), (2, .int x2), (3, .int x3)] [] M (some (.int res.1)) res.2 := by
  intro x0 x1 x2 x3 M res  h
  unfold f_X10_foretold_0 at h
  refine ex_iload_n (pc := 0) 1 dX10_foretold_0 rfl rfl ?_
  refine ex_iconst (pc := 1) 1 dX10_foretold_1 rfl ?_
  refine ex_bipush (pc := 2) 60 dX10_foretold_2 (by decide) ?_
  obtain ⟨v20, ev20, h⟩ := ob_some h
  refine ex_callS3r (pc := 4) dX10_foretold_4 jX10_within lmX10_70 jsX10_within (Nat.le_of_ble_eq_true rfl) (s_X10_within (by omega)  ev20) ?_
  by_cases c21 : v20 = false
  · rw [if_pos c21] at h
    refine ex_if_eq_t (pc := 7) 33 dX10_foretold_7 rfl (jz_eq_t c21) ?_
    refine ex_iconst (pc := 33) (-1) dX10_foretold_33 rfl ?_
    cases h
    exact ex_ireturn (pc := 34) dX10_foretold_34
  · rw [if_neg c21] at h
    refine ex_if_eq_f (pc := 7) dX10_foretold_7 33 rfl (jz_eq_f c21) ?_
    refine ex_aload_n (pc := 10) 0 dX10_foretold_10 rfl rfl ?_
    obtain ⟨v22, ev22, h⟩ := ob_some h
    refine ex_gR (pc := 11) ev22 dX10_foretold_11 lfX10_10 ?_
    obtain ⟨v23, ev23, h⟩ := ob_some h
    refine ex_gR (pc := 14) ev23 dX10_foretold_14 lfX10_74 ?_
    refine ex_iload_n (pc := 17) 2 dX10_foretold_17 rfl rfl ?_
    obtain ⟨v24, ev24, h⟩ := ob_some h
    refine ex_callV1r (pc := 18) dX10_foretold_18 jX9_has lmX10_135 jiX9_has jvX9_has (o_X9_has ev24) rfl (Nat.le_of_ble_eq_true rfl) (s_X9_has (by omega)  ev24) ?_
    by_cases c25 : v24 = false
    · rw [if_pos c25] at h
      refine ex_if_eq_t (pc := 21) 33 dX10_foretold_21 rfl (jz_eq_t c25) ?_
      refine ex_iconst (pc := 33) (-1) dX10_foretold_33 rfl ?_
      cases h
      exact ex_ireturn (pc := 34) dX10_foretold_34
    · rw [if_neg c25] at h
      refine ex_if_eq_f (pc := 21) dX10_foretold_21 33 rfl (jz_eq_f c25) ?_
      refine ex_iload_n (pc := 24) 3 dX10_foretold_24 rfl rfl ?_
      refine ex_iconst (pc := 25) 0 dX10_foretold_25 rfl ?_
      refine ex_iconst (pc := 26) 2 dX10_foretold_26 rfl ?_
      obtain ⟨v26, ev26, h⟩ := ob_some h
      refine ex_callS3r (pc := 27) dX10_foretold_27 jX10_within lmX10_70 jsX10_within (Nat.le_of_ble_eq_true rfl) (s_X10_within (by omega)  ev26) ?_
      by_cases c27 : v26 = true
      · rw [if_pos c27] at h
        refine ex_if_ne_t (pc := 30) 35 dX10_foretold_30 rfl (jz_ne_t c27) ?_
        refine ex_aload_n (pc := 35) 0 dX10_foretold_35 rfl rfl ?_
        obtain ⟨v28, ev28, h⟩ := ob_some h
        refine ex_gR (pc := 36) ev28 dX10_foretold_36 lfX10_66 ?_
        refine ex_aload_n (pc := 39) 0 dX10_foretold_39 rfl rfl ?_
        obtain ⟨v29, ev29, h⟩ := ob_some h
        refine ex_gR (pc := 40) ev29 dX10_foretold_40 lfX10_10 ?_
        obtain ⟨v30, ev30, h⟩ := ob_some h
        refine ex_gR (pc := 43) ev30 dX10_foretold_43 lfX10_74 ?_
        obtain ⟨q31, eq31, h⟩ := ob_some h
        refine ex_callV1v (pc := 46) dX10_foretold_46 jX9_copyFrom lmX10_213 jiX9_copyFrom jvX9_copyFrom (o_X9_copyFrom eq31) rfl (Nat.le_of_ble_eq_true rfl) (s_X9_copyFrom (by omega)  eq31) ?_
        refine ex_iload_n (pc := 49) 1 dX10_foretold_49 rfl rfl ?_
        refine ex_sipush (pc := 50) 9999 dX10_foretold_50 (by decide) ?_
        refine ex_aload_n (pc := 53) 0 dX10_foretold_53 rfl rfl ?_
        obtain ⟨v32, ev32, h⟩ := ob_some h
        refine ex_gR (pc := 54) ev32 dX10_foretold_54 lfX10_66 ?_
        obtain ⟨v33, ev33, h⟩ := ob_some h
        refine ex_gI (pc := 57) ev33 dX10_foretold_57 lfX10_147 ?_
        refine ex_isub (pc := 60) dX10_foretold_60 ?_
        refine ex_mmin (pc := 61) dX10_foretold_61 lmX10_217 (by omega) (Nat.le_of_ble_eq_true rfl) ?_
        refine ex_istore (pc := 64) [(4, .int (jmin x1 (9999 - v33))), (0, .ref x0), (1, .int x1), (2, .int x2), (3, .int x3)] dX10_foretold_64 (by decide) rfl ?_
        refine ex_iconst (pc := 66) 0 dX10_foretold_66 rfl ?_
        refine ex_istore (pc := 67) [(5, .int 0), (4, .int (jmin x1 (9999 - v33))), (0, .ref x0), (1, .int x1), (2, .int x2), (3, .int x3)] dX10_foretold_67 (by decide) rfl ?_
        refine ex_sub (lo' := [(0, .ref x0), (2, .int x2), (3, .int x3), (4, .int (jmin x1 (9999 - v33))), (5, .int 0)]) [2, 4, 5, 1, 0] rfl ?_
        exact t_X10_foretold_69 hd  _ _ _ _ _ _ _ _  h
      · rw [if_neg c27] at h
        refine ex_if_ne_f (pc := 30) dX10_foretold_30 35 rfl (jz_ne_f c27) ?_
        refine ex_iconst (pc := 33) (-1) dX10_foretold_33 rfl ?_
        cases h
        exact ex_ireturn (pc := 34) dX10_foretold_34
noncomputable def f_X10_foretold (x0 : Nat) (x1 : Int32) (x2 : Int32) (x3 : Int32) (M : Mem) : Option (Int32 × Mem) := if isOb M 10 x0 = true then f_X10_foretold_0 x0 x1 x2 x3 M else none
theorem o_X10_foretold {x0 : Nat} {x1 : Int32} {x2 : Int32} {x3 : Int32} {M : Mem} {res : Int32 × Mem} (h : f_X10_foretold x0 x1 x2 x3 M = some res) : isO M 10 x0 := by
  unfold f_X10_foretold at h
  split at h
  · rename_i hc; exact isOb_iff hc
  · cases h
set_option maxHeartbeats 4000000 in
theorem s_X10_foretold {X : XV} {d : Nat} (hd : 6 ≤ d) {x0 : Nat} {x1 : Int32} {x2 : Int32} {x3 : Int32} {M : Mem} {res : Int32 × Mem} (h : f_X10_foretold x0 x1 x2 x3 M = some res) : Mx X d mX10_foretold [.ref x0, .int x1, .int x2, .int x3] M (some (.int res.1)) res.2 := by
  obtain ⟨d, rfl⟩ : ∃ e, d = e + 1 := ⟨d - 1, by omega⟩
  unfold f_X10_foretold at h
  split at h
  rotate_left
  · cases h
  refine Mx.of (by decide) (Nat.le_of_ble_eq_true rfl) (⟨_, rfl, rfl⟩) ?_
  exact ex_sub (lo' := [(0, .ref x0), (1, .int x1), (2, .int x2), (3, .int x3)]) [0, 1, 2, 3] rfl (t_X10_foretold_0 hd _ _ _ _ _ _  h)
noncomputable def f_X10_lengthen_0 (x0 : Nat) (x1 : Int32) (M : Mem) : Option (Int32 × Mem) :=
  if x1 = (-1) then
  ((pF M 3 x0 1 (.int 0)).bind fun q7 =>
  some (0, q7))
  else
  ((f_X10_within x1 0 9).bind fun v2 =>
  if v2 = false then
  (some ((-2), M))
  else
  ((f_X3_append x0 x1 M).bind fun q4 =>
  if q4.1 = true then
  ((gI q4.2 3 x0 1).bind fun v6 =>
  some (v6, q4.2))
  else
  (some ((-2), q4.2))))
set_option maxHeartbeats 4000000 in
theorem t_X10_lengthen_0 {X : XV} {d : Nat} (hd : 3 ≤ d + 1) : ∀ (x0 : Nat) (x1 : Int32) (M : Mem) (res : Int32 × Mem), f_X10_lengthen_0  x0 x1 M = some res → Ex X (d + 1) mX10_lengthen 0 [(0, .ref x0), (1, .int x1)] [] M (some (.int res.1)) res.2 := by
  intro x0 x1 M res  h
  unfold f_X10_lengthen_0 at h
  refine ex_iload_n (pc := 0) 1 dX10_lengthen_0 rfl rfl ?_
  refine ex_iconst (pc := 1) (-1) dX10_lengthen_1 rfl ?_
  by_cases c1 : x1 = (-1)
  · rw [if_pos c1] at h
    refine ex_icmp_ne_f (pc := 2) dX10_lengthen_2 12 rfl c1 ?_
    refine ex_aload_n (pc := 5) 0 dX10_lengthen_5 rfl rfl ?_
    refine ex_iconst (pc := 6) 0 dX10_lengthen_6 rfl ?_
    obtain ⟨q7, eq7, h⟩ := ob_some h
    refine ex_pF (pc := 7) eq7 dX10_lengthen_7 lfX10_246 rfl rfl (fun _ hq => by cases hq; rfl) ?_
    refine ex_iconst (pc := 10) 0 dX10_lengthen_10 rfl ?_
    cases h
    exact ex_ireturn (pc := 11) dX10_lengthen_11
  · rw [if_neg c1] at h
    refine ex_icmp_ne_t (pc := 2) 12 dX10_lengthen_2 rfl c1 ?_
    refine ex_iload_n (pc := 12) 1 dX10_lengthen_12 rfl rfl ?_
    refine ex_iconst (pc := 13) 0 dX10_lengthen_13 rfl ?_
    refine ex_bipush (pc := 14) 9 dX10_lengthen_14 (by decide) ?_
    obtain ⟨v2, ev2, h⟩ := ob_some h
    refine ex_callS3r (pc := 16) dX10_lengthen_16 jX10_within lmX10_70 jsX10_within (Nat.le_of_ble_eq_true rfl) (s_X10_within (by omega)  ev2) ?_
    by_cases c3 : v2 = false
    · rw [if_pos c3] at h
      refine ex_if_eq_t (pc := 19) 30 dX10_lengthen_19 rfl (jz_eq_t c3) ?_
      refine ex_bipush (pc := 30) (-2) dX10_lengthen_30 (by decide) ?_
      cases h
      exact ex_ireturn (pc := 32) dX10_lengthen_32
    · rw [if_neg c3] at h
      refine ex_if_eq_f (pc := 19) dX10_lengthen_19 30 rfl (jz_eq_f c3) ?_
      refine ex_aload_n (pc := 22) 0 dX10_lengthen_22 rfl rfl ?_
      refine ex_iload_n (pc := 23) 1 dX10_lengthen_23 rfl rfl ?_
      obtain ⟨q4, eq4, h⟩ := ob_some h
      refine ex_callV1r (pc := 24) dX10_lengthen_24 jX3_append lmX10_251 jiX3_append jvX3_append (o_X3_append eq4) rfl (Nat.le_of_ble_eq_true rfl) (s_X3_append (by omega)  eq4) ?_
      by_cases c5 : q4.1 = true
      · rw [if_pos c5] at h
        refine ex_if_ne_t (pc := 27) 33 dX10_lengthen_27 rfl (jz_ne_t c5) ?_
        refine ex_aload_n (pc := 33) 0 dX10_lengthen_33 rfl rfl ?_
        obtain ⟨v6, ev6, h⟩ := ob_some h
        refine ex_gI (pc := 34) ev6 dX10_lengthen_34 lfX10_246 ?_
        cases h
        exact ex_ireturn (pc := 37) dX10_lengthen_37
      · rw [if_neg c5] at h
        refine ex_if_ne_f (pc := 27) dX10_lengthen_27 33 rfl (jz_ne_f c5) ?_
        refine ex_bipush (pc := 30) (-2) dX10_lengthen_30 (by decide) ?_
        cases h
        exact ex_ireturn (pc := 32) dX10_lengthen_32
noncomputable def f_X10_lengthen (x0 : Nat) (x1 : Int32) (M : Mem) : Option (Int32 × Mem) := f_X10_lengthen_0 x0 x1 M
set_option maxHeartbeats 4000000 in
theorem s_X10_lengthen {X : XV} {d : Nat} (hd : 3 ≤ d) {x0 : Nat} {x1 : Int32} {M : Mem} {res : Int32 × Mem} (h : f_X10_lengthen x0 x1 M = some res) : Mx X d mX10_lengthen [.ref x0, .int x1] M (some (.int res.1)) res.2 := by
  obtain ⟨d, rfl⟩ : ∃ e, d = e + 1 := ⟨d - 1, by omega⟩
  unfold f_X10_lengthen at h
  refine Mx.of (by decide) (Nat.le_of_ble_eq_true rfl) (⟨_, rfl, rfl⟩) ?_
  exact ex_sub (lo' := [(0, .ref x0), (1, .int x1)]) [0, 1] rfl (t_X10_lengthen_0 hd _ _ _ _  h)
noncomputable def f_X10_put_0 (x0 : Nat) (x1 : Int32) (M : Mem) : Option (Int32 × Mem) :=
  (gR M 10 x0 0).bind fun v1 =>
  (gR M 4 v1 8).bind fun v2 =>
  (f_X10_lengthen v2 x1 M).bind fun q3 =>
  some (q3.1, q3.2)
set_option maxHeartbeats 4000000 in
theorem t_X10_put_0 {X : XV} {d : Nat} (hd : 4 ≤ d + 1) : ∀ (x0 : Nat) (x1 : Int32) (M : Mem) (res : Int32 × Mem), f_X10_put_0  x0 x1 M = some res → Ex X (d + 1) mX10_put 0 [(0, .ref x0), (1, .int x1)] [] M (some (.int res.1)) res.2 := by
  intro x0 x1 M res  h
  unfold f_X10_put_0 at h
  refine ex_aload_n (pc := 0) 0 dX10_put_0 rfl rfl ?_
  obtain ⟨v1, ev1, h⟩ := ob_some h
  refine ex_gR (pc := 1) ev1 dX10_put_1 lfX10_10 ?_
  obtain ⟨v2, ev2, h⟩ := ob_some h
  refine ex_gR (pc := 4) ev2 dX10_put_4 lfX10_222 ?_
  refine ex_iload_n (pc := 7) 1 dX10_put_7 rfl rfl ?_
  obtain ⟨q3, eq3, h⟩ := ob_some h
  refine ex_callS2r (pc := 8) dX10_put_8 jX10_lengthen lmX10_226 jsX10_lengthen (Nat.le_of_ble_eq_true rfl) (s_X10_lengthen (by omega)  eq3) ?_
  cases h
  exact ex_ireturn (pc := 11) dX10_put_11
noncomputable def f_X10_put (x0 : Nat) (x1 : Int32) (M : Mem) : Option (Int32 × Mem) := if isOb M 10 x0 = true then f_X10_put_0 x0 x1 M else none
theorem o_X10_put {x0 : Nat} {x1 : Int32} {M : Mem} {res : Int32 × Mem} (h : f_X10_put x0 x1 M = some res) : isO M 10 x0 := by
  unfold f_X10_put at h
  split at h
  · rename_i hc; exact isOb_iff hc
  · cases h
set_option maxHeartbeats 4000000 in
theorem s_X10_put {X : XV} {d : Nat} (hd : 4 ≤ d) {x0 : Nat} {x1 : Int32} {M : Mem} {res : Int32 × Mem} (h : f_X10_put x0 x1 M = some res) : Mx X d mX10_put [.ref x0, .int x1] M (some (.int res.1)) res.2 := by
  obtain ⟨d, rfl⟩ : ∃ e, d = e + 1 := ⟨d - 1, by omega⟩
  unfold f_X10_put at h
  split at h
  rotate_left
  · cases h
  refine Mx.of (by decide) (Nat.le_of_ble_eq_true rfl) (⟨_, rfl, rfl⟩) ?_
  exact ex_sub (lo' := [(0, .ref x0), (1, .int x1)]) [0, 1] rfl (t_X10_put_0 hd _ _ _ _  h)
noncomputable def f_X10_may_0 (x0 : Nat) (x1 : Int32) (M : Mem) : Option (Int64 × Mem) :=
  (f_X10_within x1 0 9999).bind fun v1 =>
  if v1 = true then
  ((gR M 10 x0 5).bind fun v3 =>
  (gR M 10 x0 0).bind fun v4 =>
  (gR M 4 v4 8).bind fun v5 =>
  (gR M 10 x0 0).bind fun v6 =>
  (gR M 4 v6 7).bind fun v7 =>
  (f_X6_weigh v3 x1 v5 v7 1 1 M).bind fun q8 =>
  some ((Int32.toInt64 q8.1), q8.2))
  else
  (some ((-1), M))
set_option maxHeartbeats 4000000 in
theorem t_X10_may_0 {X : XV} {d : Nat} (hd : 5 ≤ d + 1) : ∀ (x0 : Nat) (x1 : Int32) (M : Mem) (res : Int64 × Mem), f_X10_may_0  x0 x1 M = some res → Ex X (d + 1) mX10_may 0 [(0, .ref x0), (1, .int x1)] [] M (some (.long res.1)) res.2 := by
  intro x0 x1 M res  h
  unfold f_X10_may_0 at h
  refine ex_iload_n (pc := 0) 1 dX10_may_0 rfl rfl ?_
  refine ex_iconst (pc := 1) 0 dX10_may_1 rfl ?_
  refine ex_sipush (pc := 2) 9999 dX10_may_2 (by decide) ?_
  obtain ⟨v1, ev1, h⟩ := ob_some h
  refine ex_callS3r (pc := 5) dX10_may_5 jX10_within lmX10_70 jsX10_within (Nat.le_of_ble_eq_true rfl) (s_X10_within (by omega)  ev1) ?_
  by_cases c2 : v1 = true
  · rw [if_pos c2] at h
    refine ex_if_ne_t (pc := 8) 15 dX10_may_8 rfl (jz_ne_t c2) ?_
    refine ex_aload_n (pc := 15) 0 dX10_may_15 rfl rfl ?_
    obtain ⟨v3, ev3, h⟩ := ob_some h
    refine ex_gR (pc := 16) ev3 dX10_may_16 lfX10_45 ?_
    refine ex_iload_n (pc := 19) 1 dX10_may_19 rfl rfl ?_
    refine ex_aload_n (pc := 20) 0 dX10_may_20 rfl rfl ?_
    obtain ⟨v4, ev4, h⟩ := ob_some h
    refine ex_gR (pc := 21) ev4 dX10_may_21 lfX10_10 ?_
    obtain ⟨v5, ev5, h⟩ := ob_some h
    refine ex_gR (pc := 24) ev5 dX10_may_24 lfX10_222 ?_
    refine ex_aload_n (pc := 27) 0 dX10_may_27 rfl rfl ?_
    obtain ⟨v6, ev6, h⟩ := ob_some h
    refine ex_gR (pc := 28) ev6 dX10_may_28 lfX10_10 ?_
    obtain ⟨v7, ev7, h⟩ := ob_some h
    refine ex_gR (pc := 31) ev7 dX10_may_31 lfX10_81 ?_
    refine ex_iconst (pc := 34) 1 dX10_may_34 rfl ?_
    refine ex_iconst (pc := 35) 1 dX10_may_35 rfl ?_
    obtain ⟨q8, eq8, h⟩ := ob_some h
    refine ex_callV5r (pc := 36) dX10_may_36 jX6_weigh lmX10_232 jiX6_weigh jvX6_weigh (o_X6_weigh eq8) rfl (Nat.le_of_ble_eq_true rfl) (s_X6_weigh (by omega)  eq8) ?_
    refine ex_i2l (pc := 39) dX10_may_39 ?_
    cases h
    exact ex_lreturn (pc := 40) dX10_may_40
  · rw [if_neg c2] at h
    refine ex_if_ne_f (pc := 8) dX10_may_8 15 rfl (jz_ne_f c2) ?_
    refine ex_ldc2 (pc := 11) dX10_may_11 lkX10_230 ?_
    cases h
    exact ex_lreturn (pc := 14) dX10_may_14
noncomputable def f_X10_may (x0 : Nat) (x1 : Int32) (M : Mem) : Option (Int64 × Mem) := if isOb M 10 x0 = true then f_X10_may_0 x0 x1 M else none
theorem o_X10_may {x0 : Nat} {x1 : Int32} {M : Mem} {res : Int64 × Mem} (h : f_X10_may x0 x1 M = some res) : isO M 10 x0 := by
  unfold f_X10_may at h
  split at h
  · rename_i hc; exact isOb_iff hc
  · cases h
set_option maxHeartbeats 4000000 in
theorem s_X10_may {X : XV} {d : Nat} (hd : 5 ≤ d) {x0 : Nat} {x1 : Int32} {M : Mem} {res : Int64 × Mem} (h : f_X10_may x0 x1 M = some res) : Mx X d mX10_may [.ref x0, .int x1] M (some (.long res.1)) res.2 := by
  obtain ⟨d, rfl⟩ : ∃ e, d = e + 1 := ⟨d - 1, by omega⟩
  unfold f_X10_may at h
  split at h
  rotate_left
  · cases h
  refine Mx.of (by decide) (Nat.le_of_ble_eq_true rfl) (rfl) ?_
  exact ex_sub (lo' := [(0, .ref x0), (1, .int x1)]) [0, 1] rfl (t_X10_may_0 hd _ _ _ _  h)
