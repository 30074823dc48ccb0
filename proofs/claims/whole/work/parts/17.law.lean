noncomputable def f_L_law_315 (X : XV) (k18 : Nat → Nat → Int32 → Mem → Option (Bool × Mem)) (x1 : Nat) (x2 : Nat) (x3 : Int32) (s0 : Bool) (s1 : Int32) (s2 : Nat) (s3 : Bool) (M : Mem) : Option (Bool × Mem) :=
  (scR X (x3 + 3)).bind fun v1 =>
  (f_X11_rule s2 s1 s0 v1 M).bind fun q2 =>
  if (jz s3) = (jz q2.1) then
  (k18 x1 x2 (x3 + 6) q2.2)
  else
  (some (false, q2.2))
set_option maxHeartbeats 4000000 in
theorem t_L_law_315 {X : XV} {d : Nat} (hd : 124 ≤ d + 1) {k18 : Nat → Nat → Int32 → Mem → Option (Bool × Mem)} (hk18 : ∀ (x1 : Nat) (x2 : Nat) (x3 : Int32) (M : Mem) (res : Bool × Mem), k18 x1 x2 x3 M = some res → Ex X (d + 1) mL_law 18 [(0, .ref X.1), (1, .ref x1), (2, .ref x2), (3, .int x3)] [] M (some (.int (jz res.1))) res.2) : ∀ (x1 : Nat) (x2 : Nat) (x3 : Int32) (s0 : Bool) (s1 : Int32) (s2 : Nat) (s3 : Bool) (M : Mem) (res : Bool × Mem), f_L_law_315 X k18 x1 x2 x3 s0 s1 s2 s3 M = some res → Ex X (d + 1) mL_law 315 [(0, .ref X.1), (1, .ref x1), (2, .ref x2), (3, .int x3)] [.int (jz s0), .int s1, .ref s2, .int (jz s3)] M (some (.int (jz res.1))) res.2 := by
  intro x1 x2 x3 s0 s1 s2 s3 M res  h
  unfold f_L_law_315 at h
  refine ex_aload_n (pc := 315) 0 dL_law_315 rfl rfl ?_
  refine ex_iload_n (pc := 316) 3 dL_law_316 rfl rfl ?_
  refine ex_iconst (pc := 317) 3 dL_law_317 rfl ?_
  refine ex_iadd (pc := 318) dL_law_318 ?_
  obtain ⟨v1, ev1, h⟩ := ob_some h
  refine ex_scR (pc := 319) ev1 dL_law_319 ?_
  obtain ⟨q2, eq2, h⟩ := ob_some h
  refine ex_callV3r (pc := 320) dL_law_320 jX11_rule lmL_22 jiX11_rule jvX11_rule (o_X11_rule eq2) rfl (Nat.le_of_ble_eq_true rfl) (s_X11_rule (by omega)  eq2) ?_
  by_cases c3 : (jz s3) = (jz q2.1)
  · rw [if_pos c3] at h
    refine ex_icmp_eq_t (pc := 323) 1569 dL_law_323 rfl c3 ?_
    refine ex_iinc (pc := 1569) (x3 + 6) 3 [(3, .int (x3 + 6)), (0, .ref X.1), (1, .ref x1), (2, .ref x2)] dL_law_1569 rfl rfl (by decide) rfl ?_
    refine ex_goto (pc := 1572) 18 dL_law_1572 rfl ?_
    refine ex_sub (lo' := [(0, .ref X.1), (1, .ref x1), (2, .ref x2), (3, .int (x3 + 6))]) [1, 2, 3, 0] rfl ?_
    exact hk18 _ _ _ _ _  h
  · rw [if_neg c3] at h
    refine ex_icmp_eq_f (pc := 323) dL_law_323 1569 rfl c3 ?_
    refine ex_iconst (pc := 326) 0 dL_law_326 rfl ?_
    cases h
    exact ex_ireturn (pc := 327) dL_law_327
noncomputable def f_L_law_288 (X : XV) (k18 : Nat → Nat → Int32 → Mem → Option (Bool × Mem)) (x1 : Nat) (x2 : Nat) (x3 : Int32) (s0 : Bool) (s1 : Int32) (s2 : Nat) (M : Mem) : Option (Bool × Mem) :=
  (scR X (x3 + 3)).bind fun v4 =>
  (f_X10_rule s2 s1 s0 v4 M).bind fun q5 =>
  (scR X (x3 + 1)).bind fun v6 =>
  (scR X (x3 + 2)).bind fun v7 =>
  if v7 = 0 then
  (f_L_law_315 X k18 x1 x2 x3 false v6 x2 q5.1 q5.2)
  else
  (f_L_law_315 X k18 x1 x2 x3 true v6 x2 q5.1 q5.2)
set_option maxHeartbeats 4000000 in
theorem t_L_law_288 {X : XV} {d : Nat} (hd : 124 ≤ d + 1) {k18 : Nat → Nat → Int32 → Mem → Option (Bool × Mem)} (hk18 : ∀ (x1 : Nat) (x2 : Nat) (x3 : Int32) (M : Mem) (res : Bool × Mem), k18 x1 x2 x3 M = some res → Ex X (d + 1) mL_law 18 [(0, .ref X.1), (1, .ref x1), (2, .ref x2), (3, .int x3)] [] M (some (.int (jz res.1))) res.2) : ∀ (x1 : Nat) (x2 : Nat) (x3 : Int32) (s0 : Bool) (s1 : Int32) (s2 : Nat) (M : Mem) (res : Bool × Mem), f_L_law_288 X k18 x1 x2 x3 s0 s1 s2 M = some res → Ex X (d + 1) mL_law 288 [(0, .ref X.1), (1, .ref x1), (2, .ref x2), (3, .int x3)] [.int (jz s0), .int s1, .ref s2] M (some (.int (jz res.1))) res.2 := by
  intro x1 x2 x3 s0 s1 s2 M res  h
  unfold f_L_law_288 at h
  refine ex_aload_n (pc := 288) 0 dL_law_288 rfl rfl ?_
  refine ex_iload_n (pc := 289) 3 dL_law_289 rfl rfl ?_
  refine ex_iconst (pc := 290) 3 dL_law_290 rfl ?_
  refine ex_iadd (pc := 291) dL_law_291 ?_
  obtain ⟨v4, ev4, h⟩ := ob_some h
  refine ex_scR (pc := 292) ev4 dL_law_292 ?_
  obtain ⟨q5, eq5, h⟩ := ob_some h
  refine ex_callV3r (pc := 293) dL_law_293 jX10_rule lmL_18 jiX10_rule jvX10_rule (o_X10_rule eq5) rfl (Nat.le_of_ble_eq_true rfl) (s_X10_rule (by omega)  eq5) ?_
  refine ex_aload_n (pc := 296) 2 dL_law_296 rfl rfl ?_
  refine ex_aload_n (pc := 297) 0 dL_law_297 rfl rfl ?_
  refine ex_iload_n (pc := 298) 3 dL_law_298 rfl rfl ?_
  refine ex_iconst (pc := 299) 1 dL_law_299 rfl ?_
  refine ex_iadd (pc := 300) dL_law_300 ?_
  obtain ⟨v6, ev6, h⟩ := ob_some h
  refine ex_scR (pc := 301) ev6 dL_law_301 ?_
  refine ex_aload_n (pc := 302) 0 dL_law_302 rfl rfl ?_
  refine ex_iload_n (pc := 303) 3 dL_law_303 rfl rfl ?_
  refine ex_iconst (pc := 304) 2 dL_law_304 rfl ?_
  refine ex_iadd (pc := 305) dL_law_305 ?_
  obtain ⟨v7, ev7, h⟩ := ob_some h
  refine ex_scR (pc := 306) ev7 dL_law_306 ?_
  by_cases c8 : v7 = 0
  · rw [if_pos c8] at h
    refine ex_if_eq_t (pc := 307) 314 dL_law_307 rfl c8 ?_
    refine ex_iconst (pc := 314) 0 dL_law_314 rfl ?_
    refine ex_sub (lo' := [(0, .ref X.1), (1, .ref x1), (2, .ref x2), (3, .int x3)]) [0, 1, 2, 3] rfl ?_
    exact t_L_law_315 hd hk18 _ _ _ _ _ _ _ _ _  h
  · rw [if_neg c8] at h
    refine ex_if_eq_f (pc := 307) dL_law_307 314 rfl c8 ?_
    refine ex_iconst (pc := 310) 1 dL_law_310 rfl ?_
    refine ex_goto (pc := 311) 315 dL_law_311 rfl ?_
    refine ex_sub (lo' := [(0, .ref X.1), (1, .ref x1), (2, .ref x2), (3, .int x3)]) [0, 1, 2, 3] rfl ?_
    exact t_L_law_315 hd hk18 _ _ _ _ _ _ _ _ _  h
noncomputable def f_L_law_728 (X : XV) (k18 : Nat → Nat → Int32 → Mem → Option (Bool × Mem)) (x1 : Nat) (x2 : Nat) (x3 : Int32) (s0 : Bool) (s1 : Int32) (s2 : Nat) (s3 : Int32) (M : Mem) : Option (Bool × Mem) :=
  (f_X11_told s2 s1 s0 M).bind fun v9 =>
  if s3 = v9 then
  (k18 x1 x2 (x3 + 6) M)
  else
  (some (false, M))
set_option maxHeartbeats 4000000 in
theorem t_L_law_728 {X : XV} {d : Nat} (hd : 124 ≤ d + 1) {k18 : Nat → Nat → Int32 → Mem → Option (Bool × Mem)} (hk18 : ∀ (x1 : Nat) (x2 : Nat) (x3 : Int32) (M : Mem) (res : Bool × Mem), k18 x1 x2 x3 M = some res → Ex X (d + 1) mL_law 18 [(0, .ref X.1), (1, .ref x1), (2, .ref x2), (3, .int x3)] [] M (some (.int (jz res.1))) res.2) : ∀ (x1 : Nat) (x2 : Nat) (x3 : Int32) (s0 : Bool) (s1 : Int32) (s2 : Nat) (s3 : Int32) (M : Mem) (res : Bool × Mem), f_L_law_728 X k18 x1 x2 x3 s0 s1 s2 s3 M = some res → Ex X (d + 1) mL_law 728 [(0, .ref X.1), (1, .ref x1), (2, .ref x2), (3, .int x3)] [.int (jz s0), .int s1, .ref s2, .int s3] M (some (.int (jz res.1))) res.2 := by
  intro x1 x2 x3 s0 s1 s2 s3 M res  h
  unfold f_L_law_728 at h
  obtain ⟨v9, ev9, h⟩ := ob_some h
  refine ex_callV2r (pc := 728) dL_law_728 jX11_told lmL_84 jiX11_told jvX11_told (o_X11_told ev9) rfl (Nat.le_of_ble_eq_true rfl) (s_X11_told (by omega)  ev9) ?_
  by_cases c10 : s3 = v9
  · rw [if_pos c10] at h
    refine ex_icmp_eq_t (pc := 731) 1569 dL_law_731 rfl c10 ?_
    refine ex_iinc (pc := 1569) (x3 + 6) 3 [(3, .int (x3 + 6)), (0, .ref X.1), (1, .ref x1), (2, .ref x2)] dL_law_1569 rfl rfl (by decide) rfl ?_
    refine ex_goto (pc := 1572) 18 dL_law_1572 rfl ?_
    refine ex_sub (lo' := [(0, .ref X.1), (1, .ref x1), (2, .ref x2), (3, .int (x3 + 6))]) [1, 2, 3, 0] rfl ?_
    exact hk18 _ _ _ _ _  h
  · rw [if_neg c10] at h
    refine ex_icmp_eq_f (pc := 731) dL_law_731 1569 rfl c10 ?_
    refine ex_iconst (pc := 734) 0 dL_law_734 rfl ?_
    cases h
    exact ex_ireturn (pc := 735) dL_law_735
noncomputable def f_L_law_706 (X : XV) (k18 : Nat → Nat → Int32 → Mem → Option (Bool × Mem)) (x1 : Nat) (x2 : Nat) (x3 : Int32) (s0 : Bool) (s1 : Int32) (s2 : Nat) (M : Mem) : Option (Bool × Mem) :=
  (f_X10_told s2 s1 s0 M).bind fun v11 =>
  (scR X (x3 + 1)).bind fun v12 =>
  (scR X (x3 + 2)).bind fun v13 =>
  if v13 = 0 then
  (f_L_law_728 X k18 x1 x2 x3 false v12 x2 v11 M)
  else
  (f_L_law_728 X k18 x1 x2 x3 true v12 x2 v11 M)
set_option maxHeartbeats 4000000 in
theorem t_L_law_706 {X : XV} {d : Nat} (hd : 124 ≤ d + 1) {k18 : Nat → Nat → Int32 → Mem → Option (Bool × Mem)} (hk18 : ∀ (x1 : Nat) (x2 : Nat) (x3 : Int32) (M : Mem) (res : Bool × Mem), k18 x1 x2 x3 M = some res → Ex X (d + 1) mL_law 18 [(0, .ref X.1), (1, .ref x1), (2, .ref x2), (3, .int x3)] [] M (some (.int (jz res.1))) res.2) : ∀ (x1 : Nat) (x2 : Nat) (x3 : Int32) (s0 : Bool) (s1 : Int32) (s2 : Nat) (M : Mem) (res : Bool × Mem), f_L_law_706 X k18 x1 x2 x3 s0 s1 s2 M = some res → Ex X (d + 1) mL_law 706 [(0, .ref X.1), (1, .ref x1), (2, .ref x2), (3, .int x3)] [.int (jz s0), .int s1, .ref s2] M (some (.int (jz res.1))) res.2 := by
  intro x1 x2 x3 s0 s1 s2 M res  h
  unfold f_L_law_706 at h
  obtain ⟨v11, ev11, h⟩ := ob_some h
  refine ex_callV2r (pc := 706) dL_law_706 jX10_told lmL_80 jiX10_told jvX10_told (o_X10_told ev11) rfl (Nat.le_of_ble_eq_true rfl) (s_X10_told (by omega)  ev11) ?_
  refine ex_aload_n (pc := 709) 2 dL_law_709 rfl rfl ?_
  refine ex_aload_n (pc := 710) 0 dL_law_710 rfl rfl ?_
  refine ex_iload_n (pc := 711) 3 dL_law_711 rfl rfl ?_
  refine ex_iconst (pc := 712) 1 dL_law_712 rfl ?_
  refine ex_iadd (pc := 713) dL_law_713 ?_
  obtain ⟨v12, ev12, h⟩ := ob_some h
  refine ex_scR (pc := 714) ev12 dL_law_714 ?_
  refine ex_aload_n (pc := 715) 0 dL_law_715 rfl rfl ?_
  refine ex_iload_n (pc := 716) 3 dL_law_716 rfl rfl ?_
  refine ex_iconst (pc := 717) 2 dL_law_717 rfl ?_
  refine ex_iadd (pc := 718) dL_law_718 ?_
  obtain ⟨v13, ev13, h⟩ := ob_some h
  refine ex_scR (pc := 719) ev13 dL_law_719 ?_
  by_cases c14 : v13 = 0
  · rw [if_pos c14] at h
    refine ex_if_eq_t (pc := 720) 727 dL_law_720 rfl c14 ?_
    refine ex_iconst (pc := 727) 0 dL_law_727 rfl ?_
    refine ex_sub (lo' := [(0, .ref X.1), (1, .ref x1), (2, .ref x2), (3, .int x3)]) [0, 1, 2, 3] rfl ?_
    exact t_L_law_728 hd hk18 _ _ _ _ _ _ _ _ _  h
  · rw [if_neg c14] at h
    refine ex_if_eq_f (pc := 720) dL_law_720 727 rfl c14 ?_
    refine ex_iconst (pc := 723) 1 dL_law_723 rfl ?_
    refine ex_goto (pc := 724) 728 dL_law_724 rfl ?_
    refine ex_sub (lo' := [(0, .ref X.1), (1, .ref x1), (2, .ref x2), (3, .int x3)]) [0, 1, 2, 3] rfl ?_
    exact t_L_law_728 hd hk18 _ _ _ _ _ _ _ _ _  h
noncomputable def f_L_law_933 (X : XV) (k18 : Nat → Nat → Int32 → Mem → Option (Bool × Mem)) (x1 : Nat) (x2 : Nat) (x3 : Int32) (s0 : Bool) (s1 : Int32) (s2 : Int32) (s3 : Nat) (s4 : Int64) (M : Mem) : Option (Bool × Mem) :=
  (f_X11_odds s3 s2 s1 s0 M).bind fun q15 =>
  if (lg_cmp s4 q15.1) = 0 then
  (k18 x1 x2 (x3 + 6) q15.2)
  else
  (some (false, q15.2))
set_option maxHeartbeats 4000000 in
theorem t_L_law_933 {X : XV} {d : Nat} (hd : 124 ≤ d + 1) {k18 : Nat → Nat → Int32 → Mem → Option (Bool × Mem)} (hk18 : ∀ (x1 : Nat) (x2 : Nat) (x3 : Int32) (M : Mem) (res : Bool × Mem), k18 x1 x2 x3 M = some res → Ex X (d + 1) mL_law 18 [(0, .ref X.1), (1, .ref x1), (2, .ref x2), (3, .int x3)] [] M (some (.int (jz res.1))) res.2) : ∀ (x1 : Nat) (x2 : Nat) (x3 : Int32) (s0 : Bool) (s1 : Int32) (s2 : Int32) (s3 : Nat) (s4 : Int64) (M : Mem) (res : Bool × Mem), f_L_law_933 X k18 x1 x2 x3 s0 s1 s2 s3 s4 M = some res → Ex X (d + 1) mL_law 933 [(0, .ref X.1), (1, .ref x1), (2, .ref x2), (3, .int x3)] [.int (jz s0), .int s1, .int s2, .ref s3, .long s4] M (some (.int (jz res.1))) res.2 := by
  intro x1 x2 x3 s0 s1 s2 s3 s4 M res  h
  unfold f_L_law_933 at h
  obtain ⟨q15, eq15, h⟩ := ob_some h
  refine ex_callV3r (pc := 933) dL_law_933 jX11_odds lmL_111 jiX11_odds jvX11_odds (o_X11_odds eq15) rfl (Nat.le_of_ble_eq_true rfl) (s_X11_odds (by omega)  eq15) ?_
  refine ex_lcmp (pc := 936) dL_law_936 ?_
  by_cases c16 : (lg_cmp s4 q15.1) = 0
  · rw [if_pos c16] at h
    refine ex_if_eq_t (pc := 937) 1569 dL_law_937 rfl c16 ?_
    refine ex_iinc (pc := 1569) (x3 + 6) 3 [(3, .int (x3 + 6)), (0, .ref X.1), (1, .ref x1), (2, .ref x2)] dL_law_1569 rfl rfl (by decide) rfl ?_
    refine ex_goto (pc := 1572) 18 dL_law_1572 rfl ?_
    refine ex_sub (lo' := [(0, .ref X.1), (1, .ref x1), (2, .ref x2), (3, .int (x3 + 6))]) [1, 2, 3, 0] rfl ?_
    exact hk18 _ _ _ _ _  h
  · rw [if_neg c16] at h
    refine ex_if_eq_f (pc := 937) dL_law_937 1569 rfl c16 ?_
    refine ex_iconst (pc := 940) 0 dL_law_940 rfl ?_
    cases h
    exact ex_ireturn (pc := 941) dL_law_941
noncomputable def f_L_law_906 (X : XV) (k18 : Nat → Nat → Int32 → Mem → Option (Bool × Mem)) (x1 : Nat) (x2 : Nat) (x3 : Int32) (s0 : Bool) (s1 : Int32) (s2 : Int32) (s3 : Nat) (M : Mem) : Option (Bool × Mem) :=
  (f_X10_odds s3 s2 s1 s0 M).bind fun q17 =>
  (scR X (x3 + 1)).bind fun v18 =>
  (scR X (x3 + 2)).bind fun v19 =>
  (scR X (x3 + 3)).bind fun v20 =>
  if v20 = 0 then
  (f_L_law_933 X k18 x1 x2 x3 false v19 v18 x2 q17.1 q17.2)
  else
  (f_L_law_933 X k18 x1 x2 x3 true v19 v18 x2 q17.1 q17.2)
set_option maxHeartbeats 4000000 in
theorem t_L_law_906 {X : XV} {d : Nat} (hd : 124 ≤ d + 1) {k18 : Nat → Nat → Int32 → Mem → Option (Bool × Mem)} (hk18 : ∀ (x1 : Nat) (x2 : Nat) (x3 : Int32) (M : Mem) (res : Bool × Mem), k18 x1 x2 x3 M = some res → Ex X (d + 1) mL_law 18 [(0, .ref X.1), (1, .ref x1), (2, .ref x2), (3, .int x3)] [] M (some (.int (jz res.1))) res.2) : ∀ (x1 : Nat) (x2 : Nat) (x3 : Int32) (s0 : Bool) (s1 : Int32) (s2 : Int32) (s3 : Nat) (M : Mem) (res : Bool × Mem), f_L_law_906 X k18 x1 x2 x3 s0 s1 s2 s3 M = some res → Ex X (d + 1) mL_law 906 [(0, .ref X.1), (1, .ref x1), (2, .ref x2), (3, .int x3)] [.int (jz s0), .int s1, .int s2, .ref s3] M (some (.int (jz res.1))) res.2 := by
  intro x1 x2 x3 s0 s1 s2 s3 M res  h
  unfold f_L_law_906 at h
  obtain ⟨q17, eq17, h⟩ := ob_some h
  refine ex_callV3r (pc := 906) dL_law_906 jX10_odds lmL_107 jiX10_odds jvX10_odds (o_X10_odds eq17) rfl (Nat.le_of_ble_eq_true rfl) (s_X10_odds (by omega)  eq17) ?_
  refine ex_aload_n (pc := 909) 2 dL_law_909 rfl rfl ?_
  refine ex_aload_n (pc := 910) 0 dL_law_910 rfl rfl ?_
  refine ex_iload_n (pc := 911) 3 dL_law_911 rfl rfl ?_
  refine ex_iconst (pc := 912) 1 dL_law_912 rfl ?_
  refine ex_iadd (pc := 913) dL_law_913 ?_
  obtain ⟨v18, ev18, h⟩ := ob_some h
  refine ex_scR (pc := 914) ev18 dL_law_914 ?_
  refine ex_aload_n (pc := 915) 0 dL_law_915 rfl rfl ?_
  refine ex_iload_n (pc := 916) 3 dL_law_916 rfl rfl ?_
  refine ex_iconst (pc := 917) 2 dL_law_917 rfl ?_
  refine ex_iadd (pc := 918) dL_law_918 ?_
  obtain ⟨v19, ev19, h⟩ := ob_some h
  refine ex_scR (pc := 919) ev19 dL_law_919 ?_
  refine ex_aload_n (pc := 920) 0 dL_law_920 rfl rfl ?_
  refine ex_iload_n (pc := 921) 3 dL_law_921 rfl rfl ?_
  refine ex_iconst (pc := 922) 3 dL_law_922 rfl ?_
  refine ex_iadd (pc := 923) dL_law_923 ?_
  obtain ⟨v20, ev20, h⟩ := ob_some h
  refine ex_scR (pc := 924) ev20 dL_law_924 ?_
  by_cases c21 : v20 = 0
  · rw [if_pos c21] at h
    refine ex_if_eq_t (pc := 925) 932 dL_law_925 rfl c21 ?_
    refine ex_iconst (pc := 932) 0 dL_law_932 rfl ?_
    refine ex_sub (lo' := [(0, .ref X.1), (1, .ref x1), (2, .ref x2), (3, .int x3)]) [0, 1, 2, 3] rfl ?_
    exact t_L_law_933 hd hk18 _ _ _ _ _ _ _ _ _ _  h
  · rw [if_neg c21] at h
    refine ex_if_eq_f (pc := 925) dL_law_925 932 rfl c21 ?_
    refine ex_iconst (pc := 928) 1 dL_law_928 rfl ?_
    refine ex_goto (pc := 929) 933 dL_law_929 rfl ?_
    refine ex_sub (lo' := [(0, .ref X.1), (1, .ref x1), (2, .ref x2), (3, .int x3)]) [0, 1, 2, 3] rfl ?_
    exact t_L_law_933 hd hk18 _ _ _ _ _ _ _ _ _ _  h
noncomputable def f_L_law_1180 (X : XV) (k18 : Nat → Nat → Int32 → Mem → Option (Bool × Mem)) (x1 : Nat) (x2 : Nat) (x3 : Int32) (s0 : Bool) (s1 : Nat) (s2 : Int32) (M : Mem) : Option (Bool × Mem) :=
  (f_X11_stays s1 s0 M).bind fun v22 =>
  if s2 = v22 then
  (k18 x1 x2 (x3 + 6) M)
  else
  (some (false, M))
set_option maxHeartbeats 4000000 in
theorem t_L_law_1180 {X : XV} {d : Nat} (hd : 124 ≤ d + 1) {k18 : Nat → Nat → Int32 → Mem → Option (Bool × Mem)} (hk18 : ∀ (x1 : Nat) (x2 : Nat) (x3 : Int32) (M : Mem) (res : Bool × Mem), k18 x1 x2 x3 M = some res → Ex X (d + 1) mL_law 18 [(0, .ref X.1), (1, .ref x1), (2, .ref x2), (3, .int x3)] [] M (some (.int (jz res.1))) res.2) : ∀ (x1 : Nat) (x2 : Nat) (x3 : Int32) (s0 : Bool) (s1 : Nat) (s2 : Int32) (M : Mem) (res : Bool × Mem), f_L_law_1180 X k18 x1 x2 x3 s0 s1 s2 M = some res → Ex X (d + 1) mL_law 1180 [(0, .ref X.1), (1, .ref x1), (2, .ref x2), (3, .int x3)] [.int (jz s0), .ref s1, .int s2] M (some (.int (jz res.1))) res.2 := by
  intro x1 x2 x3 s0 s1 s2 M res  h
  unfold f_L_law_1180 at h
  obtain ⟨v22, ev22, h⟩ := ob_some h
  refine ex_callV1r (pc := 1180) dL_law_1180 jX11_stays lmL_152 jiX11_stays jvX11_stays (o_X11_stays ev22) rfl (Nat.le_of_ble_eq_true rfl) (s_X11_stays (by omega)  ev22) ?_
  by_cases c23 : s2 = v22
  · rw [if_pos c23] at h
    refine ex_icmp_eq_t (pc := 1183) 1569 dL_law_1183 rfl c23 ?_
    refine ex_iinc (pc := 1569) (x3 + 6) 3 [(3, .int (x3 + 6)), (0, .ref X.1), (1, .ref x1), (2, .ref x2)] dL_law_1569 rfl rfl (by decide) rfl ?_
    refine ex_goto (pc := 1572) 18 dL_law_1572 rfl ?_
    refine ex_sub (lo' := [(0, .ref X.1), (1, .ref x1), (2, .ref x2), (3, .int (x3 + 6))]) [1, 2, 3, 0] rfl ?_
    exact hk18 _ _ _ _ _  h
  · rw [if_neg c23] at h
    refine ex_icmp_eq_f (pc := 1183) dL_law_1183 1569 rfl c23 ?_
    refine ex_iconst (pc := 1186) 0 dL_law_1186 rfl ?_
    cases h
    exact ex_ireturn (pc := 1187) dL_law_1187
noncomputable def f_L_law_1163 (X : XV) (k18 : Nat → Nat → Int32 → Mem → Option (Bool × Mem)) (x1 : Nat) (x2 : Nat) (x3 : Int32) (s0 : Bool) (s1 : Nat) (M : Mem) : Option (Bool × Mem) :=
  (f_X10_stays s1 s0 M).bind fun v24 =>
  (scR X (x3 + 1)).bind fun v25 =>
  if v25 = 0 then
  (f_L_law_1180 X k18 x1 x2 x3 false x2 v24 M)
  else
  (f_L_law_1180 X k18 x1 x2 x3 true x2 v24 M)
set_option maxHeartbeats 4000000 in
theorem t_L_law_1163 {X : XV} {d : Nat} (hd : 124 ≤ d + 1) {k18 : Nat → Nat → Int32 → Mem → Option (Bool × Mem)} (hk18 : ∀ (x1 : Nat) (x2 : Nat) (x3 : Int32) (M : Mem) (res : Bool × Mem), k18 x1 x2 x3 M = some res → Ex X (d + 1) mL_law 18 [(0, .ref X.1), (1, .ref x1), (2, .ref x2), (3, .int x3)] [] M (some (.int (jz res.1))) res.2) : ∀ (x1 : Nat) (x2 : Nat) (x3 : Int32) (s0 : Bool) (s1 : Nat) (M : Mem) (res : Bool × Mem), f_L_law_1163 X k18 x1 x2 x3 s0 s1 M = some res → Ex X (d + 1) mL_law 1163 [(0, .ref X.1), (1, .ref x1), (2, .ref x2), (3, .int x3)] [.int (jz s0), .ref s1] M (some (.int (jz res.1))) res.2 := by
  intro x1 x2 x3 s0 s1 M res  h
  unfold f_L_law_1163 at h
  obtain ⟨v24, ev24, h⟩ := ob_some h
  refine ex_callV1r (pc := 1163) dL_law_1163 jX10_stays lmL_148 jiX10_stays jvX10_stays (o_X10_stays ev24) rfl (Nat.le_of_ble_eq_true rfl) (s_X10_stays (by omega)  ev24) ?_
  refine ex_aload_n (pc := 1166) 2 dL_law_1166 rfl rfl ?_
  refine ex_aload_n (pc := 1167) 0 dL_law_1167 rfl rfl ?_
  refine ex_iload_n (pc := 1168) 3 dL_law_1168 rfl rfl ?_
  refine ex_iconst (pc := 1169) 1 dL_law_1169 rfl ?_
  refine ex_iadd (pc := 1170) dL_law_1170 ?_
  obtain ⟨v25, ev25, h⟩ := ob_some h
  refine ex_scR (pc := 1171) ev25 dL_law_1171 ?_
  by_cases c26 : v25 = 0
  · rw [if_pos c26] at h
    refine ex_if_eq_t (pc := 1172) 1179 dL_law_1172 rfl c26 ?_
    refine ex_iconst (pc := 1179) 0 dL_law_1179 rfl ?_
    refine ex_sub (lo' := [(0, .ref X.1), (1, .ref x1), (2, .ref x2), (3, .int x3)]) [0, 1, 2, 3] rfl ?_
    exact t_L_law_1180 hd hk18 _ _ _ _ _ _ _ _  h
  · rw [if_neg c26] at h
    refine ex_if_eq_f (pc := 1172) dL_law_1172 1179 rfl c26 ?_
    refine ex_iconst (pc := 1175) 1 dL_law_1175 rfl ?_
    refine ex_goto (pc := 1176) 1180 dL_law_1176 rfl ?_
    refine ex_sub (lo' := [(0, .ref X.1), (1, .ref x1), (2, .ref x2), (3, .int x3)]) [0, 1, 2, 3] rfl ?_
    exact t_L_law_1180 hd hk18 _ _ _ _ _ _ _ _  h
noncomputable def f_L_law_1234 (X : XV) (k18 : Nat → Nat → Int32 → Mem → Option (Bool × Mem)) (x1 : Nat) (x2 : Nat) (x3 : Int32) (s0 : Bool) (s1 : Nat) (s2 : Bool) (M : Mem) : Option (Bool × Mem) :=
  (scR X (x3 + 2)).bind fun v27 =>
  (scR X (x3 + 3)).bind fun v28 =>
  (scR X (x3 + 4)).bind fun v29 =>
  (f_X11_likes s1 s0 v27 v28 v29 M).bind fun q30 =>
  if (jz s2) = (jz q30.1) then
  (k18 x1 x2 (x3 + 6) q30.2)
  else
  (some (false, q30.2))
set_option maxHeartbeats 4000000 in
theorem t_L_law_1234 {X : XV} {d : Nat} (hd : 124 ≤ d + 1) {k18 : Nat → Nat → Int32 → Mem → Option (Bool × Mem)} (hk18 : ∀ (x1 : Nat) (x2 : Nat) (x3 : Int32) (M : Mem) (res : Bool × Mem), k18 x1 x2 x3 M = some res → Ex X (d + 1) mL_law 18 [(0, .ref X.1), (1, .ref x1), (2, .ref x2), (3, .int x3)] [] M (some (.int (jz res.1))) res.2) : ∀ (x1 : Nat) (x2 : Nat) (x3 : Int32) (s0 : Bool) (s1 : Nat) (s2 : Bool) (M : Mem) (res : Bool × Mem), f_L_law_1234 X k18 x1 x2 x3 s0 s1 s2 M = some res → Ex X (d + 1) mL_law 1234 [(0, .ref X.1), (1, .ref x1), (2, .ref x2), (3, .int x3)] [.int (jz s0), .ref s1, .int (jz s2)] M (some (.int (jz res.1))) res.2 := by
  intro x1 x2 x3 s0 s1 s2 M res  h
  unfold f_L_law_1234 at h
  refine ex_aload_n (pc := 1234) 0 dL_law_1234 rfl rfl ?_
  refine ex_iload_n (pc := 1235) 3 dL_law_1235 rfl rfl ?_
  refine ex_iconst (pc := 1236) 2 dL_law_1236 rfl ?_
  refine ex_iadd (pc := 1237) dL_law_1237 ?_
  obtain ⟨v27, ev27, h⟩ := ob_some h
  refine ex_scR (pc := 1238) ev27 dL_law_1238 ?_
  refine ex_aload_n (pc := 1239) 0 dL_law_1239 rfl rfl ?_
  refine ex_iload_n (pc := 1240) 3 dL_law_1240 rfl rfl ?_
  refine ex_iconst (pc := 1241) 3 dL_law_1241 rfl ?_
  refine ex_iadd (pc := 1242) dL_law_1242 ?_
  obtain ⟨v28, ev28, h⟩ := ob_some h
  refine ex_scR (pc := 1243) ev28 dL_law_1243 ?_
  refine ex_aload_n (pc := 1244) 0 dL_law_1244 rfl rfl ?_
  refine ex_iload_n (pc := 1245) 3 dL_law_1245 rfl rfl ?_
  refine ex_iconst (pc := 1246) 4 dL_law_1246 rfl ?_
  refine ex_iadd (pc := 1247) dL_law_1247 ?_
  obtain ⟨v29, ev29, h⟩ := ob_some h
  refine ex_scR (pc := 1248) ev29 dL_law_1248 ?_
  obtain ⟨q30, eq30, h⟩ := ob_some h
  refine ex_callV4r (pc := 1249) dL_law_1249 jX11_likes lmL_157 jiX11_likes jvX11_likes (o_X11_likes eq30) rfl (Nat.le_of_ble_eq_true rfl) (s_X11_likes (by omega)  eq30) ?_
  by_cases c31 : (jz s2) = (jz q30.1)
  · rw [if_pos c31] at h
    refine ex_icmp_eq_t (pc := 1252) 1569 dL_law_1252 rfl c31 ?_
    refine ex_iinc (pc := 1569) (x3 + 6) 3 [(3, .int (x3 + 6)), (0, .ref X.1), (1, .ref x1), (2, .ref x2)] dL_law_1569 rfl rfl (by decide) rfl ?_
    refine ex_goto (pc := 1572) 18 dL_law_1572 rfl ?_
    refine ex_sub (lo' := [(0, .ref X.1), (1, .ref x1), (2, .ref x2), (3, .int (x3 + 6))]) [1, 2, 3, 0] rfl ?_
    exact hk18 _ _ _ _ _  h
  · rw [if_neg c31] at h
    refine ex_icmp_eq_f (pc := 1252) dL_law_1252 1569 rfl c31 ?_
    refine ex_iconst (pc := 1255) 0 dL_law_1255 rfl ?_
    cases h
    exact ex_ireturn (pc := 1256) dL_law_1256
noncomputable def f_L_law_1202 (X : XV) (k18 : Nat → Nat → Int32 → Mem → Option (Bool × Mem)) (x1 : Nat) (x2 : Nat) (x3 : Int32) (s0 : Bool) (s1 : Nat) (M : Mem) : Option (Bool × Mem) :=
  (scR X (x3 + 2)).bind fun v32 =>
  (scR X (x3 + 3)).bind fun v33 =>
  (scR X (x3 + 4)).bind fun v34 =>
  (f_X10_likes s1 s0 v32 v33 v34 M).bind fun q35 =>
  (scR X (x3 + 1)).bind fun v36 =>
  if v36 = 0 then
  (f_L_law_1234 X k18 x1 x2 x3 false x2 q35.1 q35.2)
  else
  (f_L_law_1234 X k18 x1 x2 x3 true x2 q35.1 q35.2)
set_option maxHeartbeats 4000000 in
theorem t_L_law_1202 {X : XV} {d : Nat} (hd : 124 ≤ d + 1) {k18 : Nat → Nat → Int32 → Mem → Option (Bool × Mem)} (hk18 : ∀ (x1 : Nat) (x2 : Nat) (x3 : Int32) (M : Mem) (res : Bool × Mem), k18 x1 x2 x3 M = some res → Ex X (d + 1) mL_law 18 [(0, .ref X.1), (1, .ref x1), (2, .ref x2), (3, .int x3)] [] M (some (.int (jz res.1))) res.2) : ∀ (x1 : Nat) (x2 : Nat) (x3 : Int32) (s0 : Bool) (s1 : Nat) (M : Mem) (res : Bool × Mem), f_L_law_1202 X k18 x1 x2 x3 s0 s1 M = some res → Ex X (d + 1) mL_law 1202 [(0, .ref X.1), (1, .ref x1), (2, .ref x2), (3, .int x3)] [.int (jz s0), .ref s1] M (some (.int (jz res.1))) res.2 := by
  intro x1 x2 x3 s0 s1 M res  h
  unfold f_L_law_1202 at h
  refine ex_aload_n (pc := 1202) 0 dL_law_1202 rfl rfl ?_
  refine ex_iload_n (pc := 1203) 3 dL_law_1203 rfl rfl ?_
  refine ex_iconst (pc := 1204) 2 dL_law_1204 rfl ?_
  refine ex_iadd (pc := 1205) dL_law_1205 ?_
  obtain ⟨v32, ev32, h⟩ := ob_some h
  refine ex_scR (pc := 1206) ev32 dL_law_1206 ?_
  refine ex_aload_n (pc := 1207) 0 dL_law_1207 rfl rfl ?_
  refine ex_iload_n (pc := 1208) 3 dL_law_1208 rfl rfl ?_
  refine ex_iconst (pc := 1209) 3 dL_law_1209 rfl ?_
  refine ex_iadd (pc := 1210) dL_law_1210 ?_
  obtain ⟨v33, ev33, h⟩ := ob_some h
  refine ex_scR (pc := 1211) ev33 dL_law_1211 ?_
  refine ex_aload_n (pc := 1212) 0 dL_law_1212 rfl rfl ?_
  refine ex_iload_n (pc := 1213) 3 dL_law_1213 rfl rfl ?_
  refine ex_iconst (pc := 1214) 4 dL_law_1214 rfl ?_
  refine ex_iadd (pc := 1215) dL_law_1215 ?_
  obtain ⟨v34, ev34, h⟩ := ob_some h
  refine ex_scR (pc := 1216) ev34 dL_law_1216 ?_
  obtain ⟨q35, eq35, h⟩ := ob_some h
  refine ex_callV4r (pc := 1217) dL_law_1217 jX10_likes lmL_153 jiX10_likes jvX10_likes (o_X10_likes eq35) rfl (Nat.le_of_ble_eq_true rfl) (s_X10_likes (by omega)  eq35) ?_
  refine ex_aload_n (pc := 1220) 2 dL_law_1220 rfl rfl ?_
  refine ex_aload_n (pc := 1221) 0 dL_law_1221 rfl rfl ?_
  refine ex_iload_n (pc := 1222) 3 dL_law_1222 rfl rfl ?_
  refine ex_iconst (pc := 1223) 1 dL_law_1223 rfl ?_
  refine ex_iadd (pc := 1224) dL_law_1224 ?_
  obtain ⟨v36, ev36, h⟩ := ob_some h
  refine ex_scR (pc := 1225) ev36 dL_law_1225 ?_
  by_cases c37 : v36 = 0
  · rw [if_pos c37] at h
    refine ex_if_eq_t (pc := 1226) 1233 dL_law_1226 rfl c37 ?_
    refine ex_iconst (pc := 1233) 0 dL_law_1233 rfl ?_
    refine ex_sub (lo' := [(0, .ref X.1), (1, .ref x1), (2, .ref x2), (3, .int x3)]) [0, 1, 2, 3] rfl ?_
    exact t_L_law_1234 hd hk18 _ _ _ _ _ _ _ _  h
  · rw [if_neg c37] at h
    refine ex_if_eq_f (pc := 1226) dL_law_1226 1233 rfl c37 ?_
    refine ex_iconst (pc := 1229) 1 dL_law_1229 rfl ?_
    refine ex_goto (pc := 1230) 1234 dL_law_1230 rfl ?_
    refine ex_sub (lo' := [(0, .ref X.1), (1, .ref x1), (2, .ref x2), (3, .int x3)]) [0, 1, 2, 3] rfl ?_
    exact t_L_law_1234 hd hk18 _ _ _ _ _ _ _ _  h
noncomputable def f_L_law_18 (X : XV) (n0 : Nat) (x1 : Nat) (x2 : Nat) (x3 : Int32) (M : Mem) : Option (Bool × Mem) :=
  match n0 with
  | 0 => none
  | n + 1 =>
    if ((Int32.ofNat X.2.1) - 6) < x3 then
    (some (true, M))
    else
    ((scR X x3).bind fun v39 =>
    if (v39 &&& 63) = 0 then
    ((scR X (x3 + 1)).bind fun v41 =>
    (scR X (x3 + 2)).bind fun v42 =>
    (f_X10_machine x1 v41 v42 M).bind fun q43 =>
    (scR X (x3 + 1)).bind fun v44 =>
    (scR X (x3 + 2)).bind fun v45 =>
    (f_X11_machine x2 v44 v45 q43.2).bind fun q46 =>
    if q43.1 = q46.1 then
    (f_L_law_18 X n x1 x2 (x3 + 6) q46.2)
    else
    (some (false, q46.2)))
    else
    (if (v39 &&& 63) = 1 then
    ((scR X (x3 + 1)).bind fun v49 =>
    (scR X (x3 + 2)).bind fun v50 =>
    if v50 = 0 then
    (f_L_law_288 X (f_L_law_18 X n) x1 x2 x3 false v49 x1 M)
    else
    (f_L_law_288 X (f_L_law_18 X n) x1 x2 x3 true v49 x1 M))
    else
    (if (v39 &&& 63) = 2 then
    ((scR X (x3 + 1)).bind fun v53 =>
    (scR X (x3 + 2)).bind fun v54 =>
    (scR X (x3 + 3)).bind fun v55 =>
    (scR X (x3 + 4)).bind fun v56 =>
    (scR X (x3 + 5)).bind fun v57 =>
    (f_X10_feed x1 v53 v54 v55 v56 v57 M).bind fun q58 =>
    (scR X (x3 + 1)).bind fun v59 =>
    (scR X (x3 + 2)).bind fun v60 =>
    (scR X (x3 + 3)).bind fun v61 =>
    (scR X (x3 + 4)).bind fun v62 =>
    (scR X (x3 + 5)).bind fun v63 =>
    (f_X11_feed x2 v59 v60 v61 v62 v63 q58.2).bind fun q64 =>
    if q58.1 = q64.1 then
    (f_L_law_18 X n x1 x2 (x3 + 6) q64.2)
    else
    (some (false, q64.2)))
    else
    (if (v39 &&& 63) = 3 then
    ((scR X (x3 + 1)).bind fun v67 =>
    (f_X10_end x1 v67 M).bind fun q68 =>
    (scR X (x3 + 1)).bind fun v69 =>
    (f_X11_end x2 v69 q68.2).bind fun q70 =>
    if q68.1 = q70.1 then
    (f_L_law_18 X n x1 x2 (x3 + 6) q70.2)
    else
    (some (false, q70.2)))
    else
    (if (v39 &&& 63) = 4 then
    ((f_X10_text x1 M).bind fun q73 =>
    (f_X11_text x2 q73.2).bind fun q74 =>
    if q73.1 = q74.1 then
    (f_L_law_18 X n x1 x2 (x3 + 6) q74.2)
    else
    (some (false, q74.2)))
    else
    (if (v39 &&& 63) = 5 then
    ((scR X (x3 + 1)).bind fun v77 =>
    (f_X10_fault x1 v77 M).bind fun v78 =>
    (scR X (x3 + 1)).bind fun v79 =>
    (f_X11_fault x2 v79 M).bind fun v80 =>
    if v78 = v80 then
    (f_L_law_18 X n x1 x2 (x3 + 6) M)
    else
    (some (false, M)))
    else
    (if (v39 &&& 63) = 6 then
    ((scR X (x3 + 1)).bind fun v83 =>
    (f_X10_by x1 v83 M).bind fun q84 =>
    (scR X (x3 + 1)).bind fun v85 =>
    (f_X11_by x2 v85 q84.2).bind fun q86 =>
    if (jz q84.1) = (jz q86.1) then
    (f_L_law_18 X n x1 x2 (x3 + 6) q86.2)
    else
    (some (false, q86.2)))
    else
    (if (v39 &&& 63) = 7 then
    ((scR X (x3 + 1)).bind fun v89 =>
    (scR X (x3 + 2)).bind fun v90 =>
    (f_X10_crank x1 v89 v90 M).bind fun q91 =>
    (scR X (x3 + 1)).bind fun v92 =>
    (scR X (x3 + 2)).bind fun v93 =>
    (f_X11_crank x2 v92 v93 q91.2).bind fun q94 =>
    if q91.1 = q94.1 then
    (f_L_law_18 X n x1 x2 (x3 + 6) q94.2)
    else
    (some (false, q94.2)))
    else
    (if (v39 &&& 63) = 8 then
    ((scR X (x3 + 1)).bind fun v97 =>
    (scR X (x3 + 2)).bind fun v98 =>
    (f_X10_oil x1 v97 v98 M).bind fun q99 =>
    (scR X (x3 + 1)).bind fun v100 =>
    (scR X (x3 + 2)).bind fun v101 =>
    (f_X11_oil x2 v100 v101 q99.2).bind fun q102 =>
    if (jz q99.1) = (jz q102.1) then
    (f_L_law_18 X n x1 x2 (x3 + 6) q102.2)
    else
    (some (false, q102.2)))
    else
    (if (v39 &&& 63) = 9 then
    ((scR X (x3 + 1)).bind fun v105 =>
    (f_X10_lift x1 v105 M).bind fun q106 =>
    (scR X (x3 + 1)).bind fun v107 =>
    (f_X11_lift x2 v107 q106.2).bind fun q108 =>
    if (jz q106.1) = (jz q108.1) then
    (f_L_law_18 X n x1 x2 (x3 + 6) q108.2)
    else
    (some (false, q108.2)))
    else
    (if (v39 &&& 63) = 10 then
    ((scR X (x3 + 1)).bind fun v111 =>
    (f_X10_night x1 v111 M).bind fun q112 =>
    (scR X (x3 + 1)).bind fun v113 =>
    (f_X11_night x2 v113 q112.2).bind fun q114 =>
    if q112.1 = q114.1 then
    (f_L_law_18 X n x1 x2 (x3 + 6) q114.2)
    else
    (some (false, q114.2)))
    else
    (if (v39 &&& 63) = 11 then
    ((scR X (x3 + 1)).bind fun v117 =>
    (f_X10_played x1 v117 M).bind fun q118 =>
    (scR X (x3 + 1)).bind fun v119 =>
    (f_X11_played x2 v119 q118.2).bind fun q120 =>
    if q118.1 = q120.1 then
    (f_L_law_18 X n x1 x2 (x3 + 6) q120.2)
    else
    (some (false, q120.2)))
    else
    (if (v39 &&& 63) = 12 then
    ((scR X (x3 + 1)).bind fun v123 =>
    (scR X (x3 + 2)).bind fun v124 =>
    (f_X10_decades x1 v123 v124 M).bind fun q125 =>
    (scR X (x3 + 1)).bind fun v126 =>
    (scR X (x3 + 2)).bind fun v127 =>
    (f_X11_decades x2 v126 v127 q125.2).bind fun q128 =>
    if q125.1 = q128.1 then
    (f_L_law_18 X n x1 x2 (x3 + 6) q128.2)
    else
    (some (false, q128.2)))
    else
    (if (v39 &&& 63) = 13 then
    ((f_X10_undo x1 M).bind fun q131 =>
    (f_X11_undo x2 q131.2).bind fun q132 =>
    if q131.1 = q132.1 then
    (f_L_law_18 X n x1 x2 (x3 + 6) q132.2)
    else
    (some (false, q132.2)))
    else
    (if (v39 &&& 63) = 14 then
    ((scR X (x3 + 1)).bind fun v135 =>
    (scR X (x3 + 2)).bind fun v136 =>
    (f_X10_of x1 v135 v136 M).bind fun q137 =>
    (scR X (x3 + 1)).bind fun v138 =>
    (scR X (x3 + 2)).bind fun v139 =>
    (f_X11_of x2 v138 v139 q137.2).bind fun q140 =>
    if q137.1 = q140.1 then
    (f_L_law_18 X n x1 x2 (x3 + 6) q140.2)
    else
    (some (false, q140.2)))
    else
    (if (v39 &&& 63) = 15 then
    ((scR X (x3 + 1)).bind fun v143 =>
    (scR X (x3 + 2)).bind fun v144 =>
    if v144 = 0 then
    (f_L_law_706 X (f_L_law_18 X n) x1 x2 x3 false v143 x1 M)
    else
    (f_L_law_706 X (f_L_law_18 X n) x1 x2 x3 true v143 x1 M))
    else
    (if (v39 &&& 63) = 16 then
    ((scR X (x3 + 1)).bind fun v147 =>
    (f_X10_is x1 v147 M).bind fun v148 =>
    (scR X (x3 + 1)).bind fun v149 =>
    (f_X11_is x2 v149 M).bind fun v150 =>
    if v148 = v150 then
    (f_L_law_18 X n x1 x2 (x3 + 6) M)
    else
    (some (false, M)))
    else
    (if (v39 &&& 63) = 17 then
    ((scR X (x3 + 1)).bind fun v153 =>
    (scR X (x3 + 2)).bind fun v154 =>
    (f_X10_book x1 v153 v154 M).bind fun v155 =>
    (scR X (x3 + 1)).bind fun v156 =>
    (scR X (x3 + 2)).bind fun v157 =>
    (f_X11_book x2 v156 v157 M).bind fun v158 =>
    if v155 = v158 then
    (f_L_law_18 X n x1 x2 (x3 + 6) M)
    else
    (some (false, M)))
    else
    (if (v39 &&& 63) = 18 then
    ((scR X (x3 + 1)).bind fun v161 =>
    (scR X (x3 + 2)).bind fun v162 =>
    (scR X (x3 + 3)).bind fun v163 =>
    (f_X10_foretold x1 v161 v162 v163 M).bind fun q164 =>
    (scR X (x3 + 1)).bind fun v165 =>
    (scR X (x3 + 2)).bind fun v166 =>
    (scR X (x3 + 3)).bind fun v167 =>
    (f_X11_foretold x2 v165 v166 v167 q164.2).bind fun q168 =>
    if q164.1 = q168.1 then
    (f_L_law_18 X n x1 x2 (x3 + 6) q168.2)
    else
    (some (false, q168.2)))
    else
    (if (v39 &&& 63) = 19 then
    ((scR X (x3 + 1)).bind fun v171 =>
    (f_X10_put x1 v171 M).bind fun q172 =>
    (scR X (x3 + 1)).bind fun v173 =>
    (f_X11_put x2 v173 q172.2).bind fun q174 =>
    if q172.1 = q174.1 then
    (f_L_law_18 X n x1 x2 (x3 + 6) q174.2)
    else
    (some (false, q174.2)))
    else
    (if (v39 &&& 63) = 20 then
    ((scR X (x3 + 1)).bind fun v177 =>
    (f_X10_may x1 v177 M).bind fun q178 =>
    (scR X (x3 + 1)).bind fun v179 =>
    (f_X11_may x2 v179 q178.2).bind fun q180 =>
    if (lg_cmp q178.1 q180.1) = 0 then
    (f_L_law_18 X n x1 x2 (x3 + 6) q180.2)
    else
    (some (false, q180.2)))
    else
    (if (v39 &&& 63) = 21 then
    ((scR X (x3 + 1)).bind fun v183 =>
    (scR X (x3 + 2)).bind fun v184 =>
    (scR X (x3 + 3)).bind fun v185 =>
    if v185 = 0 then
    (f_L_law_906 X (f_L_law_18 X n) x1 x2 x3 false v184 v183 x1 M)
    else
    (f_L_law_906 X (f_L_law_18 X n) x1 x2 x3 true v184 v183 x1 M))
    else
    (if (v39 &&& 63) = 22 then
    ((scR X (x3 + 1)).bind fun v188 =>
    (f_X10_day x1 v188 M).bind fun q189 =>
    (scR X (x3 + 1)).bind fun v190 =>
    (f_X11_day x2 v190 q189.2).bind fun q191 =>
    if q189.1 = q191.1 then
    (f_L_law_18 X n x1 x2 (x3 + 6) q191.2)
    else
    (some (false, q191.2)))
    else
    (if (v39 &&& 63) = 23 then
    ((f_X10_fits x1 M).bind fun q194 =>
    (f_X11_fits x2 q194.2).bind fun q195 =>
    if q194.1 = q195.1 then
    (f_L_law_18 X n x1 x2 (x3 + 6) q195.2)
    else
    (some (false, q195.2)))
    else
    (if (v39 &&& 63) = 24 then
    ((scR X (x3 + 1)).bind fun v198 =>
    (f_X10_likeliest x1 v198 M).bind fun q199 =>
    (scR X (x3 + 1)).bind fun v200 =>
    (f_X11_likeliest x2 v200 q199.2).bind fun q201 =>
    if q199.1 = q201.1 then
    (f_L_law_18 X n x1 x2 (x3 + 6) q201.2)
    else
    (some (false, q201.2)))
    else
    (if (v39 &&& 63) = 25 then
    ((scR X (x3 + 1)).bind fun v204 =>
    (f_X10_add x1 v204 M).bind fun q205 =>
    (scR X (x3 + 1)).bind fun v206 =>
    (f_X11_add x2 v206 q205.2).bind fun q207 =>
    if q205.1 = q207.1 then
    (f_L_law_18 X n x1 x2 (x3 + 6) q207.2)
    else
    (some (false, q207.2)))
    else
    (if (v39 &&& 63) = 26 then
    ((scR X (x3 + 1)).bind fun v210 =>
    (f_X10_second x1 v210 M).bind fun q211 =>
    (scR X (x3 + 1)).bind fun v212 =>
    (f_X11_second x2 v212 q211.2).bind fun q213 =>
    if q211.1 = q213.1 then
    (f_L_law_18 X n x1 x2 (x3 + 6) q213.2)
    else
    (some (false, q213.2)))
    else
    (if (v39 &&& 63) = 27 then
    ((scR X (x3 + 1)).bind fun v216 =>
    (scR X (x3 + 2)).bind fun v217 =>
    (f_X10_duet x1 v216 v217 M).bind fun q218 =>
    (scR X (x3 + 1)).bind fun v219 =>
    (scR X (x3 + 2)).bind fun v220 =>
    (f_X11_duet x2 v219 v220 q218.2).bind fun q221 =>
    if q218.1 = q221.1 then
    (f_L_law_18 X n x1 x2 (x3 + 6) q221.2)
    else
    (some (false, q221.2)))
    else
    (if (v39 &&& 63) = 28 then
    ((scR X (x3 + 1)).bind fun v224 =>
    (f_X10_common x1 v224 M).bind fun q225 =>
    (scR X (x3 + 1)).bind fun v226 =>
    (f_X11_common x2 v226 q225.2).bind fun q227 =>
    if q225.1 = q227.1 then
    (f_L_law_18 X n x1 x2 (x3 + 6) q227.2)
    else
    (some (false, q227.2)))
    else
    (if (v39 &&& 63) = 29 then
    ((f_X10_apart x1 M).bind fun q230 =>
    (f_X11_apart x2 q230.2).bind fun q231 =>
    if q230.1 = q231.1 then
    (f_L_law_18 X n x1 x2 (x3 + 6) q231.2)
    else
    (some (false, q231.2)))
    else
    (if (v39 &&& 63) = 30 then
    ((scR X (x3 + 1)).bind fun v234 =>
    (scR X (x3 + 2)).bind fun v235 =>
    (f_X10_grows x1 v234 v235 M).bind fun q236 =>
    (scR X (x3 + 1)).bind fun v237 =>
    (scR X (x3 + 2)).bind fun v238 =>
    (f_X11_grows x2 v237 v238 q236.2).bind fun q239 =>
    if q236.1 = q239.1 then
    (f_L_law_18 X n x1 x2 (x3 + 6) q239.2)
    else
    (some (false, q239.2)))
    else
    (if (v39 &&& 63) = 31 then
    ((scR X (x3 + 1)).bind fun v242 =>
    if v242 = 0 then
    (f_L_law_1163 X (f_L_law_18 X n) x1 x2 x3 false x1 M)
    else
    (f_L_law_1163 X (f_L_law_18 X n) x1 x2 x3 true x1 M))
    else
    (if (v39 &&& 63) = 32 then
    ((scR X (x3 + 1)).bind fun v245 =>
    if v245 = 0 then
    (f_L_law_1202 X (f_L_law_18 X n) x1 x2 x3 false x1 M)
    else
    (f_L_law_1202 X (f_L_law_18 X n) x1 x2 x3 true x1 M))
    else
    (if (v39 &&& 63) = 33 then
    ((scR X (x3 + 1)).bind fun v248 =>
    (f_X10_paired x1 v248 M).bind fun q249 =>
    (scR X (x3 + 1)).bind fun v250 =>
    (f_X11_paired x2 v250 q249.2).bind fun q251 =>
    if q249.1 = q251.1 then
    (f_L_law_18 X n x1 x2 (x3 + 6) q251.2)
    else
    (some (false, q251.2)))
    else
    (if (v39 &&& 63) = 34 then
    ((scR X (x3 + 1)).bind fun v254 =>
    (scR X (x3 + 2)).bind fun v255 =>
    (f_X10_blocks x1 v254 v255 M).bind fun v256 =>
    (scR X (x3 + 1)).bind fun v257 =>
    (scR X (x3 + 2)).bind fun v258 =>
    (f_X11_blocks x2 v257 v258 M).bind fun v259 =>
    if v256 = v259 then
    (f_L_law_18 X n x1 x2 (x3 + 6) M)
    else
    (some (false, M)))
    else
    (if (v39 &&& 63) = 35 then
    ((scR X (x3 + 1)).bind fun v262 =>
    (scR X (x3 + 2)).bind fun v263 =>
    (f_X10_needs x1 v262 v263 M).bind fun q264 =>
    (scR X (x3 + 1)).bind fun v265 =>
    (scR X (x3 + 2)).bind fun v266 =>
    (f_X11_needs x2 v265 v266 q264.2).bind fun q267 =>
    if (jz q264.1) = (jz q267.1) then
    (f_L_law_18 X n x1 x2 (x3 + 6) q267.2)
    else
    (some (false, q267.2)))
    else
    (if (v39 &&& 63) = 36 then
    ((scR X (x3 + 1)).bind fun v270 =>
    (scR X (x3 + 2)).bind fun v271 =>
    (scR X (x3 + 3)).bind fun v272 =>
    (f_X10_stock x1 v270 v271 v272 M).bind fun q273 =>
    (scR X (x3 + 1)).bind fun v274 =>
    (scR X (x3 + 2)).bind fun v275 =>
    (scR X (x3 + 3)).bind fun v276 =>
    (f_X11_stock x2 v274 v275 v276 q273.2).bind fun q277 =>
    if q273.1 = q277.1 then
    (f_L_law_18 X n x1 x2 (x3 + 6) q277.2)
    else
    (some (false, q277.2)))
    else
    (if (v39 &&& 63) = 37 then
    ((scR X (x3 + 1)).bind fun v280 =>
    (scR X (x3 + 2)).bind fun v281 =>
    (f_X10_looser x1 v280 v281 M).bind fun q282 =>
    (scR X (x3 + 1)).bind fun v283 =>
    (scR X (x3 + 2)).bind fun v284 =>
    (f_X11_looser x2 v283 v284 q282.2).bind fun q285 =>
    if q282.1 = q285.1 then
    (f_L_law_18 X n x1 x2 (x3 + 6) q285.2)
    else
    (some (false, q285.2)))
    else
    (if (v39 &&& 63) = 38 then
    ((f_X10_whose x1 M).bind fun q288 =>
    (f_X11_whose x2 q288.2).bind fun q289 =>
    if q288.1 = q289.1 then
    (f_L_law_18 X n x1 x2 (x3 + 6) q289.2)
    else
    (some (false, q289.2)))
    else
    (if (v39 &&& 63) = 39 then
    ((scR X (x3 + 1)).bind fun v292 =>
    (f_X10_forgiven x1 v292 M).bind fun v293 =>
    (scR X (x3 + 1)).bind fun v294 =>
    (f_X11_forgiven x2 v294 M).bind fun v295 =>
    if v293 = v295 then
    (f_L_law_18 X n x1 x2 (x3 + 6) M)
    else
    (some (false, M)))
    else
    (if (v39 &&& 63) = 40 then
    ((f_X10_snow x1 M).bind fun v298 =>
    (f_X11_snow x2 M).bind fun v299 =>
    if v298 = v299 then
    (f_L_law_18 X n x1 x2 (x3 + 6) M)
    else
    (some (false, M)))
    else
    (if (v39 &&& 63) = 41 then
    ((f_X10_worn x1 M).bind fun v302 =>
    (f_X11_worn x2 M).bind fun v303 =>
    if v302 = v303 then
    (f_L_law_18 X n x1 x2 (x3 + 6) M)
    else
    (some (false, M)))
    else
    (if (v39 &&& 63) = 42 then
    ((f_X10_blank x1 M).bind fun v306 =>
    (f_X11_blank x2 M).bind fun v307 =>
    if v306 = v307 then
    (f_L_law_18 X n x1 x2 (x3 + 6) M)
    else
    (some (false, M)))
    else
    (if (v39 &&& 63) = 43 then
    ((scR X (x3 + 1)).bind fun v310 =>
    (f_X10_ledger x1 v310 M).bind fun v311 =>
    (scR X (x3 + 1)).bind fun v312 =>
    (f_X11_ledger x2 v312 M).bind fun v313 =>
    if v311 = v313 then
    (f_L_law_18 X n x1 x2 (x3 + 6) M)
    else
    (some (false, M)))
    else
    (if (v39 &&& 63) = 44 then
    ((f_X10_image x1 M).bind fun q316 =>
    (f_X11_image x2 q316.2).bind fun q317 =>
    if q316.1 = q317.1 then
    (f_L_law_18 X n x1 x2 (x3 + 6) q317.2)
    else
    (some (false, q317.2)))
    else
    (if (v39 &&& 63) = 45 then
    ((f_X10_back x1 M).bind fun q320 =>
    (f_X11_back x2 q320.2).bind fun q321 =>
    if q320.1 = q321.1 then
    (f_L_law_18 X n x1 x2 (x3 + 6) q321.2)
    else
    (some (false, q321.2)))
    else
    (if (v39 &&& 63) = 46 then
    ((scR X (x3 + 1)).bind fun v324 =>
    (f_X10_about x1 v324 M).bind fun v325 =>
    (scR X (x3 + 1)).bind fun v326 =>
    (f_X11_about x2 v326 M).bind fun v327 =>
    if v325 = v327 then
    (f_L_law_18 X n x1 x2 (x3 + 6) M)
    else
    (some (false, M)))
    else
    (f_L_law_18 X n x1 x2 (x3 + 6) M))))))))))))))))))))))))))))))))))))))))))))))))
set_option maxHeartbeats 4000000 in
theorem t_L_law_18 {X : XV} {d : Nat} (hd : 124 ≤ d + 1) : ∀ (n : Nat) (x1 : Nat) (x2 : Nat) (x3 : Int32) (M : Mem) (res : Bool × Mem), f_L_law_18 X n  x1 x2 x3 M = some res → Ex X (d + 1) mL_law 18 [(0, .ref X.1), (1, .ref x1), (2, .ref x2), (3, .int x3)] [] M (some (.int (jz res.1))) res.2 := by
  intro n
  induction n with
  | zero =>
    intro x1 x2 x3 M res  h
    unfold f_L_law_18 at h
    cases h
  | succ n ih =>
    intro x1 x2 x3 M res  h
    unfold f_L_law_18 at h
    refine ex_iload_n (pc := 18) 3 dL_law_18 rfl rfl ?_
    refine ex_aload_n (pc := 19) 0 dL_law_19 rfl rfl ?_
    refine ex_slen (pc := 20) dL_law_20 ?_
    refine ex_bipush (pc := 21) 6 dL_law_21 (by decide) ?_
    refine ex_isub (pc := 23) dL_law_23 ?_
    by_cases c38 : ((Int32.ofNat X.2.1) - 6) < x3
    · rw [if_pos c38] at h
      refine ex_icmp_gt_t (pc := 24) 1575 dL_law_24 rfl c38 ?_
      refine ex_iconst (pc := 1575) 1 dL_law_1575 rfl ?_
      cases h
      exact ex_ireturn (pc := 1576) dL_law_1576
    · rw [if_neg c38] at h
      refine ex_icmp_gt_f (pc := 24) dL_law_24 1575 rfl c38 ?_
      refine ex_aload_n (pc := 27) 0 dL_law_27 rfl rfl ?_
      refine ex_iload_n (pc := 28) 3 dL_law_28 rfl rfl ?_
      obtain ⟨v39, ev39, h⟩ := ob_some h
      refine ex_scR (pc := 29) ev39 dL_law_29 ?_
      refine ex_bipush (pc := 30) 63 dL_law_30 (by decide) ?_
      refine ex_iand (pc := 32) dL_law_32 ?_
      by_cases c40 : (v39 &&& 63) = 0
      · rw [if_pos c40] at h
        refine ex_tabIn (pc := 33) 236 dL_law_33 (by rw [c40]; decide) (by rw [c40]; decide) (by rw [c40]; rfl) rfl ?_
        refine ex_aload_n (pc := 236) 1 dL_law_236 rfl rfl ?_
        refine ex_aload_n (pc := 237) 0 dL_law_237 rfl rfl ?_
        refine ex_iload_n (pc := 238) 3 dL_law_238 rfl rfl ?_
        refine ex_iconst (pc := 239) 1 dL_law_239 rfl ?_
        refine ex_iadd (pc := 240) dL_law_240 ?_
        obtain ⟨v41, ev41, h⟩ := ob_some h
        refine ex_scR (pc := 241) ev41 dL_law_241 ?_
        refine ex_aload_n (pc := 242) 0 dL_law_242 rfl rfl ?_
        refine ex_iload_n (pc := 243) 3 dL_law_243 rfl rfl ?_
        refine ex_iconst (pc := 244) 2 dL_law_244 rfl ?_
        refine ex_iadd (pc := 245) dL_law_245 ?_
        obtain ⟨v42, ev42, h⟩ := ob_some h
        refine ex_scR (pc := 246) ev42 dL_law_246 ?_
        obtain ⟨q43, eq43, h⟩ := ob_some h
        refine ex_callV2r (pc := 247) dL_law_247 jX10_machine lmL_13 jiX10_machine jvX10_machine (o_X10_machine eq43) rfl (Nat.le_of_ble_eq_true rfl) (s_X10_machine (by omega)  eq43) ?_
        refine ex_aload_n (pc := 250) 2 dL_law_250 rfl rfl ?_
        refine ex_aload_n (pc := 251) 0 dL_law_251 rfl rfl ?_
        refine ex_iload_n (pc := 252) 3 dL_law_252 rfl rfl ?_
        refine ex_iconst (pc := 253) 1 dL_law_253 rfl ?_
        refine ex_iadd (pc := 254) dL_law_254 ?_
        obtain ⟨v44, ev44, h⟩ := ob_some h
        refine ex_scR (pc := 255) ev44 dL_law_255 ?_
        refine ex_aload_n (pc := 256) 0 dL_law_256 rfl rfl ?_
        refine ex_iload_n (pc := 257) 3 dL_law_257 rfl rfl ?_
        refine ex_iconst (pc := 258) 2 dL_law_258 rfl ?_
        refine ex_iadd (pc := 259) dL_law_259 ?_
        obtain ⟨v45, ev45, h⟩ := ob_some h
        refine ex_scR (pc := 260) ev45 dL_law_260 ?_
        obtain ⟨q46, eq46, h⟩ := ob_some h
        refine ex_callV2r (pc := 261) dL_law_261 jX11_machine lmL_17 jiX11_machine jvX11_machine (o_X11_machine eq46) rfl (Nat.le_of_ble_eq_true rfl) (s_X11_machine (by omega)  eq46) ?_
        by_cases c47 : q43.1 = q46.1
        · rw [if_pos c47] at h
          refine ex_icmp_eq_t (pc := 264) 1569 dL_law_264 rfl c47 ?_
          refine ex_iinc (pc := 1569) (x3 + 6) 3 [(3, .int (x3 + 6)), (0, .ref X.1), (1, .ref x1), (2, .ref x2)] dL_law_1569 rfl rfl (by decide) rfl ?_
          refine ex_goto (pc := 1572) 18 dL_law_1572 rfl ?_
          refine ex_sub (lo' := [(0, .ref X.1), (1, .ref x1), (2, .ref x2), (3, .int (x3 + 6))]) [1, 2, 3, 0] rfl ?_
          exact ih _ _ _ _ _  h
        · rw [if_neg c47] at h
          refine ex_icmp_eq_f (pc := 264) dL_law_264 1569 rfl c47 ?_
          refine ex_iconst (pc := 267) 0 dL_law_267 rfl ?_
          cases h
          exact ex_ireturn (pc := 268) dL_law_268
      · rw [if_neg c40] at h
        by_cases c48 : (v39 &&& 63) = 1
        · rw [if_pos c48] at h
          refine ex_tabIn (pc := 33) 269 dL_law_33 (by rw [c48]; decide) (by rw [c48]; decide) (by rw [c48]; rfl) rfl ?_
          refine ex_aload_n (pc := 269) 1 dL_law_269 rfl rfl ?_
          refine ex_aload_n (pc := 270) 0 dL_law_270 rfl rfl ?_
          refine ex_iload_n (pc := 271) 3 dL_law_271 rfl rfl ?_
          refine ex_iconst (pc := 272) 1 dL_law_272 rfl ?_
          refine ex_iadd (pc := 273) dL_law_273 ?_
          obtain ⟨v49, ev49, h⟩ := ob_some h
          refine ex_scR (pc := 274) ev49 dL_law_274 ?_
          refine ex_aload_n (pc := 275) 0 dL_law_275 rfl rfl ?_
          refine ex_iload_n (pc := 276) 3 dL_law_276 rfl rfl ?_
          refine ex_iconst (pc := 277) 2 dL_law_277 rfl ?_
          refine ex_iadd (pc := 278) dL_law_278 ?_
          obtain ⟨v50, ev50, h⟩ := ob_some h
          refine ex_scR (pc := 279) ev50 dL_law_279 ?_
          by_cases c51 : v50 = 0
          · rw [if_pos c51] at h
            refine ex_if_eq_t (pc := 280) 287 dL_law_280 rfl c51 ?_
            refine ex_iconst (pc := 287) 0 dL_law_287 rfl ?_
            refine ex_sub (lo' := [(0, .ref X.1), (1, .ref x1), (2, .ref x2), (3, .int x3)]) [0, 1, 2, 3] rfl ?_
            exact t_L_law_288 hd ih _ _ _ _ _ _ _ _  h
          · rw [if_neg c51] at h
            refine ex_if_eq_f (pc := 280) dL_law_280 287 rfl c51 ?_
            refine ex_iconst (pc := 283) 1 dL_law_283 rfl ?_
            refine ex_goto (pc := 284) 288 dL_law_284 rfl ?_
            refine ex_sub (lo' := [(0, .ref X.1), (1, .ref x1), (2, .ref x2), (3, .int x3)]) [0, 1, 2, 3] rfl ?_
            exact t_L_law_288 hd ih _ _ _ _ _ _ _ _  h
        · rw [if_neg c48] at h
          by_cases c52 : (v39 &&& 63) = 2
          · rw [if_pos c52] at h
            refine ex_tabIn (pc := 33) 328 dL_law_33 (by rw [c52]; decide) (by rw [c52]; decide) (by rw [c52]; rfl) rfl ?_
            refine ex_aload_n (pc := 328) 1 dL_law_328 rfl rfl ?_
            refine ex_aload_n (pc := 329) 0 dL_law_329 rfl rfl ?_
            refine ex_iload_n (pc := 330) 3 dL_law_330 rfl rfl ?_
            refine ex_iconst (pc := 331) 1 dL_law_331 rfl ?_
            refine ex_iadd (pc := 332) dL_law_332 ?_
            obtain ⟨v53, ev53, h⟩ := ob_some h
            refine ex_scR (pc := 333) ev53 dL_law_333 ?_
            refine ex_aload_n (pc := 334) 0 dL_law_334 rfl rfl ?_
            refine ex_iload_n (pc := 335) 3 dL_law_335 rfl rfl ?_
            refine ex_iconst (pc := 336) 2 dL_law_336 rfl ?_
            refine ex_iadd (pc := 337) dL_law_337 ?_
            obtain ⟨v54, ev54, h⟩ := ob_some h
            refine ex_scR (pc := 338) ev54 dL_law_338 ?_
            refine ex_aload_n (pc := 339) 0 dL_law_339 rfl rfl ?_
            refine ex_iload_n (pc := 340) 3 dL_law_340 rfl rfl ?_
            refine ex_iconst (pc := 341) 3 dL_law_341 rfl ?_
            refine ex_iadd (pc := 342) dL_law_342 ?_
            obtain ⟨v55, ev55, h⟩ := ob_some h
            refine ex_scR (pc := 343) ev55 dL_law_343 ?_
            refine ex_aload_n (pc := 344) 0 dL_law_344 rfl rfl ?_
            refine ex_iload_n (pc := 345) 3 dL_law_345 rfl rfl ?_
            refine ex_iconst (pc := 346) 4 dL_law_346 rfl ?_
            refine ex_iadd (pc := 347) dL_law_347 ?_
            obtain ⟨v56, ev56, h⟩ := ob_some h
            refine ex_scR (pc := 348) ev56 dL_law_348 ?_
            refine ex_aload_n (pc := 349) 0 dL_law_349 rfl rfl ?_
            refine ex_iload_n (pc := 350) 3 dL_law_350 rfl rfl ?_
            refine ex_iconst (pc := 351) 5 dL_law_351 rfl ?_
            refine ex_iadd (pc := 352) dL_law_352 ?_
            obtain ⟨v57, ev57, h⟩ := ob_some h
            refine ex_scR (pc := 353) ev57 dL_law_353 ?_
            obtain ⟨q58, eq58, h⟩ := ob_some h
            refine ex_callV5r (pc := 354) dL_law_354 jX10_feed lmL_23 jiX10_feed jvX10_feed (o_X10_feed eq58) rfl (Nat.le_of_ble_eq_true rfl) (s_X10_feed (by omega)  eq58) ?_
            refine ex_aload_n (pc := 357) 2 dL_law_357 rfl rfl ?_
            refine ex_aload_n (pc := 358) 0 dL_law_358 rfl rfl ?_
            refine ex_iload_n (pc := 359) 3 dL_law_359 rfl rfl ?_
            refine ex_iconst (pc := 360) 1 dL_law_360 rfl ?_
            refine ex_iadd (pc := 361) dL_law_361 ?_
            obtain ⟨v59, ev59, h⟩ := ob_some h
            refine ex_scR (pc := 362) ev59 dL_law_362 ?_
            refine ex_aload_n (pc := 363) 0 dL_law_363 rfl rfl ?_
            refine ex_iload_n (pc := 364) 3 dL_law_364 rfl rfl ?_
            refine ex_iconst (pc := 365) 2 dL_law_365 rfl ?_
            refine ex_iadd (pc := 366) dL_law_366 ?_
            obtain ⟨v60, ev60, h⟩ := ob_some h
            refine ex_scR (pc := 367) ev60 dL_law_367 ?_
            refine ex_aload_n (pc := 368) 0 dL_law_368 rfl rfl ?_
            refine ex_iload_n (pc := 369) 3 dL_law_369 rfl rfl ?_
            refine ex_iconst (pc := 370) 3 dL_law_370 rfl ?_
            refine ex_iadd (pc := 371) dL_law_371 ?_
            obtain ⟨v61, ev61, h⟩ := ob_some h
            refine ex_scR (pc := 372) ev61 dL_law_372 ?_
            refine ex_aload_n (pc := 373) 0 dL_law_373 rfl rfl ?_
            refine ex_iload_n (pc := 374) 3 dL_law_374 rfl rfl ?_
            refine ex_iconst (pc := 375) 4 dL_law_375 rfl ?_
            refine ex_iadd (pc := 376) dL_law_376 ?_
            obtain ⟨v62, ev62, h⟩ := ob_some h
            refine ex_scR (pc := 377) ev62 dL_law_377 ?_
            refine ex_aload_n (pc := 378) 0 dL_law_378 rfl rfl ?_
            refine ex_iload_n (pc := 379) 3 dL_law_379 rfl rfl ?_
            refine ex_iconst (pc := 380) 5 dL_law_380 rfl ?_
            refine ex_iadd (pc := 381) dL_law_381 ?_
            obtain ⟨v63, ev63, h⟩ := ob_some h
            refine ex_scR (pc := 382) ev63 dL_law_382 ?_
            obtain ⟨q64, eq64, h⟩ := ob_some h
            refine ex_callV5r (pc := 383) dL_law_383 jX11_feed lmL_27 jiX11_feed jvX11_feed (o_X11_feed eq64) rfl (Nat.le_of_ble_eq_true rfl) (s_X11_feed (by omega)  eq64) ?_
            by_cases c65 : q58.1 = q64.1
            · rw [if_pos c65] at h
              refine ex_icmp_eq_t (pc := 386) 1569 dL_law_386 rfl c65 ?_
              refine ex_iinc (pc := 1569) (x3 + 6) 3 [(3, .int (x3 + 6)), (0, .ref X.1), (1, .ref x1), (2, .ref x2)] dL_law_1569 rfl rfl (by decide) rfl ?_
              refine ex_goto (pc := 1572) 18 dL_law_1572 rfl ?_
              refine ex_sub (lo' := [(0, .ref X.1), (1, .ref x1), (2, .ref x2), (3, .int (x3 + 6))]) [1, 2, 3, 0] rfl ?_
              exact ih _ _ _ _ _  h
            · rw [if_neg c65] at h
              refine ex_icmp_eq_f (pc := 386) dL_law_386 1569 rfl c65 ?_
              refine ex_iconst (pc := 389) 0 dL_law_389 rfl ?_
              cases h
              exact ex_ireturn (pc := 390) dL_law_390
          · rw [if_neg c52] at h
            by_cases c66 : (v39 &&& 63) = 3
            · rw [if_pos c66] at h
              refine ex_tabIn (pc := 33) 391 dL_law_33 (by rw [c66]; decide) (by rw [c66]; decide) (by rw [c66]; rfl) rfl ?_
              refine ex_aload_n (pc := 391) 1 dL_law_391 rfl rfl ?_
              refine ex_aload_n (pc := 392) 0 dL_law_392 rfl rfl ?_
              refine ex_iload_n (pc := 393) 3 dL_law_393 rfl rfl ?_
              refine ex_iconst (pc := 394) 1 dL_law_394 rfl ?_
              refine ex_iadd (pc := 395) dL_law_395 ?_
              obtain ⟨v67, ev67, h⟩ := ob_some h
              refine ex_scR (pc := 396) ev67 dL_law_396 ?_
              obtain ⟨q68, eq68, h⟩ := ob_some h
              refine ex_callV1r (pc := 397) dL_law_397 jX10_end lmL_28 jiX10_end jvX10_end (o_X10_end eq68) rfl (Nat.le_of_ble_eq_true rfl) (s_X10_end (by omega)  eq68) ?_
              refine ex_aload_n (pc := 400) 2 dL_law_400 rfl rfl ?_
              refine ex_aload_n (pc := 401) 0 dL_law_401 rfl rfl ?_
              refine ex_iload_n (pc := 402) 3 dL_law_402 rfl rfl ?_
              refine ex_iconst (pc := 403) 1 dL_law_403 rfl ?_
              refine ex_iadd (pc := 404) dL_law_404 ?_
              obtain ⟨v69, ev69, h⟩ := ob_some h
              refine ex_scR (pc := 405) ev69 dL_law_405 ?_
              obtain ⟨q70, eq70, h⟩ := ob_some h
              refine ex_callV1r (pc := 406) dL_law_406 jX11_end lmL_32 jiX11_end jvX11_end (o_X11_end eq70) rfl (Nat.le_of_ble_eq_true rfl) (s_X11_end (by omega)  eq70) ?_
              by_cases c71 : q68.1 = q70.1
              · rw [if_pos c71] at h
                refine ex_icmp_eq_t (pc := 409) 1569 dL_law_409 rfl c71 ?_
                refine ex_iinc (pc := 1569) (x3 + 6) 3 [(3, .int (x3 + 6)), (0, .ref X.1), (1, .ref x1), (2, .ref x2)] dL_law_1569 rfl rfl (by decide) rfl ?_
                refine ex_goto (pc := 1572) 18 dL_law_1572 rfl ?_
                refine ex_sub (lo' := [(0, .ref X.1), (1, .ref x1), (2, .ref x2), (3, .int (x3 + 6))]) [1, 2, 3, 0] rfl ?_
                exact ih _ _ _ _ _  h
              · rw [if_neg c71] at h
                refine ex_icmp_eq_f (pc := 409) dL_law_409 1569 rfl c71 ?_
                refine ex_iconst (pc := 412) 0 dL_law_412 rfl ?_
                cases h
                exact ex_ireturn (pc := 413) dL_law_413
            · rw [if_neg c66] at h
              by_cases c72 : (v39 &&& 63) = 4
              · rw [if_pos c72] at h
                refine ex_tabIn (pc := 33) 414 dL_law_33 (by rw [c72]; decide) (by rw [c72]; decide) (by rw [c72]; rfl) rfl ?_
                refine ex_aload_n (pc := 414) 1 dL_law_414 rfl rfl ?_
                obtain ⟨q73, eq73, h⟩ := ob_some h
                refine ex_callV0r (pc := 415) dL_law_415 jX10_text lmL_33 jiX10_text jvX10_text (o_X10_text eq73) rfl (Nat.le_of_ble_eq_true rfl) (s_X10_text (by omega)  eq73) ?_
                refine ex_aload_n (pc := 418) 2 dL_law_418 rfl rfl ?_
                obtain ⟨q74, eq74, h⟩ := ob_some h
                refine ex_callV0r (pc := 419) dL_law_419 jX11_text lmL_37 jiX11_text jvX11_text (o_X11_text eq74) rfl (Nat.le_of_ble_eq_true rfl) (s_X11_text (by omega)  eq74) ?_
                by_cases c75 : q73.1 = q74.1
                · rw [if_pos c75] at h
                  refine ex_icmp_eq_t (pc := 422) 1569 dL_law_422 rfl c75 ?_
                  refine ex_iinc (pc := 1569) (x3 + 6) 3 [(3, .int (x3 + 6)), (0, .ref X.1), (1, .ref x1), (2, .ref x2)] dL_law_1569 rfl rfl (by decide) rfl ?_
                  refine ex_goto (pc := 1572) 18 dL_law_1572 rfl ?_
                  refine ex_sub (lo' := [(0, .ref X.1), (1, .ref x1), (2, .ref x2), (3, .int (x3 + 6))]) [1, 2, 3, 0] rfl ?_
                  exact ih _ _ _ _ _  h
                · rw [if_neg c75] at h
                  refine ex_icmp_eq_f (pc := 422) dL_law_422 1569 rfl c75 ?_
                  refine ex_iconst (pc := 425) 0 dL_law_425 rfl ?_
                  cases h
                  exact ex_ireturn (pc := 426) dL_law_426
              · rw [if_neg c72] at h
                by_cases c76 : (v39 &&& 63) = 5
                · rw [if_pos c76] at h
                  refine ex_tabIn (pc := 33) 427 dL_law_33 (by rw [c76]; decide) (by rw [c76]; decide) (by rw [c76]; rfl) rfl ?_
                  refine ex_aload_n (pc := 427) 1 dL_law_427 rfl rfl ?_
                  refine ex_aload_n (pc := 428) 0 dL_law_428 rfl rfl ?_
                  refine ex_iload_n (pc := 429) 3 dL_law_429 rfl rfl ?_
                  refine ex_iconst (pc := 430) 1 dL_law_430 rfl ?_
                  refine ex_iadd (pc := 431) dL_law_431 ?_
                  obtain ⟨v77, ev77, h⟩ := ob_some h
                  refine ex_scR (pc := 432) ev77 dL_law_432 ?_
                  obtain ⟨v78, ev78, h⟩ := ob_some h
                  refine ex_callV1r (pc := 433) dL_law_433 jX10_fault lmL_38 jiX10_fault jvX10_fault (o_X10_fault ev78) rfl (Nat.le_of_ble_eq_true rfl) (s_X10_fault (by omega)  ev78) ?_
                  refine ex_aload_n (pc := 436) 2 dL_law_436 rfl rfl ?_
                  refine ex_aload_n (pc := 437) 0 dL_law_437 rfl rfl ?_
                  refine ex_iload_n (pc := 438) 3 dL_law_438 rfl rfl ?_
                  refine ex_iconst (pc := 439) 1 dL_law_439 rfl ?_
                  refine ex_iadd (pc := 440) dL_law_440 ?_
                  obtain ⟨v79, ev79, h⟩ := ob_some h
                  refine ex_scR (pc := 441) ev79 dL_law_441 ?_
                  obtain ⟨v80, ev80, h⟩ := ob_some h
                  refine ex_callV1r (pc := 442) dL_law_442 jX11_fault lmL_41 jiX11_fault jvX11_fault (o_X11_fault ev80) rfl (Nat.le_of_ble_eq_true rfl) (s_X11_fault (by omega)  ev80) ?_
                  by_cases c81 : v78 = v80
                  · rw [if_pos c81] at h
                    refine ex_icmp_eq_t (pc := 445) 1569 dL_law_445 rfl c81 ?_
                    refine ex_iinc (pc := 1569) (x3 + 6) 3 [(3, .int (x3 + 6)), (0, .ref X.1), (1, .ref x1), (2, .ref x2)] dL_law_1569 rfl rfl (by decide) rfl ?_
                    refine ex_goto (pc := 1572) 18 dL_law_1572 rfl ?_
                    refine ex_sub (lo' := [(0, .ref X.1), (1, .ref x1), (2, .ref x2), (3, .int (x3 + 6))]) [1, 2, 3, 0] rfl ?_
                    exact ih _ _ _ _ _  h
                  · rw [if_neg c81] at h
                    refine ex_icmp_eq_f (pc := 445) dL_law_445 1569 rfl c81 ?_
                    refine ex_iconst (pc := 448) 0 dL_law_448 rfl ?_
                    cases h
                    exact ex_ireturn (pc := 449) dL_law_449
                · rw [if_neg c76] at h
                  by_cases c82 : (v39 &&& 63) = 6
                  · rw [if_pos c82] at h
                    refine ex_tabIn (pc := 33) 450 dL_law_33 (by rw [c82]; decide) (by rw [c82]; decide) (by rw [c82]; rfl) rfl ?_
                    refine ex_aload_n (pc := 450) 1 dL_law_450 rfl rfl ?_
                    refine ex_aload_n (pc := 451) 0 dL_law_451 rfl rfl ?_
                    refine ex_iload_n (pc := 452) 3 dL_law_452 rfl rfl ?_
                    refine ex_iconst (pc := 453) 1 dL_law_453 rfl ?_
                    refine ex_iadd (pc := 454) dL_law_454 ?_
                    obtain ⟨v83, ev83, h⟩ := ob_some h
                    refine ex_scR (pc := 455) ev83 dL_law_455 ?_
                    obtain ⟨q84, eq84, h⟩ := ob_some h
                    refine ex_callV1r (pc := 456) dL_law_456 jX10_by lmL_42 jiX10_by jvX10_by (o_X10_by eq84) rfl (Nat.le_of_ble_eq_true rfl) (s_X10_by (by omega)  eq84) ?_
                    refine ex_aload_n (pc := 459) 2 dL_law_459 rfl rfl ?_
                    refine ex_aload_n (pc := 460) 0 dL_law_460 rfl rfl ?_
                    refine ex_iload_n (pc := 461) 3 dL_law_461 rfl rfl ?_
                    refine ex_iconst (pc := 462) 1 dL_law_462 rfl ?_
                    refine ex_iadd (pc := 463) dL_law_463 ?_
                    obtain ⟨v85, ev85, h⟩ := ob_some h
                    refine ex_scR (pc := 464) ev85 dL_law_464 ?_
                    obtain ⟨q86, eq86, h⟩ := ob_some h
                    refine ex_callV1r (pc := 465) dL_law_465 jX11_by lmL_46 jiX11_by jvX11_by (o_X11_by eq86) rfl (Nat.le_of_ble_eq_true rfl) (s_X11_by (by omega)  eq86) ?_
                    by_cases c87 : (jz q84.1) = (jz q86.1)
                    · rw [if_pos c87] at h
                      refine ex_icmp_eq_t (pc := 468) 1569 dL_law_468 rfl c87 ?_
                      refine ex_iinc (pc := 1569) (x3 + 6) 3 [(3, .int (x3 + 6)), (0, .ref X.1), (1, .ref x1), (2, .ref x2)] dL_law_1569 rfl rfl (by decide) rfl ?_
                      refine ex_goto (pc := 1572) 18 dL_law_1572 rfl ?_
                      refine ex_sub (lo' := [(0, .ref X.1), (1, .ref x1), (2, .ref x2), (3, .int (x3 + 6))]) [1, 2, 3, 0] rfl ?_
                      exact ih _ _ _ _ _  h
                    · rw [if_neg c87] at h
                      refine ex_icmp_eq_f (pc := 468) dL_law_468 1569 rfl c87 ?_
                      refine ex_iconst (pc := 471) 0 dL_law_471 rfl ?_
                      cases h
                      exact ex_ireturn (pc := 472) dL_law_472
                  · rw [if_neg c82] at h
                    by_cases c88 : (v39 &&& 63) = 7
                    · rw [if_pos c88] at h
                      refine ex_tabIn (pc := 33) 473 dL_law_33 (by rw [c88]; decide) (by rw [c88]; decide) (by rw [c88]; rfl) rfl ?_
                      refine ex_aload_n (pc := 473) 1 dL_law_473 rfl rfl ?_
                      refine ex_aload_n (pc := 474) 0 dL_law_474 rfl rfl ?_
                      refine ex_iload_n (pc := 475) 3 dL_law_475 rfl rfl ?_
                      refine ex_iconst (pc := 476) 1 dL_law_476 rfl ?_
                      refine ex_iadd (pc := 477) dL_law_477 ?_
                      obtain ⟨v89, ev89, h⟩ := ob_some h
                      refine ex_scR (pc := 478) ev89 dL_law_478 ?_
                      refine ex_aload_n (pc := 479) 0 dL_law_479 rfl rfl ?_
                      refine ex_iload_n (pc := 480) 3 dL_law_480 rfl rfl ?_
                      refine ex_iconst (pc := 481) 2 dL_law_481 rfl ?_
                      refine ex_iadd (pc := 482) dL_law_482 ?_
                      obtain ⟨v90, ev90, h⟩ := ob_some h
                      refine ex_scR (pc := 483) ev90 dL_law_483 ?_
                      obtain ⟨q91, eq91, h⟩ := ob_some h
                      refine ex_callV2r (pc := 484) dL_law_484 jX10_crank lmL_47 jiX10_crank jvX10_crank (o_X10_crank eq91) rfl (Nat.le_of_ble_eq_true rfl) (s_X10_crank (by omega)  eq91) ?_
                      refine ex_aload_n (pc := 487) 2 dL_law_487 rfl rfl ?_
                      refine ex_aload_n (pc := 488) 0 dL_law_488 rfl rfl ?_
                      refine ex_iload_n (pc := 489) 3 dL_law_489 rfl rfl ?_
                      refine ex_iconst (pc := 490) 1 dL_law_490 rfl ?_
                      refine ex_iadd (pc := 491) dL_law_491 ?_
                      obtain ⟨v92, ev92, h⟩ := ob_some h
                      refine ex_scR (pc := 492) ev92 dL_law_492 ?_
                      refine ex_aload_n (pc := 493) 0 dL_law_493 rfl rfl ?_
                      refine ex_iload_n (pc := 494) 3 dL_law_494 rfl rfl ?_
                      refine ex_iconst (pc := 495) 2 dL_law_495 rfl ?_
                      refine ex_iadd (pc := 496) dL_law_496 ?_
                      obtain ⟨v93, ev93, h⟩ := ob_some h
                      refine ex_scR (pc := 497) ev93 dL_law_497 ?_
                      obtain ⟨q94, eq94, h⟩ := ob_some h
                      refine ex_callV2r (pc := 498) dL_law_498 jX11_crank lmL_50 jiX11_crank jvX11_crank (o_X11_crank eq94) rfl (Nat.le_of_ble_eq_true rfl) (s_X11_crank (by omega)  eq94) ?_
                      by_cases c95 : q91.1 = q94.1
                      · rw [if_pos c95] at h
                        refine ex_icmp_eq_t (pc := 501) 1569 dL_law_501 rfl c95 ?_
                        refine ex_iinc (pc := 1569) (x3 + 6) 3 [(3, .int (x3 + 6)), (0, .ref X.1), (1, .ref x1), (2, .ref x2)] dL_law_1569 rfl rfl (by decide) rfl ?_
                        refine ex_goto (pc := 1572) 18 dL_law_1572 rfl ?_
                        refine ex_sub (lo' := [(0, .ref X.1), (1, .ref x1), (2, .ref x2), (3, .int (x3 + 6))]) [1, 2, 3, 0] rfl ?_
                        exact ih _ _ _ _ _  h
                      · rw [if_neg c95] at h
                        refine ex_icmp_eq_f (pc := 501) dL_law_501 1569 rfl c95 ?_
                        refine ex_iconst (pc := 504) 0 dL_law_504 rfl ?_
                        cases h
                        exact ex_ireturn (pc := 505) dL_law_505
                    · rw [if_neg c88] at h
                      by_cases c96 : (v39 &&& 63) = 8
                      · rw [if_pos c96] at h
                        refine ex_tabIn (pc := 33) 506 dL_law_33 (by rw [c96]; decide) (by rw [c96]; decide) (by rw [c96]; rfl) rfl ?_
                        refine ex_aload_n (pc := 506) 1 dL_law_506 rfl rfl ?_
                        refine ex_aload_n (pc := 507) 0 dL_law_507 rfl rfl ?_
                        refine ex_iload_n (pc := 508) 3 dL_law_508 rfl rfl ?_
                        refine ex_iconst (pc := 509) 1 dL_law_509 rfl ?_
                        refine ex_iadd (pc := 510) dL_law_510 ?_
                        obtain ⟨v97, ev97, h⟩ := ob_some h
                        refine ex_scR (pc := 511) ev97 dL_law_511 ?_
                        refine ex_aload_n (pc := 512) 0 dL_law_512 rfl rfl ?_
                        refine ex_iload_n (pc := 513) 3 dL_law_513 rfl rfl ?_
                        refine ex_iconst (pc := 514) 2 dL_law_514 rfl ?_
                        refine ex_iadd (pc := 515) dL_law_515 ?_
                        obtain ⟨v98, ev98, h⟩ := ob_some h
                        refine ex_scR (pc := 516) ev98 dL_law_516 ?_
                        obtain ⟨q99, eq99, h⟩ := ob_some h
                        refine ex_callV2r (pc := 517) dL_law_517 jX10_oil lmL_51 jiX10_oil jvX10_oil (o_X10_oil eq99) rfl (Nat.le_of_ble_eq_true rfl) (s_X10_oil (by omega)  eq99) ?_
                        refine ex_aload_n (pc := 520) 2 dL_law_520 rfl rfl ?_
                        refine ex_aload_n (pc := 521) 0 dL_law_521 rfl rfl ?_
                        refine ex_iload_n (pc := 522) 3 dL_law_522 rfl rfl ?_
                        refine ex_iconst (pc := 523) 1 dL_law_523 rfl ?_
                        refine ex_iadd (pc := 524) dL_law_524 ?_
                        obtain ⟨v100, ev100, h⟩ := ob_some h
                        refine ex_scR (pc := 525) ev100 dL_law_525 ?_
                        refine ex_aload_n (pc := 526) 0 dL_law_526 rfl rfl ?_
                        refine ex_iload_n (pc := 527) 3 dL_law_527 rfl rfl ?_
                        refine ex_iconst (pc := 528) 2 dL_law_528 rfl ?_
                        refine ex_iadd (pc := 529) dL_law_529 ?_
                        obtain ⟨v101, ev101, h⟩ := ob_some h
                        refine ex_scR (pc := 530) ev101 dL_law_530 ?_
                        obtain ⟨q102, eq102, h⟩ := ob_some h
                        refine ex_callV2r (pc := 531) dL_law_531 jX11_oil lmL_55 jiX11_oil jvX11_oil (o_X11_oil eq102) rfl (Nat.le_of_ble_eq_true rfl) (s_X11_oil (by omega)  eq102) ?_
                        by_cases c103 : (jz q99.1) = (jz q102.1)
                        · rw [if_pos c103] at h
                          refine ex_icmp_eq_t (pc := 534) 1569 dL_law_534 rfl c103 ?_
                          refine ex_iinc (pc := 1569) (x3 + 6) 3 [(3, .int (x3 + 6)), (0, .ref X.1), (1, .ref x1), (2, .ref x2)] dL_law_1569 rfl rfl (by decide) rfl ?_
                          refine ex_goto (pc := 1572) 18 dL_law_1572 rfl ?_
                          refine ex_sub (lo' := [(0, .ref X.1), (1, .ref x1), (2, .ref x2), (3, .int (x3 + 6))]) [1, 2, 3, 0] rfl ?_
                          exact ih _ _ _ _ _  h
                        · rw [if_neg c103] at h
                          refine ex_icmp_eq_f (pc := 534) dL_law_534 1569 rfl c103 ?_
                          refine ex_iconst (pc := 537) 0 dL_law_537 rfl ?_
                          cases h
                          exact ex_ireturn (pc := 538) dL_law_538
                      · rw [if_neg c96] at h
                        by_cases c104 : (v39 &&& 63) = 9
                        · rw [if_pos c104] at h
                          refine ex_tabIn (pc := 33) 539 dL_law_33 (by rw [c104]; decide) (by rw [c104]; decide) (by rw [c104]; rfl) rfl ?_
                          refine ex_aload_n (pc := 539) 1 dL_law_539 rfl rfl ?_
                          refine ex_aload_n (pc := 540) 0 dL_law_540 rfl rfl ?_
                          refine ex_iload_n (pc := 541) 3 dL_law_541 rfl rfl ?_
                          refine ex_iconst (pc := 542) 1 dL_law_542 rfl ?_
                          refine ex_iadd (pc := 543) dL_law_543 ?_
                          obtain ⟨v105, ev105, h⟩ := ob_some h
                          refine ex_scR (pc := 544) ev105 dL_law_544 ?_
                          obtain ⟨q106, eq106, h⟩ := ob_some h
                          refine ex_callV1r (pc := 545) dL_law_545 jX10_lift lmL_56 jiX10_lift jvX10_lift (o_X10_lift eq106) rfl (Nat.le_of_ble_eq_true rfl) (s_X10_lift (by omega)  eq106) ?_
                          refine ex_aload_n (pc := 548) 2 dL_law_548 rfl rfl ?_
                          refine ex_aload_n (pc := 549) 0 dL_law_549 rfl rfl ?_
                          refine ex_iload_n (pc := 550) 3 dL_law_550 rfl rfl ?_
                          refine ex_iconst (pc := 551) 1 dL_law_551 rfl ?_
                          refine ex_iadd (pc := 552) dL_law_552 ?_
                          obtain ⟨v107, ev107, h⟩ := ob_some h
                          refine ex_scR (pc := 553) ev107 dL_law_553 ?_
                          obtain ⟨q108, eq108, h⟩ := ob_some h
                          refine ex_callV1r (pc := 554) dL_law_554 jX11_lift lmL_59 jiX11_lift jvX11_lift (o_X11_lift eq108) rfl (Nat.le_of_ble_eq_true rfl) (s_X11_lift (by omega)  eq108) ?_
                          by_cases c109 : (jz q106.1) = (jz q108.1)
                          · rw [if_pos c109] at h
                            refine ex_icmp_eq_t (pc := 557) 1569 dL_law_557 rfl c109 ?_
                            refine ex_iinc (pc := 1569) (x3 + 6) 3 [(3, .int (x3 + 6)), (0, .ref X.1), (1, .ref x1), (2, .ref x2)] dL_law_1569 rfl rfl (by decide) rfl ?_
                            refine ex_goto (pc := 1572) 18 dL_law_1572 rfl ?_
                            refine ex_sub (lo' := [(0, .ref X.1), (1, .ref x1), (2, .ref x2), (3, .int (x3 + 6))]) [1, 2, 3, 0] rfl ?_
                            exact ih _ _ _ _ _  h
                          · rw [if_neg c109] at h
                            refine ex_icmp_eq_f (pc := 557) dL_law_557 1569 rfl c109 ?_
                            refine ex_iconst (pc := 560) 0 dL_law_560 rfl ?_
                            cases h
                            exact ex_ireturn (pc := 561) dL_law_561
                        · rw [if_neg c104] at h
                          by_cases c110 : (v39 &&& 63) = 10
                          · rw [if_pos c110] at h
                            refine ex_tabIn (pc := 33) 562 dL_law_33 (by rw [c110]; decide) (by rw [c110]; decide) (by rw [c110]; rfl) rfl ?_
                            refine ex_aload_n (pc := 562) 1 dL_law_562 rfl rfl ?_
                            refine ex_aload_n (pc := 563) 0 dL_law_563 rfl rfl ?_
                            refine ex_iload_n (pc := 564) 3 dL_law_564 rfl rfl ?_
                            refine ex_iconst (pc := 565) 1 dL_law_565 rfl ?_
                            refine ex_iadd (pc := 566) dL_law_566 ?_
                            obtain ⟨v111, ev111, h⟩ := ob_some h
                            refine ex_scR (pc := 567) ev111 dL_law_567 ?_
                            obtain ⟨q112, eq112, h⟩ := ob_some h
                            refine ex_callV1r (pc := 568) dL_law_568 jX10_night lmL_60 jiX10_night jvX10_night (o_X10_night eq112) rfl (Nat.le_of_ble_eq_true rfl) (s_X10_night (by omega)  eq112) ?_
                            refine ex_aload_n (pc := 571) 2 dL_law_571 rfl rfl ?_
                            refine ex_aload_n (pc := 572) 0 dL_law_572 rfl rfl ?_
                            refine ex_iload_n (pc := 573) 3 dL_law_573 rfl rfl ?_
                            refine ex_iconst (pc := 574) 1 dL_law_574 rfl ?_
                            refine ex_iadd (pc := 575) dL_law_575 ?_
                            obtain ⟨v113, ev113, h⟩ := ob_some h
                            refine ex_scR (pc := 576) ev113 dL_law_576 ?_
                            obtain ⟨q114, eq114, h⟩ := ob_some h
                            refine ex_callV1r (pc := 577) dL_law_577 jX11_night lmL_63 jiX11_night jvX11_night (o_X11_night eq114) rfl (Nat.le_of_ble_eq_true rfl) (s_X11_night (by omega)  eq114) ?_
                            by_cases c115 : q112.1 = q114.1
                            · rw [if_pos c115] at h
                              refine ex_icmp_eq_t (pc := 580) 1569 dL_law_580 rfl c115 ?_
                              refine ex_iinc (pc := 1569) (x3 + 6) 3 [(3, .int (x3 + 6)), (0, .ref X.1), (1, .ref x1), (2, .ref x2)] dL_law_1569 rfl rfl (by decide) rfl ?_
                              refine ex_goto (pc := 1572) 18 dL_law_1572 rfl ?_
                              refine ex_sub (lo' := [(0, .ref X.1), (1, .ref x1), (2, .ref x2), (3, .int (x3 + 6))]) [1, 2, 3, 0] rfl ?_
                              exact ih _ _ _ _ _  h
                            · rw [if_neg c115] at h
                              refine ex_icmp_eq_f (pc := 580) dL_law_580 1569 rfl c115 ?_
                              refine ex_iconst (pc := 583) 0 dL_law_583 rfl ?_
                              cases h
                              exact ex_ireturn (pc := 584) dL_law_584
                          · rw [if_neg c110] at h
                            by_cases c116 : (v39 &&& 63) = 11
                            · rw [if_pos c116] at h
                              refine ex_tabIn (pc := 33) 585 dL_law_33 (by rw [c116]; decide) (by rw [c116]; decide) (by rw [c116]; rfl) rfl ?_
                              refine ex_aload_n (pc := 585) 1 dL_law_585 rfl rfl ?_
                              refine ex_aload_n (pc := 586) 0 dL_law_586 rfl rfl ?_
                              refine ex_iload_n (pc := 587) 3 dL_law_587 rfl rfl ?_
                              refine ex_iconst (pc := 588) 1 dL_law_588 rfl ?_
                              refine ex_iadd (pc := 589) dL_law_589 ?_
                              obtain ⟨v117, ev117, h⟩ := ob_some h
                              refine ex_scR (pc := 590) ev117 dL_law_590 ?_
                              obtain ⟨q118, eq118, h⟩ := ob_some h
                              refine ex_callV1r (pc := 591) dL_law_591 jX10_played lmL_64 jiX10_played jvX10_played (o_X10_played eq118) rfl (Nat.le_of_ble_eq_true rfl) (s_X10_played (by omega)  eq118) ?_
                              refine ex_aload_n (pc := 594) 2 dL_law_594 rfl rfl ?_
                              refine ex_aload_n (pc := 595) 0 dL_law_595 rfl rfl ?_
                              refine ex_iload_n (pc := 596) 3 dL_law_596 rfl rfl ?_
                              refine ex_iconst (pc := 597) 1 dL_law_597 rfl ?_
                              refine ex_iadd (pc := 598) dL_law_598 ?_
                              obtain ⟨v119, ev119, h⟩ := ob_some h
                              refine ex_scR (pc := 599) ev119 dL_law_599 ?_
                              obtain ⟨q120, eq120, h⟩ := ob_some h
                              refine ex_callV1r (pc := 600) dL_law_600 jX11_played lmL_67 jiX11_played jvX11_played (o_X11_played eq120) rfl (Nat.le_of_ble_eq_true rfl) (s_X11_played (by omega)  eq120) ?_
                              by_cases c121 : q118.1 = q120.1
                              · rw [if_pos c121] at h
                                refine ex_icmp_eq_t (pc := 603) 1569 dL_law_603 rfl c121 ?_
                                refine ex_iinc (pc := 1569) (x3 + 6) 3 [(3, .int (x3 + 6)), (0, .ref X.1), (1, .ref x1), (2, .ref x2)] dL_law_1569 rfl rfl (by decide) rfl ?_
                                refine ex_goto (pc := 1572) 18 dL_law_1572 rfl ?_
                                refine ex_sub (lo' := [(0, .ref X.1), (1, .ref x1), (2, .ref x2), (3, .int (x3 + 6))]) [1, 2, 3, 0] rfl ?_
                                exact ih _ _ _ _ _  h
                              · rw [if_neg c121] at h
                                refine ex_icmp_eq_f (pc := 603) dL_law_603 1569 rfl c121 ?_
                                refine ex_iconst (pc := 606) 0 dL_law_606 rfl ?_
                                cases h
                                exact ex_ireturn (pc := 607) dL_law_607
                            · rw [if_neg c116] at h
                              by_cases c122 : (v39 &&& 63) = 12
                              · rw [if_pos c122] at h
                                refine ex_tabIn (pc := 33) 608 dL_law_33 (by rw [c122]; decide) (by rw [c122]; decide) (by rw [c122]; rfl) rfl ?_
                                refine ex_aload_n (pc := 608) 1 dL_law_608 rfl rfl ?_
                                refine ex_aload_n (pc := 609) 0 dL_law_609 rfl rfl ?_
                                refine ex_iload_n (pc := 610) 3 dL_law_610 rfl rfl ?_
                                refine ex_iconst (pc := 611) 1 dL_law_611 rfl ?_
                                refine ex_iadd (pc := 612) dL_law_612 ?_
                                obtain ⟨v123, ev123, h⟩ := ob_some h
                                refine ex_scR (pc := 613) ev123 dL_law_613 ?_
                                refine ex_aload_n (pc := 614) 0 dL_law_614 rfl rfl ?_
                                refine ex_iload_n (pc := 615) 3 dL_law_615 rfl rfl ?_
                                refine ex_iconst (pc := 616) 2 dL_law_616 rfl ?_
                                refine ex_iadd (pc := 617) dL_law_617 ?_
                                obtain ⟨v124, ev124, h⟩ := ob_some h
                                refine ex_scR (pc := 618) ev124 dL_law_618 ?_
                                obtain ⟨q125, eq125, h⟩ := ob_some h
                                refine ex_callV2r (pc := 619) dL_law_619 jX10_decades lmL_68 jiX10_decades jvX10_decades (o_X10_decades eq125) rfl (Nat.le_of_ble_eq_true rfl) (s_X10_decades (by omega)  eq125) ?_
                                refine ex_aload_n (pc := 622) 2 dL_law_622 rfl rfl ?_
                                refine ex_aload_n (pc := 623) 0 dL_law_623 rfl rfl ?_
                                refine ex_iload_n (pc := 624) 3 dL_law_624 rfl rfl ?_
                                refine ex_iconst (pc := 625) 1 dL_law_625 rfl ?_
                                refine ex_iadd (pc := 626) dL_law_626 ?_
                                obtain ⟨v126, ev126, h⟩ := ob_some h
                                refine ex_scR (pc := 627) ev126 dL_law_627 ?_
                                refine ex_aload_n (pc := 628) 0 dL_law_628 rfl rfl ?_
                                refine ex_iload_n (pc := 629) 3 dL_law_629 rfl rfl ?_
                                refine ex_iconst (pc := 630) 2 dL_law_630 rfl ?_
                                refine ex_iadd (pc := 631) dL_law_631 ?_
                                obtain ⟨v127, ev127, h⟩ := ob_some h
                                refine ex_scR (pc := 632) ev127 dL_law_632 ?_
                                obtain ⟨q128, eq128, h⟩ := ob_some h
                                refine ex_callV2r (pc := 633) dL_law_633 jX11_decades lmL_71 jiX11_decades jvX11_decades (o_X11_decades eq128) rfl (Nat.le_of_ble_eq_true rfl) (s_X11_decades (by omega)  eq128) ?_
                                by_cases c129 : q125.1 = q128.1
                                · rw [if_pos c129] at h
                                  refine ex_icmp_eq_t (pc := 636) 1569 dL_law_636 rfl c129 ?_
                                  refine ex_iinc (pc := 1569) (x3 + 6) 3 [(3, .int (x3 + 6)), (0, .ref X.1), (1, .ref x1), (2, .ref x2)] dL_law_1569 rfl rfl (by decide) rfl ?_
                                  refine ex_goto (pc := 1572) 18 dL_law_1572 rfl ?_
                                  refine ex_sub (lo' := [(0, .ref X.1), (1, .ref x1), (2, .ref x2), (3, .int (x3 + 6))]) [1, 2, 3, 0] rfl ?_
                                  exact ih _ _ _ _ _  h
                                · rw [if_neg c129] at h
                                  refine ex_icmp_eq_f (pc := 636) dL_law_636 1569 rfl c129 ?_
                                  refine ex_iconst (pc := 639) 0 dL_law_639 rfl ?_
                                  cases h
                                  exact ex_ireturn (pc := 640) dL_law_640
                              · rw [if_neg c122] at h
                                by_cases c130 : (v39 &&& 63) = 13
                                · rw [if_pos c130] at h
                                  refine ex_tabIn (pc := 33) 641 dL_law_33 (by rw [c130]; decide) (by rw [c130]; decide) (by rw [c130]; rfl) rfl ?_
                                  refine ex_aload_n (pc := 641) 1 dL_law_641 rfl rfl ?_
                                  obtain ⟨q131, eq131, h⟩ := ob_some h
                                  refine ex_callV0r (pc := 642) dL_law_642 jX10_undo lmL_72 jiX10_undo jvX10_undo (o_X10_undo eq131) rfl (Nat.le_of_ble_eq_true rfl) (s_X10_undo (by omega)  eq131) ?_
                                  refine ex_aload_n (pc := 645) 2 dL_law_645 rfl rfl ?_
                                  obtain ⟨q132, eq132, h⟩ := ob_some h
                                  refine ex_callV0r (pc := 646) dL_law_646 jX11_undo lmL_75 jiX11_undo jvX11_undo (o_X11_undo eq132) rfl (Nat.le_of_ble_eq_true rfl) (s_X11_undo (by omega)  eq132) ?_
                                  by_cases c133 : q131.1 = q132.1
                                  · rw [if_pos c133] at h
                                    refine ex_icmp_eq_t (pc := 649) 1569 dL_law_649 rfl c133 ?_
                                    refine ex_iinc (pc := 1569) (x3 + 6) 3 [(3, .int (x3 + 6)), (0, .ref X.1), (1, .ref x1), (2, .ref x2)] dL_law_1569 rfl rfl (by decide) rfl ?_
                                    refine ex_goto (pc := 1572) 18 dL_law_1572 rfl ?_
                                    refine ex_sub (lo' := [(0, .ref X.1), (1, .ref x1), (2, .ref x2), (3, .int (x3 + 6))]) [1, 2, 3, 0] rfl ?_
                                    exact ih _ _ _ _ _  h
                                  · rw [if_neg c133] at h
                                    refine ex_icmp_eq_f (pc := 649) dL_law_649 1569 rfl c133 ?_
                                    refine ex_iconst (pc := 652) 0 dL_law_652 rfl ?_
                                    cases h
                                    exact ex_ireturn (pc := 653) dL_law_653
                                · rw [if_neg c130] at h
                                  by_cases c134 : (v39 &&& 63) = 14
                                  · rw [if_pos c134] at h
                                    refine ex_tabIn (pc := 33) 654 dL_law_33 (by rw [c134]; decide) (by rw [c134]; decide) (by rw [c134]; rfl) rfl ?_
                                    refine ex_aload_n (pc := 654) 1 dL_law_654 rfl rfl ?_
                                    refine ex_aload_n (pc := 655) 0 dL_law_655 rfl rfl ?_
                                    refine ex_iload_n (pc := 656) 3 dL_law_656 rfl rfl ?_
                                    refine ex_iconst (pc := 657) 1 dL_law_657 rfl ?_
                                    refine ex_iadd (pc := 658) dL_law_658 ?_
                                    obtain ⟨v135, ev135, h⟩ := ob_some h
                                    refine ex_scR (pc := 659) ev135 dL_law_659 ?_
                                    refine ex_aload_n (pc := 660) 0 dL_law_660 rfl rfl ?_
                                    refine ex_iload_n (pc := 661) 3 dL_law_661 rfl rfl ?_
                                    refine ex_iconst (pc := 662) 2 dL_law_662 rfl ?_
                                    refine ex_iadd (pc := 663) dL_law_663 ?_
                                    obtain ⟨v136, ev136, h⟩ := ob_some h
                                    refine ex_scR (pc := 664) ev136 dL_law_664 ?_
                                    obtain ⟨q137, eq137, h⟩ := ob_some h
                                    refine ex_callV2r (pc := 665) dL_law_665 jX10_of lmL_76 jiX10_of jvX10_of (o_X10_of eq137) rfl (Nat.le_of_ble_eq_true rfl) (s_X10_of (by omega)  eq137) ?_
                                    refine ex_aload_n (pc := 668) 2 dL_law_668 rfl rfl ?_
                                    refine ex_aload_n (pc := 669) 0 dL_law_669 rfl rfl ?_
                                    refine ex_iload_n (pc := 670) 3 dL_law_670 rfl rfl ?_
                                    refine ex_iconst (pc := 671) 1 dL_law_671 rfl ?_
                                    refine ex_iadd (pc := 672) dL_law_672 ?_
                                    obtain ⟨v138, ev138, h⟩ := ob_some h
                                    refine ex_scR (pc := 673) ev138 dL_law_673 ?_
                                    refine ex_aload_n (pc := 674) 0 dL_law_674 rfl rfl ?_
                                    refine ex_iload_n (pc := 675) 3 dL_law_675 rfl rfl ?_
                                    refine ex_iconst (pc := 676) 2 dL_law_676 rfl ?_
                                    refine ex_iadd (pc := 677) dL_law_677 ?_
                                    obtain ⟨v139, ev139, h⟩ := ob_some h
                                    refine ex_scR (pc := 678) ev139 dL_law_678 ?_
                                    obtain ⟨q140, eq140, h⟩ := ob_some h
                                    refine ex_callV2r (pc := 679) dL_law_679 jX11_of lmL_79 jiX11_of jvX11_of (o_X11_of eq140) rfl (Nat.le_of_ble_eq_true rfl) (s_X11_of (by omega)  eq140) ?_
                                    by_cases c141 : q137.1 = q140.1
                                    · rw [if_pos c141] at h
                                      refine ex_icmp_eq_t (pc := 682) 1569 dL_law_682 rfl c141 ?_
                                      refine ex_iinc (pc := 1569) (x3 + 6) 3 [(3, .int (x3 + 6)), (0, .ref X.1), (1, .ref x1), (2, .ref x2)] dL_law_1569 rfl rfl (by decide) rfl ?_
                                      refine ex_goto (pc := 1572) 18 dL_law_1572 rfl ?_
                                      refine ex_sub (lo' := [(0, .ref X.1), (1, .ref x1), (2, .ref x2), (3, .int (x3 + 6))]) [1, 2, 3, 0] rfl ?_
                                      exact ih _ _ _ _ _  h
                                    · rw [if_neg c141] at h
                                      refine ex_icmp_eq_f (pc := 682) dL_law_682 1569 rfl c141 ?_
                                      refine ex_iconst (pc := 685) 0 dL_law_685 rfl ?_
                                      cases h
                                      exact ex_ireturn (pc := 686) dL_law_686
                                  · rw [if_neg c134] at h
                                    by_cases c142 : (v39 &&& 63) = 15
                                    · rw [if_pos c142] at h
                                      refine ex_tabIn (pc := 33) 687 dL_law_33 (by rw [c142]; decide) (by rw [c142]; decide) (by rw [c142]; rfl) rfl ?_
                                      refine ex_aload_n (pc := 687) 1 dL_law_687 rfl rfl ?_
                                      refine ex_aload_n (pc := 688) 0 dL_law_688 rfl rfl ?_
                                      refine ex_iload_n (pc := 689) 3 dL_law_689 rfl rfl ?_
                                      refine ex_iconst (pc := 690) 1 dL_law_690 rfl ?_
                                      refine ex_iadd (pc := 691) dL_law_691 ?_
                                      obtain ⟨v143, ev143, h⟩ := ob_some h
                                      refine ex_scR (pc := 692) ev143 dL_law_692 ?_
                                      refine ex_aload_n (pc := 693) 0 dL_law_693 rfl rfl ?_
                                      refine ex_iload_n (pc := 694) 3 dL_law_694 rfl rfl ?_
                                      refine ex_iconst (pc := 695) 2 dL_law_695 rfl ?_
                                      refine ex_iadd (pc := 696) dL_law_696 ?_
                                      obtain ⟨v144, ev144, h⟩ := ob_some h
                                      refine ex_scR (pc := 697) ev144 dL_law_697 ?_
                                      by_cases c145 : v144 = 0
                                      · rw [if_pos c145] at h
                                        refine ex_if_eq_t (pc := 698) 705 dL_law_698 rfl c145 ?_
                                        refine ex_iconst (pc := 705) 0 dL_law_705 rfl ?_
                                        refine ex_sub (lo' := [(0, .ref X.1), (1, .ref x1), (2, .ref x2), (3, .int x3)]) [0, 1, 2, 3] rfl ?_
                                        exact t_L_law_706 hd ih _ _ _ _ _ _ _ _  h
                                      · rw [if_neg c145] at h
                                        refine ex_if_eq_f (pc := 698) dL_law_698 705 rfl c145 ?_
                                        refine ex_iconst (pc := 701) 1 dL_law_701 rfl ?_
                                        refine ex_goto (pc := 702) 706 dL_law_702 rfl ?_
                                        refine ex_sub (lo' := [(0, .ref X.1), (1, .ref x1), (2, .ref x2), (3, .int x3)]) [0, 1, 2, 3] rfl ?_
                                        exact t_L_law_706 hd ih _ _ _ _ _ _ _ _  h
                                    · rw [if_neg c142] at h
                                      by_cases c146 : (v39 &&& 63) = 16
                                      · rw [if_pos c146] at h
                                        refine ex_tabIn (pc := 33) 736 dL_law_33 (by rw [c146]; decide) (by rw [c146]; decide) (by rw [c146]; rfl) rfl ?_
                                        refine ex_aload_n (pc := 736) 1 dL_law_736 rfl rfl ?_
                                        refine ex_aload_n (pc := 737) 0 dL_law_737 rfl rfl ?_
                                        refine ex_iload_n (pc := 738) 3 dL_law_738 rfl rfl ?_
                                        refine ex_iconst (pc := 739) 1 dL_law_739 rfl ?_
                                        refine ex_iadd (pc := 740) dL_law_740 ?_
                                        obtain ⟨v147, ev147, h⟩ := ob_some h
                                        refine ex_scR (pc := 741) ev147 dL_law_741 ?_
                                        obtain ⟨v148, ev148, h⟩ := ob_some h
                                        refine ex_callV1r (pc := 742) dL_law_742 jX10_is lmL_85 jiX10_is jvX10_is (o_X10_is ev148) rfl (Nat.le_of_ble_eq_true rfl) (s_X10_is (by omega)  ev148) ?_
                                        refine ex_aload_n (pc := 745) 2 dL_law_745 rfl rfl ?_
                                        refine ex_aload_n (pc := 746) 0 dL_law_746 rfl rfl ?_
                                        refine ex_iload_n (pc := 747) 3 dL_law_747 rfl rfl ?_
                                        refine ex_iconst (pc := 748) 1 dL_law_748 rfl ?_
                                        refine ex_iadd (pc := 749) dL_law_749 ?_
                                        obtain ⟨v149, ev149, h⟩ := ob_some h
                                        refine ex_scR (pc := 750) ev149 dL_law_750 ?_
                                        obtain ⟨v150, ev150, h⟩ := ob_some h
                                        refine ex_callV1r (pc := 751) dL_law_751 jX11_is lmL_88 jiX11_is jvX11_is (o_X11_is ev150) rfl (Nat.le_of_ble_eq_true rfl) (s_X11_is (by omega)  ev150) ?_
                                        by_cases c151 : v148 = v150
                                        · rw [if_pos c151] at h
                                          refine ex_icmp_eq_t (pc := 754) 1569 dL_law_754 rfl c151 ?_
                                          refine ex_iinc (pc := 1569) (x3 + 6) 3 [(3, .int (x3 + 6)), (0, .ref X.1), (1, .ref x1), (2, .ref x2)] dL_law_1569 rfl rfl (by decide) rfl ?_
                                          refine ex_goto (pc := 1572) 18 dL_law_1572 rfl ?_
                                          refine ex_sub (lo' := [(0, .ref X.1), (1, .ref x1), (2, .ref x2), (3, .int (x3 + 6))]) [1, 2, 3, 0] rfl ?_
                                          exact ih _ _ _ _ _  h
                                        · rw [if_neg c151] at h
                                          refine ex_icmp_eq_f (pc := 754) dL_law_754 1569 rfl c151 ?_
                                          refine ex_iconst (pc := 757) 0 dL_law_757 rfl ?_
                                          cases h
                                          exact ex_ireturn (pc := 758) dL_law_758
                                      · rw [if_neg c146] at h
                                        by_cases c152 : (v39 &&& 63) = 17
                                        · rw [if_pos c152] at h
                                          refine ex_tabIn (pc := 33) 759 dL_law_33 (by rw [c152]; decide) (by rw [c152]; decide) (by rw [c152]; rfl) rfl ?_
                                          refine ex_aload_n (pc := 759) 1 dL_law_759 rfl rfl ?_
                                          refine ex_aload_n (pc := 760) 0 dL_law_760 rfl rfl ?_
                                          refine ex_iload_n (pc := 761) 3 dL_law_761 rfl rfl ?_
                                          refine ex_iconst (pc := 762) 1 dL_law_762 rfl ?_
                                          refine ex_iadd (pc := 763) dL_law_763 ?_
                                          obtain ⟨v153, ev153, h⟩ := ob_some h
                                          refine ex_scR (pc := 764) ev153 dL_law_764 ?_
                                          refine ex_aload_n (pc := 765) 0 dL_law_765 rfl rfl ?_
                                          refine ex_iload_n (pc := 766) 3 dL_law_766 rfl rfl ?_
                                          refine ex_iconst (pc := 767) 2 dL_law_767 rfl ?_
                                          refine ex_iadd (pc := 768) dL_law_768 ?_
                                          obtain ⟨v154, ev154, h⟩ := ob_some h
                                          refine ex_scR (pc := 769) ev154 dL_law_769 ?_
                                          obtain ⟨v155, ev155, h⟩ := ob_some h
                                          refine ex_callV2r (pc := 770) dL_law_770 jX10_book lmL_89 jiX10_book jvX10_book (o_X10_book ev155) rfl (Nat.le_of_ble_eq_true rfl) (s_X10_book (by omega)  ev155) ?_
                                          refine ex_aload_n (pc := 773) 2 dL_law_773 rfl rfl ?_
                                          refine ex_aload_n (pc := 774) 0 dL_law_774 rfl rfl ?_
                                          refine ex_iload_n (pc := 775) 3 dL_law_775 rfl rfl ?_
                                          refine ex_iconst (pc := 776) 1 dL_law_776 rfl ?_
                                          refine ex_iadd (pc := 777) dL_law_777 ?_
                                          obtain ⟨v156, ev156, h⟩ := ob_some h
                                          refine ex_scR (pc := 778) ev156 dL_law_778 ?_
                                          refine ex_aload_n (pc := 779) 0 dL_law_779 rfl rfl ?_
                                          refine ex_iload_n (pc := 780) 3 dL_law_780 rfl rfl ?_
                                          refine ex_iconst (pc := 781) 2 dL_law_781 rfl ?_
                                          refine ex_iadd (pc := 782) dL_law_782 ?_
                                          obtain ⟨v157, ev157, h⟩ := ob_some h
                                          refine ex_scR (pc := 783) ev157 dL_law_783 ?_
                                          obtain ⟨v158, ev158, h⟩ := ob_some h
                                          refine ex_callV2r (pc := 784) dL_law_784 jX11_book lmL_92 jiX11_book jvX11_book (o_X11_book ev158) rfl (Nat.le_of_ble_eq_true rfl) (s_X11_book (by omega)  ev158) ?_
                                          by_cases c159 : v155 = v158
                                          · rw [if_pos c159] at h
                                            refine ex_icmp_eq_t (pc := 787) 1569 dL_law_787 rfl c159 ?_
                                            refine ex_iinc (pc := 1569) (x3 + 6) 3 [(3, .int (x3 + 6)), (0, .ref X.1), (1, .ref x1), (2, .ref x2)] dL_law_1569 rfl rfl (by decide) rfl ?_
                                            refine ex_goto (pc := 1572) 18 dL_law_1572 rfl ?_
                                            refine ex_sub (lo' := [(0, .ref X.1), (1, .ref x1), (2, .ref x2), (3, .int (x3 + 6))]) [1, 2, 3, 0] rfl ?_
                                            exact ih _ _ _ _ _  h
                                          · rw [if_neg c159] at h
                                            refine ex_icmp_eq_f (pc := 787) dL_law_787 1569 rfl c159 ?_
                                            refine ex_iconst (pc := 790) 0 dL_law_790 rfl ?_
                                            cases h
                                            exact ex_ireturn (pc := 791) dL_law_791
                                        · rw [if_neg c152] at h
                                          by_cases c160 : (v39 &&& 63) = 18
                                          · rw [if_pos c160] at h
                                            refine ex_tabIn (pc := 33) 792 dL_law_33 (by rw [c160]; decide) (by rw [c160]; decide) (by rw [c160]; rfl) rfl ?_
                                            refine ex_aload_n (pc := 792) 1 dL_law_792 rfl rfl ?_
                                            refine ex_aload_n (pc := 793) 0 dL_law_793 rfl rfl ?_
                                            refine ex_iload_n (pc := 794) 3 dL_law_794 rfl rfl ?_
                                            refine ex_iconst (pc := 795) 1 dL_law_795 rfl ?_
                                            refine ex_iadd (pc := 796) dL_law_796 ?_
                                            obtain ⟨v161, ev161, h⟩ := ob_some h
                                            refine ex_scR (pc := 797) ev161 dL_law_797 ?_
                                            refine ex_aload_n (pc := 798) 0 dL_law_798 rfl rfl ?_
                                            refine ex_iload_n (pc := 799) 3 dL_law_799 rfl rfl ?_
                                            refine ex_iconst (pc := 800) 2 dL_law_800 rfl ?_
                                            refine ex_iadd (pc := 801) dL_law_801 ?_
                                            obtain ⟨v162, ev162, h⟩ := ob_some h
                                            refine ex_scR (pc := 802) ev162 dL_law_802 ?_
                                            refine ex_aload_n (pc := 803) 0 dL_law_803 rfl rfl ?_
                                            refine ex_iload_n (pc := 804) 3 dL_law_804 rfl rfl ?_
                                            refine ex_iconst (pc := 805) 3 dL_law_805 rfl ?_
                                            refine ex_iadd (pc := 806) dL_law_806 ?_
                                            obtain ⟨v163, ev163, h⟩ := ob_some h
                                            refine ex_scR (pc := 807) ev163 dL_law_807 ?_
                                            obtain ⟨q164, eq164, h⟩ := ob_some h
                                            refine ex_callV3r (pc := 808) dL_law_808 jX10_foretold lmL_93 jiX10_foretold jvX10_foretold (o_X10_foretold eq164) rfl (Nat.le_of_ble_eq_true rfl) (s_X10_foretold (by omega)  eq164) ?_
                                            refine ex_aload_n (pc := 811) 2 dL_law_811 rfl rfl ?_
                                            refine ex_aload_n (pc := 812) 0 dL_law_812 rfl rfl ?_
                                            refine ex_iload_n (pc := 813) 3 dL_law_813 rfl rfl ?_
                                            refine ex_iconst (pc := 814) 1 dL_law_814 rfl ?_
                                            refine ex_iadd (pc := 815) dL_law_815 ?_
                                            obtain ⟨v165, ev165, h⟩ := ob_some h
                                            refine ex_scR (pc := 816) ev165 dL_law_816 ?_
                                            refine ex_aload_n (pc := 817) 0 dL_law_817 rfl rfl ?_
                                            refine ex_iload_n (pc := 818) 3 dL_law_818 rfl rfl ?_
                                            refine ex_iconst (pc := 819) 2 dL_law_819 rfl ?_
                                            refine ex_iadd (pc := 820) dL_law_820 ?_
                                            obtain ⟨v166, ev166, h⟩ := ob_some h
                                            refine ex_scR (pc := 821) ev166 dL_law_821 ?_
                                            refine ex_aload_n (pc := 822) 0 dL_law_822 rfl rfl ?_
                                            refine ex_iload_n (pc := 823) 3 dL_law_823 rfl rfl ?_
                                            refine ex_iconst (pc := 824) 3 dL_law_824 rfl ?_
                                            refine ex_iadd (pc := 825) dL_law_825 ?_
                                            obtain ⟨v167, ev167, h⟩ := ob_some h
                                            refine ex_scR (pc := 826) ev167 dL_law_826 ?_
                                            obtain ⟨q168, eq168, h⟩ := ob_some h
                                            refine ex_callV3r (pc := 827) dL_law_827 jX11_foretold lmL_97 jiX11_foretold jvX11_foretold (o_X11_foretold eq168) rfl (Nat.le_of_ble_eq_true rfl) (s_X11_foretold (by omega)  eq168) ?_
                                            by_cases c169 : q164.1 = q168.1
                                            · rw [if_pos c169] at h
                                              refine ex_icmp_eq_t (pc := 830) 1569 dL_law_830 rfl c169 ?_
                                              refine ex_iinc (pc := 1569) (x3 + 6) 3 [(3, .int (x3 + 6)), (0, .ref X.1), (1, .ref x1), (2, .ref x2)] dL_law_1569 rfl rfl (by decide) rfl ?_
                                              refine ex_goto (pc := 1572) 18 dL_law_1572 rfl ?_
                                              refine ex_sub (lo' := [(0, .ref X.1), (1, .ref x1), (2, .ref x2), (3, .int (x3 + 6))]) [1, 2, 3, 0] rfl ?_
                                              exact ih _ _ _ _ _  h
                                            · rw [if_neg c169] at h
                                              refine ex_icmp_eq_f (pc := 830) dL_law_830 1569 rfl c169 ?_
                                              refine ex_iconst (pc := 833) 0 dL_law_833 rfl ?_
                                              cases h
                                              exact ex_ireturn (pc := 834) dL_law_834
                                          · rw [if_neg c160] at h
                                            by_cases c170 : (v39 &&& 63) = 19
                                            · rw [if_pos c170] at h
                                              refine ex_tabIn (pc := 33) 835 dL_law_33 (by rw [c170]; decide) (by rw [c170]; decide) (by rw [c170]; rfl) rfl ?_
                                              refine ex_aload_n (pc := 835) 1 dL_law_835 rfl rfl ?_
                                              refine ex_aload_n (pc := 836) 0 dL_law_836 rfl rfl ?_
                                              refine ex_iload_n (pc := 837) 3 dL_law_837 rfl rfl ?_
                                              refine ex_iconst (pc := 838) 1 dL_law_838 rfl ?_
                                              refine ex_iadd (pc := 839) dL_law_839 ?_
                                              obtain ⟨v171, ev171, h⟩ := ob_some h
                                              refine ex_scR (pc := 840) ev171 dL_law_840 ?_
                                              obtain ⟨q172, eq172, h⟩ := ob_some h
                                              refine ex_callV1r (pc := 841) dL_law_841 jX10_put lmL_98 jiX10_put jvX10_put (o_X10_put eq172) rfl (Nat.le_of_ble_eq_true rfl) (s_X10_put (by omega)  eq172) ?_
                                              refine ex_aload_n (pc := 844) 2 dL_law_844 rfl rfl ?_
                                              refine ex_aload_n (pc := 845) 0 dL_law_845 rfl rfl ?_
                                              refine ex_iload_n (pc := 846) 3 dL_law_846 rfl rfl ?_
                                              refine ex_iconst (pc := 847) 1 dL_law_847 rfl ?_
                                              refine ex_iadd (pc := 848) dL_law_848 ?_
                                              obtain ⟨v173, ev173, h⟩ := ob_some h
                                              refine ex_scR (pc := 849) ev173 dL_law_849 ?_
                                              obtain ⟨q174, eq174, h⟩ := ob_some h
                                              refine ex_callV1r (pc := 850) dL_law_850 jX11_put lmL_101 jiX11_put jvX11_put (o_X11_put eq174) rfl (Nat.le_of_ble_eq_true rfl) (s_X11_put (by omega)  eq174) ?_
                                              by_cases c175 : q172.1 = q174.1
                                              · rw [if_pos c175] at h
                                                refine ex_icmp_eq_t (pc := 853) 1569 dL_law_853 rfl c175 ?_
                                                refine ex_iinc (pc := 1569) (x3 + 6) 3 [(3, .int (x3 + 6)), (0, .ref X.1), (1, .ref x1), (2, .ref x2)] dL_law_1569 rfl rfl (by decide) rfl ?_
                                                refine ex_goto (pc := 1572) 18 dL_law_1572 rfl ?_
                                                refine ex_sub (lo' := [(0, .ref X.1), (1, .ref x1), (2, .ref x2), (3, .int (x3 + 6))]) [1, 2, 3, 0] rfl ?_
                                                exact ih _ _ _ _ _  h
                                              · rw [if_neg c175] at h
                                                refine ex_icmp_eq_f (pc := 853) dL_law_853 1569 rfl c175 ?_
                                                refine ex_iconst (pc := 856) 0 dL_law_856 rfl ?_
                                                cases h
                                                exact ex_ireturn (pc := 857) dL_law_857
                                            · rw [if_neg c170] at h
                                              by_cases c176 : (v39 &&& 63) = 20
                                              · rw [if_pos c176] at h
                                                refine ex_tabIn (pc := 33) 858 dL_law_33 (by rw [c176]; decide) (by rw [c176]; decide) (by rw [c176]; rfl) rfl ?_
                                                refine ex_aload_n (pc := 858) 1 dL_law_858 rfl rfl ?_
                                                refine ex_aload_n (pc := 859) 0 dL_law_859 rfl rfl ?_
                                                refine ex_iload_n (pc := 860) 3 dL_law_860 rfl rfl ?_
                                                refine ex_iconst (pc := 861) 1 dL_law_861 rfl ?_
                                                refine ex_iadd (pc := 862) dL_law_862 ?_
                                                obtain ⟨v177, ev177, h⟩ := ob_some h
                                                refine ex_scR (pc := 863) ev177 dL_law_863 ?_
                                                obtain ⟨q178, eq178, h⟩ := ob_some h
                                                refine ex_callV1r (pc := 864) dL_law_864 jX10_may lmL_102 jiX10_may jvX10_may (o_X10_may eq178) rfl (Nat.le_of_ble_eq_true rfl) (s_X10_may (by omega)  eq178) ?_
                                                refine ex_aload_n (pc := 867) 2 dL_law_867 rfl rfl ?_
                                                refine ex_aload_n (pc := 868) 0 dL_law_868 rfl rfl ?_
                                                refine ex_iload_n (pc := 869) 3 dL_law_869 rfl rfl ?_
                                                refine ex_iconst (pc := 870) 1 dL_law_870 rfl ?_
                                                refine ex_iadd (pc := 871) dL_law_871 ?_
                                                obtain ⟨v179, ev179, h⟩ := ob_some h
                                                refine ex_scR (pc := 872) ev179 dL_law_872 ?_
                                                obtain ⟨q180, eq180, h⟩ := ob_some h
                                                refine ex_callV1r (pc := 873) dL_law_873 jX11_may lmL_106 jiX11_may jvX11_may (o_X11_may eq180) rfl (Nat.le_of_ble_eq_true rfl) (s_X11_may (by omega)  eq180) ?_
                                                refine ex_lcmp (pc := 876) dL_law_876 ?_
                                                by_cases c181 : (lg_cmp q178.1 q180.1) = 0
                                                · rw [if_pos c181] at h
                                                  refine ex_if_eq_t (pc := 877) 1569 dL_law_877 rfl c181 ?_
                                                  refine ex_iinc (pc := 1569) (x3 + 6) 3 [(3, .int (x3 + 6)), (0, .ref X.1), (1, .ref x1), (2, .ref x2)] dL_law_1569 rfl rfl (by decide) rfl ?_
                                                  refine ex_goto (pc := 1572) 18 dL_law_1572 rfl ?_
                                                  refine ex_sub (lo' := [(0, .ref X.1), (1, .ref x1), (2, .ref x2), (3, .int (x3 + 6))]) [1, 2, 3, 0] rfl ?_
                                                  exact ih _ _ _ _ _  h
                                                · rw [if_neg c181] at h
                                                  refine ex_if_eq_f (pc := 877) dL_law_877 1569 rfl c181 ?_
                                                  refine ex_iconst (pc := 880) 0 dL_law_880 rfl ?_
                                                  cases h
                                                  exact ex_ireturn (pc := 881) dL_law_881
                                              · rw [if_neg c176] at h
                                                by_cases c182 : (v39 &&& 63) = 21
                                                · rw [if_pos c182] at h
                                                  refine ex_tabIn (pc := 33) 882 dL_law_33 (by rw [c182]; decide) (by rw [c182]; decide) (by rw [c182]; rfl) rfl ?_
                                                  refine ex_aload_n (pc := 882) 1 dL_law_882 rfl rfl ?_
                                                  refine ex_aload_n (pc := 883) 0 dL_law_883 rfl rfl ?_
                                                  refine ex_iload_n (pc := 884) 3 dL_law_884 rfl rfl ?_
                                                  refine ex_iconst (pc := 885) 1 dL_law_885 rfl ?_
                                                  refine ex_iadd (pc := 886) dL_law_886 ?_
                                                  obtain ⟨v183, ev183, h⟩ := ob_some h
                                                  refine ex_scR (pc := 887) ev183 dL_law_887 ?_
                                                  refine ex_aload_n (pc := 888) 0 dL_law_888 rfl rfl ?_
                                                  refine ex_iload_n (pc := 889) 3 dL_law_889 rfl rfl ?_
                                                  refine ex_iconst (pc := 890) 2 dL_law_890 rfl ?_
                                                  refine ex_iadd (pc := 891) dL_law_891 ?_
                                                  obtain ⟨v184, ev184, h⟩ := ob_some h
                                                  refine ex_scR (pc := 892) ev184 dL_law_892 ?_
                                                  refine ex_aload_n (pc := 893) 0 dL_law_893 rfl rfl ?_
                                                  refine ex_iload_n (pc := 894) 3 dL_law_894 rfl rfl ?_
                                                  refine ex_iconst (pc := 895) 3 dL_law_895 rfl ?_
                                                  refine ex_iadd (pc := 896) dL_law_896 ?_
                                                  obtain ⟨v185, ev185, h⟩ := ob_some h
                                                  refine ex_scR (pc := 897) ev185 dL_law_897 ?_
                                                  by_cases c186 : v185 = 0
                                                  · rw [if_pos c186] at h
                                                    refine ex_if_eq_t (pc := 898) 905 dL_law_898 rfl c186 ?_
                                                    refine ex_iconst (pc := 905) 0 dL_law_905 rfl ?_
                                                    refine ex_sub (lo' := [(0, .ref X.1), (1, .ref x1), (2, .ref x2), (3, .int x3)]) [0, 1, 2, 3] rfl ?_
                                                    exact t_L_law_906 hd ih _ _ _ _ _ _ _ _ _  h
                                                  · rw [if_neg c186] at h
                                                    refine ex_if_eq_f (pc := 898) dL_law_898 905 rfl c186 ?_
                                                    refine ex_iconst (pc := 901) 1 dL_law_901 rfl ?_
                                                    refine ex_goto (pc := 902) 906 dL_law_902 rfl ?_
                                                    refine ex_sub (lo' := [(0, .ref X.1), (1, .ref x1), (2, .ref x2), (3, .int x3)]) [0, 1, 2, 3] rfl ?_
                                                    exact t_L_law_906 hd ih _ _ _ _ _ _ _ _ _  h
                                                · rw [if_neg c182] at h
                                                  by_cases c187 : (v39 &&& 63) = 22
                                                  · rw [if_pos c187] at h
                                                    refine ex_tabIn (pc := 33) 942 dL_law_33 (by rw [c187]; decide) (by rw [c187]; decide) (by rw [c187]; rfl) rfl ?_
                                                    refine ex_aload_n (pc := 942) 1 dL_law_942 rfl rfl ?_
                                                    refine ex_aload_n (pc := 943) 0 dL_law_943 rfl rfl ?_
                                                    refine ex_iload_n (pc := 944) 3 dL_law_944 rfl rfl ?_
                                                    refine ex_iconst (pc := 945) 1 dL_law_945 rfl ?_
                                                    refine ex_iadd (pc := 946) dL_law_946 ?_
                                                    obtain ⟨v188, ev188, h⟩ := ob_some h
                                                    refine ex_scR (pc := 947) ev188 dL_law_947 ?_
                                                    obtain ⟨q189, eq189, h⟩ := ob_some h
                                                    refine ex_callV1r (pc := 948) dL_law_948 jX10_day lmL_112 jiX10_day jvX10_day (o_X10_day eq189) rfl (Nat.le_of_ble_eq_true rfl) (s_X10_day (by omega)  eq189) ?_
                                                    refine ex_aload_n (pc := 951) 2 dL_law_951 rfl rfl ?_
                                                    refine ex_aload_n (pc := 952) 0 dL_law_952 rfl rfl ?_
                                                    refine ex_iload_n (pc := 953) 3 dL_law_953 rfl rfl ?_
                                                    refine ex_iconst (pc := 954) 1 dL_law_954 rfl ?_
                                                    refine ex_iadd (pc := 955) dL_law_955 ?_
                                                    obtain ⟨v190, ev190, h⟩ := ob_some h
                                                    refine ex_scR (pc := 956) ev190 dL_law_956 ?_
                                                    obtain ⟨q191, eq191, h⟩ := ob_some h
                                                    refine ex_callV1r (pc := 957) dL_law_957 jX11_day lmL_115 jiX11_day jvX11_day (o_X11_day eq191) rfl (Nat.le_of_ble_eq_true rfl) (s_X11_day (by omega)  eq191) ?_
                                                    by_cases c192 : q189.1 = q191.1
                                                    · rw [if_pos c192] at h
                                                      refine ex_icmp_eq_t (pc := 960) 1569 dL_law_960 rfl c192 ?_
                                                      refine ex_iinc (pc := 1569) (x3 + 6) 3 [(3, .int (x3 + 6)), (0, .ref X.1), (1, .ref x1), (2, .ref x2)] dL_law_1569 rfl rfl (by decide) rfl ?_
                                                      refine ex_goto (pc := 1572) 18 dL_law_1572 rfl ?_
                                                      refine ex_sub (lo' := [(0, .ref X.1), (1, .ref x1), (2, .ref x2), (3, .int (x3 + 6))]) [1, 2, 3, 0] rfl ?_
                                                      exact ih _ _ _ _ _  h
                                                    · rw [if_neg c192] at h
                                                      refine ex_icmp_eq_f (pc := 960) dL_law_960 1569 rfl c192 ?_
                                                      refine ex_iconst (pc := 963) 0 dL_law_963 rfl ?_
                                                      cases h
                                                      exact ex_ireturn (pc := 964) dL_law_964
                                                  · rw [if_neg c187] at h
                                                    by_cases c193 : (v39 &&& 63) = 23
                                                    · rw [if_pos c193] at h
                                                      refine ex_tabIn (pc := 33) 965 dL_law_33 (by rw [c193]; decide) (by rw [c193]; decide) (by rw [c193]; rfl) rfl ?_
                                                      refine ex_aload_n (pc := 965) 1 dL_law_965 rfl rfl ?_
                                                      obtain ⟨q194, eq194, h⟩ := ob_some h
                                                      refine ex_callV0r (pc := 966) dL_law_966 jX10_fits lmL_116 jiX10_fits jvX10_fits (o_X10_fits eq194) rfl (Nat.le_of_ble_eq_true rfl) (s_X10_fits (by omega)  eq194) ?_
                                                      refine ex_aload_n (pc := 969) 2 dL_law_969 rfl rfl ?_
                                                      obtain ⟨q195, eq195, h⟩ := ob_some h
                                                      refine ex_callV0r (pc := 970) dL_law_970 jX11_fits lmL_119 jiX11_fits jvX11_fits (o_X11_fits eq195) rfl (Nat.le_of_ble_eq_true rfl) (s_X11_fits (by omega)  eq195) ?_
                                                      by_cases c196 : q194.1 = q195.1
                                                      · rw [if_pos c196] at h
                                                        refine ex_icmp_eq_t (pc := 973) 1569 dL_law_973 rfl c196 ?_
                                                        refine ex_iinc (pc := 1569) (x3 + 6) 3 [(3, .int (x3 + 6)), (0, .ref X.1), (1, .ref x1), (2, .ref x2)] dL_law_1569 rfl rfl (by decide) rfl ?_
                                                        refine ex_goto (pc := 1572) 18 dL_law_1572 rfl ?_
                                                        refine ex_sub (lo' := [(0, .ref X.1), (1, .ref x1), (2, .ref x2), (3, .int (x3 + 6))]) [1, 2, 3, 0] rfl ?_
                                                        exact ih _ _ _ _ _  h
                                                      · rw [if_neg c196] at h
                                                        refine ex_icmp_eq_f (pc := 973) dL_law_973 1569 rfl c196 ?_
                                                        refine ex_iconst (pc := 976) 0 dL_law_976 rfl ?_
                                                        cases h
                                                        exact ex_ireturn (pc := 977) dL_law_977
                                                    · rw [if_neg c193] at h
                                                      by_cases c197 : (v39 &&& 63) = 24
                                                      · rw [if_pos c197] at h
                                                        refine ex_tabIn (pc := 33) 978 dL_law_33 (by rw [c197]; decide) (by rw [c197]; decide) (by rw [c197]; rfl) rfl ?_
                                                        refine ex_aload_n (pc := 978) 1 dL_law_978 rfl rfl ?_
                                                        refine ex_aload_n (pc := 979) 0 dL_law_979 rfl rfl ?_
                                                        refine ex_iload_n (pc := 980) 3 dL_law_980 rfl rfl ?_
                                                        refine ex_iconst (pc := 981) 1 dL_law_981 rfl ?_
                                                        refine ex_iadd (pc := 982) dL_law_982 ?_
                                                        obtain ⟨v198, ev198, h⟩ := ob_some h
                                                        refine ex_scR (pc := 983) ev198 dL_law_983 ?_
                                                        obtain ⟨q199, eq199, h⟩ := ob_some h
                                                        refine ex_callV1r (pc := 984) dL_law_984 jX10_likeliest lmL_120 jiX10_likeliest jvX10_likeliest (o_X10_likeliest eq199) rfl (Nat.le_of_ble_eq_true rfl) (s_X10_likeliest (by omega)  eq199) ?_
                                                        refine ex_aload_n (pc := 987) 2 dL_law_987 rfl rfl ?_
                                                        refine ex_aload_n (pc := 988) 0 dL_law_988 rfl rfl ?_
                                                        refine ex_iload_n (pc := 989) 3 dL_law_989 rfl rfl ?_
                                                        refine ex_iconst (pc := 990) 1 dL_law_990 rfl ?_
                                                        refine ex_iadd (pc := 991) dL_law_991 ?_
                                                        obtain ⟨v200, ev200, h⟩ := ob_some h
                                                        refine ex_scR (pc := 992) ev200 dL_law_992 ?_
                                                        obtain ⟨q201, eq201, h⟩ := ob_some h
                                                        refine ex_callV1r (pc := 993) dL_law_993 jX11_likeliest lmL_123 jiX11_likeliest jvX11_likeliest (o_X11_likeliest eq201) rfl (Nat.le_of_ble_eq_true rfl) (s_X11_likeliest (by omega)  eq201) ?_
                                                        by_cases c202 : q199.1 = q201.1
                                                        · rw [if_pos c202] at h
                                                          refine ex_icmp_eq_t (pc := 996) 1569 dL_law_996 rfl c202 ?_
                                                          refine ex_iinc (pc := 1569) (x3 + 6) 3 [(3, .int (x3 + 6)), (0, .ref X.1), (1, .ref x1), (2, .ref x2)] dL_law_1569 rfl rfl (by decide) rfl ?_
                                                          refine ex_goto (pc := 1572) 18 dL_law_1572 rfl ?_
                                                          refine ex_sub (lo' := [(0, .ref X.1), (1, .ref x1), (2, .ref x2), (3, .int (x3 + 6))]) [1, 2, 3, 0] rfl ?_
                                                          exact ih _ _ _ _ _  h
                                                        · rw [if_neg c202] at h
                                                          refine ex_icmp_eq_f (pc := 996) dL_law_996 1569 rfl c202 ?_
                                                          refine ex_iconst (pc := 999) 0 dL_law_999 rfl ?_
                                                          cases h
                                                          exact ex_ireturn (pc := 1000) dL_law_1000
                                                      · rw [if_neg c197] at h
                                                        by_cases c203 : (v39 &&& 63) = 25
                                                        · rw [if_pos c203] at h
                                                          refine ex_tabIn (pc := 33) 1001 dL_law_33 (by rw [c203]; decide) (by rw [c203]; decide) (by rw [c203]; rfl) rfl ?_
                                                          refine ex_aload_n (pc := 1001) 1 dL_law_1001 rfl rfl ?_
                                                          refine ex_aload_n (pc := 1002) 0 dL_law_1002 rfl rfl ?_
                                                          refine ex_iload_n (pc := 1003) 3 dL_law_1003 rfl rfl ?_
                                                          refine ex_iconst (pc := 1004) 1 dL_law_1004 rfl ?_
                                                          refine ex_iadd (pc := 1005) dL_law_1005 ?_
                                                          obtain ⟨v204, ev204, h⟩ := ob_some h
                                                          refine ex_scR (pc := 1006) ev204 dL_law_1006 ?_
                                                          obtain ⟨q205, eq205, h⟩ := ob_some h
                                                          refine ex_callV1r (pc := 1007) dL_law_1007 jX10_add lmL_124 jiX10_add jvX10_add (o_X10_add eq205) rfl (Nat.le_of_ble_eq_true rfl) (s_X10_add (by omega)  eq205) ?_
                                                          refine ex_aload_n (pc := 1010) 2 dL_law_1010 rfl rfl ?_
                                                          refine ex_aload_n (pc := 1011) 0 dL_law_1011 rfl rfl ?_
                                                          refine ex_iload_n (pc := 1012) 3 dL_law_1012 rfl rfl ?_
                                                          refine ex_iconst (pc := 1013) 1 dL_law_1013 rfl ?_
                                                          refine ex_iadd (pc := 1014) dL_law_1014 ?_
                                                          obtain ⟨v206, ev206, h⟩ := ob_some h
                                                          refine ex_scR (pc := 1015) ev206 dL_law_1015 ?_
                                                          obtain ⟨q207, eq207, h⟩ := ob_some h
                                                          refine ex_callV1r (pc := 1016) dL_law_1016 jX11_add lmL_127 jiX11_add jvX11_add (o_X11_add eq207) rfl (Nat.le_of_ble_eq_true rfl) (s_X11_add (by omega)  eq207) ?_
                                                          by_cases c208 : q205.1 = q207.1
                                                          · rw [if_pos c208] at h
                                                            refine ex_icmp_eq_t (pc := 1019) 1569 dL_law_1019 rfl c208 ?_
                                                            refine ex_iinc (pc := 1569) (x3 + 6) 3 [(3, .int (x3 + 6)), (0, .ref X.1), (1, .ref x1), (2, .ref x2)] dL_law_1569 rfl rfl (by decide) rfl ?_
                                                            refine ex_goto (pc := 1572) 18 dL_law_1572 rfl ?_
                                                            refine ex_sub (lo' := [(0, .ref X.1), (1, .ref x1), (2, .ref x2), (3, .int (x3 + 6))]) [1, 2, 3, 0] rfl ?_
                                                            exact ih _ _ _ _ _  h
                                                          · rw [if_neg c208] at h
                                                            refine ex_icmp_eq_f (pc := 1019) dL_law_1019 1569 rfl c208 ?_
                                                            refine ex_iconst (pc := 1022) 0 dL_law_1022 rfl ?_
                                                            cases h
                                                            exact ex_ireturn (pc := 1023) dL_law_1023
                                                        · rw [if_neg c203] at h
                                                          by_cases c209 : (v39 &&& 63) = 26
                                                          · rw [if_pos c209] at h
                                                            refine ex_tabIn (pc := 33) 1024 dL_law_33 (by rw [c209]; decide) (by rw [c209]; decide) (by rw [c209]; rfl) rfl ?_
                                                            refine ex_aload_n (pc := 1024) 1 dL_law_1024 rfl rfl ?_
                                                            refine ex_aload_n (pc := 1025) 0 dL_law_1025 rfl rfl ?_
                                                            refine ex_iload_n (pc := 1026) 3 dL_law_1026 rfl rfl ?_
                                                            refine ex_iconst (pc := 1027) 1 dL_law_1027 rfl ?_
                                                            refine ex_iadd (pc := 1028) dL_law_1028 ?_
                                                            obtain ⟨v210, ev210, h⟩ := ob_some h
                                                            refine ex_scR (pc := 1029) ev210 dL_law_1029 ?_
                                                            obtain ⟨q211, eq211, h⟩ := ob_some h
                                                            refine ex_callV1r (pc := 1030) dL_law_1030 jX10_second lmL_128 jiX10_second jvX10_second (o_X10_second eq211) rfl (Nat.le_of_ble_eq_true rfl) (s_X10_second (by omega)  eq211) ?_
                                                            refine ex_aload_n (pc := 1033) 2 dL_law_1033 rfl rfl ?_
                                                            refine ex_aload_n (pc := 1034) 0 dL_law_1034 rfl rfl ?_
                                                            refine ex_iload_n (pc := 1035) 3 dL_law_1035 rfl rfl ?_
                                                            refine ex_iconst (pc := 1036) 1 dL_law_1036 rfl ?_
                                                            refine ex_iadd (pc := 1037) dL_law_1037 ?_
                                                            obtain ⟨v212, ev212, h⟩ := ob_some h
                                                            refine ex_scR (pc := 1038) ev212 dL_law_1038 ?_
                                                            obtain ⟨q213, eq213, h⟩ := ob_some h
                                                            refine ex_callV1r (pc := 1039) dL_law_1039 jX11_second lmL_131 jiX11_second jvX11_second (o_X11_second eq213) rfl (Nat.le_of_ble_eq_true rfl) (s_X11_second (by omega)  eq213) ?_
                                                            by_cases c214 : q211.1 = q213.1
                                                            · rw [if_pos c214] at h
                                                              refine ex_icmp_eq_t (pc := 1042) 1569 dL_law_1042 rfl c214 ?_
                                                              refine ex_iinc (pc := 1569) (x3 + 6) 3 [(3, .int (x3 + 6)), (0, .ref X.1), (1, .ref x1), (2, .ref x2)] dL_law_1569 rfl rfl (by decide) rfl ?_
                                                              refine ex_goto (pc := 1572) 18 dL_law_1572 rfl ?_
                                                              refine ex_sub (lo' := [(0, .ref X.1), (1, .ref x1), (2, .ref x2), (3, .int (x3 + 6))]) [1, 2, 3, 0] rfl ?_
                                                              exact ih _ _ _ _ _  h
                                                            · rw [if_neg c214] at h
                                                              refine ex_icmp_eq_f (pc := 1042) dL_law_1042 1569 rfl c214 ?_
                                                              refine ex_iconst (pc := 1045) 0 dL_law_1045 rfl ?_
                                                              cases h
                                                              exact ex_ireturn (pc := 1046) dL_law_1046
                                                          · rw [if_neg c209] at h
                                                            by_cases c215 : (v39 &&& 63) = 27
                                                            · rw [if_pos c215] at h
                                                              refine ex_tabIn (pc := 33) 1047 dL_law_33 (by rw [c215]; decide) (by rw [c215]; decide) (by rw [c215]; rfl) rfl ?_
                                                              refine ex_aload_n (pc := 1047) 1 dL_law_1047 rfl rfl ?_
                                                              refine ex_aload_n (pc := 1048) 0 dL_law_1048 rfl rfl ?_
                                                              refine ex_iload_n (pc := 1049) 3 dL_law_1049 rfl rfl ?_
                                                              refine ex_iconst (pc := 1050) 1 dL_law_1050 rfl ?_
                                                              refine ex_iadd (pc := 1051) dL_law_1051 ?_
                                                              obtain ⟨v216, ev216, h⟩ := ob_some h
                                                              refine ex_scR (pc := 1052) ev216 dL_law_1052 ?_
                                                              refine ex_aload_n (pc := 1053) 0 dL_law_1053 rfl rfl ?_
                                                              refine ex_iload_n (pc := 1054) 3 dL_law_1054 rfl rfl ?_
                                                              refine ex_iconst (pc := 1055) 2 dL_law_1055 rfl ?_
                                                              refine ex_iadd (pc := 1056) dL_law_1056 ?_
                                                              obtain ⟨v217, ev217, h⟩ := ob_some h
                                                              refine ex_scR (pc := 1057) ev217 dL_law_1057 ?_
                                                              obtain ⟨q218, eq218, h⟩ := ob_some h
                                                              refine ex_callV2r (pc := 1058) dL_law_1058 jX10_duet lmL_132 jiX10_duet jvX10_duet (o_X10_duet eq218) rfl (Nat.le_of_ble_eq_true rfl) (s_X10_duet (by omega)  eq218) ?_
                                                              refine ex_aload_n (pc := 1061) 2 dL_law_1061 rfl rfl ?_
                                                              refine ex_aload_n (pc := 1062) 0 dL_law_1062 rfl rfl ?_
                                                              refine ex_iload_n (pc := 1063) 3 dL_law_1063 rfl rfl ?_
                                                              refine ex_iconst (pc := 1064) 1 dL_law_1064 rfl ?_
                                                              refine ex_iadd (pc := 1065) dL_law_1065 ?_
                                                              obtain ⟨v219, ev219, h⟩ := ob_some h
                                                              refine ex_scR (pc := 1066) ev219 dL_law_1066 ?_
                                                              refine ex_aload_n (pc := 1067) 0 dL_law_1067 rfl rfl ?_
                                                              refine ex_iload_n (pc := 1068) 3 dL_law_1068 rfl rfl ?_
                                                              refine ex_iconst (pc := 1069) 2 dL_law_1069 rfl ?_
                                                              refine ex_iadd (pc := 1070) dL_law_1070 ?_
                                                              obtain ⟨v220, ev220, h⟩ := ob_some h
                                                              refine ex_scR (pc := 1071) ev220 dL_law_1071 ?_
                                                              obtain ⟨q221, eq221, h⟩ := ob_some h
                                                              refine ex_callV2r (pc := 1072) dL_law_1072 jX11_duet lmL_135 jiX11_duet jvX11_duet (o_X11_duet eq221) rfl (Nat.le_of_ble_eq_true rfl) (s_X11_duet (by omega)  eq221) ?_
                                                              by_cases c222 : q218.1 = q221.1
                                                              · rw [if_pos c222] at h
                                                                refine ex_icmp_eq_t (pc := 1075) 1569 dL_law_1075 rfl c222 ?_
                                                                refine ex_iinc (pc := 1569) (x3 + 6) 3 [(3, .int (x3 + 6)), (0, .ref X.1), (1, .ref x1), (2, .ref x2)] dL_law_1569 rfl rfl (by decide) rfl ?_
                                                                refine ex_goto (pc := 1572) 18 dL_law_1572 rfl ?_
                                                                refine ex_sub (lo' := [(0, .ref X.1), (1, .ref x1), (2, .ref x2), (3, .int (x3 + 6))]) [1, 2, 3, 0] rfl ?_
                                                                exact ih _ _ _ _ _  h
                                                              · rw [if_neg c222] at h
                                                                refine ex_icmp_eq_f (pc := 1075) dL_law_1075 1569 rfl c222 ?_
                                                                refine ex_iconst (pc := 1078) 0 dL_law_1078 rfl ?_
                                                                cases h
                                                                exact ex_ireturn (pc := 1079) dL_law_1079
                                                            · rw [if_neg c215] at h
                                                              by_cases c223 : (v39 &&& 63) = 28
                                                              · rw [if_pos c223] at h
                                                                refine ex_tabIn (pc := 33) 1080 dL_law_33 (by rw [c223]; decide) (by rw [c223]; decide) (by rw [c223]; rfl) rfl ?_
                                                                refine ex_aload_n (pc := 1080) 1 dL_law_1080 rfl rfl ?_
                                                                refine ex_aload_n (pc := 1081) 0 dL_law_1081 rfl rfl ?_
                                                                refine ex_iload_n (pc := 1082) 3 dL_law_1082 rfl rfl ?_
                                                                refine ex_iconst (pc := 1083) 1 dL_law_1083 rfl ?_
                                                                refine ex_iadd (pc := 1084) dL_law_1084 ?_
                                                                obtain ⟨v224, ev224, h⟩ := ob_some h
                                                                refine ex_scR (pc := 1085) ev224 dL_law_1085 ?_
                                                                obtain ⟨q225, eq225, h⟩ := ob_some h
                                                                refine ex_callV1r (pc := 1086) dL_law_1086 jX10_common lmL_136 jiX10_common jvX10_common (o_X10_common eq225) rfl (Nat.le_of_ble_eq_true rfl) (s_X10_common (by omega)  eq225) ?_
                                                                refine ex_aload_n (pc := 1089) 2 dL_law_1089 rfl rfl ?_
                                                                refine ex_aload_n (pc := 1090) 0 dL_law_1090 rfl rfl ?_
                                                                refine ex_iload_n (pc := 1091) 3 dL_law_1091 rfl rfl ?_
                                                                refine ex_iconst (pc := 1092) 1 dL_law_1092 rfl ?_
                                                                refine ex_iadd (pc := 1093) dL_law_1093 ?_
                                                                obtain ⟨v226, ev226, h⟩ := ob_some h
                                                                refine ex_scR (pc := 1094) ev226 dL_law_1094 ?_
                                                                obtain ⟨q227, eq227, h⟩ := ob_some h
                                                                refine ex_callV1r (pc := 1095) dL_law_1095 jX11_common lmL_139 jiX11_common jvX11_common (o_X11_common eq227) rfl (Nat.le_of_ble_eq_true rfl) (s_X11_common (by omega)  eq227) ?_
                                                                by_cases c228 : q225.1 = q227.1
                                                                · rw [if_pos c228] at h
                                                                  refine ex_icmp_eq_t (pc := 1098) 1569 dL_law_1098 rfl c228 ?_
                                                                  refine ex_iinc (pc := 1569) (x3 + 6) 3 [(3, .int (x3 + 6)), (0, .ref X.1), (1, .ref x1), (2, .ref x2)] dL_law_1569 rfl rfl (by decide) rfl ?_
                                                                  refine ex_goto (pc := 1572) 18 dL_law_1572 rfl ?_
                                                                  refine ex_sub (lo' := [(0, .ref X.1), (1, .ref x1), (2, .ref x2), (3, .int (x3 + 6))]) [1, 2, 3, 0] rfl ?_
                                                                  exact ih _ _ _ _ _  h
                                                                · rw [if_neg c228] at h
                                                                  refine ex_icmp_eq_f (pc := 1098) dL_law_1098 1569 rfl c228 ?_
                                                                  refine ex_iconst (pc := 1101) 0 dL_law_1101 rfl ?_
                                                                  cases h
                                                                  exact ex_ireturn (pc := 1102) dL_law_1102
                                                              · rw [if_neg c223] at h
                                                                by_cases c229 : (v39 &&& 63) = 29
                                                                · rw [if_pos c229] at h
                                                                  refine ex_tabIn (pc := 33) 1103 dL_law_33 (by rw [c229]; decide) (by rw [c229]; decide) (by rw [c229]; rfl) rfl ?_
                                                                  refine ex_aload_n (pc := 1103) 1 dL_law_1103 rfl rfl ?_
                                                                  obtain ⟨q230, eq230, h⟩ := ob_some h
                                                                  refine ex_callV0r (pc := 1104) dL_law_1104 jX10_apart lmL_140 jiX10_apart jvX10_apart (o_X10_apart eq230) rfl (Nat.le_of_ble_eq_true rfl) (s_X10_apart (by omega)  eq230) ?_
                                                                  refine ex_aload_n (pc := 1107) 2 dL_law_1107 rfl rfl ?_
                                                                  obtain ⟨q231, eq231, h⟩ := ob_some h
                                                                  refine ex_callV0r (pc := 1108) dL_law_1108 jX11_apart lmL_143 jiX11_apart jvX11_apart (o_X11_apart eq231) rfl (Nat.le_of_ble_eq_true rfl) (s_X11_apart (by omega)  eq231) ?_
                                                                  by_cases c232 : q230.1 = q231.1
                                                                  · rw [if_pos c232] at h
                                                                    refine ex_icmp_eq_t (pc := 1111) 1569 dL_law_1111 rfl c232 ?_
                                                                    refine ex_iinc (pc := 1569) (x3 + 6) 3 [(3, .int (x3 + 6)), (0, .ref X.1), (1, .ref x1), (2, .ref x2)] dL_law_1569 rfl rfl (by decide) rfl ?_
                                                                    refine ex_goto (pc := 1572) 18 dL_law_1572 rfl ?_
                                                                    refine ex_sub (lo' := [(0, .ref X.1), (1, .ref x1), (2, .ref x2), (3, .int (x3 + 6))]) [1, 2, 3, 0] rfl ?_
                                                                    exact ih _ _ _ _ _  h
                                                                  · rw [if_neg c232] at h
                                                                    refine ex_icmp_eq_f (pc := 1111) dL_law_1111 1569 rfl c232 ?_
                                                                    refine ex_iconst (pc := 1114) 0 dL_law_1114 rfl ?_
                                                                    cases h
                                                                    exact ex_ireturn (pc := 1115) dL_law_1115
                                                                · rw [if_neg c229] at h
                                                                  by_cases c233 : (v39 &&& 63) = 30
                                                                  · rw [if_pos c233] at h
                                                                    refine ex_tabIn (pc := 33) 1116 dL_law_33 (by rw [c233]; decide) (by rw [c233]; decide) (by rw [c233]; rfl) rfl ?_
                                                                    refine ex_aload_n (pc := 1116) 1 dL_law_1116 rfl rfl ?_
                                                                    refine ex_aload_n (pc := 1117) 0 dL_law_1117 rfl rfl ?_
                                                                    refine ex_iload_n (pc := 1118) 3 dL_law_1118 rfl rfl ?_
                                                                    refine ex_iconst (pc := 1119) 1 dL_law_1119 rfl ?_
                                                                    refine ex_iadd (pc := 1120) dL_law_1120 ?_
                                                                    obtain ⟨v234, ev234, h⟩ := ob_some h
                                                                    refine ex_scR (pc := 1121) ev234 dL_law_1121 ?_
                                                                    refine ex_aload_n (pc := 1122) 0 dL_law_1122 rfl rfl ?_
                                                                    refine ex_iload_n (pc := 1123) 3 dL_law_1123 rfl rfl ?_
                                                                    refine ex_iconst (pc := 1124) 2 dL_law_1124 rfl ?_
                                                                    refine ex_iadd (pc := 1125) dL_law_1125 ?_
                                                                    obtain ⟨v235, ev235, h⟩ := ob_some h
                                                                    refine ex_scR (pc := 1126) ev235 dL_law_1126 ?_
                                                                    obtain ⟨q236, eq236, h⟩ := ob_some h
                                                                    refine ex_callV2r (pc := 1127) dL_law_1127 jX10_grows lmL_144 jiX10_grows jvX10_grows (o_X10_grows eq236) rfl (Nat.le_of_ble_eq_true rfl) (s_X10_grows (by omega)  eq236) ?_
                                                                    refine ex_aload_n (pc := 1130) 2 dL_law_1130 rfl rfl ?_
                                                                    refine ex_aload_n (pc := 1131) 0 dL_law_1131 rfl rfl ?_
                                                                    refine ex_iload_n (pc := 1132) 3 dL_law_1132 rfl rfl ?_
                                                                    refine ex_iconst (pc := 1133) 1 dL_law_1133 rfl ?_
                                                                    refine ex_iadd (pc := 1134) dL_law_1134 ?_
                                                                    obtain ⟨v237, ev237, h⟩ := ob_some h
                                                                    refine ex_scR (pc := 1135) ev237 dL_law_1135 ?_
                                                                    refine ex_aload_n (pc := 1136) 0 dL_law_1136 rfl rfl ?_
                                                                    refine ex_iload_n (pc := 1137) 3 dL_law_1137 rfl rfl ?_
                                                                    refine ex_iconst (pc := 1138) 2 dL_law_1138 rfl ?_
                                                                    refine ex_iadd (pc := 1139) dL_law_1139 ?_
                                                                    obtain ⟨v238, ev238, h⟩ := ob_some h
                                                                    refine ex_scR (pc := 1140) ev238 dL_law_1140 ?_
                                                                    obtain ⟨q239, eq239, h⟩ := ob_some h
                                                                    refine ex_callV2r (pc := 1141) dL_law_1141 jX11_grows lmL_147 jiX11_grows jvX11_grows (o_X11_grows eq239) rfl (Nat.le_of_ble_eq_true rfl) (s_X11_grows (by omega)  eq239) ?_
                                                                    by_cases c240 : q236.1 = q239.1
                                                                    · rw [if_pos c240] at h
                                                                      refine ex_icmp_eq_t (pc := 1144) 1569 dL_law_1144 rfl c240 ?_
                                                                      refine ex_iinc (pc := 1569) (x3 + 6) 3 [(3, .int (x3 + 6)), (0, .ref X.1), (1, .ref x1), (2, .ref x2)] dL_law_1569 rfl rfl (by decide) rfl ?_
                                                                      refine ex_goto (pc := 1572) 18 dL_law_1572 rfl ?_
                                                                      refine ex_sub (lo' := [(0, .ref X.1), (1, .ref x1), (2, .ref x2), (3, .int (x3 + 6))]) [1, 2, 3, 0] rfl ?_
                                                                      exact ih _ _ _ _ _  h
                                                                    · rw [if_neg c240] at h
                                                                      refine ex_icmp_eq_f (pc := 1144) dL_law_1144 1569 rfl c240 ?_
                                                                      refine ex_iconst (pc := 1147) 0 dL_law_1147 rfl ?_
                                                                      cases h
                                                                      exact ex_ireturn (pc := 1148) dL_law_1148
                                                                  · rw [if_neg c233] at h
                                                                    by_cases c241 : (v39 &&& 63) = 31
                                                                    · rw [if_pos c241] at h
                                                                      refine ex_tabIn (pc := 33) 1149 dL_law_33 (by rw [c241]; decide) (by rw [c241]; decide) (by rw [c241]; rfl) rfl ?_
                                                                      refine ex_aload_n (pc := 1149) 1 dL_law_1149 rfl rfl ?_
                                                                      refine ex_aload_n (pc := 1150) 0 dL_law_1150 rfl rfl ?_
                                                                      refine ex_iload_n (pc := 1151) 3 dL_law_1151 rfl rfl ?_
                                                                      refine ex_iconst (pc := 1152) 1 dL_law_1152 rfl ?_
                                                                      refine ex_iadd (pc := 1153) dL_law_1153 ?_
                                                                      obtain ⟨v242, ev242, h⟩ := ob_some h
                                                                      refine ex_scR (pc := 1154) ev242 dL_law_1154 ?_
                                                                      by_cases c243 : v242 = 0
                                                                      · rw [if_pos c243] at h
                                                                        refine ex_if_eq_t (pc := 1155) 1162 dL_law_1155 rfl c243 ?_
                                                                        refine ex_iconst (pc := 1162) 0 dL_law_1162 rfl ?_
                                                                        refine ex_sub (lo' := [(0, .ref X.1), (1, .ref x1), (2, .ref x2), (3, .int x3)]) [0, 1, 2, 3] rfl ?_
                                                                        exact t_L_law_1163 hd ih _ _ _ _ _ _ _  h
                                                                      · rw [if_neg c243] at h
                                                                        refine ex_if_eq_f (pc := 1155) dL_law_1155 1162 rfl c243 ?_
                                                                        refine ex_iconst (pc := 1158) 1 dL_law_1158 rfl ?_
                                                                        refine ex_goto (pc := 1159) 1163 dL_law_1159 rfl ?_
                                                                        refine ex_sub (lo' := [(0, .ref X.1), (1, .ref x1), (2, .ref x2), (3, .int x3)]) [0, 1, 2, 3] rfl ?_
                                                                        exact t_L_law_1163 hd ih _ _ _ _ _ _ _  h
                                                                    · rw [if_neg c241] at h
                                                                      by_cases c244 : (v39 &&& 63) = 32
                                                                      · rw [if_pos c244] at h
                                                                        refine ex_tabIn (pc := 33) 1188 dL_law_33 (by rw [c244]; decide) (by rw [c244]; decide) (by rw [c244]; rfl) rfl ?_
                                                                        refine ex_aload_n (pc := 1188) 1 dL_law_1188 rfl rfl ?_
                                                                        refine ex_aload_n (pc := 1189) 0 dL_law_1189 rfl rfl ?_
                                                                        refine ex_iload_n (pc := 1190) 3 dL_law_1190 rfl rfl ?_
                                                                        refine ex_iconst (pc := 1191) 1 dL_law_1191 rfl ?_
                                                                        refine ex_iadd (pc := 1192) dL_law_1192 ?_
                                                                        obtain ⟨v245, ev245, h⟩ := ob_some h
                                                                        refine ex_scR (pc := 1193) ev245 dL_law_1193 ?_
                                                                        by_cases c246 : v245 = 0
                                                                        · rw [if_pos c246] at h
                                                                          refine ex_if_eq_t (pc := 1194) 1201 dL_law_1194 rfl c246 ?_
                                                                          refine ex_iconst (pc := 1201) 0 dL_law_1201 rfl ?_
                                                                          refine ex_sub (lo' := [(0, .ref X.1), (1, .ref x1), (2, .ref x2), (3, .int x3)]) [0, 1, 2, 3] rfl ?_
                                                                          exact t_L_law_1202 hd ih _ _ _ _ _ _ _  h
                                                                        · rw [if_neg c246] at h
                                                                          refine ex_if_eq_f (pc := 1194) dL_law_1194 1201 rfl c246 ?_
                                                                          refine ex_iconst (pc := 1197) 1 dL_law_1197 rfl ?_
                                                                          refine ex_goto (pc := 1198) 1202 dL_law_1198 rfl ?_
                                                                          refine ex_sub (lo' := [(0, .ref X.1), (1, .ref x1), (2, .ref x2), (3, .int x3)]) [0, 1, 2, 3] rfl ?_
                                                                          exact t_L_law_1202 hd ih _ _ _ _ _ _ _  h
                                                                      · rw [if_neg c244] at h
                                                                        by_cases c247 : (v39 &&& 63) = 33
                                                                        · rw [if_pos c247] at h
                                                                          refine ex_tabIn (pc := 33) 1257 dL_law_33 (by rw [c247]; decide) (by rw [c247]; decide) (by rw [c247]; rfl) rfl ?_
                                                                          refine ex_aload_n (pc := 1257) 1 dL_law_1257 rfl rfl ?_
                                                                          refine ex_aload_n (pc := 1258) 0 dL_law_1258 rfl rfl ?_
                                                                          refine ex_iload_n (pc := 1259) 3 dL_law_1259 rfl rfl ?_
                                                                          refine ex_iconst (pc := 1260) 1 dL_law_1260 rfl ?_
                                                                          refine ex_iadd (pc := 1261) dL_law_1261 ?_
                                                                          obtain ⟨v248, ev248, h⟩ := ob_some h
                                                                          refine ex_scR (pc := 1262) ev248 dL_law_1262 ?_
                                                                          obtain ⟨q249, eq249, h⟩ := ob_some h
                                                                          refine ex_callV1r (pc := 1263) dL_law_1263 jX10_paired lmL_158 jiX10_paired jvX10_paired (o_X10_paired eq249) rfl (Nat.le_of_ble_eq_true rfl) (s_X10_paired (by omega)  eq249) ?_
                                                                          refine ex_aload_n (pc := 1266) 2 dL_law_1266 rfl rfl ?_
                                                                          refine ex_aload_n (pc := 1267) 0 dL_law_1267 rfl rfl ?_
                                                                          refine ex_iload_n (pc := 1268) 3 dL_law_1268 rfl rfl ?_
                                                                          refine ex_iconst (pc := 1269) 1 dL_law_1269 rfl ?_
                                                                          refine ex_iadd (pc := 1270) dL_law_1270 ?_
                                                                          obtain ⟨v250, ev250, h⟩ := ob_some h
                                                                          refine ex_scR (pc := 1271) ev250 dL_law_1271 ?_
                                                                          obtain ⟨q251, eq251, h⟩ := ob_some h
                                                                          refine ex_callV1r (pc := 1272) dL_law_1272 jX11_paired lmL_161 jiX11_paired jvX11_paired (o_X11_paired eq251) rfl (Nat.le_of_ble_eq_true rfl) (s_X11_paired (by omega)  eq251) ?_
                                                                          by_cases c252 : q249.1 = q251.1
                                                                          · rw [if_pos c252] at h
                                                                            refine ex_icmp_eq_t (pc := 1275) 1569 dL_law_1275 rfl c252 ?_
                                                                            refine ex_iinc (pc := 1569) (x3 + 6) 3 [(3, .int (x3 + 6)), (0, .ref X.1), (1, .ref x1), (2, .ref x2)] dL_law_1569 rfl rfl (by decide) rfl ?_
                                                                            refine ex_goto (pc := 1572) 18 dL_law_1572 rfl ?_
                                                                            refine ex_sub (lo' := [(0, .ref X.1), (1, .ref x1), (2, .ref x2), (3, .int (x3 + 6))]) [1, 2, 3, 0] rfl ?_
                                                                            exact ih _ _ _ _ _  h
                                                                          · rw [if_neg c252] at h
                                                                            refine ex_icmp_eq_f (pc := 1275) dL_law_1275 1569 rfl c252 ?_
                                                                            refine ex_iconst (pc := 1278) 0 dL_law_1278 rfl ?_
                                                                            cases h
                                                                            exact ex_ireturn (pc := 1279) dL_law_1279
                                                                        · rw [if_neg c247] at h
                                                                          by_cases c253 : (v39 &&& 63) = 34
                                                                          · rw [if_pos c253] at h
                                                                            refine ex_tabIn (pc := 33) 1280 dL_law_33 (by rw [c253]; decide) (by rw [c253]; decide) (by rw [c253]; rfl) rfl ?_
                                                                            refine ex_aload_n (pc := 1280) 1 dL_law_1280 rfl rfl ?_
                                                                            refine ex_aload_n (pc := 1281) 0 dL_law_1281 rfl rfl ?_
                                                                            refine ex_iload_n (pc := 1282) 3 dL_law_1282 rfl rfl ?_
                                                                            refine ex_iconst (pc := 1283) 1 dL_law_1283 rfl ?_
                                                                            refine ex_iadd (pc := 1284) dL_law_1284 ?_
                                                                            obtain ⟨v254, ev254, h⟩ := ob_some h
                                                                            refine ex_scR (pc := 1285) ev254 dL_law_1285 ?_
                                                                            refine ex_aload_n (pc := 1286) 0 dL_law_1286 rfl rfl ?_
                                                                            refine ex_iload_n (pc := 1287) 3 dL_law_1287 rfl rfl ?_
                                                                            refine ex_iconst (pc := 1288) 2 dL_law_1288 rfl ?_
                                                                            refine ex_iadd (pc := 1289) dL_law_1289 ?_
                                                                            obtain ⟨v255, ev255, h⟩ := ob_some h
                                                                            refine ex_scR (pc := 1290) ev255 dL_law_1290 ?_
                                                                            obtain ⟨v256, ev256, h⟩ := ob_some h
                                                                            refine ex_callV2r (pc := 1291) dL_law_1291 jX10_blocks lmL_162 jiX10_blocks jvX10_blocks (o_X10_blocks ev256) rfl (Nat.le_of_ble_eq_true rfl) (s_X10_blocks (by omega)  ev256) ?_
                                                                            refine ex_aload_n (pc := 1294) 2 dL_law_1294 rfl rfl ?_
                                                                            refine ex_aload_n (pc := 1295) 0 dL_law_1295 rfl rfl ?_
                                                                            refine ex_iload_n (pc := 1296) 3 dL_law_1296 rfl rfl ?_
                                                                            refine ex_iconst (pc := 1297) 1 dL_law_1297 rfl ?_
                                                                            refine ex_iadd (pc := 1298) dL_law_1298 ?_
                                                                            obtain ⟨v257, ev257, h⟩ := ob_some h
                                                                            refine ex_scR (pc := 1299) ev257 dL_law_1299 ?_
                                                                            refine ex_aload_n (pc := 1300) 0 dL_law_1300 rfl rfl ?_
                                                                            refine ex_iload_n (pc := 1301) 3 dL_law_1301 rfl rfl ?_
                                                                            refine ex_iconst (pc := 1302) 2 dL_law_1302 rfl ?_
                                                                            refine ex_iadd (pc := 1303) dL_law_1303 ?_
                                                                            obtain ⟨v258, ev258, h⟩ := ob_some h
                                                                            refine ex_scR (pc := 1304) ev258 dL_law_1304 ?_
                                                                            obtain ⟨v259, ev259, h⟩ := ob_some h
                                                                            refine ex_callV2r (pc := 1305) dL_law_1305 jX11_blocks lmL_165 jiX11_blocks jvX11_blocks (o_X11_blocks ev259) rfl (Nat.le_of_ble_eq_true rfl) (s_X11_blocks (by omega)  ev259) ?_
                                                                            by_cases c260 : v256 = v259
                                                                            · rw [if_pos c260] at h
                                                                              refine ex_icmp_eq_t (pc := 1308) 1569 dL_law_1308 rfl c260 ?_
                                                                              refine ex_iinc (pc := 1569) (x3 + 6) 3 [(3, .int (x3 + 6)), (0, .ref X.1), (1, .ref x1), (2, .ref x2)] dL_law_1569 rfl rfl (by decide) rfl ?_
                                                                              refine ex_goto (pc := 1572) 18 dL_law_1572 rfl ?_
                                                                              refine ex_sub (lo' := [(0, .ref X.1), (1, .ref x1), (2, .ref x2), (3, .int (x3 + 6))]) [1, 2, 3, 0] rfl ?_
                                                                              exact ih _ _ _ _ _  h
                                                                            · rw [if_neg c260] at h
                                                                              refine ex_icmp_eq_f (pc := 1308) dL_law_1308 1569 rfl c260 ?_
                                                                              refine ex_iconst (pc := 1311) 0 dL_law_1311 rfl ?_
                                                                              cases h
                                                                              exact ex_ireturn (pc := 1312) dL_law_1312
                                                                          · rw [if_neg c253] at h
                                                                            by_cases c261 : (v39 &&& 63) = 35
                                                                            · rw [if_pos c261] at h
                                                                              refine ex_tabIn (pc := 33) 1313 dL_law_33 (by rw [c261]; decide) (by rw [c261]; decide) (by rw [c261]; rfl) rfl ?_
                                                                              refine ex_aload_n (pc := 1313) 1 dL_law_1313 rfl rfl ?_
                                                                              refine ex_aload_n (pc := 1314) 0 dL_law_1314 rfl rfl ?_
                                                                              refine ex_iload_n (pc := 1315) 3 dL_law_1315 rfl rfl ?_
                                                                              refine ex_iconst (pc := 1316) 1 dL_law_1316 rfl ?_
                                                                              refine ex_iadd (pc := 1317) dL_law_1317 ?_
                                                                              obtain ⟨v262, ev262, h⟩ := ob_some h
                                                                              refine ex_scR (pc := 1318) ev262 dL_law_1318 ?_
                                                                              refine ex_aload_n (pc := 1319) 0 dL_law_1319 rfl rfl ?_
                                                                              refine ex_iload_n (pc := 1320) 3 dL_law_1320 rfl rfl ?_
                                                                              refine ex_iconst (pc := 1321) 2 dL_law_1321 rfl ?_
                                                                              refine ex_iadd (pc := 1322) dL_law_1322 ?_
                                                                              obtain ⟨v263, ev263, h⟩ := ob_some h
                                                                              refine ex_scR (pc := 1323) ev263 dL_law_1323 ?_
                                                                              obtain ⟨q264, eq264, h⟩ := ob_some h
                                                                              refine ex_callV2r (pc := 1324) dL_law_1324 jX10_needs lmL_166 jiX10_needs jvX10_needs (o_X10_needs eq264) rfl (Nat.le_of_ble_eq_true rfl) (s_X10_needs (by omega)  eq264) ?_
                                                                              refine ex_aload_n (pc := 1327) 2 dL_law_1327 rfl rfl ?_
                                                                              refine ex_aload_n (pc := 1328) 0 dL_law_1328 rfl rfl ?_
                                                                              refine ex_iload_n (pc := 1329) 3 dL_law_1329 rfl rfl ?_
                                                                              refine ex_iconst (pc := 1330) 1 dL_law_1330 rfl ?_
                                                                              refine ex_iadd (pc := 1331) dL_law_1331 ?_
                                                                              obtain ⟨v265, ev265, h⟩ := ob_some h
                                                                              refine ex_scR (pc := 1332) ev265 dL_law_1332 ?_
                                                                              refine ex_aload_n (pc := 1333) 0 dL_law_1333 rfl rfl ?_
                                                                              refine ex_iload_n (pc := 1334) 3 dL_law_1334 rfl rfl ?_
                                                                              refine ex_iconst (pc := 1335) 2 dL_law_1335 rfl ?_
                                                                              refine ex_iadd (pc := 1336) dL_law_1336 ?_
                                                                              obtain ⟨v266, ev266, h⟩ := ob_some h
                                                                              refine ex_scR (pc := 1337) ev266 dL_law_1337 ?_
                                                                              obtain ⟨q267, eq267, h⟩ := ob_some h
                                                                              refine ex_callV2r (pc := 1338) dL_law_1338 jX11_needs lmL_169 jiX11_needs jvX11_needs (o_X11_needs eq267) rfl (Nat.le_of_ble_eq_true rfl) (s_X11_needs (by omega)  eq267) ?_
                                                                              by_cases c268 : (jz q264.1) = (jz q267.1)
                                                                              · rw [if_pos c268] at h
                                                                                refine ex_icmp_eq_t (pc := 1341) 1569 dL_law_1341 rfl c268 ?_
                                                                                refine ex_iinc (pc := 1569) (x3 + 6) 3 [(3, .int (x3 + 6)), (0, .ref X.1), (1, .ref x1), (2, .ref x2)] dL_law_1569 rfl rfl (by decide) rfl ?_
                                                                                refine ex_goto (pc := 1572) 18 dL_law_1572 rfl ?_
                                                                                refine ex_sub (lo' := [(0, .ref X.1), (1, .ref x1), (2, .ref x2), (3, .int (x3 + 6))]) [1, 2, 3, 0] rfl ?_
                                                                                exact ih _ _ _ _ _  h
                                                                              · rw [if_neg c268] at h
                                                                                refine ex_icmp_eq_f (pc := 1341) dL_law_1341 1569 rfl c268 ?_
                                                                                refine ex_iconst (pc := 1344) 0 dL_law_1344 rfl ?_
                                                                                cases h
                                                                                exact ex_ireturn (pc := 1345) dL_law_1345
                                                                            · rw [if_neg c261] at h
                                                                              by_cases c269 : (v39 &&& 63) = 36
                                                                              · rw [if_pos c269] at h
                                                                                refine ex_tabIn (pc := 33) 1346 dL_law_33 (by rw [c269]; decide) (by rw [c269]; decide) (by rw [c269]; rfl) rfl ?_
                                                                                refine ex_aload_n (pc := 1346) 1 dL_law_1346 rfl rfl ?_
                                                                                refine ex_aload_n (pc := 1347) 0 dL_law_1347 rfl rfl ?_
                                                                                refine ex_iload_n (pc := 1348) 3 dL_law_1348 rfl rfl ?_
                                                                                refine ex_iconst (pc := 1349) 1 dL_law_1349 rfl ?_
                                                                                refine ex_iadd (pc := 1350) dL_law_1350 ?_
                                                                                obtain ⟨v270, ev270, h⟩ := ob_some h
                                                                                refine ex_scR (pc := 1351) ev270 dL_law_1351 ?_
                                                                                refine ex_aload_n (pc := 1352) 0 dL_law_1352 rfl rfl ?_
                                                                                refine ex_iload_n (pc := 1353) 3 dL_law_1353 rfl rfl ?_
                                                                                refine ex_iconst (pc := 1354) 2 dL_law_1354 rfl ?_
                                                                                refine ex_iadd (pc := 1355) dL_law_1355 ?_
                                                                                obtain ⟨v271, ev271, h⟩ := ob_some h
                                                                                refine ex_scR (pc := 1356) ev271 dL_law_1356 ?_
                                                                                refine ex_aload_n (pc := 1357) 0 dL_law_1357 rfl rfl ?_
                                                                                refine ex_iload_n (pc := 1358) 3 dL_law_1358 rfl rfl ?_
                                                                                refine ex_iconst (pc := 1359) 3 dL_law_1359 rfl ?_
                                                                                refine ex_iadd (pc := 1360) dL_law_1360 ?_
                                                                                obtain ⟨v272, ev272, h⟩ := ob_some h
                                                                                refine ex_scR (pc := 1361) ev272 dL_law_1361 ?_
                                                                                obtain ⟨q273, eq273, h⟩ := ob_some h
                                                                                refine ex_callV3r (pc := 1362) dL_law_1362 jX10_stock lmL_170 jiX10_stock jvX10_stock (o_X10_stock eq273) rfl (Nat.le_of_ble_eq_true rfl) (s_X10_stock (by omega)  eq273) ?_
                                                                                refine ex_aload_n (pc := 1365) 2 dL_law_1365 rfl rfl ?_
                                                                                refine ex_aload_n (pc := 1366) 0 dL_law_1366 rfl rfl ?_
                                                                                refine ex_iload_n (pc := 1367) 3 dL_law_1367 rfl rfl ?_
                                                                                refine ex_iconst (pc := 1368) 1 dL_law_1368 rfl ?_
                                                                                refine ex_iadd (pc := 1369) dL_law_1369 ?_
                                                                                obtain ⟨v274, ev274, h⟩ := ob_some h
                                                                                refine ex_scR (pc := 1370) ev274 dL_law_1370 ?_
                                                                                refine ex_aload_n (pc := 1371) 0 dL_law_1371 rfl rfl ?_
                                                                                refine ex_iload_n (pc := 1372) 3 dL_law_1372 rfl rfl ?_
                                                                                refine ex_iconst (pc := 1373) 2 dL_law_1373 rfl ?_
                                                                                refine ex_iadd (pc := 1374) dL_law_1374 ?_
                                                                                obtain ⟨v275, ev275, h⟩ := ob_some h
                                                                                refine ex_scR (pc := 1375) ev275 dL_law_1375 ?_
                                                                                refine ex_aload_n (pc := 1376) 0 dL_law_1376 rfl rfl ?_
                                                                                refine ex_iload_n (pc := 1377) 3 dL_law_1377 rfl rfl ?_
                                                                                refine ex_iconst (pc := 1378) 3 dL_law_1378 rfl ?_
                                                                                refine ex_iadd (pc := 1379) dL_law_1379 ?_
                                                                                obtain ⟨v276, ev276, h⟩ := ob_some h
                                                                                refine ex_scR (pc := 1380) ev276 dL_law_1380 ?_
                                                                                obtain ⟨q277, eq277, h⟩ := ob_some h
                                                                                refine ex_callV3r (pc := 1381) dL_law_1381 jX11_stock lmL_173 jiX11_stock jvX11_stock (o_X11_stock eq277) rfl (Nat.le_of_ble_eq_true rfl) (s_X11_stock (by omega)  eq277) ?_
                                                                                by_cases c278 : q273.1 = q277.1
                                                                                · rw [if_pos c278] at h
                                                                                  refine ex_icmp_eq_t (pc := 1384) 1569 dL_law_1384 rfl c278 ?_
                                                                                  refine ex_iinc (pc := 1569) (x3 + 6) 3 [(3, .int (x3 + 6)), (0, .ref X.1), (1, .ref x1), (2, .ref x2)] dL_law_1569 rfl rfl (by decide) rfl ?_
                                                                                  refine ex_goto (pc := 1572) 18 dL_law_1572 rfl ?_
                                                                                  refine ex_sub (lo' := [(0, .ref X.1), (1, .ref x1), (2, .ref x2), (3, .int (x3 + 6))]) [1, 2, 3, 0] rfl ?_
                                                                                  exact ih _ _ _ _ _  h
                                                                                · rw [if_neg c278] at h
                                                                                  refine ex_icmp_eq_f (pc := 1384) dL_law_1384 1569 rfl c278 ?_
                                                                                  refine ex_iconst (pc := 1387) 0 dL_law_1387 rfl ?_
                                                                                  cases h
                                                                                  exact ex_ireturn (pc := 1388) dL_law_1388
                                                                              · rw [if_neg c269] at h
                                                                                by_cases c279 : (v39 &&& 63) = 37
                                                                                · rw [if_pos c279] at h
                                                                                  refine ex_tabIn (pc := 33) 1389 dL_law_33 (by rw [c279]; decide) (by rw [c279]; decide) (by rw [c279]; rfl) rfl ?_
                                                                                  refine ex_aload_n (pc := 1389) 1 dL_law_1389 rfl rfl ?_
                                                                                  refine ex_aload_n (pc := 1390) 0 dL_law_1390 rfl rfl ?_
                                                                                  refine ex_iload_n (pc := 1391) 3 dL_law_1391 rfl rfl ?_
                                                                                  refine ex_iconst (pc := 1392) 1 dL_law_1392 rfl ?_
                                                                                  refine ex_iadd (pc := 1393) dL_law_1393 ?_
                                                                                  obtain ⟨v280, ev280, h⟩ := ob_some h
                                                                                  refine ex_scR (pc := 1394) ev280 dL_law_1394 ?_
                                                                                  refine ex_aload_n (pc := 1395) 0 dL_law_1395 rfl rfl ?_
                                                                                  refine ex_iload_n (pc := 1396) 3 dL_law_1396 rfl rfl ?_
                                                                                  refine ex_iconst (pc := 1397) 2 dL_law_1397 rfl ?_
                                                                                  refine ex_iadd (pc := 1398) dL_law_1398 ?_
                                                                                  obtain ⟨v281, ev281, h⟩ := ob_some h
                                                                                  refine ex_scR (pc := 1399) ev281 dL_law_1399 ?_
                                                                                  obtain ⟨q282, eq282, h⟩ := ob_some h
                                                                                  refine ex_callV2r (pc := 1400) dL_law_1400 jX10_looser lmL_174 jiX10_looser jvX10_looser (o_X10_looser eq282) rfl (Nat.le_of_ble_eq_true rfl) (s_X10_looser (by omega)  eq282) ?_
                                                                                  refine ex_aload_n (pc := 1403) 2 dL_law_1403 rfl rfl ?_
                                                                                  refine ex_aload_n (pc := 1404) 0 dL_law_1404 rfl rfl ?_
                                                                                  refine ex_iload_n (pc := 1405) 3 dL_law_1405 rfl rfl ?_
                                                                                  refine ex_iconst (pc := 1406) 1 dL_law_1406 rfl ?_
                                                                                  refine ex_iadd (pc := 1407) dL_law_1407 ?_
                                                                                  obtain ⟨v283, ev283, h⟩ := ob_some h
                                                                                  refine ex_scR (pc := 1408) ev283 dL_law_1408 ?_
                                                                                  refine ex_aload_n (pc := 1409) 0 dL_law_1409 rfl rfl ?_
                                                                                  refine ex_iload_n (pc := 1410) 3 dL_law_1410 rfl rfl ?_
                                                                                  refine ex_iconst (pc := 1411) 2 dL_law_1411 rfl ?_
                                                                                  refine ex_iadd (pc := 1412) dL_law_1412 ?_
                                                                                  obtain ⟨v284, ev284, h⟩ := ob_some h
                                                                                  refine ex_scR (pc := 1413) ev284 dL_law_1413 ?_
                                                                                  obtain ⟨q285, eq285, h⟩ := ob_some h
                                                                                  refine ex_callV2r (pc := 1414) dL_law_1414 jX11_looser lmL_177 jiX11_looser jvX11_looser (o_X11_looser eq285) rfl (Nat.le_of_ble_eq_true rfl) (s_X11_looser (by omega)  eq285) ?_
                                                                                  by_cases c286 : q282.1 = q285.1
                                                                                  · rw [if_pos c286] at h
                                                                                    refine ex_icmp_eq_t (pc := 1417) 1569 dL_law_1417 rfl c286 ?_
                                                                                    refine ex_iinc (pc := 1569) (x3 + 6) 3 [(3, .int (x3 + 6)), (0, .ref X.1), (1, .ref x1), (2, .ref x2)] dL_law_1569 rfl rfl (by decide) rfl ?_
                                                                                    refine ex_goto (pc := 1572) 18 dL_law_1572 rfl ?_
                                                                                    refine ex_sub (lo' := [(0, .ref X.1), (1, .ref x1), (2, .ref x2), (3, .int (x3 + 6))]) [1, 2, 3, 0] rfl ?_
                                                                                    exact ih _ _ _ _ _  h
                                                                                  · rw [if_neg c286] at h
                                                                                    refine ex_icmp_eq_f (pc := 1417) dL_law_1417 1569 rfl c286 ?_
                                                                                    refine ex_iconst (pc := 1420) 0 dL_law_1420 rfl ?_
                                                                                    cases h
                                                                                    exact ex_ireturn (pc := 1421) dL_law_1421
                                                                                · rw [if_neg c279] at h
                                                                                  by_cases c287 : (v39 &&& 63) = 38
                                                                                  · rw [if_pos c287] at h
                                                                                    refine ex_tabIn (pc := 33) 1422 dL_law_33 (by rw [c287]; decide) (by rw [c287]; decide) (by rw [c287]; rfl) rfl ?_
                                                                                    refine ex_aload_n (pc := 1422) 1 dL_law_1422 rfl rfl ?_
                                                                                    obtain ⟨q288, eq288, h⟩ := ob_some h
                                                                                    refine ex_callV0r (pc := 1423) dL_law_1423 jX10_whose lmL_178 jiX10_whose jvX10_whose (o_X10_whose eq288) rfl (Nat.le_of_ble_eq_true rfl) (s_X10_whose (by omega)  eq288) ?_
                                                                                    refine ex_aload_n (pc := 1426) 2 dL_law_1426 rfl rfl ?_
                                                                                    obtain ⟨q289, eq289, h⟩ := ob_some h
                                                                                    refine ex_callV0r (pc := 1427) dL_law_1427 jX11_whose lmL_181 jiX11_whose jvX11_whose (o_X11_whose eq289) rfl (Nat.le_of_ble_eq_true rfl) (s_X11_whose (by omega)  eq289) ?_
                                                                                    by_cases c290 : q288.1 = q289.1
                                                                                    · rw [if_pos c290] at h
                                                                                      refine ex_icmp_eq_t (pc := 1430) 1569 dL_law_1430 rfl c290 ?_
                                                                                      refine ex_iinc (pc := 1569) (x3 + 6) 3 [(3, .int (x3 + 6)), (0, .ref X.1), (1, .ref x1), (2, .ref x2)] dL_law_1569 rfl rfl (by decide) rfl ?_
                                                                                      refine ex_goto (pc := 1572) 18 dL_law_1572 rfl ?_
                                                                                      refine ex_sub (lo' := [(0, .ref X.1), (1, .ref x1), (2, .ref x2), (3, .int (x3 + 6))]) [1, 2, 3, 0] rfl ?_
                                                                                      exact ih _ _ _ _ _  h
                                                                                    · rw [if_neg c290] at h
                                                                                      refine ex_icmp_eq_f (pc := 1430) dL_law_1430 1569 rfl c290 ?_
                                                                                      refine ex_iconst (pc := 1433) 0 dL_law_1433 rfl ?_
                                                                                      cases h
                                                                                      exact ex_ireturn (pc := 1434) dL_law_1434
                                                                                  · rw [if_neg c287] at h
                                                                                    by_cases c291 : (v39 &&& 63) = 39
                                                                                    · rw [if_pos c291] at h
                                                                                      refine ex_tabIn (pc := 33) 1435 dL_law_33 (by rw [c291]; decide) (by rw [c291]; decide) (by rw [c291]; rfl) rfl ?_
                                                                                      refine ex_aload_n (pc := 1435) 1 dL_law_1435 rfl rfl ?_
                                                                                      refine ex_aload_n (pc := 1436) 0 dL_law_1436 rfl rfl ?_
                                                                                      refine ex_iload_n (pc := 1437) 3 dL_law_1437 rfl rfl ?_
                                                                                      refine ex_iconst (pc := 1438) 1 dL_law_1438 rfl ?_
                                                                                      refine ex_iadd (pc := 1439) dL_law_1439 ?_
                                                                                      obtain ⟨v292, ev292, h⟩ := ob_some h
                                                                                      refine ex_scR (pc := 1440) ev292 dL_law_1440 ?_
                                                                                      obtain ⟨v293, ev293, h⟩ := ob_some h
                                                                                      refine ex_callV1r (pc := 1441) dL_law_1441 jX10_forgiven lmL_182 jiX10_forgiven jvX10_forgiven (o_X10_forgiven ev293) rfl (Nat.le_of_ble_eq_true rfl) (s_X10_forgiven (by omega)  ev293) ?_
                                                                                      refine ex_aload_n (pc := 1444) 2 dL_law_1444 rfl rfl ?_
                                                                                      refine ex_aload_n (pc := 1445) 0 dL_law_1445 rfl rfl ?_
                                                                                      refine ex_iload_n (pc := 1446) 3 dL_law_1446 rfl rfl ?_
                                                                                      refine ex_iconst (pc := 1447) 1 dL_law_1447 rfl ?_
                                                                                      refine ex_iadd (pc := 1448) dL_law_1448 ?_
                                                                                      obtain ⟨v294, ev294, h⟩ := ob_some h
                                                                                      refine ex_scR (pc := 1449) ev294 dL_law_1449 ?_
                                                                                      obtain ⟨v295, ev295, h⟩ := ob_some h
                                                                                      refine ex_callV1r (pc := 1450) dL_law_1450 jX11_forgiven lmL_185 jiX11_forgiven jvX11_forgiven (o_X11_forgiven ev295) rfl (Nat.le_of_ble_eq_true rfl) (s_X11_forgiven (by omega)  ev295) ?_
                                                                                      by_cases c296 : v293 = v295
                                                                                      · rw [if_pos c296] at h
                                                                                        refine ex_icmp_eq_t (pc := 1453) 1569 dL_law_1453 rfl c296 ?_
                                                                                        refine ex_iinc (pc := 1569) (x3 + 6) 3 [(3, .int (x3 + 6)), (0, .ref X.1), (1, .ref x1), (2, .ref x2)] dL_law_1569 rfl rfl (by decide) rfl ?_
                                                                                        refine ex_goto (pc := 1572) 18 dL_law_1572 rfl ?_
                                                                                        refine ex_sub (lo' := [(0, .ref X.1), (1, .ref x1), (2, .ref x2), (3, .int (x3 + 6))]) [1, 2, 3, 0] rfl ?_
                                                                                        exact ih _ _ _ _ _  h
                                                                                      · rw [if_neg c296] at h
                                                                                        refine ex_icmp_eq_f (pc := 1453) dL_law_1453 1569 rfl c296 ?_
                                                                                        refine ex_iconst (pc := 1456) 0 dL_law_1456 rfl ?_
                                                                                        cases h
                                                                                        exact ex_ireturn (pc := 1457) dL_law_1457
                                                                                    · rw [if_neg c291] at h
                                                                                      by_cases c297 : (v39 &&& 63) = 40
                                                                                      · rw [if_pos c297] at h
                                                                                        refine ex_tabIn (pc := 33) 1458 dL_law_33 (by rw [c297]; decide) (by rw [c297]; decide) (by rw [c297]; rfl) rfl ?_
                                                                                        refine ex_aload_n (pc := 1458) 1 dL_law_1458 rfl rfl ?_
                                                                                        obtain ⟨v298, ev298, h⟩ := ob_some h
                                                                                        refine ex_callV0r (pc := 1459) dL_law_1459 jX10_snow lmL_186 jiX10_snow jvX10_snow (o_X10_snow ev298) rfl (Nat.le_of_ble_eq_true rfl) (s_X10_snow (by omega)  ev298) ?_
                                                                                        refine ex_aload_n (pc := 1462) 2 dL_law_1462 rfl rfl ?_
                                                                                        obtain ⟨v299, ev299, h⟩ := ob_some h
                                                                                        refine ex_callV0r (pc := 1463) dL_law_1463 jX11_snow lmL_189 jiX11_snow jvX11_snow (o_X11_snow ev299) rfl (Nat.le_of_ble_eq_true rfl) (s_X11_snow (by omega)  ev299) ?_
                                                                                        by_cases c300 : v298 = v299
                                                                                        · rw [if_pos c300] at h
                                                                                          refine ex_icmp_eq_t (pc := 1466) 1569 dL_law_1466 rfl c300 ?_
                                                                                          refine ex_iinc (pc := 1569) (x3 + 6) 3 [(3, .int (x3 + 6)), (0, .ref X.1), (1, .ref x1), (2, .ref x2)] dL_law_1569 rfl rfl (by decide) rfl ?_
                                                                                          refine ex_goto (pc := 1572) 18 dL_law_1572 rfl ?_
                                                                                          refine ex_sub (lo' := [(0, .ref X.1), (1, .ref x1), (2, .ref x2), (3, .int (x3 + 6))]) [1, 2, 3, 0] rfl ?_
                                                                                          exact ih _ _ _ _ _  h
                                                                                        · rw [if_neg c300] at h
                                                                                          refine ex_icmp_eq_f (pc := 1466) dL_law_1466 1569 rfl c300 ?_
                                                                                          refine ex_iconst (pc := 1469) 0 dL_law_1469 rfl ?_
                                                                                          cases h
                                                                                          exact ex_ireturn (pc := 1470) dL_law_1470
                                                                                      · rw [if_neg c297] at h
                                                                                        by_cases c301 : (v39 &&& 63) = 41
                                                                                        · rw [if_pos c301] at h
                                                                                          refine ex_tabIn (pc := 33) 1471 dL_law_33 (by rw [c301]; decide) (by rw [c301]; decide) (by rw [c301]; rfl) rfl ?_
                                                                                          refine ex_aload_n (pc := 1471) 1 dL_law_1471 rfl rfl ?_
                                                                                          obtain ⟨v302, ev302, h⟩ := ob_some h
                                                                                          refine ex_callV0r (pc := 1472) dL_law_1472 jX10_worn lmL_190 jiX10_worn jvX10_worn (o_X10_worn ev302) rfl (Nat.le_of_ble_eq_true rfl) (s_X10_worn (by omega)  ev302) ?_
                                                                                          refine ex_aload_n (pc := 1475) 2 dL_law_1475 rfl rfl ?_
                                                                                          obtain ⟨v303, ev303, h⟩ := ob_some h
                                                                                          refine ex_callV0r (pc := 1476) dL_law_1476 jX11_worn lmL_193 jiX11_worn jvX11_worn (o_X11_worn ev303) rfl (Nat.le_of_ble_eq_true rfl) (s_X11_worn (by omega)  ev303) ?_
                                                                                          by_cases c304 : v302 = v303
                                                                                          · rw [if_pos c304] at h
                                                                                            refine ex_icmp_eq_t (pc := 1479) 1569 dL_law_1479 rfl c304 ?_
                                                                                            refine ex_iinc (pc := 1569) (x3 + 6) 3 [(3, .int (x3 + 6)), (0, .ref X.1), (1, .ref x1), (2, .ref x2)] dL_law_1569 rfl rfl (by decide) rfl ?_
                                                                                            refine ex_goto (pc := 1572) 18 dL_law_1572 rfl ?_
                                                                                            refine ex_sub (lo' := [(0, .ref X.1), (1, .ref x1), (2, .ref x2), (3, .int (x3 + 6))]) [1, 2, 3, 0] rfl ?_
                                                                                            exact ih _ _ _ _ _  h
                                                                                          · rw [if_neg c304] at h
                                                                                            refine ex_icmp_eq_f (pc := 1479) dL_law_1479 1569 rfl c304 ?_
                                                                                            refine ex_iconst (pc := 1482) 0 dL_law_1482 rfl ?_
                                                                                            cases h
                                                                                            exact ex_ireturn (pc := 1483) dL_law_1483
                                                                                        · rw [if_neg c301] at h
                                                                                          by_cases c305 : (v39 &&& 63) = 42
                                                                                          · rw [if_pos c305] at h
                                                                                            refine ex_tabIn (pc := 33) 1484 dL_law_33 (by rw [c305]; decide) (by rw [c305]; decide) (by rw [c305]; rfl) rfl ?_
                                                                                            refine ex_aload_n (pc := 1484) 1 dL_law_1484 rfl rfl ?_
                                                                                            obtain ⟨v306, ev306, h⟩ := ob_some h
                                                                                            refine ex_callV0r (pc := 1485) dL_law_1485 jX10_blank lmL_194 jiX10_blank jvX10_blank (o_X10_blank ev306) rfl (Nat.le_of_ble_eq_true rfl) (s_X10_blank (by omega)  ev306) ?_
                                                                                            refine ex_aload_n (pc := 1488) 2 dL_law_1488 rfl rfl ?_
                                                                                            obtain ⟨v307, ev307, h⟩ := ob_some h
                                                                                            refine ex_callV0r (pc := 1489) dL_law_1489 jX11_blank lmL_197 jiX11_blank jvX11_blank (o_X11_blank ev307) rfl (Nat.le_of_ble_eq_true rfl) (s_X11_blank (by omega)  ev307) ?_
                                                                                            by_cases c308 : v306 = v307
                                                                                            · rw [if_pos c308] at h
                                                                                              refine ex_icmp_eq_t (pc := 1492) 1569 dL_law_1492 rfl c308 ?_
                                                                                              refine ex_iinc (pc := 1569) (x3 + 6) 3 [(3, .int (x3 + 6)), (0, .ref X.1), (1, .ref x1), (2, .ref x2)] dL_law_1569 rfl rfl (by decide) rfl ?_
                                                                                              refine ex_goto (pc := 1572) 18 dL_law_1572 rfl ?_
                                                                                              refine ex_sub (lo' := [(0, .ref X.1), (1, .ref x1), (2, .ref x2), (3, .int (x3 + 6))]) [1, 2, 3, 0] rfl ?_
                                                                                              exact ih _ _ _ _ _  h
                                                                                            · rw [if_neg c308] at h
                                                                                              refine ex_icmp_eq_f (pc := 1492) dL_law_1492 1569 rfl c308 ?_
                                                                                              refine ex_iconst (pc := 1495) 0 dL_law_1495 rfl ?_
                                                                                              cases h
                                                                                              exact ex_ireturn (pc := 1496) dL_law_1496
                                                                                          · rw [if_neg c305] at h
                                                                                            by_cases c309 : (v39 &&& 63) = 43
                                                                                            · rw [if_pos c309] at h
                                                                                              refine ex_tabIn (pc := 33) 1497 dL_law_33 (by rw [c309]; decide) (by rw [c309]; decide) (by rw [c309]; rfl) rfl ?_
                                                                                              refine ex_aload_n (pc := 1497) 1 dL_law_1497 rfl rfl ?_
                                                                                              refine ex_aload_n (pc := 1498) 0 dL_law_1498 rfl rfl ?_
                                                                                              refine ex_iload_n (pc := 1499) 3 dL_law_1499 rfl rfl ?_
                                                                                              refine ex_iconst (pc := 1500) 1 dL_law_1500 rfl ?_
                                                                                              refine ex_iadd (pc := 1501) dL_law_1501 ?_
                                                                                              obtain ⟨v310, ev310, h⟩ := ob_some h
                                                                                              refine ex_scR (pc := 1502) ev310 dL_law_1502 ?_
                                                                                              obtain ⟨v311, ev311, h⟩ := ob_some h
                                                                                              refine ex_callV1r (pc := 1503) dL_law_1503 jX10_ledger lmL_198 jiX10_ledger jvX10_ledger (o_X10_ledger ev311) rfl (Nat.le_of_ble_eq_true rfl) (s_X10_ledger (by omega)  ev311) ?_
                                                                                              refine ex_aload_n (pc := 1506) 2 dL_law_1506 rfl rfl ?_
                                                                                              refine ex_aload_n (pc := 1507) 0 dL_law_1507 rfl rfl ?_
                                                                                              refine ex_iload_n (pc := 1508) 3 dL_law_1508 rfl rfl ?_
                                                                                              refine ex_iconst (pc := 1509) 1 dL_law_1509 rfl ?_
                                                                                              refine ex_iadd (pc := 1510) dL_law_1510 ?_
                                                                                              obtain ⟨v312, ev312, h⟩ := ob_some h
                                                                                              refine ex_scR (pc := 1511) ev312 dL_law_1511 ?_
                                                                                              obtain ⟨v313, ev313, h⟩ := ob_some h
                                                                                              refine ex_callV1r (pc := 1512) dL_law_1512 jX11_ledger lmL_201 jiX11_ledger jvX11_ledger (o_X11_ledger ev313) rfl (Nat.le_of_ble_eq_true rfl) (s_X11_ledger (by omega)  ev313) ?_
                                                                                              by_cases c314 : v311 = v313
                                                                                              · rw [if_pos c314] at h
                                                                                                refine ex_icmp_eq_t (pc := 1515) 1569 dL_law_1515 rfl c314 ?_
                                                                                                refine ex_iinc (pc := 1569) (x3 + 6) 3 [(3, .int (x3 + 6)), (0, .ref X.1), (1, .ref x1), (2, .ref x2)] dL_law_1569 rfl rfl (by decide) rfl ?_
                                                                                                refine ex_goto (pc := 1572) 18 dL_law_1572 rfl ?_
                                                                                                refine ex_sub (lo' := [(0, .ref X.1), (1, .ref x1), (2, .ref x2), (3, .int (x3 + 6))]) [1, 2, 3, 0] rfl ?_
                                                                                                exact ih _ _ _ _ _  h
                                                                                              · rw [if_neg c314] at h
                                                                                                refine ex_icmp_eq_f (pc := 1515) dL_law_1515 1569 rfl c314 ?_
                                                                                                refine ex_iconst (pc := 1518) 0 dL_law_1518 rfl ?_
                                                                                                cases h
                                                                                                exact ex_ireturn (pc := 1519) dL_law_1519
                                                                                            · rw [if_neg c309] at h
                                                                                              by_cases c315 : (v39 &&& 63) = 44
                                                                                              · rw [if_pos c315] at h
                                                                                                refine ex_tabIn (pc := 33) 1520 dL_law_33 (by rw [c315]; decide) (by rw [c315]; decide) (by rw [c315]; rfl) rfl ?_
                                                                                                refine ex_aload_n (pc := 1520) 1 dL_law_1520 rfl rfl ?_
                                                                                                obtain ⟨q316, eq316, h⟩ := ob_some h
                                                                                                refine ex_callV0r (pc := 1521) dL_law_1521 jX10_image lmL_202 jiX10_image jvX10_image (o_X10_image eq316) rfl (Nat.le_of_ble_eq_true rfl) (s_X10_image (by omega)  eq316) ?_
                                                                                                refine ex_aload_n (pc := 1524) 2 dL_law_1524 rfl rfl ?_
                                                                                                obtain ⟨q317, eq317, h⟩ := ob_some h
                                                                                                refine ex_callV0r (pc := 1525) dL_law_1525 jX11_image lmL_205 jiX11_image jvX11_image (o_X11_image eq317) rfl (Nat.le_of_ble_eq_true rfl) (s_X11_image (by omega)  eq317) ?_
                                                                                                by_cases c318 : q316.1 = q317.1
                                                                                                · rw [if_pos c318] at h
                                                                                                  refine ex_icmp_eq_t (pc := 1528) 1569 dL_law_1528 rfl c318 ?_
                                                                                                  refine ex_iinc (pc := 1569) (x3 + 6) 3 [(3, .int (x3 + 6)), (0, .ref X.1), (1, .ref x1), (2, .ref x2)] dL_law_1569 rfl rfl (by decide) rfl ?_
                                                                                                  refine ex_goto (pc := 1572) 18 dL_law_1572 rfl ?_
                                                                                                  refine ex_sub (lo' := [(0, .ref X.1), (1, .ref x1), (2, .ref x2), (3, .int (x3 + 6))]) [1, 2, 3, 0] rfl ?_
                                                                                                  exact ih _ _ _ _ _  h
                                                                                                · rw [if_neg c318] at h
                                                                                                  refine ex_icmp_eq_f (pc := 1528) dL_law_1528 1569 rfl c318 ?_
                                                                                                  refine ex_iconst (pc := 1531) 0 dL_law_1531 rfl ?_
                                                                                                  cases h
                                                                                                  exact ex_ireturn (pc := 1532) dL_law_1532
                                                                                              · rw [if_neg c315] at h
                                                                                                by_cases c319 : (v39 &&& 63) = 45
                                                                                                · rw [if_pos c319] at h
                                                                                                  refine ex_tabIn (pc := 33) 1533 dL_law_33 (by rw [c319]; decide) (by rw [c319]; decide) (by rw [c319]; rfl) rfl ?_
                                                                                                  refine ex_aload_n (pc := 1533) 1 dL_law_1533 rfl rfl ?_
                                                                                                  obtain ⟨q320, eq320, h⟩ := ob_some h
                                                                                                  refine ex_callV0r (pc := 1534) dL_law_1534 jX10_back lmL_206 jiX10_back jvX10_back (o_X10_back eq320) rfl (Nat.le_of_ble_eq_true rfl) (s_X10_back (by omega)  eq320) ?_
                                                                                                  refine ex_aload_n (pc := 1537) 2 dL_law_1537 rfl rfl ?_
                                                                                                  obtain ⟨q321, eq321, h⟩ := ob_some h
                                                                                                  refine ex_callV0r (pc := 1538) dL_law_1538 jX11_back lmL_209 jiX11_back jvX11_back (o_X11_back eq321) rfl (Nat.le_of_ble_eq_true rfl) (s_X11_back (by omega)  eq321) ?_
                                                                                                  by_cases c322 : q320.1 = q321.1
                                                                                                  · rw [if_pos c322] at h
                                                                                                    refine ex_icmp_eq_t (pc := 1541) 1569 dL_law_1541 rfl c322 ?_
                                                                                                    refine ex_iinc (pc := 1569) (x3 + 6) 3 [(3, .int (x3 + 6)), (0, .ref X.1), (1, .ref x1), (2, .ref x2)] dL_law_1569 rfl rfl (by decide) rfl ?_
                                                                                                    refine ex_goto (pc := 1572) 18 dL_law_1572 rfl ?_
                                                                                                    refine ex_sub (lo' := [(0, .ref X.1), (1, .ref x1), (2, .ref x2), (3, .int (x3 + 6))]) [1, 2, 3, 0] rfl ?_
                                                                                                    exact ih _ _ _ _ _  h
                                                                                                  · rw [if_neg c322] at h
                                                                                                    refine ex_icmp_eq_f (pc := 1541) dL_law_1541 1569 rfl c322 ?_
                                                                                                    refine ex_iconst (pc := 1544) 0 dL_law_1544 rfl ?_
                                                                                                    cases h
                                                                                                    exact ex_ireturn (pc := 1545) dL_law_1545
                                                                                                · rw [if_neg c319] at h
                                                                                                  by_cases c323 : (v39 &&& 63) = 46
                                                                                                  · rw [if_pos c323] at h
                                                                                                    refine ex_tabIn (pc := 33) 1546 dL_law_33 (by rw [c323]; decide) (by rw [c323]; decide) (by rw [c323]; rfl) rfl ?_
                                                                                                    refine ex_aload_n (pc := 1546) 1 dL_law_1546 rfl rfl ?_
                                                                                                    refine ex_aload_n (pc := 1547) 0 dL_law_1547 rfl rfl ?_
                                                                                                    refine ex_iload_n (pc := 1548) 3 dL_law_1548 rfl rfl ?_
                                                                                                    refine ex_iconst (pc := 1549) 1 dL_law_1549 rfl ?_
                                                                                                    refine ex_iadd (pc := 1550) dL_law_1550 ?_
                                                                                                    obtain ⟨v324, ev324, h⟩ := ob_some h
                                                                                                    refine ex_scR (pc := 1551) ev324 dL_law_1551 ?_
                                                                                                    obtain ⟨v325, ev325, h⟩ := ob_some h
                                                                                                    refine ex_callV1r (pc := 1552) dL_law_1552 jX10_about lmL_210 jiX10_about jvX10_about (o_X10_about ev325) rfl (Nat.le_of_ble_eq_true rfl) (s_X10_about (by omega)  ev325) ?_
                                                                                                    refine ex_aload_n (pc := 1555) 2 dL_law_1555 rfl rfl ?_
                                                                                                    refine ex_aload_n (pc := 1556) 0 dL_law_1556 rfl rfl ?_
                                                                                                    refine ex_iload_n (pc := 1557) 3 dL_law_1557 rfl rfl ?_
                                                                                                    refine ex_iconst (pc := 1558) 1 dL_law_1558 rfl ?_
                                                                                                    refine ex_iadd (pc := 1559) dL_law_1559 ?_
                                                                                                    obtain ⟨v326, ev326, h⟩ := ob_some h
                                                                                                    refine ex_scR (pc := 1560) ev326 dL_law_1560 ?_
                                                                                                    obtain ⟨v327, ev327, h⟩ := ob_some h
                                                                                                    refine ex_callV1r (pc := 1561) dL_law_1561 jX11_about lmL_213 jiX11_about jvX11_about (o_X11_about ev327) rfl (Nat.le_of_ble_eq_true rfl) (s_X11_about (by omega)  ev327) ?_
                                                                                                    by_cases c328 : v325 = v327
                                                                                                    · rw [if_pos c328] at h
                                                                                                      refine ex_icmp_eq_t (pc := 1564) 1569 dL_law_1564 rfl c328 ?_
                                                                                                      refine ex_iinc (pc := 1569) (x3 + 6) 3 [(3, .int (x3 + 6)), (0, .ref X.1), (1, .ref x1), (2, .ref x2)] dL_law_1569 rfl rfl (by decide) rfl ?_
                                                                                                      refine ex_goto (pc := 1572) 18 dL_law_1572 rfl ?_
                                                                                                      refine ex_sub (lo' := [(0, .ref X.1), (1, .ref x1), (2, .ref x2), (3, .int (x3 + 6))]) [1, 2, 3, 0] rfl ?_
                                                                                                      exact ih _ _ _ _ _  h
                                                                                                    · rw [if_neg c328] at h
                                                                                                      refine ex_icmp_eq_f (pc := 1564) dL_law_1564 1569 rfl c328 ?_
                                                                                                      refine ex_iconst (pc := 1567) 0 dL_law_1567 rfl ?_
                                                                                                      cases h
                                                                                                      exact ex_ireturn (pc := 1568) dL_law_1568
                                                                                                  · rw [if_neg c323] at h
                                                                                                    have zc40 : ¬ ((v39 &&& 63)).toInt = 0 := fun e9 => c40 (i32_of e9 (by decide))
                                                                                                    have zc48 : ¬ ((v39 &&& 63)).toInt = 1 := fun e9 => c48 (i32_of e9 (by decide))
                                                                                                    have zc52 : ¬ ((v39 &&& 63)).toInt = 2 := fun e9 => c52 (i32_of e9 (by decide))
                                                                                                    have zc66 : ¬ ((v39 &&& 63)).toInt = 3 := fun e9 => c66 (i32_of e9 (by decide))
                                                                                                    have zc72 : ¬ ((v39 &&& 63)).toInt = 4 := fun e9 => c72 (i32_of e9 (by decide))
                                                                                                    have zc76 : ¬ ((v39 &&& 63)).toInt = 5 := fun e9 => c76 (i32_of e9 (by decide))
                                                                                                    have zc82 : ¬ ((v39 &&& 63)).toInt = 6 := fun e9 => c82 (i32_of e9 (by decide))
                                                                                                    have zc88 : ¬ ((v39 &&& 63)).toInt = 7 := fun e9 => c88 (i32_of e9 (by decide))
                                                                                                    have zc96 : ¬ ((v39 &&& 63)).toInt = 8 := fun e9 => c96 (i32_of e9 (by decide))
                                                                                                    have zc104 : ¬ ((v39 &&& 63)).toInt = 9 := fun e9 => c104 (i32_of e9 (by decide))
                                                                                                    have zc110 : ¬ ((v39 &&& 63)).toInt = 10 := fun e9 => c110 (i32_of e9 (by decide))
                                                                                                    have zc116 : ¬ ((v39 &&& 63)).toInt = 11 := fun e9 => c116 (i32_of e9 (by decide))
                                                                                                    have zc122 : ¬ ((v39 &&& 63)).toInt = 12 := fun e9 => c122 (i32_of e9 (by decide))
                                                                                                    have zc130 : ¬ ((v39 &&& 63)).toInt = 13 := fun e9 => c130 (i32_of e9 (by decide))
                                                                                                    have zc134 : ¬ ((v39 &&& 63)).toInt = 14 := fun e9 => c134 (i32_of e9 (by decide))
                                                                                                    have zc142 : ¬ ((v39 &&& 63)).toInt = 15 := fun e9 => c142 (i32_of e9 (by decide))
                                                                                                    have zc146 : ¬ ((v39 &&& 63)).toInt = 16 := fun e9 => c146 (i32_of e9 (by decide))
                                                                                                    have zc152 : ¬ ((v39 &&& 63)).toInt = 17 := fun e9 => c152 (i32_of e9 (by decide))
                                                                                                    have zc160 : ¬ ((v39 &&& 63)).toInt = 18 := fun e9 => c160 (i32_of e9 (by decide))
                                                                                                    have zc170 : ¬ ((v39 &&& 63)).toInt = 19 := fun e9 => c170 (i32_of e9 (by decide))
                                                                                                    have zc176 : ¬ ((v39 &&& 63)).toInt = 20 := fun e9 => c176 (i32_of e9 (by decide))
                                                                                                    have zc182 : ¬ ((v39 &&& 63)).toInt = 21 := fun e9 => c182 (i32_of e9 (by decide))
                                                                                                    have zc187 : ¬ ((v39 &&& 63)).toInt = 22 := fun e9 => c187 (i32_of e9 (by decide))
                                                                                                    have zc193 : ¬ ((v39 &&& 63)).toInt = 23 := fun e9 => c193 (i32_of e9 (by decide))
                                                                                                    have zc197 : ¬ ((v39 &&& 63)).toInt = 24 := fun e9 => c197 (i32_of e9 (by decide))
                                                                                                    have zc203 : ¬ ((v39 &&& 63)).toInt = 25 := fun e9 => c203 (i32_of e9 (by decide))
                                                                                                    have zc209 : ¬ ((v39 &&& 63)).toInt = 26 := fun e9 => c209 (i32_of e9 (by decide))
                                                                                                    have zc215 : ¬ ((v39 &&& 63)).toInt = 27 := fun e9 => c215 (i32_of e9 (by decide))
                                                                                                    have zc223 : ¬ ((v39 &&& 63)).toInt = 28 := fun e9 => c223 (i32_of e9 (by decide))
                                                                                                    have zc229 : ¬ ((v39 &&& 63)).toInt = 29 := fun e9 => c229 (i32_of e9 (by decide))
                                                                                                    have zc233 : ¬ ((v39 &&& 63)).toInt = 30 := fun e9 => c233 (i32_of e9 (by decide))
                                                                                                    have zc241 : ¬ ((v39 &&& 63)).toInt = 31 := fun e9 => c241 (i32_of e9 (by decide))
                                                                                                    have zc244 : ¬ ((v39 &&& 63)).toInt = 32 := fun e9 => c244 (i32_of e9 (by decide))
                                                                                                    have zc247 : ¬ ((v39 &&& 63)).toInt = 33 := fun e9 => c247 (i32_of e9 (by decide))
                                                                                                    have zc253 : ¬ ((v39 &&& 63)).toInt = 34 := fun e9 => c253 (i32_of e9 (by decide))
                                                                                                    have zc261 : ¬ ((v39 &&& 63)).toInt = 35 := fun e9 => c261 (i32_of e9 (by decide))
                                                                                                    have zc269 : ¬ ((v39 &&& 63)).toInt = 36 := fun e9 => c269 (i32_of e9 (by decide))
                                                                                                    have zc279 : ¬ ((v39 &&& 63)).toInt = 37 := fun e9 => c279 (i32_of e9 (by decide))
                                                                                                    have zc287 : ¬ ((v39 &&& 63)).toInt = 38 := fun e9 => c287 (i32_of e9 (by decide))
                                                                                                    have zc291 : ¬ ((v39 &&& 63)).toInt = 39 := fun e9 => c291 (i32_of e9 (by decide))
                                                                                                    have zc297 : ¬ ((v39 &&& 63)).toInt = 40 := fun e9 => c297 (i32_of e9 (by decide))
                                                                                                    have zc301 : ¬ ((v39 &&& 63)).toInt = 41 := fun e9 => c301 (i32_of e9 (by decide))
                                                                                                    have zc305 : ¬ ((v39 &&& 63)).toInt = 42 := fun e9 => c305 (i32_of e9 (by decide))
                                                                                                    have zc309 : ¬ ((v39 &&& 63)).toInt = 43 := fun e9 => c309 (i32_of e9 (by decide))
                                                                                                    have zc315 : ¬ ((v39 &&& 63)).toInt = 44 := fun e9 => c315 (i32_of e9 (by decide))
                                                                                                    have zc319 : ¬ ((v39 &&& 63)).toInt = 45 := fun e9 => c319 (i32_of e9 (by decide))
                                                                                                    have zc323 : ¬ ((v39 &&& 63)).toInt = 46 := fun e9 => c323 (i32_of e9 (by decide))
                                                                                                    refine ex_tabOut (pc := 33) 1569 dL_law_33 (by omega) rfl ?_
                                                                                                    refine ex_iinc (pc := 1569) (x3 + 6) 3 [(3, .int (x3 + 6)), (0, .ref X.1), (1, .ref x1), (2, .ref x2)] dL_law_1569 rfl rfl (by decide) rfl ?_
                                                                                                    refine ex_goto (pc := 1572) 18 dL_law_1572 rfl ?_
                                                                                                    refine ex_sub (lo' := [(0, .ref X.1), (1, .ref x1), (2, .ref x2), (3, .int (x3 + 6))]) [1, 2, 3, 0] rfl ?_
                                                                                                    exact ih _ _ _ _ _  h
noncomputable def f_L_law_0 (X : XV) (M : Mem) : Option (Bool × Mem) :=
  (some (nwO M 10 9)).bind fun q329 =>
  (f_X10_init M.1 q329).bind fun q330 =>
  (some (nwO q330 11 37)).bind fun q331 =>
  (f_X11_init q330.1 q331).bind fun q332 =>
  f_L_law_18 X fu M.1 q330.1 0 q332
set_option maxHeartbeats 4000000 in
theorem t_L_law_0 {X : XV} {d : Nat} (hd : 124 ≤ d + 1) : ∀  (M : Mem) (res : Bool × Mem), f_L_law_0 X   M = some res → Ex X (d + 1) mL_law 0 [(0, .ref X.1)] [] M (some (.int (jz res.1))) res.2 := by
  intro  M res  h
  unfold f_L_law_0 at h
  obtain ⟨q329, eq329, h⟩ := ob_some h
  refine ex_nwO (pc := 0) eq329 dL_law_0 lwL_7 ?_
  refine ex_dup (pc := 3) dL_law_3 rfl ?_
  obtain ⟨q330, eq330, h⟩ := ob_some h
  refine ex_callI0v (pc := 4) dL_law_4 jX10_init lmL_9 jiX10_init rfl rfl (Nat.le_of_ble_eq_true rfl) (s_X10_init (by omega)  eq330) ?_
  refine ex_astore_n (pc := 7) [(1, .ref M.1), (0, .ref X.1)] dL_law_7 rfl (by decide) rfl ?_
  obtain ⟨q331, eq331, h⟩ := ob_some h
  refine ex_nwO (pc := 8) eq331 dL_law_8 lwL_10 ?_
  refine ex_dup (pc := 11) dL_law_11 rfl ?_
  obtain ⟨q332, eq332, h⟩ := ob_some h
  refine ex_callI0v (pc := 12) dL_law_12 jX11_init lmL_12 jiX11_init rfl rfl (Nat.le_of_ble_eq_true rfl) (s_X11_init (by omega)  eq332) ?_
  refine ex_astore_n (pc := 15) [(2, .ref q330.1), (1, .ref M.1), (0, .ref X.1)] dL_law_15 rfl (by decide) rfl ?_
  refine ex_iconst (pc := 16) 0 dL_law_16 rfl ?_
  refine ex_istore_n (pc := 17) [(3, .int 0), (2, .ref q330.1), (1, .ref M.1), (0, .ref X.1)] dL_law_17 rfl (by decide) rfl ?_
  refine ex_sub (lo' := [(0, .ref X.1), (1, .ref M.1), (2, .ref q330.1), (3, .int 0)]) [3, 2, 1, 0] rfl ?_
  exact t_L_law_18 hd  _ _ _ _ _ _  h
