noncomputable def f_X11_copy_2 (n0 : Nat) (x0 : Nat) (x1 : Nat) (x2 : Int32) (M : Mem) : Option (Mem) :=
  match n0 with
  | 0 => none
  | n + 1 =>
    if 4607 ≤ x2 then
    (some M)
    else
    ((rI M x0 x2).bind fun v2 =>
    (wI M x1 x2 v2).bind fun q3 =>
    f_X11_copy_2 n x0 x1 (x2 + 1) q3)
set_option maxHeartbeats 4000000 in
theorem t_X11_copy_2 {X : XV} {d : Nat} (hd : 1 ≤ d + 1) : ∀ (n : Nat) (x0 : Nat) (x1 : Nat) (x2 : Int32) (M : Mem) (res : Mem), f_X11_copy_2 n  x0 x1 x2 M = some res → Ex X (d + 1) mX11_copy 2 [(0, .ref x0), (1, .ref x1), (2, .int x2)] [] M none res := by
  intro n
  induction n with
  | zero =>
    intro x0 x1 x2 M res  h
    unfold f_X11_copy_2 at h
    cases h
  | succ n ih =>
    intro x0 x1 x2 M res  h
    unfold f_X11_copy_2 at h
    refine ex_iload_n (pc := 2) 2 dX11_copy_2 rfl rfl ?_
    refine ex_sipush (pc := 3) 4607 dX11_copy_3 (by decide) ?_
    by_cases c1 : 4607 ≤ x2
    · rw [if_pos c1] at h
      refine ex_icmp_ge_t (pc := 6) 21 dX11_copy_6 rfl c1 ?_
      cases h
      exact ex_return (pc := 21) dX11_copy_21
    · rw [if_neg c1] at h
      refine ex_icmp_ge_f (pc := 6) dX11_copy_6 21 rfl c1 ?_
      refine ex_aload_n (pc := 9) 1 dX11_copy_9 rfl rfl ?_
      refine ex_iload_n (pc := 10) 2 dX11_copy_10 rfl rfl ?_
      refine ex_aload_n (pc := 11) 0 dX11_copy_11 rfl rfl ?_
      refine ex_iload_n (pc := 12) 2 dX11_copy_12 rfl rfl ?_
      obtain ⟨v2, ev2, h⟩ := ob_some h
      refine ex_rI (pc := 13) ev2 dX11_copy_13 ?_
      obtain ⟨q3, eq3, h⟩ := ob_some h
      refine ex_wI (pc := 14) eq3 dX11_copy_14 ?_
      refine ex_iinc (pc := 15) (x2 + 1) 2 [(2, .int (x2 + 1)), (0, .ref x0), (1, .ref x1)] dX11_copy_15 rfl rfl (by decide) rfl ?_
      refine ex_goto (pc := 18) 2 dX11_copy_18 rfl ?_
      refine ex_sub (lo' := [(0, .ref x0), (1, .ref x1), (2, .int (x2 + 1))]) [1, 2, 0] rfl ?_
      exact ih _ _ _ _ _  h
noncomputable def f_X11_copy_0 (x0 : Nat) (x1 : Nat) (M : Mem) : Option (Mem) :=
  f_X11_copy_2 fu x0 x1 0 M
set_option maxHeartbeats 4000000 in
theorem t_X11_copy_0 {X : XV} {d : Nat} (hd : 1 ≤ d + 1) : ∀ (x0 : Nat) (x1 : Nat) (M : Mem) (res : Mem), f_X11_copy_0  x0 x1 M = some res → Ex X (d + 1) mX11_copy 0 [(0, .ref x0), (1, .ref x1)] [] M none res := by
  intro x0 x1 M res  h
  unfold f_X11_copy_0 at h
  refine ex_iconst (pc := 0) 0 dX11_copy_0 rfl ?_
  refine ex_istore_n (pc := 1) [(2, .int 0), (0, .ref x0), (1, .ref x1)] dX11_copy_1 rfl (by decide) rfl ?_
  refine ex_sub (lo' := [(0, .ref x0), (1, .ref x1), (2, .int 0)]) [1, 2, 0] rfl ?_
  exact t_X11_copy_2 hd  _ _ _ _ _ _  h
noncomputable def f_X11_copy (x0 : Nat) (x1 : Nat) (M : Mem) : Option (Mem) := f_X11_copy_0 x0 x1 M
set_option maxHeartbeats 4000000 in
theorem s_X11_copy {X : XV} {d : Nat} (hd : 1 ≤ d) {x0 : Nat} {x1 : Nat} {M : Mem} {res : Mem} (h : f_X11_copy x0 x1 M = some res) : Mx X d mX11_copy [.ref x0, .ref x1] M none res := by
  obtain ⟨d, rfl⟩ : ∃ e, d = e + 1 := ⟨d - 1, by omega⟩
  unfold f_X11_copy at h
  refine Mx.of (by decide) (Nat.le_of_ble_eq_true rfl) (rfl) ?_
  exact ex_sub (lo' := [(0, .ref x0), (1, .ref x1)]) [0, 1] rfl (t_X11_copy_0 hd _ _ _ _  h)
noncomputable def f_X11_init_204 (n0 : Nat) (x0 : Nat) (x1 : Int32) (M : Mem) : Option (Mem) :=
  match n0 with
  | 0 => none
  | n + 1 =>
    if 10 ≤ x1 then
    ((gR M 11 x0 0).bind fun v2 =>
    (gR M 11 x0 1).bind fun v3 =>
    (f_X11_copy v2 v3 M).bind fun q4 =>
    some q4)
    else
    ((gR M 11 x0 0).bind fun v5 =>
    (wI M v5 (101 + (2 * x1)) (x1 + 1)).bind fun q6 =>
    (gR q6 11 x0 0).bind fun v7 =>
    (wI q6 v7 ((101 + (2 * x1)) + 1) (11 + (11 * x1))).bind fun q8 =>
    f_X11_init_204 n x0 (x1 + 1) q8)
set_option maxHeartbeats 4000000 in
theorem t_X11_init_204 {X : XV} {d : Nat} (hd : 2 ≤ d + 1) : ∀ (n : Nat) (x0 : Nat) (x1 : Int32) (M : Mem) (res : Mem), f_X11_init_204 n  x0 x1 M = some res → Ex X (d + 1) mX11_init 204 [(0, .ref x0), (1, .int x1)] [] M none res := by
  intro n
  induction n with
  | zero =>
    intro x0 x1 M res  h
    unfold f_X11_init_204 at h
    cases h
  | succ n ih =>
    intro x0 x1 M res  h
    unfold f_X11_init_204 at h
    refine ex_iload_n (pc := 204) 1 dX11_init_204 rfl rfl ?_
    refine ex_bipush (pc := 205) 10 dX11_init_205 (by decide) ?_
    by_cases c1 : 10 ≤ x1
    · rw [if_pos c1] at h
      refine ex_icmp_ge_t (pc := 207) 250 dX11_init_207 rfl c1 ?_
      refine ex_aload_n (pc := 250) 0 dX11_init_250 rfl rfl ?_
      obtain ⟨v2, ev2, h⟩ := ob_some h
      refine ex_gR (pc := 251) ev2 dX11_init_251 lfX11_7 ?_
      refine ex_aload_n (pc := 254) 0 dX11_init_254 rfl rfl ?_
      obtain ⟨v3, ev3, h⟩ := ob_some h
      refine ex_gR (pc := 255) ev3 dX11_init_255 lfX11_13 ?_
      obtain ⟨q4, eq4, h⟩ := ob_some h
      refine ex_callS2v (pc := 258) dX11_init_258 jX11_copy lmX11_83 jsX11_copy (Nat.le_of_ble_eq_true rfl) (s_X11_copy (by omega)  eq4) ?_
      cases h
      exact ex_return (pc := 261) dX11_init_261
    · rw [if_neg c1] at h
      refine ex_icmp_ge_f (pc := 207) dX11_init_207 250 rfl c1 ?_
      refine ex_aload_n (pc := 210) 0 dX11_init_210 rfl rfl ?_
      obtain ⟨v5, ev5, h⟩ := ob_some h
      refine ex_gR (pc := 211) ev5 dX11_init_211 lfX11_7 ?_
      refine ex_bipush (pc := 214) 101 dX11_init_214 (by decide) ?_
      refine ex_iconst (pc := 216) 2 dX11_init_216 rfl ?_
      refine ex_iload_n (pc := 217) 1 dX11_init_217 rfl rfl ?_
      refine ex_imul (pc := 218) dX11_init_218 ?_
      refine ex_iadd (pc := 219) dX11_init_219 ?_
      refine ex_iload_n (pc := 220) 1 dX11_init_220 rfl rfl ?_
      refine ex_iconst (pc := 221) 1 dX11_init_221 rfl ?_
      refine ex_iadd (pc := 222) dX11_init_222 ?_
      obtain ⟨q6, eq6, h⟩ := ob_some h
      refine ex_wI (pc := 223) eq6 dX11_init_223 ?_
      refine ex_aload_n (pc := 224) 0 dX11_init_224 rfl rfl ?_
      obtain ⟨v7, ev7, h⟩ := ob_some h
      refine ex_gR (pc := 225) ev7 dX11_init_225 lfX11_7 ?_
      refine ex_bipush (pc := 228) 101 dX11_init_228 (by decide) ?_
      refine ex_iconst (pc := 230) 2 dX11_init_230 rfl ?_
      refine ex_iload_n (pc := 231) 1 dX11_init_231 rfl rfl ?_
      refine ex_imul (pc := 232) dX11_init_232 ?_
      refine ex_iadd (pc := 233) dX11_init_233 ?_
      refine ex_iconst (pc := 234) 1 dX11_init_234 rfl ?_
      refine ex_iadd (pc := 235) dX11_init_235 ?_
      refine ex_bipush (pc := 236) 11 dX11_init_236 (by decide) ?_
      refine ex_bipush (pc := 238) 11 dX11_init_238 (by decide) ?_
      refine ex_iload_n (pc := 240) 1 dX11_init_240 rfl rfl ?_
      refine ex_imul (pc := 241) dX11_init_241 ?_
      refine ex_iadd (pc := 242) dX11_init_242 ?_
      obtain ⟨q8, eq8, h⟩ := ob_some h
      refine ex_wI (pc := 243) eq8 dX11_init_243 ?_
      refine ex_iinc (pc := 244) (x1 + 1) 1 [(1, .int (x1 + 1)), (0, .ref x0)] dX11_init_244 rfl rfl (by decide) rfl ?_
      refine ex_goto (pc := 247) 204 dX11_init_247 rfl ?_
      refine ex_sub (lo' := [(0, .ref x0), (1, .int (x1 + 1))]) [1, 0] rfl ?_
      exact ih _ _ _ _  h
noncomputable def f_X11_init_0 (x0 : Nat) (M : Mem) : Option (Mem) :=
  (nwI M 4607).bind fun q9 =>
  (pF q9 11 x0 0 (.ref M.1)).bind fun q10 =>
  (nwI q10 4607).bind fun q11 =>
  (pF q11 11 x0 1 (.ref q10.1)).bind fun q12 =>
  (nwI q12 2820).bind fun q13 =>
  (pF q13 11 x0 2 (.ref q12.1)).bind fun q14 =>
  (nwI q14 300).bind fun q15 =>
  (pF q15 11 x0 3 (.ref q14.1)).bind fun q16 =>
  (pF q16 11 x0 5 (.int (-1))).bind fun q17 =>
  (pF q17 11 x0 6 (.int (-1))).bind fun q18 =>
  (nwI q18 160).bind fun q19 =>
  (pF q19 11 x0 15 (.ref q18.1)).bind fun q20 =>
  (nwI q20 8).bind fun q21 =>
  (pF q21 11 x0 20 (.ref q20.1)).bind fun q22 =>
  (nwL q22 330).bind fun q23 =>
  (pF q23 11 x0 21 (.ref q22.1)).bind fun q24 =>
  (nwZ q24 330).bind fun q25 =>
  (pF q25 11 x0 22 (.ref q24.1)).bind fun q26 =>
  (pF q26 11 x0 23 (.int (jz true))).bind fun q27 =>
  (nwI q27 101).bind fun q28 =>
  (pF q28 11 x0 25 (.ref q27.1)).bind fun q29 =>
  (nwL q29 13).bind fun q30 =>
  (pF q30 11 x0 26 (.ref q29.1)).bind fun q31 =>
  (nwL q31 13).bind fun q32 =>
  (pF q32 11 x0 27 (.ref q31.1)).bind fun q33 =>
  (nwI q33 13).bind fun q34 =>
  (pF q34 11 x0 28 (.ref q33.1)).bind fun q35 =>
  (nwI q35 12).bind fun q36 =>
  (pF q36 11 x0 29 (.ref q35.1)).bind fun q37 =>
  (nwI q37 169).bind fun q38 =>
  (pF q38 11 x0 30 (.ref q37.1)).bind fun q39 =>
  (nwI q39 10).bind fun q40 =>
  (pF q40 11 x0 31 (.ref q39.1)).bind fun q41 =>
  (nwI q41 10).bind fun q42 =>
  (pF q42 11 x0 32 (.ref q41.1)).bind fun q43 =>
  (nwI q43 5).bind fun q44 =>
  (pF q44 11 x0 33 (.ref q43.1)).bind fun q45 =>
  (nwI q45 5).bind fun q46 =>
  (pF q46 11 x0 34 (.ref q45.1)).bind fun q47 =>
  (nwI q47 8).bind fun q48 =>
  (pF q48 11 x0 35 (.ref q47.1)).bind fun q49 =>
  (nwI q49 8).bind fun q50 =>
  (pF q50 11 x0 36 (.ref q49.1)).bind fun q51 =>
  (gR q51 11 x0 0).bind fun v52 =>
  (wI q51 v52 9 193).bind fun q53 =>
  (gR q53 11 x0 0).bind fun v54 =>
  (wI q53 v54 2 (-1)).bind fun q55 =>
  f_X11_init_204 fu x0 0 q55
set_option maxHeartbeats 4000000 in
theorem t_X11_init_0 {X : XV} {d : Nat} (hd : 2 ≤ d + 1) : ∀ (x0 : Nat) (M : Mem) (res : Mem), f_X11_init_0  x0 M = some res → Ex X (d + 1) mX11_init 0 [(0, .ref x0)] [] M none res := by
  intro x0 M res  h
  unfold f_X11_init_0 at h
  refine ex_aload_n (pc := 0) 0 dX11_init_0 rfl rfl ?_
  refine ex_obj (pc := 1) dX11_init_1 lmX11_1 (by omega) (Nat.le_of_ble_eq_true rfl) ?_
  refine ex_aload_n (pc := 4) 0 dX11_init_4 rfl rfl ?_
  refine ex_sipush (pc := 5) 4607 dX11_init_5 (by decide) ?_
  obtain ⟨q9, eq9, h⟩ := ob_some h
  refine ex_nwI (pc := 8) eq9 dX11_init_8 ?_
  obtain ⟨q10, eq10, h⟩ := ob_some h
  refine ex_pFF (pc := 10) eq10 dX11_init_10 lfX11_7 rfl rfl (fun _ hq => by cases hq; exact ⟨rfl, rfl⟩) rfl ?_
  refine ex_aload_n (pc := 13) 0 dX11_init_13 rfl rfl ?_
  refine ex_sipush (pc := 14) 4607 dX11_init_14 (by decide) ?_
  obtain ⟨q11, eq11, h⟩ := ob_some h
  refine ex_nwI (pc := 17) eq11 dX11_init_17 ?_
  obtain ⟨q12, eq12, h⟩ := ob_some h
  refine ex_pFF (pc := 19) eq12 dX11_init_19 lfX11_13 rfl rfl (fun _ hq => by cases hq; exact ⟨rfl, rfl⟩) rfl ?_
  refine ex_aload_n (pc := 22) 0 dX11_init_22 rfl rfl ?_
  refine ex_sipush (pc := 23) 2820 dX11_init_23 (by decide) ?_
  obtain ⟨q13, eq13, h⟩ := ob_some h
  refine ex_nwI (pc := 26) eq13 dX11_init_26 ?_
  obtain ⟨q14, eq14, h⟩ := ob_some h
  refine ex_pFF (pc := 28) eq14 dX11_init_28 lfX11_16 rfl rfl (fun _ hq => by cases hq; exact ⟨rfl, rfl⟩) rfl ?_
  refine ex_aload_n (pc := 31) 0 dX11_init_31 rfl rfl ?_
  refine ex_sipush (pc := 32) 300 dX11_init_32 (by decide) ?_
  obtain ⟨q15, eq15, h⟩ := ob_some h
  refine ex_nwI (pc := 35) eq15 dX11_init_35 ?_
  obtain ⟨q16, eq16, h⟩ := ob_some h
  refine ex_pFF (pc := 37) eq16 dX11_init_37 lfX11_19 rfl rfl (fun _ hq => by cases hq; exact ⟨rfl, rfl⟩) rfl ?_
  refine ex_aload_n (pc := 40) 0 dX11_init_40 rfl rfl ?_
  refine ex_iconst (pc := 41) (-1) dX11_init_41 rfl ?_
  obtain ⟨q17, eq17, h⟩ := ob_some h
  refine ex_pF (pc := 42) eq17 dX11_init_42 lfX11_22 rfl rfl (fun _ hq => by cases hq; rfl) ?_
  refine ex_aload_n (pc := 45) 0 dX11_init_45 rfl rfl ?_
  refine ex_iconst (pc := 46) (-1) dX11_init_46 rfl ?_
  obtain ⟨q18, eq18, h⟩ := ob_some h
  refine ex_pF (pc := 47) eq18 dX11_init_47 lfX11_26 rfl rfl (fun _ hq => by cases hq; rfl) ?_
  refine ex_aload_n (pc := 50) 0 dX11_init_50 rfl rfl ?_
  refine ex_sipush (pc := 51) 160 dX11_init_51 (by decide) ?_
  obtain ⟨q19, eq19, h⟩ := ob_some h
  refine ex_nwI (pc := 54) eq19 dX11_init_54 ?_
  obtain ⟨q20, eq20, h⟩ := ob_some h
  refine ex_pFF (pc := 56) eq20 dX11_init_56 lfX11_29 rfl rfl (fun _ hq => by cases hq; exact ⟨rfl, rfl⟩) rfl ?_
  refine ex_aload_n (pc := 59) 0 dX11_init_59 rfl rfl ?_
  refine ex_bipush (pc := 60) 8 dX11_init_60 (by decide) ?_
  obtain ⟨q21, eq21, h⟩ := ob_some h
  refine ex_nwI (pc := 62) eq21 dX11_init_62 ?_
  obtain ⟨q22, eq22, h⟩ := ob_some h
  refine ex_pFF (pc := 64) eq22 dX11_init_64 lfX11_32 rfl rfl (fun _ hq => by cases hq; exact ⟨rfl, rfl⟩) rfl ?_
  refine ex_aload_n (pc := 67) 0 dX11_init_67 rfl rfl ?_
  refine ex_sipush (pc := 68) 330 dX11_init_68 (by decide) ?_
  obtain ⟨q23, eq23, h⟩ := ob_some h
  refine ex_nwL (pc := 71) eq23 dX11_init_71 ?_
  obtain ⟨q24, eq24, h⟩ := ob_some h
  refine ex_pFF (pc := 73) eq24 dX11_init_73 lfX11_35 rfl rfl (fun _ hq => by cases hq; exact ⟨rfl, rfl⟩) rfl ?_
  refine ex_aload_n (pc := 76) 0 dX11_init_76 rfl rfl ?_
  refine ex_sipush (pc := 77) 330 dX11_init_77 (by decide) ?_
  obtain ⟨q25, eq25, h⟩ := ob_some h
  refine ex_nwZ (pc := 80) eq25 dX11_init_80 ?_
  obtain ⟨q26, eq26, h⟩ := ob_some h
  refine ex_pFF (pc := 82) eq26 dX11_init_82 lfX11_39 rfl rfl (fun _ hq => by cases hq; exact ⟨rfl, rfl⟩) rfl ?_
  refine ex_aload_n (pc := 85) 0 dX11_init_85 rfl rfl ?_
  refine ex_iconst (pc := 86) 1 dX11_init_86 rfl ?_
  obtain ⟨q27, eq27, h⟩ := ob_some h
  refine ex_pF (pc := 87) eq27 dX11_init_87 lfX11_43 (jz_nar true) (jz_fit true) (fun _ hq => by cases hq; rfl) ?_
  refine ex_aload_n (pc := 90) 0 dX11_init_90 rfl rfl ?_
  refine ex_bipush (pc := 91) 101 dX11_init_91 (by decide) ?_
  obtain ⟨q28, eq28, h⟩ := ob_some h
  refine ex_nwI (pc := 93) eq28 dX11_init_93 ?_
  obtain ⟨q29, eq29, h⟩ := ob_some h
  refine ex_pFF (pc := 95) eq29 dX11_init_95 lfX11_47 rfl rfl (fun _ hq => by cases hq; exact ⟨rfl, rfl⟩) rfl ?_
  refine ex_aload_n (pc := 98) 0 dX11_init_98 rfl rfl ?_
  refine ex_bipush (pc := 99) 13 dX11_init_99 (by decide) ?_
  obtain ⟨q30, eq30, h⟩ := ob_some h
  refine ex_nwL (pc := 101) eq30 dX11_init_101 ?_
  obtain ⟨q31, eq31, h⟩ := ob_some h
  refine ex_pFF (pc := 103) eq31 dX11_init_103 lfX11_50 rfl rfl (fun _ hq => by cases hq; exact ⟨rfl, rfl⟩) rfl ?_
  refine ex_aload_n (pc := 106) 0 dX11_init_106 rfl rfl ?_
  refine ex_bipush (pc := 107) 13 dX11_init_107 (by decide) ?_
  obtain ⟨q32, eq32, h⟩ := ob_some h
  refine ex_nwL (pc := 109) eq32 dX11_init_109 ?_
  obtain ⟨q33, eq33, h⟩ := ob_some h
  refine ex_pFF (pc := 111) eq33 dX11_init_111 lfX11_53 rfl rfl (fun _ hq => by cases hq; exact ⟨rfl, rfl⟩) rfl ?_
  refine ex_aload_n (pc := 114) 0 dX11_init_114 rfl rfl ?_
  refine ex_bipush (pc := 115) 13 dX11_init_115 (by decide) ?_
  obtain ⟨q34, eq34, h⟩ := ob_some h
  refine ex_nwI (pc := 117) eq34 dX11_init_117 ?_
  obtain ⟨q35, eq35, h⟩ := ob_some h
  refine ex_pFF (pc := 119) eq35 dX11_init_119 lfX11_56 rfl rfl (fun _ hq => by cases hq; exact ⟨rfl, rfl⟩) rfl ?_
  refine ex_aload_n (pc := 122) 0 dX11_init_122 rfl rfl ?_
  refine ex_bipush (pc := 123) 12 dX11_init_123 (by decide) ?_
  obtain ⟨q36, eq36, h⟩ := ob_some h
  refine ex_nwI (pc := 125) eq36 dX11_init_125 ?_
  obtain ⟨q37, eq37, h⟩ := ob_some h
  refine ex_pFF (pc := 127) eq37 dX11_init_127 lfX11_59 rfl rfl (fun _ hq => by cases hq; exact ⟨rfl, rfl⟩) rfl ?_
  refine ex_aload_n (pc := 130) 0 dX11_init_130 rfl rfl ?_
  refine ex_sipush (pc := 131) 169 dX11_init_131 (by decide) ?_
  obtain ⟨q38, eq38, h⟩ := ob_some h
  refine ex_nwI (pc := 134) eq38 dX11_init_134 ?_
  obtain ⟨q39, eq39, h⟩ := ob_some h
  refine ex_pFF (pc := 136) eq39 dX11_init_136 lfX11_62 rfl rfl (fun _ hq => by cases hq; exact ⟨rfl, rfl⟩) rfl ?_
  refine ex_aload_n (pc := 139) 0 dX11_init_139 rfl rfl ?_
  refine ex_bipush (pc := 140) 10 dX11_init_140 (by decide) ?_
  obtain ⟨q40, eq40, h⟩ := ob_some h
  refine ex_nwI (pc := 142) eq40 dX11_init_142 ?_
  obtain ⟨q41, eq41, h⟩ := ob_some h
  refine ex_pFF (pc := 144) eq41 dX11_init_144 lfX11_65 rfl rfl (fun _ hq => by cases hq; exact ⟨rfl, rfl⟩) rfl ?_
  refine ex_aload_n (pc := 147) 0 dX11_init_147 rfl rfl ?_
  refine ex_bipush (pc := 148) 10 dX11_init_148 (by decide) ?_
  obtain ⟨q42, eq42, h⟩ := ob_some h
  refine ex_nwI (pc := 150) eq42 dX11_init_150 ?_
  obtain ⟨q43, eq43, h⟩ := ob_some h
  refine ex_pFF (pc := 152) eq43 dX11_init_152 lfX11_68 rfl rfl (fun _ hq => by cases hq; exact ⟨rfl, rfl⟩) rfl ?_
  refine ex_aload_n (pc := 155) 0 dX11_init_155 rfl rfl ?_
  refine ex_iconst (pc := 156) 5 dX11_init_156 rfl ?_
  obtain ⟨q44, eq44, h⟩ := ob_some h
  refine ex_nwI (pc := 157) eq44 dX11_init_157 ?_
  obtain ⟨q45, eq45, h⟩ := ob_some h
  refine ex_pFF (pc := 159) eq45 dX11_init_159 lfX11_71 rfl rfl (fun _ hq => by cases hq; exact ⟨rfl, rfl⟩) rfl ?_
  refine ex_aload_n (pc := 162) 0 dX11_init_162 rfl rfl ?_
  refine ex_iconst (pc := 163) 5 dX11_init_163 rfl ?_
  obtain ⟨q46, eq46, h⟩ := ob_some h
  refine ex_nwI (pc := 164) eq46 dX11_init_164 ?_
  obtain ⟨q47, eq47, h⟩ := ob_some h
  refine ex_pFF (pc := 166) eq47 dX11_init_166 lfX11_74 rfl rfl (fun _ hq => by cases hq; exact ⟨rfl, rfl⟩) rfl ?_
  refine ex_aload_n (pc := 169) 0 dX11_init_169 rfl rfl ?_
  refine ex_bipush (pc := 170) 8 dX11_init_170 (by decide) ?_
  obtain ⟨q48, eq48, h⟩ := ob_some h
  refine ex_nwI (pc := 172) eq48 dX11_init_172 ?_
  obtain ⟨q49, eq49, h⟩ := ob_some h
  refine ex_pFF (pc := 174) eq49 dX11_init_174 lfX11_77 rfl rfl (fun _ hq => by cases hq; exact ⟨rfl, rfl⟩) rfl ?_
  refine ex_aload_n (pc := 177) 0 dX11_init_177 rfl rfl ?_
  refine ex_bipush (pc := 178) 8 dX11_init_178 (by decide) ?_
  obtain ⟨q50, eq50, h⟩ := ob_some h
  refine ex_nwI (pc := 180) eq50 dX11_init_180 ?_
  obtain ⟨q51, eq51, h⟩ := ob_some h
  refine ex_pFF (pc := 182) eq51 dX11_init_182 lfX11_80 rfl rfl (fun _ hq => by cases hq; exact ⟨rfl, rfl⟩) rfl ?_
  refine ex_aload_n (pc := 185) 0 dX11_init_185 rfl rfl ?_
  obtain ⟨v52, ev52, h⟩ := ob_some h
  refine ex_gR (pc := 186) ev52 dX11_init_186 lfX11_7 ?_
  refine ex_bipush (pc := 189) 9 dX11_init_189 (by decide) ?_
  refine ex_sipush (pc := 191) 193 dX11_init_191 (by decide) ?_
  obtain ⟨q53, eq53, h⟩ := ob_some h
  refine ex_wI (pc := 194) eq53 dX11_init_194 ?_
  refine ex_aload_n (pc := 195) 0 dX11_init_195 rfl rfl ?_
  obtain ⟨v54, ev54, h⟩ := ob_some h
  refine ex_gR (pc := 196) ev54 dX11_init_196 lfX11_7 ?_
  refine ex_iconst (pc := 199) 2 dX11_init_199 rfl ?_
  refine ex_iconst (pc := 200) (-1) dX11_init_200 rfl ?_
  obtain ⟨q55, eq55, h⟩ := ob_some h
  refine ex_wI (pc := 201) eq55 dX11_init_201 ?_
  refine ex_iconst (pc := 202) 0 dX11_init_202 rfl ?_
  refine ex_istore_n (pc := 203) [(1, .int 0), (0, .ref x0)] dX11_init_203 rfl (by decide) rfl ?_
  refine ex_sub (lo' := [(0, .ref x0), (1, .int 0)]) [1, 0] rfl ?_
  exact t_X11_init_204 hd  _ _ _ _ _  h
noncomputable def f_X11_init (x0 : Nat) (M : Mem) : Option (Mem) := f_X11_init_0 x0 M
set_option maxHeartbeats 4000000 in
theorem s_X11_init {X : XV} {d : Nat} (hd : 2 ≤ d) {x0 : Nat} {M : Mem} {res : Mem} (h : f_X11_init x0 M = some res) : Mx X d mX11_init [.ref x0] M none res := by
  obtain ⟨d, rfl⟩ : ∃ e, d = e + 1 := ⟨d - 1, by omega⟩
  unfold f_X11_init at h
  refine Mx.of (by decide) (Nat.le_of_ble_eq_true rfl) (rfl) ?_
  exact ex_sub (lo' := [(0, .ref x0)]) [0] rfl (t_X11_init_0 hd _ _ _  h)
noncomputable def f_X11_isIn_0 (x0 : Int32) (x1 : Int32) (x2 : Int32) : Option (Bool) :=
  if x0 < x1 then
  (some false)
  else
  (if x2 < x0 then
  (some false)
  else
  (some true))
set_option maxHeartbeats 4000000 in
theorem t_X11_isIn_0 {X : XV} {d : Nat} {M : Mem} (hd : 1 ≤ d + 1) : ∀ (x0 : Int32) (x1 : Int32) (x2 : Int32) (res : Bool), f_X11_isIn_0  x0 x1 x2 = some res → Ex X (d + 1) mX11_isIn 0 [(0, .int x0), (1, .int x1), (2, .int x2)] [] M (some (.int (jz res))) M := by
  intro x0 x1 x2 res  h
  unfold f_X11_isIn_0 at h
  refine ex_iload_n (pc := 0) 0 dX11_isIn_0 rfl rfl ?_
  refine ex_iload_n (pc := 1) 1 dX11_isIn_1 rfl rfl ?_
  by_cases c1 : x0 < x1
  · rw [if_pos c1] at h
    refine ex_icmp_lt_t (pc := 2) 14 dX11_isIn_2 rfl c1 ?_
    refine ex_iconst (pc := 14) 0 dX11_isIn_14 rfl ?_
    cases h
    exact ex_ireturn (pc := 15) dX11_isIn_15
  · rw [if_neg c1] at h
    refine ex_icmp_lt_f (pc := 2) dX11_isIn_2 14 rfl c1 ?_
    refine ex_iload_n (pc := 5) 0 dX11_isIn_5 rfl rfl ?_
    refine ex_iload_n (pc := 6) 2 dX11_isIn_6 rfl rfl ?_
    by_cases c2 : x2 < x0
    · rw [if_pos c2] at h
      refine ex_icmp_gt_t (pc := 7) 14 dX11_isIn_7 rfl c2 ?_
      refine ex_iconst (pc := 14) 0 dX11_isIn_14 rfl ?_
      cases h
      exact ex_ireturn (pc := 15) dX11_isIn_15
    · rw [if_neg c2] at h
      refine ex_icmp_gt_f (pc := 7) dX11_isIn_7 14 rfl c2 ?_
      refine ex_iconst (pc := 10) 1 dX11_isIn_10 rfl ?_
      refine ex_goto (pc := 11) 15 dX11_isIn_11 rfl ?_
      cases h
      exact ex_ireturn (pc := 15) dX11_isIn_15
noncomputable def f_X11_isIn (x0 : Int32) (x1 : Int32) (x2 : Int32) : Option (Bool) := f_X11_isIn_0 x0 x1 x2
set_option maxHeartbeats 4000000 in
theorem s_X11_isIn {X : XV} {d : Nat} (hd : 1 ≤ d) {x0 : Int32} {x1 : Int32} {x2 : Int32} {M : Mem} {res : Bool} (h : f_X11_isIn x0 x1 x2 = some res) : Mx X d mX11_isIn [.int x0, .int x1, .int x2] M (some (.int (jz res))) M := by
  obtain ⟨d, rfl⟩ : ∃ e, d = e + 1 := ⟨d - 1, by omega⟩
  unfold f_X11_isIn at h
  refine Mx.of (by decide) (Nat.le_of_ble_eq_true rfl) (⟨_, rfl, jz_nar _⟩) ?_
  exact ex_sub (lo' := [(0, .int x0), (1, .int x1), (2, .int x2)]) [0, 1, 2] rfl (t_X11_isIn_0 hd _ _ _ _  h)
noncomputable def f_X11_cut_0 (x0 : Int64) (x2 : Int32) (x3 : Int32) : Option (Int32) :=
  if 0 ≤ (lg_cmp x0 (Int32.toInt64 x2)) then
  (if (lg_cmp x0 (Int32.toInt64 x3)) ≤ 0 then
  (some (Int64.toInt32 x0))
  else
  (some x3))
  else
  (some x2)
set_option maxHeartbeats 4000000 in
theorem t_X11_cut_0 {X : XV} {d : Nat} {M : Mem} (hd : 1 ≤ d + 1) : ∀ (x0 : Int64) (x2 : Int32) (x3 : Int32) (res : Int32), f_X11_cut_0  x0 x2 x3 = some res → Ex X (d + 1) mX11_cut 0 [(0, .long x0), (2, .int x2), (3, .int x3)] [] M (some (.int res)) M := by
  intro x0 x2 x3 res  h
  unfold f_X11_cut_0 at h
  refine ex_lload_n (pc := 0) 0 dX11_cut_0 rfl rfl ?_
  refine ex_iload_n (pc := 1) 1 dX11_cut_1 rfl rfl ?_
  refine ex_i2l (pc := 2) dX11_cut_2 ?_
  refine ex_lcmp (pc := 3) dX11_cut_3 ?_
  by_cases c1 : 0 ≤ (lg_cmp x0 (Int32.toInt64 x2))
  · rw [if_pos c1] at h
    refine ex_if_ge_t (pc := 4) 11 dX11_cut_4 rfl c1 ?_
    refine ex_lload_n (pc := 11) 0 dX11_cut_11 rfl rfl ?_
    refine ex_iload_n (pc := 12) 2 dX11_cut_12 rfl rfl ?_
    refine ex_i2l (pc := 13) dX11_cut_13 ?_
    refine ex_lcmp (pc := 14) dX11_cut_14 ?_
    by_cases c2 : (lg_cmp x0 (Int32.toInt64 x3)) ≤ 0
    · rw [if_pos c2] at h
      refine ex_if_le_t (pc := 15) 22 dX11_cut_15 rfl c2 ?_
      refine ex_lload_n (pc := 22) 0 dX11_cut_22 rfl rfl ?_
      refine ex_l2i (pc := 23) dX11_cut_23 ?_
      cases h
      exact ex_ireturn (pc := 24) dX11_cut_24
    · rw [if_neg c2] at h
      refine ex_if_le_f (pc := 15) dX11_cut_15 22 rfl c2 ?_
      refine ex_iload_n (pc := 18) 2 dX11_cut_18 rfl rfl ?_
      refine ex_goto (pc := 19) 24 dX11_cut_19 rfl ?_
      cases h
      exact ex_ireturn (pc := 24) dX11_cut_24
  · rw [if_neg c1] at h
    refine ex_if_ge_f (pc := 4) dX11_cut_4 11 rfl c1 ?_
    refine ex_iload_n (pc := 7) 1 dX11_cut_7 rfl rfl ?_
    refine ex_goto (pc := 8) 24 dX11_cut_8 rfl ?_
    cases h
    exact ex_ireturn (pc := 24) dX11_cut_24
noncomputable def f_X11_cut (x0 : Int64) (x2 : Int32) (x3 : Int32) : Option (Int32) := f_X11_cut_0 x0 x2 x3
set_option maxHeartbeats 4000000 in
theorem s_X11_cut {X : XV} {d : Nat} (hd : 1 ≤ d) {x0 : Int64} {x2 : Int32} {x3 : Int32} {M : Mem} {res : Int32} (h : f_X11_cut x0 x2 x3 = some res) : Mx X d mX11_cut [.long x0, .int x2, .int x3] M (some (.int res)) M := by
  obtain ⟨d, rfl⟩ : ∃ e, d = e + 1 := ⟨d - 1, by omega⟩
  unfold f_X11_cut at h
  refine Mx.of (by decide) (Nat.le_of_ble_eq_true rfl) (⟨_, rfl, rfl⟩) ?_
  exact ex_sub (lo' := [(0, .long x0), (2, .int x2), (3, .int x3)]) [0, 1, 2] rfl (t_X11_cut_0 hd _ _ _ _  h)
noncomputable def f_X11_has_0 (x0 : Int32) (x1 : Int32) : Option (Bool) :=
  if ((jshr x0 x1) &&& 1) = 1 then
  (some true)
  else
  (some false)
set_option maxHeartbeats 4000000 in
theorem t_X11_has_0 {X : XV} {d : Nat} {M : Mem} (hd : 1 ≤ d + 1) : ∀ (x0 : Int32) (x1 : Int32) (res : Bool), f_X11_has_0  x0 x1 = some res → Ex X (d + 1) mX11_has 0 [(0, .int x0), (1, .int x1)] [] M (some (.int (jz res))) M := by
  intro x0 x1 res  h
  unfold f_X11_has_0 at h
  refine ex_iload_n (pc := 0) 0 dX11_has_0 rfl rfl ?_
  refine ex_iload_n (pc := 1) 1 dX11_has_1 rfl rfl ?_
  refine ex_ishr (pc := 2) dX11_has_2 ?_
  refine ex_iconst (pc := 3) 1 dX11_has_3 rfl ?_
  refine ex_iand (pc := 4) dX11_has_4 ?_
  refine ex_iconst (pc := 5) 1 dX11_has_5 rfl ?_
  by_cases c1 : ((jshr x0 x1) &&& 1) = 1
  · rw [if_pos c1] at h
    refine ex_icmp_ne_f (pc := 6) dX11_has_6 13 rfl c1 ?_
    refine ex_iconst (pc := 9) 1 dX11_has_9 rfl ?_
    refine ex_goto (pc := 10) 14 dX11_has_10 rfl ?_
    cases h
    exact ex_ireturn (pc := 14) dX11_has_14
  · rw [if_neg c1] at h
    refine ex_icmp_ne_t (pc := 6) 13 dX11_has_6 rfl c1 ?_
    refine ex_iconst (pc := 13) 0 dX11_has_13 rfl ?_
    cases h
    exact ex_ireturn (pc := 14) dX11_has_14
noncomputable def f_X11_has (x0 : Int32) (x1 : Int32) : Option (Bool) := f_X11_has_0 x0 x1
set_option maxHeartbeats 4000000 in
theorem s_X11_has {X : XV} {d : Nat} (hd : 1 ≤ d) {x0 : Int32} {x1 : Int32} {M : Mem} {res : Bool} (h : f_X11_has x0 x1 = some res) : Mx X d mX11_has [.int x0, .int x1] M (some (.int (jz res))) M := by
  obtain ⟨d, rfl⟩ : ∃ e, d = e + 1 := ⟨d - 1, by omega⟩
  unfold f_X11_has at h
  refine Mx.of (by decide) (Nat.le_of_ble_eq_true rfl) (⟨_, rfl, jz_nar _⟩) ?_
  exact ex_sub (lo' := [(0, .int x0), (1, .int x1)]) [0, 1] rfl (t_X11_has_0 hd _ _ _  h)
noncomputable def f_X11_bits_4 (n0 : Nat) (x1 : Int32) (x2 : Int32) : Option (Int32) :=
  match n0 with
  | 0 => none
  | n + 1 =>
    if x2 = 0 then
    (some x1)
    else
    (f_X11_bits_4 n (x1 + 1) (x2 &&& (x2 - 1)))
set_option maxHeartbeats 4000000 in
theorem t_X11_bits_4 {X : XV} {d : Nat} {M : Mem} (hd : 1 ≤ d + 1) : ∀ (n : Nat) (x1 : Int32) (x2 : Int32) (res : Int32), f_X11_bits_4 n  x1 x2 = some res → Ex X (d + 1) mX11_bits 4 [(1, .int x1), (2, .int x2)] [] M (some (.int res)) M := by
  intro n
  induction n with
  | zero =>
    intro x1 x2 res  h
    unfold f_X11_bits_4 at h
    cases h
  | succ n ih =>
    intro x1 x2 res  h
    unfold f_X11_bits_4 at h
    refine ex_iload_n (pc := 4) 1 dX11_bits_4 rfl rfl ?_
    by_cases c1 : x2 = 0
    · rw [if_pos c1] at h
      refine ex_if_eq_t (pc := 5) 20 dX11_bits_5 rfl c1 ?_
      refine ex_iload_n (pc := 20) 0 dX11_bits_20 rfl rfl ?_
      cases h
      exact ex_ireturn (pc := 21) dX11_bits_21
    · rw [if_neg c1] at h
      refine ex_if_eq_f (pc := 5) dX11_bits_5 20 rfl c1 ?_
      refine ex_iinc (pc := 8) (x1 + 1) 0 [(1, .int (x1 + 1)), (2, .int x2)] dX11_bits_8 rfl rfl (by decide) rfl ?_
      refine ex_iload_n (pc := 11) 1 dX11_bits_11 rfl rfl ?_
      refine ex_iload_n (pc := 12) 1 dX11_bits_12 rfl rfl ?_
      refine ex_iconst (pc := 13) 1 dX11_bits_13 rfl ?_
      refine ex_isub (pc := 14) dX11_bits_14 ?_
      refine ex_iand (pc := 15) dX11_bits_15 ?_
      refine ex_istore_n (pc := 16) [(2, .int (x2 &&& (x2 - 1))), (1, .int (x1 + 1))] dX11_bits_16 rfl (by decide) rfl ?_
      refine ex_goto (pc := 17) 4 dX11_bits_17 rfl ?_
      refine ex_sub (lo' := [(1, .int (x1 + 1)), (2, .int (x2 &&& (x2 - 1)))]) [1, 0] rfl ?_
      exact ih _ _ _  h
noncomputable def f_X11_bits_0 (x0 : Int32) : Option (Int32) :=
  f_X11_bits_4 fu 0 x0
set_option maxHeartbeats 4000000 in
theorem t_X11_bits_0 {X : XV} {d : Nat} {M : Mem} (hd : 1 ≤ d + 1) : ∀ (x0 : Int32) (res : Int32), f_X11_bits_0  x0 = some res → Ex X (d + 1) mX11_bits 0 [(0, .int x0)] [] M (some (.int res)) M := by
  intro x0 res  h
  unfold f_X11_bits_0 at h
  refine ex_iconst (pc := 0) 0 dX11_bits_0 rfl ?_
  refine ex_istore_n (pc := 1) [(1, .int 0), (0, .int x0)] dX11_bits_1 rfl (by decide) rfl ?_
  refine ex_iload_n (pc := 2) 1 dX11_bits_2 rfl rfl ?_
  refine ex_istore_n (pc := 3) [(2, .int x0), (1, .int 0), (0, .int x0)] dX11_bits_3 rfl (by decide) rfl ?_
  refine ex_sub (lo' := [(1, .int 0), (2, .int x0)]) [1, 0] rfl ?_
  exact t_X11_bits_4 hd  _ _ _ _  h
noncomputable def f_X11_bits (x0 : Int32) : Option (Int32) := f_X11_bits_0 x0
set_option maxHeartbeats 4000000 in
theorem s_X11_bits {X : XV} {d : Nat} (hd : 1 ≤ d) {x0 : Int32} {M : Mem} {res : Int32} (h : f_X11_bits x0 = some res) : Mx X d mX11_bits [.int x0] M (some (.int res)) M := by
  obtain ⟨d, rfl⟩ : ∃ e, d = e + 1 := ⟨d - 1, by omega⟩
  unfold f_X11_bits at h
  refine Mx.of (by decide) (Nat.le_of_ble_eq_true rfl) (⟨_, rfl, rfl⟩) ?_
  exact ex_sub (lo' := [(0, .int x0)]) [0] rfl (t_X11_bits_0 hd _ _  h)
noncomputable def f_X11_isMachine_0 (x0 : Nat) (x1 : Int32) (M : Mem) : Option (Bool) :=
  (gR M 11 x0 0).bind fun v1 =>
  (rI M v1 0).bind fun v2 =>
  (f_X11_isIn x1 0 (v2 - 1)).bind fun v3 =>
  some v3
set_option maxHeartbeats 4000000 in
theorem t_X11_isMachine_0 {X : XV} {d : Nat} (hd : 2 ≤ d + 1) : ∀ (x0 : Nat) (x1 : Int32) (M : Mem) (res : Bool), f_X11_isMachine_0  x0 x1 M = some res → Ex X (d + 1) mX11_isMachine 0 [(0, .ref x0), (1, .int x1)] [] M (some (.int (jz res))) M := by
  intro x0 x1 M res  h
  unfold f_X11_isMachine_0 at h
  refine ex_iload_n (pc := 0) 1 dX11_isMachine_0 rfl rfl ?_
  refine ex_iconst (pc := 1) 0 dX11_isMachine_1 rfl ?_
  refine ex_aload_n (pc := 2) 0 dX11_isMachine_2 rfl rfl ?_
  obtain ⟨v1, ev1, h⟩ := ob_some h
  refine ex_gR (pc := 3) ev1 dX11_isMachine_3 lfX11_7 ?_
  refine ex_iconst (pc := 6) 0 dX11_isMachine_6 rfl ?_
  obtain ⟨v2, ev2, h⟩ := ob_some h
  refine ex_rI (pc := 7) ev2 dX11_isMachine_7 ?_
  refine ex_iconst (pc := 8) 1 dX11_isMachine_8 rfl ?_
  refine ex_isub (pc := 9) dX11_isMachine_9 ?_
  obtain ⟨v3, ev3, h⟩ := ob_some h
  refine ex_callS3r (pc := 10) dX11_isMachine_10 jX11_isIn lmX11_87 jsX11_isIn (Nat.le_of_ble_eq_true rfl) (s_X11_isIn (by omega)  ev3) ?_
  cases h
  exact ex_ireturn (pc := 13) dX11_isMachine_13
noncomputable def f_X11_isMachine (x0 : Nat) (x1 : Int32) (M : Mem) : Option (Bool) := if isOb M 11 x0 = true then f_X11_isMachine_0 x0 x1 M else none
theorem o_X11_isMachine {x0 : Nat} {x1 : Int32} {M : Mem} {res : Bool} (h : f_X11_isMachine x0 x1 M = some res) : isO M 11 x0 := by
  unfold f_X11_isMachine at h
  split at h
  · rename_i hc; exact isOb_iff hc
  · cases h
set_option maxHeartbeats 4000000 in
theorem s_X11_isMachine {X : XV} {d : Nat} (hd : 2 ≤ d) {x0 : Nat} {x1 : Int32} {M : Mem} {res : Bool} (h : f_X11_isMachine x0 x1 M = some res) : Mx X d mX11_isMachine [.ref x0, .int x1] M (some (.int (jz res))) M := by
  obtain ⟨d, rfl⟩ : ∃ e, d = e + 1 := ⟨d - 1, by omega⟩
  unfold f_X11_isMachine at h
  split at h
  rotate_left
  · cases h
  refine Mx.of (by decide) (Nat.le_of_ble_eq_true rfl) (⟨_, rfl, jz_nar _⟩) ?_
  exact ex_sub (lo' := [(0, .ref x0), (1, .int x1)]) [0, 1] rfl (t_X11_isMachine_0 hd _ _ _ _  h)
noncomputable def f_X11_isDigit_0 (x0 : Int32) : Option (Bool) :=
  (f_X11_isIn x0 0 9).bind fun v1 =>
  some v1
set_option maxHeartbeats 4000000 in
theorem t_X11_isDigit_0 {X : XV} {d : Nat} {M : Mem} (hd : 2 ≤ d + 1) : ∀ (x0 : Int32) (res : Bool), f_X11_isDigit_0  x0 = some res → Ex X (d + 1) mX11_isDigit 0 [(0, .int x0)] [] M (some (.int (jz res))) M := by
  intro x0 res  h
  unfold f_X11_isDigit_0 at h
  refine ex_iload_n (pc := 0) 0 dX11_isDigit_0 rfl rfl ?_
  refine ex_iconst (pc := 1) 0 dX11_isDigit_1 rfl ?_
  refine ex_bipush (pc := 2) 9 dX11_isDigit_2 (by decide) ?_
  obtain ⟨v1, ev1, h⟩ := ob_some h
  refine ex_callS3r (pc := 4) dX11_isDigit_4 jX11_isIn lmX11_87 jsX11_isIn (Nat.le_of_ble_eq_true rfl) (s_X11_isIn (by omega)  ev1) ?_
  cases h
  exact ex_ireturn (pc := 7) dX11_isDigit_7
noncomputable def f_X11_isDigit (x0 : Int32) : Option (Bool) := f_X11_isDigit_0 x0
set_option maxHeartbeats 4000000 in
theorem s_X11_isDigit {X : XV} {d : Nat} (hd : 2 ≤ d) {x0 : Int32} {M : Mem} {res : Bool} (h : f_X11_isDigit x0 = some res) : Mx X d mX11_isDigit [.int x0] M (some (.int (jz res))) M := by
  obtain ⟨d, rfl⟩ : ∃ e, d = e + 1 := ⟨d - 1, by omega⟩
  unfold f_X11_isDigit at h
  refine Mx.of (by decide) (Nat.le_of_ble_eq_true rfl) (⟨_, rfl, jz_nar _⟩) ?_
  exact ex_sub (lo' := [(0, .int x0)]) [0] rfl (t_X11_isDigit_0 hd _ _  h)
noncomputable def f_X11_isNumber_0 (x0 : Int32) : Option (Bool) :=
  (f_X11_isIn x0 0 9999).bind fun v1 =>
  some v1
set_option maxHeartbeats 4000000 in
theorem t_X11_isNumber_0 {X : XV} {d : Nat} {M : Mem} (hd : 2 ≤ d + 1) : ∀ (x0 : Int32) (res : Bool), f_X11_isNumber_0  x0 = some res → Ex X (d + 1) mX11_isNumber 0 [(0, .int x0)] [] M (some (.int (jz res))) M := by
  intro x0 res  h
  unfold f_X11_isNumber_0 at h
  refine ex_iload_n (pc := 0) 0 dX11_isNumber_0 rfl rfl ?_
  refine ex_iconst (pc := 1) 0 dX11_isNumber_1 rfl ?_
  refine ex_sipush (pc := 2) 9999 dX11_isNumber_2 (by decide) ?_
  obtain ⟨v1, ev1, h⟩ := ob_some h
  refine ex_callS3r (pc := 5) dX11_isNumber_5 jX11_isIn lmX11_87 jsX11_isIn (Nat.le_of_ble_eq_true rfl) (s_X11_isIn (by omega)  ev1) ?_
  cases h
  exact ex_ireturn (pc := 8) dX11_isNumber_8
noncomputable def f_X11_isNumber (x0 : Int32) : Option (Bool) := f_X11_isNumber_0 x0
set_option maxHeartbeats 4000000 in
theorem s_X11_isNumber {X : XV} {d : Nat} (hd : 2 ≤ d) {x0 : Int32} {M : Mem} {res : Bool} (h : f_X11_isNumber x0 = some res) : Mx X d mX11_isNumber [.int x0] M (some (.int (jz res))) M := by
  obtain ⟨d, rfl⟩ : ∃ e, d = e + 1 := ⟨d - 1, by omega⟩
  unfold f_X11_isNumber at h
  refine Mx.of (by decide) (Nat.le_of_ble_eq_true rfl) (⟨_, rfl, jz_nar _⟩) ?_
  exact ex_sub (lo' := [(0, .int x0)]) [0] rfl (t_X11_isNumber_0 hd _ _  h)
noncomputable def f_X11_get_0 (x0 : Nat) (x1 : Int32) (x2 : Int32) (M : Mem) : Option (Int32) :=
  (gR M 11 x0 0).bind fun v1 =>
  (rI M v1 ((11 + (18 * x1)) + x2)).bind fun v2 =>
  some v2
set_option maxHeartbeats 4000000 in
theorem t_X11_get_0 {X : XV} {d : Nat} (hd : 1 ≤ d + 1) : ∀ (x0 : Nat) (x1 : Int32) (x2 : Int32) (M : Mem) (res : Int32), f_X11_get_0  x0 x1 x2 M = some res → Ex X (d + 1) mX11_get 0 [(0, .ref x0), (1, .int x1), (2, .int x2)] [] M (some (.int res)) M := by
  intro x0 x1 x2 M res  h
  unfold f_X11_get_0 at h
  refine ex_aload_n (pc := 0) 0 dX11_get_0 rfl rfl ?_
  obtain ⟨v1, ev1, h⟩ := ob_some h
  refine ex_gR (pc := 1) ev1 dX11_get_1 lfX11_7 ?_
  refine ex_bipush (pc := 4) 11 dX11_get_4 (by decide) ?_
  refine ex_bipush (pc := 6) 18 dX11_get_6 (by decide) ?_
  refine ex_iload_n (pc := 8) 1 dX11_get_8 rfl rfl ?_
  refine ex_imul (pc := 9) dX11_get_9 ?_
  refine ex_iadd (pc := 10) dX11_get_10 ?_
  refine ex_iload_n (pc := 11) 2 dX11_get_11 rfl rfl ?_
  refine ex_iadd (pc := 12) dX11_get_12 ?_
  obtain ⟨v2, ev2, h⟩ := ob_some h
  refine ex_rI (pc := 13) ev2 dX11_get_13 ?_
  cases h
  exact ex_ireturn (pc := 14) dX11_get_14
noncomputable def f_X11_get (x0 : Nat) (x1 : Int32) (x2 : Int32) (M : Mem) : Option (Int32) := if isOb M 11 x0 = true then f_X11_get_0 x0 x1 x2 M else none
theorem o_X11_get {x0 : Nat} {x1 : Int32} {x2 : Int32} {M : Mem} {res : Int32} (h : f_X11_get x0 x1 x2 M = some res) : isO M 11 x0 := by
  unfold f_X11_get at h
  split at h
  · rename_i hc; exact isOb_iff hc
  · cases h
set_option maxHeartbeats 4000000 in
theorem s_X11_get {X : XV} {d : Nat} (hd : 1 ≤ d) {x0 : Nat} {x1 : Int32} {x2 : Int32} {M : Mem} {res : Int32} (h : f_X11_get x0 x1 x2 M = some res) : Mx X d mX11_get [.ref x0, .int x1, .int x2] M (some (.int res)) M := by
  obtain ⟨d, rfl⟩ : ∃ e, d = e + 1 := ⟨d - 1, by omega⟩
  unfold f_X11_get at h
  split at h
  rotate_left
  · cases h
  refine Mx.of (by decide) (Nat.le_of_ble_eq_true rfl) (⟨_, rfl, rfl⟩) ?_
  exact ex_sub (lo' := [(0, .ref x0), (1, .int x1), (2, .int x2)]) [0, 1, 2] rfl (t_X11_get_0 hd _ _ _ _ _  h)
noncomputable def f_X11_lay_0 (x0 : Nat) (x1 : Int32) (x2 : Int32) (x3 : Int32) (M : Mem) : Option (Mem) :=
  (gR M 11 x0 0).bind fun v1 =>
  (wI M v1 ((11 + (18 * x1)) + x2) x3).bind fun q2 =>
  some q2
set_option maxHeartbeats 4000000 in
theorem t_X11_lay_0 {X : XV} {d : Nat} (hd : 1 ≤ d + 1) : ∀ (x0 : Nat) (x1 : Int32) (x2 : Int32) (x3 : Int32) (M : Mem) (res : Mem), f_X11_lay_0  x0 x1 x2 x3 M = some res → Ex X (d + 1) mX11_lay 0 [(0, .ref x0), (1, .int x1), (2, .int x2), (3, .int x3)] [] M none res := by
  intro x0 x1 x2 x3 M res  h
  unfold f_X11_lay_0 at h
  refine ex_aload_n (pc := 0) 0 dX11_lay_0 rfl rfl ?_
  obtain ⟨v1, ev1, h⟩ := ob_some h
  refine ex_gR (pc := 1) ev1 dX11_lay_1 lfX11_7 ?_
  refine ex_bipush (pc := 4) 11 dX11_lay_4 (by decide) ?_
  refine ex_bipush (pc := 6) 18 dX11_lay_6 (by decide) ?_
  refine ex_iload_n (pc := 8) 1 dX11_lay_8 rfl rfl ?_
  refine ex_imul (pc := 9) dX11_lay_9 ?_
  refine ex_iadd (pc := 10) dX11_lay_10 ?_
  refine ex_iload_n (pc := 11) 2 dX11_lay_11 rfl rfl ?_
  refine ex_iadd (pc := 12) dX11_lay_12 ?_
  refine ex_iload_n (pc := 13) 3 dX11_lay_13 rfl rfl ?_
  obtain ⟨q2, eq2, h⟩ := ob_some h
  refine ex_wI (pc := 14) eq2 dX11_lay_14 ?_
  cases h
  exact ex_return (pc := 15) dX11_lay_15
noncomputable def f_X11_lay (x0 : Nat) (x1 : Int32) (x2 : Int32) (x3 : Int32) (M : Mem) : Option (Mem) := if isOb M 11 x0 = true then f_X11_lay_0 x0 x1 x2 x3 M else none
theorem o_X11_lay {x0 : Nat} {x1 : Int32} {x2 : Int32} {x3 : Int32} {M : Mem} {res : Mem} (h : f_X11_lay x0 x1 x2 x3 M = some res) : isO M 11 x0 := by
  unfold f_X11_lay at h
  split at h
  · rename_i hc; exact isOb_iff hc
  · cases h
set_option maxHeartbeats 4000000 in
theorem s_X11_lay {X : XV} {d : Nat} (hd : 1 ≤ d) {x0 : Nat} {x1 : Int32} {x2 : Int32} {x3 : Int32} {M : Mem} {res : Mem} (h : f_X11_lay x0 x1 x2 x3 M = some res) : Mx X d mX11_lay [.ref x0, .int x1, .int x2, .int x3] M none res := by
  obtain ⟨d, rfl⟩ : ∃ e, d = e + 1 := ⟨d - 1, by omega⟩
  unfold f_X11_lay at h
  split at h
  rotate_left
  · cases h
  refine Mx.of (by decide) (Nat.le_of_ble_eq_true rfl) (rfl) ?_
  exact ex_sub (lo' := [(0, .ref x0), (1, .int x1), (2, .int x2), (3, .int x3)]) [0, 1, 2, 3] rfl (t_X11_lay_0 hd _ _ _ _ _ _  h)
noncomputable def f_X11_longOf_0 (x0 : Int32) : Option (Int32) :=
  if 10 ≤ x0 then
  (if 100 ≤ x0 then
  (if 1000 ≤ x0 then
  (some 4)
  else
  (some 3))
  else
  (some 2))
  else
  (some 1)
set_option maxHeartbeats 4000000 in
theorem t_X11_longOf_0 {X : XV} {d : Nat} {M : Mem} (hd : 1 ≤ d + 1) : ∀ (x0 : Int32) (res : Int32), f_X11_longOf_0  x0 = some res → Ex X (d + 1) mX11_longOf 0 [(0, .int x0)] [] M (some (.int res)) M := by
  intro x0 res  h
  unfold f_X11_longOf_0 at h
  refine ex_iload_n (pc := 0) 0 dX11_longOf_0 rfl rfl ?_
  refine ex_bipush (pc := 1) 10 dX11_longOf_1 (by decide) ?_
  by_cases c1 : 10 ≤ x0
  · rw [if_pos c1] at h
    refine ex_icmp_ge_t (pc := 3) 10 dX11_longOf_3 rfl c1 ?_
    refine ex_iload_n (pc := 10) 0 dX11_longOf_10 rfl rfl ?_
    refine ex_bipush (pc := 11) 100 dX11_longOf_11 (by decide) ?_
    by_cases c2 : 100 ≤ x0
    · rw [if_pos c2] at h
      refine ex_icmp_ge_t (pc := 13) 20 dX11_longOf_13 rfl c2 ?_
      refine ex_iload_n (pc := 20) 0 dX11_longOf_20 rfl rfl ?_
      refine ex_sipush (pc := 21) 1000 dX11_longOf_21 (by decide) ?_
      by_cases c3 : 1000 ≤ x0
      · rw [if_pos c3] at h
        refine ex_icmp_ge_t (pc := 24) 31 dX11_longOf_24 rfl c3 ?_
        refine ex_iconst (pc := 31) 4 dX11_longOf_31 rfl ?_
        cases h
        exact ex_ireturn (pc := 32) dX11_longOf_32
      · rw [if_neg c3] at h
        refine ex_icmp_ge_f (pc := 24) dX11_longOf_24 31 rfl c3 ?_
        refine ex_iconst (pc := 27) 3 dX11_longOf_27 rfl ?_
        refine ex_goto (pc := 28) 32 dX11_longOf_28 rfl ?_
        cases h
        exact ex_ireturn (pc := 32) dX11_longOf_32
    · rw [if_neg c2] at h
      refine ex_icmp_ge_f (pc := 13) dX11_longOf_13 20 rfl c2 ?_
      refine ex_iconst (pc := 16) 2 dX11_longOf_16 rfl ?_
      refine ex_goto (pc := 17) 32 dX11_longOf_17 rfl ?_
      cases h
      exact ex_ireturn (pc := 32) dX11_longOf_32
  · rw [if_neg c1] at h
    refine ex_icmp_ge_f (pc := 3) dX11_longOf_3 10 rfl c1 ?_
    refine ex_iconst (pc := 6) 1 dX11_longOf_6 rfl ?_
    refine ex_goto (pc := 7) 32 dX11_longOf_7 rfl ?_
    cases h
    exact ex_ireturn (pc := 32) dX11_longOf_32
noncomputable def f_X11_longOf (x0 : Int32) : Option (Int32) := f_X11_longOf_0 x0
set_option maxHeartbeats 4000000 in
theorem s_X11_longOf {X : XV} {d : Nat} (hd : 1 ≤ d) {x0 : Int32} {M : Mem} {res : Int32} (h : f_X11_longOf x0 = some res) : Mx X d mX11_longOf [.int x0] M (some (.int res)) M := by
  obtain ⟨d, rfl⟩ : ∃ e, d = e + 1 := ⟨d - 1, by omega⟩
  unfold f_X11_longOf at h
  refine Mx.of (by decide) (Nat.le_of_ble_eq_true rfl) (⟨_, rfl, rfl⟩) ?_
  exact ex_sub (lo' := [(0, .int x0)]) [0] rfl (t_X11_longOf_0 hd _ _  h)
noncomputable def f_X11_digitOf_9 (n0 : Nat) (x1 : Int32) (x2 : Int32) (x3 : Int32) : Option (Int32) :=
  match n0 with
  | 0 => none
  | n + 1 =>
    if x3 ≤ x1 then
    (some (jrem x2 10))
    else
    (f_X11_digitOf_9 n x1 (x2 / 10) (x3 + (-1)))
set_option maxHeartbeats 4000000 in
theorem t_X11_digitOf_9 {X : XV} {d : Nat} {M : Mem} (hd : 2 ≤ d + 1) : ∀ (n : Nat) (x1 : Int32) (x2 : Int32) (x3 : Int32) (res : Int32), f_X11_digitOf_9 n  x1 x2 x3 = some res → Ex X (d + 1) mX11_digitOf 9 [(1, .int x1), (2, .int x2), (3, .int x3)] [] M (some (.int res)) M := by
  intro n
  induction n with
  | zero =>
    intro x1 x2 x3 res  h
    unfold f_X11_digitOf_9 at h
    cases h
  | succ n ih =>
    intro x1 x2 x3 res  h
    unfold f_X11_digitOf_9 at h
    refine ex_iload_n (pc := 9) 2 dX11_digitOf_9 rfl rfl ?_
    refine ex_iload_n (pc := 10) 0 dX11_digitOf_10 rfl rfl ?_
    by_cases c1 : x3 ≤ x1
    · rw [if_pos c1] at h
      refine ex_icmp_le_t (pc := 11) 25 dX11_digitOf_11 rfl c1 ?_
      refine ex_iload_n (pc := 25) 1 dX11_digitOf_25 rfl rfl ?_
      refine ex_bipush (pc := 26) 10 dX11_digitOf_26 (by decide) ?_
      refine ex_irem (pc := 28) dX11_digitOf_28 (by decide) ?_
      cases h
      exact ex_ireturn (pc := 29) dX11_digitOf_29
    · rw [if_neg c1] at h
      refine ex_icmp_le_f (pc := 11) dX11_digitOf_11 25 rfl c1 ?_
      refine ex_iload_n (pc := 14) 1 dX11_digitOf_14 rfl rfl ?_
      refine ex_bipush (pc := 15) 10 dX11_digitOf_15 (by decide) ?_
      refine ex_idiv (pc := 17) dX11_digitOf_17 (by decide) ?_
      refine ex_istore_n (pc := 18) [(2, .int (x2 / 10)), (1, .int x1), (3, .int x3)] dX11_digitOf_18 rfl (by decide) rfl ?_
      refine ex_iinc (pc := 19) (x3 + (-1)) 2 [(3, .int (x3 + (-1))), (2, .int (x2 / 10)), (1, .int x1)] dX11_digitOf_19 rfl rfl (by decide) rfl ?_
      refine ex_goto (pc := 22) 9 dX11_digitOf_22 rfl ?_
      refine ex_sub (lo' := [(1, .int x1), (2, .int (x2 / 10)), (3, .int (x3 + (-1)))]) [2, 1, 0] rfl ?_
      exact ih _ _ _ _  h
noncomputable def f_X11_digitOf_0 (x0 : Int32) (x1 : Int32) : Option (Int32) :=
  (f_X11_longOf x0).bind fun v2 =>
  f_X11_digitOf_9 fu x1 x0 (v2 - 1)
set_option maxHeartbeats 4000000 in
theorem t_X11_digitOf_0 {X : XV} {d : Nat} {M : Mem} (hd : 2 ≤ d + 1) : ∀ (x0 : Int32) (x1 : Int32) (res : Int32), f_X11_digitOf_0  x0 x1 = some res → Ex X (d + 1) mX11_digitOf 0 [(0, .int x0), (1, .int x1)] [] M (some (.int res)) M := by
  intro x0 x1 res  h
  unfold f_X11_digitOf_0 at h
  refine ex_iload_n (pc := 0) 0 dX11_digitOf_0 rfl rfl ?_
  refine ex_istore_n (pc := 1) [(2, .int x0), (0, .int x0), (1, .int x1)] dX11_digitOf_1 rfl (by decide) rfl ?_
  refine ex_iload_n (pc := 2) 1 dX11_digitOf_2 rfl rfl ?_
  obtain ⟨v2, ev2, h⟩ := ob_some h
  refine ex_callS1r (pc := 3) dX11_digitOf_3 jX11_longOf lmX11_91 jsX11_longOf (Nat.le_of_ble_eq_true rfl) (s_X11_longOf (by omega)  ev2) ?_
  refine ex_iconst (pc := 6) 1 dX11_digitOf_6 rfl ?_
  refine ex_isub (pc := 7) dX11_digitOf_7 ?_
  refine ex_istore_n (pc := 8) [(3, .int (v2 - 1)), (2, .int x0), (0, .int x0), (1, .int x1)] dX11_digitOf_8 rfl (by decide) rfl ?_
  refine ex_sub (lo' := [(1, .int x1), (2, .int x0), (3, .int (v2 - 1))]) [3, 1, 0] rfl ?_
  exact t_X11_digitOf_9 hd  _ _ _ _ _  h
noncomputable def f_X11_digitOf (x0 : Int32) (x1 : Int32) : Option (Int32) := f_X11_digitOf_0 x0 x1
set_option maxHeartbeats 4000000 in
theorem s_X11_digitOf {X : XV} {d : Nat} (hd : 2 ≤ d) {x0 : Int32} {x1 : Int32} {M : Mem} {res : Int32} (h : f_X11_digitOf x0 x1 = some res) : Mx X d mX11_digitOf [.int x0, .int x1] M (some (.int res)) M := by
  obtain ⟨d, rfl⟩ : ∃ e, d = e + 1 := ⟨d - 1, by omega⟩
  unfold f_X11_digitOf at h
  refine Mx.of (by decide) (Nat.le_of_ble_eq_true rfl) (⟨_, rfl, rfl⟩) ?_
  exact ex_sub (lo' := [(0, .int x0), (1, .int x1)]) [0, 1] rfl (t_X11_digitOf_0 hd _ _ _  h)
noncomputable def f_X11_wordLong_0 (x0 : Int32) : Option (Int32) :=
  if x0 = 0 then
  (some 0)
  else
  (if 11 ≤ x0 then
  (some 2)
  else
  (some 1))
set_option maxHeartbeats 4000000 in
theorem t_X11_wordLong_0 {X : XV} {d : Nat} {M : Mem} (hd : 1 ≤ d + 1) : ∀ (x0 : Int32) (res : Int32), f_X11_wordLong_0  x0 = some res → Ex X (d + 1) mX11_wordLong 0 [(0, .int x0)] [] M (some (.int res)) M := by
  intro x0 res  h
  unfold f_X11_wordLong_0 at h
  refine ex_iload_n (pc := 0) 0 dX11_wordLong_0 rfl rfl ?_
  by_cases c1 : x0 = 0
  · rw [if_pos c1] at h
    refine ex_if_ne_f (pc := 1) dX11_wordLong_1 8 rfl c1 ?_
    refine ex_iconst (pc := 4) 0 dX11_wordLong_4 rfl ?_
    refine ex_goto (pc := 5) 19 dX11_wordLong_5 rfl ?_
    cases h
    exact ex_ireturn (pc := 19) dX11_wordLong_19
  · rw [if_neg c1] at h
    refine ex_if_ne_t (pc := 1) 8 dX11_wordLong_1 rfl c1 ?_
    refine ex_iload_n (pc := 8) 0 dX11_wordLong_8 rfl rfl ?_
    refine ex_bipush (pc := 9) 11 dX11_wordLong_9 (by decide) ?_
    by_cases c2 : 11 ≤ x0
    · rw [if_pos c2] at h
      refine ex_icmp_ge_t (pc := 11) 18 dX11_wordLong_11 rfl c2 ?_
      refine ex_iconst (pc := 18) 2 dX11_wordLong_18 rfl ?_
      cases h
      exact ex_ireturn (pc := 19) dX11_wordLong_19
    · rw [if_neg c2] at h
      refine ex_icmp_ge_f (pc := 11) dX11_wordLong_11 18 rfl c2 ?_
      refine ex_iconst (pc := 14) 1 dX11_wordLong_14 rfl ?_
      refine ex_goto (pc := 15) 19 dX11_wordLong_15 rfl ?_
      cases h
      exact ex_ireturn (pc := 19) dX11_wordLong_19
noncomputable def f_X11_wordLong (x0 : Int32) : Option (Int32) := f_X11_wordLong_0 x0
set_option maxHeartbeats 4000000 in
theorem s_X11_wordLong {X : XV} {d : Nat} (hd : 1 ≤ d) {x0 : Int32} {M : Mem} {res : Int32} (h : f_X11_wordLong x0 = some res) : Mx X d mX11_wordLong [.int x0] M (some (.int res)) M := by
  obtain ⟨d, rfl⟩ : ∃ e, d = e + 1 := ⟨d - 1, by omega⟩
  unfold f_X11_wordLong at h
  refine Mx.of (by decide) (Nat.le_of_ble_eq_true rfl) (⟨_, rfl, rfl⟩) ?_
  exact ex_sub (lo' := [(0, .int x0)]) [0] rfl (t_X11_wordLong_0 hd _ _  h)
noncomputable def f_X11_wordDigit_0 (x0 : Int32) (x1 : Int32) : Option (Int32) :=
  if 11 ≤ x0 then
  (if x1 = 0 then
  (some ((x0 - 11) / 10))
  else
  (some (jrem (x0 - 11) 10)))
  else
  (some (x0 - 1))
set_option maxHeartbeats 4000000 in
theorem t_X11_wordDigit_0 {X : XV} {d : Nat} {M : Mem} (hd : 1 ≤ d + 1) : ∀ (x0 : Int32) (x1 : Int32) (res : Int32), f_X11_wordDigit_0  x0 x1 = some res → Ex X (d + 1) mX11_wordDigit 0 [(0, .int x0), (1, .int x1)] [] M (some (.int res)) M := by
  intro x0 x1 res  h
  unfold f_X11_wordDigit_0 at h
  refine ex_iload_n (pc := 0) 0 dX11_wordDigit_0 rfl rfl ?_
  refine ex_bipush (pc := 1) 11 dX11_wordDigit_1 (by decide) ?_
  by_cases c1 : 11 ≤ x0
  · rw [if_pos c1] at h
    refine ex_icmp_ge_t (pc := 3) 12 dX11_wordDigit_3 rfl c1 ?_
    refine ex_iload_n (pc := 12) 1 dX11_wordDigit_12 rfl rfl ?_
    by_cases c2 : x1 = 0
    · rw [if_pos c2] at h
      refine ex_if_ne_f (pc := 13) dX11_wordDigit_13 26 rfl c2 ?_
      refine ex_iload_n (pc := 16) 0 dX11_wordDigit_16 rfl rfl ?_
      refine ex_bipush (pc := 17) 11 dX11_wordDigit_17 (by decide) ?_
      refine ex_isub (pc := 19) dX11_wordDigit_19 ?_
      refine ex_bipush (pc := 20) 10 dX11_wordDigit_20 (by decide) ?_
      refine ex_idiv (pc := 22) dX11_wordDigit_22 (by decide) ?_
      refine ex_goto (pc := 23) 33 dX11_wordDigit_23 rfl ?_
      cases h
      exact ex_ireturn (pc := 33) dX11_wordDigit_33
    · rw [if_neg c2] at h
      refine ex_if_ne_t (pc := 13) 26 dX11_wordDigit_13 rfl c2 ?_
      refine ex_iload_n (pc := 26) 0 dX11_wordDigit_26 rfl rfl ?_
      refine ex_bipush (pc := 27) 11 dX11_wordDigit_27 (by decide) ?_
      refine ex_isub (pc := 29) dX11_wordDigit_29 ?_
      refine ex_bipush (pc := 30) 10 dX11_wordDigit_30 (by decide) ?_
      refine ex_irem (pc := 32) dX11_wordDigit_32 (by decide) ?_
      cases h
      exact ex_ireturn (pc := 33) dX11_wordDigit_33
  · rw [if_neg c1] at h
    refine ex_icmp_ge_f (pc := 3) dX11_wordDigit_3 12 rfl c1 ?_
    refine ex_iload_n (pc := 6) 0 dX11_wordDigit_6 rfl rfl ?_
    refine ex_iconst (pc := 7) 1 dX11_wordDigit_7 rfl ?_
    refine ex_isub (pc := 8) dX11_wordDigit_8 ?_
    refine ex_goto (pc := 9) 33 dX11_wordDigit_9 rfl ?_
    cases h
    exact ex_ireturn (pc := 33) dX11_wordDigit_33
noncomputable def f_X11_wordDigit (x0 : Int32) (x1 : Int32) : Option (Int32) := f_X11_wordDigit_0 x0 x1
set_option maxHeartbeats 4000000 in
theorem s_X11_wordDigit {X : XV} {d : Nat} (hd : 1 ≤ d) {x0 : Int32} {x1 : Int32} {M : Mem} {res : Int32} (h : f_X11_wordDigit x0 x1 = some res) : Mx X d mX11_wordDigit [.int x0, .int x1] M (some (.int res)) M := by
  obtain ⟨d, rfl⟩ : ∃ e, d = e + 1 := ⟨d - 1, by omega⟩
  unfold f_X11_wordDigit at h
  refine Mx.of (by decide) (Nat.le_of_ble_eq_true rfl) (⟨_, rfl, rfl⟩) ?_
  exact ex_sub (lo' := [(0, .int x0), (1, .int x1)]) [0, 1] rfl (t_X11_wordDigit_0 hd _ _ _  h)
noncomputable def f_X11_ruleOf_0 (x0 : Nat) (x1 : Int32) (x2 : Int32) (M : Mem) : Option (Int32) :=
  (gR M 11 x0 0).bind fun v1 =>
  (rI M v1 ((101 + (2 * x1)) + x2)).bind fun v2 =>
  some v2
set_option maxHeartbeats 4000000 in
theorem t_X11_ruleOf_0 {X : XV} {d : Nat} (hd : 1 ≤ d + 1) : ∀ (x0 : Nat) (x1 : Int32) (x2 : Int32) (M : Mem) (res : Int32), f_X11_ruleOf_0  x0 x1 x2 M = some res → Ex X (d + 1) mX11_ruleOf 0 [(0, .ref x0), (1, .int x1), (2, .int x2)] [] M (some (.int res)) M := by
  intro x0 x1 x2 M res  h
  unfold f_X11_ruleOf_0 at h
  refine ex_aload_n (pc := 0) 0 dX11_ruleOf_0 rfl rfl ?_
  obtain ⟨v1, ev1, h⟩ := ob_some h
  refine ex_gR (pc := 1) ev1 dX11_ruleOf_1 lfX11_7 ?_
  refine ex_bipush (pc := 4) 101 dX11_ruleOf_4 (by decide) ?_
  refine ex_iconst (pc := 6) 2 dX11_ruleOf_6 rfl ?_
  refine ex_iload_n (pc := 7) 1 dX11_ruleOf_7 rfl rfl ?_
  refine ex_imul (pc := 8) dX11_ruleOf_8 ?_
  refine ex_iadd (pc := 9) dX11_ruleOf_9 ?_
  refine ex_iload_n (pc := 10) 2 dX11_ruleOf_10 rfl rfl ?_
  refine ex_iadd (pc := 11) dX11_ruleOf_11 ?_
  obtain ⟨v2, ev2, h⟩ := ob_some h
  refine ex_rI (pc := 12) ev2 dX11_ruleOf_12 ?_
  cases h
  exact ex_ireturn (pc := 13) dX11_ruleOf_13
noncomputable def f_X11_ruleOf (x0 : Nat) (x1 : Int32) (x2 : Int32) (M : Mem) : Option (Int32) := if isOb M 11 x0 = true then f_X11_ruleOf_0 x0 x1 x2 M else none
theorem o_X11_ruleOf {x0 : Nat} {x1 : Int32} {x2 : Int32} {M : Mem} {res : Int32} (h : f_X11_ruleOf x0 x1 x2 M = some res) : isO M 11 x0 := by
  unfold f_X11_ruleOf at h
  split at h
  · rename_i hc; exact isOb_iff hc
  · cases h
set_option maxHeartbeats 4000000 in
theorem s_X11_ruleOf {X : XV} {d : Nat} (hd : 1 ≤ d) {x0 : Nat} {x1 : Int32} {x2 : Int32} {M : Mem} {res : Int32} (h : f_X11_ruleOf x0 x1 x2 M = some res) : Mx X d mX11_ruleOf [.ref x0, .int x1, .int x2] M (some (.int res)) M := by
  obtain ⟨d, rfl⟩ : ∃ e, d = e + 1 := ⟨d - 1, by omega⟩
  unfold f_X11_ruleOf at h
  split at h
  rotate_left
  · cases h
  refine Mx.of (by decide) (Nat.le_of_ble_eq_true rfl) (⟨_, rfl, rfl⟩) ?_
  exact ex_sub (lo' := [(0, .ref x0), (1, .int x1), (2, .int x2)]) [0, 1, 2] rfl (t_X11_ruleOf_0 hd _ _ _ _ _  h)
noncomputable def f_X11_begin_2 (n0 : Nat) (x0 : Nat) (x1 : Int32) (x2 : Int32) (M : Mem) : Option (Mem) :=
  match n0 with
  | 0 => none
  | n + 1 =>
    if 16 ≤ x2 then
    ((f_X11_get x0 x1 17 M).bind fun v2 =>
    (f_X11_lay x0 x1 0 v2 M).bind fun q3 =>
    some q3)
    else
    ((f_X11_lay x0 x1 x2 0 M).bind fun q4 =>
    f_X11_begin_2 n x0 x1 (x2 + 1) q4)
set_option maxHeartbeats 4000000 in
theorem t_X11_begin_2 {X : XV} {d : Nat} (hd : 2 ≤ d + 1) : ∀ (n : Nat) (x0 : Nat) (x1 : Int32) (x2 : Int32) (M : Mem) (res : Mem), f_X11_begin_2 n  x0 x1 x2 M = some res → Ex X (d + 1) mX11_begin 2 [(0, .ref x0), (1, .int x1), (2, .int x2)] [] M none res := by
  intro n
  induction n with
  | zero =>
    intro x0 x1 x2 M res  h
    unfold f_X11_begin_2 at h
    cases h
  | succ n ih =>
    intro x0 x1 x2 M res  h
    unfold f_X11_begin_2 at h
    refine ex_iload_n (pc := 2) 2 dX11_begin_2 rfl rfl ?_
    refine ex_bipush (pc := 3) 16 dX11_begin_3 (by decide) ?_
    by_cases c1 : 16 ≤ x2
    · rw [if_pos c1] at h
      refine ex_icmp_ge_t (pc := 5) 21 dX11_begin_5 rfl c1 ?_
      refine ex_aload_n (pc := 21) 0 dX11_begin_21 rfl rfl ?_
      refine ex_iload_n (pc := 22) 1 dX11_begin_22 rfl rfl ?_
      refine ex_iconst (pc := 23) 0 dX11_begin_23 rfl ?_
      refine ex_aload_n (pc := 24) 0 dX11_begin_24 rfl rfl ?_
      refine ex_iload_n (pc := 25) 1 dX11_begin_25 rfl rfl ?_
      refine ex_bipush (pc := 26) 17 dX11_begin_26 (by decide) ?_
      obtain ⟨v2, ev2, h⟩ := ob_some h
      refine ex_callV2r (pc := 28) dX11_begin_28 jX11_get lmX11_107 jiX11_get jvX11_get (o_X11_get ev2) rfl (Nat.le_of_ble_eq_true rfl) (s_X11_get (by omega)  ev2) ?_
      obtain ⟨q3, eq3, h⟩ := ob_some h
      refine ex_callV3v (pc := 31) dX11_begin_31 jX11_lay lmX11_99 jiX11_lay jvX11_lay (o_X11_lay eq3) rfl (Nat.le_of_ble_eq_true rfl) (s_X11_lay (by omega)  eq3) ?_
      cases h
      exact ex_return (pc := 34) dX11_begin_34
    · rw [if_neg c1] at h
      refine ex_icmp_ge_f (pc := 5) dX11_begin_5 21 rfl c1 ?_
      refine ex_aload_n (pc := 8) 0 dX11_begin_8 rfl rfl ?_
      refine ex_iload_n (pc := 9) 1 dX11_begin_9 rfl rfl ?_
      refine ex_iload_n (pc := 10) 2 dX11_begin_10 rfl rfl ?_
      refine ex_iconst (pc := 11) 0 dX11_begin_11 rfl ?_
      obtain ⟨q4, eq4, h⟩ := ob_some h
      refine ex_callV3v (pc := 12) dX11_begin_12 jX11_lay lmX11_99 jiX11_lay jvX11_lay (o_X11_lay eq4) rfl (Nat.le_of_ble_eq_true rfl) (s_X11_lay (by omega)  eq4) ?_
      refine ex_iinc (pc := 15) (x2 + 1) 2 [(2, .int (x2 + 1)), (0, .ref x0), (1, .int x1)] dX11_begin_15 rfl rfl (by decide) rfl ?_
      refine ex_goto (pc := 18) 2 dX11_begin_18 rfl ?_
      refine ex_sub (lo' := [(0, .ref x0), (1, .int x1), (2, .int (x2 + 1))]) [1, 2, 0] rfl ?_
      exact ih _ _ _ _ _  h
noncomputable def f_X11_begin_0 (x0 : Nat) (x1 : Int32) (M : Mem) : Option (Mem) :=
  f_X11_begin_2 fu x0 x1 0 M
set_option maxHeartbeats 4000000 in
theorem t_X11_begin_0 {X : XV} {d : Nat} (hd : 2 ≤ d + 1) : ∀ (x0 : Nat) (x1 : Int32) (M : Mem) (res : Mem), f_X11_begin_0  x0 x1 M = some res → Ex X (d + 1) mX11_begin 0 [(0, .ref x0), (1, .int x1)] [] M none res := by
  intro x0 x1 M res  h
  unfold f_X11_begin_0 at h
  refine ex_iconst (pc := 0) 0 dX11_begin_0 rfl ?_
  refine ex_istore_n (pc := 1) [(2, .int 0), (0, .ref x0), (1, .int x1)] dX11_begin_1 rfl (by decide) rfl ?_
  refine ex_sub (lo' := [(0, .ref x0), (1, .int x1), (2, .int 0)]) [1, 2, 0] rfl ?_
  exact t_X11_begin_2 hd  _ _ _ _ _ _  h
noncomputable def f_X11_begin (x0 : Nat) (x1 : Int32) (M : Mem) : Option (Mem) := if isOb M 11 x0 = true then f_X11_begin_0 x0 x1 M else none
theorem o_X11_begin {x0 : Nat} {x1 : Int32} {M : Mem} {res : Mem} (h : f_X11_begin x0 x1 M = some res) : isO M 11 x0 := by
  unfold f_X11_begin at h
  split at h
  · rename_i hc; exact isOb_iff hc
  · cases h
set_option maxHeartbeats 4000000 in
theorem s_X11_begin {X : XV} {d : Nat} (hd : 2 ≤ d) {x0 : Nat} {x1 : Int32} {M : Mem} {res : Mem} (h : f_X11_begin x0 x1 M = some res) : Mx X d mX11_begin [.ref x0, .int x1] M none res := by
  obtain ⟨d, rfl⟩ : ∃ e, d = e + 1 := ⟨d - 1, by omega⟩
  unfold f_X11_begin at h
  split at h
  rotate_left
  · cases h
  refine Mx.of (by decide) (Nat.le_of_ble_eq_true rfl) (rfl) ?_
  exact ex_sub (lo' := [(0, .ref x0), (1, .int x1)]) [0, 1] rfl (t_X11_begin_0 hd _ _ _ _  h)
noncomputable def f_X11_machine_0 (x0 : Nat) (x1 : Int32) (x2 : Int32) (M : Mem) : Option (Int32 × Mem) :=
  (f_X11_isDigit x1).bind fun v1 =>
  if v1 = false then
  (some ((-1), M))
  else
  ((f_X11_isIn x2 0 99).bind fun v3 =>
  if v3 = false then
  (some ((-1), M))
  else
  ((gR M 11 x0 0).bind fun v5 =>
  (rI M v5 0).bind fun v6 =>
  if v6 = 5 then
  (some ((-1), M))
  else
  ((gR M 11 x0 0).bind fun v8 =>
  (rI M v8 0).bind fun v9 =>
  (f_X11_lay x0 v9 16 x1 M).bind fun q10 =>
  (f_X11_lay x0 v9 17 x2 q10).bind fun q11 =>
  (f_X11_begin x0 v9 q11).bind fun q12 =>
  (gR q12 11 x0 0).bind fun v13 =>
  (rI q12 v13 0).bind fun v14 =>
  (wI q12 v13 0 (v14 + 1)).bind fun q15 =>
  some (v9, q15))))
set_option maxHeartbeats 4000000 in
theorem t_X11_machine_0 {X : XV} {d : Nat} (hd : 3 ≤ d + 1) : ∀ (x0 : Nat) (x1 : Int32) (x2 : Int32) (M : Mem) (res : Int32 × Mem), f_X11_machine_0  x0 x1 x2 M = some res → Ex X (d + 1) mX11_machine 0 [(0, .ref x0), (1, .int x1), (2, .int x2)] [] M (some (.int res.1)) res.2 := by
  intro x0 x1 x2 M res  h
  unfold f_X11_machine_0 at h
  refine ex_iload_n (pc := 0) 1 dX11_machine_0 rfl rfl ?_
  obtain ⟨v1, ev1, h⟩ := ob_some h
  refine ex_callS1r (pc := 1) dX11_machine_1 jX11_isDigit lmX11_95 jsX11_isDigit (Nat.le_of_ble_eq_true rfl) (s_X11_isDigit (by omega)  ev1) ?_
  by_cases c2 : v1 = false
  · rw [if_pos c2] at h
    refine ex_if_eq_t (pc := 4) 27 dX11_machine_4 rfl (jz_eq_t c2) ?_
    refine ex_iconst (pc := 27) (-1) dX11_machine_27 rfl ?_
    cases h
    exact ex_ireturn (pc := 28) dX11_machine_28
  · rw [if_neg c2] at h
    refine ex_if_eq_f (pc := 4) dX11_machine_4 27 rfl (jz_eq_f c2) ?_
    refine ex_iload_n (pc := 7) 2 dX11_machine_7 rfl rfl ?_
    refine ex_iconst (pc := 8) 0 dX11_machine_8 rfl ?_
    refine ex_bipush (pc := 9) 99 dX11_machine_9 (by decide) ?_
    obtain ⟨v3, ev3, h⟩ := ob_some h
    refine ex_callS3r (pc := 11) dX11_machine_11 jX11_isIn lmX11_87 jsX11_isIn (Nat.le_of_ble_eq_true rfl) (s_X11_isIn (by omega)  ev3) ?_
    by_cases c4 : v3 = false
    · rw [if_pos c4] at h
      refine ex_if_eq_t (pc := 14) 27 dX11_machine_14 rfl (jz_eq_t c4) ?_
      refine ex_iconst (pc := 27) (-1) dX11_machine_27 rfl ?_
      cases h
      exact ex_ireturn (pc := 28) dX11_machine_28
    · rw [if_neg c4] at h
      refine ex_if_eq_f (pc := 14) dX11_machine_14 27 rfl (jz_eq_f c4) ?_
      refine ex_aload_n (pc := 17) 0 dX11_machine_17 rfl rfl ?_
      obtain ⟨v5, ev5, h⟩ := ob_some h
      refine ex_gR (pc := 18) ev5 dX11_machine_18 lfX11_7 ?_
      refine ex_iconst (pc := 21) 0 dX11_machine_21 rfl ?_
      obtain ⟨v6, ev6, h⟩ := ob_some h
      refine ex_rI (pc := 22) ev6 dX11_machine_22 ?_
      refine ex_iconst (pc := 23) 5 dX11_machine_23 rfl ?_
      by_cases c7 : v6 = 5
      · rw [if_pos c7] at h
        refine ex_icmp_ne_f (pc := 24) dX11_machine_24 29 rfl c7 ?_
        refine ex_iconst (pc := 27) (-1) dX11_machine_27 rfl ?_
        cases h
        exact ex_ireturn (pc := 28) dX11_machine_28
      · rw [if_neg c7] at h
        refine ex_icmp_ne_t (pc := 24) 29 dX11_machine_24 rfl c7 ?_
        refine ex_aload_n (pc := 29) 0 dX11_machine_29 rfl rfl ?_
        obtain ⟨v8, ev8, h⟩ := ob_some h
        refine ex_gR (pc := 30) ev8 dX11_machine_30 lfX11_7 ?_
        refine ex_iconst (pc := 33) 0 dX11_machine_33 rfl ?_
        obtain ⟨v9, ev9, h⟩ := ob_some h
        refine ex_rI (pc := 34) ev9 dX11_machine_34 ?_
        refine ex_istore_n (pc := 35) [(3, .int v9), (0, .ref x0), (1, .int x1), (2, .int x2)] dX11_machine_35 rfl (by decide) rfl ?_
        refine ex_aload_n (pc := 36) 1 dX11_machine_36 rfl rfl ?_
        refine ex_iload_n (pc := 37) 0 dX11_machine_37 rfl rfl ?_
        refine ex_bipush (pc := 38) 16 dX11_machine_38 (by decide) ?_
        refine ex_iload_n (pc := 40) 2 dX11_machine_40 rfl rfl ?_
        obtain ⟨q10, eq10, h⟩ := ob_some h
        refine ex_callV3v (pc := 41) dX11_machine_41 jX11_lay lmX11_99 jiX11_lay jvX11_lay (o_X11_lay eq10) rfl (Nat.le_of_ble_eq_true rfl) (s_X11_lay (by omega)  eq10) ?_
        refine ex_aload_n (pc := 44) 1 dX11_machine_44 rfl rfl ?_
        refine ex_iload_n (pc := 45) 0 dX11_machine_45 rfl rfl ?_
        refine ex_bipush (pc := 46) 17 dX11_machine_46 (by decide) ?_
        refine ex_iload_n (pc := 48) 3 dX11_machine_48 rfl rfl ?_
        obtain ⟨q11, eq11, h⟩ := ob_some h
        refine ex_callV3v (pc := 49) dX11_machine_49 jX11_lay lmX11_99 jiX11_lay jvX11_lay (o_X11_lay eq11) rfl (Nat.le_of_ble_eq_true rfl) (s_X11_lay (by omega)  eq11) ?_
        refine ex_aload_n (pc := 52) 1 dX11_machine_52 rfl rfl ?_
        refine ex_iload_n (pc := 53) 0 dX11_machine_53 rfl rfl ?_
        obtain ⟨q12, eq12, h⟩ := ob_some h
        refine ex_callV1v (pc := 54) dX11_machine_54 jX11_begin lmX11_103 jiX11_begin jvX11_begin (o_X11_begin eq12) rfl (Nat.le_of_ble_eq_true rfl) (s_X11_begin (by omega)  eq12) ?_
        refine ex_aload_n (pc := 57) 1 dX11_machine_57 rfl rfl ?_
        obtain ⟨v13, ev13, h⟩ := ob_some h
        refine ex_gR (pc := 58) ev13 dX11_machine_58 lfX11_7 ?_
        refine ex_iconst (pc := 61) 0 dX11_machine_61 rfl ?_
        refine ex_dup2 (pc := 62) dX11_machine_62 rfl rfl ?_
        obtain ⟨v14, ev14, h⟩ := ob_some h
        refine ex_rI (pc := 63) ev14 dX11_machine_63 ?_
        refine ex_iconst (pc := 64) 1 dX11_machine_64 rfl ?_
        refine ex_iadd (pc := 65) dX11_machine_65 ?_
        obtain ⟨q15, eq15, h⟩ := ob_some h
        refine ex_wI (pc := 66) eq15 dX11_machine_66 ?_
        refine ex_iload_n (pc := 67) 0 dX11_machine_67 rfl rfl ?_
        cases h
        exact ex_ireturn (pc := 68) dX11_machine_68
noncomputable def f_X11_machine (x0 : Nat) (x1 : Int32) (x2 : Int32) (M : Mem) : Option (Int32 × Mem) := if isOb M 11 x0 = true then f_X11_machine_0 x0 x1 x2 M else none
theorem o_X11_machine {x0 : Nat} {x1 : Int32} {x2 : Int32} {M : Mem} {res : Int32 × Mem} (h : f_X11_machine x0 x1 x2 M = some res) : isO M 11 x0 := by
  unfold f_X11_machine at h
  split at h
  · rename_i hc; exact isOb_iff hc
  · cases h
set_option maxHeartbeats 4000000 in
theorem s_X11_machine {X : XV} {d : Nat} (hd : 3 ≤ d) {x0 : Nat} {x1 : Int32} {x2 : Int32} {M : Mem} {res : Int32 × Mem} (h : f_X11_machine x0 x1 x2 M = some res) : Mx X d mX11_machine [.ref x0, .int x1, .int x2] M (some (.int res.1)) res.2 := by
  obtain ⟨d, rfl⟩ : ∃ e, d = e + 1 := ⟨d - 1, by omega⟩
  unfold f_X11_machine at h
  split at h
  rotate_left
  · cases h
  refine Mx.of (by decide) (Nat.le_of_ble_eq_true rfl) (⟨_, rfl, rfl⟩) ?_
  exact ex_sub (lo' := [(0, .ref x0), (1, .int x1), (2, .int x2)]) [0, 1, 2] rfl (t_X11_machine_0 hd _ _ _ _ _  h)
noncomputable def f_X11_rule_0 (x0 : Nat) (x1 : Int32) (x2 : Bool) (x3 : Int32) (M : Mem) : Option (Bool × Mem) :=
  (f_X11_isDigit x1).bind fun v1 =>
  if v1 = false then
  (some (false, M))
  else
  ((f_X11_isIn x3 0 110).bind fun v3 =>
  if v3 = true then
  ((gR M 11 x0 0).bind fun v5 =>
  if x2 = false then
  ((wI M v5 ((101 + (2 * x1)) + 0) x3).bind fun q7 =>
  some (true, q7))
  else
  ((wI M v5 ((101 + (2 * x1)) + 1) x3).bind fun q8 =>
  some (true, q8)))
  else
  (some (false, M)))
set_option maxHeartbeats 4000000 in
theorem t_X11_rule_0 {X : XV} {d : Nat} (hd : 3 ≤ d + 1) : ∀ (x0 : Nat) (x1 : Int32) (x2 : Bool) (x3 : Int32) (M : Mem) (res : Bool × Mem), f_X11_rule_0  x0 x1 x2 x3 M = some res → Ex X (d + 1) mX11_rule 0 [(0, .ref x0), (1, .int x1), (2, .int (jz x2)), (3, .int x3)] [] M (some (.int (jz res.1))) res.2 := by
  intro x0 x1 x2 x3 M res  h
  unfold f_X11_rule_0 at h
  refine ex_iload_n (pc := 0) 1 dX11_rule_0 rfl rfl ?_
  obtain ⟨v1, ev1, h⟩ := ob_some h
  refine ex_callS1r (pc := 1) dX11_rule_1 jX11_isDigit lmX11_95 jsX11_isDigit (Nat.le_of_ble_eq_true rfl) (s_X11_isDigit (by omega)  ev1) ?_
  by_cases c2 : v1 = false
  · rw [if_pos c2] at h
    refine ex_if_eq_t (pc := 4) 17 dX11_rule_4 rfl (jz_eq_t c2) ?_
    refine ex_iconst (pc := 17) 0 dX11_rule_17 rfl ?_
    cases h
    exact ex_ireturn (pc := 18) dX11_rule_18
  · rw [if_neg c2] at h
    refine ex_if_eq_f (pc := 4) dX11_rule_4 17 rfl (jz_eq_f c2) ?_
    refine ex_iload_n (pc := 7) 3 dX11_rule_7 rfl rfl ?_
    refine ex_iconst (pc := 8) 0 dX11_rule_8 rfl ?_
    refine ex_bipush (pc := 9) 110 dX11_rule_9 (by decide) ?_
    obtain ⟨v3, ev3, h⟩ := ob_some h
    refine ex_callS3r (pc := 11) dX11_rule_11 jX11_isIn lmX11_87 jsX11_isIn (Nat.le_of_ble_eq_true rfl) (s_X11_isIn (by omega)  ev3) ?_
    by_cases c4 : v3 = true
    · rw [if_pos c4] at h
      refine ex_if_ne_t (pc := 14) 19 dX11_rule_14 rfl (jz_ne_t c4) ?_
      refine ex_aload_n (pc := 19) 0 dX11_rule_19 rfl rfl ?_
      obtain ⟨v5, ev5, h⟩ := ob_some h
      refine ex_gR (pc := 20) ev5 dX11_rule_20 lfX11_7 ?_
      refine ex_bipush (pc := 23) 101 dX11_rule_23 (by decide) ?_
      refine ex_iconst (pc := 25) 2 dX11_rule_25 rfl ?_
      refine ex_iload_n (pc := 26) 1 dX11_rule_26 rfl rfl ?_
      refine ex_imul (pc := 27) dX11_rule_27 ?_
      refine ex_iadd (pc := 28) dX11_rule_28 ?_
      refine ex_iload_n (pc := 29) 2 dX11_rule_29 rfl rfl ?_
      by_cases c6 : x2 = false
      · rw [if_pos c6] at h
        refine ex_if_eq_t (pc := 30) 37 dX11_rule_30 rfl (jz_eq_t c6) ?_
        refine ex_iconst (pc := 37) 0 dX11_rule_37 rfl ?_
        refine ex_iadd (pc := 38) dX11_rule_38 ?_
        refine ex_iload_n (pc := 39) 3 dX11_rule_39 rfl rfl ?_
        obtain ⟨q7, eq7, h⟩ := ob_some h
        refine ex_wI (pc := 40) eq7 dX11_rule_40 ?_
        refine ex_iconst (pc := 41) 1 dX11_rule_41 rfl ?_
        cases h
        exact ex_ireturn (pc := 42) dX11_rule_42
      · rw [if_neg c6] at h
        refine ex_if_eq_f (pc := 30) dX11_rule_30 37 rfl (jz_eq_f c6) ?_
        refine ex_iconst (pc := 33) 1 dX11_rule_33 rfl ?_
        refine ex_goto (pc := 34) 38 dX11_rule_34 rfl ?_
        refine ex_iadd (pc := 38) dX11_rule_38 ?_
        refine ex_iload_n (pc := 39) 3 dX11_rule_39 rfl rfl ?_
        obtain ⟨q8, eq8, h⟩ := ob_some h
        refine ex_wI (pc := 40) eq8 dX11_rule_40 ?_
        refine ex_iconst (pc := 41) 1 dX11_rule_41 rfl ?_
        cases h
        exact ex_ireturn (pc := 42) dX11_rule_42
    · rw [if_neg c4] at h
      refine ex_if_ne_f (pc := 14) dX11_rule_14 19 rfl (jz_ne_f c4) ?_
      refine ex_iconst (pc := 17) 0 dX11_rule_17 rfl ?_
      cases h
      exact ex_ireturn (pc := 18) dX11_rule_18
noncomputable def f_X11_rule (x0 : Nat) (x1 : Int32) (x2 : Bool) (x3 : Int32) (M : Mem) : Option (Bool × Mem) := if isOb M 11 x0 = true then f_X11_rule_0 x0 x1 x2 x3 M else none
theorem o_X11_rule {x0 : Nat} {x1 : Int32} {x2 : Bool} {x3 : Int32} {M : Mem} {res : Bool × Mem} (h : f_X11_rule x0 x1 x2 x3 M = some res) : isO M 11 x0 := by
  unfold f_X11_rule at h
  split at h
  · rename_i hc; exact isOb_iff hc
  · cases h
set_option maxHeartbeats 4000000 in
theorem s_X11_rule {X : XV} {d : Nat} (hd : 3 ≤ d) {x0 : Nat} {x1 : Int32} {x2 : Bool} {x3 : Int32} {M : Mem} {res : Bool × Mem} (h : f_X11_rule x0 x1 x2 x3 M = some res) : Mx X d mX11_rule [.ref x0, .int x1, .int (jz x2), .int x3] M (some (.int (jz res.1))) res.2 := by
  obtain ⟨d, rfl⟩ : ∃ e, d = e + 1 := ⟨d - 1, by omega⟩
  unfold f_X11_rule at h
  split at h
  rotate_left
  · cases h
  refine Mx.of (by decide) (Nat.le_of_ble_eq_true rfl) (⟨_, rfl, jz_nar _⟩) ?_
  exact ex_sub (lo' := [(0, .ref x0), (1, .int x1), (2, .int (jz x2)), (3, .int x3)]) [0, 1, 2, 3] rfl (t_X11_rule_0 hd _ _ _ _ _ _  h)
noncomputable def f_X11_four_3 (n0 : Nat) (x0 : Nat) (x1 : Int32) (x2 : Int32) (M : Mem) : Option (Mem) :=
  match n0 with
  | 0 => none
  | n + 1 =>
    if x2 < 0 then
    (some M)
    else
    ((gR M 11 x0 3).bind fun v2 =>
    (gI M 11 x0 4).bind fun v3 =>
    (wI M v2 v3 ((jshr x1 x2) &&& 255)).bind fun q4 =>
    (gI q4 11 x0 4).bind fun v5 =>
    (pF q4 11 x0 4 (.int (v5 + 1))).bind fun q6 =>
    f_X11_four_3 n x0 x1 (x2 + (-8)) q6)
set_option maxHeartbeats 4000000 in
theorem t_X11_four_3 {X : XV} {d : Nat} (hd : 1 ≤ d + 1) : ∀ (n : Nat) (x0 : Nat) (x1 : Int32) (x2 : Int32) (M : Mem) (res : Mem), f_X11_four_3 n  x0 x1 x2 M = some res → Ex X (d + 1) mX11_four 3 [(0, .ref x0), (1, .int x1), (2, .int x2)] [] M none res := by
  intro n
  induction n with
  | zero =>
    intro x0 x1 x2 M res  h
    unfold f_X11_four_3 at h
    cases h
  | succ n ih =>
    intro x0 x1 x2 M res  h
    unfold f_X11_four_3 at h
    refine ex_iload_n (pc := 3) 2 dX11_four_3 rfl rfl ?_
    by_cases c1 : x2 < 0
    · rw [if_pos c1] at h
      refine ex_if_lt_t (pc := 4) 39 dX11_four_4 rfl c1 ?_
      cases h
      exact ex_return (pc := 39) dX11_four_39
    · rw [if_neg c1] at h
      refine ex_if_lt_f (pc := 4) dX11_four_4 39 rfl c1 ?_
      refine ex_aload_n (pc := 7) 0 dX11_four_7 rfl rfl ?_
      obtain ⟨v2, ev2, h⟩ := ob_some h
      refine ex_gR (pc := 8) ev2 dX11_four_8 lfX11_19 ?_
      refine ex_aload_n (pc := 11) 0 dX11_four_11 rfl rfl ?_
      obtain ⟨v3, ev3, h⟩ := ob_some h
      refine ex_gI (pc := 12) ev3 dX11_four_12 lfX11_111 ?_
      refine ex_iload_n (pc := 15) 1 dX11_four_15 rfl rfl ?_
      refine ex_iload_n (pc := 16) 2 dX11_four_16 rfl rfl ?_
      refine ex_ishr (pc := 17) dX11_four_17 ?_
      refine ex_sipush (pc := 18) 255 dX11_four_18 (by decide) ?_
      refine ex_iand (pc := 21) dX11_four_21 ?_
      obtain ⟨q4, eq4, h⟩ := ob_some h
      refine ex_wI (pc := 22) eq4 dX11_four_22 ?_
      refine ex_aload_n (pc := 23) 0 dX11_four_23 rfl rfl ?_
      refine ex_dup (pc := 24) dX11_four_24 rfl ?_
      obtain ⟨v5, ev5, h⟩ := ob_some h
      refine ex_gI (pc := 25) ev5 dX11_four_25 lfX11_111 ?_
      refine ex_iconst (pc := 28) 1 dX11_four_28 rfl ?_
      refine ex_iadd (pc := 29) dX11_four_29 ?_
      obtain ⟨q6, eq6, h⟩ := ob_some h
      refine ex_pF (pc := 30) eq6 dX11_four_30 lfX11_111 rfl rfl (fun _ hq => by cases hq; rfl) ?_
      refine ex_iinc (pc := 33) (x2 + (-8)) 2 [(2, .int (x2 + (-8))), (0, .ref x0), (1, .int x1)] dX11_four_33 rfl rfl (by decide) rfl ?_
      refine ex_goto (pc := 36) 3 dX11_four_36 rfl ?_
      refine ex_sub (lo' := [(0, .ref x0), (1, .int x1), (2, .int (x2 + (-8)))]) [1, 2, 0] rfl ?_
      exact ih _ _ _ _ _  h
noncomputable def f_X11_four_0 (x0 : Nat) (x1 : Int32) (M : Mem) : Option (Mem) :=
  f_X11_four_3 fu x0 x1 24 M
set_option maxHeartbeats 4000000 in
theorem t_X11_four_0 {X : XV} {d : Nat} (hd : 1 ≤ d + 1) : ∀ (x0 : Nat) (x1 : Int32) (M : Mem) (res : Mem), f_X11_four_0  x0 x1 M = some res → Ex X (d + 1) mX11_four 0 [(0, .ref x0), (1, .int x1)] [] M none res := by
  intro x0 x1 M res  h
  unfold f_X11_four_0 at h
  refine ex_bipush (pc := 0) 24 dX11_four_0 (by decide) ?_
  refine ex_istore_n (pc := 2) [(2, .int 24), (0, .ref x0), (1, .int x1)] dX11_four_2 rfl (by decide) rfl ?_
  refine ex_sub (lo' := [(0, .ref x0), (1, .int x1), (2, .int 24)]) [1, 2, 0] rfl ?_
  exact t_X11_four_3 hd  _ _ _ _ _ _  h
noncomputable def f_X11_four (x0 : Nat) (x1 : Int32) (M : Mem) : Option (Mem) := if isOb M 11 x0 = true then f_X11_four_0 x0 x1 M else none
theorem o_X11_four {x0 : Nat} {x1 : Int32} {M : Mem} {res : Mem} (h : f_X11_four x0 x1 M = some res) : isO M 11 x0 := by
  unfold f_X11_four at h
  split at h
  · rename_i hc; exact isOb_iff hc
  · cases h
set_option maxHeartbeats 4000000 in
theorem s_X11_four {X : XV} {d : Nat} (hd : 1 ≤ d) {x0 : Nat} {x1 : Int32} {M : Mem} {res : Mem} (h : f_X11_four x0 x1 M = some res) : Mx X d mX11_four [.ref x0, .int x1] M none res := by
  obtain ⟨d, rfl⟩ : ∃ e, d = e + 1 := ⟨d - 1, by omega⟩
  unfold f_X11_four at h
  split at h
  rotate_left
  · cases h
  refine Mx.of (by decide) (Nat.le_of_ble_eq_true rfl) (rfl) ?_
  exact ex_sub (lo' := [(0, .ref x0), (1, .int x1)]) [0, 1] rfl (t_X11_four_0 hd _ _ _ _  h)
noncomputable def f_X11_feed_0 (x0 : Nat) (x1 : Int32) (x2 : Int32) (x3 : Int32) (x4 : Int32) (x5 : Int32) (M : Mem) : Option (Int32 × Mem) :=
  (gI M 11 x0 4).bind fun v1 =>
  if (v1 + 20) ≤ 300 then
  ((f_X11_four x0 x1 M).bind fun q3 =>
  (f_X11_four x0 x2 q3).bind fun q4 =>
  (f_X11_four x0 x3 q4).bind fun q5 =>
  (f_X11_four x0 x4 q5).bind fun q6 =>
  (f_X11_four x0 x5 q6).bind fun q7 =>
  (gI q7 11 x0 4).bind fun v8 =>
  some (v8, q7))
  else
  (some ((-1), M))
set_option maxHeartbeats 4000000 in
theorem t_X11_feed_0 {X : XV} {d : Nat} (hd : 2 ≤ d + 1) : ∀ (x0 : Nat) (x1 : Int32) (x2 : Int32) (x3 : Int32) (x4 : Int32) (x5 : Int32) (M : Mem) (res : Int32 × Mem), f_X11_feed_0  x0 x1 x2 x3 x4 x5 M = some res → Ex X (d + 1) mX11_feed 0 [(0, .ref x0), (1, .int x1), (2, .int x2), (3, .int x3), (4, .int x4), (5, .int x5)] [] M (some (.int res.1)) res.2 := by
  intro x0 x1 x2 x3 x4 x5 M res  h
  unfold f_X11_feed_0 at h
  refine ex_aload_n (pc := 0) 0 dX11_feed_0 rfl rfl ?_
  obtain ⟨v1, ev1, h⟩ := ob_some h
  refine ex_gI (pc := 1) ev1 dX11_feed_1 lfX11_111 ?_
  refine ex_bipush (pc := 4) 20 dX11_feed_4 (by decide) ?_
  refine ex_iadd (pc := 6) dX11_feed_6 ?_
  refine ex_sipush (pc := 7) 300 dX11_feed_7 (by decide) ?_
  by_cases c2 : (v1 + 20) ≤ 300
  · rw [if_pos c2] at h
    refine ex_icmp_le_t (pc := 10) 15 dX11_feed_10 rfl c2 ?_
    refine ex_aload_n (pc := 15) 0 dX11_feed_15 rfl rfl ?_
    refine ex_iload_n (pc := 16) 1 dX11_feed_16 rfl rfl ?_
    obtain ⟨q3, eq3, h⟩ := ob_some h
    refine ex_callV1v (pc := 17) dX11_feed_17 jX11_four lmX11_114 jiX11_four jvX11_four (o_X11_four eq3) rfl (Nat.le_of_ble_eq_true rfl) (s_X11_four (by omega)  eq3) ?_
    refine ex_aload_n (pc := 20) 0 dX11_feed_20 rfl rfl ?_
    refine ex_iload_n (pc := 21) 2 dX11_feed_21 rfl rfl ?_
    obtain ⟨q4, eq4, h⟩ := ob_some h
    refine ex_callV1v (pc := 22) dX11_feed_22 jX11_four lmX11_114 jiX11_four jvX11_four (o_X11_four eq4) rfl (Nat.le_of_ble_eq_true rfl) (s_X11_four (by omega)  eq4) ?_
    refine ex_aload_n (pc := 25) 0 dX11_feed_25 rfl rfl ?_
    refine ex_iload_n (pc := 26) 3 dX11_feed_26 rfl rfl ?_
    obtain ⟨q5, eq5, h⟩ := ob_some h
    refine ex_callV1v (pc := 27) dX11_feed_27 jX11_four lmX11_114 jiX11_four jvX11_four (o_X11_four eq5) rfl (Nat.le_of_ble_eq_true rfl) (s_X11_four (by omega)  eq5) ?_
    refine ex_aload_n (pc := 30) 0 dX11_feed_30 rfl rfl ?_
    refine ex_iload (pc := 31) 4 dX11_feed_31 rfl ?_
    obtain ⟨q6, eq6, h⟩ := ob_some h
    refine ex_callV1v (pc := 33) dX11_feed_33 jX11_four lmX11_114 jiX11_four jvX11_four (o_X11_four eq6) rfl (Nat.le_of_ble_eq_true rfl) (s_X11_four (by omega)  eq6) ?_
    refine ex_aload_n (pc := 36) 0 dX11_feed_36 rfl rfl ?_
    refine ex_iload (pc := 37) 5 dX11_feed_37 rfl ?_
    obtain ⟨q7, eq7, h⟩ := ob_some h
    refine ex_callV1v (pc := 39) dX11_feed_39 jX11_four lmX11_114 jiX11_four jvX11_four (o_X11_four eq7) rfl (Nat.le_of_ble_eq_true rfl) (s_X11_four (by omega)  eq7) ?_
    refine ex_aload_n (pc := 42) 0 dX11_feed_42 rfl rfl ?_
    obtain ⟨v8, ev8, h⟩ := ob_some h
    refine ex_gI (pc := 43) ev8 dX11_feed_43 lfX11_111 ?_
    cases h
    exact ex_ireturn (pc := 46) dX11_feed_46
  · rw [if_neg c2] at h
    refine ex_icmp_le_f (pc := 10) dX11_feed_10 15 rfl c2 ?_
    refine ex_iconst (pc := 13) (-1) dX11_feed_13 rfl ?_
    cases h
    exact ex_ireturn (pc := 14) dX11_feed_14
noncomputable def f_X11_feed (x0 : Nat) (x1 : Int32) (x2 : Int32) (x3 : Int32) (x4 : Int32) (x5 : Int32) (M : Mem) : Option (Int32 × Mem) := if isOb M 11 x0 = true then f_X11_feed_0 x0 x1 x2 x3 x4 x5 M else none
theorem o_X11_feed {x0 : Nat} {x1 : Int32} {x2 : Int32} {x3 : Int32} {x4 : Int32} {x5 : Int32} {M : Mem} {res : Int32 × Mem} (h : f_X11_feed x0 x1 x2 x3 x4 x5 M = some res) : isO M 11 x0 := by
  unfold f_X11_feed at h
  split at h
  · rename_i hc; exact isOb_iff hc
  · cases h
set_option maxHeartbeats 4000000 in
theorem s_X11_feed {X : XV} {d : Nat} (hd : 2 ≤ d) {x0 : Nat} {x1 : Int32} {x2 : Int32} {x3 : Int32} {x4 : Int32} {x5 : Int32} {M : Mem} {res : Int32 × Mem} (h : f_X11_feed x0 x1 x2 x3 x4 x5 M = some res) : Mx X d mX11_feed [.ref x0, .int x1, .int x2, .int x3, .int x4, .int x5] M (some (.int res.1)) res.2 := by
  obtain ⟨d, rfl⟩ : ∃ e, d = e + 1 := ⟨d - 1, by omega⟩
  unfold f_X11_feed at h
  split at h
  rotate_left
  · cases h
  refine Mx.of (by decide) (Nat.le_of_ble_eq_true rfl) (⟨_, rfl, rfl⟩) ?_
  exact ex_sub (lo' := [(0, .ref x0), (1, .int x1), (2, .int x2), (3, .int x3), (4, .int x4), (5, .int x5)]) [0, 1, 2, 3, 4, 5] rfl (t_X11_feed_0 hd _ _ _ _ _ _ _ _  h)
noncomputable def f_X11_end_0 (x0 : Nat) (x1 : Int32) (M : Mem) : Option (Int32 × Mem) :=
  (gI M 11 x0 4).bind fun v1 =>
  (f_X11_isIn x1 0 v1).bind fun v2 =>
  if v2 = true then
  ((pF M 11 x0 4 (.int x1)).bind fun q4 =>
  some (x1, q4))
  else
  (some ((-1), M))
set_option maxHeartbeats 4000000 in
theorem t_X11_end_0 {X : XV} {d : Nat} (hd : 2 ≤ d + 1) : ∀ (x0 : Nat) (x1 : Int32) (M : Mem) (res : Int32 × Mem), f_X11_end_0  x0 x1 M = some res → Ex X (d + 1) mX11_end 0 [(0, .ref x0), (1, .int x1)] [] M (some (.int res.1)) res.2 := by
  intro x0 x1 M res  h
  unfold f_X11_end_0 at h
  refine ex_iload_n (pc := 0) 1 dX11_end_0 rfl rfl ?_
  refine ex_iconst (pc := 1) 0 dX11_end_1 rfl ?_
  refine ex_aload_n (pc := 2) 0 dX11_end_2 rfl rfl ?_
  obtain ⟨v1, ev1, h⟩ := ob_some h
  refine ex_gI (pc := 3) ev1 dX11_end_3 lfX11_111 ?_
  obtain ⟨v2, ev2, h⟩ := ob_some h
  refine ex_callS3r (pc := 6) dX11_end_6 jX11_isIn lmX11_87 jsX11_isIn (Nat.le_of_ble_eq_true rfl) (s_X11_isIn (by omega)  ev2) ?_
  by_cases c3 : v2 = true
  · rw [if_pos c3] at h
    refine ex_if_ne_t (pc := 9) 14 dX11_end_9 rfl (jz_ne_t c3) ?_
    refine ex_aload_n (pc := 14) 0 dX11_end_14 rfl rfl ?_
    refine ex_iload_n (pc := 15) 1 dX11_end_15 rfl rfl ?_
    obtain ⟨q4, eq4, h⟩ := ob_some h
    refine ex_pF (pc := 16) eq4 dX11_end_16 lfX11_111 rfl rfl (fun _ hq => by cases hq; rfl) ?_
    refine ex_iload_n (pc := 19) 1 dX11_end_19 rfl rfl ?_
    cases h
    exact ex_ireturn (pc := 20) dX11_end_20
  · rw [if_neg c3] at h
    refine ex_if_ne_f (pc := 9) dX11_end_9 14 rfl (jz_ne_f c3) ?_
    refine ex_iconst (pc := 12) (-1) dX11_end_12 rfl ?_
    cases h
    exact ex_ireturn (pc := 13) dX11_end_13
noncomputable def f_X11_end (x0 : Nat) (x1 : Int32) (M : Mem) : Option (Int32 × Mem) := if isOb M 11 x0 = true then f_X11_end_0 x0 x1 M else none
theorem o_X11_end {x0 : Nat} {x1 : Int32} {M : Mem} {res : Int32 × Mem} (h : f_X11_end x0 x1 M = some res) : isO M 11 x0 := by
  unfold f_X11_end at h
  split at h
  · rename_i hc; exact isOb_iff hc
  · cases h
set_option maxHeartbeats 4000000 in
theorem s_X11_end {X : XV} {d : Nat} (hd : 2 ≤ d) {x0 : Nat} {x1 : Int32} {M : Mem} {res : Int32 × Mem} (h : f_X11_end x0 x1 M = some res) : Mx X d mX11_end [.ref x0, .int x1] M (some (.int res.1)) res.2 := by
  obtain ⟨d, rfl⟩ : ∃ e, d = e + 1 := ⟨d - 1, by omega⟩
  unfold f_X11_end at h
  split at h
  rotate_left
  · cases h
  refine Mx.of (by decide) (Nat.le_of_ble_eq_true rfl) (⟨_, rfl, rfl⟩) ?_
  exact ex_sub (lo' := [(0, .ref x0), (1, .int x1)]) [0, 1] rfl (t_X11_end_0 hd _ _ _ _  h)
noncomputable def f_X11_byteAt_0 (x0 : Nat) (x1 : Int32) (M : Mem) : Option (Int32) :=
  (gI M 11 x0 4).bind fun v1 =>
  if v1 ≤ x1 then
  (some (-1))
  else
  ((gR M 11 x0 3).bind fun v3 =>
  (rI M v3 x1).bind fun v4 =>
  some v4)
set_option maxHeartbeats 4000000 in
theorem t_X11_byteAt_0 {X : XV} {d : Nat} (hd : 1 ≤ d + 1) : ∀ (x0 : Nat) (x1 : Int32) (M : Mem) (res : Int32), f_X11_byteAt_0  x0 x1 M = some res → Ex X (d + 1) mX11_byteAt 0 [(0, .ref x0), (1, .int x1)] [] M (some (.int res)) M := by
  intro x0 x1 M res  h
  unfold f_X11_byteAt_0 at h
  refine ex_iload_n (pc := 0) 1 dX11_byteAt_0 rfl rfl ?_
  refine ex_aload_n (pc := 1) 0 dX11_byteAt_1 rfl rfl ?_
  obtain ⟨v1, ev1, h⟩ := ob_some h
  refine ex_gI (pc := 2) ev1 dX11_byteAt_2 lfX11_111 ?_
  by_cases c2 : v1 ≤ x1
  · rw [if_pos c2] at h
    refine ex_icmp_ge_t (pc := 5) 17 dX11_byteAt_5 rfl c2 ?_
    refine ex_iconst (pc := 17) (-1) dX11_byteAt_17 rfl ?_
    cases h
    exact ex_ireturn (pc := 18) dX11_byteAt_18
  · rw [if_neg c2] at h
    refine ex_icmp_ge_f (pc := 5) dX11_byteAt_5 17 rfl c2 ?_
    refine ex_aload_n (pc := 8) 0 dX11_byteAt_8 rfl rfl ?_
    obtain ⟨v3, ev3, h⟩ := ob_some h
    refine ex_gR (pc := 9) ev3 dX11_byteAt_9 lfX11_19 ?_
    refine ex_iload_n (pc := 12) 1 dX11_byteAt_12 rfl rfl ?_
    obtain ⟨v4, ev4, h⟩ := ob_some h
    refine ex_rI (pc := 13) ev4 dX11_byteAt_13 ?_
    refine ex_goto (pc := 14) 18 dX11_byteAt_14 rfl ?_
    cases h
    exact ex_ireturn (pc := 18) dX11_byteAt_18
noncomputable def f_X11_byteAt (x0 : Nat) (x1 : Int32) (M : Mem) : Option (Int32) := if isOb M 11 x0 = true then f_X11_byteAt_0 x0 x1 M else none
theorem o_X11_byteAt {x0 : Nat} {x1 : Int32} {M : Mem} {res : Int32} (h : f_X11_byteAt x0 x1 M = some res) : isO M 11 x0 := by
  unfold f_X11_byteAt at h
  split at h
  · rename_i hc; exact isOb_iff hc
  · cases h
set_option maxHeartbeats 4000000 in
theorem s_X11_byteAt {X : XV} {d : Nat} (hd : 1 ≤ d) {x0 : Nat} {x1 : Int32} {M : Mem} {res : Int32} (h : f_X11_byteAt x0 x1 M = some res) : Mx X d mX11_byteAt [.ref x0, .int x1] M (some (.int res)) M := by
  obtain ⟨d, rfl⟩ : ∃ e, d = e + 1 := ⟨d - 1, by omega⟩
  unfold f_X11_byteAt at h
  split at h
  rotate_left
  · cases h
  refine Mx.of (by decide) (Nat.le_of_ble_eq_true rfl) (⟨_, rfl, rfl⟩) ?_
  exact ex_sub (lo' := [(0, .ref x0), (1, .int x1)]) [0, 1] rfl (t_X11_byteAt_0 hd _ _ _ _  h)
noncomputable def f_X11_isLetterByte_12 (x0 : Int32) : Option (Bool) :=
  if x0 < 65 then
  (some false)
  else
  (if 90 < x0 then
  (some false)
  else
  (some true))
set_option maxHeartbeats 4000000 in
theorem t_X11_isLetterByte_12 {X : XV} {d : Nat} {M : Mem} (hd : 1 ≤ d + 1) : ∀ (x0 : Int32) (res : Bool), f_X11_isLetterByte_12  x0 = some res → Ex X (d + 1) mX11_isLetterByte 12 [(0, .int x0)] [] M (some (.int (jz res))) M := by
  intro x0 res  h
  unfold f_X11_isLetterByte_12 at h
  refine ex_iload_n (pc := 12) 0 dX11_isLetterByte_12 rfl rfl ?_
  refine ex_bipush (pc := 13) 65 dX11_isLetterByte_13 (by decide) ?_
  by_cases c1 : x0 < 65
  · rw [if_pos c1] at h
    refine ex_icmp_lt_t (pc := 15) 28 dX11_isLetterByte_15 rfl c1 ?_
    refine ex_iconst (pc := 28) 0 dX11_isLetterByte_28 rfl ?_
    cases h
    exact ex_ireturn (pc := 29) dX11_isLetterByte_29
  · rw [if_neg c1] at h
    refine ex_icmp_lt_f (pc := 15) dX11_isLetterByte_15 28 rfl c1 ?_
    refine ex_iload_n (pc := 18) 0 dX11_isLetterByte_18 rfl rfl ?_
    refine ex_bipush (pc := 19) 90 dX11_isLetterByte_19 (by decide) ?_
    by_cases c2 : 90 < x0
    · rw [if_pos c2] at h
      refine ex_icmp_gt_t (pc := 21) 28 dX11_isLetterByte_21 rfl c2 ?_
      refine ex_iconst (pc := 28) 0 dX11_isLetterByte_28 rfl ?_
      cases h
      exact ex_ireturn (pc := 29) dX11_isLetterByte_29
    · rw [if_neg c2] at h
      refine ex_icmp_gt_f (pc := 21) dX11_isLetterByte_21 28 rfl c2 ?_
      refine ex_iconst (pc := 24) 1 dX11_isLetterByte_24 rfl ?_
      refine ex_goto (pc := 25) 29 dX11_isLetterByte_25 rfl ?_
      cases h
      exact ex_ireturn (pc := 29) dX11_isLetterByte_29
noncomputable def f_X11_isLetterByte_0 (x0 : Int32) : Option (Bool) :=
  if x0 < 97 then
  (f_X11_isLetterByte_12 x0)
  else
  (if x0 ≤ 122 then
  (some true)
  else
  (f_X11_isLetterByte_12 x0))
set_option maxHeartbeats 4000000 in
theorem t_X11_isLetterByte_0 {X : XV} {d : Nat} {M : Mem} (hd : 1 ≤ d + 1) : ∀ (x0 : Int32) (res : Bool), f_X11_isLetterByte_0  x0 = some res → Ex X (d + 1) mX11_isLetterByte 0 [(0, .int x0)] [] M (some (.int (jz res))) M := by
  intro x0 res  h
  unfold f_X11_isLetterByte_0 at h
  refine ex_iload_n (pc := 0) 0 dX11_isLetterByte_0 rfl rfl ?_
  refine ex_bipush (pc := 1) 97 dX11_isLetterByte_1 (by decide) ?_
  by_cases c3 : x0 < 97
  · rw [if_pos c3] at h
    refine ex_icmp_lt_t (pc := 3) 12 dX11_isLetterByte_3 rfl c3 ?_
    refine ex_sub (lo' := [(0, .int x0)]) [0] rfl ?_
    exact t_X11_isLetterByte_12 hd  _ _  h
  · rw [if_neg c3] at h
    refine ex_icmp_lt_f (pc := 3) dX11_isLetterByte_3 12 rfl c3 ?_
    refine ex_iload_n (pc := 6) 0 dX11_isLetterByte_6 rfl rfl ?_
    refine ex_bipush (pc := 7) 122 dX11_isLetterByte_7 (by decide) ?_
    by_cases c4 : x0 ≤ 122
    · rw [if_pos c4] at h
      refine ex_icmp_le_t (pc := 9) 24 dX11_isLetterByte_9 rfl c4 ?_
      refine ex_iconst (pc := 24) 1 dX11_isLetterByte_24 rfl ?_
      refine ex_goto (pc := 25) 29 dX11_isLetterByte_25 rfl ?_
      cases h
      exact ex_ireturn (pc := 29) dX11_isLetterByte_29
    · rw [if_neg c4] at h
      refine ex_icmp_le_f (pc := 9) dX11_isLetterByte_9 24 rfl c4 ?_
      refine ex_sub (lo' := [(0, .int x0)]) [0] rfl ?_
      exact t_X11_isLetterByte_12 hd  _ _  h
noncomputable def f_X11_isLetterByte (x0 : Int32) : Option (Bool) := f_X11_isLetterByte_0 x0
set_option maxHeartbeats 4000000 in
theorem s_X11_isLetterByte {X : XV} {d : Nat} (hd : 1 ≤ d) {x0 : Int32} {M : Mem} {res : Bool} (h : f_X11_isLetterByte x0 = some res) : Mx X d mX11_isLetterByte [.int x0] M (some (.int (jz res))) M := by
  obtain ⟨d, rfl⟩ : ∃ e, d = e + 1 := ⟨d - 1, by omega⟩
  unfold f_X11_isLetterByte at h
  refine Mx.of (by decide) (Nat.le_of_ble_eq_true rfl) (⟨_, rfl, jz_nar _⟩) ?_
  exact ex_sub (lo' := [(0, .int x0)]) [0] rfl (t_X11_isLetterByte_0 hd _ _  h)
noncomputable def f_X11_isFigure_0 (x0 : Int32) : Option (Bool) :=
  if x0 < 48 then
  (some false)
  else
  (if 57 < x0 then
  (some false)
  else
  (some true))
set_option maxHeartbeats 4000000 in
theorem t_X11_isFigure_0 {X : XV} {d : Nat} {M : Mem} (hd : 1 ≤ d + 1) : ∀ (x0 : Int32) (res : Bool), f_X11_isFigure_0  x0 = some res → Ex X (d + 1) mX11_isFigure 0 [(0, .int x0)] [] M (some (.int (jz res))) M := by
  intro x0 res  h
  unfold f_X11_isFigure_0 at h
  refine ex_iload_n (pc := 0) 0 dX11_isFigure_0 rfl rfl ?_
  refine ex_bipush (pc := 1) 48 dX11_isFigure_1 (by decide) ?_
  by_cases c1 : x0 < 48
  · rw [if_pos c1] at h
    refine ex_icmp_lt_t (pc := 3) 16 dX11_isFigure_3 rfl c1 ?_
    refine ex_iconst (pc := 16) 0 dX11_isFigure_16 rfl ?_
    cases h
    exact ex_ireturn (pc := 17) dX11_isFigure_17
  · rw [if_neg c1] at h
    refine ex_icmp_lt_f (pc := 3) dX11_isFigure_3 16 rfl c1 ?_
    refine ex_iload_n (pc := 6) 0 dX11_isFigure_6 rfl rfl ?_
    refine ex_bipush (pc := 7) 57 dX11_isFigure_7 (by decide) ?_
    by_cases c2 : 57 < x0
    · rw [if_pos c2] at h
      refine ex_icmp_gt_t (pc := 9) 16 dX11_isFigure_9 rfl c2 ?_
      refine ex_iconst (pc := 16) 0 dX11_isFigure_16 rfl ?_
      cases h
      exact ex_ireturn (pc := 17) dX11_isFigure_17
    · rw [if_neg c2] at h
      refine ex_icmp_gt_f (pc := 9) dX11_isFigure_9 16 rfl c2 ?_
      refine ex_iconst (pc := 12) 1 dX11_isFigure_12 rfl ?_
      refine ex_goto (pc := 13) 17 dX11_isFigure_13 rfl ?_
      cases h
      exact ex_ireturn (pc := 17) dX11_isFigure_17
noncomputable def f_X11_isFigure (x0 : Int32) : Option (Bool) := f_X11_isFigure_0 x0
set_option maxHeartbeats 4000000 in
theorem s_X11_isFigure {X : XV} {d : Nat} (hd : 1 ≤ d) {x0 : Int32} {M : Mem} {res : Bool} (h : f_X11_isFigure x0 = some res) : Mx X d mX11_isFigure [.int x0] M (some (.int (jz res))) M := by
  obtain ⟨d, rfl⟩ : ∃ e, d = e + 1 := ⟨d - 1, by omega⟩
  unfold f_X11_isFigure at h
  refine Mx.of (by decide) (Nat.le_of_ble_eq_true rfl) (⟨_, rfl, jz_nar _⟩) ?_
  exact ex_sub (lo' := [(0, .int x0)]) [0] rfl (t_X11_isFigure_0 hd _ _  h)
noncomputable def f_X11_isSign_0 (x0 : Int32) : Option (Bool) :=
  if x0 = 35 then
  (some true)
  else
  (if x0 = 40 then
  (some true)
  else
  (if x0 = 41 then
  (some true)
  else
  (if x0 = 42 then
  (some true)
  else
  (if x0 = 43 then
  (some true)
  else
  (if x0 = 45 then
  (some true)
  else
  (if x0 = 47 then
  (some true)
  else
  (if x0 = 58 then
  (some true)
  else
  (if x0 = 59 then
  (some true)
  else
  (if x0 = 60 then
  (some true)
  else
  (if x0 = 61 then
  (some true)
  else
  (if x0 = 62 then
  (some true)
  else
  (some false))))))))))))
set_option maxHeartbeats 4000000 in
theorem t_X11_isSign_0 {X : XV} {d : Nat} {M : Mem} (hd : 1 ≤ d + 1) : ∀ (x0 : Int32) (res : Bool), f_X11_isSign_0  x0 = some res → Ex X (d + 1) mX11_isSign 0 [(0, .int x0)] [] M (some (.int (jz res))) M := by
  intro x0 res  h
  unfold f_X11_isSign_0 at h
  refine ex_iload_n (pc := 0) 0 dX11_isSign_0 rfl rfl ?_
  by_cases c1 : x0 = 35
  · rw [if_pos c1] at h
    refine ex_tabIn (pc := 1) 128 dX11_isSign_1 (by rw [c1]; decide) (by rw [c1]; decide) (by rw [c1]; rfl) rfl ?_
    refine ex_iconst (pc := 128) 1 dX11_isSign_128 rfl ?_
    cases h
    exact ex_ireturn (pc := 129) dX11_isSign_129
  · rw [if_neg c1] at h
    by_cases c2 : x0 = 40
    · rw [if_pos c2] at h
      refine ex_tabIn (pc := 1) 128 dX11_isSign_1 (by rw [c2]; decide) (by rw [c2]; decide) (by rw [c2]; rfl) rfl ?_
      refine ex_iconst (pc := 128) 1 dX11_isSign_128 rfl ?_
      cases h
      exact ex_ireturn (pc := 129) dX11_isSign_129
    · rw [if_neg c2] at h
      by_cases c3 : x0 = 41
      · rw [if_pos c3] at h
        refine ex_tabIn (pc := 1) 128 dX11_isSign_1 (by rw [c3]; decide) (by rw [c3]; decide) (by rw [c3]; rfl) rfl ?_
        refine ex_iconst (pc := 128) 1 dX11_isSign_128 rfl ?_
        cases h
        exact ex_ireturn (pc := 129) dX11_isSign_129
      · rw [if_neg c3] at h
        by_cases c4 : x0 = 42
        · rw [if_pos c4] at h
          refine ex_tabIn (pc := 1) 128 dX11_isSign_1 (by rw [c4]; decide) (by rw [c4]; decide) (by rw [c4]; rfl) rfl ?_
          refine ex_iconst (pc := 128) 1 dX11_isSign_128 rfl ?_
          cases h
          exact ex_ireturn (pc := 129) dX11_isSign_129
        · rw [if_neg c4] at h
          by_cases c5 : x0 = 43
          · rw [if_pos c5] at h
            refine ex_tabIn (pc := 1) 128 dX11_isSign_1 (by rw [c5]; decide) (by rw [c5]; decide) (by rw [c5]; rfl) rfl ?_
            refine ex_iconst (pc := 128) 1 dX11_isSign_128 rfl ?_
            cases h
            exact ex_ireturn (pc := 129) dX11_isSign_129
          · rw [if_neg c5] at h
            by_cases c6 : x0 = 45
            · rw [if_pos c6] at h
              refine ex_tabIn (pc := 1) 128 dX11_isSign_1 (by rw [c6]; decide) (by rw [c6]; decide) (by rw [c6]; rfl) rfl ?_
              refine ex_iconst (pc := 128) 1 dX11_isSign_128 rfl ?_
              cases h
              exact ex_ireturn (pc := 129) dX11_isSign_129
            · rw [if_neg c6] at h
              by_cases c7 : x0 = 47
              · rw [if_pos c7] at h
                refine ex_tabIn (pc := 1) 128 dX11_isSign_1 (by rw [c7]; decide) (by rw [c7]; decide) (by rw [c7]; rfl) rfl ?_
                refine ex_iconst (pc := 128) 1 dX11_isSign_128 rfl ?_
                cases h
                exact ex_ireturn (pc := 129) dX11_isSign_129
              · rw [if_neg c7] at h
                by_cases c8 : x0 = 58
                · rw [if_pos c8] at h
                  refine ex_tabIn (pc := 1) 128 dX11_isSign_1 (by rw [c8]; decide) (by rw [c8]; decide) (by rw [c8]; rfl) rfl ?_
                  refine ex_iconst (pc := 128) 1 dX11_isSign_128 rfl ?_
                  cases h
                  exact ex_ireturn (pc := 129) dX11_isSign_129
                · rw [if_neg c8] at h
                  by_cases c9 : x0 = 59
                  · rw [if_pos c9] at h
                    refine ex_tabIn (pc := 1) 128 dX11_isSign_1 (by rw [c9]; decide) (by rw [c9]; decide) (by rw [c9]; rfl) rfl ?_
                    refine ex_iconst (pc := 128) 1 dX11_isSign_128 rfl ?_
                    cases h
                    exact ex_ireturn (pc := 129) dX11_isSign_129
                  · rw [if_neg c9] at h
                    by_cases c10 : x0 = 60
                    · rw [if_pos c10] at h
                      refine ex_tabIn (pc := 1) 128 dX11_isSign_1 (by rw [c10]; decide) (by rw [c10]; decide) (by rw [c10]; rfl) rfl ?_
                      refine ex_iconst (pc := 128) 1 dX11_isSign_128 rfl ?_
                      cases h
                      exact ex_ireturn (pc := 129) dX11_isSign_129
                    · rw [if_neg c10] at h
                      by_cases c11 : x0 = 61
                      · rw [if_pos c11] at h
                        refine ex_tabIn (pc := 1) 128 dX11_isSign_1 (by rw [c11]; decide) (by rw [c11]; decide) (by rw [c11]; rfl) rfl ?_
                        refine ex_iconst (pc := 128) 1 dX11_isSign_128 rfl ?_
                        cases h
                        exact ex_ireturn (pc := 129) dX11_isSign_129
                      · rw [if_neg c11] at h
                        by_cases c12 : x0 = 62
                        · rw [if_pos c12] at h
                          refine ex_tabIn (pc := 1) 128 dX11_isSign_1 (by rw [c12]; decide) (by rw [c12]; decide) (by rw [c12]; rfl) rfl ?_
                          refine ex_iconst (pc := 128) 1 dX11_isSign_128 rfl ?_
                          cases h
                          exact ex_ireturn (pc := 129) dX11_isSign_129
                        · rw [if_neg c12] at h
                          have zc1 : ¬ (x0).toInt = 35 := fun e9 => c1 (i32_of e9 (by decide))
                          have zc2 : ¬ (x0).toInt = 40 := fun e9 => c2 (i32_of e9 (by decide))
                          have zc3 : ¬ (x0).toInt = 41 := fun e9 => c3 (i32_of e9 (by decide))
                          have zc4 : ¬ (x0).toInt = 42 := fun e9 => c4 (i32_of e9 (by decide))
                          have zc5 : ¬ (x0).toInt = 43 := fun e9 => c5 (i32_of e9 (by decide))
                          have zc6 : ¬ (x0).toInt = 45 := fun e9 => c6 (i32_of e9 (by decide))
                          have zc7 : ¬ (x0).toInt = 47 := fun e9 => c7 (i32_of e9 (by decide))
                          have zc8 : ¬ (x0).toInt = 58 := fun e9 => c8 (i32_of e9 (by decide))
                          have zc9 : ¬ (x0).toInt = 59 := fun e9 => c9 (i32_of e9 (by decide))
                          have zc10 : ¬ (x0).toInt = 60 := fun e9 => c10 (i32_of e9 (by decide))
                          have zc11 : ¬ (x0).toInt = 61 := fun e9 => c11 (i32_of e9 (by decide))
                          have zc12 : ¬ (x0).toInt = 62 := fun e9 => c12 (i32_of e9 (by decide))
                          have hg : (x0).toInt < 35 ∨ 62 < (x0).toInt ∨ (x0).toInt = 36 ∨ (x0).toInt = 37 ∨ (x0).toInt = 38 ∨ (x0).toInt = 39 ∨ (x0).toInt = 44 ∨ (x0).toInt = 46 ∨ (x0).toInt = 48 ∨ (x0).toInt = 49 ∨ (x0).toInt = 50 ∨ (x0).toInt = 51 ∨ (x0).toInt = 52 ∨ (x0).toInt = 53 ∨ (x0).toInt = 54 ∨ (x0).toInt = 55 ∨ (x0).toInt = 56 ∨ (x0).toInt = 57 := by omega
                          suffices hsw : Ex _ _ _ 130 [(0, .int x0)] [] M _ _ by
                            rcases hg with hg | hg | hg | hg | hg | hg | hg | hg | hg | hg | hg | hg | hg | hg | hg | hg | hg | hg
                            · exact ex_tabOut (pc := 1) 130 dX11_isSign_1 (Or.inl hg) rfl hsw
                            · exact ex_tabOut (pc := 1) 130 dX11_isSign_1 (Or.inr hg) rfl hsw
                            · exact ex_tabIn (pc := 1) 130 dX11_isSign_1 (by omega) (by omega) (by rw [hg]; rfl) rfl hsw
                            · exact ex_tabIn (pc := 1) 130 dX11_isSign_1 (by omega) (by omega) (by rw [hg]; rfl) rfl hsw
                            · exact ex_tabIn (pc := 1) 130 dX11_isSign_1 (by omega) (by omega) (by rw [hg]; rfl) rfl hsw
                            · exact ex_tabIn (pc := 1) 130 dX11_isSign_1 (by omega) (by omega) (by rw [hg]; rfl) rfl hsw
                            · exact ex_tabIn (pc := 1) 130 dX11_isSign_1 (by omega) (by omega) (by rw [hg]; rfl) rfl hsw
                            · exact ex_tabIn (pc := 1) 130 dX11_isSign_1 (by omega) (by omega) (by rw [hg]; rfl) rfl hsw
                            · exact ex_tabIn (pc := 1) 130 dX11_isSign_1 (by omega) (by omega) (by rw [hg]; rfl) rfl hsw
                            · exact ex_tabIn (pc := 1) 130 dX11_isSign_1 (by omega) (by omega) (by rw [hg]; rfl) rfl hsw
                            · exact ex_tabIn (pc := 1) 130 dX11_isSign_1 (by omega) (by omega) (by rw [hg]; rfl) rfl hsw
                            · exact ex_tabIn (pc := 1) 130 dX11_isSign_1 (by omega) (by omega) (by rw [hg]; rfl) rfl hsw
                            · exact ex_tabIn (pc := 1) 130 dX11_isSign_1 (by omega) (by omega) (by rw [hg]; rfl) rfl hsw
                            · exact ex_tabIn (pc := 1) 130 dX11_isSign_1 (by omega) (by omega) (by rw [hg]; rfl) rfl hsw
                            · exact ex_tabIn (pc := 1) 130 dX11_isSign_1 (by omega) (by omega) (by rw [hg]; rfl) rfl hsw
                            · exact ex_tabIn (pc := 1) 130 dX11_isSign_1 (by omega) (by omega) (by rw [hg]; rfl) rfl hsw
                            · exact ex_tabIn (pc := 1) 130 dX11_isSign_1 (by omega) (by omega) (by rw [hg]; rfl) rfl hsw
                            · exact ex_tabIn (pc := 1) 130 dX11_isSign_1 (by omega) (by omega) (by rw [hg]; rfl) rfl hsw
                          refine ex_iconst (pc := 130) 0 dX11_isSign_130 rfl ?_
                          cases h
                          exact ex_ireturn (pc := 131) dX11_isSign_131
noncomputable def f_X11_isSign (x0 : Int32) : Option (Bool) := f_X11_isSign_0 x0
set_option maxHeartbeats 4000000 in
theorem s_X11_isSign {X : XV} {d : Nat} (hd : 1 ≤ d) {x0 : Int32} {M : Mem} {res : Bool} (h : f_X11_isSign x0 = some res) : Mx X d mX11_isSign [.int x0] M (some (.int (jz res))) M := by
  obtain ⟨d, rfl⟩ : ∃ e, d = e + 1 := ⟨d - 1, by omega⟩
  unfold f_X11_isSign at h
  refine Mx.of (by decide) (Nat.le_of_ble_eq_true rfl) (⟨_, rfl, jz_nar _⟩) ?_
  exact ex_sub (lo' := [(0, .int x0)]) [0] rfl (t_X11_isSign_0 hd _ _  h)
noncomputable def f_X11_nextToken_26 (k0 : Nat → Mem → Option (Mem)) (x0 : Nat) (M : Mem) : Option (Mem) :=
  (gI M 11 x0 7).bind fun v1 =>
  (pF M 11 x0 7 (.int (v1 + 1))).bind fun q2 =>
  k0 x0 q2
set_option maxHeartbeats 4000000 in
theorem t_X11_nextToken_26 {X : XV} {d : Nat} (hd : 2 ≤ d + 1) {k0 : Nat → Mem → Option (Mem)} (hk0 : ∀ (x0 : Nat) (M : Mem) (res : Mem), k0 x0 M = some res → Ex X (d + 1) mX11_nextToken 0 [(0, .ref x0)] [] M none res) : ∀ (x0 : Nat) (M : Mem) (res : Mem), f_X11_nextToken_26 k0 x0 M = some res → Ex X (d + 1) mX11_nextToken 26 [(0, .ref x0)] [] M none res := by
  intro x0 M res  h
  unfold f_X11_nextToken_26 at h
  refine ex_aload_n (pc := 26) 0 dX11_nextToken_26 rfl rfl ?_
  refine ex_dup (pc := 27) dX11_nextToken_27 rfl ?_
  obtain ⟨v1, ev1, h⟩ := ob_some h
  refine ex_gI (pc := 28) ev1 dX11_nextToken_28 lfX11_117 ?_
  refine ex_iconst (pc := 31) 1 dX11_nextToken_31 rfl ?_
  refine ex_iadd (pc := 32) dX11_nextToken_32 ?_
  obtain ⟨q2, eq2, h⟩ := ob_some h
  refine ex_pF (pc := 33) eq2 dX11_nextToken_33 lfX11_117 rfl rfl (fun _ hq => by cases hq; rfl) ?_
  refine ex_goto (pc := 36) 0 dX11_nextToken_36 rfl ?_
  refine ex_sub (lo' := [(0, .ref x0)]) [0] rfl ?_
  exact hk0 _ _ _  h
noncomputable def f_X11_nextToken_135 (k85 : Nat → Mem → Option (Mem)) (x0 : Nat) (s0 : Int32) (s1 : Nat) (M : Mem) : Option (Mem) :=
  (pF M 11 s1 10 (.int s0)).bind fun q3 =>
  (gI q3 11 x0 7).bind fun v4 =>
  (pF q3 11 x0 7 (.int (v4 + 1))).bind fun q5 =>
  k85 x0 q5
set_option maxHeartbeats 4000000 in
theorem t_X11_nextToken_135 {X : XV} {d : Nat} (hd : 2 ≤ d + 1) {k85 : Nat → Mem → Option (Mem)} (hk85 : ∀ (x0 : Nat) (M : Mem) (res : Mem), k85 x0 M = some res → Ex X (d + 1) mX11_nextToken 85 [(0, .ref x0)] [] M none res) : ∀ (x0 : Nat) (s0 : Int32) (s1 : Nat) (M : Mem) (res : Mem), f_X11_nextToken_135 k85 x0 s0 s1 M = some res → Ex X (d + 1) mX11_nextToken 135 [(0, .ref x0)] [.int s0, .ref s1] M none res := by
  intro x0 s0 s1 M res  h
  unfold f_X11_nextToken_135 at h
  obtain ⟨q3, eq3, h⟩ := ob_some h
  refine ex_pF (pc := 135) eq3 dX11_nextToken_135 lfX11_132 rfl rfl (fun _ hq => by cases hq; rfl) ?_
  refine ex_aload_n (pc := 138) 0 dX11_nextToken_138 rfl rfl ?_
  refine ex_dup (pc := 139) dX11_nextToken_139 rfl ?_
  obtain ⟨v4, ev4, h⟩ := ob_some h
  refine ex_gI (pc := 140) ev4 dX11_nextToken_140 lfX11_117 ?_
  refine ex_iconst (pc := 143) 1 dX11_nextToken_143 rfl ?_
  refine ex_iadd (pc := 144) dX11_nextToken_144 ?_
  obtain ⟨q5, eq5, h⟩ := ob_some h
  refine ex_pF (pc := 145) eq5 dX11_nextToken_145 lfX11_117 rfl rfl (fun _ hq => by cases hq; rfl) ?_
  refine ex_goto (pc := 148) 85 dX11_nextToken_148 rfl ?_
  refine ex_sub (lo' := [(0, .ref x0)]) [0] rfl ?_
  exact hk85 _ _ _  h
noncomputable def f_X11_nextToken_85 (n0 : Nat) (x0 : Nat) (M : Mem) : Option (Mem) :=
  match n0 with
  | 0 => none
  | n + 1 =>
    (gI M 11 x0 7).bind fun v6 =>
    (f_X11_byteAt x0 v6 M).bind fun v7 =>
    (f_X11_isFigure v7).bind fun v8 =>
    if v8 = false then
    (some M)
    else
    ((gI M 11 x0 10).bind fun v10 =>
    if v10 ≤ 99999 then
    ((gI M 11 x0 10).bind fun v12 =>
    (gI M 11 x0 7).bind fun v13 =>
    (f_X11_byteAt x0 v13 M).bind fun v14 =>
    f_X11_nextToken_135 (f_X11_nextToken_85 n) x0 (((10 * v12) + v14) - 48) x0 M)
    else
    ((gI M 11 x0 10).bind fun v15 =>
    f_X11_nextToken_135 (f_X11_nextToken_85 n) x0 v15 x0 M))
set_option maxHeartbeats 4000000 in
theorem t_X11_nextToken_85 {X : XV} {d : Nat} (hd : 2 ≤ d + 1) : ∀ (n : Nat) (x0 : Nat) (M : Mem) (res : Mem), f_X11_nextToken_85 n  x0 M = some res → Ex X (d + 1) mX11_nextToken 85 [(0, .ref x0)] [] M none res := by
  intro n
  induction n with
  | zero =>
    intro x0 M res  h
    unfold f_X11_nextToken_85 at h
    cases h
  | succ n ih =>
    intro x0 M res  h
    unfold f_X11_nextToken_85 at h
    refine ex_aload_n (pc := 85) 0 dX11_nextToken_85 rfl rfl ?_
    refine ex_aload_n (pc := 86) 0 dX11_nextToken_86 rfl rfl ?_
    obtain ⟨v6, ev6, h⟩ := ob_some h
    refine ex_gI (pc := 87) ev6 dX11_nextToken_87 lfX11_117 ?_
    obtain ⟨v7, ev7, h⟩ := ob_some h
    refine ex_callV1r (pc := 90) dX11_nextToken_90 jX11_byteAt lmX11_120 jiX11_byteAt jvX11_byteAt (o_X11_byteAt ev7) rfl (Nat.le_of_ble_eq_true rfl) (s_X11_byteAt (by omega)  ev7) ?_
    obtain ⟨v8, ev8, h⟩ := ob_some h
    refine ex_callS1r (pc := 93) dX11_nextToken_93 jX11_isFigure lmX11_129 jsX11_isFigure (Nat.le_of_ble_eq_true rfl) (s_X11_isFigure (by omega)  ev8) ?_
    by_cases c9 : v8 = false
    · rw [if_pos c9] at h
      refine ex_if_eq_t (pc := 96) 310 dX11_nextToken_96 rfl (jz_eq_t c9) ?_
      cases h
      exact ex_return (pc := 310) dX11_nextToken_310
    · rw [if_neg c9] at h
      refine ex_if_eq_f (pc := 96) dX11_nextToken_96 310 rfl (jz_eq_f c9) ?_
      refine ex_aload_n (pc := 99) 0 dX11_nextToken_99 rfl rfl ?_
      refine ex_aload_n (pc := 100) 0 dX11_nextToken_100 rfl rfl ?_
      obtain ⟨v10, ev10, h⟩ := ob_some h
      refine ex_gI (pc := 101) ev10 dX11_nextToken_101 lfX11_132 ?_
      refine ex_ldc (pc := 104) dX11_nextToken_104 lkX11_135 ?_
      by_cases c11 : v10 ≤ 99999
      · rw [if_pos c11] at h
        refine ex_icmp_le_t (pc := 106) 116 dX11_nextToken_106 rfl c11 ?_
        refine ex_bipush (pc := 116) 10 dX11_nextToken_116 (by decide) ?_
        refine ex_aload_n (pc := 118) 0 dX11_nextToken_118 rfl rfl ?_
        obtain ⟨v12, ev12, h⟩ := ob_some h
        refine ex_gI (pc := 119) ev12 dX11_nextToken_119 lfX11_132 ?_
        refine ex_imul (pc := 122) dX11_nextToken_122 ?_
        refine ex_aload_n (pc := 123) 0 dX11_nextToken_123 rfl rfl ?_
        refine ex_aload_n (pc := 124) 0 dX11_nextToken_124 rfl rfl ?_
        obtain ⟨v13, ev13, h⟩ := ob_some h
        refine ex_gI (pc := 125) ev13 dX11_nextToken_125 lfX11_117 ?_
        obtain ⟨v14, ev14, h⟩ := ob_some h
        refine ex_callV1r (pc := 128) dX11_nextToken_128 jX11_byteAt lmX11_120 jiX11_byteAt jvX11_byteAt (o_X11_byteAt ev14) rfl (Nat.le_of_ble_eq_true rfl) (s_X11_byteAt (by omega)  ev14) ?_
        refine ex_iadd (pc := 131) dX11_nextToken_131 ?_
        refine ex_bipush (pc := 132) 48 dX11_nextToken_132 (by decide) ?_
        refine ex_isub (pc := 134) dX11_nextToken_134 ?_
        refine ex_sub (lo' := [(0, .ref x0)]) [0] rfl ?_
        exact t_X11_nextToken_135 hd ih _ _ _ _ _  h
      · rw [if_neg c11] at h
        refine ex_icmp_le_f (pc := 106) dX11_nextToken_106 116 rfl c11 ?_
        refine ex_aload_n (pc := 109) 0 dX11_nextToken_109 rfl rfl ?_
        obtain ⟨v15, ev15, h⟩ := ob_some h
        refine ex_gI (pc := 110) ev15 dX11_nextToken_110 lfX11_132 ?_
        refine ex_goto (pc := 113) 135 dX11_nextToken_113 rfl ?_
        refine ex_sub (lo' := [(0, .ref x0)]) [0] rfl ?_
        exact t_X11_nextToken_135 hd ih _ _ _ _ _  h
noncomputable def f_X11_nextToken_218 (k168 : Nat → Mem → Option (Mem)) (x0 : Nat) (s0 : Int64) (s1 : Nat) (M : Mem) : Option (Mem) :=
  (pF M 11 s1 11 (.long s0)).bind fun q16 =>
  (gI q16 11 x0 7).bind fun v17 =>
  (pF q16 11 x0 7 (.int (v17 + 1))).bind fun q18 =>
  k168 x0 q18
set_option maxHeartbeats 4000000 in
theorem t_X11_nextToken_218 {X : XV} {d : Nat} (hd : 2 ≤ d + 1) {k168 : Nat → Mem → Option (Mem)} (hk168 : ∀ (x0 : Nat) (M : Mem) (res : Mem), k168 x0 M = some res → Ex X (d + 1) mX11_nextToken 168 [(0, .ref x0)] [] M none res) : ∀ (x0 : Nat) (s0 : Int64) (s1 : Nat) (M : Mem) (res : Mem), f_X11_nextToken_218 k168 x0 s0 s1 M = some res → Ex X (d + 1) mX11_nextToken 218 [(0, .ref x0)] [.long s0, .ref s1] M none res := by
  intro x0 s0 s1 M res  h
  unfold f_X11_nextToken_218 at h
  obtain ⟨q16, eq16, h⟩ := ob_some h
  refine ex_pF (pc := 218) eq16 dX11_nextToken_218 lfX11_139 rfl rfl (fun _ hq => by cases hq; rfl) ?_
  refine ex_aload_n (pc := 221) 0 dX11_nextToken_221 rfl rfl ?_
  refine ex_dup (pc := 222) dX11_nextToken_222 rfl ?_
  obtain ⟨v17, ev17, h⟩ := ob_some h
  refine ex_gI (pc := 223) ev17 dX11_nextToken_223 lfX11_117 ?_
  refine ex_iconst (pc := 226) 1 dX11_nextToken_226 rfl ?_
  refine ex_iadd (pc := 227) dX11_nextToken_227 ?_
  obtain ⟨q18, eq18, h⟩ := ob_some h
  refine ex_pF (pc := 228) eq18 dX11_nextToken_228 lfX11_117 rfl rfl (fun _ hq => by cases hq; rfl) ?_
  refine ex_goto (pc := 231) 168 dX11_nextToken_231 rfl ?_
  refine ex_sub (lo' := [(0, .ref x0)]) [0] rfl ?_
  exact hk168 _ _ _  h
noncomputable def f_X11_nextToken_168 (n0 : Nat) (x0 : Nat) (M : Mem) : Option (Mem) :=
  match n0 with
  | 0 => none
  | n + 1 =>
    (gI M 11 x0 7).bind fun v19 =>
    (f_X11_byteAt x0 v19 M).bind fun v20 =>
    (f_X11_isLetterByte v20).bind fun v21 =>
    if v21 = false then
    (some M)
    else
    ((gL M 11 x0 11).bind fun v23 =>
    if (lg_cmp (jshrL v23 48) 0) = 0 then
    ((gL M 11 x0 11).bind fun v25 =>
    (gI M 11 x0 7).bind fun v26 =>
    (f_X11_byteAt x0 v26 M).bind fun v27 =>
    f_X11_nextToken_218 (f_X11_nextToken_168 n) x0 ((jshlL v25 8) ||| (Int32.toInt64 v27)) x0 M)
    else
    (f_X11_nextToken_218 (f_X11_nextToken_168 n) x0 1152921504606846976 x0 M))
set_option maxHeartbeats 4000000 in
theorem t_X11_nextToken_168 {X : XV} {d : Nat} (hd : 2 ≤ d + 1) : ∀ (n : Nat) (x0 : Nat) (M : Mem) (res : Mem), f_X11_nextToken_168 n  x0 M = some res → Ex X (d + 1) mX11_nextToken 168 [(0, .ref x0)] [] M none res := by
  intro n
  induction n with
  | zero =>
    intro x0 M res  h
    unfold f_X11_nextToken_168 at h
    cases h
  | succ n ih =>
    intro x0 M res  h
    unfold f_X11_nextToken_168 at h
    refine ex_aload_n (pc := 168) 0 dX11_nextToken_168 rfl rfl ?_
    refine ex_aload_n (pc := 169) 0 dX11_nextToken_169 rfl rfl ?_
    obtain ⟨v19, ev19, h⟩ := ob_some h
    refine ex_gI (pc := 170) ev19 dX11_nextToken_170 lfX11_117 ?_
    obtain ⟨v20, ev20, h⟩ := ob_some h
    refine ex_callV1r (pc := 173) dX11_nextToken_173 jX11_byteAt lmX11_120 jiX11_byteAt jvX11_byteAt (o_X11_byteAt ev20) rfl (Nat.le_of_ble_eq_true rfl) (s_X11_byteAt (by omega)  ev20) ?_
    obtain ⟨v21, ev21, h⟩ := ob_some h
    refine ex_callS1r (pc := 176) dX11_nextToken_176 jX11_isLetterByte lmX11_136 jsX11_isLetterByte (Nat.le_of_ble_eq_true rfl) (s_X11_isLetterByte (by omega)  ev21) ?_
    by_cases c22 : v21 = false
    · rw [if_pos c22] at h
      refine ex_if_eq_t (pc := 179) 310 dX11_nextToken_179 rfl (jz_eq_t c22) ?_
      cases h
      exact ex_return (pc := 310) dX11_nextToken_310
    · rw [if_neg c22] at h
      refine ex_if_eq_f (pc := 179) dX11_nextToken_179 310 rfl (jz_eq_f c22) ?_
      refine ex_aload_n (pc := 182) 0 dX11_nextToken_182 rfl rfl ?_
      refine ex_aload_n (pc := 183) 0 dX11_nextToken_183 rfl rfl ?_
      obtain ⟨v23, ev23, h⟩ := ob_some h
      refine ex_gL (pc := 184) ev23 dX11_nextToken_184 lfX11_139 ?_
      refine ex_bipush (pc := 187) 48 dX11_nextToken_187 (by decide) ?_
      refine ex_lshr (pc := 189) dX11_nextToken_189 ?_
      refine ex_lconst (pc := 190) 0 dX11_nextToken_190 rfl ?_
      refine ex_lcmp (pc := 191) dX11_nextToken_191 ?_
      by_cases c24 : (lg_cmp (jshrL v23 48) 0) = 0
      · rw [if_pos c24] at h
        refine ex_if_eq_t (pc := 192) 201 dX11_nextToken_192 rfl c24 ?_
        refine ex_aload_n (pc := 201) 0 dX11_nextToken_201 rfl rfl ?_
        obtain ⟨v25, ev25, h⟩ := ob_some h
        refine ex_gL (pc := 202) ev25 dX11_nextToken_202 lfX11_139 ?_
        refine ex_bipush (pc := 205) 8 dX11_nextToken_205 (by decide) ?_
        refine ex_lshl (pc := 207) dX11_nextToken_207 ?_
        refine ex_aload_n (pc := 208) 0 dX11_nextToken_208 rfl rfl ?_
        refine ex_aload_n (pc := 209) 0 dX11_nextToken_209 rfl rfl ?_
        obtain ⟨v26, ev26, h⟩ := ob_some h
        refine ex_gI (pc := 210) ev26 dX11_nextToken_210 lfX11_117 ?_
        obtain ⟨v27, ev27, h⟩ := ob_some h
        refine ex_callV1r (pc := 213) dX11_nextToken_213 jX11_byteAt lmX11_120 jiX11_byteAt jvX11_byteAt (o_X11_byteAt ev27) rfl (Nat.le_of_ble_eq_true rfl) (s_X11_byteAt (by omega)  ev27) ?_
        refine ex_i2l (pc := 216) dX11_nextToken_216 ?_
        refine ex_lor (pc := 217) dX11_nextToken_217 ?_
        refine ex_sub (lo' := [(0, .ref x0)]) [0] rfl ?_
        exact t_X11_nextToken_218 hd ih _ _ _ _ _  h
      · rw [if_neg c24] at h
        refine ex_if_eq_f (pc := 192) dX11_nextToken_192 201 rfl c24 ?_
        refine ex_ldc2 (pc := 195) dX11_nextToken_195 lkX11_143 ?_
        refine ex_goto (pc := 198) 218 dX11_nextToken_198 rfl ?_
        refine ex_sub (lo' := [(0, .ref x0)]) [0] rfl ?_
        exact t_X11_nextToken_218 hd ih _ _ _ _ _  h
noncomputable def f_X11_nextToken_297 (x0 : Nat) (s0 : Int32) (s1 : Nat) (M : Mem) : Option (Mem) :=
  (pF M 11 s1 9 (.int s0)).bind fun q28 =>
  (gI q28 11 x0 7).bind fun v29 =>
  (pF q28 11 x0 7 (.int (v29 + 1))).bind fun q30 =>
  some q30
set_option maxHeartbeats 4000000 in
theorem t_X11_nextToken_297 {X : XV} {d : Nat} (hd : 2 ≤ d + 1) : ∀ (x0 : Nat) (s0 : Int32) (s1 : Nat) (M : Mem) (res : Mem), f_X11_nextToken_297  x0 s0 s1 M = some res → Ex X (d + 1) mX11_nextToken 297 [(0, .ref x0)] [.int s0, .ref s1] M none res := by
  intro x0 s0 s1 M res  h
  unfold f_X11_nextToken_297 at h
  obtain ⟨q28, eq28, h⟩ := ob_some h
  refine ex_pF (pc := 297) eq28 dX11_nextToken_297 lfX11_126 rfl rfl (fun _ hq => by cases hq; rfl) ?_
  refine ex_aload_n (pc := 300) 0 dX11_nextToken_300 rfl rfl ?_
  refine ex_dup (pc := 301) dX11_nextToken_301 rfl ?_
  obtain ⟨v29, ev29, h⟩ := ob_some h
  refine ex_gI (pc := 302) ev29 dX11_nextToken_302 lfX11_117 ?_
  refine ex_iconst (pc := 305) 1 dX11_nextToken_305 rfl ?_
  refine ex_iadd (pc := 306) dX11_nextToken_306 ?_
  obtain ⟨q30, eq30, h⟩ := ob_some h
  refine ex_pF (pc := 307) eq30 dX11_nextToken_307 lfX11_117 rfl rfl (fun _ hq => by cases hq; rfl) ?_
  cases h
  exact ex_return (pc := 310) dX11_nextToken_310
noncomputable def f_X11_nextToken_272 (x0 : Nat) (x1 : Int32) (M : Mem) : Option (Mem) :=
  (gI M 11 x0 7).bind fun v31 =>
  (f_X11_byteAt x0 v31 M).bind fun v32 =>
  if v32 = 61 then
  (if x1 = 60 then
  (f_X11_nextToken_297 x0 4 x0 M)
  else
  (f_X11_nextToken_297 x0 5 x0 M))
  else
  (some M)
set_option maxHeartbeats 4000000 in
theorem t_X11_nextToken_272 {X : XV} {d : Nat} (hd : 2 ≤ d + 1) : ∀ (x0 : Nat) (x1 : Int32) (M : Mem) (res : Mem), f_X11_nextToken_272  x0 x1 M = some res → Ex X (d + 1) mX11_nextToken 272 [(0, .ref x0), (1, .int x1)] [] M none res := by
  intro x0 x1 M res  h
  unfold f_X11_nextToken_272 at h
  refine ex_aload_n (pc := 272) 0 dX11_nextToken_272 rfl rfl ?_
  refine ex_aload_n (pc := 273) 0 dX11_nextToken_273 rfl rfl ?_
  obtain ⟨v31, ev31, h⟩ := ob_some h
  refine ex_gI (pc := 274) ev31 dX11_nextToken_274 lfX11_117 ?_
  obtain ⟨v32, ev32, h⟩ := ob_some h
  refine ex_callV1r (pc := 277) dX11_nextToken_277 jX11_byteAt lmX11_120 jiX11_byteAt jvX11_byteAt (o_X11_byteAt ev32) rfl (Nat.le_of_ble_eq_true rfl) (s_X11_byteAt (by omega)  ev32) ?_
  refine ex_bipush (pc := 280) 61 dX11_nextToken_280 (by decide) ?_
  by_cases c33 : v32 = 61
  · rw [if_pos c33] at h
    refine ex_icmp_ne_f (pc := 282) dX11_nextToken_282 310 rfl c33 ?_
    refine ex_aload_n (pc := 285) 0 dX11_nextToken_285 rfl rfl ?_
    refine ex_iload_n (pc := 286) 1 dX11_nextToken_286 rfl rfl ?_
    refine ex_bipush (pc := 287) 60 dX11_nextToken_287 (by decide) ?_
    by_cases c34 : x1 = 60
    · rw [if_pos c34] at h
      refine ex_icmp_ne_f (pc := 289) dX11_nextToken_289 296 rfl c34 ?_
      refine ex_iconst (pc := 292) 4 dX11_nextToken_292 rfl ?_
      refine ex_goto (pc := 293) 297 dX11_nextToken_293 rfl ?_
      refine ex_sub (lo' := [(0, .ref x0)]) [0] rfl ?_
      exact t_X11_nextToken_297 hd  _ _ _ _ _  h
    · rw [if_neg c34] at h
      refine ex_icmp_ne_t (pc := 289) 296 dX11_nextToken_289 rfl c34 ?_
      refine ex_iconst (pc := 296) 5 dX11_nextToken_296 rfl ?_
      refine ex_sub (lo' := [(0, .ref x0)]) [0] rfl ?_
      exact t_X11_nextToken_297 hd  _ _ _ _ _  h
  · rw [if_neg c33] at h
    refine ex_icmp_ne_t (pc := 282) 310 dX11_nextToken_282 rfl c33 ?_
    cases h
    exact ex_return (pc := 310) dX11_nextToken_310
noncomputable def f_X11_nextToken_247 (x0 : Nat) (x1 : Int32) (s0 : Int32) (s1 : Nat) (M : Mem) : Option (Mem) :=
  (pF M 11 s1 9 (.int s0)).bind fun q35 =>
  (gI q35 11 x0 7).bind fun v36 =>
  (pF q35 11 x0 7 (.int (v36 + 1))).bind fun q37 =>
  if x1 = 60 then
  (f_X11_nextToken_272 x0 x1 q37)
  else
  (if x1 = 62 then
  (f_X11_nextToken_272 x0 x1 q37)
  else
  (some q37))
set_option maxHeartbeats 4000000 in
theorem t_X11_nextToken_247 {X : XV} {d : Nat} (hd : 2 ≤ d + 1) : ∀ (x0 : Nat) (x1 : Int32) (s0 : Int32) (s1 : Nat) (M : Mem) (res : Mem), f_X11_nextToken_247  x0 x1 s0 s1 M = some res → Ex X (d + 1) mX11_nextToken 247 [(0, .ref x0), (1, .int x1)] [.int s0, .ref s1] M none res := by
  intro x0 x1 s0 s1 M res  h
  unfold f_X11_nextToken_247 at h
  obtain ⟨q35, eq35, h⟩ := ob_some h
  refine ex_pF (pc := 247) eq35 dX11_nextToken_247 lfX11_126 rfl rfl (fun _ hq => by cases hq; rfl) ?_
  refine ex_aload_n (pc := 250) 0 dX11_nextToken_250 rfl rfl ?_
  refine ex_dup (pc := 251) dX11_nextToken_251 rfl ?_
  obtain ⟨v36, ev36, h⟩ := ob_some h
  refine ex_gI (pc := 252) ev36 dX11_nextToken_252 lfX11_117 ?_
  refine ex_iconst (pc := 255) 1 dX11_nextToken_255 rfl ?_
  refine ex_iadd (pc := 256) dX11_nextToken_256 ?_
  obtain ⟨q37, eq37, h⟩ := ob_some h
  refine ex_pF (pc := 257) eq37 dX11_nextToken_257 lfX11_117 rfl rfl (fun _ hq => by cases hq; rfl) ?_
  refine ex_iload_n (pc := 260) 1 dX11_nextToken_260 rfl rfl ?_
  refine ex_bipush (pc := 261) 60 dX11_nextToken_261 (by decide) ?_
  by_cases c38 : x1 = 60
  · rw [if_pos c38] at h
    refine ex_icmp_eq_t (pc := 263) 272 dX11_nextToken_263 rfl c38 ?_
    refine ex_sub (lo' := [(0, .ref x0), (1, .int x1)]) [0, 1] rfl ?_
    exact t_X11_nextToken_272 hd  _ _ _ _  h
  · rw [if_neg c38] at h
    refine ex_icmp_eq_f (pc := 263) dX11_nextToken_263 272 rfl c38 ?_
    refine ex_iload_n (pc := 266) 1 dX11_nextToken_266 rfl rfl ?_
    refine ex_bipush (pc := 267) 62 dX11_nextToken_267 (by decide) ?_
    by_cases c39 : x1 = 62
    · rw [if_pos c39] at h
      refine ex_icmp_ne_f (pc := 269) dX11_nextToken_269 310 rfl c39 ?_
      refine ex_sub (lo' := [(0, .ref x0), (1, .int x1)]) [0, 1] rfl ?_
      exact t_X11_nextToken_272 hd  _ _ _ _  h
    · rw [if_neg c39] at h
      refine ex_icmp_ne_t (pc := 269) 310 dX11_nextToken_269 rfl c39 ?_
      cases h
      exact ex_return (pc := 310) dX11_nextToken_310
noncomputable def f_X11_nextToken_0 (n0 : Nat) (x0 : Nat) (M : Mem) : Option (Mem) :=
  match n0 with
  | 0 => none
  | n + 1 =>
    (gI M 11 x0 7).bind fun v40 =>
    (f_X11_byteAt x0 v40 M).bind fun v41 =>
    if v41 = 32 then
    (f_X11_nextToken_26 (f_X11_nextToken_0 n) x0 M)
    else
    ((gI M 11 x0 7).bind fun v43 =>
    (f_X11_byteAt x0 v43 M).bind fun v44 =>
    if v44 = 10 then
    (f_X11_nextToken_26 (f_X11_nextToken_0 n) x0 M)
    else
    ((gI M 11 x0 7).bind fun v46 =>
    (pF M 11 x0 8 (.int v46)).bind fun q47 =>
    (gI q47 11 x0 7).bind fun v48 =>
    (f_X11_byteAt x0 v48 q47).bind fun v49 =>
    if 0 ≤ v49 then
    ((f_X11_isFigure v49).bind fun v51 =>
    if v51 = false then
    ((f_X11_isLetterByte v49).bind fun v53 =>
    if v53 = false then
    ((f_X11_isSign v49).bind fun v55 =>
    if v55 = false then
    (f_X11_nextToken_247 x0 v49 3 x0 q47)
    else
    (f_X11_nextToken_247 x0 v49 v49 x0 q47))
    else
    ((pF q47 11 x0 9 (.int 2)).bind fun q57 =>
    (pF q57 11 x0 11 (.long 0)).bind fun q58 =>
    f_X11_nextToken_168 fu x0 q58))
    else
    ((pF q47 11 x0 9 (.int 1)).bind fun q59 =>
    (pF q59 11 x0 10 (.int 0)).bind fun q60 =>
    f_X11_nextToken_85 fu x0 q60))
    else
    ((pF q47 11 x0 9 (.int 0)).bind fun q61 =>
    some q61)))
set_option maxHeartbeats 4000000 in
theorem t_X11_nextToken_0 {X : XV} {d : Nat} (hd : 2 ≤ d + 1) : ∀ (n : Nat) (x0 : Nat) (M : Mem) (res : Mem), f_X11_nextToken_0 n  x0 M = some res → Ex X (d + 1) mX11_nextToken 0 [(0, .ref x0)] [] M none res := by
  intro n
  induction n with
  | zero =>
    intro x0 M res  h
    unfold f_X11_nextToken_0 at h
    cases h
  | succ n ih =>
    intro x0 M res  h
    unfold f_X11_nextToken_0 at h
    refine ex_aload_n (pc := 0) 0 dX11_nextToken_0 rfl rfl ?_
    refine ex_aload_n (pc := 1) 0 dX11_nextToken_1 rfl rfl ?_
    obtain ⟨v40, ev40, h⟩ := ob_some h
    refine ex_gI (pc := 2) ev40 dX11_nextToken_2 lfX11_117 ?_
    obtain ⟨v41, ev41, h⟩ := ob_some h
    refine ex_callV1r (pc := 5) dX11_nextToken_5 jX11_byteAt lmX11_120 jiX11_byteAt jvX11_byteAt (o_X11_byteAt ev41) rfl (Nat.le_of_ble_eq_true rfl) (s_X11_byteAt (by omega)  ev41) ?_
    refine ex_bipush (pc := 8) 32 dX11_nextToken_8 (by decide) ?_
    by_cases c42 : v41 = 32
    · rw [if_pos c42] at h
      refine ex_icmp_eq_t (pc := 10) 26 dX11_nextToken_10 rfl c42 ?_
      refine ex_sub (lo' := [(0, .ref x0)]) [0] rfl ?_
      exact t_X11_nextToken_26 hd ih _ _ _  h
    · rw [if_neg c42] at h
      refine ex_icmp_eq_f (pc := 10) dX11_nextToken_10 26 rfl c42 ?_
      refine ex_aload_n (pc := 13) 0 dX11_nextToken_13 rfl rfl ?_
      refine ex_aload_n (pc := 14) 0 dX11_nextToken_14 rfl rfl ?_
      obtain ⟨v43, ev43, h⟩ := ob_some h
      refine ex_gI (pc := 15) ev43 dX11_nextToken_15 lfX11_117 ?_
      obtain ⟨v44, ev44, h⟩ := ob_some h
      refine ex_callV1r (pc := 18) dX11_nextToken_18 jX11_byteAt lmX11_120 jiX11_byteAt jvX11_byteAt (o_X11_byteAt ev44) rfl (Nat.le_of_ble_eq_true rfl) (s_X11_byteAt (by omega)  ev44) ?_
      refine ex_bipush (pc := 21) 10 dX11_nextToken_21 (by decide) ?_
      by_cases c45 : v44 = 10
      · rw [if_pos c45] at h
        refine ex_icmp_ne_f (pc := 23) dX11_nextToken_23 39 rfl c45 ?_
        refine ex_sub (lo' := [(0, .ref x0)]) [0] rfl ?_
        exact t_X11_nextToken_26 hd ih _ _ _  h
      · rw [if_neg c45] at h
        refine ex_icmp_ne_t (pc := 23) 39 dX11_nextToken_23 rfl c45 ?_
        refine ex_aload_n (pc := 39) 0 dX11_nextToken_39 rfl rfl ?_
        refine ex_aload_n (pc := 40) 0 dX11_nextToken_40 rfl rfl ?_
        obtain ⟨v46, ev46, h⟩ := ob_some h
        refine ex_gI (pc := 41) ev46 dX11_nextToken_41 lfX11_117 ?_
        obtain ⟨q47, eq47, h⟩ := ob_some h
        refine ex_pF (pc := 44) eq47 dX11_nextToken_44 lfX11_123 rfl rfl (fun _ hq => by cases hq; rfl) ?_
        refine ex_aload_n (pc := 47) 0 dX11_nextToken_47 rfl rfl ?_
        refine ex_aload_n (pc := 48) 0 dX11_nextToken_48 rfl rfl ?_
        obtain ⟨v48, ev48, h⟩ := ob_some h
        refine ex_gI (pc := 49) ev48 dX11_nextToken_49 lfX11_117 ?_
        obtain ⟨v49, ev49, h⟩ := ob_some h
        refine ex_callV1r (pc := 52) dX11_nextToken_52 jX11_byteAt lmX11_120 jiX11_byteAt jvX11_byteAt (o_X11_byteAt ev49) rfl (Nat.le_of_ble_eq_true rfl) (s_X11_byteAt (by omega)  ev49) ?_
        refine ex_istore_n (pc := 55) [(1, .int v49), (0, .ref x0)] dX11_nextToken_55 rfl (by decide) rfl ?_
        refine ex_iload_n (pc := 56) 0 dX11_nextToken_56 rfl rfl ?_
        by_cases c50 : 0 ≤ v49
        · rw [if_pos c50] at h
          refine ex_if_ge_t (pc := 57) 68 dX11_nextToken_57 rfl c50 ?_
          refine ex_iload_n (pc := 68) 0 dX11_nextToken_68 rfl rfl ?_
          obtain ⟨v51, ev51, h⟩ := ob_some h
          refine ex_callS1r (pc := 69) dX11_nextToken_69 jX11_isFigure lmX11_129 jsX11_isFigure (Nat.le_of_ble_eq_true rfl) (s_X11_isFigure (by omega)  ev51) ?_
          by_cases c52 : v51 = false
          · rw [if_pos c52] at h
            refine ex_if_eq_t (pc := 72) 151 dX11_nextToken_72 rfl (jz_eq_t c52) ?_
            refine ex_iload_n (pc := 151) 0 dX11_nextToken_151 rfl rfl ?_
            obtain ⟨v53, ev53, h⟩ := ob_some h
            refine ex_callS1r (pc := 152) dX11_nextToken_152 jX11_isLetterByte lmX11_136 jsX11_isLetterByte (Nat.le_of_ble_eq_true rfl) (s_X11_isLetterByte (by omega)  ev53) ?_
            by_cases c54 : v53 = false
            · rw [if_pos c54] at h
              refine ex_if_eq_t (pc := 155) 234 dX11_nextToken_155 rfl (jz_eq_t c54) ?_
              refine ex_aload_n (pc := 234) 1 dX11_nextToken_234 rfl rfl ?_
              refine ex_iload_n (pc := 235) 0 dX11_nextToken_235 rfl rfl ?_
              obtain ⟨v55, ev55, h⟩ := ob_some h
              refine ex_callS1r (pc := 236) dX11_nextToken_236 jX11_isSign lmX11_145 jsX11_isSign (Nat.le_of_ble_eq_true rfl) (s_X11_isSign (by omega)  ev55) ?_
              by_cases c56 : v55 = false
              · rw [if_pos c56] at h
                refine ex_if_eq_t (pc := 239) 246 dX11_nextToken_239 rfl (jz_eq_t c56) ?_
                refine ex_iconst (pc := 246) 3 dX11_nextToken_246 rfl ?_
                refine ex_sub (lo' := [(0, .ref x0), (1, .int v49)]) [1, 0] rfl ?_
                exact t_X11_nextToken_247 hd  _ _ _ _ _ _  h
              · rw [if_neg c56] at h
                refine ex_if_eq_f (pc := 239) dX11_nextToken_239 246 rfl (jz_eq_f c56) ?_
                refine ex_iload_n (pc := 242) 0 dX11_nextToken_242 rfl rfl ?_
                refine ex_goto (pc := 243) 247 dX11_nextToken_243 rfl ?_
                refine ex_sub (lo' := [(0, .ref x0), (1, .int v49)]) [1, 0] rfl ?_
                exact t_X11_nextToken_247 hd  _ _ _ _ _ _  h
            · rw [if_neg c54] at h
              refine ex_if_eq_f (pc := 155) dX11_nextToken_155 234 rfl (jz_eq_f c54) ?_
              refine ex_aload_n (pc := 158) 1 dX11_nextToken_158 rfl rfl ?_
              refine ex_iconst (pc := 159) 2 dX11_nextToken_159 rfl ?_
              obtain ⟨q57, eq57, h⟩ := ob_some h
              refine ex_pF (pc := 160) eq57 dX11_nextToken_160 lfX11_126 rfl rfl (fun _ hq => by cases hq; rfl) ?_
              refine ex_aload_n (pc := 163) 1 dX11_nextToken_163 rfl rfl ?_
              refine ex_lconst (pc := 164) 0 dX11_nextToken_164 rfl ?_
              obtain ⟨q58, eq58, h⟩ := ob_some h
              refine ex_pF (pc := 165) eq58 dX11_nextToken_165 lfX11_139 rfl rfl (fun _ hq => by cases hq; rfl) ?_
              refine ex_sub (lo' := [(0, .ref x0)]) [1] rfl ?_
              exact t_X11_nextToken_168 hd  _ _ _ _  h
          · rw [if_neg c52] at h
            refine ex_if_eq_f (pc := 72) dX11_nextToken_72 151 rfl (jz_eq_f c52) ?_
            refine ex_aload_n (pc := 75) 1 dX11_nextToken_75 rfl rfl ?_
            refine ex_iconst (pc := 76) 1 dX11_nextToken_76 rfl ?_
            obtain ⟨q59, eq59, h⟩ := ob_some h
            refine ex_pF (pc := 77) eq59 dX11_nextToken_77 lfX11_126 rfl rfl (fun _ hq => by cases hq; rfl) ?_
            refine ex_aload_n (pc := 80) 1 dX11_nextToken_80 rfl rfl ?_
            refine ex_iconst (pc := 81) 0 dX11_nextToken_81 rfl ?_
            obtain ⟨q60, eq60, h⟩ := ob_some h
            refine ex_pF (pc := 82) eq60 dX11_nextToken_82 lfX11_132 rfl rfl (fun _ hq => by cases hq; rfl) ?_
            refine ex_sub (lo' := [(0, .ref x0)]) [1] rfl ?_
            exact t_X11_nextToken_85 hd  _ _ _ _  h
        · rw [if_neg c50] at h
          refine ex_if_ge_f (pc := 57) dX11_nextToken_57 68 rfl c50 ?_
          refine ex_aload_n (pc := 60) 1 dX11_nextToken_60 rfl rfl ?_
          refine ex_iconst (pc := 61) 0 dX11_nextToken_61 rfl ?_
          obtain ⟨q61, eq61, h⟩ := ob_some h
          refine ex_pF (pc := 62) eq61 dX11_nextToken_62 lfX11_126 rfl rfl (fun _ hq => by cases hq; rfl) ?_
          refine ex_goto (pc := 65) 310 dX11_nextToken_65 rfl ?_
          cases h
          exact ex_return (pc := 310) dX11_nextToken_310
noncomputable def f_X11_nextToken (x0 : Nat) (M : Mem) : Option (Mem) := if isOb M 11 x0 = true then f_X11_nextToken_0 fu x0 M else none
theorem o_X11_nextToken {x0 : Nat} {M : Mem} {res : Mem} (h : f_X11_nextToken x0 M = some res) : isO M 11 x0 := by
  unfold f_X11_nextToken at h
  split at h
  · rename_i hc; exact isOb_iff hc
  · cases h
set_option maxHeartbeats 4000000 in
theorem s_X11_nextToken {X : XV} {d : Nat} (hd : 2 ≤ d) {x0 : Nat} {M : Mem} {res : Mem} (h : f_X11_nextToken x0 M = some res) : Mx X d mX11_nextToken [.ref x0] M none res := by
  obtain ⟨d, rfl⟩ : ∃ e, d = e + 1 := ⟨d - 1, by omega⟩
  unfold f_X11_nextToken at h
  split at h
  rotate_left
  · cases h
  refine Mx.of (by decide) (Nat.le_of_ble_eq_true rfl) (rfl) ?_
  exact ex_sub (lo' := [(0, .ref x0)]) [0] rfl (t_X11_nextToken_0 hd _ _ _ _  h)
noncomputable def f_X11_w2_0 (x0 : Int32) (x1 : Int32) : Option (Int64) :=
  some ((jshlL (Int32.toInt64 x0) 8) ||| (Int32.toInt64 x1))
set_option maxHeartbeats 4000000 in
theorem t_X11_w2_0 {X : XV} {d : Nat} {M : Mem} (hd : 1 ≤ d + 1) : ∀ (x0 : Int32) (x1 : Int32) (res : Int64), f_X11_w2_0  x0 x1 = some res → Ex X (d + 1) mX11_w2 0 [(0, .int x0), (1, .int x1)] [] M (some (.long res)) M := by
  intro x0 x1 res  h
  unfold f_X11_w2_0 at h
  refine ex_iload_n (pc := 0) 0 dX11_w2_0 rfl rfl ?_
  refine ex_i2l (pc := 1) dX11_w2_1 ?_
  refine ex_bipush (pc := 2) 8 dX11_w2_2 (by decide) ?_
  refine ex_lshl (pc := 4) dX11_w2_4 ?_
  refine ex_iload_n (pc := 5) 1 dX11_w2_5 rfl rfl ?_
  refine ex_i2l (pc := 6) dX11_w2_6 ?_
  refine ex_lor (pc := 7) dX11_w2_7 ?_
  cases h
  exact ex_lreturn (pc := 8) dX11_w2_8
noncomputable def f_X11_w2 (x0 : Int32) (x1 : Int32) : Option (Int64) := f_X11_w2_0 x0 x1
set_option maxHeartbeats 4000000 in
theorem s_X11_w2 {X : XV} {d : Nat} (hd : 1 ≤ d) {x0 : Int32} {x1 : Int32} {M : Mem} {res : Int64} (h : f_X11_w2 x0 x1 = some res) : Mx X d mX11_w2 [.int x0, .int x1] M (some (.long res)) M := by
  obtain ⟨d, rfl⟩ : ∃ e, d = e + 1 := ⟨d - 1, by omega⟩
  unfold f_X11_w2 at h
  refine Mx.of (by decide) (Nat.le_of_ble_eq_true rfl) (rfl) ?_
  exact ex_sub (lo' := [(0, .int x0), (1, .int x1)]) [0, 1] rfl (t_X11_w2_0 hd _ _ _  h)
noncomputable def f_X11_w3_0 (x0 : Int32) (x1 : Int32) (x2 : Int32) : Option (Int64) :=
  (f_X11_w2 x0 x1).bind fun v1 =>
  some ((jshlL v1 8) ||| (Int32.toInt64 x2))
set_option maxHeartbeats 4000000 in
theorem t_X11_w3_0 {X : XV} {d : Nat} {M : Mem} (hd : 2 ≤ d + 1) : ∀ (x0 : Int32) (x1 : Int32) (x2 : Int32) (res : Int64), f_X11_w3_0  x0 x1 x2 = some res → Ex X (d + 1) mX11_w3 0 [(0, .int x0), (1, .int x1), (2, .int x2)] [] M (some (.long res)) M := by
  intro x0 x1 x2 res  h
  unfold f_X11_w3_0 at h
  refine ex_iload_n (pc := 0) 0 dX11_w3_0 rfl rfl ?_
  refine ex_iload_n (pc := 1) 1 dX11_w3_1 rfl rfl ?_
  obtain ⟨v1, ev1, h⟩ := ob_some h
  refine ex_callS2r (pc := 2) dX11_w3_2 jX11_w2 lmX11_148 jsX11_w2 (Nat.le_of_ble_eq_true rfl) (s_X11_w2 (by omega)  ev1) ?_
  refine ex_bipush (pc := 5) 8 dX11_w3_5 (by decide) ?_
  refine ex_lshl (pc := 7) dX11_w3_7 ?_
  refine ex_iload_n (pc := 8) 2 dX11_w3_8 rfl rfl ?_
  refine ex_i2l (pc := 9) dX11_w3_9 ?_
  refine ex_lor (pc := 10) dX11_w3_10 ?_
  cases h
  exact ex_lreturn (pc := 11) dX11_w3_11
noncomputable def f_X11_w3 (x0 : Int32) (x1 : Int32) (x2 : Int32) : Option (Int64) := f_X11_w3_0 x0 x1 x2
set_option maxHeartbeats 4000000 in
theorem s_X11_w3 {X : XV} {d : Nat} (hd : 2 ≤ d) {x0 : Int32} {x1 : Int32} {x2 : Int32} {M : Mem} {res : Int64} (h : f_X11_w3 x0 x1 x2 = some res) : Mx X d mX11_w3 [.int x0, .int x1, .int x2] M (some (.long res)) M := by
  obtain ⟨d, rfl⟩ : ∃ e, d = e + 1 := ⟨d - 1, by omega⟩
  unfold f_X11_w3 at h
  refine Mx.of (by decide) (Nat.le_of_ble_eq_true rfl) (rfl) ?_
  exact ex_sub (lo' := [(0, .int x0), (1, .int x1), (2, .int x2)]) [0, 1, 2] rfl (t_X11_w3_0 hd _ _ _ _  h)
noncomputable def f_X11_w4_0 (x0 : Int32) (x1 : Int32) (x2 : Int32) (x3 : Int32) : Option (Int64) :=
  (f_X11_w3 x0 x1 x2).bind fun v1 =>
  some ((jshlL v1 8) ||| (Int32.toInt64 x3))
set_option maxHeartbeats 4000000 in
theorem t_X11_w4_0 {X : XV} {d : Nat} {M : Mem} (hd : 3 ≤ d + 1) : ∀ (x0 : Int32) (x1 : Int32) (x2 : Int32) (x3 : Int32) (res : Int64), f_X11_w4_0  x0 x1 x2 x3 = some res → Ex X (d + 1) mX11_w4 0 [(0, .int x0), (1, .int x1), (2, .int x2), (3, .int x3)] [] M (some (.long res)) M := by
  intro x0 x1 x2 x3 res  h
  unfold f_X11_w4_0 at h
  refine ex_iload_n (pc := 0) 0 dX11_w4_0 rfl rfl ?_
  refine ex_iload_n (pc := 1) 1 dX11_w4_1 rfl rfl ?_
  refine ex_iload_n (pc := 2) 2 dX11_w4_2 rfl rfl ?_
  obtain ⟨v1, ev1, h⟩ := ob_some h
  refine ex_callS3r (pc := 3) dX11_w4_3 jX11_w3 lmX11_152 jsX11_w3 (Nat.le_of_ble_eq_true rfl) (s_X11_w3 (by omega)  ev1) ?_
  refine ex_bipush (pc := 6) 8 dX11_w4_6 (by decide) ?_
  refine ex_lshl (pc := 8) dX11_w4_8 ?_
  refine ex_iload_n (pc := 9) 3 dX11_w4_9 rfl rfl ?_
  refine ex_i2l (pc := 10) dX11_w4_10 ?_
  refine ex_lor (pc := 11) dX11_w4_11 ?_
  cases h
  exact ex_lreturn (pc := 12) dX11_w4_12
noncomputable def f_X11_w4 (x0 : Int32) (x1 : Int32) (x2 : Int32) (x3 : Int32) : Option (Int64) := f_X11_w4_0 x0 x1 x2 x3
set_option maxHeartbeats 4000000 in
theorem s_X11_w4 {X : XV} {d : Nat} (hd : 3 ≤ d) {x0 : Int32} {x1 : Int32} {x2 : Int32} {x3 : Int32} {M : Mem} {res : Int64} (h : f_X11_w4 x0 x1 x2 x3 = some res) : Mx X d mX11_w4 [.int x0, .int x1, .int x2, .int x3] M (some (.long res)) M := by
  obtain ⟨d, rfl⟩ : ∃ e, d = e + 1 := ⟨d - 1, by omega⟩
  unfold f_X11_w4 at h
  refine Mx.of (by decide) (Nat.le_of_ble_eq_true rfl) (rfl) ?_
  exact ex_sub (lo' := [(0, .int x0), (1, .int x1), (2, .int x2), (3, .int x3)]) [0, 1, 2, 3] rfl (t_X11_w4_0 hd _ _ _ _ _  h)
noncomputable def f_X11_w5_0 (x0 : Int32) (x1 : Int32) (x2 : Int32) (x3 : Int32) (x4 : Int32) : Option (Int64) :=
  (f_X11_w4 x0 x1 x2 x3).bind fun v1 =>
  some ((jshlL v1 8) ||| (Int32.toInt64 x4))
set_option maxHeartbeats 4000000 in
theorem t_X11_w5_0 {X : XV} {d : Nat} {M : Mem} (hd : 4 ≤ d + 1) : ∀ (x0 : Int32) (x1 : Int32) (x2 : Int32) (x3 : Int32) (x4 : Int32) (res : Int64), f_X11_w5_0  x0 x1 x2 x3 x4 = some res → Ex X (d + 1) mX11_w5 0 [(0, .int x0), (1, .int x1), (2, .int x2), (3, .int x3), (4, .int x4)] [] M (some (.long res)) M := by
  intro x0 x1 x2 x3 x4 res  h
  unfold f_X11_w5_0 at h
  refine ex_iload_n (pc := 0) 0 dX11_w5_0 rfl rfl ?_
  refine ex_iload_n (pc := 1) 1 dX11_w5_1 rfl rfl ?_
  refine ex_iload_n (pc := 2) 2 dX11_w5_2 rfl rfl ?_
  refine ex_iload_n (pc := 3) 3 dX11_w5_3 rfl rfl ?_
  obtain ⟨v1, ev1, h⟩ := ob_some h
  refine ex_callS4r (pc := 4) dX11_w5_4 jX11_w4 lmX11_156 jsX11_w4 (Nat.le_of_ble_eq_true rfl) (s_X11_w4 (by omega)  ev1) ?_
  refine ex_bipush (pc := 7) 8 dX11_w5_7 (by decide) ?_
  refine ex_lshl (pc := 9) dX11_w5_9 ?_
  refine ex_iload (pc := 10) 4 dX11_w5_10 rfl ?_
  refine ex_i2l (pc := 12) dX11_w5_12 ?_
  refine ex_lor (pc := 13) dX11_w5_13 ?_
  cases h
  exact ex_lreturn (pc := 14) dX11_w5_14
noncomputable def f_X11_w5 (x0 : Int32) (x1 : Int32) (x2 : Int32) (x3 : Int32) (x4 : Int32) : Option (Int64) := f_X11_w5_0 x0 x1 x2 x3 x4
set_option maxHeartbeats 4000000 in
theorem s_X11_w5 {X : XV} {d : Nat} (hd : 4 ≤ d) {x0 : Int32} {x1 : Int32} {x2 : Int32} {x3 : Int32} {x4 : Int32} {M : Mem} {res : Int64} (h : f_X11_w5 x0 x1 x2 x3 x4 = some res) : Mx X d mX11_w5 [.int x0, .int x1, .int x2, .int x3, .int x4] M (some (.long res)) M := by
  obtain ⟨d, rfl⟩ : ∃ e, d = e + 1 := ⟨d - 1, by omega⟩
  unfold f_X11_w5 at h
  refine Mx.of (by decide) (Nat.le_of_ble_eq_true rfl) (rfl) ?_
  exact ex_sub (lo' := [(0, .int x0), (1, .int x1), (2, .int x2), (3, .int x3), (4, .int x4)]) [0, 1, 2, 3, 4] rfl (t_X11_w5_0 hd _ _ _ _ _ _  h)
noncomputable def f_X11_w6_0 (x0 : Int32) (x1 : Int32) (x2 : Int32) (x3 : Int32) (x4 : Int32) (x5 : Int32) : Option (Int64) :=
  (f_X11_w5 x0 x1 x2 x3 x4).bind fun v1 =>
  some ((jshlL v1 8) ||| (Int32.toInt64 x5))
set_option maxHeartbeats 4000000 in
theorem t_X11_w6_0 {X : XV} {d : Nat} {M : Mem} (hd : 5 ≤ d + 1) : ∀ (x0 : Int32) (x1 : Int32) (x2 : Int32) (x3 : Int32) (x4 : Int32) (x5 : Int32) (res : Int64), f_X11_w6_0  x0 x1 x2 x3 x4 x5 = some res → Ex X (d + 1) mX11_w6 0 [(0, .int x0), (1, .int x1), (2, .int x2), (3, .int x3), (4, .int x4), (5, .int x5)] [] M (some (.long res)) M := by
  intro x0 x1 x2 x3 x4 x5 res  h
  unfold f_X11_w6_0 at h
  refine ex_iload_n (pc := 0) 0 dX11_w6_0 rfl rfl ?_
  refine ex_iload_n (pc := 1) 1 dX11_w6_1 rfl rfl ?_
  refine ex_iload_n (pc := 2) 2 dX11_w6_2 rfl rfl ?_
  refine ex_iload_n (pc := 3) 3 dX11_w6_3 rfl rfl ?_
  refine ex_iload (pc := 4) 4 dX11_w6_4 rfl ?_
  obtain ⟨v1, ev1, h⟩ := ob_some h
  refine ex_callS5r (pc := 6) dX11_w6_6 jX11_w5 lmX11_160 jsX11_w5 (Nat.le_of_ble_eq_true rfl) (s_X11_w5 (by omega)  ev1) ?_
  refine ex_bipush (pc := 9) 8 dX11_w6_9 (by decide) ?_
  refine ex_lshl (pc := 11) dX11_w6_11 ?_
  refine ex_iload (pc := 12) 5 dX11_w6_12 rfl ?_
  refine ex_i2l (pc := 14) dX11_w6_14 ?_
  refine ex_lor (pc := 15) dX11_w6_15 ?_
  cases h
  exact ex_lreturn (pc := 16) dX11_w6_16
noncomputable def f_X11_w6 (x0 : Int32) (x1 : Int32) (x2 : Int32) (x3 : Int32) (x4 : Int32) (x5 : Int32) : Option (Int64) := f_X11_w6_0 x0 x1 x2 x3 x4 x5
set_option maxHeartbeats 4000000 in
theorem s_X11_w6 {X : XV} {d : Nat} (hd : 5 ≤ d) {x0 : Int32} {x1 : Int32} {x2 : Int32} {x3 : Int32} {x4 : Int32} {x5 : Int32} {M : Mem} {res : Int64} (h : f_X11_w6 x0 x1 x2 x3 x4 x5 = some res) : Mx X d mX11_w6 [.int x0, .int x1, .int x2, .int x3, .int x4, .int x5] M (some (.long res)) M := by
  obtain ⟨d, rfl⟩ : ∃ e, d = e + 1 := ⟨d - 1, by omega⟩
  unfold f_X11_w6 at h
  refine Mx.of (by decide) (Nat.le_of_ble_eq_true rfl) (rfl) ?_
  exact ex_sub (lo' := [(0, .int x0), (1, .int x1), (2, .int x2), (3, .int x3), (4, .int x4), (5, .int x5)]) [0, 1, 2, 3, 4, 5] rfl (t_X11_w6_0 hd _ _ _ _ _ _ _  h)
noncomputable def f_X11_isWord_0 (x0 : Nat) (x1 : Int64) (M : Mem) : Option (Bool) :=
  (gI M 11 x0 9).bind fun v1 =>
  if v1 = 2 then
  ((gL M 11 x0 11).bind fun v3 =>
  if (lg_cmp v3 x1) = 0 then
  (some true)
  else
  (some false))
  else
  (some false)
set_option maxHeartbeats 4000000 in
theorem t_X11_isWord_0 {X : XV} {d : Nat} (hd : 1 ≤ d + 1) : ∀ (x0 : Nat) (x1 : Int64) (M : Mem) (res : Bool), f_X11_isWord_0  x0 x1 M = some res → Ex X (d + 1) mX11_isWord 0 [(0, .ref x0), (1, .long x1)] [] M (some (.int (jz res))) M := by
  intro x0 x1 M res  h
  unfold f_X11_isWord_0 at h
  refine ex_aload_n (pc := 0) 0 dX11_isWord_0 rfl rfl ?_
  obtain ⟨v1, ev1, h⟩ := ob_some h
  refine ex_gI (pc := 1) ev1 dX11_isWord_1 lfX11_126 ?_
  refine ex_iconst (pc := 4) 2 dX11_isWord_4 rfl ?_
  by_cases c2 : v1 = 2
  · rw [if_pos c2] at h
    refine ex_icmp_ne_f (pc := 5) dX11_isWord_5 21 rfl c2 ?_
    refine ex_aload_n (pc := 8) 0 dX11_isWord_8 rfl rfl ?_
    obtain ⟨v3, ev3, h⟩ := ob_some h
    refine ex_gL (pc := 9) ev3 dX11_isWord_9 lfX11_139 ?_
    refine ex_lload_n (pc := 12) 1 dX11_isWord_12 rfl rfl ?_
    refine ex_lcmp (pc := 13) dX11_isWord_13 ?_
    by_cases c4 : (lg_cmp v3 x1) = 0
    · rw [if_pos c4] at h
      refine ex_if_ne_f (pc := 14) dX11_isWord_14 21 rfl c4 ?_
      refine ex_iconst (pc := 17) 1 dX11_isWord_17 rfl ?_
      refine ex_goto (pc := 18) 22 dX11_isWord_18 rfl ?_
      cases h
      exact ex_ireturn (pc := 22) dX11_isWord_22
    · rw [if_neg c4] at h
      refine ex_if_ne_t (pc := 14) 21 dX11_isWord_14 rfl c4 ?_
      refine ex_iconst (pc := 21) 0 dX11_isWord_21 rfl ?_
      cases h
      exact ex_ireturn (pc := 22) dX11_isWord_22
  · rw [if_neg c2] at h
    refine ex_icmp_ne_t (pc := 5) 21 dX11_isWord_5 rfl c2 ?_
    refine ex_iconst (pc := 21) 0 dX11_isWord_21 rfl ?_
    cases h
    exact ex_ireturn (pc := 22) dX11_isWord_22
noncomputable def f_X11_isWord (x0 : Nat) (x1 : Int64) (M : Mem) : Option (Bool) := if isOb M 11 x0 = true then f_X11_isWord_0 x0 x1 M else none
theorem o_X11_isWord {x0 : Nat} {x1 : Int64} {M : Mem} {res : Bool} (h : f_X11_isWord x0 x1 M = some res) : isO M 11 x0 := by
  unfold f_X11_isWord at h
  split at h
  · rename_i hc; exact isOb_iff hc
  · cases h
set_option maxHeartbeats 4000000 in
theorem s_X11_isWord {X : XV} {d : Nat} (hd : 1 ≤ d) {x0 : Nat} {x1 : Int64} {M : Mem} {res : Bool} (h : f_X11_isWord x0 x1 M = some res) : Mx X d mX11_isWord [.ref x0, .long x1] M (some (.int (jz res))) M := by
  obtain ⟨d, rfl⟩ : ∃ e, d = e + 1 := ⟨d - 1, by omega⟩
  unfold f_X11_isWord at h
  split at h
  rotate_left
  · cases h
  refine Mx.of (by decide) (Nat.le_of_ble_eq_true rfl) (⟨_, rfl, jz_nar _⟩) ?_
  exact ex_sub (lo' := [(0, .ref x0), (1, .long x1)]) [0, 1] rfl (t_X11_isWord_0 hd _ _ _ _  h)
noncomputable def f_X11_emit_0 (x0 : Nat) (x1 : Int32) (x2 : Int32) (M : Mem) : Option (Mem) :=
  (gR M 11 x0 2).bind fun v1 =>
  (gI M 11 x0 12).bind fun v2 =>
  (gI M 11 x0 13).bind fun v3 =>
  (wI M v1 ((v2 + 97) + (2 * v3)) x1).bind fun q4 =>
  (gR q4 11 x0 2).bind fun v5 =>
  (gI q4 11 x0 12).bind fun v6 =>
  (gI q4 11 x0 13).bind fun v7 =>
  (wI q4 v5 (((v6 + 97) + (2 * v7)) + 1) x2).bind fun q8 =>
  (gI q8 11 x0 13).bind fun v9 =>
  (pF q8 11 x0 13 (.int (v9 + 1))).bind fun q10 =>
  some q10
set_option maxHeartbeats 4000000 in
theorem t_X11_emit_0 {X : XV} {d : Nat} (hd : 1 ≤ d + 1) : ∀ (x0 : Nat) (x1 : Int32) (x2 : Int32) (M : Mem) (res : Mem), f_X11_emit_0  x0 x1 x2 M = some res → Ex X (d + 1) mX11_emit 0 [(0, .ref x0), (1, .int x1), (2, .int x2)] [] M none res := by
  intro x0 x1 x2 M res  h
  unfold f_X11_emit_0 at h
  refine ex_aload_n (pc := 0) 0 dX11_emit_0 rfl rfl ?_
  obtain ⟨v1, ev1, h⟩ := ob_some h
  refine ex_gR (pc := 1) ev1 dX11_emit_1 lfX11_16 ?_
  refine ex_aload_n (pc := 4) 0 dX11_emit_4 rfl rfl ?_
  obtain ⟨v2, ev2, h⟩ := ob_some h
  refine ex_gI (pc := 5) ev2 dX11_emit_5 lfX11_164 ?_
  refine ex_bipush (pc := 8) 97 dX11_emit_8 (by decide) ?_
  refine ex_iadd (pc := 10) dX11_emit_10 ?_
  refine ex_iconst (pc := 11) 2 dX11_emit_11 rfl ?_
  refine ex_aload_n (pc := 12) 0 dX11_emit_12 rfl rfl ?_
  obtain ⟨v3, ev3, h⟩ := ob_some h
  refine ex_gI (pc := 13) ev3 dX11_emit_13 lfX11_167 ?_
  refine ex_imul (pc := 16) dX11_emit_16 ?_
  refine ex_iadd (pc := 17) dX11_emit_17 ?_
  refine ex_iload_n (pc := 18) 1 dX11_emit_18 rfl rfl ?_
  obtain ⟨q4, eq4, h⟩ := ob_some h
  refine ex_wI (pc := 19) eq4 dX11_emit_19 ?_
  refine ex_aload_n (pc := 20) 0 dX11_emit_20 rfl rfl ?_
  obtain ⟨v5, ev5, h⟩ := ob_some h
  refine ex_gR (pc := 21) ev5 dX11_emit_21 lfX11_16 ?_
  refine ex_aload_n (pc := 24) 0 dX11_emit_24 rfl rfl ?_
  obtain ⟨v6, ev6, h⟩ := ob_some h
  refine ex_gI (pc := 25) ev6 dX11_emit_25 lfX11_164 ?_
  refine ex_bipush (pc := 28) 97 dX11_emit_28 (by decide) ?_
  refine ex_iadd (pc := 30) dX11_emit_30 ?_
  refine ex_iconst (pc := 31) 2 dX11_emit_31 rfl ?_
  refine ex_aload_n (pc := 32) 0 dX11_emit_32 rfl rfl ?_
  obtain ⟨v7, ev7, h⟩ := ob_some h
  refine ex_gI (pc := 33) ev7 dX11_emit_33 lfX11_167 ?_
  refine ex_imul (pc := 36) dX11_emit_36 ?_
  refine ex_iadd (pc := 37) dX11_emit_37 ?_
  refine ex_iconst (pc := 38) 1 dX11_emit_38 rfl ?_
  refine ex_iadd (pc := 39) dX11_emit_39 ?_
  refine ex_iload_n (pc := 40) 2 dX11_emit_40 rfl rfl ?_
  obtain ⟨q8, eq8, h⟩ := ob_some h
  refine ex_wI (pc := 41) eq8 dX11_emit_41 ?_
  refine ex_aload_n (pc := 42) 0 dX11_emit_42 rfl rfl ?_
  refine ex_dup (pc := 43) dX11_emit_43 rfl ?_
  obtain ⟨v9, ev9, h⟩ := ob_some h
  refine ex_gI (pc := 44) ev9 dX11_emit_44 lfX11_167 ?_
  refine ex_iconst (pc := 47) 1 dX11_emit_47 rfl ?_
  refine ex_iadd (pc := 48) dX11_emit_48 ?_
  obtain ⟨q10, eq10, h⟩ := ob_some h
  refine ex_pF (pc := 49) eq10 dX11_emit_49 lfX11_167 rfl rfl (fun _ hq => by cases hq; rfl) ?_
  cases h
  exact ex_return (pc := 52) dX11_emit_52
noncomputable def f_X11_emit (x0 : Nat) (x1 : Int32) (x2 : Int32) (M : Mem) : Option (Mem) := if isOb M 11 x0 = true then f_X11_emit_0 x0 x1 x2 M else none
theorem o_X11_emit {x0 : Nat} {x1 : Int32} {x2 : Int32} {M : Mem} {res : Mem} (h : f_X11_emit x0 x1 x2 M = some res) : isO M 11 x0 := by
  unfold f_X11_emit at h
  split at h
  · rename_i hc; exact isOb_iff hc
  · cases h
set_option maxHeartbeats 4000000 in
theorem s_X11_emit {X : XV} {d : Nat} (hd : 1 ≤ d) {x0 : Nat} {x1 : Int32} {x2 : Int32} {M : Mem} {res : Mem} (h : f_X11_emit x0 x1 x2 M = some res) : Mx X d mX11_emit [.ref x0, .int x1, .int x2] M none res := by
  obtain ⟨d, rfl⟩ : ∃ e, d = e + 1 := ⟨d - 1, by omega⟩
  unfold f_X11_emit at h
  split at h
  rotate_left
  · cases h
  refine Mx.of (by decide) (Nat.le_of_ble_eq_true rfl) (rfl) ?_
  exact ex_sub (lo' := [(0, .ref x0), (1, .int x1), (2, .int x2)]) [0, 1, 2] rfl (t_X11_emit_0 hd _ _ _ _ _  h)
noncomputable def f_X11_isLong_113 (x0 : Nat) (x1 : Int64) (x3 : Int64) (s0 : Int64) (M : Mem) : Option (Bool) :=
  (gI M 11 x0 8).bind fun v1 =>
  (f_X11_byteAt x0 v1 M).bind fun v2 =>
  (gI M 11 x0 8).bind fun v3 =>
  (f_X11_byteAt x0 (v3 + 1) M).bind fun v4 =>
  (gI M 11 x0 8).bind fun v5 =>
  (f_X11_byteAt x0 (v5 + 2) M).bind fun v6 =>
  (gI M 11 x0 8).bind fun v7 =>
  (f_X11_byteAt x0 (v7 + 3) M).bind fun v8 =>
  (f_X11_w4 v2 v4 v6 v8).bind fun v9 =>
  if (lg_cmp v9 x1) = 0 then
  (if (lg_cmp s0 x3) = 0 then
  (some true)
  else
  (some false))
  else
  (some false)
set_option maxHeartbeats 4000000 in
theorem t_X11_isLong_113 {X : XV} {d : Nat} (hd : 4 ≤ d + 1) : ∀ (x0 : Nat) (x1 : Int64) (x3 : Int64) (s0 : Int64) (M : Mem) (res : Bool), f_X11_isLong_113  x0 x1 x3 s0 M = some res → Ex X (d + 1) mX11_isLong 113 [(0, .ref x0), (1, .long x1), (3, .long x3)] [.long s0] M (some (.int (jz res))) M := by
  intro x0 x1 x3 s0 M res  h
  unfold f_X11_isLong_113 at h
  refine ex_lstore (pc := 113) [(6, .long s0), (0, .ref x0), (1, .long x1), (3, .long x3)] dX11_isLong_113 (by decide) rfl ?_
  refine ex_aload_n (pc := 115) 1 dX11_isLong_115 rfl rfl ?_
  refine ex_aload_n (pc := 116) 1 dX11_isLong_116 rfl rfl ?_
  obtain ⟨v1, ev1, h⟩ := ob_some h
  refine ex_gI (pc := 117) ev1 dX11_isLong_117 lfX11_123 ?_
  obtain ⟨v2, ev2, h⟩ := ob_some h
  refine ex_callV1r (pc := 120) dX11_isLong_120 jX11_byteAt lmX11_120 jiX11_byteAt jvX11_byteAt (o_X11_byteAt ev2) rfl (Nat.le_of_ble_eq_true rfl) (s_X11_byteAt (by omega)  ev2) ?_
  refine ex_aload_n (pc := 123) 1 dX11_isLong_123 rfl rfl ?_
  refine ex_aload_n (pc := 124) 1 dX11_isLong_124 rfl rfl ?_
  obtain ⟨v3, ev3, h⟩ := ob_some h
  refine ex_gI (pc := 125) ev3 dX11_isLong_125 lfX11_123 ?_
  refine ex_iconst (pc := 128) 1 dX11_isLong_128 rfl ?_
  refine ex_iadd (pc := 129) dX11_isLong_129 ?_
  obtain ⟨v4, ev4, h⟩ := ob_some h
  refine ex_callV1r (pc := 130) dX11_isLong_130 jX11_byteAt lmX11_120 jiX11_byteAt jvX11_byteAt (o_X11_byteAt ev4) rfl (Nat.le_of_ble_eq_true rfl) (s_X11_byteAt (by omega)  ev4) ?_
  refine ex_aload_n (pc := 133) 1 dX11_isLong_133 rfl rfl ?_
  refine ex_aload_n (pc := 134) 1 dX11_isLong_134 rfl rfl ?_
  obtain ⟨v5, ev5, h⟩ := ob_some h
  refine ex_gI (pc := 135) ev5 dX11_isLong_135 lfX11_123 ?_
  refine ex_iconst (pc := 138) 2 dX11_isLong_138 rfl ?_
  refine ex_iadd (pc := 139) dX11_isLong_139 ?_
  obtain ⟨v6, ev6, h⟩ := ob_some h
  refine ex_callV1r (pc := 140) dX11_isLong_140 jX11_byteAt lmX11_120 jiX11_byteAt jvX11_byteAt (o_X11_byteAt ev6) rfl (Nat.le_of_ble_eq_true rfl) (s_X11_byteAt (by omega)  ev6) ?_
  refine ex_aload_n (pc := 143) 1 dX11_isLong_143 rfl rfl ?_
  refine ex_aload_n (pc := 144) 1 dX11_isLong_144 rfl rfl ?_
  obtain ⟨v7, ev7, h⟩ := ob_some h
  refine ex_gI (pc := 145) ev7 dX11_isLong_145 lfX11_123 ?_
  refine ex_iconst (pc := 148) 3 dX11_isLong_148 rfl ?_
  refine ex_iadd (pc := 149) dX11_isLong_149 ?_
  obtain ⟨v8, ev8, h⟩ := ob_some h
  refine ex_callV1r (pc := 150) dX11_isLong_150 jX11_byteAt lmX11_120 jiX11_byteAt jvX11_byteAt (o_X11_byteAt ev8) rfl (Nat.le_of_ble_eq_true rfl) (s_X11_byteAt (by omega)  ev8) ?_
  obtain ⟨v9, ev9, h⟩ := ob_some h
  refine ex_callS4r (pc := 153) dX11_isLong_153 jX11_w4 lmX11_156 jsX11_w4 (Nat.le_of_ble_eq_true rfl) (s_X11_w4 (by omega)  ev9) ?_
  refine ex_lload_n (pc := 156) 2 dX11_isLong_156 rfl rfl ?_
  refine ex_lcmp (pc := 157) dX11_isLong_157 ?_
  by_cases c10 : (lg_cmp v9 x1) = 0
  · rw [if_pos c10] at h
    refine ex_if_ne_f (pc := 158) dX11_isLong_158 172 rfl c10 ?_
    refine ex_lload (pc := 161) 0 dX11_isLong_161 rfl ?_
    refine ex_lload_n (pc := 163) 3 dX11_isLong_163 rfl rfl ?_
    refine ex_lcmp (pc := 164) dX11_isLong_164 ?_
    by_cases c11 : (lg_cmp s0 x3) = 0
    · rw [if_pos c11] at h
      refine ex_if_ne_f (pc := 165) dX11_isLong_165 172 rfl c11 ?_
      refine ex_iconst (pc := 168) 1 dX11_isLong_168 rfl ?_
      refine ex_goto (pc := 169) 173 dX11_isLong_169 rfl ?_
      cases h
      exact ex_ireturn (pc := 173) dX11_isLong_173
    · rw [if_neg c11] at h
      refine ex_if_ne_t (pc := 165) 172 dX11_isLong_165 rfl c11 ?_
      refine ex_iconst (pc := 172) 0 dX11_isLong_172 rfl ?_
      cases h
      exact ex_ireturn (pc := 173) dX11_isLong_173
  · rw [if_neg c10] at h
    refine ex_if_ne_t (pc := 158) 172 dX11_isLong_158 rfl c10 ?_
    refine ex_iconst (pc := 172) 0 dX11_isLong_172 rfl ?_
    cases h
    exact ex_ireturn (pc := 173) dX11_isLong_173
noncomputable def f_X11_isLong_0 (x0 : Nat) (x1 : Int64) (x3 : Int64) (x5 : Int32) (M : Mem) : Option (Bool) :=
  (gI M 11 x0 9).bind fun v12 =>
  if v12 = 2 then
  ((gI M 11 x0 7).bind fun v14 =>
  (gI M 11 x0 8).bind fun v15 =>
  if (v14 - v15) = x5 then
  (if x5 = 7 then
  ((gI M 11 x0 8).bind fun v27 =>
  (f_X11_byteAt x0 (v27 + 4) M).bind fun v28 =>
  (gI M 11 x0 8).bind fun v29 =>
  (f_X11_byteAt x0 (v29 + 5) M).bind fun v30 =>
  (gI M 11 x0 8).bind fun v31 =>
  (f_X11_byteAt x0 (v31 + 6) M).bind fun v32 =>
  (f_X11_w3 v28 v30 v32).bind fun v33 =>
  f_X11_isLong_113 x0 x1 x3 v33 M)
  else
  ((gI M 11 x0 8).bind fun v18 =>
  (f_X11_byteAt x0 (v18 + 4) M).bind fun v19 =>
  (gI M 11 x0 8).bind fun v20 =>
  (f_X11_byteAt x0 (v20 + 5) M).bind fun v21 =>
  (gI M 11 x0 8).bind fun v22 =>
  (f_X11_byteAt x0 (v22 + 6) M).bind fun v23 =>
  (gI M 11 x0 8).bind fun v24 =>
  (f_X11_byteAt x0 (v24 + 7) M).bind fun v25 =>
  (f_X11_w4 v19 v21 v23 v25).bind fun v26 =>
  f_X11_isLong_113 x0 x1 x3 v26 M))
  else
  (some false))
  else
  (some false)
set_option maxHeartbeats 4000000 in
theorem t_X11_isLong_0 {X : XV} {d : Nat} (hd : 4 ≤ d + 1) : ∀ (x0 : Nat) (x1 : Int64) (x3 : Int64) (x5 : Int32) (M : Mem) (res : Bool), f_X11_isLong_0  x0 x1 x3 x5 M = some res → Ex X (d + 1) mX11_isLong 0 [(0, .ref x0), (1, .long x1), (3, .long x3), (5, .int x5)] [] M (some (.int (jz res))) M := by
  intro x0 x1 x3 x5 M res  h
  unfold f_X11_isLong_0 at h
  refine ex_aload_n (pc := 0) 0 dX11_isLong_0 rfl rfl ?_
  obtain ⟨v12, ev12, h⟩ := ob_some h
  refine ex_gI (pc := 1) ev12 dX11_isLong_1 lfX11_126 ?_
  refine ex_iconst (pc := 4) 2 dX11_isLong_4 rfl ?_
  by_cases c13 : v12 = 2
  · rw [if_pos c13] at h
    refine ex_icmp_ne_f (pc := 5) dX11_isLong_5 22 rfl c13 ?_
    refine ex_aload_n (pc := 8) 0 dX11_isLong_8 rfl rfl ?_
    obtain ⟨v14, ev14, h⟩ := ob_some h
    refine ex_gI (pc := 9) ev14 dX11_isLong_9 lfX11_117 ?_
    refine ex_aload_n (pc := 12) 0 dX11_isLong_12 rfl rfl ?_
    obtain ⟨v15, ev15, h⟩ := ob_some h
    refine ex_gI (pc := 13) ev15 dX11_isLong_13 lfX11_123 ?_
    refine ex_isub (pc := 16) dX11_isLong_16 ?_
    refine ex_iload (pc := 17) 3 dX11_isLong_17 rfl ?_
    by_cases c16 : (v14 - v15) = x5
    · rw [if_pos c16] at h
      refine ex_icmp_eq_t (pc := 19) 24 dX11_isLong_19 rfl c16 ?_
      refine ex_iload (pc := 24) 3 dX11_isLong_24 rfl ?_
      refine ex_bipush (pc := 26) 7 dX11_isLong_26 (by decide) ?_
      by_cases c17 : x5 = 7
      · rw [if_pos c17] at h
        refine ex_icmp_ne_f (pc := 28) dX11_isLong_28 68 rfl c17 ?_
        refine ex_aload_n (pc := 31) 0 dX11_isLong_31 rfl rfl ?_
        refine ex_aload_n (pc := 32) 0 dX11_isLong_32 rfl rfl ?_
        obtain ⟨v27, ev27, h⟩ := ob_some h
        refine ex_gI (pc := 33) ev27 dX11_isLong_33 lfX11_123 ?_
        refine ex_iconst (pc := 36) 4 dX11_isLong_36 rfl ?_
        refine ex_iadd (pc := 37) dX11_isLong_37 ?_
        obtain ⟨v28, ev28, h⟩ := ob_some h
        refine ex_callV1r (pc := 38) dX11_isLong_38 jX11_byteAt lmX11_120 jiX11_byteAt jvX11_byteAt (o_X11_byteAt ev28) rfl (Nat.le_of_ble_eq_true rfl) (s_X11_byteAt (by omega)  ev28) ?_
        refine ex_aload_n (pc := 41) 0 dX11_isLong_41 rfl rfl ?_
        refine ex_aload_n (pc := 42) 0 dX11_isLong_42 rfl rfl ?_
        obtain ⟨v29, ev29, h⟩ := ob_some h
        refine ex_gI (pc := 43) ev29 dX11_isLong_43 lfX11_123 ?_
        refine ex_iconst (pc := 46) 5 dX11_isLong_46 rfl ?_
        refine ex_iadd (pc := 47) dX11_isLong_47 ?_
        obtain ⟨v30, ev30, h⟩ := ob_some h
        refine ex_callV1r (pc := 48) dX11_isLong_48 jX11_byteAt lmX11_120 jiX11_byteAt jvX11_byteAt (o_X11_byteAt ev30) rfl (Nat.le_of_ble_eq_true rfl) (s_X11_byteAt (by omega)  ev30) ?_
        refine ex_aload_n (pc := 51) 0 dX11_isLong_51 rfl rfl ?_
        refine ex_aload_n (pc := 52) 0 dX11_isLong_52 rfl rfl ?_
        obtain ⟨v31, ev31, h⟩ := ob_some h
        refine ex_gI (pc := 53) ev31 dX11_isLong_53 lfX11_123 ?_
        refine ex_bipush (pc := 56) 6 dX11_isLong_56 (by decide) ?_
        refine ex_iadd (pc := 58) dX11_isLong_58 ?_
        obtain ⟨v32, ev32, h⟩ := ob_some h
        refine ex_callV1r (pc := 59) dX11_isLong_59 jX11_byteAt lmX11_120 jiX11_byteAt jvX11_byteAt (o_X11_byteAt ev32) rfl (Nat.le_of_ble_eq_true rfl) (s_X11_byteAt (by omega)  ev32) ?_
        obtain ⟨v33, ev33, h⟩ := ob_some h
        refine ex_callS3r (pc := 62) dX11_isLong_62 jX11_w3 lmX11_152 jsX11_w3 (Nat.le_of_ble_eq_true rfl) (s_X11_w3 (by omega)  ev33) ?_
        refine ex_goto (pc := 65) 113 dX11_isLong_65 rfl ?_
        refine ex_sub (lo' := [(0, .ref x0), (1, .long x1), (3, .long x3)]) [0, 1, 2] rfl ?_
        exact t_X11_isLong_113 hd  _ _ _ _ _ _  h
      · rw [if_neg c17] at h
        refine ex_icmp_ne_t (pc := 28) 68 dX11_isLong_28 rfl c17 ?_
        refine ex_aload_n (pc := 68) 0 dX11_isLong_68 rfl rfl ?_
        refine ex_aload_n (pc := 69) 0 dX11_isLong_69 rfl rfl ?_
        obtain ⟨v18, ev18, h⟩ := ob_some h
        refine ex_gI (pc := 70) ev18 dX11_isLong_70 lfX11_123 ?_
        refine ex_iconst (pc := 73) 4 dX11_isLong_73 rfl ?_
        refine ex_iadd (pc := 74) dX11_isLong_74 ?_
        obtain ⟨v19, ev19, h⟩ := ob_some h
        refine ex_callV1r (pc := 75) dX11_isLong_75 jX11_byteAt lmX11_120 jiX11_byteAt jvX11_byteAt (o_X11_byteAt ev19) rfl (Nat.le_of_ble_eq_true rfl) (s_X11_byteAt (by omega)  ev19) ?_
        refine ex_aload_n (pc := 78) 0 dX11_isLong_78 rfl rfl ?_
        refine ex_aload_n (pc := 79) 0 dX11_isLong_79 rfl rfl ?_
        obtain ⟨v20, ev20, h⟩ := ob_some h
        refine ex_gI (pc := 80) ev20 dX11_isLong_80 lfX11_123 ?_
        refine ex_iconst (pc := 83) 5 dX11_isLong_83 rfl ?_
        refine ex_iadd (pc := 84) dX11_isLong_84 ?_
        obtain ⟨v21, ev21, h⟩ := ob_some h
        refine ex_callV1r (pc := 85) dX11_isLong_85 jX11_byteAt lmX11_120 jiX11_byteAt jvX11_byteAt (o_X11_byteAt ev21) rfl (Nat.le_of_ble_eq_true rfl) (s_X11_byteAt (by omega)  ev21) ?_
        refine ex_aload_n (pc := 88) 0 dX11_isLong_88 rfl rfl ?_
        refine ex_aload_n (pc := 89) 0 dX11_isLong_89 rfl rfl ?_
        obtain ⟨v22, ev22, h⟩ := ob_some h
        refine ex_gI (pc := 90) ev22 dX11_isLong_90 lfX11_123 ?_
        refine ex_bipush (pc := 93) 6 dX11_isLong_93 (by decide) ?_
        refine ex_iadd (pc := 95) dX11_isLong_95 ?_
        obtain ⟨v23, ev23, h⟩ := ob_some h
        refine ex_callV1r (pc := 96) dX11_isLong_96 jX11_byteAt lmX11_120 jiX11_byteAt jvX11_byteAt (o_X11_byteAt ev23) rfl (Nat.le_of_ble_eq_true rfl) (s_X11_byteAt (by omega)  ev23) ?_
        refine ex_aload_n (pc := 99) 0 dX11_isLong_99 rfl rfl ?_
        refine ex_aload_n (pc := 100) 0 dX11_isLong_100 rfl rfl ?_
        obtain ⟨v24, ev24, h⟩ := ob_some h
        refine ex_gI (pc := 101) ev24 dX11_isLong_101 lfX11_123 ?_
        refine ex_bipush (pc := 104) 7 dX11_isLong_104 (by decide) ?_
        refine ex_iadd (pc := 106) dX11_isLong_106 ?_
        obtain ⟨v25, ev25, h⟩ := ob_some h
        refine ex_callV1r (pc := 107) dX11_isLong_107 jX11_byteAt lmX11_120 jiX11_byteAt jvX11_byteAt (o_X11_byteAt ev25) rfl (Nat.le_of_ble_eq_true rfl) (s_X11_byteAt (by omega)  ev25) ?_
        obtain ⟨v26, ev26, h⟩ := ob_some h
        refine ex_callS4r (pc := 110) dX11_isLong_110 jX11_w4 lmX11_156 jsX11_w4 (Nat.le_of_ble_eq_true rfl) (s_X11_w4 (by omega)  ev26) ?_
        refine ex_sub (lo' := [(0, .ref x0), (1, .long x1), (3, .long x3)]) [0, 1, 2] rfl ?_
        exact t_X11_isLong_113 hd  _ _ _ _ _ _  h
    · rw [if_neg c16] at h
      refine ex_icmp_eq_f (pc := 19) dX11_isLong_19 24 rfl c16 ?_
      refine ex_iconst (pc := 22) 0 dX11_isLong_22 rfl ?_
      cases h
      exact ex_ireturn (pc := 23) dX11_isLong_23
  · rw [if_neg c13] at h
    refine ex_icmp_ne_t (pc := 5) 22 dX11_isLong_5 rfl c13 ?_
    refine ex_iconst (pc := 22) 0 dX11_isLong_22 rfl ?_
    cases h
    exact ex_ireturn (pc := 23) dX11_isLong_23
noncomputable def f_X11_isLong (x0 : Nat) (x1 : Int64) (x3 : Int64) (x5 : Int32) (M : Mem) : Option (Bool) := if isOb M 11 x0 = true then f_X11_isLong_0 x0 x1 x3 x5 M else none
theorem o_X11_isLong {x0 : Nat} {x1 : Int64} {x3 : Int64} {x5 : Int32} {M : Mem} {res : Bool} (h : f_X11_isLong x0 x1 x3 x5 M = some res) : isO M 11 x0 := by
  unfold f_X11_isLong at h
  split at h
  · rename_i hc; exact isOb_iff hc
  · cases h
set_option maxHeartbeats 4000000 in
theorem s_X11_isLong {X : XV} {d : Nat} (hd : 4 ≤ d) {x0 : Nat} {x1 : Int64} {x3 : Int64} {x5 : Int32} {M : Mem} {res : Bool} (h : f_X11_isLong x0 x1 x3 x5 M = some res) : Mx X d mX11_isLong [.ref x0, .long x1, .long x3, .int x5] M (some (.int (jz res))) M := by
  obtain ⟨d, rfl⟩ : ∃ e, d = e + 1 := ⟨d - 1, by omega⟩
  unfold f_X11_isLong at h
  split at h
  rotate_left
  · cases h
  refine Mx.of (by decide) (Nat.le_of_ble_eq_true rfl) (⟨_, rfl, jz_nar _⟩) ?_
  exact ex_sub (lo' := [(0, .ref x0), (1, .long x1), (3, .long x3), (5, .int x5)]) [0, 1, 2, 3] rfl (t_X11_isLong_0 hd _ _ _ _ _ _  h)
noncomputable def f_X11_nameOf_0 (x0 : Nat) (M : Mem) : Option (Int32) :=
  (gI M 11 x0 9).bind fun v1 =>
  if v1 = 2 then
  ((gL M 11 x0 11).bind fun v3 =>
  (f_X11_w5 110 105 103 104 116).bind fun v4 =>
  if (lg_cmp v3 v4) = 0 then
  (some 0)
  else
  ((gL M 11 x0 11).bind fun v6 =>
  (f_X11_w5 98 114 97 115 115).bind fun v7 =>
  if (lg_cmp v6 v7) = 0 then
  (some 1)
  else
  ((gL M 11 x0 11).bind fun v9 =>
  (f_X11_w4 119 101 97 114).bind fun v10 =>
  if (lg_cmp v9 v10) = 0 then
  (some 2)
  else
  ((gL M 11 x0 11).bind fun v12 =>
  (f_X11_w3 111 105 108).bind fun v13 =>
  if (lg_cmp v12 v13) = 0 then
  (some 3)
  else
  ((gL M 11 x0 11).bind fun v15 =>
  (f_X11_w3 115 117 109).bind fun v16 =>
  if (lg_cmp v15 v16) = 0 then
  (some 4)
  else
  ((gL M 11 x0 11).bind fun v18 =>
  (f_X11_w3 119 104 111).bind fun v19 =>
  if (lg_cmp v18 v19) = 0 then
  (some 5)
  else
  ((gL M 11 x0 11).bind fun v21 =>
  (f_X11_w4 108 111 110 103).bind fun v22 =>
  if (lg_cmp v21 v22) = 0 then
  (some 6)
  else
  ((gL M 11 x0 11).bind fun v24 =>
  (f_X11_w4 115 97 109 101).bind fun v25 =>
  if (lg_cmp v24 v25) = 0 then
  (some 7)
  else
  (some (-1))))))))))
  else
  (some (-1))
set_option maxHeartbeats 4000000 in
theorem t_X11_nameOf_0 {X : XV} {d : Nat} (hd : 5 ≤ d + 1) : ∀ (x0 : Nat) (M : Mem) (res : Int32), f_X11_nameOf_0  x0 M = some res → Ex X (d + 1) mX11_nameOf 0 [(0, .ref x0)] [] M (some (.int res)) M := by
  intro x0 M res  h
  unfold f_X11_nameOf_0 at h
  refine ex_aload_n (pc := 0) 0 dX11_nameOf_0 rfl rfl ?_
  obtain ⟨v1, ev1, h⟩ := ob_some h
  refine ex_gI (pc := 1) ev1 dX11_nameOf_1 lfX11_126 ?_
  refine ex_iconst (pc := 4) 2 dX11_nameOf_4 rfl ?_
  by_cases c2 : v1 = 2
  · rw [if_pos c2] at h
    refine ex_icmp_eq_t (pc := 5) 10 dX11_nameOf_5 rfl c2 ?_
    refine ex_aload_n (pc := 10) 0 dX11_nameOf_10 rfl rfl ?_
    obtain ⟨v3, ev3, h⟩ := ob_some h
    refine ex_gL (pc := 11) ev3 dX11_nameOf_11 lfX11_139 ?_
    refine ex_bipush (pc := 14) 110 dX11_nameOf_14 (by decide) ?_
    refine ex_bipush (pc := 16) 105 dX11_nameOf_16 (by decide) ?_
    refine ex_bipush (pc := 18) 103 dX11_nameOf_18 (by decide) ?_
    refine ex_bipush (pc := 20) 104 dX11_nameOf_20 (by decide) ?_
    refine ex_bipush (pc := 22) 116 dX11_nameOf_22 (by decide) ?_
    obtain ⟨v4, ev4, h⟩ := ob_some h
    refine ex_callS5r (pc := 24) dX11_nameOf_24 jX11_w5 lmX11_160 jsX11_w5 (Nat.le_of_ble_eq_true rfl) (s_X11_w5 (by omega)  ev4) ?_
    refine ex_lcmp (pc := 27) dX11_nameOf_27 ?_
    by_cases c5 : (lg_cmp v3 v4) = 0
    · rw [if_pos c5] at h
      refine ex_if_ne_f (pc := 28) dX11_nameOf_28 33 rfl c5 ?_
      refine ex_iconst (pc := 31) 0 dX11_nameOf_31 rfl ?_
      cases h
      exact ex_ireturn (pc := 32) dX11_nameOf_32
    · rw [if_neg c5] at h
      refine ex_if_ne_t (pc := 28) 33 dX11_nameOf_28 rfl c5 ?_
      refine ex_aload_n (pc := 33) 0 dX11_nameOf_33 rfl rfl ?_
      obtain ⟨v6, ev6, h⟩ := ob_some h
      refine ex_gL (pc := 34) ev6 dX11_nameOf_34 lfX11_139 ?_
      refine ex_bipush (pc := 37) 98 dX11_nameOf_37 (by decide) ?_
      refine ex_bipush (pc := 39) 114 dX11_nameOf_39 (by decide) ?_
      refine ex_bipush (pc := 41) 97 dX11_nameOf_41 (by decide) ?_
      refine ex_bipush (pc := 43) 115 dX11_nameOf_43 (by decide) ?_
      refine ex_bipush (pc := 45) 115 dX11_nameOf_45 (by decide) ?_
      obtain ⟨v7, ev7, h⟩ := ob_some h
      refine ex_callS5r (pc := 47) dX11_nameOf_47 jX11_w5 lmX11_160 jsX11_w5 (Nat.le_of_ble_eq_true rfl) (s_X11_w5 (by omega)  ev7) ?_
      refine ex_lcmp (pc := 50) dX11_nameOf_50 ?_
      by_cases c8 : (lg_cmp v6 v7) = 0
      · rw [if_pos c8] at h
        refine ex_if_ne_f (pc := 51) dX11_nameOf_51 56 rfl c8 ?_
        refine ex_iconst (pc := 54) 1 dX11_nameOf_54 rfl ?_
        cases h
        exact ex_ireturn (pc := 55) dX11_nameOf_55
      · rw [if_neg c8] at h
        refine ex_if_ne_t (pc := 51) 56 dX11_nameOf_51 rfl c8 ?_
        refine ex_aload_n (pc := 56) 0 dX11_nameOf_56 rfl rfl ?_
        obtain ⟨v9, ev9, h⟩ := ob_some h
        refine ex_gL (pc := 57) ev9 dX11_nameOf_57 lfX11_139 ?_
        refine ex_bipush (pc := 60) 119 dX11_nameOf_60 (by decide) ?_
        refine ex_bipush (pc := 62) 101 dX11_nameOf_62 (by decide) ?_
        refine ex_bipush (pc := 64) 97 dX11_nameOf_64 (by decide) ?_
        refine ex_bipush (pc := 66) 114 dX11_nameOf_66 (by decide) ?_
        obtain ⟨v10, ev10, h⟩ := ob_some h
        refine ex_callS4r (pc := 68) dX11_nameOf_68 jX11_w4 lmX11_156 jsX11_w4 (Nat.le_of_ble_eq_true rfl) (s_X11_w4 (by omega)  ev10) ?_
        refine ex_lcmp (pc := 71) dX11_nameOf_71 ?_
        by_cases c11 : (lg_cmp v9 v10) = 0
        · rw [if_pos c11] at h
          refine ex_if_ne_f (pc := 72) dX11_nameOf_72 77 rfl c11 ?_
          refine ex_iconst (pc := 75) 2 dX11_nameOf_75 rfl ?_
          cases h
          exact ex_ireturn (pc := 76) dX11_nameOf_76
        · rw [if_neg c11] at h
          refine ex_if_ne_t (pc := 72) 77 dX11_nameOf_72 rfl c11 ?_
          refine ex_aload_n (pc := 77) 0 dX11_nameOf_77 rfl rfl ?_
          obtain ⟨v12, ev12, h⟩ := ob_some h
          refine ex_gL (pc := 78) ev12 dX11_nameOf_78 lfX11_139 ?_
          refine ex_bipush (pc := 81) 111 dX11_nameOf_81 (by decide) ?_
          refine ex_bipush (pc := 83) 105 dX11_nameOf_83 (by decide) ?_
          refine ex_bipush (pc := 85) 108 dX11_nameOf_85 (by decide) ?_
          obtain ⟨v13, ev13, h⟩ := ob_some h
          refine ex_callS3r (pc := 87) dX11_nameOf_87 jX11_w3 lmX11_152 jsX11_w3 (Nat.le_of_ble_eq_true rfl) (s_X11_w3 (by omega)  ev13) ?_
          refine ex_lcmp (pc := 90) dX11_nameOf_90 ?_
          by_cases c14 : (lg_cmp v12 v13) = 0
          · rw [if_pos c14] at h
            refine ex_if_ne_f (pc := 91) dX11_nameOf_91 96 rfl c14 ?_
            refine ex_iconst (pc := 94) 3 dX11_nameOf_94 rfl ?_
            cases h
            exact ex_ireturn (pc := 95) dX11_nameOf_95
          · rw [if_neg c14] at h
            refine ex_if_ne_t (pc := 91) 96 dX11_nameOf_91 rfl c14 ?_
            refine ex_aload_n (pc := 96) 0 dX11_nameOf_96 rfl rfl ?_
            obtain ⟨v15, ev15, h⟩ := ob_some h
            refine ex_gL (pc := 97) ev15 dX11_nameOf_97 lfX11_139 ?_
            refine ex_bipush (pc := 100) 115 dX11_nameOf_100 (by decide) ?_
            refine ex_bipush (pc := 102) 117 dX11_nameOf_102 (by decide) ?_
            refine ex_bipush (pc := 104) 109 dX11_nameOf_104 (by decide) ?_
            obtain ⟨v16, ev16, h⟩ := ob_some h
            refine ex_callS3r (pc := 106) dX11_nameOf_106 jX11_w3 lmX11_152 jsX11_w3 (Nat.le_of_ble_eq_true rfl) (s_X11_w3 (by omega)  ev16) ?_
            refine ex_lcmp (pc := 109) dX11_nameOf_109 ?_
            by_cases c17 : (lg_cmp v15 v16) = 0
            · rw [if_pos c17] at h
              refine ex_if_ne_f (pc := 110) dX11_nameOf_110 115 rfl c17 ?_
              refine ex_iconst (pc := 113) 4 dX11_nameOf_113 rfl ?_
              cases h
              exact ex_ireturn (pc := 114) dX11_nameOf_114
            · rw [if_neg c17] at h
              refine ex_if_ne_t (pc := 110) 115 dX11_nameOf_110 rfl c17 ?_
              refine ex_aload_n (pc := 115) 0 dX11_nameOf_115 rfl rfl ?_
              obtain ⟨v18, ev18, h⟩ := ob_some h
              refine ex_gL (pc := 116) ev18 dX11_nameOf_116 lfX11_139 ?_
              refine ex_bipush (pc := 119) 119 dX11_nameOf_119 (by decide) ?_
              refine ex_bipush (pc := 121) 104 dX11_nameOf_121 (by decide) ?_
              refine ex_bipush (pc := 123) 111 dX11_nameOf_123 (by decide) ?_
              obtain ⟨v19, ev19, h⟩ := ob_some h
              refine ex_callS3r (pc := 125) dX11_nameOf_125 jX11_w3 lmX11_152 jsX11_w3 (Nat.le_of_ble_eq_true rfl) (s_X11_w3 (by omega)  ev19) ?_
              refine ex_lcmp (pc := 128) dX11_nameOf_128 ?_
              by_cases c20 : (lg_cmp v18 v19) = 0
              · rw [if_pos c20] at h
                refine ex_if_ne_f (pc := 129) dX11_nameOf_129 134 rfl c20 ?_
                refine ex_iconst (pc := 132) 5 dX11_nameOf_132 rfl ?_
                cases h
                exact ex_ireturn (pc := 133) dX11_nameOf_133
              · rw [if_neg c20] at h
                refine ex_if_ne_t (pc := 129) 134 dX11_nameOf_129 rfl c20 ?_
                refine ex_aload_n (pc := 134) 0 dX11_nameOf_134 rfl rfl ?_
                obtain ⟨v21, ev21, h⟩ := ob_some h
                refine ex_gL (pc := 135) ev21 dX11_nameOf_135 lfX11_139 ?_
                refine ex_bipush (pc := 138) 108 dX11_nameOf_138 (by decide) ?_
                refine ex_bipush (pc := 140) 111 dX11_nameOf_140 (by decide) ?_
                refine ex_bipush (pc := 142) 110 dX11_nameOf_142 (by decide) ?_
                refine ex_bipush (pc := 144) 103 dX11_nameOf_144 (by decide) ?_
                obtain ⟨v22, ev22, h⟩ := ob_some h
                refine ex_callS4r (pc := 146) dX11_nameOf_146 jX11_w4 lmX11_156 jsX11_w4 (Nat.le_of_ble_eq_true rfl) (s_X11_w4 (by omega)  ev22) ?_
                refine ex_lcmp (pc := 149) dX11_nameOf_149 ?_
                by_cases c23 : (lg_cmp v21 v22) = 0
                · rw [if_pos c23] at h
                  refine ex_if_ne_f (pc := 150) dX11_nameOf_150 158 rfl c23 ?_
                  refine ex_bipush (pc := 153) 6 dX11_nameOf_153 (by decide) ?_
                  refine ex_goto (pc := 155) 183 dX11_nameOf_155 rfl ?_
                  cases h
                  exact ex_ireturn (pc := 183) dX11_nameOf_183
                · rw [if_neg c23] at h
                  refine ex_if_ne_t (pc := 150) 158 dX11_nameOf_150 rfl c23 ?_
                  refine ex_aload_n (pc := 158) 0 dX11_nameOf_158 rfl rfl ?_
                  obtain ⟨v24, ev24, h⟩ := ob_some h
                  refine ex_gL (pc := 159) ev24 dX11_nameOf_159 lfX11_139 ?_
                  refine ex_bipush (pc := 162) 115 dX11_nameOf_162 (by decide) ?_
                  refine ex_bipush (pc := 164) 97 dX11_nameOf_164 (by decide) ?_
                  refine ex_bipush (pc := 166) 109 dX11_nameOf_166 (by decide) ?_
                  refine ex_bipush (pc := 168) 101 dX11_nameOf_168 (by decide) ?_
                  obtain ⟨v25, ev25, h⟩ := ob_some h
                  refine ex_callS4r (pc := 170) dX11_nameOf_170 jX11_w4 lmX11_156 jsX11_w4 (Nat.le_of_ble_eq_true rfl) (s_X11_w4 (by omega)  ev25) ?_
                  refine ex_lcmp (pc := 173) dX11_nameOf_173 ?_
                  by_cases c26 : (lg_cmp v24 v25) = 0
                  · rw [if_pos c26] at h
                    refine ex_if_ne_f (pc := 174) dX11_nameOf_174 182 rfl c26 ?_
                    refine ex_bipush (pc := 177) 7 dX11_nameOf_177 (by decide) ?_
                    refine ex_goto (pc := 179) 183 dX11_nameOf_179 rfl ?_
                    cases h
                    exact ex_ireturn (pc := 183) dX11_nameOf_183
                  · rw [if_neg c26] at h
                    refine ex_if_ne_t (pc := 174) 182 dX11_nameOf_174 rfl c26 ?_
                    refine ex_iconst (pc := 182) (-1) dX11_nameOf_182 rfl ?_
                    cases h
                    exact ex_ireturn (pc := 183) dX11_nameOf_183
  · rw [if_neg c2] at h
    refine ex_icmp_eq_f (pc := 5) dX11_nameOf_5 10 rfl c2 ?_
    refine ex_iconst (pc := 8) (-1) dX11_nameOf_8 rfl ?_
    cases h
    exact ex_ireturn (pc := 9) dX11_nameOf_9
noncomputable def f_X11_nameOf (x0 : Nat) (M : Mem) : Option (Int32) := if isOb M 11 x0 = true then f_X11_nameOf_0 x0 M else none
theorem o_X11_nameOf {x0 : Nat} {M : Mem} {res : Int32} (h : f_X11_nameOf x0 M = some res) : isO M 11 x0 := by
  unfold f_X11_nameOf at h
  split at h
  · rename_i hc; exact isOb_iff hc
  · cases h
set_option maxHeartbeats 4000000 in
theorem s_X11_nameOf {X : XV} {d : Nat} (hd : 5 ≤ d) {x0 : Nat} {M : Mem} {res : Int32} (h : f_X11_nameOf x0 M = some res) : Mx X d mX11_nameOf [.ref x0] M (some (.int res)) M := by
  obtain ⟨d, rfl⟩ : ∃ e, d = e + 1 := ⟨d - 1, by omega⟩
  unfold f_X11_nameOf at h
  split at h
  rotate_left
  · cases h
  refine Mx.of (by decide) (Nat.le_of_ble_eq_true rfl) (⟨_, rfl, rfl⟩) ?_
  exact ex_sub (lo' := [(0, .ref x0)]) [0] rfl (t_X11_nameOf_0 hd _ _ _  h)
noncomputable def f_X11_isOf_0 (x0 : Nat) (x1 : Int32) (M : Mem) : Option (Bool) :=
  if x1 < 6 then
  (some true)
  else
  (if x1 = 6 then
  ((gI M 11 x0 14).bind fun v5 =>
  if v5 = 0 then
  (some false)
  else
  (some true))
  else
  ((gI M 11 x0 14).bind fun v3 =>
  if v3 = 1 then
  (some true)
  else
  (some false)))
set_option maxHeartbeats 4000000 in
theorem t_X11_isOf_0 {X : XV} {d : Nat} (hd : 1 ≤ d + 1) : ∀ (x0 : Nat) (x1 : Int32) (M : Mem) (res : Bool), f_X11_isOf_0  x0 x1 M = some res → Ex X (d + 1) mX11_isOf 0 [(0, .ref x0), (1, .int x1)] [] M (some (.int (jz res))) M := by
  intro x0 x1 M res  h
  unfold f_X11_isOf_0 at h
  refine ex_iload_n (pc := 0) 1 dX11_isOf_0 rfl rfl ?_
  refine ex_bipush (pc := 1) 6 dX11_isOf_1 (by decide) ?_
  by_cases c1 : x1 < 6
  · rw [if_pos c1] at h
    refine ex_icmp_lt_t (pc := 3) 30 dX11_isOf_3 rfl c1 ?_
    refine ex_iconst (pc := 30) 1 dX11_isOf_30 rfl ?_
    refine ex_goto (pc := 31) 35 dX11_isOf_31 rfl ?_
    cases h
    exact ex_ireturn (pc := 35) dX11_isOf_35
  · rw [if_neg c1] at h
    refine ex_icmp_lt_f (pc := 3) dX11_isOf_3 30 rfl c1 ?_
    refine ex_iload_n (pc := 6) 1 dX11_isOf_6 rfl rfl ?_
    refine ex_bipush (pc := 7) 6 dX11_isOf_7 (by decide) ?_
    by_cases c2 : x1 = 6
    · rw [if_pos c2] at h
      refine ex_icmp_ne_f (pc := 9) dX11_isOf_9 22 rfl c2 ?_
      refine ex_aload_n (pc := 12) 0 dX11_isOf_12 rfl rfl ?_
      obtain ⟨v5, ev5, h⟩ := ob_some h
      refine ex_gI (pc := 13) ev5 dX11_isOf_13 lfX11_170 ?_
      by_cases c6 : v5 = 0
      · rw [if_pos c6] at h
        refine ex_if_eq_t (pc := 16) 34 dX11_isOf_16 rfl c6 ?_
        refine ex_iconst (pc := 34) 0 dX11_isOf_34 rfl ?_
        cases h
        exact ex_ireturn (pc := 35) dX11_isOf_35
      · rw [if_neg c6] at h
        refine ex_if_eq_f (pc := 16) dX11_isOf_16 34 rfl c6 ?_
        refine ex_goto (pc := 19) 30 dX11_isOf_19 rfl ?_
        refine ex_iconst (pc := 30) 1 dX11_isOf_30 rfl ?_
        refine ex_goto (pc := 31) 35 dX11_isOf_31 rfl ?_
        cases h
        exact ex_ireturn (pc := 35) dX11_isOf_35
    · rw [if_neg c2] at h
      refine ex_icmp_ne_t (pc := 9) 22 dX11_isOf_9 rfl c2 ?_
      refine ex_aload_n (pc := 22) 0 dX11_isOf_22 rfl rfl ?_
      obtain ⟨v3, ev3, h⟩ := ob_some h
      refine ex_gI (pc := 23) ev3 dX11_isOf_23 lfX11_170 ?_
      refine ex_iconst (pc := 26) 1 dX11_isOf_26 rfl ?_
      by_cases c4 : v3 = 1
      · rw [if_pos c4] at h
        refine ex_icmp_ne_f (pc := 27) dX11_isOf_27 34 rfl c4 ?_
        refine ex_iconst (pc := 30) 1 dX11_isOf_30 rfl ?_
        refine ex_goto (pc := 31) 35 dX11_isOf_31 rfl ?_
        cases h
        exact ex_ireturn (pc := 35) dX11_isOf_35
      · rw [if_neg c4] at h
        refine ex_icmp_ne_t (pc := 27) 34 dX11_isOf_27 rfl c4 ?_
        refine ex_iconst (pc := 34) 0 dX11_isOf_34 rfl ?_
        cases h
        exact ex_ireturn (pc := 35) dX11_isOf_35
noncomputable def f_X11_isOf (x0 : Nat) (x1 : Int32) (M : Mem) : Option (Bool) := if isOb M 11 x0 = true then f_X11_isOf_0 x0 x1 M else none
theorem o_X11_isOf {x0 : Nat} {x1 : Int32} {M : Mem} {res : Bool} (h : f_X11_isOf x0 x1 M = some res) : isO M 11 x0 := by
  unfold f_X11_isOf at h
  split at h
  · rename_i hc; exact isOb_iff hc
  · cases h
set_option maxHeartbeats 4000000 in
theorem s_X11_isOf {X : XV} {d : Nat} (hd : 1 ≤ d) {x0 : Nat} {x1 : Int32} {M : Mem} {res : Bool} (h : f_X11_isOf x0 x1 M = some res) : Mx X d mX11_isOf [.ref x0, .int x1] M (some (.int (jz res))) M := by
  obtain ⟨d, rfl⟩ : ∃ e, d = e + 1 := ⟨d - 1, by omega⟩
  unfold f_X11_isOf at h
  split at h
  rotate_left
  · cases h
  refine Mx.of (by decide) (Nat.le_of_ble_eq_true rfl) (⟨_, rfl, jz_nar _⟩) ?_
  exact ex_sub (lo' := [(0, .ref x0), (1, .int x1)]) [0, 1] rfl (t_X11_isOf_0 hd _ _ _ _  h)
noncomputable def f_X11_rank_0 (x0 : Int32) : Option (Int32) :=
  if x0 < 40 then
  (if x0 = 22 then
  (some 1)
  else
  (if x0 = 21 then
  (some 2)
  else
  (if x0 = 20 then
  (some 3)
  else
  (if x0 < 10 then
  (if x0 = 5 then
  (some 7)
  else
  (if x0 = 2 then
  (some 7)
  else
  (if x0 = 3 then
  (some 7)
  else
  (if x0 < 8 then
  (some 5)
  else
  (some 6)))))
  else
  (some 4)))))
  else
  (some 0)
set_option maxHeartbeats 4000000 in
theorem t_X11_rank_0 {X : XV} {d : Nat} {M : Mem} (hd : 1 ≤ d + 1) : ∀ (x0 : Int32) (res : Int32), f_X11_rank_0  x0 = some res → Ex X (d + 1) mX11_rank 0 [(0, .int x0)] [] M (some (.int res)) M := by
  intro x0 res  h
  unfold f_X11_rank_0 at h
  refine ex_iload_n (pc := 0) 0 dX11_rank_0 rfl rfl ?_
  refine ex_bipush (pc := 1) 40 dX11_rank_1 (by decide) ?_
  by_cases c1 : x0 < 40
  · rw [if_pos c1] at h
    refine ex_icmp_lt_t (pc := 3) 10 dX11_rank_3 rfl c1 ?_
    refine ex_iload_n (pc := 10) 0 dX11_rank_10 rfl rfl ?_
    refine ex_bipush (pc := 11) 22 dX11_rank_11 (by decide) ?_
    by_cases c2 : x0 = 22
    · rw [if_pos c2] at h
      refine ex_icmp_ne_f (pc := 13) dX11_rank_13 20 rfl c2 ?_
      refine ex_iconst (pc := 16) 1 dX11_rank_16 rfl ?_
      refine ex_goto (pc := 17) 82 dX11_rank_17 rfl ?_
      cases h
      exact ex_ireturn (pc := 82) dX11_rank_82
    · rw [if_neg c2] at h
      refine ex_icmp_ne_t (pc := 13) 20 dX11_rank_13 rfl c2 ?_
      refine ex_iload_n (pc := 20) 0 dX11_rank_20 rfl rfl ?_
      refine ex_bipush (pc := 21) 21 dX11_rank_21 (by decide) ?_
      by_cases c3 : x0 = 21
      · rw [if_pos c3] at h
        refine ex_icmp_ne_f (pc := 23) dX11_rank_23 30 rfl c3 ?_
        refine ex_iconst (pc := 26) 2 dX11_rank_26 rfl ?_
        refine ex_goto (pc := 27) 82 dX11_rank_27 rfl ?_
        cases h
        exact ex_ireturn (pc := 82) dX11_rank_82
      · rw [if_neg c3] at h
        refine ex_icmp_ne_t (pc := 23) 30 dX11_rank_23 rfl c3 ?_
        refine ex_iload_n (pc := 30) 0 dX11_rank_30 rfl rfl ?_
        refine ex_bipush (pc := 31) 20 dX11_rank_31 (by decide) ?_
        by_cases c4 : x0 = 20
        · rw [if_pos c4] at h
          refine ex_icmp_ne_f (pc := 33) dX11_rank_33 40 rfl c4 ?_
          refine ex_iconst (pc := 36) 3 dX11_rank_36 rfl ?_
          refine ex_goto (pc := 37) 82 dX11_rank_37 rfl ?_
          cases h
          exact ex_ireturn (pc := 82) dX11_rank_82
        · rw [if_neg c4] at h
          refine ex_icmp_ne_t (pc := 33) 40 dX11_rank_33 rfl c4 ?_
          refine ex_iload_n (pc := 40) 0 dX11_rank_40 rfl rfl ?_
          refine ex_bipush (pc := 41) 10 dX11_rank_41 (by decide) ?_
          by_cases c5 : x0 < 10
          · rw [if_pos c5] at h
            refine ex_icmp_lt_t (pc := 43) 50 dX11_rank_43 rfl c5 ?_
            refine ex_iload_n (pc := 50) 0 dX11_rank_50 rfl rfl ?_
            refine ex_iconst (pc := 51) 5 dX11_rank_51 rfl ?_
            by_cases c6 : x0 = 5
            · rw [if_pos c6] at h
              refine ex_icmp_eq_t (pc := 52) 65 dX11_rank_52 rfl c6 ?_
              refine ex_bipush (pc := 65) 7 dX11_rank_65 (by decide) ?_
              refine ex_goto (pc := 67) 82 dX11_rank_67 rfl ?_
              cases h
              exact ex_ireturn (pc := 82) dX11_rank_82
            · rw [if_neg c6] at h
              refine ex_icmp_eq_f (pc := 52) dX11_rank_52 65 rfl c6 ?_
              refine ex_iload_n (pc := 55) 0 dX11_rank_55 rfl rfl ?_
              refine ex_iconst (pc := 56) 2 dX11_rank_56 rfl ?_
              by_cases c7 : x0 = 2
              · rw [if_pos c7] at h
                refine ex_icmp_eq_t (pc := 57) 65 dX11_rank_57 rfl c7 ?_
                refine ex_bipush (pc := 65) 7 dX11_rank_65 (by decide) ?_
                refine ex_goto (pc := 67) 82 dX11_rank_67 rfl ?_
                cases h
                exact ex_ireturn (pc := 82) dX11_rank_82
              · rw [if_neg c7] at h
                refine ex_icmp_eq_f (pc := 57) dX11_rank_57 65 rfl c7 ?_
                refine ex_iload_n (pc := 60) 0 dX11_rank_60 rfl rfl ?_
                refine ex_iconst (pc := 61) 3 dX11_rank_61 rfl ?_
                by_cases c8 : x0 = 3
                · rw [if_pos c8] at h
                  refine ex_icmp_ne_f (pc := 62) dX11_rank_62 70 rfl c8 ?_
                  refine ex_bipush (pc := 65) 7 dX11_rank_65 (by decide) ?_
                  refine ex_goto (pc := 67) 82 dX11_rank_67 rfl ?_
                  cases h
                  exact ex_ireturn (pc := 82) dX11_rank_82
                · rw [if_neg c8] at h
                  refine ex_icmp_ne_t (pc := 62) 70 dX11_rank_62 rfl c8 ?_
                  refine ex_iload_n (pc := 70) 0 dX11_rank_70 rfl rfl ?_
                  refine ex_bipush (pc := 71) 8 dX11_rank_71 (by decide) ?_
                  by_cases c9 : x0 < 8
                  · rw [if_pos c9] at h
                    refine ex_icmp_lt_t (pc := 73) 81 dX11_rank_73 rfl c9 ?_
                    refine ex_iconst (pc := 81) 5 dX11_rank_81 rfl ?_
                    cases h
                    exact ex_ireturn (pc := 82) dX11_rank_82
                  · rw [if_neg c9] at h
                    refine ex_icmp_lt_f (pc := 73) dX11_rank_73 81 rfl c9 ?_
                    refine ex_bipush (pc := 76) 6 dX11_rank_76 (by decide) ?_
                    refine ex_goto (pc := 78) 82 dX11_rank_78 rfl ?_
                    cases h
                    exact ex_ireturn (pc := 82) dX11_rank_82
          · rw [if_neg c5] at h
            refine ex_icmp_lt_f (pc := 43) dX11_rank_43 50 rfl c5 ?_
            refine ex_iconst (pc := 46) 4 dX11_rank_46 rfl ?_
            refine ex_goto (pc := 47) 82 dX11_rank_47 rfl ?_
            cases h
            exact ex_ireturn (pc := 82) dX11_rank_82
  · rw [if_neg c1] at h
    refine ex_icmp_lt_f (pc := 3) dX11_rank_3 10 rfl c1 ?_
    refine ex_iconst (pc := 6) 0 dX11_rank_6 rfl ?_
    refine ex_goto (pc := 7) 82 dX11_rank_7 rfl ?_
    cases h
    exact ex_ireturn (pc := 82) dX11_rank_82
noncomputable def f_X11_rank (x0 : Int32) : Option (Int32) := f_X11_rank_0 x0
set_option maxHeartbeats 4000000 in
theorem s_X11_rank {X : XV} {d : Nat} (hd : 1 ≤ d) {x0 : Int32} {M : Mem} {res : Int32} (h : f_X11_rank x0 = some res) : Mx X d mX11_rank [.int x0] M (some (.int res)) M := by
  obtain ⟨d, rfl⟩ : ∃ e, d = e + 1 := ⟨d - 1, by omega⟩
  unfold f_X11_rank at h
  refine Mx.of (by decide) (Nat.le_of_ble_eq_true rfl) (⟨_, rfl, rfl⟩) ?_
  exact ex_sub (lo' := [(0, .int x0)]) [0] rfl (t_X11_rank_0 hd _ _  h)
noncomputable def f_X11_settle_80 (k0 : Nat → Int32 → Mem → Option (Mem)) (x0 : Nat) (x1 : Int32) (M : Mem) : Option (Mem) :=
  (gI M 11 x0 17).bind fun v1 =>
  (pF M 11 x0 17 (.int (v1 - 1))).bind fun q2 =>
  k0 x0 x1 q2
set_option maxHeartbeats 4000000 in
theorem t_X11_settle_80 {X : XV} {d : Nat} (hd : 2 ≤ d + 1) {k0 : Nat → Int32 → Mem → Option (Mem)} (hk0 : ∀ (x0 : Nat) (x1 : Int32) (M : Mem) (res : Mem), k0 x0 x1 M = some res → Ex X (d + 1) mX11_settle 0 [(0, .ref x0), (1, .int x1)] [] M none res) : ∀ (x0 : Nat) (x1 : Int32) (M : Mem) (res : Mem), f_X11_settle_80 k0 x0 x1 M = some res → Ex X (d + 1) mX11_settle 80 [(0, .ref x0), (1, .int x1)] [] M none res := by
  intro x0 x1 M res  h
  unfold f_X11_settle_80 at h
  refine ex_aload_n (pc := 80) 0 dX11_settle_80 rfl rfl ?_
  refine ex_dup (pc := 81) dX11_settle_81 rfl ?_
  obtain ⟨v1, ev1, h⟩ := ob_some h
  refine ex_gI (pc := 82) ev1 dX11_settle_82 lfX11_183 ?_
  refine ex_iconst (pc := 85) 1 dX11_settle_85 rfl ?_
  refine ex_isub (pc := 86) dX11_settle_86 ?_
  obtain ⟨q2, eq2, h⟩ := ob_some h
  refine ex_pF (pc := 87) eq2 dX11_settle_87 lfX11_183 rfl rfl (fun _ hq => by cases hq; rfl) ?_
  refine ex_goto (pc := 90) 0 dX11_settle_90 rfl ?_
  refine ex_sub (lo' := [(0, .ref x0), (1, .int x1)]) [0, 1] rfl ?_
  exact hk0 _ _ _ _  h
noncomputable def f_X11_settle_0 (n0 : Nat) (x0 : Nat) (x1 : Int32) (M : Mem) : Option (Mem) :=
  match n0 with
  | 0 => none
  | n + 1 =>
    (gI M 11 x0 16).bind fun v3 =>
    if v3 ≤ 0 then
    (some M)
    else
    ((gR M 11 x0 15).bind fun v5 =>
    (gI M 11 x0 16).bind fun v6 =>
    (rI M v5 (v6 - 1)).bind fun v7 =>
    (f_X11_rank v7).bind fun v8 =>
    if v8 < x1 then
    (some M)
    else
    ((gI M 11 x0 16).bind fun v10 =>
    (pF M 11 x0 16 (.int (v10 - 1))).bind fun q11 =>
    (gR q11 11 x0 15).bind fun v12 =>
    (gI q11 11 x0 16).bind fun v13 =>
    (rI q11 v12 v13).bind fun v14 =>
    (f_X11_emit x0 v14 0 q11).bind fun q15 =>
    (gR q15 11 x0 15).bind fun v16 =>
    (gI q15 11 x0 16).bind fun v17 =>
    (rI q15 v16 v17).bind fun v18 =>
    (f_X11_rank v18).bind fun v19 =>
    if v19 = 7 then
    (f_X11_settle_80 (f_X11_settle_0 n) x0 x1 q15)
    else
    ((gR q15 11 x0 15).bind fun v21 =>
    (gI q15 11 x0 16).bind fun v22 =>
    (rI q15 v21 v22).bind fun v23 =>
    if v23 = 20 then
    (f_X11_settle_80 (f_X11_settle_0 n) x0 x1 q15)
    else
    (f_X11_settle_0 n x0 x1 q15))))
set_option maxHeartbeats 4000000 in
theorem t_X11_settle_0 {X : XV} {d : Nat} (hd : 2 ≤ d + 1) : ∀ (n : Nat) (x0 : Nat) (x1 : Int32) (M : Mem) (res : Mem), f_X11_settle_0 n  x0 x1 M = some res → Ex X (d + 1) mX11_settle 0 [(0, .ref x0), (1, .int x1)] [] M none res := by
  intro n
  induction n with
  | zero =>
    intro x0 x1 M res  h
    unfold f_X11_settle_0 at h
    cases h
  | succ n ih =>
    intro x0 x1 M res  h
    unfold f_X11_settle_0 at h
    refine ex_aload_n (pc := 0) 0 dX11_settle_0 rfl rfl ?_
    obtain ⟨v3, ev3, h⟩ := ob_some h
    refine ex_gI (pc := 1) ev3 dX11_settle_1 lfX11_173 ?_
    by_cases c4 : v3 ≤ 0
    · rw [if_pos c4] at h
      refine ex_if_le_t (pc := 4) 93 dX11_settle_4 rfl c4 ?_
      cases h
      exact ex_return (pc := 93) dX11_settle_93
    · rw [if_neg c4] at h
      refine ex_if_le_f (pc := 4) dX11_settle_4 93 rfl c4 ?_
      refine ex_aload_n (pc := 7) 0 dX11_settle_7 rfl rfl ?_
      obtain ⟨v5, ev5, h⟩ := ob_some h
      refine ex_gR (pc := 8) ev5 dX11_settle_8 lfX11_29 ?_
      refine ex_aload_n (pc := 11) 0 dX11_settle_11 rfl rfl ?_
      obtain ⟨v6, ev6, h⟩ := ob_some h
      refine ex_gI (pc := 12) ev6 dX11_settle_12 lfX11_173 ?_
      refine ex_iconst (pc := 15) 1 dX11_settle_15 rfl ?_
      refine ex_isub (pc := 16) dX11_settle_16 ?_
      obtain ⟨v7, ev7, h⟩ := ob_some h
      refine ex_rI (pc := 17) ev7 dX11_settle_17 ?_
      obtain ⟨v8, ev8, h⟩ := ob_some h
      refine ex_callS1r (pc := 18) dX11_settle_18 jX11_rank lmX11_176 jsX11_rank (Nat.le_of_ble_eq_true rfl) (s_X11_rank (by omega)  ev8) ?_
      refine ex_iload_n (pc := 21) 1 dX11_settle_21 rfl rfl ?_
      by_cases c9 : v8 < x1
      · rw [if_pos c9] at h
        refine ex_icmp_lt_t (pc := 22) 93 dX11_settle_22 rfl c9 ?_
        cases h
        exact ex_return (pc := 93) dX11_settle_93
      · rw [if_neg c9] at h
        refine ex_icmp_lt_f (pc := 22) dX11_settle_22 93 rfl c9 ?_
        refine ex_aload_n (pc := 25) 0 dX11_settle_25 rfl rfl ?_
        refine ex_dup (pc := 26) dX11_settle_26 rfl ?_
        obtain ⟨v10, ev10, h⟩ := ob_some h
        refine ex_gI (pc := 27) ev10 dX11_settle_27 lfX11_173 ?_
        refine ex_iconst (pc := 30) 1 dX11_settle_30 rfl ?_
        refine ex_isub (pc := 31) dX11_settle_31 ?_
        obtain ⟨q11, eq11, h⟩ := ob_some h
        refine ex_pF (pc := 32) eq11 dX11_settle_32 lfX11_173 rfl rfl (fun _ hq => by cases hq; rfl) ?_
        refine ex_aload_n (pc := 35) 0 dX11_settle_35 rfl rfl ?_
        refine ex_aload_n (pc := 36) 0 dX11_settle_36 rfl rfl ?_
        obtain ⟨v12, ev12, h⟩ := ob_some h
        refine ex_gR (pc := 37) ev12 dX11_settle_37 lfX11_29 ?_
        refine ex_aload_n (pc := 40) 0 dX11_settle_40 rfl rfl ?_
        obtain ⟨v13, ev13, h⟩ := ob_some h
        refine ex_gI (pc := 41) ev13 dX11_settle_41 lfX11_173 ?_
        obtain ⟨v14, ev14, h⟩ := ob_some h
        refine ex_rI (pc := 44) ev14 dX11_settle_44 ?_
        refine ex_iconst (pc := 45) 0 dX11_settle_45 rfl ?_
        obtain ⟨q15, eq15, h⟩ := ob_some h
        refine ex_callV2v (pc := 46) dX11_settle_46 jX11_emit lmX11_179 jiX11_emit jvX11_emit (o_X11_emit eq15) rfl (Nat.le_of_ble_eq_true rfl) (s_X11_emit (by omega)  eq15) ?_
        refine ex_aload_n (pc := 49) 0 dX11_settle_49 rfl rfl ?_
        obtain ⟨v16, ev16, h⟩ := ob_some h
        refine ex_gR (pc := 50) ev16 dX11_settle_50 lfX11_29 ?_
        refine ex_aload_n (pc := 53) 0 dX11_settle_53 rfl rfl ?_
        obtain ⟨v17, ev17, h⟩ := ob_some h
        refine ex_gI (pc := 54) ev17 dX11_settle_54 lfX11_173 ?_
        obtain ⟨v18, ev18, h⟩ := ob_some h
        refine ex_rI (pc := 57) ev18 dX11_settle_57 ?_
        obtain ⟨v19, ev19, h⟩ := ob_some h
        refine ex_callS1r (pc := 58) dX11_settle_58 jX11_rank lmX11_176 jsX11_rank (Nat.le_of_ble_eq_true rfl) (s_X11_rank (by omega)  ev19) ?_
        refine ex_bipush (pc := 61) 7 dX11_settle_61 (by decide) ?_
        by_cases c20 : v19 = 7
        · rw [if_pos c20] at h
          refine ex_icmp_eq_t (pc := 63) 80 dX11_settle_63 rfl c20 ?_
          refine ex_sub (lo' := [(0, .ref x0), (1, .int x1)]) [0, 1] rfl ?_
          exact t_X11_settle_80 hd ih _ _ _ _  h
        · rw [if_neg c20] at h
          refine ex_icmp_eq_f (pc := 63) dX11_settle_63 80 rfl c20 ?_
          refine ex_aload_n (pc := 66) 0 dX11_settle_66 rfl rfl ?_
          obtain ⟨v21, ev21, h⟩ := ob_some h
          refine ex_gR (pc := 67) ev21 dX11_settle_67 lfX11_29 ?_
          refine ex_aload_n (pc := 70) 0 dX11_settle_70 rfl rfl ?_
          obtain ⟨v22, ev22, h⟩ := ob_some h
          refine ex_gI (pc := 71) ev22 dX11_settle_71 lfX11_173 ?_
          obtain ⟨v23, ev23, h⟩ := ob_some h
          refine ex_rI (pc := 74) ev23 dX11_settle_74 ?_
          refine ex_bipush (pc := 75) 20 dX11_settle_75 (by decide) ?_
          by_cases c24 : v23 = 20
          · rw [if_pos c24] at h
            refine ex_icmp_ne_f (pc := 77) dX11_settle_77 0 rfl c24 ?_
            refine ex_sub (lo' := [(0, .ref x0), (1, .int x1)]) [0, 1] rfl ?_
            exact t_X11_settle_80 hd ih _ _ _ _  h
          · rw [if_neg c24] at h
            refine ex_icmp_ne_t (pc := 77) 0 dX11_settle_77 rfl c24 ?_
            refine ex_sub (lo' := [(0, .ref x0), (1, .int x1)]) [0, 1] rfl ?_
            exact ih _ _ _ _  h
noncomputable def f_X11_settle (x0 : Nat) (x1 : Int32) (M : Mem) : Option (Mem) := if isOb M 11 x0 = true then f_X11_settle_0 fu x0 x1 M else none
theorem o_X11_settle {x0 : Nat} {x1 : Int32} {M : Mem} {res : Mem} (h : f_X11_settle x0 x1 M = some res) : isO M 11 x0 := by
  unfold f_X11_settle at h
  split at h
  · rename_i hc; exact isOb_iff hc
  · cases h
set_option maxHeartbeats 4000000 in
theorem s_X11_settle {X : XV} {d : Nat} (hd : 2 ≤ d) {x0 : Nat} {x1 : Int32} {M : Mem} {res : Mem} (h : f_X11_settle x0 x1 M = some res) : Mx X d mX11_settle [.ref x0, .int x1] M none res := by
  obtain ⟨d, rfl⟩ : ∃ e, d = e + 1 := ⟨d - 1, by omega⟩
  unfold f_X11_settle at h
  split at h
  rotate_left
  · cases h
  refine Mx.of (by decide) (Nat.le_of_ble_eq_true rfl) (rfl) ?_
  exact ex_sub (lo' := [(0, .ref x0), (1, .int x1)]) [0, 1] rfl (t_X11_settle_0 hd _ _ _ _ _  h)
noncomputable def f_X11_openAt_7 (n0 : Nat) (x0 : Nat) (x1 : Int32) (M : Mem) : Option (Int32) :=
  match n0 with
  | 0 => none
  | n + 1 =>
    if x1 < 0 then
    (some x1)
    else
    ((gR M 11 x0 15).bind fun v2 =>
    (rI M v2 x1).bind fun v3 =>
    if 40 ≤ v3 then
    (some x1)
    else
    (f_X11_openAt_7 n x0 (x1 + (-1)) M))
set_option maxHeartbeats 4000000 in
theorem t_X11_openAt_7 {X : XV} {d : Nat} (hd : 1 ≤ d + 1) : ∀ (n : Nat) (x0 : Nat) (x1 : Int32) (M : Mem) (res : Int32), f_X11_openAt_7 n  x0 x1 M = some res → Ex X (d + 1) mX11_openAt 7 [(0, .ref x0), (1, .int x1)] [] M (some (.int res)) M := by
  intro n
  induction n with
  | zero =>
    intro x0 x1 M res  h
    unfold f_X11_openAt_7 at h
    cases h
  | succ n ih =>
    intro x0 x1 M res  h
    unfold f_X11_openAt_7 at h
    refine ex_iload_n (pc := 7) 1 dX11_openAt_7 rfl rfl ?_
    by_cases c1 : x1 < 0
    · rw [if_pos c1] at h
      refine ex_if_lt_t (pc := 8) 28 dX11_openAt_8 rfl c1 ?_
      refine ex_iload_n (pc := 28) 1 dX11_openAt_28 rfl rfl ?_
      cases h
      exact ex_ireturn (pc := 29) dX11_openAt_29
    · rw [if_neg c1] at h
      refine ex_if_lt_f (pc := 8) dX11_openAt_8 28 rfl c1 ?_
      refine ex_aload_n (pc := 11) 0 dX11_openAt_11 rfl rfl ?_
      obtain ⟨v2, ev2, h⟩ := ob_some h
      refine ex_gR (pc := 12) ev2 dX11_openAt_12 lfX11_29 ?_
      refine ex_iload_n (pc := 15) 1 dX11_openAt_15 rfl rfl ?_
      obtain ⟨v3, ev3, h⟩ := ob_some h
      refine ex_rI (pc := 16) ev3 dX11_openAt_16 ?_
      refine ex_bipush (pc := 17) 40 dX11_openAt_17 (by decide) ?_
      by_cases c4 : 40 ≤ v3
      · rw [if_pos c4] at h
        refine ex_icmp_ge_t (pc := 19) 28 dX11_openAt_19 rfl c4 ?_
        refine ex_iload_n (pc := 28) 1 dX11_openAt_28 rfl rfl ?_
        cases h
        exact ex_ireturn (pc := 29) dX11_openAt_29
      · rw [if_neg c4] at h
        refine ex_icmp_ge_f (pc := 19) dX11_openAt_19 28 rfl c4 ?_
        refine ex_iinc (pc := 22) (x1 + (-1)) 1 [(1, .int (x1 + (-1))), (0, .ref x0)] dX11_openAt_22 rfl rfl (by decide) rfl ?_
        refine ex_goto (pc := 25) 7 dX11_openAt_25 rfl ?_
        refine ex_sub (lo' := [(0, .ref x0), (1, .int (x1 + (-1)))]) [1, 0] rfl ?_
        exact ih _ _ _ _  h
noncomputable def f_X11_openAt_0 (x0 : Nat) (M : Mem) : Option (Int32) :=
  (gI M 11 x0 16).bind fun v5 =>
  f_X11_openAt_7 fu x0 (v5 - 1) M
set_option maxHeartbeats 4000000 in
theorem t_X11_openAt_0 {X : XV} {d : Nat} (hd : 1 ≤ d + 1) : ∀ (x0 : Nat) (M : Mem) (res : Int32), f_X11_openAt_0  x0 M = some res → Ex X (d + 1) mX11_openAt 0 [(0, .ref x0)] [] M (some (.int res)) M := by
  intro x0 M res  h
  unfold f_X11_openAt_0 at h
  refine ex_aload_n (pc := 0) 0 dX11_openAt_0 rfl rfl ?_
  obtain ⟨v5, ev5, h⟩ := ob_some h
  refine ex_gI (pc := 1) ev5 dX11_openAt_1 lfX11_173 ?_
  refine ex_iconst (pc := 4) 1 dX11_openAt_4 rfl ?_
  refine ex_isub (pc := 5) dX11_openAt_5 ?_
  refine ex_istore_n (pc := 6) [(1, .int (v5 - 1)), (0, .ref x0)] dX11_openAt_6 rfl (by decide) rfl ?_
  refine ex_sub (lo' := [(0, .ref x0), (1, .int (v5 - 1))]) [1, 0] rfl ?_
  exact t_X11_openAt_7 hd  _ _ _ _ _  h
noncomputable def f_X11_openAt (x0 : Nat) (M : Mem) : Option (Int32) := if isOb M 11 x0 = true then f_X11_openAt_0 x0 M else none
theorem o_X11_openAt {x0 : Nat} {M : Mem} {res : Int32} (h : f_X11_openAt x0 M = some res) : isO M 11 x0 := by
  unfold f_X11_openAt at h
  split at h
  · rename_i hc; exact isOb_iff hc
  · cases h
set_option maxHeartbeats 4000000 in
theorem s_X11_openAt {X : XV} {d : Nat} (hd : 1 ≤ d) {x0 : Nat} {M : Mem} {res : Int32} (h : f_X11_openAt x0 M = some res) : Mx X d mX11_openAt [.ref x0] M (some (.int res)) M := by
  obtain ⟨d, rfl⟩ : ∃ e, d = e + 1 := ⟨d - 1, by omega⟩
  unfold f_X11_openAt at h
  split at h
  rotate_left
  · cases h
  refine Mx.of (by decide) (Nat.le_of_ble_eq_true rfl) (⟨_, rfl, rfl⟩) ?_
  exact ex_sub (lo' := [(0, .ref x0)]) [0] rfl (t_X11_openAt_0 hd _ _ _  h)
noncomputable def f_X11_openNow_0 (x0 : Nat) (M : Mem) : Option (Int32) :=
  (f_X11_openAt x0 M).bind fun v1 =>
  if 0 ≤ v1 then
  ((gR M 11 x0 15).bind fun v3 =>
  (f_X11_openAt x0 M).bind fun v4 =>
  (rI M v3 v4).bind fun v5 =>
  some v5)
  else
  (some (-1))
set_option maxHeartbeats 4000000 in
theorem t_X11_openNow_0 {X : XV} {d : Nat} (hd : 2 ≤ d + 1) : ∀ (x0 : Nat) (M : Mem) (res : Int32), f_X11_openNow_0  x0 M = some res → Ex X (d + 1) mX11_openNow 0 [(0, .ref x0)] [] M (some (.int res)) M := by
  intro x0 M res  h
  unfold f_X11_openNow_0 at h
  refine ex_aload_n (pc := 0) 0 dX11_openNow_0 rfl rfl ?_
  obtain ⟨v1, ev1, h⟩ := ob_some h
  refine ex_callV0r (pc := 1) dX11_openNow_1 jX11_openAt lmX11_186 jiX11_openAt jvX11_openAt (o_X11_openAt ev1) rfl (Nat.le_of_ble_eq_true rfl) (s_X11_openAt (by omega)  ev1) ?_
  by_cases c2 : 0 ≤ v1
  · rw [if_pos c2] at h
    refine ex_if_ge_t (pc := 4) 11 dX11_openNow_4 rfl c2 ?_
    refine ex_aload_n (pc := 11) 0 dX11_openNow_11 rfl rfl ?_
    obtain ⟨v3, ev3, h⟩ := ob_some h
    refine ex_gR (pc := 12) ev3 dX11_openNow_12 lfX11_29 ?_
    refine ex_aload_n (pc := 15) 0 dX11_openNow_15 rfl rfl ?_
    obtain ⟨v4, ev4, h⟩ := ob_some h
    refine ex_callV0r (pc := 16) dX11_openNow_16 jX11_openAt lmX11_186 jiX11_openAt jvX11_openAt (o_X11_openAt ev4) rfl (Nat.le_of_ble_eq_true rfl) (s_X11_openAt (by omega)  ev4) ?_
    obtain ⟨v5, ev5, h⟩ := ob_some h
    refine ex_rI (pc := 19) ev5 dX11_openNow_19 ?_
    cases h
    exact ex_ireturn (pc := 20) dX11_openNow_20
  · rw [if_neg c2] at h
    refine ex_if_ge_f (pc := 4) dX11_openNow_4 11 rfl c2 ?_
    refine ex_iconst (pc := 7) (-1) dX11_openNow_7 rfl ?_
    refine ex_goto (pc := 8) 20 dX11_openNow_8 rfl ?_
    cases h
    exact ex_ireturn (pc := 20) dX11_openNow_20
noncomputable def f_X11_openNow (x0 : Nat) (M : Mem) : Option (Int32) := if isOb M 11 x0 = true then f_X11_openNow_0 x0 M else none
theorem o_X11_openNow {x0 : Nat} {M : Mem} {res : Int32} (h : f_X11_openNow x0 M = some res) : isO M 11 x0 := by
  unfold f_X11_openNow at h
  split at h
  · rename_i hc; exact isOb_iff hc
  · cases h
set_option maxHeartbeats 4000000 in
theorem s_X11_openNow {X : XV} {d : Nat} (hd : 2 ≤ d) {x0 : Nat} {M : Mem} {res : Int32} (h : f_X11_openNow x0 M = some res) : Mx X d mX11_openNow [.ref x0] M (some (.int res)) M := by
  obtain ⟨d, rfl⟩ : ∃ e, d = e + 1 := ⟨d - 1, by omega⟩
  unfold f_X11_openNow at h
  split at h
  rotate_left
  · cases h
  refine Mx.of (by decide) (Nat.le_of_ble_eq_true rfl) (⟨_, rfl, rfl⟩) ?_
  exact ex_sub (lo' := [(0, .ref x0)]) [0] rfl (t_X11_openNow_0 hd _ _ _  h)
noncomputable def f_X11_isCompared_30 (x0 : Nat) (x1 : Int32) (M : Mem) : Option (Bool) :=
  if x1 < 0 then
  (some false)
  else
  ((gR M 11 x0 15).bind fun v2 =>
  (rI M v2 x1).bind fun v3 =>
  (f_X11_rank v3).bind fun v4 =>
  if v4 = 4 then
  (some true)
  else
  (some false))
set_option maxHeartbeats 4000000 in
theorem t_X11_isCompared_30 {X : XV} {d : Nat} (hd : 2 ≤ d + 1) : ∀ (x0 : Nat) (x1 : Int32) (M : Mem) (res : Bool), f_X11_isCompared_30  x0 x1 M = some res → Ex X (d + 1) mX11_isCompared 30 [(0, .ref x0), (1, .int x1)] [] M (some (.int (jz res))) M := by
  intro x0 x1 M res  h
  unfold f_X11_isCompared_30 at h
  refine ex_iload_n (pc := 30) 1 dX11_isCompared_30 rfl rfl ?_
  by_cases c1 : x1 < 0
  · rw [if_pos c1] at h
    refine ex_if_lt_t (pc := 31) 51 dX11_isCompared_31 rfl c1 ?_
    refine ex_iconst (pc := 51) 0 dX11_isCompared_51 rfl ?_
    cases h
    exact ex_ireturn (pc := 52) dX11_isCompared_52
  · rw [if_neg c1] at h
    refine ex_if_lt_f (pc := 31) dX11_isCompared_31 51 rfl c1 ?_
    refine ex_aload_n (pc := 34) 0 dX11_isCompared_34 rfl rfl ?_
    obtain ⟨v2, ev2, h⟩ := ob_some h
    refine ex_gR (pc := 35) ev2 dX11_isCompared_35 lfX11_29 ?_
    refine ex_iload_n (pc := 38) 1 dX11_isCompared_38 rfl rfl ?_
    obtain ⟨v3, ev3, h⟩ := ob_some h
    refine ex_rI (pc := 39) ev3 dX11_isCompared_39 ?_
    obtain ⟨v4, ev4, h⟩ := ob_some h
    refine ex_callS1r (pc := 40) dX11_isCompared_40 jX11_rank lmX11_176 jsX11_rank (Nat.le_of_ble_eq_true rfl) (s_X11_rank (by omega)  ev4) ?_
    refine ex_iconst (pc := 43) 4 dX11_isCompared_43 rfl ?_
    by_cases c5 : v4 = 4
    · rw [if_pos c5] at h
      refine ex_icmp_ne_f (pc := 44) dX11_isCompared_44 51 rfl c5 ?_
      refine ex_iconst (pc := 47) 1 dX11_isCompared_47 rfl ?_
      refine ex_goto (pc := 48) 52 dX11_isCompared_48 rfl ?_
      cases h
      exact ex_ireturn (pc := 52) dX11_isCompared_52
    · rw [if_neg c5] at h
      refine ex_icmp_ne_t (pc := 44) 51 dX11_isCompared_44 rfl c5 ?_
      refine ex_iconst (pc := 51) 0 dX11_isCompared_51 rfl ?_
      cases h
      exact ex_ireturn (pc := 52) dX11_isCompared_52
noncomputable def f_X11_isCompared_7 (n0 : Nat) (x0 : Nat) (x1 : Int32) (M : Mem) : Option (Bool) :=
  match n0 with
  | 0 => none
  | n + 1 =>
    if x1 < 0 then
    (f_X11_isCompared_30 x0 x1 M)
    else
    ((gR M 11 x0 15).bind fun v7 =>
    (rI M v7 x1).bind fun v8 =>
    (f_X11_rank v8).bind fun v9 =>
    if v9 ≤ 4 then
    (f_X11_isCompared_30 x0 x1 M)
    else
    (f_X11_isCompared_7 n x0 (x1 + (-1)) M))
set_option maxHeartbeats 4000000 in
theorem t_X11_isCompared_7 {X : XV} {d : Nat} (hd : 2 ≤ d + 1) : ∀ (n : Nat) (x0 : Nat) (x1 : Int32) (M : Mem) (res : Bool), f_X11_isCompared_7 n  x0 x1 M = some res → Ex X (d + 1) mX11_isCompared 7 [(0, .ref x0), (1, .int x1)] [] M (some (.int (jz res))) M := by
  intro n
  induction n with
  | zero =>
    intro x0 x1 M res  h
    unfold f_X11_isCompared_7 at h
    cases h
  | succ n ih =>
    intro x0 x1 M res  h
    unfold f_X11_isCompared_7 at h
    refine ex_iload_n (pc := 7) 1 dX11_isCompared_7 rfl rfl ?_
    by_cases c6 : x1 < 0
    · rw [if_pos c6] at h
      refine ex_if_lt_t (pc := 8) 30 dX11_isCompared_8 rfl c6 ?_
      refine ex_sub (lo' := [(0, .ref x0), (1, .int x1)]) [0, 1] rfl ?_
      exact t_X11_isCompared_30 hd  _ _ _ _  h
    · rw [if_neg c6] at h
      refine ex_if_lt_f (pc := 8) dX11_isCompared_8 30 rfl c6 ?_
      refine ex_aload_n (pc := 11) 0 dX11_isCompared_11 rfl rfl ?_
      obtain ⟨v7, ev7, h⟩ := ob_some h
      refine ex_gR (pc := 12) ev7 dX11_isCompared_12 lfX11_29 ?_
      refine ex_iload_n (pc := 15) 1 dX11_isCompared_15 rfl rfl ?_
      obtain ⟨v8, ev8, h⟩ := ob_some h
      refine ex_rI (pc := 16) ev8 dX11_isCompared_16 ?_
      obtain ⟨v9, ev9, h⟩ := ob_some h
      refine ex_callS1r (pc := 17) dX11_isCompared_17 jX11_rank lmX11_176 jsX11_rank (Nat.le_of_ble_eq_true rfl) (s_X11_rank (by omega)  ev9) ?_
      refine ex_iconst (pc := 20) 4 dX11_isCompared_20 rfl ?_
      by_cases c10 : v9 ≤ 4
      · rw [if_pos c10] at h
        refine ex_icmp_le_t (pc := 21) 30 dX11_isCompared_21 rfl c10 ?_
        refine ex_sub (lo' := [(0, .ref x0), (1, .int x1)]) [0, 1] rfl ?_
        exact t_X11_isCompared_30 hd  _ _ _ _  h
      · rw [if_neg c10] at h
        refine ex_icmp_le_f (pc := 21) dX11_isCompared_21 30 rfl c10 ?_
        refine ex_iinc (pc := 24) (x1 + (-1)) 1 [(1, .int (x1 + (-1))), (0, .ref x0)] dX11_isCompared_24 rfl rfl (by decide) rfl ?_
        refine ex_goto (pc := 27) 7 dX11_isCompared_27 rfl ?_
        refine ex_sub (lo' := [(0, .ref x0), (1, .int (x1 + (-1)))]) [1, 0] rfl ?_
        exact ih _ _ _ _  h
noncomputable def f_X11_isCompared_0 (x0 : Nat) (M : Mem) : Option (Bool) :=
  (gI M 11 x0 16).bind fun v11 =>
  f_X11_isCompared_7 fu x0 (v11 - 1) M
set_option maxHeartbeats 4000000 in
theorem t_X11_isCompared_0 {X : XV} {d : Nat} (hd : 2 ≤ d + 1) : ∀ (x0 : Nat) (M : Mem) (res : Bool), f_X11_isCompared_0  x0 M = some res → Ex X (d + 1) mX11_isCompared 0 [(0, .ref x0)] [] M (some (.int (jz res))) M := by
  intro x0 M res  h
  unfold f_X11_isCompared_0 at h
  refine ex_aload_n (pc := 0) 0 dX11_isCompared_0 rfl rfl ?_
  obtain ⟨v11, ev11, h⟩ := ob_some h
  refine ex_gI (pc := 1) ev11 dX11_isCompared_1 lfX11_173 ?_
  refine ex_iconst (pc := 4) 1 dX11_isCompared_4 rfl ?_
  refine ex_isub (pc := 5) dX11_isCompared_5 ?_
  refine ex_istore_n (pc := 6) [(1, .int (v11 - 1)), (0, .ref x0)] dX11_isCompared_6 rfl (by decide) rfl ?_
  refine ex_sub (lo' := [(0, .ref x0), (1, .int (v11 - 1))]) [1, 0] rfl ?_
  exact t_X11_isCompared_7 hd  _ _ _ _ _  h
noncomputable def f_X11_isCompared (x0 : Nat) (M : Mem) : Option (Bool) := if isOb M 11 x0 = true then f_X11_isCompared_0 x0 M else none
theorem o_X11_isCompared {x0 : Nat} {M : Mem} {res : Bool} (h : f_X11_isCompared x0 M = some res) : isO M 11 x0 := by
  unfold f_X11_isCompared at h
  split at h
  · rename_i hc; exact isOb_iff hc
  · cases h
set_option maxHeartbeats 4000000 in
theorem s_X11_isCompared {X : XV} {d : Nat} (hd : 2 ≤ d) {x0 : Nat} {M : Mem} {res : Bool} (h : f_X11_isCompared x0 M = some res) : Mx X d mX11_isCompared [.ref x0] M (some (.int (jz res))) M := by
  obtain ⟨d, rfl⟩ : ∃ e, d = e + 1 := ⟨d - 1, by omega⟩
  unfold f_X11_isCompared at h
  split at h
  rotate_left
  · cases h
  refine Mx.of (by decide) (Nat.le_of_ble_eq_true rfl) (⟨_, rfl, jz_nar _⟩) ?_
  exact ex_sub (lo' := [(0, .ref x0)]) [0] rfl (t_X11_isCompared_0 hd _ _ _  h)
noncomputable def f_X11_isAskAhead_0 (x0 : Nat) (M : Mem) : Option (Bool) :=
  (f_X11_openNow x0 M).bind fun v1 =>
  if v1 = 41 then
  ((gR M 11 x0 15).bind fun v3 =>
  (gI M 11 x0 16).bind fun v4 =>
  (rI M v3 (v4 - 1)).bind fun v5 =>
  if 40 ≤ v5 then
  (some true)
  else
  ((gR M 11 x0 15).bind fun v7 =>
  (gI M 11 x0 16).bind fun v8 =>
  (rI M v7 (v8 - 1)).bind fun v9 =>
  (f_X11_rank v9).bind fun v10 =>
  (f_X11_isIn v10 1 3).bind fun v11 =>
  if v11 = false then
  (some false)
  else
  (some true)))
  else
  (some false)
set_option maxHeartbeats 4000000 in
theorem t_X11_isAskAhead_0 {X : XV} {d : Nat} (hd : 3 ≤ d + 1) : ∀ (x0 : Nat) (M : Mem) (res : Bool), f_X11_isAskAhead_0  x0 M = some res → Ex X (d + 1) mX11_isAskAhead 0 [(0, .ref x0)] [] M (some (.int (jz res))) M := by
  intro x0 M res  h
  unfold f_X11_isAskAhead_0 at h
  refine ex_aload_n (pc := 0) 0 dX11_isAskAhead_0 rfl rfl ?_
  obtain ⟨v1, ev1, h⟩ := ob_some h
  refine ex_callV0r (pc := 1) dX11_isAskAhead_1 jX11_openNow lmX11_190 jiX11_openNow jvX11_openNow (o_X11_openNow ev1) rfl (Nat.le_of_ble_eq_true rfl) (s_X11_openNow (by omega)  ev1) ?_
  refine ex_bipush (pc := 4) 41 dX11_isAskAhead_4 (by decide) ?_
  by_cases c2 : v1 = 41
  · rw [if_pos c2] at h
    refine ex_icmp_ne_f (pc := 6) dX11_isAskAhead_6 51 rfl c2 ?_
    refine ex_aload_n (pc := 9) 0 dX11_isAskAhead_9 rfl rfl ?_
    obtain ⟨v3, ev3, h⟩ := ob_some h
    refine ex_gR (pc := 10) ev3 dX11_isAskAhead_10 lfX11_29 ?_
    refine ex_aload_n (pc := 13) 0 dX11_isAskAhead_13 rfl rfl ?_
    obtain ⟨v4, ev4, h⟩ := ob_some h
    refine ex_gI (pc := 14) ev4 dX11_isAskAhead_14 lfX11_173 ?_
    refine ex_iconst (pc := 17) 1 dX11_isAskAhead_17 rfl ?_
    refine ex_isub (pc := 18) dX11_isAskAhead_18 ?_
    obtain ⟨v5, ev5, h⟩ := ob_some h
    refine ex_rI (pc := 19) ev5 dX11_isAskAhead_19 ?_
    refine ex_bipush (pc := 20) 40 dX11_isAskAhead_20 (by decide) ?_
    by_cases c6 : 40 ≤ v5
    · rw [if_pos c6] at h
      refine ex_icmp_ge_t (pc := 22) 47 dX11_isAskAhead_22 rfl c6 ?_
      refine ex_iconst (pc := 47) 1 dX11_isAskAhead_47 rfl ?_
      refine ex_goto (pc := 48) 52 dX11_isAskAhead_48 rfl ?_
      cases h
      exact ex_ireturn (pc := 52) dX11_isAskAhead_52
    · rw [if_neg c6] at h
      refine ex_icmp_ge_f (pc := 22) dX11_isAskAhead_22 47 rfl c6 ?_
      refine ex_aload_n (pc := 25) 0 dX11_isAskAhead_25 rfl rfl ?_
      obtain ⟨v7, ev7, h⟩ := ob_some h
      refine ex_gR (pc := 26) ev7 dX11_isAskAhead_26 lfX11_29 ?_
      refine ex_aload_n (pc := 29) 0 dX11_isAskAhead_29 rfl rfl ?_
      obtain ⟨v8, ev8, h⟩ := ob_some h
      refine ex_gI (pc := 30) ev8 dX11_isAskAhead_30 lfX11_173 ?_
      refine ex_iconst (pc := 33) 1 dX11_isAskAhead_33 rfl ?_
      refine ex_isub (pc := 34) dX11_isAskAhead_34 ?_
      obtain ⟨v9, ev9, h⟩ := ob_some h
      refine ex_rI (pc := 35) ev9 dX11_isAskAhead_35 ?_
      obtain ⟨v10, ev10, h⟩ := ob_some h
      refine ex_callS1r (pc := 36) dX11_isAskAhead_36 jX11_rank lmX11_176 jsX11_rank (Nat.le_of_ble_eq_true rfl) (s_X11_rank (by omega)  ev10) ?_
      refine ex_iconst (pc := 39) 1 dX11_isAskAhead_39 rfl ?_
      refine ex_iconst (pc := 40) 3 dX11_isAskAhead_40 rfl ?_
      obtain ⟨v11, ev11, h⟩ := ob_some h
      refine ex_callS3r (pc := 41) dX11_isAskAhead_41 jX11_isIn lmX11_87 jsX11_isIn (Nat.le_of_ble_eq_true rfl) (s_X11_isIn (by omega)  ev11) ?_
      by_cases c12 : v11 = false
      · rw [if_pos c12] at h
        refine ex_if_eq_t (pc := 44) 51 dX11_isAskAhead_44 rfl (jz_eq_t c12) ?_
        refine ex_iconst (pc := 51) 0 dX11_isAskAhead_51 rfl ?_
        cases h
        exact ex_ireturn (pc := 52) dX11_isAskAhead_52
      · rw [if_neg c12] at h
        refine ex_if_eq_f (pc := 44) dX11_isAskAhead_44 51 rfl (jz_eq_f c12) ?_
        refine ex_iconst (pc := 47) 1 dX11_isAskAhead_47 rfl ?_
        refine ex_goto (pc := 48) 52 dX11_isAskAhead_48 rfl ?_
        cases h
        exact ex_ireturn (pc := 52) dX11_isAskAhead_52
  · rw [if_neg c2] at h
    refine ex_icmp_ne_t (pc := 6) 51 dX11_isAskAhead_6 rfl c2 ?_
    refine ex_iconst (pc := 51) 0 dX11_isAskAhead_51 rfl ?_
    cases h
    exact ex_ireturn (pc := 52) dX11_isAskAhead_52
noncomputable def f_X11_isAskAhead (x0 : Nat) (M : Mem) : Option (Bool) := if isOb M 11 x0 = true then f_X11_isAskAhead_0 x0 M else none
theorem o_X11_isAskAhead {x0 : Nat} {M : Mem} {res : Bool} (h : f_X11_isAskAhead x0 M = some res) : isO M 11 x0 := by
  unfold f_X11_isAskAhead at h
  split at h
  · rename_i hc; exact isOb_iff hc
  · cases h
set_option maxHeartbeats 4000000 in
theorem s_X11_isAskAhead {X : XV} {d : Nat} (hd : 3 ≤ d) {x0 : Nat} {M : Mem} {res : Bool} (h : f_X11_isAskAhead x0 M = some res) : Mx X d mX11_isAskAhead [.ref x0] M (some (.int (jz res))) M := by
  obtain ⟨d, rfl⟩ : ∃ e, d = e + 1 := ⟨d - 1, by omega⟩
  unfold f_X11_isAskAhead at h
  split at h
  rotate_left
  · cases h
  refine Mx.of (by decide) (Nat.le_of_ble_eq_true rfl) (⟨_, rfl, jz_nar _⟩) ?_
  exact ex_sub (lo' := [(0, .ref x0)]) [0] rfl (t_X11_isAskAhead_0 hd _ _ _  h)
noncomputable def f_X11_opened_0 (x0 : Nat) (x1 : Int32) (M : Mem) : Option (Int32 × Mem) :=
  (gI M 11 x0 17).bind fun v1 =>
  if v1 = 8 then
  (some (3, M))
  else
  ((gI M 11 x0 17).bind fun v3 =>
  (pF M 11 x0 17 (.int (v3 + 1))).bind fun q4 =>
  (gR q4 11 x0 15).bind fun v5 =>
  (gI q4 11 x0 16).bind fun v6 =>
  (wI q4 v5 v6 x1).bind fun q7 =>
  (gI q7 11 x0 16).bind fun v8 =>
  (pF q7 11 x0 16 (.int (v8 + 1))).bind fun q9 =>
  (f_X11_nextToken x0 q9).bind fun q10 =>
  some (0, q10))
set_option maxHeartbeats 4000000 in
theorem t_X11_opened_0 {X : XV} {d : Nat} (hd : 3 ≤ d + 1) : ∀ (x0 : Nat) (x1 : Int32) (M : Mem) (res : Int32 × Mem), f_X11_opened_0  x0 x1 M = some res → Ex X (d + 1) mX11_opened 0 [(0, .ref x0), (1, .int x1)] [] M (some (.int res.1)) res.2 := by
  intro x0 x1 M res  h
  unfold f_X11_opened_0 at h
  refine ex_aload_n (pc := 0) 0 dX11_opened_0 rfl rfl ?_
  obtain ⟨v1, ev1, h⟩ := ob_some h
  refine ex_gI (pc := 1) ev1 dX11_opened_1 lfX11_183 ?_
  refine ex_bipush (pc := 4) 8 dX11_opened_4 (by decide) ?_
  by_cases c2 : v1 = 8
  · rw [if_pos c2] at h
    refine ex_icmp_ne_f (pc := 6) dX11_opened_6 11 rfl c2 ?_
    refine ex_iconst (pc := 9) 3 dX11_opened_9 rfl ?_
    cases h
    exact ex_ireturn (pc := 10) dX11_opened_10
  · rw [if_neg c2] at h
    refine ex_icmp_ne_t (pc := 6) 11 dX11_opened_6 rfl c2 ?_
    refine ex_aload_n (pc := 11) 0 dX11_opened_11 rfl rfl ?_
    refine ex_dup (pc := 12) dX11_opened_12 rfl ?_
    obtain ⟨v3, ev3, h⟩ := ob_some h
    refine ex_gI (pc := 13) ev3 dX11_opened_13 lfX11_183 ?_
    refine ex_iconst (pc := 16) 1 dX11_opened_16 rfl ?_
    refine ex_iadd (pc := 17) dX11_opened_17 ?_
    obtain ⟨q4, eq4, h⟩ := ob_some h
    refine ex_pF (pc := 18) eq4 dX11_opened_18 lfX11_183 rfl rfl (fun _ hq => by cases hq; rfl) ?_
    refine ex_aload_n (pc := 21) 0 dX11_opened_21 rfl rfl ?_
    obtain ⟨v5, ev5, h⟩ := ob_some h
    refine ex_gR (pc := 22) ev5 dX11_opened_22 lfX11_29 ?_
    refine ex_aload_n (pc := 25) 0 dX11_opened_25 rfl rfl ?_
    obtain ⟨v6, ev6, h⟩ := ob_some h
    refine ex_gI (pc := 26) ev6 dX11_opened_26 lfX11_173 ?_
    refine ex_iload_n (pc := 29) 1 dX11_opened_29 rfl rfl ?_
    obtain ⟨q7, eq7, h⟩ := ob_some h
    refine ex_wI (pc := 30) eq7 dX11_opened_30 ?_
    refine ex_aload_n (pc := 31) 0 dX11_opened_31 rfl rfl ?_
    refine ex_dup (pc := 32) dX11_opened_32 rfl ?_
    obtain ⟨v8, ev8, h⟩ := ob_some h
    refine ex_gI (pc := 33) ev8 dX11_opened_33 lfX11_173 ?_
    refine ex_iconst (pc := 36) 1 dX11_opened_36 rfl ?_
    refine ex_iadd (pc := 37) dX11_opened_37 ?_
    obtain ⟨q9, eq9, h⟩ := ob_some h
    refine ex_pF (pc := 38) eq9 dX11_opened_38 lfX11_173 rfl rfl (fun _ hq => by cases hq; rfl) ?_
    refine ex_aload_n (pc := 41) 0 dX11_opened_41 rfl rfl ?_
    obtain ⟨q10, eq10, h⟩ := ob_some h
    refine ex_callV0v (pc := 42) dX11_opened_42 jX11_nextToken lmX11_193 jiX11_nextToken jvX11_nextToken (o_X11_nextToken eq10) rfl (Nat.le_of_ble_eq_true rfl) (s_X11_nextToken (by omega)  eq10) ?_
    refine ex_iconst (pc := 45) 0 dX11_opened_45 rfl ?_
    cases h
    exact ex_ireturn (pc := 46) dX11_opened_46
noncomputable def f_X11_opened (x0 : Nat) (x1 : Int32) (M : Mem) : Option (Int32 × Mem) := if isOb M 11 x0 = true then f_X11_opened_0 x0 x1 M else none
theorem o_X11_opened {x0 : Nat} {x1 : Int32} {M : Mem} {res : Int32 × Mem} (h : f_X11_opened x0 x1 M = some res) : isO M 11 x0 := by
  unfold f_X11_opened at h
  split at h
  · rename_i hc; exact isOb_iff hc
  · cases h
set_option maxHeartbeats 4000000 in
theorem s_X11_opened {X : XV} {d : Nat} (hd : 3 ≤ d) {x0 : Nat} {x1 : Int32} {M : Mem} {res : Int32 × Mem} (h : f_X11_opened x0 x1 M = some res) : Mx X d mX11_opened [.ref x0, .int x1] M (some (.int res.1)) res.2 := by
  obtain ⟨d, rfl⟩ : ∃ e, d = e + 1 := ⟨d - 1, by omega⟩
  unfold f_X11_opened at h
  split at h
  rotate_left
  · cases h
  refine Mx.of (by decide) (Nat.le_of_ble_eq_true rfl) (⟨_, rfl, rfl⟩) ?_
  exact ex_sub (lo' := [(0, .ref x0), (1, .int x1)]) [0, 1] rfl (t_X11_opened_0 hd _ _ _ _  h)
