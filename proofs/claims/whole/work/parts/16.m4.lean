noncomputable def f_X11_apart_174 (k2 : Nat → Int32 → Mem → Option (Int32 × Mem)) (k14 : Nat → Int32 → Int32 → Mem → Option (Int32 × Mem)) (x0 : Nat) (x1 : Int32) (x2 : Int32) (x3 : Int32) (M : Mem) : Option (Int32 × Mem) :=
  (gR M 11 x0 30).bind fun v1 =>
  (wI M v1 ((13 * x1) + x2) x3).bind fun q2 =>
  k14 x0 x1 (x2 + 1) q2
set_option maxHeartbeats 4000000 in
theorem t_X11_apart_174 {X : XV} {d : Nat} (hd : 1 ≤ d + 1) {k2 : Nat → Int32 → Mem → Option (Int32 × Mem)} (hk2 : ∀ (x0 : Nat) (x1 : Int32) (M : Mem) (res : Int32 × Mem), k2 x0 x1 M = some res → Ex X (d + 1) mX11_apart 2 [(0, .ref x0), (1, .int x1)] [] M (some (.int res.1)) res.2) {k14 : Nat → Int32 → Int32 → Mem → Option (Int32 × Mem)} (hk14 : ∀ (x0 : Nat) (x1 : Int32) (x2 : Int32) (M : Mem) (res : Int32 × Mem), k14 x0 x1 x2 M = some res → Ex X (d + 1) mX11_apart 14 [(0, .ref x0), (1, .int x1), (2, .int x2)] [] M (some (.int res.1)) res.2) : ∀ (x0 : Nat) (x1 : Int32) (x2 : Int32) (x3 : Int32) (M : Mem) (res : Int32 × Mem), f_X11_apart_174 k2 k14 x0 x1 x2 x3 M = some res → Ex X (d + 1) mX11_apart 174 [(0, .ref x0), (1, .int x1), (2, .int x2), (3, .int x3)] [] M (some (.int res.1)) res.2 := by
  intro x0 x1 x2 x3 M res  h
  unfold f_X11_apart_174 at h
  refine ex_aload_n (pc := 174) 0 dX11_apart_174 rfl rfl ?_
  obtain ⟨v1, ev1, h⟩ := ob_some h
  refine ex_gR (pc := 175) ev1 dX11_apart_175 lfX11_62 ?_
  refine ex_bipush (pc := 178) 13 dX11_apart_178 (by decide) ?_
  refine ex_iload_n (pc := 180) 1 dX11_apart_180 rfl rfl ?_
  refine ex_imul (pc := 181) dX11_apart_181 ?_
  refine ex_iload_n (pc := 182) 2 dX11_apart_182 rfl rfl ?_
  refine ex_iadd (pc := 183) dX11_apart_183 ?_
  refine ex_iload_n (pc := 184) 3 dX11_apart_184 rfl rfl ?_
  obtain ⟨q2, eq2, h⟩ := ob_some h
  refine ex_wI (pc := 185) eq2 dX11_apart_185 ?_
  refine ex_iinc (pc := 186) (x2 + 1) 2 [(2, .int (x2 + 1)), (0, .ref x0), (1, .int x1), (3, .int x3)] dX11_apart_186 rfl rfl (by decide) rfl ?_
  refine ex_goto (pc := 189) 14 dX11_apart_189 rfl ?_
  refine ex_sub (lo' := [(0, .ref x0), (1, .int x1), (2, .int (x2 + 1))]) [1, 2, 0] rfl ?_
  exact hk14 _ _ _ _ _  h
noncomputable def f_X11_apart_131 (k2 : Nat → Int32 → Mem → Option (Int32 × Mem)) (k14 : Nat → Int32 → Int32 → Mem → Option (Int32 × Mem)) (x0 : Nat) (x1 : Int32) (x2 : Int32) (x3 : Int32) (M : Mem) : Option (Int32 × Mem) :=
  if x1 ≤ 0 then
  (f_X11_apart_174 k2 k14 x0 x1 x2 x3 M)
  else
  (if x2 ≤ 0 then
  (f_X11_apart_174 k2 k14 x0 x1 x2 x3 M)
  else
  ((gR M 11 x0 30).bind fun v5 =>
  (rI M v5 (((13 * x1) + x2) - 1)).bind fun v6 =>
  if x3 ≤ (v6 + 1) then
  (f_X11_apart_174 k2 k14 x0 x1 x2 x3 M)
  else
  ((gR M 11 x0 30).bind fun v8 =>
  (rI M v8 (((13 * x1) + x2) - 1)).bind fun v9 =>
  f_X11_apart_174 k2 k14 x0 x1 x2 (v9 + 1) M)))
set_option maxHeartbeats 4000000 in
theorem t_X11_apart_131 {X : XV} {d : Nat} (hd : 1 ≤ d + 1) {k2 : Nat → Int32 → Mem → Option (Int32 × Mem)} (hk2 : ∀ (x0 : Nat) (x1 : Int32) (M : Mem) (res : Int32 × Mem), k2 x0 x1 M = some res → Ex X (d + 1) mX11_apart 2 [(0, .ref x0), (1, .int x1)] [] M (some (.int res.1)) res.2) {k14 : Nat → Int32 → Int32 → Mem → Option (Int32 × Mem)} (hk14 : ∀ (x0 : Nat) (x1 : Int32) (x2 : Int32) (M : Mem) (res : Int32 × Mem), k14 x0 x1 x2 M = some res → Ex X (d + 1) mX11_apart 14 [(0, .ref x0), (1, .int x1), (2, .int x2)] [] M (some (.int res.1)) res.2) : ∀ (x0 : Nat) (x1 : Int32) (x2 : Int32) (x3 : Int32) (M : Mem) (res : Int32 × Mem), f_X11_apart_131 k2 k14 x0 x1 x2 x3 M = some res → Ex X (d + 1) mX11_apart 131 [(0, .ref x0), (1, .int x1), (2, .int x2), (3, .int x3)] [] M (some (.int res.1)) res.2 := by
  intro x0 x1 x2 x3 M res  h
  unfold f_X11_apart_131 at h
  refine ex_iload_n (pc := 131) 1 dX11_apart_131 rfl rfl ?_
  by_cases c3 : x1 ≤ 0
  · rw [if_pos c3] at h
    refine ex_if_le_t (pc := 132) 174 dX11_apart_132 rfl c3 ?_
    refine ex_sub (lo' := [(0, .ref x0), (1, .int x1), (2, .int x2), (3, .int x3)]) [0, 1, 2, 3] rfl ?_
    exact t_X11_apart_174 hd hk2 hk14 _ _ _ _ _ _  h
  · rw [if_neg c3] at h
    refine ex_if_le_f (pc := 132) dX11_apart_132 174 rfl c3 ?_
    refine ex_iload_n (pc := 135) 2 dX11_apart_135 rfl rfl ?_
    by_cases c4 : x2 ≤ 0
    · rw [if_pos c4] at h
      refine ex_if_le_t (pc := 136) 174 dX11_apart_136 rfl c4 ?_
      refine ex_sub (lo' := [(0, .ref x0), (1, .int x1), (2, .int x2), (3, .int x3)]) [0, 1, 2, 3] rfl ?_
      exact t_X11_apart_174 hd hk2 hk14 _ _ _ _ _ _  h
    · rw [if_neg c4] at h
      refine ex_if_le_f (pc := 136) dX11_apart_136 174 rfl c4 ?_
      refine ex_aload_n (pc := 139) 0 dX11_apart_139 rfl rfl ?_
      obtain ⟨v5, ev5, h⟩ := ob_some h
      refine ex_gR (pc := 140) ev5 dX11_apart_140 lfX11_62 ?_
      refine ex_bipush (pc := 143) 13 dX11_apart_143 (by decide) ?_
      refine ex_iload_n (pc := 145) 1 dX11_apart_145 rfl rfl ?_
      refine ex_imul (pc := 146) dX11_apart_146 ?_
      refine ex_iload_n (pc := 147) 2 dX11_apart_147 rfl rfl ?_
      refine ex_iadd (pc := 148) dX11_apart_148 ?_
      refine ex_iconst (pc := 149) 1 dX11_apart_149 rfl ?_
      refine ex_isub (pc := 150) dX11_apart_150 ?_
      obtain ⟨v6, ev6, h⟩ := ob_some h
      refine ex_rI (pc := 151) ev6 dX11_apart_151 ?_
      refine ex_iconst (pc := 152) 1 dX11_apart_152 rfl ?_
      refine ex_iadd (pc := 153) dX11_apart_153 ?_
      refine ex_iload_n (pc := 154) 3 dX11_apart_154 rfl rfl ?_
      by_cases c7 : x3 ≤ (v6 + 1)
      · rw [if_pos c7] at h
        refine ex_icmp_ge_t (pc := 155) 174 dX11_apart_155 rfl c7 ?_
        refine ex_sub (lo' := [(0, .ref x0), (1, .int x1), (2, .int x2), (3, .int x3)]) [0, 1, 2, 3] rfl ?_
        exact t_X11_apart_174 hd hk2 hk14 _ _ _ _ _ _  h
      · rw [if_neg c7] at h
        refine ex_icmp_ge_f (pc := 155) dX11_apart_155 174 rfl c7 ?_
        refine ex_aload_n (pc := 158) 0 dX11_apart_158 rfl rfl ?_
        obtain ⟨v8, ev8, h⟩ := ob_some h
        refine ex_gR (pc := 159) ev8 dX11_apart_159 lfX11_62 ?_
        refine ex_bipush (pc := 162) 13 dX11_apart_162 (by decide) ?_
        refine ex_iload_n (pc := 164) 1 dX11_apart_164 rfl rfl ?_
        refine ex_imul (pc := 165) dX11_apart_165 ?_
        refine ex_iload_n (pc := 166) 2 dX11_apart_166 rfl rfl ?_
        refine ex_iadd (pc := 167) dX11_apart_167 ?_
        refine ex_iconst (pc := 168) 1 dX11_apart_168 rfl ?_
        refine ex_isub (pc := 169) dX11_apart_169 ?_
        obtain ⟨v9, ev9, h⟩ := ob_some h
        refine ex_rI (pc := 170) ev9 dX11_apart_170 ?_
        refine ex_iconst (pc := 171) 1 dX11_apart_171 rfl ?_
        refine ex_iadd (pc := 172) dX11_apart_172 ?_
        refine ex_istore_n (pc := 173) [(3, .int (v9 + 1)), (0, .ref x0), (1, .int x1), (2, .int x2)] dX11_apart_173 rfl (by decide) rfl ?_
        refine ex_sub (lo' := [(0, .ref x0), (1, .int x1), (2, .int x2), (3, .int (v9 + 1))]) [1, 2, 3, 0] rfl ?_
        exact t_X11_apart_174 hd hk2 hk14 _ _ _ _ _ _  h
noncomputable def f_X11_apart_87 (k2 : Nat → Int32 → Mem → Option (Int32 × Mem)) (k14 : Nat → Int32 → Int32 → Mem → Option (Int32 × Mem)) (x0 : Nat) (x1 : Int32) (x2 : Int32) (s0 : Int32) (M : Mem) : Option (Int32 × Mem) :=
  if x1 ≤ 0 then
  (f_X11_apart_131 k2 k14 x0 x1 x2 s0 M)
  else
  (if x2 ≤ 0 then
  (f_X11_apart_131 k2 k14 x0 x1 x2 s0 M)
  else
  ((gR M 11 x0 30).bind fun v12 =>
  (rI M v12 ((13 * (x1 - 1)) + x2)).bind fun v13 =>
  if s0 ≤ (v13 + 1) then
  (f_X11_apart_131 k2 k14 x0 x1 x2 s0 M)
  else
  ((gR M 11 x0 30).bind fun v15 =>
  (rI M v15 ((13 * (x1 - 1)) + x2)).bind fun v16 =>
  f_X11_apart_131 k2 k14 x0 x1 x2 (v16 + 1) M)))
set_option maxHeartbeats 4000000 in
theorem t_X11_apart_87 {X : XV} {d : Nat} (hd : 1 ≤ d + 1) {k2 : Nat → Int32 → Mem → Option (Int32 × Mem)} (hk2 : ∀ (x0 : Nat) (x1 : Int32) (M : Mem) (res : Int32 × Mem), k2 x0 x1 M = some res → Ex X (d + 1) mX11_apart 2 [(0, .ref x0), (1, .int x1)] [] M (some (.int res.1)) res.2) {k14 : Nat → Int32 → Int32 → Mem → Option (Int32 × Mem)} (hk14 : ∀ (x0 : Nat) (x1 : Int32) (x2 : Int32) (M : Mem) (res : Int32 × Mem), k14 x0 x1 x2 M = some res → Ex X (d + 1) mX11_apart 14 [(0, .ref x0), (1, .int x1), (2, .int x2)] [] M (some (.int res.1)) res.2) : ∀ (x0 : Nat) (x1 : Int32) (x2 : Int32) (s0 : Int32) (M : Mem) (res : Int32 × Mem), f_X11_apart_87 k2 k14 x0 x1 x2 s0 M = some res → Ex X (d + 1) mX11_apart 87 [(0, .ref x0), (1, .int x1), (2, .int x2)] [.int s0] M (some (.int res.1)) res.2 := by
  intro x0 x1 x2 s0 M res  h
  unfold f_X11_apart_87 at h
  refine ex_istore_n (pc := 87) [(3, .int s0), (0, .ref x0), (1, .int x1), (2, .int x2)] dX11_apart_87 rfl (by decide) rfl ?_
  refine ex_iload_n (pc := 88) 2 dX11_apart_88 rfl rfl ?_
  by_cases c10 : x1 ≤ 0
  · rw [if_pos c10] at h
    refine ex_if_le_t (pc := 89) 131 dX11_apart_89 rfl c10 ?_
    refine ex_sub (lo' := [(0, .ref x0), (1, .int x1), (2, .int x2), (3, .int s0)]) [1, 2, 3, 0] rfl ?_
    exact t_X11_apart_131 hd hk2 hk14 _ _ _ _ _ _  h
  · rw [if_neg c10] at h
    refine ex_if_le_f (pc := 89) dX11_apart_89 131 rfl c10 ?_
    refine ex_iload_n (pc := 92) 3 dX11_apart_92 rfl rfl ?_
    by_cases c11 : x2 ≤ 0
    · rw [if_pos c11] at h
      refine ex_if_le_t (pc := 93) 131 dX11_apart_93 rfl c11 ?_
      refine ex_sub (lo' := [(0, .ref x0), (1, .int x1), (2, .int x2), (3, .int s0)]) [1, 2, 3, 0] rfl ?_
      exact t_X11_apart_131 hd hk2 hk14 _ _ _ _ _ _  h
    · rw [if_neg c11] at h
      refine ex_if_le_f (pc := 93) dX11_apart_93 131 rfl c11 ?_
      refine ex_aload_n (pc := 96) 1 dX11_apart_96 rfl rfl ?_
      obtain ⟨v12, ev12, h⟩ := ob_some h
      refine ex_gR (pc := 97) ev12 dX11_apart_97 lfX11_62 ?_
      refine ex_bipush (pc := 100) 13 dX11_apart_100 (by decide) ?_
      refine ex_iload_n (pc := 102) 2 dX11_apart_102 rfl rfl ?_
      refine ex_iconst (pc := 103) 1 dX11_apart_103 rfl ?_
      refine ex_isub (pc := 104) dX11_apart_104 ?_
      refine ex_imul (pc := 105) dX11_apart_105 ?_
      refine ex_iload_n (pc := 106) 3 dX11_apart_106 rfl rfl ?_
      refine ex_iadd (pc := 107) dX11_apart_107 ?_
      obtain ⟨v13, ev13, h⟩ := ob_some h
      refine ex_rI (pc := 108) ev13 dX11_apart_108 ?_
      refine ex_iconst (pc := 109) 1 dX11_apart_109 rfl ?_
      refine ex_iadd (pc := 110) dX11_apart_110 ?_
      refine ex_iload_n (pc := 111) 0 dX11_apart_111 rfl rfl ?_
      by_cases c14 : s0 ≤ (v13 + 1)
      · rw [if_pos c14] at h
        refine ex_icmp_ge_t (pc := 112) 131 dX11_apart_112 rfl c14 ?_
        refine ex_sub (lo' := [(0, .ref x0), (1, .int x1), (2, .int x2), (3, .int s0)]) [1, 2, 3, 0] rfl ?_
        exact t_X11_apart_131 hd hk2 hk14 _ _ _ _ _ _  h
      · rw [if_neg c14] at h
        refine ex_icmp_ge_f (pc := 112) dX11_apart_112 131 rfl c14 ?_
        refine ex_aload_n (pc := 115) 1 dX11_apart_115 rfl rfl ?_
        obtain ⟨v15, ev15, h⟩ := ob_some h
        refine ex_gR (pc := 116) ev15 dX11_apart_116 lfX11_62 ?_
        refine ex_bipush (pc := 119) 13 dX11_apart_119 (by decide) ?_
        refine ex_iload_n (pc := 121) 2 dX11_apart_121 rfl rfl ?_
        refine ex_iconst (pc := 122) 1 dX11_apart_122 rfl ?_
        refine ex_isub (pc := 123) dX11_apart_123 ?_
        refine ex_imul (pc := 124) dX11_apart_124 ?_
        refine ex_iload_n (pc := 125) 3 dX11_apart_125 rfl rfl ?_
        refine ex_iadd (pc := 126) dX11_apart_126 ?_
        obtain ⟨v16, ev16, h⟩ := ob_some h
        refine ex_rI (pc := 127) ev16 dX11_apart_127 ?_
        refine ex_iconst (pc := 128) 1 dX11_apart_128 rfl ?_
        refine ex_iadd (pc := 129) dX11_apart_129 ?_
        refine ex_istore_n (pc := 130) [(3, .int (v16 + 1)), (0, .ref x0), (1, .int x1), (2, .int x2)] dX11_apart_130 rfl (by decide) rfl ?_
        refine ex_sub (lo' := [(0, .ref x0), (1, .int x1), (2, .int x2), (3, .int (v16 + 1))]) [1, 2, 3, 0] rfl ?_
        exact t_X11_apart_131 hd hk2 hk14 _ _ _ _ _ _  h
noncomputable def f_X11_apart_86 (k2 : Nat → Int32 → Mem → Option (Int32 × Mem)) (k14 : Nat → Int32 → Int32 → Mem → Option (Int32 × Mem)) (x0 : Nat) (x1 : Int32) (x2 : Int32) (s0 : Bool) (s1 : Int32) (M : Mem) : Option (Int32 × Mem) :=
  f_X11_apart_87 k2 k14 x0 x1 x2 (s1 + (jz s0)) M
set_option maxHeartbeats 4000000 in
theorem t_X11_apart_86 {X : XV} {d : Nat} (hd : 1 ≤ d + 1) {k2 : Nat → Int32 → Mem → Option (Int32 × Mem)} (hk2 : ∀ (x0 : Nat) (x1 : Int32) (M : Mem) (res : Int32 × Mem), k2 x0 x1 M = some res → Ex X (d + 1) mX11_apart 2 [(0, .ref x0), (1, .int x1)] [] M (some (.int res.1)) res.2) {k14 : Nat → Int32 → Int32 → Mem → Option (Int32 × Mem)} (hk14 : ∀ (x0 : Nat) (x1 : Int32) (x2 : Int32) (M : Mem) (res : Int32 × Mem), k14 x0 x1 x2 M = some res → Ex X (d + 1) mX11_apart 14 [(0, .ref x0), (1, .int x1), (2, .int x2)] [] M (some (.int res.1)) res.2) : ∀ (x0 : Nat) (x1 : Int32) (x2 : Int32) (s0 : Bool) (s1 : Int32) (M : Mem) (res : Int32 × Mem), f_X11_apart_86 k2 k14 x0 x1 x2 s0 s1 M = some res → Ex X (d + 1) mX11_apart 86 [(0, .ref x0), (1, .int x1), (2, .int x2)] [.int (jz s0), .int s1] M (some (.int res.1)) res.2 := by
  intro x0 x1 x2 s0 s1 M res  h
  unfold f_X11_apart_86 at h
  refine ex_iadd (pc := 86) dX11_apart_86 ?_
  refine ex_sub (lo' := [(0, .ref x0), (1, .int x1), (2, .int x2)]) [0, 1, 2] rfl ?_
  exact t_X11_apart_87 hd hk2 hk14 _ _ _ _ _ _  h
noncomputable def f_X11_apart_14 (n0 : Nat) (k2 : Nat → Int32 → Mem → Option (Int32 × Mem)) (x0 : Nat) (x1 : Int32) (x2 : Int32) (M : Mem) : Option (Int32 × Mem) :=
  match n0 with
  | 0 => none
  | n + 1 =>
    (gR M 11 x0 0).bind fun v17 =>
    (rI M v17 5).bind fun v18 =>
    if v18 < x2 then
    (k2 x0 (x1 + 1) M)
    else
    (if x1 = 0 then
    (f_X11_apart_87 k2 (f_X11_apart_14 n k2) x0 x1 x2 x2 M)
    else
    (if x2 = 0 then
    (f_X11_apart_87 k2 (f_X11_apart_14 n k2) x0 x1 x2 x1 M)
    else
    ((gR M 11 x0 30).bind fun v22 =>
    (rI M v22 (((13 * (x1 - 1)) + x2) - 1)).bind fun v23 =>
    (gR M 11 x0 0).bind fun v24 =>
    (rI M v24 ((121 + x1) - 1)).bind fun v25 =>
    (gR M 11 x0 0).bind fun v26 =>
    (rI M v26 ((133 + x2) - 1)).bind fun v27 =>
    if v25 = v27 then
    (f_X11_apart_86 k2 (f_X11_apart_14 n k2) x0 x1 x2 false v23 M)
    else
    (f_X11_apart_86 k2 (f_X11_apart_14 n k2) x0 x1 x2 true v23 M))))
set_option maxHeartbeats 4000000 in
theorem t_X11_apart_14 {X : XV} {d : Nat} (hd : 1 ≤ d + 1) {k2 : Nat → Int32 → Mem → Option (Int32 × Mem)} (hk2 : ∀ (x0 : Nat) (x1 : Int32) (M : Mem) (res : Int32 × Mem), k2 x0 x1 M = some res → Ex X (d + 1) mX11_apart 2 [(0, .ref x0), (1, .int x1)] [] M (some (.int res.1)) res.2) : ∀ (n : Nat) (x0 : Nat) (x1 : Int32) (x2 : Int32) (M : Mem) (res : Int32 × Mem), f_X11_apart_14 n k2 x0 x1 x2 M = some res → Ex X (d + 1) mX11_apart 14 [(0, .ref x0), (1, .int x1), (2, .int x2)] [] M (some (.int res.1)) res.2 := by
  intro n
  induction n with
  | zero =>
    intro x0 x1 x2 M res  h
    unfold f_X11_apart_14 at h
    cases h
  | succ n ih =>
    intro x0 x1 x2 M res  h
    unfold f_X11_apart_14 at h
    refine ex_iload_n (pc := 14) 2 dX11_apart_14 rfl rfl ?_
    refine ex_aload_n (pc := 15) 0 dX11_apart_15 rfl rfl ?_
    obtain ⟨v17, ev17, h⟩ := ob_some h
    refine ex_gR (pc := 16) ev17 dX11_apart_16 lfX11_7 ?_
    refine ex_iconst (pc := 19) 5 dX11_apart_19 rfl ?_
    obtain ⟨v18, ev18, h⟩ := ob_some h
    refine ex_rI (pc := 20) ev18 dX11_apart_20 ?_
    by_cases c19 : v18 < x2
    · rw [if_pos c19] at h
      refine ex_icmp_gt_t (pc := 21) 192 dX11_apart_21 rfl c19 ?_
      refine ex_iinc (pc := 192) (x1 + 1) 1 [(1, .int (x1 + 1)), (0, .ref x0), (2, .int x2)] dX11_apart_192 rfl rfl (by decide) rfl ?_
      refine ex_goto (pc := 195) 2 dX11_apart_195 rfl ?_
      refine ex_sub (lo' := [(0, .ref x0), (1, .int (x1 + 1))]) [1, 0] rfl ?_
      exact hk2 _ _ _ _  h
    · rw [if_neg c19] at h
      refine ex_icmp_gt_f (pc := 21) dX11_apart_21 192 rfl c19 ?_
      refine ex_iload_n (pc := 24) 1 dX11_apart_24 rfl rfl ?_
      by_cases c20 : x1 = 0
      · rw [if_pos c20] at h
        refine ex_if_ne_f (pc := 25) dX11_apart_25 32 rfl c20 ?_
        refine ex_iload_n (pc := 28) 2 dX11_apart_28 rfl rfl ?_
        refine ex_goto (pc := 29) 87 dX11_apart_29 rfl ?_
        refine ex_sub (lo' := [(0, .ref x0), (1, .int x1), (2, .int x2)]) [0, 1, 2] rfl ?_
        exact t_X11_apart_87 hd hk2 ih _ _ _ _ _ _  h
      · rw [if_neg c20] at h
        refine ex_if_ne_t (pc := 25) 32 dX11_apart_25 rfl c20 ?_
        refine ex_iload_n (pc := 32) 2 dX11_apart_32 rfl rfl ?_
        by_cases c21 : x2 = 0
        · rw [if_pos c21] at h
          refine ex_if_ne_f (pc := 33) dX11_apart_33 40 rfl c21 ?_
          refine ex_iload_n (pc := 36) 1 dX11_apart_36 rfl rfl ?_
          refine ex_goto (pc := 37) 87 dX11_apart_37 rfl ?_
          refine ex_sub (lo' := [(0, .ref x0), (1, .int x1), (2, .int x2)]) [0, 1, 2] rfl ?_
          exact t_X11_apart_87 hd hk2 ih _ _ _ _ _ _  h
        · rw [if_neg c21] at h
          refine ex_if_ne_t (pc := 33) 40 dX11_apart_33 rfl c21 ?_
          refine ex_aload_n (pc := 40) 0 dX11_apart_40 rfl rfl ?_
          obtain ⟨v22, ev22, h⟩ := ob_some h
          refine ex_gR (pc := 41) ev22 dX11_apart_41 lfX11_62 ?_
          refine ex_bipush (pc := 44) 13 dX11_apart_44 (by decide) ?_
          refine ex_iload_n (pc := 46) 1 dX11_apart_46 rfl rfl ?_
          refine ex_iconst (pc := 47) 1 dX11_apart_47 rfl ?_
          refine ex_isub (pc := 48) dX11_apart_48 ?_
          refine ex_imul (pc := 49) dX11_apart_49 ?_
          refine ex_iload_n (pc := 50) 2 dX11_apart_50 rfl rfl ?_
          refine ex_iadd (pc := 51) dX11_apart_51 ?_
          refine ex_iconst (pc := 52) 1 dX11_apart_52 rfl ?_
          refine ex_isub (pc := 53) dX11_apart_53 ?_
          obtain ⟨v23, ev23, h⟩ := ob_some h
          refine ex_rI (pc := 54) ev23 dX11_apart_54 ?_
          refine ex_aload_n (pc := 55) 0 dX11_apart_55 rfl rfl ?_
          obtain ⟨v24, ev24, h⟩ := ob_some h
          refine ex_gR (pc := 56) ev24 dX11_apart_56 lfX11_7 ?_
          refine ex_bipush (pc := 59) 121 dX11_apart_59 (by decide) ?_
          refine ex_iload_n (pc := 61) 1 dX11_apart_61 rfl rfl ?_
          refine ex_iadd (pc := 62) dX11_apart_62 ?_
          refine ex_iconst (pc := 63) 1 dX11_apart_63 rfl ?_
          refine ex_isub (pc := 64) dX11_apart_64 ?_
          obtain ⟨v25, ev25, h⟩ := ob_some h
          refine ex_rI (pc := 65) ev25 dX11_apart_65 ?_
          refine ex_aload_n (pc := 66) 0 dX11_apart_66 rfl rfl ?_
          obtain ⟨v26, ev26, h⟩ := ob_some h
          refine ex_gR (pc := 67) ev26 dX11_apart_67 lfX11_7 ?_
          refine ex_sipush (pc := 70) 133 dX11_apart_70 (by decide) ?_
          refine ex_iload_n (pc := 73) 2 dX11_apart_73 rfl rfl ?_
          refine ex_iadd (pc := 74) dX11_apart_74 ?_
          refine ex_iconst (pc := 75) 1 dX11_apart_75 rfl ?_
          refine ex_isub (pc := 76) dX11_apart_76 ?_
          obtain ⟨v27, ev27, h⟩ := ob_some h
          refine ex_rI (pc := 77) ev27 dX11_apart_77 ?_
          by_cases c28 : v25 = v27
          · rw [if_pos c28] at h
            refine ex_icmp_ne_f (pc := 78) dX11_apart_78 85 rfl c28 ?_
            refine ex_iconst (pc := 81) 0 dX11_apart_81 rfl ?_
            refine ex_goto (pc := 82) 86 dX11_apart_82 rfl ?_
            refine ex_sub (lo' := [(0, .ref x0), (1, .int x1), (2, .int x2)]) [0, 1, 2] rfl ?_
            exact t_X11_apart_86 hd hk2 ih _ _ _ _ _ _ _  h
          · rw [if_neg c28] at h
            refine ex_icmp_ne_t (pc := 78) 85 dX11_apart_78 rfl c28 ?_
            refine ex_iconst (pc := 85) 1 dX11_apart_85 rfl ?_
            refine ex_sub (lo' := [(0, .ref x0), (1, .int x1), (2, .int x2)]) [0, 1, 2] rfl ?_
            exact t_X11_apart_86 hd hk2 ih _ _ _ _ _ _ _  h
noncomputable def f_X11_apart_2 (n0 : Nat) (x0 : Nat) (x1 : Int32) (M : Mem) : Option (Int32 × Mem) :=
  match n0 with
  | 0 => none
  | n + 1 =>
    (gR M 11 x0 0).bind fun v29 =>
    (rI M v29 4).bind fun v30 =>
    if v30 < x1 then
    ((gR M 11 x0 30).bind fun v32 =>
    (gR M 11 x0 0).bind fun v33 =>
    (rI M v33 4).bind fun v34 =>
    (gR M 11 x0 0).bind fun v35 =>
    (rI M v35 5).bind fun v36 =>
    (rI M v32 ((13 * v34) + v36)).bind fun v37 =>
    some (v37, M))
    else
    (f_X11_apart_14 fu (f_X11_apart_2 n) x0 x1 0 M)
set_option maxHeartbeats 4000000 in
theorem t_X11_apart_2 {X : XV} {d : Nat} (hd : 1 ≤ d + 1) : ∀ (n : Nat) (x0 : Nat) (x1 : Int32) (M : Mem) (res : Int32 × Mem), f_X11_apart_2 n  x0 x1 M = some res → Ex X (d + 1) mX11_apart 2 [(0, .ref x0), (1, .int x1)] [] M (some (.int res.1)) res.2 := by
  intro n
  induction n with
  | zero =>
    intro x0 x1 M res  h
    unfold f_X11_apart_2 at h
    cases h
  | succ n ih =>
    intro x0 x1 M res  h
    unfold f_X11_apart_2 at h
    refine ex_iload_n (pc := 2) 1 dX11_apart_2 rfl rfl ?_
    refine ex_aload_n (pc := 3) 0 dX11_apart_3 rfl rfl ?_
    obtain ⟨v29, ev29, h⟩ := ob_some h
    refine ex_gR (pc := 4) ev29 dX11_apart_4 lfX11_7 ?_
    refine ex_iconst (pc := 7) 4 dX11_apart_7 rfl ?_
    obtain ⟨v30, ev30, h⟩ := ob_some h
    refine ex_rI (pc := 8) ev30 dX11_apart_8 ?_
    by_cases c31 : v30 < x1
    · rw [if_pos c31] at h
      refine ex_icmp_gt_t (pc := 9) 198 dX11_apart_9 rfl c31 ?_
      refine ex_aload_n (pc := 198) 0 dX11_apart_198 rfl rfl ?_
      obtain ⟨v32, ev32, h⟩ := ob_some h
      refine ex_gR (pc := 199) ev32 dX11_apart_199 lfX11_62 ?_
      refine ex_bipush (pc := 202) 13 dX11_apart_202 (by decide) ?_
      refine ex_aload_n (pc := 204) 0 dX11_apart_204 rfl rfl ?_
      obtain ⟨v33, ev33, h⟩ := ob_some h
      refine ex_gR (pc := 205) ev33 dX11_apart_205 lfX11_7 ?_
      refine ex_iconst (pc := 208) 4 dX11_apart_208 rfl ?_
      obtain ⟨v34, ev34, h⟩ := ob_some h
      refine ex_rI (pc := 209) ev34 dX11_apart_209 ?_
      refine ex_imul (pc := 210) dX11_apart_210 ?_
      refine ex_aload_n (pc := 211) 0 dX11_apart_211 rfl rfl ?_
      obtain ⟨v35, ev35, h⟩ := ob_some h
      refine ex_gR (pc := 212) ev35 dX11_apart_212 lfX11_7 ?_
      refine ex_iconst (pc := 215) 5 dX11_apart_215 rfl ?_
      obtain ⟨v36, ev36, h⟩ := ob_some h
      refine ex_rI (pc := 216) ev36 dX11_apart_216 ?_
      refine ex_iadd (pc := 217) dX11_apart_217 ?_
      obtain ⟨v37, ev37, h⟩ := ob_some h
      refine ex_rI (pc := 218) ev37 dX11_apart_218 ?_
      cases h
      exact ex_ireturn (pc := 219) dX11_apart_219
    · rw [if_neg c31] at h
      refine ex_icmp_gt_f (pc := 9) dX11_apart_9 198 rfl c31 ?_
      refine ex_iconst (pc := 12) 0 dX11_apart_12 rfl ?_
      refine ex_istore_n (pc := 13) [(2, .int 0), (0, .ref x0), (1, .int x1)] dX11_apart_13 rfl (by decide) rfl ?_
      refine ex_sub (lo' := [(0, .ref x0), (1, .int x1), (2, .int 0)]) [1, 2, 0] rfl ?_
      exact t_X11_apart_14 hd ih _ _ _ _ _ _  h
noncomputable def f_X11_apart_0 (x0 : Nat) (M : Mem) : Option (Int32 × Mem) :=
  f_X11_apart_2 fu x0 0 M
set_option maxHeartbeats 4000000 in
theorem t_X11_apart_0 {X : XV} {d : Nat} (hd : 1 ≤ d + 1) : ∀ (x0 : Nat) (M : Mem) (res : Int32 × Mem), f_X11_apart_0  x0 M = some res → Ex X (d + 1) mX11_apart 0 [(0, .ref x0)] [] M (some (.int res.1)) res.2 := by
  intro x0 M res  h
  unfold f_X11_apart_0 at h
  refine ex_iconst (pc := 0) 0 dX11_apart_0 rfl ?_
  refine ex_istore_n (pc := 1) [(1, .int 0), (0, .ref x0)] dX11_apart_1 rfl (by decide) rfl ?_
  refine ex_sub (lo' := [(0, .ref x0), (1, .int 0)]) [1, 0] rfl ?_
  exact t_X11_apart_2 hd  _ _ _ _ _  h
noncomputable def f_X11_apart (x0 : Nat) (M : Mem) : Option (Int32 × Mem) := if isOb M 11 x0 = true then f_X11_apart_0 x0 M else none
theorem o_X11_apart {x0 : Nat} {M : Mem} {res : Int32 × Mem} (h : f_X11_apart x0 M = some res) : isO M 11 x0 := by
  unfold f_X11_apart at h
  split at h
  · rename_i hc; exact isOb_iff hc
  · cases h
set_option maxHeartbeats 4000000 in
theorem s_X11_apart {X : XV} {d : Nat} (hd : 1 ≤ d) {x0 : Nat} {M : Mem} {res : Int32 × Mem} (h : f_X11_apart x0 M = some res) : Mx X d mX11_apart [.ref x0] M (some (.int res.1)) res.2 := by
  obtain ⟨d, rfl⟩ : ∃ e, d = e + 1 := ⟨d - 1, by omega⟩
  unfold f_X11_apart at h
  split at h
  rotate_left
  · cases h
  refine Mx.of (by decide) (Nat.le_of_ble_eq_true rfl) (⟨_, rfl, rfl⟩) ?_
  exact ex_sub (lo' := [(0, .ref x0)]) [0] rfl (t_X11_apart_0 hd _ _ _  h)
noncomputable def f_X11_grows_114 (n0 : Nat) (k72 : Nat → Int32 → Int32 → Mem → Option (Int32 × Mem)) (k104 : Nat → Int32 → Int32 → Int32 → Mem → Option (Int32 × Mem)) (x0 : Nat) (x2 : Int32) (x3 : Int32) (x4 : Int32) (x5 : Int32) (M : Mem) : Option (Int32 × Mem) :=
  match n0 with
  | 0 => none
  | n + 1 =>
    (f_X11_ruleOf x0 x4 0 M).bind fun v1 =>
    (f_X11_wordLong v1).bind fun v2 =>
    if v2 ≤ x5 then
    (k104 x0 x2 x3 (x4 + 1) M)
    else
    ((gR M 11 x0 32).bind fun v4 =>
    (f_X11_ruleOf x0 x4 0 M).bind fun v5 =>
    (f_X11_wordDigit v5 x5).bind fun v6 =>
    (rI M v4 v6).bind fun v7 =>
    (gR M 11 x0 31).bind fun v8 =>
    (rI M v8 x4).bind fun v9 =>
    (wI M v4 v6 (v7 + v9)).bind fun q10 =>
    f_X11_grows_114 n k72 k104 x0 x2 x3 x4 (x5 + 1) q10)
set_option maxHeartbeats 4000000 in
theorem t_X11_grows_114 {X : XV} {d : Nat} (hd : 3 ≤ d + 1) {k72 : Nat → Int32 → Int32 → Mem → Option (Int32 × Mem)} (hk72 : ∀ (x0 : Nat) (x2 : Int32) (x3 : Int32) (M : Mem) (res : Int32 × Mem), k72 x0 x2 x3 M = some res → Ex X (d + 1) mX11_grows 72 [(0, .ref x0), (2, .int x2), (3, .int x3)] [] M (some (.int res.1)) res.2) {k104 : Nat → Int32 → Int32 → Int32 → Mem → Option (Int32 × Mem)} (hk104 : ∀ (x0 : Nat) (x2 : Int32) (x3 : Int32) (x4 : Int32) (M : Mem) (res : Int32 × Mem), k104 x0 x2 x3 x4 M = some res → Ex X (d + 1) mX11_grows 104 [(0, .ref x0), (2, .int x2), (3, .int x3), (4, .int x4)] [] M (some (.int res.1)) res.2) : ∀ (n : Nat) (x0 : Nat) (x2 : Int32) (x3 : Int32) (x4 : Int32) (x5 : Int32) (M : Mem) (res : Int32 × Mem), f_X11_grows_114 n k72 k104 x0 x2 x3 x4 x5 M = some res → Ex X (d + 1) mX11_grows 114 [(0, .ref x0), (2, .int x2), (3, .int x3), (4, .int x4), (5, .int x5)] [] M (some (.int res.1)) res.2 := by
  intro n
  induction n with
  | zero =>
    intro x0 x2 x3 x4 x5 M res  h
    unfold f_X11_grows_114 at h
    cases h
  | succ n ih =>
    intro x0 x2 x3 x4 x5 M res  h
    unfold f_X11_grows_114 at h
    refine ex_iload (pc := 114) 4 dX11_grows_114 rfl ?_
    refine ex_aload_n (pc := 116) 0 dX11_grows_116 rfl rfl ?_
    refine ex_iload (pc := 117) 3 dX11_grows_117 rfl ?_
    refine ex_iconst (pc := 119) 0 dX11_grows_119 rfl ?_
    obtain ⟨v1, ev1, h⟩ := ob_some h
    refine ex_callV2r (pc := 120) dX11_grows_120 jX11_ruleOf lmX11_350 jiX11_ruleOf jvX11_ruleOf (o_X11_ruleOf ev1) rfl (Nat.le_of_ble_eq_true rfl) (s_X11_ruleOf (by omega)  ev1) ?_
    obtain ⟨v2, ev2, h⟩ := ob_some h
    refine ex_callS1r (pc := 123) dX11_grows_123 jX11_wordLong lmX11_332 jsX11_wordLong (Nat.le_of_ble_eq_true rfl) (s_X11_wordLong (by omega)  ev2) ?_
    by_cases c3 : v2 ≤ x5
    · rw [if_pos c3] at h
      refine ex_icmp_ge_t (pc := 126) 162 dX11_grows_126 rfl c3 ?_
      refine ex_iinc (pc := 162) (x4 + 1) 3 [(4, .int (x4 + 1)), (0, .ref x0), (2, .int x2), (3, .int x3), (5, .int x5)] dX11_grows_162 rfl rfl (by decide) rfl ?_
      refine ex_goto (pc := 165) 104 dX11_grows_165 rfl ?_
      refine ex_sub (lo' := [(0, .ref x0), (2, .int x2), (3, .int x3), (4, .int (x4 + 1))]) [1, 2, 3, 0] rfl ?_
      exact hk104 _ _ _ _ _ _  h
    · rw [if_neg c3] at h
      refine ex_icmp_ge_f (pc := 126) dX11_grows_126 162 rfl c3 ?_
      refine ex_aload_n (pc := 129) 0 dX11_grows_129 rfl rfl ?_
      obtain ⟨v4, ev4, h⟩ := ob_some h
      refine ex_gR (pc := 130) ev4 dX11_grows_130 lfX11_68 ?_
      refine ex_aload_n (pc := 133) 0 dX11_grows_133 rfl rfl ?_
      refine ex_iload (pc := 134) 3 dX11_grows_134 rfl ?_
      refine ex_iconst (pc := 136) 0 dX11_grows_136 rfl ?_
      obtain ⟨v5, ev5, h⟩ := ob_some h
      refine ex_callV2r (pc := 137) dX11_grows_137 jX11_ruleOf lmX11_350 jiX11_ruleOf jvX11_ruleOf (o_X11_ruleOf ev5) rfl (Nat.le_of_ble_eq_true rfl) (s_X11_ruleOf (by omega)  ev5) ?_
      refine ex_iload (pc := 140) 4 dX11_grows_140 rfl ?_
      obtain ⟨v6, ev6, h⟩ := ob_some h
      refine ex_callS2r (pc := 142) dX11_grows_142 jX11_wordDigit lmX11_335 jsX11_wordDigit (Nat.le_of_ble_eq_true rfl) (s_X11_wordDigit (by omega)  ev6) ?_
      refine ex_dup2 (pc := 145) dX11_grows_145 rfl rfl ?_
      obtain ⟨v7, ev7, h⟩ := ob_some h
      refine ex_rI (pc := 146) ev7 dX11_grows_146 ?_
      refine ex_aload_n (pc := 147) 0 dX11_grows_147 rfl rfl ?_
      obtain ⟨v8, ev8, h⟩ := ob_some h
      refine ex_gR (pc := 148) ev8 dX11_grows_148 lfX11_65 ?_
      refine ex_iload (pc := 151) 3 dX11_grows_151 rfl ?_
      obtain ⟨v9, ev9, h⟩ := ob_some h
      refine ex_rI (pc := 153) ev9 dX11_grows_153 ?_
      refine ex_iadd (pc := 154) dX11_grows_154 ?_
      obtain ⟨q10, eq10, h⟩ := ob_some h
      refine ex_wI (pc := 155) eq10 dX11_grows_155 ?_
      refine ex_iinc (pc := 156) (x5 + 1) 4 [(5, .int (x5 + 1)), (0, .ref x0), (2, .int x2), (3, .int x3), (4, .int x4)] dX11_grows_156 rfl rfl (by decide) rfl ?_
      refine ex_goto (pc := 159) 114 dX11_grows_159 rfl ?_
      refine ex_sub (lo' := [(0, .ref x0), (2, .int x2), (3, .int x3), (4, .int x4), (5, .int (x5 + 1))]) [1, 2, 3, 4, 0] rfl ?_
      exact ih _ _ _ _ _ _ _  h
noncomputable def f_X11_grows_171 (n0 : Nat) (k72 : Nat → Int32 → Int32 → Mem → Option (Int32 × Mem)) (x0 : Nat) (x2 : Int32) (x3 : Int32) (x4 : Int32) (M : Mem) : Option (Int32 × Mem) :=
  match n0 with
  | 0 => none
  | n + 1 =>
    if 10 ≤ x4 then
    (k72 x0 x2 (x3 + 1) M)
    else
    ((gR M 11 x0 31).bind fun v12 =>
    (gR M 11 x0 32).bind fun v13 =>
    (rI M v13 x4).bind fun v14 =>
    (wI M v12 x4 v14).bind fun q15 =>
    f_X11_grows_171 n k72 x0 x2 x3 (x4 + 1) q15)
set_option maxHeartbeats 4000000 in
theorem t_X11_grows_171 {X : XV} {d : Nat} (hd : 3 ≤ d + 1) {k72 : Nat → Int32 → Int32 → Mem → Option (Int32 × Mem)} (hk72 : ∀ (x0 : Nat) (x2 : Int32) (x3 : Int32) (M : Mem) (res : Int32 × Mem), k72 x0 x2 x3 M = some res → Ex X (d + 1) mX11_grows 72 [(0, .ref x0), (2, .int x2), (3, .int x3)] [] M (some (.int res.1)) res.2) : ∀ (n : Nat) (x0 : Nat) (x2 : Int32) (x3 : Int32) (x4 : Int32) (M : Mem) (res : Int32 × Mem), f_X11_grows_171 n k72 x0 x2 x3 x4 M = some res → Ex X (d + 1) mX11_grows 171 [(0, .ref x0), (2, .int x2), (3, .int x3), (4, .int x4)] [] M (some (.int res.1)) res.2 := by
  intro n
  induction n with
  | zero =>
    intro x0 x2 x3 x4 M res  h
    unfold f_X11_grows_171 at h
    cases h
  | succ n ih =>
    intro x0 x2 x3 x4 M res  h
    unfold f_X11_grows_171 at h
    refine ex_iload (pc := 171) 3 dX11_grows_171 rfl ?_
    refine ex_bipush (pc := 173) 10 dX11_grows_173 (by decide) ?_
    by_cases c11 : 10 ≤ x4
    · rw [if_pos c11] at h
      refine ex_icmp_ge_t (pc := 175) 198 dX11_grows_175 rfl c11 ?_
      refine ex_iinc (pc := 198) (x3 + 1) 2 [(3, .int (x3 + 1)), (0, .ref x0), (2, .int x2), (4, .int x4)] dX11_grows_198 rfl rfl (by decide) rfl ?_
      refine ex_goto (pc := 201) 72 dX11_grows_201 rfl ?_
      refine ex_sub (lo' := [(0, .ref x0), (2, .int x2), (3, .int (x3 + 1))]) [1, 2, 0] rfl ?_
      exact hk72 _ _ _ _ _  h
    · rw [if_neg c11] at h
      refine ex_icmp_ge_f (pc := 175) dX11_grows_175 198 rfl c11 ?_
      refine ex_aload_n (pc := 178) 0 dX11_grows_178 rfl rfl ?_
      obtain ⟨v12, ev12, h⟩ := ob_some h
      refine ex_gR (pc := 179) ev12 dX11_grows_179 lfX11_65 ?_
      refine ex_iload (pc := 182) 3 dX11_grows_182 rfl ?_
      refine ex_aload_n (pc := 184) 0 dX11_grows_184 rfl rfl ?_
      obtain ⟨v13, ev13, h⟩ := ob_some h
      refine ex_gR (pc := 185) ev13 dX11_grows_185 lfX11_68 ?_
      refine ex_iload (pc := 188) 3 dX11_grows_188 rfl ?_
      obtain ⟨v14, ev14, h⟩ := ob_some h
      refine ex_rI (pc := 190) ev14 dX11_grows_190 ?_
      obtain ⟨q15, eq15, h⟩ := ob_some h
      refine ex_wI (pc := 191) eq15 dX11_grows_191 ?_
      refine ex_iinc (pc := 192) (x4 + 1) 3 [(4, .int (x4 + 1)), (0, .ref x0), (2, .int x2), (3, .int x3)] dX11_grows_192 rfl rfl (by decide) rfl ?_
      refine ex_goto (pc := 195) 171 dX11_grows_195 rfl ?_
      refine ex_sub (lo' := [(0, .ref x0), (2, .int x2), (3, .int x3), (4, .int (x4 + 1))]) [1, 2, 3, 0] rfl ?_
      exact ih _ _ _ _ _ _  h
noncomputable def f_X11_grows_104 (n0 : Nat) (k72 : Nat → Int32 → Int32 → Mem → Option (Int32 × Mem)) (x0 : Nat) (x2 : Int32) (x3 : Int32) (x4 : Int32) (M : Mem) : Option (Int32 × Mem) :=
  match n0 with
  | 0 => none
  | n + 1 =>
    if 10 ≤ x4 then
    (f_X11_grows_171 fu k72 x0 x2 x3 0 M)
    else
    (f_X11_grows_114 fu k72 (f_X11_grows_104 n k72) x0 x2 x3 x4 0 M)
set_option maxHeartbeats 4000000 in
theorem t_X11_grows_104 {X : XV} {d : Nat} (hd : 3 ≤ d + 1) {k72 : Nat → Int32 → Int32 → Mem → Option (Int32 × Mem)} (hk72 : ∀ (x0 : Nat) (x2 : Int32) (x3 : Int32) (M : Mem) (res : Int32 × Mem), k72 x0 x2 x3 M = some res → Ex X (d + 1) mX11_grows 72 [(0, .ref x0), (2, .int x2), (3, .int x3)] [] M (some (.int res.1)) res.2) : ∀ (n : Nat) (x0 : Nat) (x2 : Int32) (x3 : Int32) (x4 : Int32) (M : Mem) (res : Int32 × Mem), f_X11_grows_104 n k72 x0 x2 x3 x4 M = some res → Ex X (d + 1) mX11_grows 104 [(0, .ref x0), (2, .int x2), (3, .int x3), (4, .int x4)] [] M (some (.int res.1)) res.2 := by
  intro n
  induction n with
  | zero =>
    intro x0 x2 x3 x4 M res  h
    unfold f_X11_grows_104 at h
    cases h
  | succ n ih =>
    intro x0 x2 x3 x4 M res  h
    unfold f_X11_grows_104 at h
    refine ex_iload (pc := 104) 3 dX11_grows_104 rfl ?_
    refine ex_bipush (pc := 106) 10 dX11_grows_106 (by decide) ?_
    by_cases c16 : 10 ≤ x4
    · rw [if_pos c16] at h
      refine ex_icmp_ge_t (pc := 108) 168 dX11_grows_108 rfl c16 ?_
      refine ex_iconst (pc := 168) 0 dX11_grows_168 rfl ?_
      refine ex_istore (pc := 169) [(4, .int 0), (0, .ref x0), (2, .int x2), (3, .int x3)] dX11_grows_169 (by decide) rfl ?_
      refine ex_sub (lo' := [(0, .ref x0), (2, .int x2), (3, .int x3), (4, .int 0)]) [1, 2, 3, 0] rfl ?_
      exact t_X11_grows_171 hd hk72 _ _ _ _ _ _ _  h
    · rw [if_neg c16] at h
      refine ex_icmp_ge_f (pc := 108) dX11_grows_108 168 rfl c16 ?_
      refine ex_iconst (pc := 111) 0 dX11_grows_111 rfl ?_
      refine ex_istore (pc := 112) [(5, .int 0), (0, .ref x0), (2, .int x2), (3, .int x3), (4, .int x4)] dX11_grows_112 (by decide) rfl ?_
      refine ex_sub (lo' := [(0, .ref x0), (2, .int x2), (3, .int x3), (4, .int x4), (5, .int 0)]) [1, 2, 3, 4, 0] rfl ?_
      exact t_X11_grows_114 hd hk72 ih _ _ _ _ _ _ _ _  h
noncomputable def f_X11_grows_80 (n0 : Nat) (k72 : Nat → Int32 → Int32 → Mem → Option (Int32 × Mem)) (x0 : Nat) (x2 : Int32) (x3 : Int32) (x4 : Int32) (M : Mem) : Option (Int32 × Mem) :=
  match n0 with
  | 0 => none
  | n + 1 =>
    if 10 ≤ x4 then
    (f_X11_grows_104 fu k72 x0 x2 x3 0 M)
    else
    ((gR M 11 x0 32).bind fun v18 =>
    (wI M v18 x4 0).bind fun q19 =>
    f_X11_grows_80 n k72 x0 x2 x3 (x4 + 1) q19)
set_option maxHeartbeats 4000000 in
theorem t_X11_grows_80 {X : XV} {d : Nat} (hd : 3 ≤ d + 1) {k72 : Nat → Int32 → Int32 → Mem → Option (Int32 × Mem)} (hk72 : ∀ (x0 : Nat) (x2 : Int32) (x3 : Int32) (M : Mem) (res : Int32 × Mem), k72 x0 x2 x3 M = some res → Ex X (d + 1) mX11_grows 72 [(0, .ref x0), (2, .int x2), (3, .int x3)] [] M (some (.int res.1)) res.2) : ∀ (n : Nat) (x0 : Nat) (x2 : Int32) (x3 : Int32) (x4 : Int32) (M : Mem) (res : Int32 × Mem), f_X11_grows_80 n k72 x0 x2 x3 x4 M = some res → Ex X (d + 1) mX11_grows 80 [(0, .ref x0), (2, .int x2), (3, .int x3), (4, .int x4)] [] M (some (.int res.1)) res.2 := by
  intro n
  induction n with
  | zero =>
    intro x0 x2 x3 x4 M res  h
    unfold f_X11_grows_80 at h
    cases h
  | succ n ih =>
    intro x0 x2 x3 x4 M res  h
    unfold f_X11_grows_80 at h
    refine ex_iload (pc := 80) 3 dX11_grows_80 rfl ?_
    refine ex_bipush (pc := 82) 10 dX11_grows_82 (by decide) ?_
    by_cases c17 : 10 ≤ x4
    · rw [if_pos c17] at h
      refine ex_icmp_ge_t (pc := 84) 101 dX11_grows_84 rfl c17 ?_
      refine ex_iconst (pc := 101) 0 dX11_grows_101 rfl ?_
      refine ex_istore (pc := 102) [(4, .int 0), (0, .ref x0), (2, .int x2), (3, .int x3)] dX11_grows_102 (by decide) rfl ?_
      refine ex_sub (lo' := [(0, .ref x0), (2, .int x2), (3, .int x3), (4, .int 0)]) [1, 2, 3, 0] rfl ?_
      exact t_X11_grows_104 hd hk72 _ _ _ _ _ _ _  h
    · rw [if_neg c17] at h
      refine ex_icmp_ge_f (pc := 84) dX11_grows_84 101 rfl c17 ?_
      refine ex_aload_n (pc := 87) 0 dX11_grows_87 rfl rfl ?_
      obtain ⟨v18, ev18, h⟩ := ob_some h
      refine ex_gR (pc := 88) ev18 dX11_grows_88 lfX11_68 ?_
      refine ex_iload (pc := 91) 3 dX11_grows_91 rfl ?_
      refine ex_iconst (pc := 93) 0 dX11_grows_93 rfl ?_
      obtain ⟨q19, eq19, h⟩ := ob_some h
      refine ex_wI (pc := 94) eq19 dX11_grows_94 ?_
      refine ex_iinc (pc := 95) (x4 + 1) 3 [(4, .int (x4 + 1)), (0, .ref x0), (2, .int x2), (3, .int x3)] dX11_grows_95 rfl rfl (by decide) rfl ?_
      refine ex_goto (pc := 98) 80 dX11_grows_98 rfl ?_
      refine ex_sub (lo' := [(0, .ref x0), (2, .int x2), (3, .int x3), (4, .int (x4 + 1))]) [1, 2, 3, 0] rfl ?_
      exact ih _ _ _ _ _ _  h
noncomputable def f_X11_grows_209 (n0 : Nat) (x0 : Nat) (x3 : Int32) (x4 : Int32) (M : Mem) : Option (Int32 × Mem) :=
  match n0 with
  | 0 => none
  | n + 1 =>
    if 10 ≤ x4 then
    (if x3 ≤ 9999 then
    (some (x3, M))
    else
    (some (9999, M)))
    else
    ((gR M 11 x0 31).bind fun v22 =>
    (rI M v22 x4).bind fun v23 =>
    f_X11_grows_209 n x0 (x3 + v23) (x4 + 1) M)
set_option maxHeartbeats 4000000 in
theorem t_X11_grows_209 {X : XV} {d : Nat} (hd : 3 ≤ d + 1) : ∀ (n : Nat) (x0 : Nat) (x3 : Int32) (x4 : Int32) (M : Mem) (res : Int32 × Mem), f_X11_grows_209 n  x0 x3 x4 M = some res → Ex X (d + 1) mX11_grows 209 [(0, .ref x0), (3, .int x3), (4, .int x4)] [] M (some (.int res.1)) res.2 := by
  intro n
  induction n with
  | zero =>
    intro x0 x3 x4 M res  h
    unfold f_X11_grows_209 at h
    cases h
  | succ n ih =>
    intro x0 x3 x4 M res  h
    unfold f_X11_grows_209 at h
    refine ex_iload (pc := 209) 2 dX11_grows_209 rfl ?_
    refine ex_bipush (pc := 211) 10 dX11_grows_211 (by decide) ?_
    by_cases c20 : 10 ≤ x4
    · rw [if_pos c20] at h
      refine ex_icmp_ge_t (pc := 213) 232 dX11_grows_213 rfl c20 ?_
      refine ex_iload_n (pc := 232) 1 dX11_grows_232 rfl rfl ?_
      refine ex_sipush (pc := 233) 9999 dX11_grows_233 (by decide) ?_
      by_cases c21 : x3 ≤ 9999
      · rw [if_pos c21] at h
        refine ex_icmp_le_t (pc := 236) 245 dX11_grows_236 rfl c21 ?_
        refine ex_iload_n (pc := 245) 1 dX11_grows_245 rfl rfl ?_
        cases h
        exact ex_ireturn (pc := 246) dX11_grows_246
      · rw [if_neg c21] at h
        refine ex_icmp_le_f (pc := 236) dX11_grows_236 245 rfl c21 ?_
        refine ex_sipush (pc := 239) 9999 dX11_grows_239 (by decide) ?_
        refine ex_goto (pc := 242) 246 dX11_grows_242 rfl ?_
        cases h
        exact ex_ireturn (pc := 246) dX11_grows_246
    · rw [if_neg c20] at h
      refine ex_icmp_ge_f (pc := 213) dX11_grows_213 232 rfl c20 ?_
      refine ex_iload_n (pc := 216) 1 dX11_grows_216 rfl rfl ?_
      refine ex_aload_n (pc := 217) 0 dX11_grows_217 rfl rfl ?_
      obtain ⟨v22, ev22, h⟩ := ob_some h
      refine ex_gR (pc := 218) ev22 dX11_grows_218 lfX11_65 ?_
      refine ex_iload (pc := 221) 2 dX11_grows_221 rfl ?_
      obtain ⟨v23, ev23, h⟩ := ob_some h
      refine ex_rI (pc := 223) ev23 dX11_grows_223 ?_
      refine ex_iadd (pc := 224) dX11_grows_224 ?_
      refine ex_istore_n (pc := 225) [(3, .int (x3 + v23)), (0, .ref x0), (4, .int x4)] dX11_grows_225 rfl (by decide) rfl ?_
      refine ex_iinc (pc := 226) (x4 + 1) 2 [(4, .int (x4 + 1)), (3, .int (x3 + v23)), (0, .ref x0)] dX11_grows_226 rfl rfl (by decide) rfl ?_
      refine ex_goto (pc := 229) 209 dX11_grows_229 rfl ?_
      refine ex_sub (lo' := [(0, .ref x0), (3, .int (x3 + v23)), (4, .int (x4 + 1))]) [2, 1, 0] rfl ?_
      exact ih _ _ _ _ _  h
noncomputable def f_X11_grows_72 (n0 : Nat) (x0 : Nat) (x2 : Int32) (x3 : Int32) (M : Mem) : Option (Int32 × Mem) :=
  match n0 with
  | 0 => none
  | n + 1 =>
    if x2 ≤ x3 then
    (f_X11_grows_209 fu x0 0 0 M)
    else
    (f_X11_grows_80 fu (f_X11_grows_72 n) x0 x2 x3 0 M)
set_option maxHeartbeats 4000000 in
theorem t_X11_grows_72 {X : XV} {d : Nat} (hd : 3 ≤ d + 1) : ∀ (n : Nat) (x0 : Nat) (x2 : Int32) (x3 : Int32) (M : Mem) (res : Int32 × Mem), f_X11_grows_72 n  x0 x2 x3 M = some res → Ex X (d + 1) mX11_grows 72 [(0, .ref x0), (2, .int x2), (3, .int x3)] [] M (some (.int res.1)) res.2 := by
  intro n
  induction n with
  | zero =>
    intro x0 x2 x3 M res  h
    unfold f_X11_grows_72 at h
    cases h
  | succ n ih =>
    intro x0 x2 x3 M res  h
    unfold f_X11_grows_72 at h
    refine ex_iload_n (pc := 72) 2 dX11_grows_72 rfl rfl ?_
    refine ex_iload_n (pc := 73) 1 dX11_grows_73 rfl rfl ?_
    by_cases c24 : x2 ≤ x3
    · rw [if_pos c24] at h
      refine ex_icmp_ge_t (pc := 74) 204 dX11_grows_74 rfl c24 ?_
      refine ex_iconst (pc := 204) 0 dX11_grows_204 rfl ?_
      refine ex_istore_n (pc := 205) [(3, .int 0), (0, .ref x0), (2, .int x2)] dX11_grows_205 rfl (by decide) rfl ?_
      refine ex_iconst (pc := 206) 0 dX11_grows_206 rfl ?_
      refine ex_istore (pc := 207) [(4, .int 0), (3, .int 0), (0, .ref x0), (2, .int x2)] dX11_grows_207 (by decide) rfl ?_
      refine ex_sub (lo' := [(0, .ref x0), (3, .int 0), (4, .int 0)]) [2, 1, 0] rfl ?_
      exact t_X11_grows_209 hd  _ _ _ _ _ _  h
    · rw [if_neg c24] at h
      refine ex_icmp_ge_f (pc := 74) dX11_grows_74 204 rfl c24 ?_
      refine ex_iconst (pc := 77) 0 dX11_grows_77 rfl ?_
      refine ex_istore (pc := 78) [(4, .int 0), (0, .ref x0), (2, .int x2), (3, .int x3)] dX11_grows_78 (by decide) rfl ?_
      refine ex_sub (lo' := [(0, .ref x0), (2, .int x2), (3, .int x3), (4, .int 0)]) [1, 2, 3, 0] rfl ?_
      exact t_X11_grows_80 hd ih _ _ _ _ _ _ _  h
noncomputable def f_X11_grows_42 (n0 : Nat) (x0 : Nat) (x1 : Int32) (x2 : Int32) (x3 : Int32) (M : Mem) : Option (Int32 × Mem) :=
  match n0 with
  | 0 => none
  | n + 1 =>
    (f_X11_longOf x1).bind fun v25 =>
    if v25 ≤ x3 then
    (f_X11_grows_72 fu x0 x2 0 M)
    else
    ((gR M 11 x0 31).bind fun v27 =>
    (f_X11_digitOf x1 x3).bind fun v28 =>
    (rI M v27 v28).bind fun v29 =>
    (wI M v27 v28 (v29 + 1)).bind fun q30 =>
    f_X11_grows_42 n x0 x1 x2 (x3 + 1) q30)
set_option maxHeartbeats 4000000 in
theorem t_X11_grows_42 {X : XV} {d : Nat} (hd : 3 ≤ d + 1) : ∀ (n : Nat) (x0 : Nat) (x1 : Int32) (x2 : Int32) (x3 : Int32) (M : Mem) (res : Int32 × Mem), f_X11_grows_42 n  x0 x1 x2 x3 M = some res → Ex X (d + 1) mX11_grows 42 [(0, .ref x0), (1, .int x1), (2, .int x2), (3, .int x3)] [] M (some (.int res.1)) res.2 := by
  intro n
  induction n with
  | zero =>
    intro x0 x1 x2 x3 M res  h
    unfold f_X11_grows_42 at h
    cases h
  | succ n ih =>
    intro x0 x1 x2 x3 M res  h
    unfold f_X11_grows_42 at h
    refine ex_iload_n (pc := 42) 3 dX11_grows_42 rfl rfl ?_
    refine ex_iload_n (pc := 43) 1 dX11_grows_43 rfl rfl ?_
    obtain ⟨v25, ev25, h⟩ := ob_some h
    refine ex_callS1r (pc := 44) dX11_grows_44 jX11_longOf lmX11_91 jsX11_longOf (Nat.le_of_ble_eq_true rfl) (s_X11_longOf (by omega)  ev25) ?_
    by_cases c26 : v25 ≤ x3
    · rw [if_pos c26] at h
      refine ex_icmp_ge_t (pc := 47) 70 dX11_grows_47 rfl c26 ?_
      refine ex_iconst (pc := 70) 0 dX11_grows_70 rfl ?_
      refine ex_istore_n (pc := 71) [(3, .int 0), (0, .ref x0), (1, .int x1), (2, .int x2)] dX11_grows_71 rfl (by decide) rfl ?_
      refine ex_sub (lo' := [(0, .ref x0), (2, .int x2), (3, .int 0)]) [1, 3, 0] rfl ?_
      exact t_X11_grows_72 hd  _ _ _ _ _ _  h
    · rw [if_neg c26] at h
      refine ex_icmp_ge_f (pc := 47) dX11_grows_47 70 rfl c26 ?_
      refine ex_aload_n (pc := 50) 0 dX11_grows_50 rfl rfl ?_
      obtain ⟨v27, ev27, h⟩ := ob_some h
      refine ex_gR (pc := 51) ev27 dX11_grows_51 lfX11_65 ?_
      refine ex_iload_n (pc := 54) 1 dX11_grows_54 rfl rfl ?_
      refine ex_iload_n (pc := 55) 3 dX11_grows_55 rfl rfl ?_
      obtain ⟨v28, ev28, h⟩ := ob_some h
      refine ex_callS2r (pc := 56) dX11_grows_56 jX11_digitOf lmX11_344 jsX11_digitOf (Nat.le_of_ble_eq_true rfl) (s_X11_digitOf (by omega)  ev28) ?_
      refine ex_dup2 (pc := 59) dX11_grows_59 rfl rfl ?_
      obtain ⟨v29, ev29, h⟩ := ob_some h
      refine ex_rI (pc := 60) ev29 dX11_grows_60 ?_
      refine ex_iconst (pc := 61) 1 dX11_grows_61 rfl ?_
      refine ex_iadd (pc := 62) dX11_grows_62 ?_
      obtain ⟨q30, eq30, h⟩ := ob_some h
      refine ex_wI (pc := 63) eq30 dX11_grows_63 ?_
      refine ex_iinc (pc := 64) (x3 + 1) 3 [(3, .int (x3 + 1)), (0, .ref x0), (1, .int x1), (2, .int x2)] dX11_grows_64 rfl rfl (by decide) rfl ?_
      refine ex_goto (pc := 67) 42 dX11_grows_67 rfl ?_
      refine ex_sub (lo' := [(0, .ref x0), (1, .int x1), (2, .int x2), (3, .int (x3 + 1))]) [1, 2, 3, 0] rfl ?_
      exact ih _ _ _ _ _ _  h
noncomputable def f_X11_grows_21 (n0 : Nat) (x0 : Nat) (x1 : Int32) (x2 : Int32) (x3 : Int32) (M : Mem) : Option (Int32 × Mem) :=
  match n0 with
  | 0 => none
  | n + 1 =>
    if 10 ≤ x3 then
    (f_X11_grows_42 fu x0 x1 x2 0 M)
    else
    ((gR M 11 x0 31).bind fun v32 =>
    (wI M v32 x3 0).bind fun q33 =>
    f_X11_grows_21 n x0 x1 x2 (x3 + 1) q33)
set_option maxHeartbeats 4000000 in
theorem t_X11_grows_21 {X : XV} {d : Nat} (hd : 3 ≤ d + 1) : ∀ (n : Nat) (x0 : Nat) (x1 : Int32) (x2 : Int32) (x3 : Int32) (M : Mem) (res : Int32 × Mem), f_X11_grows_21 n  x0 x1 x2 x3 M = some res → Ex X (d + 1) mX11_grows 21 [(0, .ref x0), (1, .int x1), (2, .int x2), (3, .int x3)] [] M (some (.int res.1)) res.2 := by
  intro n
  induction n with
  | zero =>
    intro x0 x1 x2 x3 M res  h
    unfold f_X11_grows_21 at h
    cases h
  | succ n ih =>
    intro x0 x1 x2 x3 M res  h
    unfold f_X11_grows_21 at h
    refine ex_iload_n (pc := 21) 3 dX11_grows_21 rfl rfl ?_
    refine ex_bipush (pc := 22) 10 dX11_grows_22 (by decide) ?_
    by_cases c31 : 10 ≤ x3
    · rw [if_pos c31] at h
      refine ex_icmp_ge_t (pc := 24) 40 dX11_grows_24 rfl c31 ?_
      refine ex_iconst (pc := 40) 0 dX11_grows_40 rfl ?_
      refine ex_istore_n (pc := 41) [(3, .int 0), (0, .ref x0), (1, .int x1), (2, .int x2)] dX11_grows_41 rfl (by decide) rfl ?_
      refine ex_sub (lo' := [(0, .ref x0), (1, .int x1), (2, .int x2), (3, .int 0)]) [1, 2, 3, 0] rfl ?_
      exact t_X11_grows_42 hd  _ _ _ _ _ _ _  h
    · rw [if_neg c31] at h
      refine ex_icmp_ge_f (pc := 24) dX11_grows_24 40 rfl c31 ?_
      refine ex_aload_n (pc := 27) 0 dX11_grows_27 rfl rfl ?_
      obtain ⟨v32, ev32, h⟩ := ob_some h
      refine ex_gR (pc := 28) ev32 dX11_grows_28 lfX11_65 ?_
      refine ex_iload_n (pc := 31) 3 dX11_grows_31 rfl rfl ?_
      refine ex_iconst (pc := 32) 0 dX11_grows_32 rfl ?_
      obtain ⟨q33, eq33, h⟩ := ob_some h
      refine ex_wI (pc := 33) eq33 dX11_grows_33 ?_
      refine ex_iinc (pc := 34) (x3 + 1) 3 [(3, .int (x3 + 1)), (0, .ref x0), (1, .int x1), (2, .int x2)] dX11_grows_34 rfl rfl (by decide) rfl ?_
      refine ex_goto (pc := 37) 21 dX11_grows_37 rfl ?_
      refine ex_sub (lo' := [(0, .ref x0), (1, .int x1), (2, .int x2), (3, .int (x3 + 1))]) [1, 2, 3, 0] rfl ?_
      exact ih _ _ _ _ _ _  h
noncomputable def f_X11_grows_0 (x0 : Nat) (x1 : Int32) (x2 : Int32) (M : Mem) : Option (Int32 × Mem) :=
  (f_X11_isNumber x1).bind fun v34 =>
  if v34 = false then
  (some ((-1), M))
  else
  ((f_X11_isIn x2 0 12).bind fun v36 =>
  if v36 = true then
  (f_X11_grows_21 fu x0 x1 x2 0 M)
  else
  (some ((-1), M)))
set_option maxHeartbeats 4000000 in
theorem t_X11_grows_0 {X : XV} {d : Nat} (hd : 3 ≤ d + 1) : ∀ (x0 : Nat) (x1 : Int32) (x2 : Int32) (M : Mem) (res : Int32 × Mem), f_X11_grows_0  x0 x1 x2 M = some res → Ex X (d + 1) mX11_grows 0 [(0, .ref x0), (1, .int x1), (2, .int x2)] [] M (some (.int res.1)) res.2 := by
  intro x0 x1 x2 M res  h
  unfold f_X11_grows_0 at h
  refine ex_iload_n (pc := 0) 1 dX11_grows_0 rfl rfl ?_
  obtain ⟨v34, ev34, h⟩ := ob_some h
  refine ex_callS1r (pc := 1) dX11_grows_1 jX11_isNumber lmX11_380 jsX11_isNumber (Nat.le_of_ble_eq_true rfl) (s_X11_isNumber (by omega)  ev34) ?_
  by_cases c35 : v34 = false
  · rw [if_pos c35] at h
    refine ex_if_eq_t (pc := 4) 17 dX11_grows_4 rfl (jz_eq_t c35) ?_
    refine ex_iconst (pc := 17) (-1) dX11_grows_17 rfl ?_
    cases h
    exact ex_ireturn (pc := 18) dX11_grows_18
  · rw [if_neg c35] at h
    refine ex_if_eq_f (pc := 4) dX11_grows_4 17 rfl (jz_eq_f c35) ?_
    refine ex_iload_n (pc := 7) 2 dX11_grows_7 rfl rfl ?_
    refine ex_iconst (pc := 8) 0 dX11_grows_8 rfl ?_
    refine ex_bipush (pc := 9) 12 dX11_grows_9 (by decide) ?_
    obtain ⟨v36, ev36, h⟩ := ob_some h
    refine ex_callS3r (pc := 11) dX11_grows_11 jX11_isIn lmX11_87 jsX11_isIn (Nat.le_of_ble_eq_true rfl) (s_X11_isIn (by omega)  ev36) ?_
    by_cases c37 : v36 = true
    · rw [if_pos c37] at h
      refine ex_if_ne_t (pc := 14) 19 dX11_grows_14 rfl (jz_ne_t c37) ?_
      refine ex_iconst (pc := 19) 0 dX11_grows_19 rfl ?_
      refine ex_istore_n (pc := 20) [(3, .int 0), (0, .ref x0), (1, .int x1), (2, .int x2)] dX11_grows_20 rfl (by decide) rfl ?_
      refine ex_sub (lo' := [(0, .ref x0), (1, .int x1), (2, .int x2), (3, .int 0)]) [1, 2, 3, 0] rfl ?_
      exact t_X11_grows_21 hd  _ _ _ _ _ _ _  h
    · rw [if_neg c37] at h
      refine ex_if_ne_f (pc := 14) dX11_grows_14 19 rfl (jz_ne_f c37) ?_
      refine ex_iconst (pc := 17) (-1) dX11_grows_17 rfl ?_
      cases h
      exact ex_ireturn (pc := 18) dX11_grows_18
noncomputable def f_X11_grows (x0 : Nat) (x1 : Int32) (x2 : Int32) (M : Mem) : Option (Int32 × Mem) := if isOb M 11 x0 = true then f_X11_grows_0 x0 x1 x2 M else none
theorem o_X11_grows {x0 : Nat} {x1 : Int32} {x2 : Int32} {M : Mem} {res : Int32 × Mem} (h : f_X11_grows x0 x1 x2 M = some res) : isO M 11 x0 := by
  unfold f_X11_grows at h
  split at h
  · rename_i hc; exact isOb_iff hc
  · cases h
set_option maxHeartbeats 4000000 in
theorem s_X11_grows {X : XV} {d : Nat} (hd : 3 ≤ d) {x0 : Nat} {x1 : Int32} {x2 : Int32} {M : Mem} {res : Int32 × Mem} (h : f_X11_grows x0 x1 x2 M = some res) : Mx X d mX11_grows [.ref x0, .int x1, .int x2] M (some (.int res.1)) res.2 := by
  obtain ⟨d, rfl⟩ : ∃ e, d = e + 1 := ⟨d - 1, by omega⟩
  unfold f_X11_grows at h
  split at h
  rotate_left
  · cases h
  refine Mx.of (by decide) (Nat.le_of_ble_eq_true rfl) (⟨_, rfl, rfl⟩) ?_
  exact ex_sub (lo' := [(0, .ref x0), (1, .int x1), (2, .int x2)]) [0, 1, 2] rfl (t_X11_grows_0 hd _ _ _ _ _  h)
noncomputable def f_X11_stays_65 (k4 : Nat → Bool → Int32 → Int32 → Mem → Option (Int32)) (k16 : Nat → Bool → Int32 → Int32 → Int32 → Int32 → Mem → Option (Int32)) (x0 : Nat) (x1 : Bool) (x2 : Int32) (x3 : Int32) (x5 : Int32) (s0 : Int32) (M : Mem) : Option (Int32) :=
  if s0 = x3 then
  (k16 x0 x1 (x2 ||| (jshl 1 x3)) x3 s0 (x5 + 1) M)
  else
  (k16 x0 x1 x2 x3 s0 (x5 + 1) M)
set_option maxHeartbeats 4000000 in
theorem t_X11_stays_65 {X : XV} {d : Nat} (hd : 2 ≤ d + 1) {k4 : Nat → Bool → Int32 → Int32 → Mem → Option (Int32)} (hk4 : ∀ (x0 : Nat) (x1 : Bool) (x2 : Int32) (x3 : Int32) (M : Mem) (res : Int32), k4 x0 x1 x2 x3 M = some res → Ex X (d + 1) mX11_stays 4 [(0, .ref x0), (1, .int (jz x1)), (2, .int x2), (3, .int x3)] [] M (some (.int res)) M) {k16 : Nat → Bool → Int32 → Int32 → Int32 → Int32 → Mem → Option (Int32)} (hk16 : ∀ (x0 : Nat) (x1 : Bool) (x2 : Int32) (x3 : Int32) (x4 : Int32) (x5 : Int32) (M : Mem) (res : Int32), k16 x0 x1 x2 x3 x4 x5 M = some res → Ex X (d + 1) mX11_stays 16 [(0, .ref x0), (1, .int (jz x1)), (2, .int x2), (3, .int x3), (4, .int x4), (5, .int x5)] [] M (some (.int res)) M) : ∀ (x0 : Nat) (x1 : Bool) (x2 : Int32) (x3 : Int32) (x5 : Int32) (s0 : Int32) (M : Mem) (res : Int32), f_X11_stays_65 k4 k16 x0 x1 x2 x3 x5 s0 M = some res → Ex X (d + 1) mX11_stays 65 [(0, .ref x0), (1, .int (jz x1)), (2, .int x2), (3, .int x3), (5, .int x5)] [.int s0] M (some (.int res)) M := by
  intro x0 x1 x2 x3 x5 s0 M res  h
  unfold f_X11_stays_65 at h
  refine ex_istore (pc := 65) [(4, .int s0), (0, .ref x0), (1, .int (jz x1)), (2, .int x2), (3, .int x3), (5, .int x5)] dX11_stays_65 (by decide) rfl ?_
  refine ex_iload (pc := 67) 0 dX11_stays_67 rfl ?_
  refine ex_iload_n (pc := 69) 4 dX11_stays_69 rfl rfl ?_
  by_cases c1 : s0 = x3
  · rw [if_pos c1] at h
    refine ex_icmp_ne_f (pc := 70) dX11_stays_70 79 rfl c1 ?_
    refine ex_iload_n (pc := 73) 3 dX11_stays_73 rfl rfl ?_
    refine ex_iconst (pc := 74) 1 dX11_stays_74 rfl ?_
    refine ex_iload_n (pc := 75) 4 dX11_stays_75 rfl rfl ?_
    refine ex_ishl (pc := 76) dX11_stays_76 ?_
    refine ex_ior (pc := 77) dX11_stays_77 ?_
    refine ex_istore_n (pc := 78) [(2, .int (x2 ||| (jshl 1 x3))), (4, .int s0), (0, .ref x0), (1, .int (jz x1)), (3, .int x3), (5, .int x5)] dX11_stays_78 rfl (by decide) rfl ?_
    refine ex_iinc (pc := 79) (x5 + 1) 5 [(5, .int (x5 + 1)), (2, .int (x2 ||| (jshl 1 x3))), (4, .int s0), (0, .ref x0), (1, .int (jz x1)), (3, .int x3)] dX11_stays_79 rfl rfl (by decide) rfl ?_
    refine ex_goto (pc := 82) 16 dX11_stays_82 rfl ?_
    refine ex_sub (lo' := [(0, .ref x0), (1, .int (jz x1)), (2, .int (x2 ||| (jshl 1 x3))), (3, .int x3), (4, .int s0), (5, .int (x5 + 1))]) [3, 4, 1, 5, 2, 0] rfl ?_
    exact hk16 _ _ _ _ _ _ _ _  h
  · rw [if_neg c1] at h
    refine ex_icmp_ne_t (pc := 70) 79 dX11_stays_70 rfl c1 ?_
    refine ex_iinc (pc := 79) (x5 + 1) 5 [(5, .int (x5 + 1)), (4, .int s0), (0, .ref x0), (1, .int (jz x1)), (2, .int x2), (3, .int x3)] dX11_stays_79 rfl rfl (by decide) rfl ?_
    refine ex_goto (pc := 82) 16 dX11_stays_82 rfl ?_
    refine ex_sub (lo' := [(0, .ref x0), (1, .int (jz x1)), (2, .int x2), (3, .int x3), (4, .int s0), (5, .int (x5 + 1))]) [2, 3, 4, 5, 1, 0] rfl ?_
    exact hk16 _ _ _ _ _ _ _ _  h
noncomputable def f_X11_stays_41 (k4 : Nat → Bool → Int32 → Int32 → Mem → Option (Int32)) (k16 : Nat → Bool → Int32 → Int32 → Int32 → Int32 → Mem → Option (Int32)) (x0 : Nat) (x1 : Bool) (x2 : Int32) (x3 : Int32) (x5 : Int32) (s0 : Bool) (s1 : Int32) (s2 : Nat) (M : Mem) : Option (Int32) :=
  (f_X11_ruleOf s2 s1 (jz s0) M).bind fun v2 =>
  (f_X11_wordLong v2).bind fun v3 =>
  if v3 = 1 then
  ((f_X11_wordDigit v2 0).bind fun v5 =>
  f_X11_stays_65 k4 k16 x0 x1 x2 x3 x5 v5 M)
  else
  (f_X11_stays_65 k4 k16 x0 x1 x2 x3 x5 (-1) M)
set_option maxHeartbeats 4000000 in
theorem t_X11_stays_41 {X : XV} {d : Nat} (hd : 2 ≤ d + 1) {k4 : Nat → Bool → Int32 → Int32 → Mem → Option (Int32)} (hk4 : ∀ (x0 : Nat) (x1 : Bool) (x2 : Int32) (x3 : Int32) (M : Mem) (res : Int32), k4 x0 x1 x2 x3 M = some res → Ex X (d + 1) mX11_stays 4 [(0, .ref x0), (1, .int (jz x1)), (2, .int x2), (3, .int x3)] [] M (some (.int res)) M) {k16 : Nat → Bool → Int32 → Int32 → Int32 → Int32 → Mem → Option (Int32)} (hk16 : ∀ (x0 : Nat) (x1 : Bool) (x2 : Int32) (x3 : Int32) (x4 : Int32) (x5 : Int32) (M : Mem) (res : Int32), k16 x0 x1 x2 x3 x4 x5 M = some res → Ex X (d + 1) mX11_stays 16 [(0, .ref x0), (1, .int (jz x1)), (2, .int x2), (3, .int x3), (4, .int x4), (5, .int x5)] [] M (some (.int res)) M) : ∀ (x0 : Nat) (x1 : Bool) (x2 : Int32) (x3 : Int32) (x5 : Int32) (s0 : Bool) (s1 : Int32) (s2 : Nat) (M : Mem) (res : Int32), f_X11_stays_41 k4 k16 x0 x1 x2 x3 x5 s0 s1 s2 M = some res → Ex X (d + 1) mX11_stays 41 [(0, .ref x0), (1, .int (jz x1)), (2, .int x2), (3, .int x3), (5, .int x5)] [.int (jz s0), .int s1, .ref s2] M (some (.int res)) M := by
  intro x0 x1 x2 x3 x5 s0 s1 s2 M res  h
  unfold f_X11_stays_41 at h
  obtain ⟨v2, ev2, h⟩ := ob_some h
  refine ex_callV2r (pc := 41) dX11_stays_41 jX11_ruleOf lmX11_350 jiX11_ruleOf jvX11_ruleOf (o_X11_ruleOf ev2) rfl (Nat.le_of_ble_eq_true rfl) (s_X11_ruleOf (by omega)  ev2) ?_
  refine ex_istore (pc := 44) [(6, .int v2), (0, .ref x0), (1, .int (jz x1)), (2, .int x2), (3, .int x3), (5, .int x5)] dX11_stays_44 (by decide) rfl ?_
  refine ex_iload (pc := 46) 0 dX11_stays_46 rfl ?_
  obtain ⟨v3, ev3, h⟩ := ob_some h
  refine ex_callS1r (pc := 48) dX11_stays_48 jX11_wordLong lmX11_332 jsX11_wordLong (Nat.le_of_ble_eq_true rfl) (s_X11_wordLong (by omega)  ev3) ?_
  refine ex_iconst (pc := 51) 1 dX11_stays_51 rfl ?_
  by_cases c4 : v3 = 1
  · rw [if_pos c4] at h
    refine ex_icmp_ne_f (pc := 52) dX11_stays_52 64 rfl c4 ?_
    refine ex_iload (pc := 55) 0 dX11_stays_55 rfl ?_
    refine ex_iconst (pc := 57) 0 dX11_stays_57 rfl ?_
    obtain ⟨v5, ev5, h⟩ := ob_some h
    refine ex_callS2r (pc := 58) dX11_stays_58 jX11_wordDigit lmX11_335 jsX11_wordDigit (Nat.le_of_ble_eq_true rfl) (s_X11_wordDigit (by omega)  ev5) ?_
    refine ex_goto (pc := 61) 65 dX11_stays_61 rfl ?_
    refine ex_sub (lo' := [(0, .ref x0), (1, .int (jz x1)), (2, .int x2), (3, .int x3), (5, .int x5)]) [1, 2, 3, 4, 5] rfl ?_
    exact t_X11_stays_65 hd hk4 hk16 _ _ _ _ _ _ _ _  h
  · rw [if_neg c4] at h
    refine ex_icmp_ne_t (pc := 52) 64 dX11_stays_52 rfl c4 ?_
    refine ex_iconst (pc := 64) (-1) dX11_stays_64 rfl ?_
    refine ex_sub (lo' := [(0, .ref x0), (1, .int (jz x1)), (2, .int x2), (3, .int x3), (5, .int x5)]) [1, 2, 3, 4, 5] rfl ?_
    exact t_X11_stays_65 hd hk4 hk16 _ _ _ _ _ _ _ _  h
noncomputable def f_X11_stays_16 (n0 : Nat) (k4 : Nat → Bool → Int32 → Int32 → Mem → Option (Int32)) (x0 : Nat) (x1 : Bool) (x2 : Int32) (x3 : Int32) (x4 : Int32) (x5 : Int32) (M : Mem) : Option (Int32) :=
  match n0 with
  | 0 => none
  | n + 1 =>
    if 10 ≤ x5 then
    (k4 x0 x1 x2 (x3 + 1) M)
    else
    (if x4 = (-1) then
    (k4 x0 x1 x2 (x3 + 1) M)
    else
    (if x1 = false then
    (f_X11_stays_41 k4 (f_X11_stays_16 n k4) x0 x1 x2 x3 x5 false x4 x0 M)
    else
    (f_X11_stays_41 k4 (f_X11_stays_16 n k4) x0 x1 x2 x3 x5 true x4 x0 M)))
set_option maxHeartbeats 4000000 in
theorem t_X11_stays_16 {X : XV} {d : Nat} (hd : 2 ≤ d + 1) {k4 : Nat → Bool → Int32 → Int32 → Mem → Option (Int32)} (hk4 : ∀ (x0 : Nat) (x1 : Bool) (x2 : Int32) (x3 : Int32) (M : Mem) (res : Int32), k4 x0 x1 x2 x3 M = some res → Ex X (d + 1) mX11_stays 4 [(0, .ref x0), (1, .int (jz x1)), (2, .int x2), (3, .int x3)] [] M (some (.int res)) M) : ∀ (n : Nat) (x0 : Nat) (x1 : Bool) (x2 : Int32) (x3 : Int32) (x4 : Int32) (x5 : Int32) (M : Mem) (res : Int32), f_X11_stays_16 n k4 x0 x1 x2 x3 x4 x5 M = some res → Ex X (d + 1) mX11_stays 16 [(0, .ref x0), (1, .int (jz x1)), (2, .int x2), (3, .int x3), (4, .int x4), (5, .int x5)] [] M (some (.int res)) M := by
  intro n
  induction n with
  | zero =>
    intro x0 x1 x2 x3 x4 x5 M res  h
    unfold f_X11_stays_16 at h
    cases h
  | succ n ih =>
    intro x0 x1 x2 x3 x4 x5 M res  h
    unfold f_X11_stays_16 at h
    refine ex_iload (pc := 16) 5 dX11_stays_16 rfl ?_
    refine ex_bipush (pc := 18) 10 dX11_stays_18 (by decide) ?_
    by_cases c6 : 10 ≤ x5
    · rw [if_pos c6] at h
      refine ex_icmp_ge_t (pc := 20) 85 dX11_stays_20 rfl c6 ?_
      refine ex_iinc (pc := 85) (x3 + 1) 3 [(3, .int (x3 + 1)), (0, .ref x0), (1, .int (jz x1)), (2, .int x2), (4, .int x4), (5, .int x5)] dX11_stays_85 rfl rfl (by decide) rfl ?_
      refine ex_goto (pc := 88) 4 dX11_stays_88 rfl ?_
      refine ex_sub (lo' := [(0, .ref x0), (1, .int (jz x1)), (2, .int x2), (3, .int (x3 + 1))]) [1, 2, 3, 0] rfl ?_
      exact hk4 _ _ _ _ _ _  h
    · rw [if_neg c6] at h
      refine ex_icmp_ge_f (pc := 20) dX11_stays_20 85 rfl c6 ?_
      refine ex_iload (pc := 23) 4 dX11_stays_23 rfl ?_
      refine ex_iconst (pc := 25) (-1) dX11_stays_25 rfl ?_
      by_cases c7 : x4 = (-1)
      · rw [if_pos c7] at h
        refine ex_icmp_eq_t (pc := 26) 85 dX11_stays_26 rfl c7 ?_
        refine ex_iinc (pc := 85) (x3 + 1) 3 [(3, .int (x3 + 1)), (0, .ref x0), (1, .int (jz x1)), (2, .int x2), (4, .int x4), (5, .int x5)] dX11_stays_85 rfl rfl (by decide) rfl ?_
        refine ex_goto (pc := 88) 4 dX11_stays_88 rfl ?_
        refine ex_sub (lo' := [(0, .ref x0), (1, .int (jz x1)), (2, .int x2), (3, .int (x3 + 1))]) [1, 2, 3, 0] rfl ?_
        exact hk4 _ _ _ _ _ _  h
      · rw [if_neg c7] at h
        refine ex_icmp_eq_f (pc := 26) dX11_stays_26 85 rfl c7 ?_
        refine ex_aload_n (pc := 29) 0 dX11_stays_29 rfl rfl ?_
        refine ex_iload (pc := 30) 4 dX11_stays_30 rfl ?_
        refine ex_iload_n (pc := 32) 1 dX11_stays_32 rfl rfl ?_
        by_cases c8 : x1 = false
        · rw [if_pos c8] at h
          refine ex_if_eq_t (pc := 33) 40 dX11_stays_33 rfl (jz_eq_t c8) ?_
          refine ex_iconst (pc := 40) 0 dX11_stays_40 rfl ?_
          refine ex_sub (lo' := [(0, .ref x0), (1, .int (jz x1)), (2, .int x2), (3, .int x3), (5, .int x5)]) [0, 1, 2, 3, 5] rfl ?_
          exact t_X11_stays_41 hd hk4 ih _ _ _ _ _ _ _ _ _ _  h
        · rw [if_neg c8] at h
          refine ex_if_eq_f (pc := 33) dX11_stays_33 40 rfl (jz_eq_f c8) ?_
          refine ex_iconst (pc := 36) 1 dX11_stays_36 rfl ?_
          refine ex_goto (pc := 37) 41 dX11_stays_37 rfl ?_
          refine ex_sub (lo' := [(0, .ref x0), (1, .int (jz x1)), (2, .int x2), (3, .int x3), (5, .int x5)]) [0, 1, 2, 3, 5] rfl ?_
          exact t_X11_stays_41 hd hk4 ih _ _ _ _ _ _ _ _ _ _  h
noncomputable def f_X11_stays_4 (n0 : Nat) (x0 : Nat) (x1 : Bool) (x2 : Int32) (x3 : Int32) (M : Mem) : Option (Int32) :=
  match n0 with
  | 0 => none
  | n + 1 =>
    if 10 ≤ x3 then
    (some x2)
    else
    (f_X11_stays_16 fu (f_X11_stays_4 n) x0 x1 x2 x3 x3 1 M)
set_option maxHeartbeats 4000000 in
theorem t_X11_stays_4 {X : XV} {d : Nat} (hd : 2 ≤ d + 1) : ∀ (n : Nat) (x0 : Nat) (x1 : Bool) (x2 : Int32) (x3 : Int32) (M : Mem) (res : Int32), f_X11_stays_4 n  x0 x1 x2 x3 M = some res → Ex X (d + 1) mX11_stays 4 [(0, .ref x0), (1, .int (jz x1)), (2, .int x2), (3, .int x3)] [] M (some (.int res)) M := by
  intro n
  induction n with
  | zero =>
    intro x0 x1 x2 x3 M res  h
    unfold f_X11_stays_4 at h
    cases h
  | succ n ih =>
    intro x0 x1 x2 x3 M res  h
    unfold f_X11_stays_4 at h
    refine ex_iload_n (pc := 4) 3 dX11_stays_4 rfl rfl ?_
    refine ex_bipush (pc := 5) 10 dX11_stays_5 (by decide) ?_
    by_cases c9 : 10 ≤ x3
    · rw [if_pos c9] at h
      refine ex_icmp_ge_t (pc := 7) 91 dX11_stays_7 rfl c9 ?_
      refine ex_iload_n (pc := 91) 2 dX11_stays_91 rfl rfl ?_
      cases h
      exact ex_ireturn (pc := 92) dX11_stays_92
    · rw [if_neg c9] at h
      refine ex_icmp_ge_f (pc := 7) dX11_stays_7 91 rfl c9 ?_
      refine ex_iload_n (pc := 10) 3 dX11_stays_10 rfl rfl ?_
      refine ex_istore (pc := 11) [(4, .int x3), (0, .ref x0), (1, .int (jz x1)), (2, .int x2), (3, .int x3)] dX11_stays_11 (by decide) rfl ?_
      refine ex_iconst (pc := 13) 1 dX11_stays_13 rfl ?_
      refine ex_istore (pc := 14) [(5, .int 1), (4, .int x3), (0, .ref x0), (1, .int (jz x1)), (2, .int x2), (3, .int x3)] dX11_stays_14 (by decide) rfl ?_
      refine ex_sub (lo' := [(0, .ref x0), (1, .int (jz x1)), (2, .int x2), (3, .int x3), (4, .int x3), (5, .int 1)]) [2, 3, 4, 5, 1, 0] rfl ?_
      exact t_X11_stays_16 hd ih _ _ _ _ _ _ _ _ _  h
noncomputable def f_X11_stays_0 (x0 : Nat) (x1 : Bool) (M : Mem) : Option (Int32) :=
  f_X11_stays_4 fu x0 x1 0 0 M
set_option maxHeartbeats 4000000 in
theorem t_X11_stays_0 {X : XV} {d : Nat} (hd : 2 ≤ d + 1) : ∀ (x0 : Nat) (x1 : Bool) (M : Mem) (res : Int32), f_X11_stays_0  x0 x1 M = some res → Ex X (d + 1) mX11_stays 0 [(0, .ref x0), (1, .int (jz x1))] [] M (some (.int res)) M := by
  intro x0 x1 M res  h
  unfold f_X11_stays_0 at h
  refine ex_iconst (pc := 0) 0 dX11_stays_0 rfl ?_
  refine ex_istore_n (pc := 1) [(2, .int 0), (0, .ref x0), (1, .int (jz x1))] dX11_stays_1 rfl (by decide) rfl ?_
  refine ex_iconst (pc := 2) 0 dX11_stays_2 rfl ?_
  refine ex_istore_n (pc := 3) [(3, .int 0), (2, .int 0), (0, .ref x0), (1, .int (jz x1))] dX11_stays_3 rfl (by decide) rfl ?_
  refine ex_sub (lo' := [(0, .ref x0), (1, .int (jz x1)), (2, .int 0), (3, .int 0)]) [2, 3, 1, 0] rfl ?_
  exact t_X11_stays_4 hd  _ _ _ _ _ _ _  h
noncomputable def f_X11_stays (x0 : Nat) (x1 : Bool) (M : Mem) : Option (Int32) := if isOb M 11 x0 = true then f_X11_stays_0 x0 x1 M else none
theorem o_X11_stays {x0 : Nat} {x1 : Bool} {M : Mem} {res : Int32} (h : f_X11_stays x0 x1 M = some res) : isO M 11 x0 := by
  unfold f_X11_stays at h
  split at h
  · rename_i hc; exact isOb_iff hc
  · cases h
set_option maxHeartbeats 4000000 in
theorem s_X11_stays {X : XV} {d : Nat} (hd : 2 ≤ d) {x0 : Nat} {x1 : Bool} {M : Mem} {res : Int32} (h : f_X11_stays x0 x1 M = some res) : Mx X d mX11_stays [.ref x0, .int (jz x1)] M (some (.int res)) M := by
  obtain ⟨d, rfl⟩ : ∃ e, d = e + 1 := ⟨d - 1, by omega⟩
  unfold f_X11_stays at h
  split at h
  rotate_left
  · cases h
  refine Mx.of (by decide) (Nat.le_of_ble_eq_true rfl) (⟨_, rfl, rfl⟩) ?_
  exact ex_sub (lo' := [(0, .ref x0), (1, .int (jz x1))]) [0, 1] rfl (t_X11_stays_0 hd _ _ _ _  h)
noncomputable def f_X11_likes_45 (x2 : Int32) (x3 : Int32) (x4 : Int32) (s0 : Int32) (s1 : Int32) (s2 : Nat) (M : Mem) : Option (Bool × Mem) :=
  (wI M s2 (((s1 + s0) + (5 * x2)) + x3) x4).bind fun q1 =>
  some (true, q1)
set_option maxHeartbeats 4000000 in
theorem t_X11_likes_45 {X : XV} {d : Nat} (hd : 3 ≤ d + 1) : ∀ (x2 : Int32) (x3 : Int32) (x4 : Int32) (s0 : Int32) (s1 : Int32) (s2 : Nat) (M : Mem) (res : Bool × Mem), f_X11_likes_45  x2 x3 x4 s0 s1 s2 M = some res → Ex X (d + 1) mX11_likes 45 [(2, .int x2), (3, .int x3), (4, .int x4)] [.int s0, .int s1, .ref s2] M (some (.int (jz res.1))) res.2 := by
  intro x2 x3 x4 s0 s1 s2 M res  h
  unfold f_X11_likes_45 at h
  refine ex_iadd (pc := 45) dX11_likes_45 ?_
  refine ex_iconst (pc := 46) 5 dX11_likes_46 rfl ?_
  refine ex_iload_n (pc := 47) 0 dX11_likes_47 rfl rfl ?_
  refine ex_imul (pc := 48) dX11_likes_48 ?_
  refine ex_iadd (pc := 49) dX11_likes_49 ?_
  refine ex_iload_n (pc := 50) 1 dX11_likes_50 rfl rfl ?_
  refine ex_iadd (pc := 51) dX11_likes_51 ?_
  refine ex_iload (pc := 52) 2 dX11_likes_52 rfl ?_
  obtain ⟨q1, eq1, h⟩ := ob_some h
  refine ex_wI (pc := 54) eq1 dX11_likes_54 ?_
  refine ex_iconst (pc := 55) 1 dX11_likes_55 rfl ?_
  cases h
  exact ex_ireturn (pc := 56) dX11_likes_56
noncomputable def f_X11_likes_0 (x0 : Nat) (x1 : Bool) (x2 : Int32) (x3 : Int32) (x4 : Int32) (M : Mem) : Option (Bool × Mem) :=
  (f_X11_isIn x2 0 4).bind fun v2 =>
  if v2 = false then
  (some (false, M))
  else
  ((f_X11_isIn x3 0 4).bind fun v4 =>
  if v4 = false then
  (some (false, M))
  else
  ((f_X11_isDigit x4).bind fun v6 =>
  if v6 = true then
  ((gR M 11 x0 0).bind fun v8 =>
  if x1 = false then
  (f_X11_likes_45 x2 x3 x4 25 153 v8 M)
  else
  (f_X11_likes_45 x2 x3 x4 0 153 v8 M))
  else
  (some (false, M))))
set_option maxHeartbeats 4000000 in
theorem t_X11_likes_0 {X : XV} {d : Nat} (hd : 3 ≤ d + 1) : ∀ (x0 : Nat) (x1 : Bool) (x2 : Int32) (x3 : Int32) (x4 : Int32) (M : Mem) (res : Bool × Mem), f_X11_likes_0  x0 x1 x2 x3 x4 M = some res → Ex X (d + 1) mX11_likes 0 [(0, .ref x0), (1, .int (jz x1)), (2, .int x2), (3, .int x3), (4, .int x4)] [] M (some (.int (jz res.1))) res.2 := by
  intro x0 x1 x2 x3 x4 M res  h
  unfold f_X11_likes_0 at h
  refine ex_iload_n (pc := 0) 2 dX11_likes_0 rfl rfl ?_
  refine ex_iconst (pc := 1) 0 dX11_likes_1 rfl ?_
  refine ex_iconst (pc := 2) 4 dX11_likes_2 rfl ?_
  obtain ⟨v2, ev2, h⟩ := ob_some h
  refine ex_callS3r (pc := 3) dX11_likes_3 jX11_isIn lmX11_87 jsX11_isIn (Nat.le_of_ble_eq_true rfl) (s_X11_isIn (by omega)  ev2) ?_
  by_cases c3 : v2 = false
  · rw [if_pos c3] at h
    refine ex_if_eq_t (pc := 6) 26 dX11_likes_6 rfl (jz_eq_t c3) ?_
    refine ex_iconst (pc := 26) 0 dX11_likes_26 rfl ?_
    cases h
    exact ex_ireturn (pc := 27) dX11_likes_27
  · rw [if_neg c3] at h
    refine ex_if_eq_f (pc := 6) dX11_likes_6 26 rfl (jz_eq_f c3) ?_
    refine ex_iload_n (pc := 9) 3 dX11_likes_9 rfl rfl ?_
    refine ex_iconst (pc := 10) 0 dX11_likes_10 rfl ?_
    refine ex_iconst (pc := 11) 4 dX11_likes_11 rfl ?_
    obtain ⟨v4, ev4, h⟩ := ob_some h
    refine ex_callS3r (pc := 12) dX11_likes_12 jX11_isIn lmX11_87 jsX11_isIn (Nat.le_of_ble_eq_true rfl) (s_X11_isIn (by omega)  ev4) ?_
    by_cases c5 : v4 = false
    · rw [if_pos c5] at h
      refine ex_if_eq_t (pc := 15) 26 dX11_likes_15 rfl (jz_eq_t c5) ?_
      refine ex_iconst (pc := 26) 0 dX11_likes_26 rfl ?_
      cases h
      exact ex_ireturn (pc := 27) dX11_likes_27
    · rw [if_neg c5] at h
      refine ex_if_eq_f (pc := 15) dX11_likes_15 26 rfl (jz_eq_f c5) ?_
      refine ex_iload (pc := 18) 4 dX11_likes_18 rfl ?_
      obtain ⟨v6, ev6, h⟩ := ob_some h
      refine ex_callS1r (pc := 20) dX11_likes_20 jX11_isDigit lmX11_95 jsX11_isDigit (Nat.le_of_ble_eq_true rfl) (s_X11_isDigit (by omega)  ev6) ?_
      by_cases c7 : v6 = true
      · rw [if_pos c7] at h
        refine ex_if_ne_t (pc := 23) 28 dX11_likes_23 rfl (jz_ne_t c7) ?_
        refine ex_aload_n (pc := 28) 0 dX11_likes_28 rfl rfl ?_
        obtain ⟨v8, ev8, h⟩ := ob_some h
        refine ex_gR (pc := 29) ev8 dX11_likes_29 lfX11_7 ?_
        refine ex_sipush (pc := 32) 153 dX11_likes_32 (by decide) ?_
        refine ex_iload_n (pc := 35) 1 dX11_likes_35 rfl rfl ?_
        by_cases c9 : x1 = false
        · rw [if_pos c9] at h
          refine ex_if_eq_t (pc := 36) 43 dX11_likes_36 rfl (jz_eq_t c9) ?_
          refine ex_bipush (pc := 43) 25 dX11_likes_43 (by decide) ?_
          refine ex_sub (lo' := [(2, .int x2), (3, .int x3), (4, .int x4)]) [2, 3, 4] rfl ?_
          exact t_X11_likes_45 hd  _ _ _ _ _ _ _ _  h
        · rw [if_neg c9] at h
          refine ex_if_eq_f (pc := 36) dX11_likes_36 43 rfl (jz_eq_f c9) ?_
          refine ex_iconst (pc := 39) 0 dX11_likes_39 rfl ?_
          refine ex_goto (pc := 40) 45 dX11_likes_40 rfl ?_
          refine ex_sub (lo' := [(2, .int x2), (3, .int x3), (4, .int x4)]) [2, 3, 4] rfl ?_
          exact t_X11_likes_45 hd  _ _ _ _ _ _ _ _  h
      · rw [if_neg c7] at h
        refine ex_if_ne_f (pc := 23) dX11_likes_23 28 rfl (jz_ne_f c7) ?_
        refine ex_iconst (pc := 26) 0 dX11_likes_26 rfl ?_
        cases h
        exact ex_ireturn (pc := 27) dX11_likes_27
noncomputable def f_X11_likes (x0 : Nat) (x1 : Bool) (x2 : Int32) (x3 : Int32) (x4 : Int32) (M : Mem) : Option (Bool × Mem) := if isOb M 11 x0 = true then f_X11_likes_0 x0 x1 x2 x3 x4 M else none
theorem o_X11_likes {x0 : Nat} {x1 : Bool} {x2 : Int32} {x3 : Int32} {x4 : Int32} {M : Mem} {res : Bool × Mem} (h : f_X11_likes x0 x1 x2 x3 x4 M = some res) : isO M 11 x0 := by
  unfold f_X11_likes at h
  split at h
  · rename_i hc; exact isOb_iff hc
  · cases h
set_option maxHeartbeats 4000000 in
theorem s_X11_likes {X : XV} {d : Nat} (hd : 3 ≤ d) {x0 : Nat} {x1 : Bool} {x2 : Int32} {x3 : Int32} {x4 : Int32} {M : Mem} {res : Bool × Mem} (h : f_X11_likes x0 x1 x2 x3 x4 M = some res) : Mx X d mX11_likes [.ref x0, .int (jz x1), .int x2, .int x3, .int x4] M (some (.int (jz res.1))) res.2 := by
  obtain ⟨d, rfl⟩ : ∃ e, d = e + 1 := ⟨d - 1, by omega⟩
  unfold f_X11_likes at h
  split at h
  rotate_left
  · cases h
  refine Mx.of (by decide) (Nat.le_of_ble_eq_true rfl) (⟨_, rfl, jz_nar _⟩) ?_
  exact ex_sub (lo' := [(0, .ref x0), (1, .int (jz x1)), (2, .int x2), (3, .int x3), (4, .int x4)]) [0, 1, 2, 3, 4] rfl (t_X11_likes_0 hd _ _ _ _ _ _ _  h)
noncomputable def f_X11_isBetter_0 (x0 : Nat) (x1 : Int32) (x2 : Int32) (x3 : Int32) (x4 : Int32) (M : Mem) : Option (Bool) :=
  (gR M 11 x0 0).bind fun v1 =>
  (rI M v1 (((153 + x1) + (5 * x2)) + x3)).bind fun v2 =>
  (gR M 11 x0 0).bind fun v3 =>
  (rI M v3 (((153 + x1) + (5 * x2)) + x4)).bind fun v4 =>
  if (v2 - v4) < 0 then
  (some true)
  else
  (if (v2 - v4) = 0 then
  (if x4 ≤ x3 then
  (some false)
  else
  (some true))
  else
  (some false))
set_option maxHeartbeats 4000000 in
theorem t_X11_isBetter_0 {X : XV} {d : Nat} (hd : 1 ≤ d + 1) : ∀ (x0 : Nat) (x1 : Int32) (x2 : Int32) (x3 : Int32) (x4 : Int32) (M : Mem) (res : Bool), f_X11_isBetter_0  x0 x1 x2 x3 x4 M = some res → Ex X (d + 1) mX11_isBetter 0 [(0, .ref x0), (1, .int x1), (2, .int x2), (3, .int x3), (4, .int x4)] [] M (some (.int (jz res))) M := by
  intro x0 x1 x2 x3 x4 M res  h
  unfold f_X11_isBetter_0 at h
  refine ex_aload_n (pc := 0) 0 dX11_isBetter_0 rfl rfl ?_
  obtain ⟨v1, ev1, h⟩ := ob_some h
  refine ex_gR (pc := 1) ev1 dX11_isBetter_1 lfX11_7 ?_
  refine ex_sipush (pc := 4) 153 dX11_isBetter_4 (by decide) ?_
  refine ex_iload_n (pc := 7) 1 dX11_isBetter_7 rfl rfl ?_
  refine ex_iadd (pc := 8) dX11_isBetter_8 ?_
  refine ex_iconst (pc := 9) 5 dX11_isBetter_9 rfl ?_
  refine ex_iload_n (pc := 10) 2 dX11_isBetter_10 rfl rfl ?_
  refine ex_imul (pc := 11) dX11_isBetter_11 ?_
  refine ex_iadd (pc := 12) dX11_isBetter_12 ?_
  refine ex_iload_n (pc := 13) 3 dX11_isBetter_13 rfl rfl ?_
  refine ex_iadd (pc := 14) dX11_isBetter_14 ?_
  obtain ⟨v2, ev2, h⟩ := ob_some h
  refine ex_rI (pc := 15) ev2 dX11_isBetter_15 ?_
  refine ex_aload_n (pc := 16) 0 dX11_isBetter_16 rfl rfl ?_
  obtain ⟨v3, ev3, h⟩ := ob_some h
  refine ex_gR (pc := 17) ev3 dX11_isBetter_17 lfX11_7 ?_
  refine ex_sipush (pc := 20) 153 dX11_isBetter_20 (by decide) ?_
  refine ex_iload_n (pc := 23) 1 dX11_isBetter_23 rfl rfl ?_
  refine ex_iadd (pc := 24) dX11_isBetter_24 ?_
  refine ex_iconst (pc := 25) 5 dX11_isBetter_25 rfl ?_
  refine ex_iload_n (pc := 26) 2 dX11_isBetter_26 rfl rfl ?_
  refine ex_imul (pc := 27) dX11_isBetter_27 ?_
  refine ex_iadd (pc := 28) dX11_isBetter_28 ?_
  refine ex_iload (pc := 29) 4 dX11_isBetter_29 rfl ?_
  refine ex_iadd (pc := 31) dX11_isBetter_31 ?_
  obtain ⟨v4, ev4, h⟩ := ob_some h
  refine ex_rI (pc := 32) ev4 dX11_isBetter_32 ?_
  refine ex_isub (pc := 33) dX11_isBetter_33 ?_
  refine ex_istore (pc := 34) [(5, .int (v2 - v4)), (0, .ref x0), (1, .int x1), (2, .int x2), (3, .int x3), (4, .int x4)] dX11_isBetter_34 (by decide) rfl ?_
  refine ex_iload (pc := 36) 0 dX11_isBetter_36 rfl ?_
  by_cases c5 : (v2 - v4) < 0
  · rw [if_pos c5] at h
    refine ex_if_lt_t (pc := 38) 52 dX11_isBetter_38 rfl c5 ?_
    refine ex_iconst (pc := 52) 1 dX11_isBetter_52 rfl ?_
    refine ex_goto (pc := 53) 57 dX11_isBetter_53 rfl ?_
    cases h
    exact ex_ireturn (pc := 57) dX11_isBetter_57
  · rw [if_neg c5] at h
    refine ex_if_lt_f (pc := 38) dX11_isBetter_38 52 rfl c5 ?_
    refine ex_iload (pc := 41) 0 dX11_isBetter_41 rfl ?_
    by_cases c6 : (v2 - v4) = 0
    · rw [if_pos c6] at h
      refine ex_if_ne_f (pc := 43) dX11_isBetter_43 56 rfl c6 ?_
      refine ex_iload_n (pc := 46) 4 dX11_isBetter_46 rfl rfl ?_
      refine ex_iload (pc := 47) 5 dX11_isBetter_47 rfl ?_
      by_cases c7 : x4 ≤ x3
      · rw [if_pos c7] at h
        refine ex_icmp_ge_t (pc := 49) 56 dX11_isBetter_49 rfl c7 ?_
        refine ex_iconst (pc := 56) 0 dX11_isBetter_56 rfl ?_
        cases h
        exact ex_ireturn (pc := 57) dX11_isBetter_57
      · rw [if_neg c7] at h
        refine ex_icmp_ge_f (pc := 49) dX11_isBetter_49 56 rfl c7 ?_
        refine ex_iconst (pc := 52) 1 dX11_isBetter_52 rfl ?_
        refine ex_goto (pc := 53) 57 dX11_isBetter_53 rfl ?_
        cases h
        exact ex_ireturn (pc := 57) dX11_isBetter_57
    · rw [if_neg c6] at h
      refine ex_if_ne_t (pc := 43) 56 dX11_isBetter_43 rfl c6 ?_
      refine ex_iconst (pc := 56) 0 dX11_isBetter_56 rfl ?_
      cases h
      exact ex_ireturn (pc := 57) dX11_isBetter_57
noncomputable def f_X11_isBetter (x0 : Nat) (x1 : Int32) (x2 : Int32) (x3 : Int32) (x4 : Int32) (M : Mem) : Option (Bool) := if isOb M 11 x0 = true then f_X11_isBetter_0 x0 x1 x2 x3 x4 M else none
theorem o_X11_isBetter {x0 : Nat} {x1 : Int32} {x2 : Int32} {x3 : Int32} {x4 : Int32} {M : Mem} {res : Bool} (h : f_X11_isBetter x0 x1 x2 x3 x4 M = some res) : isO M 11 x0 := by
  unfold f_X11_isBetter at h
  split at h
  · rename_i hc; exact isOb_iff hc
  · cases h
set_option maxHeartbeats 4000000 in
theorem s_X11_isBetter {X : XV} {d : Nat} (hd : 1 ≤ d) {x0 : Nat} {x1 : Int32} {x2 : Int32} {x3 : Int32} {x4 : Int32} {M : Mem} {res : Bool} (h : f_X11_isBetter x0 x1 x2 x3 x4 M = some res) : Mx X d mX11_isBetter [.ref x0, .int x1, .int x2, .int x3, .int x4] M (some (.int (jz res))) M := by
  obtain ⟨d, rfl⟩ : ∃ e, d = e + 1 := ⟨d - 1, by omega⟩
  unfold f_X11_isBetter at h
  split at h
  rotate_left
  · cases h
  refine Mx.of (by decide) (Nat.le_of_ble_eq_true rfl) (⟨_, rfl, jz_nar _⟩) ?_
  exact ex_sub (lo' := [(0, .ref x0), (1, .int x1), (2, .int x2), (3, .int x3), (4, .int x4)]) [0, 1, 2, 3, 4] rfl (t_X11_isBetter_0 hd _ _ _ _ _ _ _  h)
noncomputable def f_X11_bestOf_4 (n0 : Nat) (x0 : Nat) (x1 : Int32) (x2 : Int32) (x3 : Int32) (M : Mem) : Option (Int32) :=
  match n0 with
  | 0 => none
  | n + 1 =>
    if 5 ≤ x3 then
    (some x2)
    else
    ((gR M 11 x0 34).bind fun v2 =>
    (rI M v2 x1).bind fun v3 =>
    (f_X11_has v3 x3).bind fun v4 =>
    if v4 = true then
    (f_X11_bestOf_4 n x0 x1 x2 (x3 + 1) M)
    else
    (if x2 = (-1) then
    (f_X11_bestOf_4 n x0 x1 x3 (x3 + 1) M)
    else
    ((f_X11_isBetter x0 0 x1 x3 x2 M).bind fun v7 =>
    if v7 = false then
    (f_X11_bestOf_4 n x0 x1 x2 (x3 + 1) M)
    else
    (f_X11_bestOf_4 n x0 x1 x3 (x3 + 1) M))))
set_option maxHeartbeats 4000000 in
theorem t_X11_bestOf_4 {X : XV} {d : Nat} (hd : 2 ≤ d + 1) : ∀ (n : Nat) (x0 : Nat) (x1 : Int32) (x2 : Int32) (x3 : Int32) (M : Mem) (res : Int32), f_X11_bestOf_4 n  x0 x1 x2 x3 M = some res → Ex X (d + 1) mX11_bestOf 4 [(0, .ref x0), (1, .int x1), (2, .int x2), (3, .int x3)] [] M (some (.int res)) M := by
  intro n
  induction n with
  | zero =>
    intro x0 x1 x2 x3 M res  h
    unfold f_X11_bestOf_4 at h
    cases h
  | succ n ih =>
    intro x0 x1 x2 x3 M res  h
    unfold f_X11_bestOf_4 at h
    refine ex_iload_n (pc := 4) 3 dX11_bestOf_4 rfl rfl ?_
    refine ex_iconst (pc := 5) 5 dX11_bestOf_5 rfl ?_
    by_cases c1 : 5 ≤ x3
    · rw [if_pos c1] at h
      refine ex_icmp_ge_t (pc := 6) 46 dX11_bestOf_6 rfl c1 ?_
      refine ex_iload_n (pc := 46) 2 dX11_bestOf_46 rfl rfl ?_
      cases h
      exact ex_ireturn (pc := 47) dX11_bestOf_47
    · rw [if_neg c1] at h
      refine ex_icmp_ge_f (pc := 6) dX11_bestOf_6 46 rfl c1 ?_
      refine ex_aload_n (pc := 9) 0 dX11_bestOf_9 rfl rfl ?_
      obtain ⟨v2, ev2, h⟩ := ob_some h
      refine ex_gR (pc := 10) ev2 dX11_bestOf_10 lfX11_74 ?_
      refine ex_iload_n (pc := 13) 1 dX11_bestOf_13 rfl rfl ?_
      obtain ⟨v3, ev3, h⟩ := ob_some h
      refine ex_rI (pc := 14) ev3 dX11_bestOf_14 ?_
      refine ex_iload_n (pc := 15) 3 dX11_bestOf_15 rfl rfl ?_
      obtain ⟨v4, ev4, h⟩ := ob_some h
      refine ex_callS2r (pc := 16) dX11_bestOf_16 jX11_has lmX11_269 jsX11_has (Nat.le_of_ble_eq_true rfl) (s_X11_has (by omega)  ev4) ?_
      by_cases c5 : v4 = true
      · rw [if_pos c5] at h
        refine ex_if_ne_t (pc := 19) 40 dX11_bestOf_19 rfl (jz_ne_t c5) ?_
        refine ex_iinc (pc := 40) (x3 + 1) 3 [(3, .int (x3 + 1)), (0, .ref x0), (1, .int x1), (2, .int x2)] dX11_bestOf_40 rfl rfl (by decide) rfl ?_
        refine ex_goto (pc := 43) 4 dX11_bestOf_43 rfl ?_
        refine ex_sub (lo' := [(0, .ref x0), (1, .int x1), (2, .int x2), (3, .int (x3 + 1))]) [1, 2, 3, 0] rfl ?_
        exact ih _ _ _ _ _ _  h
      · rw [if_neg c5] at h
        refine ex_if_ne_f (pc := 19) dX11_bestOf_19 40 rfl (jz_ne_f c5) ?_
        refine ex_iload_n (pc := 22) 2 dX11_bestOf_22 rfl rfl ?_
        refine ex_iconst (pc := 23) (-1) dX11_bestOf_23 rfl ?_
        by_cases c6 : x2 = (-1)
        · rw [if_pos c6] at h
          refine ex_icmp_eq_t (pc := 24) 38 dX11_bestOf_24 rfl c6 ?_
          refine ex_iload_n (pc := 38) 3 dX11_bestOf_38 rfl rfl ?_
          refine ex_istore_n (pc := 39) [(2, .int x3), (0, .ref x0), (1, .int x1), (3, .int x3)] dX11_bestOf_39 rfl (by decide) rfl ?_
          refine ex_iinc (pc := 40) (x3 + 1) 3 [(3, .int (x3 + 1)), (2, .int x3), (0, .ref x0), (1, .int x1)] dX11_bestOf_40 rfl rfl (by decide) rfl ?_
          refine ex_goto (pc := 43) 4 dX11_bestOf_43 rfl ?_
          refine ex_sub (lo' := [(0, .ref x0), (1, .int x1), (2, .int x3), (3, .int (x3 + 1))]) [2, 3, 1, 0] rfl ?_
          exact ih _ _ _ _ _ _  h
        · rw [if_neg c6] at h
          refine ex_icmp_eq_f (pc := 24) dX11_bestOf_24 38 rfl c6 ?_
          refine ex_aload_n (pc := 27) 0 dX11_bestOf_27 rfl rfl ?_
          refine ex_iconst (pc := 28) 0 dX11_bestOf_28 rfl ?_
          refine ex_iload_n (pc := 29) 1 dX11_bestOf_29 rfl rfl ?_
          refine ex_iload_n (pc := 30) 3 dX11_bestOf_30 rfl rfl ?_
          refine ex_iload_n (pc := 31) 2 dX11_bestOf_31 rfl rfl ?_
          obtain ⟨v7, ev7, h⟩ := ob_some h
          refine ex_callV4r (pc := 32) dX11_bestOf_32 jX11_isBetter lmX11_477 jiX11_isBetter jvX11_isBetter (o_X11_isBetter ev7) rfl (Nat.le_of_ble_eq_true rfl) (s_X11_isBetter (by omega)  ev7) ?_
          by_cases c8 : v7 = false
          · rw [if_pos c8] at h
            refine ex_if_eq_t (pc := 35) 40 dX11_bestOf_35 rfl (jz_eq_t c8) ?_
            refine ex_iinc (pc := 40) (x3 + 1) 3 [(3, .int (x3 + 1)), (0, .ref x0), (1, .int x1), (2, .int x2)] dX11_bestOf_40 rfl rfl (by decide) rfl ?_
            refine ex_goto (pc := 43) 4 dX11_bestOf_43 rfl ?_
            refine ex_sub (lo' := [(0, .ref x0), (1, .int x1), (2, .int x2), (3, .int (x3 + 1))]) [1, 2, 3, 0] rfl ?_
            exact ih _ _ _ _ _ _  h
          · rw [if_neg c8] at h
            refine ex_if_eq_f (pc := 35) dX11_bestOf_35 40 rfl (jz_eq_f c8) ?_
            refine ex_iload_n (pc := 38) 3 dX11_bestOf_38 rfl rfl ?_
            refine ex_istore_n (pc := 39) [(2, .int x3), (0, .ref x0), (1, .int x1), (3, .int x3)] dX11_bestOf_39 rfl (by decide) rfl ?_
            refine ex_iinc (pc := 40) (x3 + 1) 3 [(3, .int (x3 + 1)), (2, .int x3), (0, .ref x0), (1, .int x1)] dX11_bestOf_40 rfl rfl (by decide) rfl ?_
            refine ex_goto (pc := 43) 4 dX11_bestOf_43 rfl ?_
            refine ex_sub (lo' := [(0, .ref x0), (1, .int x1), (2, .int x3), (3, .int (x3 + 1))]) [2, 3, 1, 0] rfl ?_
            exact ih _ _ _ _ _ _  h
noncomputable def f_X11_bestOf_0 (x0 : Nat) (x1 : Int32) (M : Mem) : Option (Int32) :=
  f_X11_bestOf_4 fu x0 x1 (-1) 0 M
set_option maxHeartbeats 4000000 in
theorem t_X11_bestOf_0 {X : XV} {d : Nat} (hd : 2 ≤ d + 1) : ∀ (x0 : Nat) (x1 : Int32) (M : Mem) (res : Int32), f_X11_bestOf_0  x0 x1 M = some res → Ex X (d + 1) mX11_bestOf 0 [(0, .ref x0), (1, .int x1)] [] M (some (.int res)) M := by
  intro x0 x1 M res  h
  unfold f_X11_bestOf_0 at h
  refine ex_iconst (pc := 0) (-1) dX11_bestOf_0 rfl ?_
  refine ex_istore_n (pc := 1) [(2, .int (-1)), (0, .ref x0), (1, .int x1)] dX11_bestOf_1 rfl (by decide) rfl ?_
  refine ex_iconst (pc := 2) 0 dX11_bestOf_2 rfl ?_
  refine ex_istore_n (pc := 3) [(3, .int 0), (2, .int (-1)), (0, .ref x0), (1, .int x1)] dX11_bestOf_3 rfl (by decide) rfl ?_
  refine ex_sub (lo' := [(0, .ref x0), (1, .int x1), (2, .int (-1)), (3, .int 0)]) [2, 3, 1, 0] rfl ?_
  exact t_X11_bestOf_4 hd  _ _ _ _ _ _ _  h
noncomputable def f_X11_bestOf (x0 : Nat) (x1 : Int32) (M : Mem) : Option (Int32) := if isOb M 11 x0 = true then f_X11_bestOf_0 x0 x1 M else none
theorem o_X11_bestOf {x0 : Nat} {x1 : Int32} {M : Mem} {res : Int32} (h : f_X11_bestOf x0 x1 M = some res) : isO M 11 x0 := by
  unfold f_X11_bestOf at h
  split at h
  · rename_i hc; exact isOb_iff hc
  · cases h
set_option maxHeartbeats 4000000 in
theorem s_X11_bestOf {X : XV} {d : Nat} (hd : 2 ≤ d) {x0 : Nat} {x1 : Int32} {M : Mem} {res : Int32} (h : f_X11_bestOf x0 x1 M = some res) : Mx X d mX11_bestOf [.ref x0, .int x1] M (some (.int res)) M := by
  obtain ⟨d, rfl⟩ : ∃ e, d = e + 1 := ⟨d - 1, by omega⟩
  unfold f_X11_bestOf at h
  split at h
  rotate_left
  · cases h
  refine Mx.of (by decide) (Nat.le_of_ble_eq_true rfl) (⟨_, rfl, rfl⟩) ?_
  exact ex_sub (lo' := [(0, .ref x0), (1, .int x1)]) [0, 1] rfl (t_X11_bestOf_0 hd _ _ _ _  h)
noncomputable def f_X11_layPairs_86 (k29 : Nat → Int32 → Mem → Option (Mem)) (k36 : Nat → Int32 → Int32 → Mem → Option (Mem)) (x0 : Nat) (x1 : Int32) (x2 : Int32) (x3 : Int32) (x4 : Int32) (M : Mem) : Option (Mem) :=
  (gR M 11 x0 33).bind fun v1 =>
  (wI M v1 x3 x2).bind fun q2 =>
  k36 x0 x1 x4 q2
set_option maxHeartbeats 4000000 in
theorem t_X11_layPairs_86 {X : XV} {d : Nat} (hd : 3 ≤ d + 1) {k29 : Nat → Int32 → Mem → Option (Mem)} (hk29 : ∀ (x0 : Nat) (x1 : Int32) (M : Mem) (res : Mem), k29 x0 x1 M = some res → Ex X (d + 1) mX11_layPairs 29 [(0, .ref x0), (1, .int x1)] [] M none res) {k36 : Nat → Int32 → Int32 → Mem → Option (Mem)} (hk36 : ∀ (x0 : Nat) (x1 : Int32) (x2 : Int32) (M : Mem) (res : Mem), k36 x0 x1 x2 M = some res → Ex X (d + 1) mX11_layPairs 36 [(0, .ref x0), (1, .int x1), (2, .int x2)] [] M none res) : ∀ (x0 : Nat) (x1 : Int32) (x2 : Int32) (x3 : Int32) (x4 : Int32) (M : Mem) (res : Mem), f_X11_layPairs_86 k29 k36 x0 x1 x2 x3 x4 M = some res → Ex X (d + 1) mX11_layPairs 86 [(0, .ref x0), (1, .int x1), (2, .int x2), (3, .int x3), (4, .int x4)] [] M none res := by
  intro x0 x1 x2 x3 x4 M res  h
  unfold f_X11_layPairs_86 at h
  refine ex_aload_n (pc := 86) 0 dX11_layPairs_86 rfl rfl ?_
  obtain ⟨v1, ev1, h⟩ := ob_some h
  refine ex_gR (pc := 87) ev1 dX11_layPairs_87 lfX11_71 ?_
  refine ex_iload_n (pc := 90) 3 dX11_layPairs_90 rfl rfl ?_
  refine ex_iload_n (pc := 91) 2 dX11_layPairs_91 rfl rfl ?_
  obtain ⟨q2, eq2, h⟩ := ob_some h
  refine ex_wI (pc := 92) eq2 dX11_layPairs_92 ?_
  refine ex_iload (pc := 93) 4 dX11_layPairs_93 rfl ?_
  refine ex_istore_n (pc := 95) [(2, .int x4), (0, .ref x0), (1, .int x1), (3, .int x3), (4, .int x4)] dX11_layPairs_95 rfl (by decide) rfl ?_
  refine ex_goto (pc := 96) 36 dX11_layPairs_96 rfl ?_
  refine ex_sub (lo' := [(0, .ref x0), (1, .int x1), (2, .int x4)]) [1, 2, 0] rfl ?_
  exact hk36 _ _ _ _ _  h
noncomputable def f_X11_layPairs_36 (n0 : Nat) (k29 : Nat → Int32 → Mem → Option (Mem)) (x0 : Nat) (x1 : Int32) (x2 : Int32) (M : Mem) : Option (Mem) :=
  match n0 with
  | 0 => none
  | n + 1 =>
    if x2 = (-1) then
    (k29 x0 (x1 + 1) M)
    else
    ((f_X11_bestOf x0 x2 M).bind fun v4 =>
    (gR M 11 x0 34).bind fun v5 =>
    (rI M v5 x2).bind fun v6 =>
    (wI M v5 x2 (v6 ||| (jshl 1 v4))).bind fun q7 =>
    (gR q7 11 x0 33).bind fun v8 =>
    (rI q7 v8 v4).bind fun v9 =>
    if v9 = (-1) then
    (f_X11_layPairs_86 k29 (f_X11_layPairs_36 n k29) x0 x1 x2 v4 v9 q7)
    else
    ((f_X11_isBetter x0 25 v4 x2 v9 q7).bind fun v11 =>
    if v11 = false then
    (f_X11_layPairs_36 n k29 x0 x1 x2 q7)
    else
    (f_X11_layPairs_86 k29 (f_X11_layPairs_36 n k29) x0 x1 x2 v4 v9 q7)))
set_option maxHeartbeats 4000000 in
theorem t_X11_layPairs_36 {X : XV} {d : Nat} (hd : 3 ≤ d + 1) {k29 : Nat → Int32 → Mem → Option (Mem)} (hk29 : ∀ (x0 : Nat) (x1 : Int32) (M : Mem) (res : Mem), k29 x0 x1 M = some res → Ex X (d + 1) mX11_layPairs 29 [(0, .ref x0), (1, .int x1)] [] M none res) : ∀ (n : Nat) (x0 : Nat) (x1 : Int32) (x2 : Int32) (M : Mem) (res : Mem), f_X11_layPairs_36 n k29 x0 x1 x2 M = some res → Ex X (d + 1) mX11_layPairs 36 [(0, .ref x0), (1, .int x1), (2, .int x2)] [] M none res := by
  intro n
  induction n with
  | zero =>
    intro x0 x1 x2 M res  h
    unfold f_X11_layPairs_36 at h
    cases h
  | succ n ih =>
    intro x0 x1 x2 M res  h
    unfold f_X11_layPairs_36 at h
    refine ex_iload_n (pc := 36) 2 dX11_layPairs_36 rfl rfl ?_
    refine ex_iconst (pc := 37) (-1) dX11_layPairs_37 rfl ?_
    by_cases c3 : x2 = (-1)
    · rw [if_pos c3] at h
      refine ex_icmp_eq_t (pc := 38) 99 dX11_layPairs_38 rfl c3 ?_
      refine ex_iinc (pc := 99) (x1 + 1) 1 [(1, .int (x1 + 1)), (0, .ref x0), (2, .int x2)] dX11_layPairs_99 rfl rfl (by decide) rfl ?_
      refine ex_goto (pc := 102) 29 dX11_layPairs_102 rfl ?_
      refine ex_sub (lo' := [(0, .ref x0), (1, .int (x1 + 1))]) [1, 0] rfl ?_
      exact hk29 _ _ _ _  h
    · rw [if_neg c3] at h
      refine ex_icmp_eq_f (pc := 38) dX11_layPairs_38 99 rfl c3 ?_
      refine ex_aload_n (pc := 41) 0 dX11_layPairs_41 rfl rfl ?_
      refine ex_iload_n (pc := 42) 2 dX11_layPairs_42 rfl rfl ?_
      obtain ⟨v4, ev4, h⟩ := ob_some h
      refine ex_callV1r (pc := 43) dX11_layPairs_43 jX11_bestOf lmX11_480 jiX11_bestOf jvX11_bestOf (o_X11_bestOf ev4) rfl (Nat.le_of_ble_eq_true rfl) (s_X11_bestOf (by omega)  ev4) ?_
      refine ex_istore_n (pc := 46) [(3, .int v4), (0, .ref x0), (1, .int x1), (2, .int x2)] dX11_layPairs_46 rfl (by decide) rfl ?_
      refine ex_aload_n (pc := 47) 1 dX11_layPairs_47 rfl rfl ?_
      obtain ⟨v5, ev5, h⟩ := ob_some h
      refine ex_gR (pc := 48) ev5 dX11_layPairs_48 lfX11_74 ?_
      refine ex_iload_n (pc := 51) 3 dX11_layPairs_51 rfl rfl ?_
      refine ex_dup2 (pc := 52) dX11_layPairs_52 rfl rfl ?_
      obtain ⟨v6, ev6, h⟩ := ob_some h
      refine ex_rI (pc := 53) ev6 dX11_layPairs_53 ?_
      refine ex_iconst (pc := 54) 1 dX11_layPairs_54 rfl ?_
      refine ex_iload_n (pc := 55) 0 dX11_layPairs_55 rfl rfl ?_
      refine ex_ishl (pc := 56) dX11_layPairs_56 ?_
      refine ex_ior (pc := 57) dX11_layPairs_57 ?_
      obtain ⟨q7, eq7, h⟩ := ob_some h
      refine ex_wI (pc := 58) eq7 dX11_layPairs_58 ?_
      refine ex_aload_n (pc := 59) 1 dX11_layPairs_59 rfl rfl ?_
      obtain ⟨v8, ev8, h⟩ := ob_some h
      refine ex_gR (pc := 60) ev8 dX11_layPairs_60 lfX11_71 ?_
      refine ex_iload_n (pc := 63) 0 dX11_layPairs_63 rfl rfl ?_
      obtain ⟨v9, ev9, h⟩ := ob_some h
      refine ex_rI (pc := 64) ev9 dX11_layPairs_64 ?_
      refine ex_istore (pc := 65) [(4, .int v9), (3, .int v4), (0, .ref x0), (1, .int x1), (2, .int x2)] dX11_layPairs_65 (by decide) rfl ?_
      refine ex_iload (pc := 67) 0 dX11_layPairs_67 rfl ?_
      refine ex_iconst (pc := 69) (-1) dX11_layPairs_69 rfl ?_
      by_cases c10 : v9 = (-1)
      · rw [if_pos c10] at h
        refine ex_icmp_eq_t (pc := 70) 86 dX11_layPairs_70 rfl c10 ?_
        refine ex_sub (lo' := [(0, .ref x0), (1, .int x1), (2, .int x2), (3, .int v4), (4, .int v9)]) [2, 3, 4, 1, 0] rfl ?_
        exact t_X11_layPairs_86 hd hk29 ih _ _ _ _ _ _ _  h
      · rw [if_neg c10] at h
        refine ex_icmp_eq_f (pc := 70) dX11_layPairs_70 86 rfl c10 ?_
        refine ex_aload_n (pc := 73) 2 dX11_layPairs_73 rfl rfl ?_
        refine ex_bipush (pc := 74) 25 dX11_layPairs_74 (by decide) ?_
        refine ex_iload_n (pc := 76) 1 dX11_layPairs_76 rfl rfl ?_
        refine ex_iload_n (pc := 77) 4 dX11_layPairs_77 rfl rfl ?_
        refine ex_iload (pc := 78) 0 dX11_layPairs_78 rfl ?_
        obtain ⟨v11, ev11, h⟩ := ob_some h
        refine ex_callV4r (pc := 80) dX11_layPairs_80 jX11_isBetter lmX11_477 jiX11_isBetter jvX11_isBetter (o_X11_isBetter ev11) rfl (Nat.le_of_ble_eq_true rfl) (s_X11_isBetter (by omega)  ev11) ?_
        by_cases c12 : v11 = false
        · rw [if_pos c12] at h
          refine ex_if_eq_t (pc := 83) 96 dX11_layPairs_83 rfl (jz_eq_t c12) ?_
          refine ex_goto (pc := 96) 36 dX11_layPairs_96 rfl ?_
          refine ex_sub (lo' := [(0, .ref x0), (1, .int x1), (2, .int x2)]) [2, 3, 4] rfl ?_
          exact ih _ _ _ _ _  h
        · rw [if_neg c12] at h
          refine ex_if_eq_f (pc := 83) dX11_layPairs_83 96 rfl (jz_eq_f c12) ?_
          refine ex_sub (lo' := [(0, .ref x0), (1, .int x1), (2, .int x2), (3, .int v4), (4, .int v9)]) [2, 3, 4, 1, 0] rfl ?_
          exact t_X11_layPairs_86 hd hk29 ih _ _ _ _ _ _ _  h
noncomputable def f_X11_layPairs_29 (n0 : Nat) (x0 : Nat) (x1 : Int32) (M : Mem) : Option (Mem) :=
  match n0 with
  | 0 => none
  | n + 1 =>
    if 5 ≤ x1 then
    (some M)
    else
    (f_X11_layPairs_36 fu (f_X11_layPairs_29 n) x0 x1 x1 M)
set_option maxHeartbeats 4000000 in
theorem t_X11_layPairs_29 {X : XV} {d : Nat} (hd : 3 ≤ d + 1) : ∀ (n : Nat) (x0 : Nat) (x1 : Int32) (M : Mem) (res : Mem), f_X11_layPairs_29 n  x0 x1 M = some res → Ex X (d + 1) mX11_layPairs 29 [(0, .ref x0), (1, .int x1)] [] M none res := by
  intro n
  induction n with
  | zero =>
    intro x0 x1 M res  h
    unfold f_X11_layPairs_29 at h
    cases h
  | succ n ih =>
    intro x0 x1 M res  h
    unfold f_X11_layPairs_29 at h
    refine ex_iload_n (pc := 29) 1 dX11_layPairs_29 rfl rfl ?_
    refine ex_iconst (pc := 30) 5 dX11_layPairs_30 rfl ?_
    by_cases c13 : 5 ≤ x1
    · rw [if_pos c13] at h
      refine ex_icmp_ge_t (pc := 31) 105 dX11_layPairs_31 rfl c13 ?_
      cases h
      exact ex_return (pc := 105) dX11_layPairs_105
    · rw [if_neg c13] at h
      refine ex_icmp_ge_f (pc := 31) dX11_layPairs_31 105 rfl c13 ?_
      refine ex_iload_n (pc := 34) 1 dX11_layPairs_34 rfl rfl ?_
      refine ex_istore_n (pc := 35) [(2, .int x1), (0, .ref x0), (1, .int x1)] dX11_layPairs_35 rfl (by decide) rfl ?_
      refine ex_sub (lo' := [(0, .ref x0), (1, .int x1), (2, .int x1)]) [1, 2, 0] rfl ?_
      exact t_X11_layPairs_36 hd ih _ _ _ _ _ _  h
noncomputable def f_X11_layPairs_2 (n0 : Nat) (x0 : Nat) (x1 : Int32) (M : Mem) : Option (Mem) :=
  match n0 with
  | 0 => none
  | n + 1 =>
    if 5 ≤ x1 then
    (f_X11_layPairs_29 fu x0 0 M)
    else
    ((gR M 11 x0 33).bind fun v15 =>
    (wI M v15 x1 (-1)).bind fun q16 =>
    (gR q16 11 x0 34).bind fun v17 =>
    (wI q16 v17 x1 0).bind fun q18 =>
    f_X11_layPairs_2 n x0 (x1 + 1) q18)
set_option maxHeartbeats 4000000 in
theorem t_X11_layPairs_2 {X : XV} {d : Nat} (hd : 3 ≤ d + 1) : ∀ (n : Nat) (x0 : Nat) (x1 : Int32) (M : Mem) (res : Mem), f_X11_layPairs_2 n  x0 x1 M = some res → Ex X (d + 1) mX11_layPairs 2 [(0, .ref x0), (1, .int x1)] [] M none res := by
  intro n
  induction n with
  | zero =>
    intro x0 x1 M res  h
    unfold f_X11_layPairs_2 at h
    cases h
  | succ n ih =>
    intro x0 x1 M res  h
    unfold f_X11_layPairs_2 at h
    refine ex_iload_n (pc := 2) 1 dX11_layPairs_2 rfl rfl ?_
    refine ex_iconst (pc := 3) 5 dX11_layPairs_3 rfl ?_
    by_cases c14 : 5 ≤ x1
    · rw [if_pos c14] at h
      refine ex_icmp_ge_t (pc := 4) 27 dX11_layPairs_4 rfl c14 ?_
      refine ex_iconst (pc := 27) 0 dX11_layPairs_27 rfl ?_
      refine ex_istore_n (pc := 28) [(1, .int 0), (0, .ref x0)] dX11_layPairs_28 rfl (by decide) rfl ?_
      refine ex_sub (lo' := [(0, .ref x0), (1, .int 0)]) [1, 0] rfl ?_
      exact t_X11_layPairs_29 hd  _ _ _ _ _  h
    · rw [if_neg c14] at h
      refine ex_icmp_ge_f (pc := 4) dX11_layPairs_4 27 rfl c14 ?_
      refine ex_aload_n (pc := 7) 0 dX11_layPairs_7 rfl rfl ?_
      obtain ⟨v15, ev15, h⟩ := ob_some h
      refine ex_gR (pc := 8) ev15 dX11_layPairs_8 lfX11_71 ?_
      refine ex_iload_n (pc := 11) 1 dX11_layPairs_11 rfl rfl ?_
      refine ex_iconst (pc := 12) (-1) dX11_layPairs_12 rfl ?_
      obtain ⟨q16, eq16, h⟩ := ob_some h
      refine ex_wI (pc := 13) eq16 dX11_layPairs_13 ?_
      refine ex_aload_n (pc := 14) 0 dX11_layPairs_14 rfl rfl ?_
      obtain ⟨v17, ev17, h⟩ := ob_some h
      refine ex_gR (pc := 15) ev17 dX11_layPairs_15 lfX11_74 ?_
      refine ex_iload_n (pc := 18) 1 dX11_layPairs_18 rfl rfl ?_
      refine ex_iconst (pc := 19) 0 dX11_layPairs_19 rfl ?_
      obtain ⟨q18, eq18, h⟩ := ob_some h
      refine ex_wI (pc := 20) eq18 dX11_layPairs_20 ?_
      refine ex_iinc (pc := 21) (x1 + 1) 1 [(1, .int (x1 + 1)), (0, .ref x0)] dX11_layPairs_21 rfl rfl (by decide) rfl ?_
      refine ex_goto (pc := 24) 2 dX11_layPairs_24 rfl ?_
      refine ex_sub (lo' := [(0, .ref x0), (1, .int (x1 + 1))]) [1, 0] rfl ?_
      exact ih _ _ _ _  h
noncomputable def f_X11_layPairs_0 (x0 : Nat) (M : Mem) : Option (Mem) :=
  f_X11_layPairs_2 fu x0 0 M
set_option maxHeartbeats 4000000 in
theorem t_X11_layPairs_0 {X : XV} {d : Nat} (hd : 3 ≤ d + 1) : ∀ (x0 : Nat) (M : Mem) (res : Mem), f_X11_layPairs_0  x0 M = some res → Ex X (d + 1) mX11_layPairs 0 [(0, .ref x0)] [] M none res := by
  intro x0 M res  h
  unfold f_X11_layPairs_0 at h
  refine ex_iconst (pc := 0) 0 dX11_layPairs_0 rfl ?_
  refine ex_istore_n (pc := 1) [(1, .int 0), (0, .ref x0)] dX11_layPairs_1 rfl (by decide) rfl ?_
  refine ex_sub (lo' := [(0, .ref x0), (1, .int 0)]) [1, 0] rfl ?_
  exact t_X11_layPairs_2 hd  _ _ _ _ _  h
noncomputable def f_X11_layPairs (x0 : Nat) (M : Mem) : Option (Mem) := if isOb M 11 x0 = true then f_X11_layPairs_0 x0 M else none
theorem o_X11_layPairs {x0 : Nat} {M : Mem} {res : Mem} (h : f_X11_layPairs x0 M = some res) : isO M 11 x0 := by
  unfold f_X11_layPairs at h
  split at h
  · rename_i hc; exact isOb_iff hc
  · cases h
set_option maxHeartbeats 4000000 in
theorem s_X11_layPairs {X : XV} {d : Nat} (hd : 3 ≤ d) {x0 : Nat} {M : Mem} {res : Mem} (h : f_X11_layPairs x0 M = some res) : Mx X d mX11_layPairs [.ref x0] M none res := by
  obtain ⟨d, rfl⟩ : ∃ e, d = e + 1 := ⟨d - 1, by omega⟩
  unfold f_X11_layPairs at h
  split at h
  rotate_left
  · cases h
  refine Mx.of (by decide) (Nat.le_of_ble_eq_true rfl) (rfl) ?_
  exact ex_sub (lo' := [(0, .ref x0)]) [0] rfl (t_X11_layPairs_0 hd _ _ _  h)
noncomputable def f_X11_paired_17 (n0 : Nat) (x0 : Nat) (x1 : Int32) (x2 : Int32) (M : Mem) : Option (Int32 × Mem) :=
  match n0 with
  | 0 => none
  | n + 1 =>
    (gR M 11 x0 33).bind fun v1 =>
    (rI M v1 x2).bind fun v2 =>
    if v2 = x1 then
    (some (x2, M))
    else
    (f_X11_paired_17 n x0 x1 (x2 + 1) M)
set_option maxHeartbeats 4000000 in
theorem t_X11_paired_17 {X : XV} {d : Nat} (hd : 4 ≤ d + 1) : ∀ (n : Nat) (x0 : Nat) (x1 : Int32) (x2 : Int32) (M : Mem) (res : Int32 × Mem), f_X11_paired_17 n  x0 x1 x2 M = some res → Ex X (d + 1) mX11_paired 17 [(0, .ref x0), (1, .int x1), (2, .int x2)] [] M (some (.int res.1)) res.2 := by
  intro n
  induction n with
  | zero =>
    intro x0 x1 x2 M res  h
    unfold f_X11_paired_17 at h
    cases h
  | succ n ih =>
    intro x0 x1 x2 M res  h
    unfold f_X11_paired_17 at h
    refine ex_aload_n (pc := 17) 0 dX11_paired_17 rfl rfl ?_
    obtain ⟨v1, ev1, h⟩ := ob_some h
    refine ex_gR (pc := 18) ev1 dX11_paired_18 lfX11_71 ?_
    refine ex_iload_n (pc := 21) 2 dX11_paired_21 rfl rfl ?_
    obtain ⟨v2, ev2, h⟩ := ob_some h
    refine ex_rI (pc := 22) ev2 dX11_paired_22 ?_
    refine ex_iload_n (pc := 23) 1 dX11_paired_23 rfl rfl ?_
    by_cases c3 : v2 = x1
    · rw [if_pos c3] at h
      refine ex_icmp_eq_t (pc := 24) 33 dX11_paired_24 rfl c3 ?_
      refine ex_iload_n (pc := 33) 2 dX11_paired_33 rfl rfl ?_
      cases h
      exact ex_ireturn (pc := 34) dX11_paired_34
    · rw [if_neg c3] at h
      refine ex_icmp_eq_f (pc := 24) dX11_paired_24 33 rfl c3 ?_
      refine ex_iinc (pc := 27) (x2 + 1) 2 [(2, .int (x2 + 1)), (0, .ref x0), (1, .int x1)] dX11_paired_27 rfl rfl (by decide) rfl ?_
      refine ex_goto (pc := 30) 17 dX11_paired_30 rfl ?_
      refine ex_sub (lo' := [(0, .ref x0), (1, .int x1), (2, .int (x2 + 1))]) [1, 2, 0] rfl ?_
      exact ih _ _ _ _ _  h
noncomputable def f_X11_paired_0 (x0 : Nat) (x1 : Int32) (M : Mem) : Option (Int32 × Mem) :=
  (f_X11_isIn x1 0 4).bind fun v4 =>
  if v4 = true then
  ((f_X11_layPairs x0 M).bind fun q6 =>
  f_X11_paired_17 fu x0 x1 0 q6)
  else
  (some ((-1), M))
set_option maxHeartbeats 4000000 in
theorem t_X11_paired_0 {X : XV} {d : Nat} (hd : 4 ≤ d + 1) : ∀ (x0 : Nat) (x1 : Int32) (M : Mem) (res : Int32 × Mem), f_X11_paired_0  x0 x1 M = some res → Ex X (d + 1) mX11_paired 0 [(0, .ref x0), (1, .int x1)] [] M (some (.int res.1)) res.2 := by
  intro x0 x1 M res  h
  unfold f_X11_paired_0 at h
  refine ex_iload_n (pc := 0) 1 dX11_paired_0 rfl rfl ?_
  refine ex_iconst (pc := 1) 0 dX11_paired_1 rfl ?_
  refine ex_iconst (pc := 2) 4 dX11_paired_2 rfl ?_
  obtain ⟨v4, ev4, h⟩ := ob_some h
  refine ex_callS3r (pc := 3) dX11_paired_3 jX11_isIn lmX11_87 jsX11_isIn (Nat.le_of_ble_eq_true rfl) (s_X11_isIn (by omega)  ev4) ?_
  by_cases c5 : v4 = true
  · rw [if_pos c5] at h
    refine ex_if_ne_t (pc := 6) 11 dX11_paired_6 rfl (jz_ne_t c5) ?_
    refine ex_aload_n (pc := 11) 0 dX11_paired_11 rfl rfl ?_
    obtain ⟨q6, eq6, h⟩ := ob_some h
    refine ex_callV0v (pc := 12) dX11_paired_12 jX11_layPairs lmX11_483 jiX11_layPairs jvX11_layPairs (o_X11_layPairs eq6) rfl (Nat.le_of_ble_eq_true rfl) (s_X11_layPairs (by omega)  eq6) ?_
    refine ex_iconst (pc := 15) 0 dX11_paired_15 rfl ?_
    refine ex_istore_n (pc := 16) [(2, .int 0), (0, .ref x0), (1, .int x1)] dX11_paired_16 rfl (by decide) rfl ?_
    refine ex_sub (lo' := [(0, .ref x0), (1, .int x1), (2, .int 0)]) [1, 2, 0] rfl ?_
    exact t_X11_paired_17 hd  _ _ _ _ _ _  h
  · rw [if_neg c5] at h
    refine ex_if_ne_f (pc := 6) dX11_paired_6 11 rfl (jz_ne_f c5) ?_
    refine ex_iconst (pc := 9) (-1) dX11_paired_9 rfl ?_
    cases h
    exact ex_ireturn (pc := 10) dX11_paired_10
noncomputable def f_X11_paired (x0 : Nat) (x1 : Int32) (M : Mem) : Option (Int32 × Mem) := if isOb M 11 x0 = true then f_X11_paired_0 x0 x1 M else none
theorem o_X11_paired {x0 : Nat} {x1 : Int32} {M : Mem} {res : Int32 × Mem} (h : f_X11_paired x0 x1 M = some res) : isO M 11 x0 := by
  unfold f_X11_paired at h
  split at h
  · rename_i hc; exact isOb_iff hc
  · cases h
set_option maxHeartbeats 4000000 in
theorem s_X11_paired {X : XV} {d : Nat} (hd : 4 ≤ d) {x0 : Nat} {x1 : Int32} {M : Mem} {res : Int32 × Mem} (h : f_X11_paired x0 x1 M = some res) : Mx X d mX11_paired [.ref x0, .int x1] M (some (.int res.1)) res.2 := by
  obtain ⟨d, rfl⟩ : ∃ e, d = e + 1 := ⟨d - 1, by omega⟩
  unfold f_X11_paired at h
  split at h
  rotate_left
  · cases h
  refine Mx.of (by decide) (Nat.le_of_ble_eq_true rfl) (⟨_, rfl, rfl⟩) ?_
  exact ex_sub (lo' := [(0, .ref x0), (1, .int x1)]) [0, 1] rfl (t_X11_paired_0 hd _ _ _ _  h)
noncomputable def f_X11_blocks_0 (x0 : Nat) (x1 : Int32) (x2 : Int32) (M : Mem) : Option (Int32) :=
  (f_X11_isIn x1 0 4).bind fun v1 =>
  if v1 = false then
  (some (-1))
  else
  ((f_X11_isIn x2 0 4).bind fun v3 =>
  if v3 = true then
  ((f_X11_isBetter x0 0 x1 x2 x1 M).bind fun v5 =>
  if v5 = false then
  (some 0)
  else
  ((f_X11_isBetter x0 25 x2 x1 x2 M).bind fun v7 =>
  if v7 = false then
  (some 0)
  else
  (some 1)))
  else
  (some (-1)))
set_option maxHeartbeats 4000000 in
theorem t_X11_blocks_0 {X : XV} {d : Nat} (hd : 2 ≤ d + 1) : ∀ (x0 : Nat) (x1 : Int32) (x2 : Int32) (M : Mem) (res : Int32), f_X11_blocks_0  x0 x1 x2 M = some res → Ex X (d + 1) mX11_blocks 0 [(0, .ref x0), (1, .int x1), (2, .int x2)] [] M (some (.int res)) M := by
  intro x0 x1 x2 M res  h
  unfold f_X11_blocks_0 at h
  refine ex_iload_n (pc := 0) 1 dX11_blocks_0 rfl rfl ?_
  refine ex_iconst (pc := 1) 0 dX11_blocks_1 rfl ?_
  refine ex_iconst (pc := 2) 4 dX11_blocks_2 rfl ?_
  obtain ⟨v1, ev1, h⟩ := ob_some h
  refine ex_callS3r (pc := 3) dX11_blocks_3 jX11_isIn lmX11_87 jsX11_isIn (Nat.le_of_ble_eq_true rfl) (s_X11_isIn (by omega)  ev1) ?_
  by_cases c2 : v1 = false
  · rw [if_pos c2] at h
    refine ex_if_eq_t (pc := 6) 18 dX11_blocks_6 rfl (jz_eq_t c2) ?_
    refine ex_iconst (pc := 18) (-1) dX11_blocks_18 rfl ?_
    cases h
    exact ex_ireturn (pc := 19) dX11_blocks_19
  · rw [if_neg c2] at h
    refine ex_if_eq_f (pc := 6) dX11_blocks_6 18 rfl (jz_eq_f c2) ?_
    refine ex_iload_n (pc := 9) 2 dX11_blocks_9 rfl rfl ?_
    refine ex_iconst (pc := 10) 0 dX11_blocks_10 rfl ?_
    refine ex_iconst (pc := 11) 4 dX11_blocks_11 rfl ?_
    obtain ⟨v3, ev3, h⟩ := ob_some h
    refine ex_callS3r (pc := 12) dX11_blocks_12 jX11_isIn lmX11_87 jsX11_isIn (Nat.le_of_ble_eq_true rfl) (s_X11_isIn (by omega)  ev3) ?_
    by_cases c4 : v3 = true
    · rw [if_pos c4] at h
      refine ex_if_ne_t (pc := 15) 20 dX11_blocks_15 rfl (jz_ne_t c4) ?_
      refine ex_aload_n (pc := 20) 0 dX11_blocks_20 rfl rfl ?_
      refine ex_iconst (pc := 21) 0 dX11_blocks_21 rfl ?_
      refine ex_iload_n (pc := 22) 1 dX11_blocks_22 rfl rfl ?_
      refine ex_iload_n (pc := 23) 2 dX11_blocks_23 rfl rfl ?_
      refine ex_iload_n (pc := 24) 1 dX11_blocks_24 rfl rfl ?_
      obtain ⟨v5, ev5, h⟩ := ob_some h
      refine ex_callV4r (pc := 25) dX11_blocks_25 jX11_isBetter lmX11_477 jiX11_isBetter jvX11_isBetter (o_X11_isBetter ev5) rfl (Nat.le_of_ble_eq_true rfl) (s_X11_isBetter (by omega)  ev5) ?_
      by_cases c6 : v5 = false
      · rw [if_pos c6] at h
        refine ex_if_eq_t (pc := 28) 47 dX11_blocks_28 rfl (jz_eq_t c6) ?_
        refine ex_iconst (pc := 47) 0 dX11_blocks_47 rfl ?_
        cases h
        exact ex_ireturn (pc := 48) dX11_blocks_48
      · rw [if_neg c6] at h
        refine ex_if_eq_f (pc := 28) dX11_blocks_28 47 rfl (jz_eq_f c6) ?_
        refine ex_aload_n (pc := 31) 0 dX11_blocks_31 rfl rfl ?_
        refine ex_bipush (pc := 32) 25 dX11_blocks_32 (by decide) ?_
        refine ex_iload_n (pc := 34) 2 dX11_blocks_34 rfl rfl ?_
        refine ex_iload_n (pc := 35) 1 dX11_blocks_35 rfl rfl ?_
        refine ex_iload_n (pc := 36) 2 dX11_blocks_36 rfl rfl ?_
        obtain ⟨v7, ev7, h⟩ := ob_some h
        refine ex_callV4r (pc := 37) dX11_blocks_37 jX11_isBetter lmX11_477 jiX11_isBetter jvX11_isBetter (o_X11_isBetter ev7) rfl (Nat.le_of_ble_eq_true rfl) (s_X11_isBetter (by omega)  ev7) ?_
        by_cases c8 : v7 = false
        · rw [if_pos c8] at h
          refine ex_if_eq_t (pc := 40) 47 dX11_blocks_40 rfl (jz_eq_t c8) ?_
          refine ex_iconst (pc := 47) 0 dX11_blocks_47 rfl ?_
          cases h
          exact ex_ireturn (pc := 48) dX11_blocks_48
        · rw [if_neg c8] at h
          refine ex_if_eq_f (pc := 40) dX11_blocks_40 47 rfl (jz_eq_f c8) ?_
          refine ex_iconst (pc := 43) 1 dX11_blocks_43 rfl ?_
          refine ex_goto (pc := 44) 48 dX11_blocks_44 rfl ?_
          cases h
          exact ex_ireturn (pc := 48) dX11_blocks_48
    · rw [if_neg c4] at h
      refine ex_if_ne_f (pc := 15) dX11_blocks_15 20 rfl (jz_ne_f c4) ?_
      refine ex_iconst (pc := 18) (-1) dX11_blocks_18 rfl ?_
      cases h
      exact ex_ireturn (pc := 19) dX11_blocks_19
noncomputable def f_X11_blocks (x0 : Nat) (x1 : Int32) (x2 : Int32) (M : Mem) : Option (Int32) := if isOb M 11 x0 = true then f_X11_blocks_0 x0 x1 x2 M else none
theorem o_X11_blocks {x0 : Nat} {x1 : Int32} {x2 : Int32} {M : Mem} {res : Int32} (h : f_X11_blocks x0 x1 x2 M = some res) : isO M 11 x0 := by
  unfold f_X11_blocks at h
  split at h
  · rename_i hc; exact isOb_iff hc
  · cases h
set_option maxHeartbeats 4000000 in
theorem s_X11_blocks {X : XV} {d : Nat} (hd : 2 ≤ d) {x0 : Nat} {x1 : Int32} {x2 : Int32} {M : Mem} {res : Int32} (h : f_X11_blocks x0 x1 x2 M = some res) : Mx X d mX11_blocks [.ref x0, .int x1, .int x2] M (some (.int res)) M := by
  obtain ⟨d, rfl⟩ : ∃ e, d = e + 1 := ⟨d - 1, by omega⟩
  unfold f_X11_blocks at h
  split at h
  rotate_left
  · cases h
  refine Mx.of (by decide) (Nat.le_of_ble_eq_true rfl) (⟨_, rfl, rfl⟩) ?_
  exact ex_sub (lo' := [(0, .ref x0), (1, .int x1), (2, .int x2)]) [0, 1, 2] rfl (t_X11_blocks_0 hd _ _ _ _ _  h)
noncomputable def f_X11_needs_0 (x0 : Nat) (x1 : Int32) (x2 : Int32) (M : Mem) : Option (Bool × Mem) :=
  (f_X11_isIn x1 0 7).bind fun v1 =>
  if v1 = false then
  (some (false, M))
  else
  ((f_X11_isIn x2 0 99).bind fun v3 =>
  if v3 = true then
  ((gR M 11 x0 0).bind fun v5 =>
  (wI M v5 (203 + x1) x2).bind fun q6 =>
  some (true, q6))
  else
  (some (false, M)))
set_option maxHeartbeats 4000000 in
theorem t_X11_needs_0 {X : XV} {d : Nat} (hd : 2 ≤ d + 1) : ∀ (x0 : Nat) (x1 : Int32) (x2 : Int32) (M : Mem) (res : Bool × Mem), f_X11_needs_0  x0 x1 x2 M = some res → Ex X (d + 1) mX11_needs 0 [(0, .ref x0), (1, .int x1), (2, .int x2)] [] M (some (.int (jz res.1))) res.2 := by
  intro x0 x1 x2 M res  h
  unfold f_X11_needs_0 at h
  refine ex_iload_n (pc := 0) 1 dX11_needs_0 rfl rfl ?_
  refine ex_iconst (pc := 1) 0 dX11_needs_1 rfl ?_
  refine ex_bipush (pc := 2) 7 dX11_needs_2 (by decide) ?_
  obtain ⟨v1, ev1, h⟩ := ob_some h
  refine ex_callS3r (pc := 4) dX11_needs_4 jX11_isIn lmX11_87 jsX11_isIn (Nat.le_of_ble_eq_true rfl) (s_X11_isIn (by omega)  ev1) ?_
  by_cases c2 : v1 = false
  · rw [if_pos c2] at h
    refine ex_if_eq_t (pc := 7) 20 dX11_needs_7 rfl (jz_eq_t c2) ?_
    refine ex_iconst (pc := 20) 0 dX11_needs_20 rfl ?_
    cases h
    exact ex_ireturn (pc := 21) dX11_needs_21
  · rw [if_neg c2] at h
    refine ex_if_eq_f (pc := 7) dX11_needs_7 20 rfl (jz_eq_f c2) ?_
    refine ex_iload_n (pc := 10) 2 dX11_needs_10 rfl rfl ?_
    refine ex_iconst (pc := 11) 0 dX11_needs_11 rfl ?_
    refine ex_bipush (pc := 12) 99 dX11_needs_12 (by decide) ?_
    obtain ⟨v3, ev3, h⟩ := ob_some h
    refine ex_callS3r (pc := 14) dX11_needs_14 jX11_isIn lmX11_87 jsX11_isIn (Nat.le_of_ble_eq_true rfl) (s_X11_isIn (by omega)  ev3) ?_
    by_cases c4 : v3 = true
    · rw [if_pos c4] at h
      refine ex_if_ne_t (pc := 17) 22 dX11_needs_17 rfl (jz_ne_t c4) ?_
      refine ex_aload_n (pc := 22) 0 dX11_needs_22 rfl rfl ?_
      obtain ⟨v5, ev5, h⟩ := ob_some h
      refine ex_gR (pc := 23) ev5 dX11_needs_23 lfX11_7 ?_
      refine ex_sipush (pc := 26) 203 dX11_needs_26 (by decide) ?_
      refine ex_iload_n (pc := 29) 1 dX11_needs_29 rfl rfl ?_
      refine ex_iadd (pc := 30) dX11_needs_30 ?_
      refine ex_iload_n (pc := 31) 2 dX11_needs_31 rfl rfl ?_
      obtain ⟨q6, eq6, h⟩ := ob_some h
      refine ex_wI (pc := 32) eq6 dX11_needs_32 ?_
      refine ex_iconst (pc := 33) 1 dX11_needs_33 rfl ?_
      cases h
      exact ex_ireturn (pc := 34) dX11_needs_34
    · rw [if_neg c4] at h
      refine ex_if_ne_f (pc := 17) dX11_needs_17 22 rfl (jz_ne_f c4) ?_
      refine ex_iconst (pc := 20) 0 dX11_needs_20 rfl ?_
      cases h
      exact ex_ireturn (pc := 21) dX11_needs_21
noncomputable def f_X11_needs (x0 : Nat) (x1 : Int32) (x2 : Int32) (M : Mem) : Option (Bool × Mem) := if isOb M 11 x0 = true then f_X11_needs_0 x0 x1 x2 M else none
theorem o_X11_needs {x0 : Nat} {x1 : Int32} {x2 : Int32} {M : Mem} {res : Bool × Mem} (h : f_X11_needs x0 x1 x2 M = some res) : isO M 11 x0 := by
  unfold f_X11_needs at h
  split at h
  · rename_i hc; exact isOb_iff hc
  · cases h
set_option maxHeartbeats 4000000 in
theorem s_X11_needs {X : XV} {d : Nat} (hd : 2 ≤ d) {x0 : Nat} {x1 : Int32} {x2 : Int32} {M : Mem} {res : Bool × Mem} (h : f_X11_needs x0 x1 x2 M = some res) : Mx X d mX11_needs [.ref x0, .int x1, .int x2] M (some (.int (jz res.1))) res.2 := by
  obtain ⟨d, rfl⟩ : ∃ e, d = e + 1 := ⟨d - 1, by omega⟩
  unfold f_X11_needs at h
  split at h
  rotate_left
  · cases h
  refine Mx.of (by decide) (Nat.le_of_ble_eq_true rfl) (⟨_, rfl, jz_nar _⟩) ?_
  exact ex_sub (lo' := [(0, .ref x0), (1, .int x1), (2, .int x2)]) [0, 1, 2] rfl (t_X11_needs_0 hd _ _ _ _ _  h)
noncomputable def f_X11_costBy_29 (k9 : Nat → Int32 → Int32 → Int32 → Int32 → Int32 → Int32 → Mem → Option (Int32 × Mem)) (x0 : Nat) (x1 : Int32) (x2 : Int32) (x3 : Int32) (x4 : Int32) (x5 : Int32) (x6 : Int32) (M : Mem) : Option (Int32 × Mem) :=
  (gR M 11 x0 35).bind fun v1 =>
  (wI M v1 x6 0).bind fun q2 =>
  (gR q2 11 x0 35).bind fun v3 =>
  (rI q2 v3 x5).bind fun v4 =>
  (gR q2 11 x0 0).bind fun v5 =>
  (rI q2 v5 (203 + x6)).bind fun v6 =>
  (wI q2 v3 x5 (v4 + v6)).bind fun q7 =>
  (gR q7 11 x0 0).bind fun v8 =>
  (rI q7 v8 (203 + x6)).bind fun v9 =>
  k9 x0 x1 x2 x3 (x4 + ((x3 * (x6 - x5)) * v9)) x5 (x6 + 1) q7
set_option maxHeartbeats 4000000 in
theorem t_X11_costBy_29 {X : XV} {d : Nat} (hd : 2 ≤ d + 1) {k9 : Nat → Int32 → Int32 → Int32 → Int32 → Int32 → Int32 → Mem → Option (Int32 × Mem)} (hk9 : ∀ (x0 : Nat) (x1 : Int32) (x2 : Int32) (x3 : Int32) (x4 : Int32) (x5 : Int32) (x6 : Int32) (M : Mem) (res : Int32 × Mem), k9 x0 x1 x2 x3 x4 x5 x6 M = some res → Ex X (d + 1) mX11_costBy 9 [(0, .ref x0), (1, .int x1), (2, .int x2), (3, .int x3), (4, .int x4), (5, .int x5), (6, .int x6)] [] M (some (.int res.1)) res.2) : ∀ (x0 : Nat) (x1 : Int32) (x2 : Int32) (x3 : Int32) (x4 : Int32) (x5 : Int32) (x6 : Int32) (M : Mem) (res : Int32 × Mem), f_X11_costBy_29 k9 x0 x1 x2 x3 x4 x5 x6 M = some res → Ex X (d + 1) mX11_costBy 29 [(0, .ref x0), (1, .int x1), (2, .int x2), (3, .int x3), (4, .int x4), (5, .int x5), (6, .int x6)] [] M (some (.int res.1)) res.2 := by
  intro x0 x1 x2 x3 x4 x5 x6 M res  h
  unfold f_X11_costBy_29 at h
  refine ex_aload_n (pc := 29) 0 dX11_costBy_29 rfl rfl ?_
  obtain ⟨v1, ev1, h⟩ := ob_some h
  refine ex_gR (pc := 30) ev1 dX11_costBy_30 lfX11_77 ?_
  refine ex_iload (pc := 33) 6 dX11_costBy_33 rfl ?_
  refine ex_iconst (pc := 35) 0 dX11_costBy_35 rfl ?_
  obtain ⟨q2, eq2, h⟩ := ob_some h
  refine ex_wI (pc := 36) eq2 dX11_costBy_36 ?_
  refine ex_aload_n (pc := 37) 0 dX11_costBy_37 rfl rfl ?_
  obtain ⟨v3, ev3, h⟩ := ob_some h
  refine ex_gR (pc := 38) ev3 dX11_costBy_38 lfX11_77 ?_
  refine ex_iload (pc := 41) 5 dX11_costBy_41 rfl ?_
  refine ex_dup2 (pc := 43) dX11_costBy_43 rfl rfl ?_
  obtain ⟨v4, ev4, h⟩ := ob_some h
  refine ex_rI (pc := 44) ev4 dX11_costBy_44 ?_
  refine ex_aload_n (pc := 45) 0 dX11_costBy_45 rfl rfl ?_
  obtain ⟨v5, ev5, h⟩ := ob_some h
  refine ex_gR (pc := 46) ev5 dX11_costBy_46 lfX11_7 ?_
  refine ex_sipush (pc := 49) 203 dX11_costBy_49 (by decide) ?_
  refine ex_iload (pc := 52) 6 dX11_costBy_52 rfl ?_
  refine ex_iadd (pc := 54) dX11_costBy_54 ?_
  obtain ⟨v6, ev6, h⟩ := ob_some h
  refine ex_rI (pc := 55) ev6 dX11_costBy_55 ?_
  refine ex_iadd (pc := 56) dX11_costBy_56 ?_
  obtain ⟨q7, eq7, h⟩ := ob_some h
  refine ex_wI (pc := 57) eq7 dX11_costBy_57 ?_
  refine ex_iload (pc := 58) 4 dX11_costBy_58 rfl ?_
  refine ex_iload_n (pc := 60) 3 dX11_costBy_60 rfl rfl ?_
  refine ex_iload (pc := 61) 6 dX11_costBy_61 rfl ?_
  refine ex_iload (pc := 63) 5 dX11_costBy_63 rfl ?_
  refine ex_isub (pc := 65) dX11_costBy_65 ?_
  refine ex_imul (pc := 66) dX11_costBy_66 ?_
  refine ex_aload_n (pc := 67) 0 dX11_costBy_67 rfl rfl ?_
  obtain ⟨v8, ev8, h⟩ := ob_some h
  refine ex_gR (pc := 68) ev8 dX11_costBy_68 lfX11_7 ?_
  refine ex_sipush (pc := 71) 203 dX11_costBy_71 (by decide) ?_
  refine ex_iload (pc := 74) 6 dX11_costBy_74 rfl ?_
  refine ex_iadd (pc := 76) dX11_costBy_76 ?_
  obtain ⟨v9, ev9, h⟩ := ob_some h
  refine ex_rI (pc := 77) ev9 dX11_costBy_77 ?_
  refine ex_imul (pc := 78) dX11_costBy_78 ?_
  refine ex_iadd (pc := 79) dX11_costBy_79 ?_
  refine ex_istore (pc := 80) [(4, .int (x4 + ((x3 * (x6 - x5)) * v9))), (0, .ref x0), (1, .int x1), (2, .int x2), (3, .int x3), (5, .int x5), (6, .int x6)] dX11_costBy_80 (by decide) rfl ?_
  refine ex_iinc (pc := 82) (x6 + 1) 6 [(6, .int (x6 + 1)), (4, .int (x4 + ((x3 * (x6 - x5)) * v9))), (0, .ref x0), (1, .int x1), (2, .int x2), (3, .int x3), (5, .int x5)] dX11_costBy_82 rfl rfl (by decide) rfl ?_
  refine ex_goto (pc := 85) 9 dX11_costBy_85 rfl ?_
  refine ex_sub (lo' := [(0, .ref x0), (1, .int x1), (2, .int x2), (3, .int x3), (4, .int (x4 + ((x3 * (x6 - x5)) * v9))), (5, .int x5), (6, .int (x6 + 1))]) [2, 3, 4, 5, 1, 6, 0] rfl ?_
  exact hk9 _ _ _ _ _ _ _ _ _  h
noncomputable def f_X11_costBy_115 (k91 : Nat → Int32 → Int32 → Int32 → Mem → Option (Int32 × Mem)) (x0 : Nat) (x2 : Int32) (x6 : Int32) (s0 : Int32) (s1 : Int32) (M : Mem) : Option (Int32 × Mem) :=
  k91 x0 x2 (s1 + s0) (x6 + 1) M
set_option maxHeartbeats 4000000 in
theorem t_X11_costBy_115 {X : XV} {d : Nat} (hd : 2 ≤ d + 1) {k91 : Nat → Int32 → Int32 → Int32 → Mem → Option (Int32 × Mem)} (hk91 : ∀ (x0 : Nat) (x2 : Int32) (x4 : Int32) (x6 : Int32) (M : Mem) (res : Int32 × Mem), k91 x0 x2 x4 x6 M = some res → Ex X (d + 1) mX11_costBy 91 [(0, .ref x0), (2, .int x2), (4, .int x4), (6, .int x6)] [] M (some (.int res.1)) res.2) : ∀ (x0 : Nat) (x2 : Int32) (x6 : Int32) (s0 : Int32) (s1 : Int32) (M : Mem) (res : Int32 × Mem), f_X11_costBy_115 k91 x0 x2 x6 s0 s1 M = some res → Ex X (d + 1) mX11_costBy 115 [(0, .ref x0), (2, .int x2), (6, .int x6)] [.int s0, .int s1] M (some (.int res.1)) res.2 := by
  intro x0 x2 x6 s0 s1 M res  h
  unfold f_X11_costBy_115 at h
  refine ex_iadd (pc := 115) dX11_costBy_115 ?_
  refine ex_istore (pc := 116) [(4, .int (s1 + s0)), (0, .ref x0), (2, .int x2), (6, .int x6)] dX11_costBy_116 (by decide) rfl ?_
  refine ex_iinc (pc := 118) (x6 + 1) 3 [(6, .int (x6 + 1)), (4, .int (s1 + s0)), (0, .ref x0), (2, .int x2)] dX11_costBy_118 rfl rfl (by decide) rfl ?_
  refine ex_goto (pc := 121) 91 dX11_costBy_121 rfl ?_
  refine ex_sub (lo' := [(0, .ref x0), (2, .int x2), (4, .int (s1 + s0)), (6, .int (x6 + 1))]) [2, 3, 1, 0] rfl ?_
  exact hk91 _ _ _ _ _ _  h
noncomputable def f_X11_costBy_91 (n0 : Nat) (x0 : Nat) (x2 : Int32) (x4 : Int32) (x6 : Int32) (M : Mem) : Option (Int32 × Mem) :=
  match n0 with
  | 0 => none
  | n + 1 =>
    if 8 ≤ x6 then
    (some (x4, M))
    else
    ((gR M 11 x0 35).bind fun v11 =>
    (rI M v11 x6).bind fun v12 =>
    if v12 ≤ 0 then
    (f_X11_costBy_115 (f_X11_costBy_91 n) x0 x2 x6 0 x4 M)
    else
    (f_X11_costBy_115 (f_X11_costBy_91 n) x0 x2 x6 x2 x4 M))
set_option maxHeartbeats 4000000 in
theorem t_X11_costBy_91 {X : XV} {d : Nat} (hd : 2 ≤ d + 1) : ∀ (n : Nat) (x0 : Nat) (x2 : Int32) (x4 : Int32) (x6 : Int32) (M : Mem) (res : Int32 × Mem), f_X11_costBy_91 n  x0 x2 x4 x6 M = some res → Ex X (d + 1) mX11_costBy 91 [(0, .ref x0), (2, .int x2), (4, .int x4), (6, .int x6)] [] M (some (.int res.1)) res.2 := by
  intro n
  induction n with
  | zero =>
    intro x0 x2 x4 x6 M res  h
    unfold f_X11_costBy_91 at h
    cases h
  | succ n ih =>
    intro x0 x2 x4 x6 M res  h
    unfold f_X11_costBy_91 at h
    refine ex_iload (pc := 91) 3 dX11_costBy_91 rfl ?_
    refine ex_bipush (pc := 93) 8 dX11_costBy_93 (by decide) ?_
    by_cases c10 : 8 ≤ x6
    · rw [if_pos c10] at h
      refine ex_icmp_ge_t (pc := 95) 124 dX11_costBy_95 rfl c10 ?_
      refine ex_iload (pc := 124) 2 dX11_costBy_124 rfl ?_
      cases h
      exact ex_ireturn (pc := 126) dX11_costBy_126
    · rw [if_neg c10] at h
      refine ex_icmp_ge_f (pc := 95) dX11_costBy_95 124 rfl c10 ?_
      refine ex_iload (pc := 98) 2 dX11_costBy_98 rfl ?_
      refine ex_aload_n (pc := 100) 0 dX11_costBy_100 rfl rfl ?_
      obtain ⟨v11, ev11, h⟩ := ob_some h
      refine ex_gR (pc := 101) ev11 dX11_costBy_101 lfX11_77 ?_
      refine ex_iload (pc := 104) 3 dX11_costBy_104 rfl ?_
      obtain ⟨v12, ev12, h⟩ := ob_some h
      refine ex_rI (pc := 106) ev12 dX11_costBy_106 ?_
      by_cases c13 : v12 ≤ 0
      · rw [if_pos c13] at h
        refine ex_if_le_t (pc := 107) 114 dX11_costBy_107 rfl c13 ?_
        refine ex_iconst (pc := 114) 0 dX11_costBy_114 rfl ?_
        refine ex_sub (lo' := [(0, .ref x0), (2, .int x2), (6, .int x6)]) [0, 1, 3] rfl ?_
        exact t_X11_costBy_115 hd ih _ _ _ _ _ _ _  h
      · rw [if_neg c13] at h
        refine ex_if_le_f (pc := 107) dX11_costBy_107 114 rfl c13 ?_
        refine ex_iload_n (pc := 110) 1 dX11_costBy_110 rfl rfl ?_
        refine ex_goto (pc := 111) 115 dX11_costBy_111 rfl ?_
        refine ex_sub (lo' := [(0, .ref x0), (2, .int x2), (6, .int x6)]) [0, 1, 3] rfl ?_
        exact t_X11_costBy_115 hd ih _ _ _ _ _ _ _  h
noncomputable def f_X11_costBy_9 (n0 : Nat) (x0 : Nat) (x1 : Int32) (x2 : Int32) (x3 : Int32) (x4 : Int32) (x5 : Int32) (x6 : Int32) (M : Mem) : Option (Int32 × Mem) :=
  match n0 with
  | 0 => none
  | n + 1 =>
    if 8 ≤ x6 then
    (f_X11_costBy_91 fu x0 x2 x4 0 M)
    else
    ((f_X11_has x1 x6).bind fun v15 =>
    if v15 = false then
    (f_X11_costBy_29 (f_X11_costBy_9 n) x0 x1 x2 x3 x4 x5 x6 M)
    else
    (f_X11_costBy_29 (f_X11_costBy_9 n) x0 x1 x2 x3 x4 x6 x6 M))
set_option maxHeartbeats 4000000 in
theorem t_X11_costBy_9 {X : XV} {d : Nat} (hd : 2 ≤ d + 1) : ∀ (n : Nat) (x0 : Nat) (x1 : Int32) (x2 : Int32) (x3 : Int32) (x4 : Int32) (x5 : Int32) (x6 : Int32) (M : Mem) (res : Int32 × Mem), f_X11_costBy_9 n  x0 x1 x2 x3 x4 x5 x6 M = some res → Ex X (d + 1) mX11_costBy 9 [(0, .ref x0), (1, .int x1), (2, .int x2), (3, .int x3), (4, .int x4), (5, .int x5), (6, .int x6)] [] M (some (.int res.1)) res.2 := by
  intro n
  induction n with
  | zero =>
    intro x0 x1 x2 x3 x4 x5 x6 M res  h
    unfold f_X11_costBy_9 at h
    cases h
  | succ n ih =>
    intro x0 x1 x2 x3 x4 x5 x6 M res  h
    unfold f_X11_costBy_9 at h
    refine ex_iload (pc := 9) 6 dX11_costBy_9 rfl ?_
    refine ex_bipush (pc := 11) 8 dX11_costBy_11 (by decide) ?_
    by_cases c14 : 8 ≤ x6
    · rw [if_pos c14] at h
      refine ex_icmp_ge_t (pc := 13) 88 dX11_costBy_13 rfl c14 ?_
      refine ex_iconst (pc := 88) 0 dX11_costBy_88 rfl ?_
      refine ex_istore (pc := 89) [(6, .int 0), (0, .ref x0), (1, .int x1), (2, .int x2), (3, .int x3), (4, .int x4), (5, .int x5)] dX11_costBy_89 (by decide) rfl ?_
      refine ex_sub (lo' := [(0, .ref x0), (2, .int x2), (4, .int x4), (6, .int 0)]) [1, 3, 5, 0] rfl ?_
      exact t_X11_costBy_91 hd  _ _ _ _ _ _ _  h
    · rw [if_neg c14] at h
      refine ex_icmp_ge_f (pc := 13) dX11_costBy_13 88 rfl c14 ?_
      refine ex_iload_n (pc := 16) 1 dX11_costBy_16 rfl rfl ?_
      refine ex_iload (pc := 17) 6 dX11_costBy_17 rfl ?_
      obtain ⟨v15, ev15, h⟩ := ob_some h
      refine ex_callS2r (pc := 19) dX11_costBy_19 jX11_has lmX11_269 jsX11_has (Nat.le_of_ble_eq_true rfl) (s_X11_has (by omega)  ev15) ?_
      by_cases c16 : v15 = false
      · rw [if_pos c16] at h
        refine ex_if_eq_t (pc := 22) 29 dX11_costBy_22 rfl (jz_eq_t c16) ?_
        refine ex_sub (lo' := [(0, .ref x0), (1, .int x1), (2, .int x2), (3, .int x3), (4, .int x4), (5, .int x5), (6, .int x6)]) [0, 1, 2, 3, 4, 5, 6] rfl ?_
        exact t_X11_costBy_29 hd ih _ _ _ _ _ _ _ _ _  h
      · rw [if_neg c16] at h
        refine ex_if_eq_f (pc := 22) dX11_costBy_22 29 rfl (jz_eq_f c16) ?_
        refine ex_iload (pc := 25) 6 dX11_costBy_25 rfl ?_
        refine ex_istore (pc := 27) [(5, .int x6), (0, .ref x0), (1, .int x1), (2, .int x2), (3, .int x3), (4, .int x4), (6, .int x6)] dX11_costBy_27 (by decide) rfl ?_
        refine ex_sub (lo' := [(0, .ref x0), (1, .int x1), (2, .int x2), (3, .int x3), (4, .int x4), (5, .int x6), (6, .int x6)]) [1, 2, 3, 4, 5, 0, 6] rfl ?_
        exact t_X11_costBy_29 hd ih _ _ _ _ _ _ _ _ _  h
noncomputable def f_X11_costBy_0 (x0 : Nat) (x1 : Int32) (x2 : Int32) (x3 : Int32) (M : Mem) : Option (Int32 × Mem) :=
  f_X11_costBy_9 fu x0 x1 x2 x3 0 0 0 M
set_option maxHeartbeats 4000000 in
theorem t_X11_costBy_0 {X : XV} {d : Nat} (hd : 2 ≤ d + 1) : ∀ (x0 : Nat) (x1 : Int32) (x2 : Int32) (x3 : Int32) (M : Mem) (res : Int32 × Mem), f_X11_costBy_0  x0 x1 x2 x3 M = some res → Ex X (d + 1) mX11_costBy 0 [(0, .ref x0), (1, .int x1), (2, .int x2), (3, .int x3)] [] M (some (.int res.1)) res.2 := by
  intro x0 x1 x2 x3 M res  h
  unfold f_X11_costBy_0 at h
  refine ex_iconst (pc := 0) 0 dX11_costBy_0 rfl ?_
  refine ex_istore (pc := 1) [(4, .int 0), (0, .ref x0), (1, .int x1), (2, .int x2), (3, .int x3)] dX11_costBy_1 (by decide) rfl ?_
  refine ex_iconst (pc := 3) 0 dX11_costBy_3 rfl ?_
  refine ex_istore (pc := 4) [(5, .int 0), (4, .int 0), (0, .ref x0), (1, .int x1), (2, .int x2), (3, .int x3)] dX11_costBy_4 (by decide) rfl ?_
  refine ex_iconst (pc := 6) 0 dX11_costBy_6 rfl ?_
  refine ex_istore (pc := 7) [(6, .int 0), (5, .int 0), (4, .int 0), (0, .ref x0), (1, .int x1), (2, .int x2), (3, .int x3)] dX11_costBy_7 (by decide) rfl ?_
  refine ex_sub (lo' := [(0, .ref x0), (1, .int x1), (2, .int x2), (3, .int x3), (4, .int 0), (5, .int 0), (6, .int 0)]) [3, 4, 5, 6, 2, 1, 0] rfl ?_
  exact t_X11_costBy_9 hd  _ _ _ _ _ _ _ _ _ _  h
noncomputable def f_X11_costBy (x0 : Nat) (x1 : Int32) (x2 : Int32) (x3 : Int32) (M : Mem) : Option (Int32 × Mem) := if isOb M 11 x0 = true then f_X11_costBy_0 x0 x1 x2 x3 M else none
theorem o_X11_costBy {x0 : Nat} {x1 : Int32} {x2 : Int32} {x3 : Int32} {M : Mem} {res : Int32 × Mem} (h : f_X11_costBy x0 x1 x2 x3 M = some res) : isO M 11 x0 := by
  unfold f_X11_costBy at h
  split at h
  · rename_i hc; exact isOb_iff hc
  · cases h
set_option maxHeartbeats 4000000 in
theorem s_X11_costBy {X : XV} {d : Nat} (hd : 2 ≤ d) {x0 : Nat} {x1 : Int32} {x2 : Int32} {x3 : Int32} {M : Mem} {res : Int32 × Mem} (h : f_X11_costBy x0 x1 x2 x3 M = some res) : Mx X d mX11_costBy [.ref x0, .int x1, .int x2, .int x3] M (some (.int res.1)) res.2 := by
  obtain ⟨d, rfl⟩ : ∃ e, d = e + 1 := ⟨d - 1, by omega⟩
  unfold f_X11_costBy at h
  split at h
  rotate_left
  · cases h
  refine Mx.of (by decide) (Nat.le_of_ble_eq_true rfl) (⟨_, rfl, rfl⟩) ?_
  exact ex_sub (lo' := [(0, .ref x0), (1, .int x1), (2, .int x2), (3, .int x3)]) [0, 1, 2, 3] rfl (t_X11_costBy_0 hd _ _ _ _ _ _  h)
noncomputable def f_X11_isMore_2 (n0 : Nat) (x0 : Nat) (x1 : Int32) (M : Mem) : Option (Bool) :=
  match n0 with
  | 0 => none
  | n + 1 =>
    if 8 ≤ x1 then
    (some false)
    else
    ((gR M 11 x0 35).bind fun v2 =>
    (rI M v2 x1).bind fun v3 =>
    (gR M 11 x0 36).bind fun v4 =>
    (rI M v4 x1).bind fun v5 =>
    if v3 = v5 then
    (f_X11_isMore_2 n x0 (x1 + 1) M)
    else
    ((gR M 11 x0 35).bind fun v7 =>
    (rI M v7 x1).bind fun v8 =>
    (gR M 11 x0 36).bind fun v9 =>
    (rI M v9 x1).bind fun v10 =>
    if v8 ≤ v10 then
    (some false)
    else
    (some true)))
set_option maxHeartbeats 4000000 in
theorem t_X11_isMore_2 {X : XV} {d : Nat} (hd : 1 ≤ d + 1) : ∀ (n : Nat) (x0 : Nat) (x1 : Int32) (M : Mem) (res : Bool), f_X11_isMore_2 n  x0 x1 M = some res → Ex X (d + 1) mX11_isMore 2 [(0, .ref x0), (1, .int x1)] [] M (some (.int (jz res))) M := by
  intro n
  induction n with
  | zero =>
    intro x0 x1 M res  h
    unfold f_X11_isMore_2 at h
    cases h
  | succ n ih =>
    intro x0 x1 M res  h
    unfold f_X11_isMore_2 at h
    refine ex_iload_n (pc := 2) 1 dX11_isMore_2 rfl rfl ?_
    refine ex_bipush (pc := 3) 8 dX11_isMore_3 (by decide) ?_
    by_cases c1 : 8 ≤ x1
    · rw [if_pos c1] at h
      refine ex_icmp_ge_t (pc := 5) 50 dX11_isMore_5 rfl c1 ?_
      refine ex_iconst (pc := 50) 0 dX11_isMore_50 rfl ?_
      cases h
      exact ex_ireturn (pc := 51) dX11_isMore_51
    · rw [if_neg c1] at h
      refine ex_icmp_ge_f (pc := 5) dX11_isMore_5 50 rfl c1 ?_
      refine ex_aload_n (pc := 8) 0 dX11_isMore_8 rfl rfl ?_
      obtain ⟨v2, ev2, h⟩ := ob_some h
      refine ex_gR (pc := 9) ev2 dX11_isMore_9 lfX11_77 ?_
      refine ex_iload_n (pc := 12) 1 dX11_isMore_12 rfl rfl ?_
      obtain ⟨v3, ev3, h⟩ := ob_some h
      refine ex_rI (pc := 13) ev3 dX11_isMore_13 ?_
      refine ex_aload_n (pc := 14) 0 dX11_isMore_14 rfl rfl ?_
      obtain ⟨v4, ev4, h⟩ := ob_some h
      refine ex_gR (pc := 15) ev4 dX11_isMore_15 lfX11_80 ?_
      refine ex_iload_n (pc := 18) 1 dX11_isMore_18 rfl rfl ?_
      obtain ⟨v5, ev5, h⟩ := ob_some h
      refine ex_rI (pc := 19) ev5 dX11_isMore_19 ?_
      by_cases c6 : v3 = v5
      · rw [if_pos c6] at h
        refine ex_icmp_eq_t (pc := 20) 44 dX11_isMore_20 rfl c6 ?_
        refine ex_iinc (pc := 44) (x1 + 1) 1 [(1, .int (x1 + 1)), (0, .ref x0)] dX11_isMore_44 rfl rfl (by decide) rfl ?_
        refine ex_goto (pc := 47) 2 dX11_isMore_47 rfl ?_
        refine ex_sub (lo' := [(0, .ref x0), (1, .int (x1 + 1))]) [1, 0] rfl ?_
        exact ih _ _ _ _  h
      · rw [if_neg c6] at h
        refine ex_icmp_eq_f (pc := 20) dX11_isMore_20 44 rfl c6 ?_
        refine ex_aload_n (pc := 23) 0 dX11_isMore_23 rfl rfl ?_
        obtain ⟨v7, ev7, h⟩ := ob_some h
        refine ex_gR (pc := 24) ev7 dX11_isMore_24 lfX11_77 ?_
        refine ex_iload_n (pc := 27) 1 dX11_isMore_27 rfl rfl ?_
        obtain ⟨v8, ev8, h⟩ := ob_some h
        refine ex_rI (pc := 28) ev8 dX11_isMore_28 ?_
        refine ex_aload_n (pc := 29) 0 dX11_isMore_29 rfl rfl ?_
        obtain ⟨v9, ev9, h⟩ := ob_some h
        refine ex_gR (pc := 30) ev9 dX11_isMore_30 lfX11_80 ?_
        refine ex_iload_n (pc := 33) 1 dX11_isMore_33 rfl rfl ?_
        obtain ⟨v10, ev10, h⟩ := ob_some h
        refine ex_rI (pc := 34) ev10 dX11_isMore_34 ?_
        by_cases c11 : v8 ≤ v10
        · rw [if_pos c11] at h
          refine ex_icmp_le_t (pc := 35) 42 dX11_isMore_35 rfl c11 ?_
          refine ex_iconst (pc := 42) 0 dX11_isMore_42 rfl ?_
          cases h
          exact ex_ireturn (pc := 43) dX11_isMore_43
        · rw [if_neg c11] at h
          refine ex_icmp_le_f (pc := 35) dX11_isMore_35 42 rfl c11 ?_
          refine ex_iconst (pc := 38) 1 dX11_isMore_38 rfl ?_
          refine ex_goto (pc := 39) 43 dX11_isMore_39 rfl ?_
          cases h
          exact ex_ireturn (pc := 43) dX11_isMore_43
noncomputable def f_X11_isMore_0 (x0 : Nat) (M : Mem) : Option (Bool) :=
  f_X11_isMore_2 fu x0 0 M
set_option maxHeartbeats 4000000 in
theorem t_X11_isMore_0 {X : XV} {d : Nat} (hd : 1 ≤ d + 1) : ∀ (x0 : Nat) (M : Mem) (res : Bool), f_X11_isMore_0  x0 M = some res → Ex X (d + 1) mX11_isMore 0 [(0, .ref x0)] [] M (some (.int (jz res))) M := by
  intro x0 M res  h
  unfold f_X11_isMore_0 at h
  refine ex_iconst (pc := 0) 0 dX11_isMore_0 rfl ?_
  refine ex_istore_n (pc := 1) [(1, .int 0), (0, .ref x0)] dX11_isMore_1 rfl (by decide) rfl ?_
  refine ex_sub (lo' := [(0, .ref x0), (1, .int 0)]) [1, 0] rfl ?_
  exact t_X11_isMore_2 hd  _ _ _ _ _  h
noncomputable def f_X11_isMore (x0 : Nat) (M : Mem) : Option (Bool) := if isOb M 11 x0 = true then f_X11_isMore_0 x0 M else none
theorem o_X11_isMore {x0 : Nat} {M : Mem} {res : Bool} (h : f_X11_isMore x0 M = some res) : isO M 11 x0 := by
  unfold f_X11_isMore at h
  split at h
  · rename_i hc; exact isOb_iff hc
  · cases h
set_option maxHeartbeats 4000000 in
theorem s_X11_isMore {X : XV} {d : Nat} (hd : 1 ≤ d) {x0 : Nat} {M : Mem} {res : Bool} (h : f_X11_isMore x0 M = some res) : Mx X d mX11_isMore [.ref x0] M (some (.int (jz res))) M := by
  obtain ⟨d, rfl⟩ : ∃ e, d = e + 1 := ⟨d - 1, by omega⟩
  unfold f_X11_isMore at h
  split at h
  rotate_left
  · cases h
  refine Mx.of (by decide) (Nat.le_of_ble_eq_true rfl) (⟨_, rfl, jz_nar _⟩) ?_
  exact ex_sub (lo' := [(0, .ref x0)]) [0] rfl (t_X11_isMore_0 hd _ _ _  h)
noncomputable def f_X11_stock_90 (n0 : Nat) (k41 : Nat → Int32 → Int32 → Int32 → Int32 → Int32 → Mem → Option (Int32 × Mem)) (x0 : Nat) (x1 : Int32) (x2 : Int32) (x3 : Int32) (x4 : Int32) (x5 : Int32) (x7 : Int32) (M : Mem) : Option (Int32 × Mem) :=
  match n0 with
  | 0 => none
  | n + 1 =>
    if 8 ≤ x7 then
    (k41 x0 x1 x2 x3 x4 (x5 + 2) M)
    else
    ((gR M 11 x0 36).bind fun v2 =>
    (gR M 11 x0 35).bind fun v3 =>
    (rI M v3 x7).bind fun v4 =>
    (wI M v2 x7 v4).bind fun q5 =>
    f_X11_stock_90 n k41 x0 x1 x2 x3 x4 x5 (x7 + 1) q5)
set_option maxHeartbeats 4000000 in
theorem t_X11_stock_90 {X : XV} {d : Nat} (hd : 3 ≤ d + 1) {k41 : Nat → Int32 → Int32 → Int32 → Int32 → Int32 → Mem → Option (Int32 × Mem)} (hk41 : ∀ (x0 : Nat) (x1 : Int32) (x2 : Int32) (x3 : Int32) (x4 : Int32) (x5 : Int32) (M : Mem) (res : Int32 × Mem), k41 x0 x1 x2 x3 x4 x5 M = some res → Ex X (d + 1) mX11_stock 41 [(0, .ref x0), (1, .int x1), (2, .int x2), (3, .int x3), (4, .int x4), (5, .int x5)] [] M (some (.int res.1)) res.2) : ∀ (n : Nat) (x0 : Nat) (x1 : Int32) (x2 : Int32) (x3 : Int32) (x4 : Int32) (x5 : Int32) (x7 : Int32) (M : Mem) (res : Int32 × Mem), f_X11_stock_90 n k41 x0 x1 x2 x3 x4 x5 x7 M = some res → Ex X (d + 1) mX11_stock 90 [(0, .ref x0), (1, .int x1), (2, .int x2), (3, .int x3), (4, .int x4), (5, .int x5), (7, .int x7)] [] M (some (.int res.1)) res.2 := by
  intro n
  induction n with
  | zero =>
    intro x0 x1 x2 x3 x4 x5 x7 M res  h
    unfold f_X11_stock_90 at h
    cases h
  | succ n ih =>
    intro x0 x1 x2 x3 x4 x5 x7 M res  h
    unfold f_X11_stock_90 at h
    refine ex_iload (pc := 90) 6 dX11_stock_90 rfl ?_
    refine ex_bipush (pc := 92) 8 dX11_stock_92 (by decide) ?_
    by_cases c1 : 8 ≤ x7
    · rw [if_pos c1] at h
      refine ex_icmp_ge_t (pc := 94) 117 dX11_stock_94 rfl c1 ?_
      refine ex_iinc (pc := 117) (x5 + 2) 5 [(5, .int (x5 + 2)), (0, .ref x0), (1, .int x1), (2, .int x2), (3, .int x3), (4, .int x4), (7, .int x7)] dX11_stock_117 rfl rfl (by decide) rfl ?_
      refine ex_goto (pc := 120) 41 dX11_stock_120 rfl ?_
      refine ex_sub (lo' := [(0, .ref x0), (1, .int x1), (2, .int x2), (3, .int x3), (4, .int x4), (5, .int (x5 + 2))]) [1, 2, 3, 4, 5, 0] rfl ?_
      exact hk41 _ _ _ _ _ _ _ _  h
    · rw [if_neg c1] at h
      refine ex_icmp_ge_f (pc := 94) dX11_stock_94 117 rfl c1 ?_
      refine ex_aload_n (pc := 97) 0 dX11_stock_97 rfl rfl ?_
      obtain ⟨v2, ev2, h⟩ := ob_some h
      refine ex_gR (pc := 98) ev2 dX11_stock_98 lfX11_80 ?_
      refine ex_iload (pc := 101) 6 dX11_stock_101 rfl ?_
      refine ex_aload_n (pc := 103) 0 dX11_stock_103 rfl rfl ?_
      obtain ⟨v3, ev3, h⟩ := ob_some h
      refine ex_gR (pc := 104) ev3 dX11_stock_104 lfX11_77 ?_
      refine ex_iload (pc := 107) 6 dX11_stock_107 rfl ?_
      obtain ⟨v4, ev4, h⟩ := ob_some h
      refine ex_rI (pc := 109) ev4 dX11_stock_109 ?_
      obtain ⟨q5, eq5, h⟩ := ob_some h
      refine ex_wI (pc := 110) eq5 dX11_stock_110 ?_
      refine ex_iinc (pc := 111) (x7 + 1) 6 [(7, .int (x7 + 1)), (0, .ref x0), (1, .int x1), (2, .int x2), (3, .int x3), (4, .int x4), (5, .int x5)] dX11_stock_111 rfl rfl (by decide) rfl ?_
      refine ex_goto (pc := 114) 90 dX11_stock_114 rfl ?_
      refine ex_sub (lo' := [(0, .ref x0), (1, .int x1), (2, .int x2), (3, .int x3), (4, .int x4), (5, .int x5), (7, .int (x7 + 1))]) [1, 2, 3, 4, 5, 6, 0] rfl ?_
      exact ih _ _ _ _ _ _ _ _ _  h
noncomputable def f_X11_stock_83 (k41 : Nat → Int32 → Int32 → Int32 → Int32 → Int32 → Mem → Option (Int32 × Mem)) (x0 : Nat) (x1 : Int32) (x2 : Int32) (x3 : Int32) (x5 : Int32) (x6 : Int32) (M : Mem) : Option (Int32 × Mem) :=
  f_X11_stock_90 fu k41 x0 x1 x2 x3 x6 x5 0 M
set_option maxHeartbeats 4000000 in
theorem t_X11_stock_83 {X : XV} {d : Nat} (hd : 3 ≤ d + 1) {k41 : Nat → Int32 → Int32 → Int32 → Int32 → Int32 → Mem → Option (Int32 × Mem)} (hk41 : ∀ (x0 : Nat) (x1 : Int32) (x2 : Int32) (x3 : Int32) (x4 : Int32) (x5 : Int32) (M : Mem) (res : Int32 × Mem), k41 x0 x1 x2 x3 x4 x5 M = some res → Ex X (d + 1) mX11_stock 41 [(0, .ref x0), (1, .int x1), (2, .int x2), (3, .int x3), (4, .int x4), (5, .int x5)] [] M (some (.int res.1)) res.2) : ∀ (x0 : Nat) (x1 : Int32) (x2 : Int32) (x3 : Int32) (x5 : Int32) (x6 : Int32) (M : Mem) (res : Int32 × Mem), f_X11_stock_83 k41 x0 x1 x2 x3 x5 x6 M = some res → Ex X (d + 1) mX11_stock 83 [(0, .ref x0), (1, .int x1), (2, .int x2), (3, .int x3), (5, .int x5), (6, .int x6)] [] M (some (.int res.1)) res.2 := by
  intro x0 x1 x2 x3 x5 x6 M res  h
  unfold f_X11_stock_83 at h
  refine ex_iload (pc := 83) 5 dX11_stock_83 rfl ?_
  refine ex_istore (pc := 85) [(4, .int x6), (0, .ref x0), (1, .int x1), (2, .int x2), (3, .int x3), (5, .int x5), (6, .int x6)] dX11_stock_85 (by decide) rfl ?_
  refine ex_iconst (pc := 87) 0 dX11_stock_87 rfl ?_
  refine ex_istore (pc := 88) [(7, .int 0), (4, .int x6), (0, .ref x0), (1, .int x1), (2, .int x2), (3, .int x3), (5, .int x5), (6, .int x6)] dX11_stock_88 (by decide) rfl ?_
  refine ex_sub (lo' := [(0, .ref x0), (1, .int x1), (2, .int x2), (3, .int x3), (4, .int x6), (5, .int x5), (7, .int 0)]) [2, 3, 4, 5, 1, 6, 0] rfl ?_
  exact t_X11_stock_90 hd hk41 _ _ _ _ _ _ _ _ _ _  h
noncomputable def f_X11_stock_41 (n0 : Nat) (x0 : Nat) (x1 : Int32) (x2 : Int32) (x3 : Int32) (x4 : Int32) (x5 : Int32) (M : Mem) : Option (Int32 × Mem) :=
  match n0 with
  | 0 => none
  | n + 1 =>
    if 256 ≤ x5 then
    (if x3 = (-1) then
    (some (x4, M))
    else
    ((gR M 11 x0 36).bind fun v8 =>
    (rI M v8 x3).bind fun v9 =>
    some (v9, M)))
    else
    ((f_X11_costBy x0 x5 x1 x2 M).bind fun q10 =>
    if x4 < q10.1 then
    (f_X11_stock_41 n x0 x1 x2 x3 x4 (x5 + 2) q10.2)
    else
    (if q10.1 = x4 then
    ((f_X11_isMore x0 q10.2).bind fun v13 =>
    if v13 = true then
    (f_X11_stock_83 (f_X11_stock_41 n) x0 x1 x2 x3 x5 q10.1 q10.2)
    else
    (f_X11_stock_41 n x0 x1 x2 x3 x4 (x5 + 2) q10.2))
    else
    (f_X11_stock_83 (f_X11_stock_41 n) x0 x1 x2 x3 x5 q10.1 q10.2)))
set_option maxHeartbeats 4000000 in
theorem t_X11_stock_41 {X : XV} {d : Nat} (hd : 3 ≤ d + 1) : ∀ (n : Nat) (x0 : Nat) (x1 : Int32) (x2 : Int32) (x3 : Int32) (x4 : Int32) (x5 : Int32) (M : Mem) (res : Int32 × Mem), f_X11_stock_41 n  x0 x1 x2 x3 x4 x5 M = some res → Ex X (d + 1) mX11_stock 41 [(0, .ref x0), (1, .int x1), (2, .int x2), (3, .int x3), (4, .int x4), (5, .int x5)] [] M (some (.int res.1)) res.2 := by
  intro n
  induction n with
  | zero =>
    intro x0 x1 x2 x3 x4 x5 M res  h
    unfold f_X11_stock_41 at h
    cases h
  | succ n ih =>
    intro x0 x1 x2 x3 x4 x5 M res  h
    unfold f_X11_stock_41 at h
    refine ex_iload (pc := 41) 5 dX11_stock_41 rfl ?_
    refine ex_sipush (pc := 43) 256 dX11_stock_43 (by decide) ?_
    by_cases c6 : 256 ≤ x5
    · rw [if_pos c6] at h
      refine ex_icmp_ge_t (pc := 46) 123 dX11_stock_46 rfl c6 ?_
      refine ex_iload_n (pc := 123) 3 dX11_stock_123 rfl rfl ?_
      refine ex_iconst (pc := 124) (-1) dX11_stock_124 rfl ?_
      by_cases c7 : x3 = (-1)
      · rw [if_pos c7] at h
        refine ex_icmp_ne_f (pc := 125) dX11_stock_125 133 rfl c7 ?_
        refine ex_iload (pc := 128) 4 dX11_stock_128 rfl ?_
        refine ex_goto (pc := 130) 139 dX11_stock_130 rfl ?_
        cases h
        exact ex_ireturn (pc := 139) dX11_stock_139
      · rw [if_neg c7] at h
        refine ex_icmp_ne_t (pc := 125) 133 dX11_stock_125 rfl c7 ?_
        refine ex_aload_n (pc := 133) 0 dX11_stock_133 rfl rfl ?_
        obtain ⟨v8, ev8, h⟩ := ob_some h
        refine ex_gR (pc := 134) ev8 dX11_stock_134 lfX11_80 ?_
        refine ex_iload_n (pc := 137) 3 dX11_stock_137 rfl rfl ?_
        obtain ⟨v9, ev9, h⟩ := ob_some h
        refine ex_rI (pc := 138) ev9 dX11_stock_138 ?_
        cases h
        exact ex_ireturn (pc := 139) dX11_stock_139
    · rw [if_neg c6] at h
      refine ex_icmp_ge_f (pc := 46) dX11_stock_46 123 rfl c6 ?_
      refine ex_aload_n (pc := 49) 0 dX11_stock_49 rfl rfl ?_
      refine ex_iload (pc := 50) 5 dX11_stock_50 rfl ?_
      refine ex_iload_n (pc := 52) 1 dX11_stock_52 rfl rfl ?_
      refine ex_iload_n (pc := 53) 2 dX11_stock_53 rfl rfl ?_
      obtain ⟨q10, eq10, h⟩ := ob_some h
      refine ex_callV3r (pc := 54) dX11_stock_54 jX11_costBy lmX11_486 jiX11_costBy jvX11_costBy (o_X11_costBy eq10) rfl (Nat.le_of_ble_eq_true rfl) (s_X11_costBy (by omega)  eq10) ?_
      refine ex_istore (pc := 57) [(6, .int q10.1), (0, .ref x0), (1, .int x1), (2, .int x2), (3, .int x3), (4, .int x4), (5, .int x5)] dX11_stock_57 (by decide) rfl ?_
      refine ex_iload (pc := 59) 0 dX11_stock_59 rfl ?_
      refine ex_iload (pc := 61) 5 dX11_stock_61 rfl ?_
      by_cases c11 : x4 < q10.1
      · rw [if_pos c11] at h
        refine ex_icmp_gt_t (pc := 63) 117 dX11_stock_63 rfl c11 ?_
        refine ex_iinc (pc := 117) (x5 + 2) 6 [(5, .int (x5 + 2)), (6, .int q10.1), (0, .ref x0), (1, .int x1), (2, .int x2), (3, .int x3), (4, .int x4)] dX11_stock_117 rfl rfl (by decide) rfl ?_
        refine ex_goto (pc := 120) 41 dX11_stock_120 rfl ?_
        refine ex_sub (lo' := [(0, .ref x0), (1, .int x1), (2, .int x2), (3, .int x3), (4, .int x4), (5, .int (x5 + 2))]) [2, 3, 4, 5, 6, 0] rfl ?_
        exact ih _ _ _ _ _ _ _ _  h
      · rw [if_neg c11] at h
        refine ex_icmp_gt_f (pc := 63) dX11_stock_63 117 rfl c11 ?_
        refine ex_iload (pc := 66) 0 dX11_stock_66 rfl ?_
        refine ex_iload (pc := 68) 5 dX11_stock_68 rfl ?_
        by_cases c12 : q10.1 = x4
        · rw [if_pos c12] at h
          refine ex_icmp_ne_f (pc := 70) dX11_stock_70 83 rfl c12 ?_
          refine ex_aload_n (pc := 73) 1 dX11_stock_73 rfl rfl ?_
          obtain ⟨v13, ev13, h⟩ := ob_some h
          refine ex_callV0r (pc := 74) dX11_stock_74 jX11_isMore lmX11_489 jiX11_isMore jvX11_isMore (o_X11_isMore ev13) rfl (Nat.le_of_ble_eq_true rfl) (s_X11_isMore (by omega)  ev13) ?_
          by_cases c14 : v13 = true
          · rw [if_pos c14] at h
            refine ex_if_ne_t (pc := 77) 83 dX11_stock_77 rfl (jz_ne_t c14) ?_
            refine ex_sub (lo' := [(0, .ref x0), (1, .int x1), (2, .int x2), (3, .int x3), (5, .int x5), (6, .int q10.1)]) [1, 2, 3, 4, 6, 0] rfl ?_
            exact t_X11_stock_83 hd ih _ _ _ _ _ _ _ _  h
          · rw [if_neg c14] at h
            refine ex_if_ne_f (pc := 77) dX11_stock_77 83 rfl (jz_ne_f c14) ?_
            refine ex_goto (pc := 80) 117 dX11_stock_80 rfl ?_
            refine ex_iinc (pc := 117) (x5 + 2) 6 [(5, .int (x5 + 2)), (6, .int q10.1), (0, .ref x0), (1, .int x1), (2, .int x2), (3, .int x3), (4, .int x4)] dX11_stock_117 rfl rfl (by decide) rfl ?_
            refine ex_goto (pc := 120) 41 dX11_stock_120 rfl ?_
            refine ex_sub (lo' := [(0, .ref x0), (1, .int x1), (2, .int x2), (3, .int x3), (4, .int x4), (5, .int (x5 + 2))]) [2, 3, 4, 5, 6, 0] rfl ?_
            exact ih _ _ _ _ _ _ _ _  h
        · rw [if_neg c12] at h
          refine ex_icmp_ne_t (pc := 70) 83 dX11_stock_70 rfl c12 ?_
          refine ex_sub (lo' := [(0, .ref x0), (1, .int x1), (2, .int x2), (3, .int x3), (5, .int x5), (6, .int q10.1)]) [1, 2, 3, 4, 6, 0] rfl ?_
          exact t_X11_stock_83 hd ih _ _ _ _ _ _ _ _  h
noncomputable def f_X11_stock_0 (x0 : Nat) (x1 : Int32) (x2 : Int32) (x3 : Int32) (M : Mem) : Option (Int32 × Mem) :=
  (f_X11_isIn x1 0 999).bind fun v15 =>
  if v15 = false then
  (some ((-1), M))
  else
  ((f_X11_isIn x2 0 99).bind fun v17 =>
  if v17 = false then
  (some ((-1), M))
  else
  ((f_X11_isIn x3 (-1) 7).bind fun v19 =>
  if v19 = true then
  (f_X11_stock_41 fu x0 x1 x2 x3 1000000000 1 M)
  else
  (some ((-1), M))))
set_option maxHeartbeats 4000000 in
theorem t_X11_stock_0 {X : XV} {d : Nat} (hd : 3 ≤ d + 1) : ∀ (x0 : Nat) (x1 : Int32) (x2 : Int32) (x3 : Int32) (M : Mem) (res : Int32 × Mem), f_X11_stock_0  x0 x1 x2 x3 M = some res → Ex X (d + 1) mX11_stock 0 [(0, .ref x0), (1, .int x1), (2, .int x2), (3, .int x3)] [] M (some (.int res.1)) res.2 := by
  intro x0 x1 x2 x3 M res  h
  unfold f_X11_stock_0 at h
  refine ex_iload_n (pc := 0) 1 dX11_stock_0 rfl rfl ?_
  refine ex_iconst (pc := 1) 0 dX11_stock_1 rfl ?_
  refine ex_sipush (pc := 2) 999 dX11_stock_2 (by decide) ?_
  obtain ⟨v15, ev15, h⟩ := ob_some h
  refine ex_callS3r (pc := 5) dX11_stock_5 jX11_isIn lmX11_87 jsX11_isIn (Nat.le_of_ble_eq_true rfl) (s_X11_isIn (by omega)  ev15) ?_
  by_cases c16 : v15 = false
  · rw [if_pos c16] at h
    refine ex_if_eq_t (pc := 8) 31 dX11_stock_8 rfl (jz_eq_t c16) ?_
    refine ex_iconst (pc := 31) (-1) dX11_stock_31 rfl ?_
    cases h
    exact ex_ireturn (pc := 32) dX11_stock_32
  · rw [if_neg c16] at h
    refine ex_if_eq_f (pc := 8) dX11_stock_8 31 rfl (jz_eq_f c16) ?_
    refine ex_iload_n (pc := 11) 2 dX11_stock_11 rfl rfl ?_
    refine ex_iconst (pc := 12) 0 dX11_stock_12 rfl ?_
    refine ex_bipush (pc := 13) 99 dX11_stock_13 (by decide) ?_
    obtain ⟨v17, ev17, h⟩ := ob_some h
    refine ex_callS3r (pc := 15) dX11_stock_15 jX11_isIn lmX11_87 jsX11_isIn (Nat.le_of_ble_eq_true rfl) (s_X11_isIn (by omega)  ev17) ?_
    by_cases c18 : v17 = false
    · rw [if_pos c18] at h
      refine ex_if_eq_t (pc := 18) 31 dX11_stock_18 rfl (jz_eq_t c18) ?_
      refine ex_iconst (pc := 31) (-1) dX11_stock_31 rfl ?_
      cases h
      exact ex_ireturn (pc := 32) dX11_stock_32
    · rw [if_neg c18] at h
      refine ex_if_eq_f (pc := 18) dX11_stock_18 31 rfl (jz_eq_f c18) ?_
      refine ex_iload_n (pc := 21) 3 dX11_stock_21 rfl rfl ?_
      refine ex_iconst (pc := 22) (-1) dX11_stock_22 rfl ?_
      refine ex_bipush (pc := 23) 7 dX11_stock_23 (by decide) ?_
      obtain ⟨v19, ev19, h⟩ := ob_some h
      refine ex_callS3r (pc := 25) dX11_stock_25 jX11_isIn lmX11_87 jsX11_isIn (Nat.le_of_ble_eq_true rfl) (s_X11_isIn (by omega)  ev19) ?_
      by_cases c20 : v19 = true
      · rw [if_pos c20] at h
        refine ex_if_ne_t (pc := 28) 33 dX11_stock_28 rfl (jz_ne_t c20) ?_
        refine ex_ldcw (pc := 33) dX11_stock_33 lkX11_454 ?_
        refine ex_istore (pc := 36) [(4, .int 1000000000), (0, .ref x0), (1, .int x1), (2, .int x2), (3, .int x3)] dX11_stock_36 (by decide) rfl ?_
        refine ex_iconst (pc := 38) 1 dX11_stock_38 rfl ?_
        refine ex_istore (pc := 39) [(5, .int 1), (4, .int 1000000000), (0, .ref x0), (1, .int x1), (2, .int x2), (3, .int x3)] dX11_stock_39 (by decide) rfl ?_
        refine ex_sub (lo' := [(0, .ref x0), (1, .int x1), (2, .int x2), (3, .int x3), (4, .int 1000000000), (5, .int 1)]) [2, 3, 4, 5, 1, 0] rfl ?_
        exact t_X11_stock_41 hd  _ _ _ _ _ _ _ _ _  h
      · rw [if_neg c20] at h
        refine ex_if_ne_f (pc := 28) dX11_stock_28 33 rfl (jz_ne_f c20) ?_
        refine ex_iconst (pc := 31) (-1) dX11_stock_31 rfl ?_
        cases h
        exact ex_ireturn (pc := 32) dX11_stock_32
noncomputable def f_X11_stock (x0 : Nat) (x1 : Int32) (x2 : Int32) (x3 : Int32) (M : Mem) : Option (Int32 × Mem) := if isOb M 11 x0 = true then f_X11_stock_0 x0 x1 x2 x3 M else none
theorem o_X11_stock {x0 : Nat} {x1 : Int32} {x2 : Int32} {x3 : Int32} {M : Mem} {res : Int32 × Mem} (h : f_X11_stock x0 x1 x2 x3 M = some res) : isO M 11 x0 := by
  unfold f_X11_stock at h
  split at h
  · rename_i hc; exact isOb_iff hc
  · cases h
set_option maxHeartbeats 4000000 in
theorem s_X11_stock {X : XV} {d : Nat} (hd : 3 ≤ d) {x0 : Nat} {x1 : Int32} {x2 : Int32} {x3 : Int32} {M : Mem} {res : Int32 × Mem} (h : f_X11_stock x0 x1 x2 x3 M = some res) : Mx X d mX11_stock [.ref x0, .int x1, .int x2, .int x3] M (some (.int res.1)) res.2 := by
  obtain ⟨d, rfl⟩ : ∃ e, d = e + 1 := ⟨d - 1, by omega⟩
  unfold f_X11_stock at h
  split at h
  rotate_left
  · cases h
  refine Mx.of (by decide) (Nat.le_of_ble_eq_true rfl) (⟨_, rfl, rfl⟩) ?_
  exact ex_sub (lo' := [(0, .ref x0), (1, .int x1), (2, .int x2), (3, .int x3)]) [0, 1, 2, 3] rfl (t_X11_stock_0 hd _ _ _ _ _ _  h)
noncomputable def f_X11_looser_0 (x0 : Nat) (x1 : Int32) (x2 : Int32) (M : Mem) : Option (Int32 × Mem) :=
  if x1 = (-1) then
  ((gR M 11 x0 0).bind fun v22 =>
  (wI M v22 7 0).bind fun q23 =>
  some (0, q23))
  else
  ((f_X11_isMachine x0 x1 M).bind fun v2 =>
  if v2 = false then
  (some ((-2), M))
  else
  ((f_X11_isIn x2 0 10).bind fun v4 =>
  if v4 = false then
  (some ((-2), M))
  else
  ((gR M 11 x0 0).bind fun v6 =>
  (rI M v6 7).bind fun v7 =>
  if v7 = 8 then
  (some ((-2), M))
  else
  ((gR M 11 x0 0).bind fun v9 =>
  (gR M 11 x0 0).bind fun v10 =>
  (rI M v10 7).bind fun v11 =>
  (wI M v9 (211 + (2 * v11)) x1).bind fun q12 =>
  (gR q12 11 x0 0).bind fun v13 =>
  (gR q12 11 x0 0).bind fun v14 =>
  (rI q12 v14 7).bind fun v15 =>
  (wI q12 v13 ((211 + (2 * v15)) + 1) x2).bind fun q16 =>
  (gR q16 11 x0 0).bind fun v17 =>
  (rI q16 v17 7).bind fun v18 =>
  (wI q16 v17 7 (v18 + 1)).bind fun q19 =>
  (gR q19 11 x0 0).bind fun v20 =>
  (rI q19 v20 7).bind fun v21 =>
  some (v21, q19)))))
set_option maxHeartbeats 4000000 in
theorem t_X11_looser_0 {X : XV} {d : Nat} (hd : 3 ≤ d + 1) : ∀ (x0 : Nat) (x1 : Int32) (x2 : Int32) (M : Mem) (res : Int32 × Mem), f_X11_looser_0  x0 x1 x2 M = some res → Ex X (d + 1) mX11_looser 0 [(0, .ref x0), (1, .int x1), (2, .int x2)] [] M (some (.int res.1)) res.2 := by
  intro x0 x1 x2 M res  h
  unfold f_X11_looser_0 at h
  refine ex_iload_n (pc := 0) 1 dX11_looser_0 rfl rfl ?_
  refine ex_iconst (pc := 1) (-1) dX11_looser_1 rfl ?_
  by_cases c1 : x1 = (-1)
  · rw [if_pos c1] at h
    refine ex_icmp_ne_f (pc := 2) dX11_looser_2 15 rfl c1 ?_
    refine ex_aload_n (pc := 5) 0 dX11_looser_5 rfl rfl ?_
    obtain ⟨v22, ev22, h⟩ := ob_some h
    refine ex_gR (pc := 6) ev22 dX11_looser_6 lfX11_7 ?_
    refine ex_bipush (pc := 9) 7 dX11_looser_9 (by decide) ?_
    refine ex_iconst (pc := 11) 0 dX11_looser_11 rfl ?_
    obtain ⟨q23, eq23, h⟩ := ob_some h
    refine ex_wI (pc := 12) eq23 dX11_looser_12 ?_
    refine ex_iconst (pc := 13) 0 dX11_looser_13 rfl ?_
    cases h
    exact ex_ireturn (pc := 14) dX11_looser_14
  · rw [if_neg c1] at h
    refine ex_icmp_ne_t (pc := 2) 15 dX11_looser_2 rfl c1 ?_
    refine ex_aload_n (pc := 15) 0 dX11_looser_15 rfl rfl ?_
    refine ex_iload_n (pc := 16) 1 dX11_looser_16 rfl rfl ?_
    obtain ⟨v2, ev2, h⟩ := ob_some h
    refine ex_callV1r (pc := 17) dX11_looser_17 jX11_isMachine lmX11_374 jiX11_isMachine jvX11_isMachine (o_X11_isMachine ev2) rfl (Nat.le_of_ble_eq_true rfl) (s_X11_isMachine (by omega)  ev2) ?_
    by_cases c3 : v2 = false
    · rw [if_pos c3] at h
      refine ex_if_eq_t (pc := 20) 45 dX11_looser_20 rfl (jz_eq_t c3) ?_
      refine ex_bipush (pc := 45) (-2) dX11_looser_45 (by decide) ?_
      cases h
      exact ex_ireturn (pc := 47) dX11_looser_47
    · rw [if_neg c3] at h
      refine ex_if_eq_f (pc := 20) dX11_looser_20 45 rfl (jz_eq_f c3) ?_
      refine ex_iload_n (pc := 23) 2 dX11_looser_23 rfl rfl ?_
      refine ex_iconst (pc := 24) 0 dX11_looser_24 rfl ?_
      refine ex_bipush (pc := 25) 10 dX11_looser_25 (by decide) ?_
      obtain ⟨v4, ev4, h⟩ := ob_some h
      refine ex_callS3r (pc := 27) dX11_looser_27 jX11_isIn lmX11_87 jsX11_isIn (Nat.le_of_ble_eq_true rfl) (s_X11_isIn (by omega)  ev4) ?_
      by_cases c5 : v4 = false
      · rw [if_pos c5] at h
        refine ex_if_eq_t (pc := 30) 45 dX11_looser_30 rfl (jz_eq_t c5) ?_
        refine ex_bipush (pc := 45) (-2) dX11_looser_45 (by decide) ?_
        cases h
        exact ex_ireturn (pc := 47) dX11_looser_47
      · rw [if_neg c5] at h
        refine ex_if_eq_f (pc := 30) dX11_looser_30 45 rfl (jz_eq_f c5) ?_
        refine ex_aload_n (pc := 33) 0 dX11_looser_33 rfl rfl ?_
        obtain ⟨v6, ev6, h⟩ := ob_some h
        refine ex_gR (pc := 34) ev6 dX11_looser_34 lfX11_7 ?_
        refine ex_bipush (pc := 37) 7 dX11_looser_37 (by decide) ?_
        obtain ⟨v7, ev7, h⟩ := ob_some h
        refine ex_rI (pc := 39) ev7 dX11_looser_39 ?_
        refine ex_bipush (pc := 40) 8 dX11_looser_40 (by decide) ?_
        by_cases c8 : v7 = 8
        · rw [if_pos c8] at h
          refine ex_icmp_ne_f (pc := 42) dX11_looser_42 48 rfl c8 ?_
          refine ex_bipush (pc := 45) (-2) dX11_looser_45 (by decide) ?_
          cases h
          exact ex_ireturn (pc := 47) dX11_looser_47
        · rw [if_neg c8] at h
          refine ex_icmp_ne_t (pc := 42) 48 dX11_looser_42 rfl c8 ?_
          refine ex_aload_n (pc := 48) 0 dX11_looser_48 rfl rfl ?_
          obtain ⟨v9, ev9, h⟩ := ob_some h
          refine ex_gR (pc := 49) ev9 dX11_looser_49 lfX11_7 ?_
          refine ex_sipush (pc := 52) 211 dX11_looser_52 (by decide) ?_
          refine ex_iconst (pc := 55) 2 dX11_looser_55 rfl ?_
          refine ex_aload_n (pc := 56) 0 dX11_looser_56 rfl rfl ?_
          obtain ⟨v10, ev10, h⟩ := ob_some h
          refine ex_gR (pc := 57) ev10 dX11_looser_57 lfX11_7 ?_
          refine ex_bipush (pc := 60) 7 dX11_looser_60 (by decide) ?_
          obtain ⟨v11, ev11, h⟩ := ob_some h
          refine ex_rI (pc := 62) ev11 dX11_looser_62 ?_
          refine ex_imul (pc := 63) dX11_looser_63 ?_
          refine ex_iadd (pc := 64) dX11_looser_64 ?_
          refine ex_iload_n (pc := 65) 1 dX11_looser_65 rfl rfl ?_
          obtain ⟨q12, eq12, h⟩ := ob_some h
          refine ex_wI (pc := 66) eq12 dX11_looser_66 ?_
          refine ex_aload_n (pc := 67) 0 dX11_looser_67 rfl rfl ?_
          obtain ⟨v13, ev13, h⟩ := ob_some h
          refine ex_gR (pc := 68) ev13 dX11_looser_68 lfX11_7 ?_
          refine ex_sipush (pc := 71) 211 dX11_looser_71 (by decide) ?_
          refine ex_iconst (pc := 74) 2 dX11_looser_74 rfl ?_
          refine ex_aload_n (pc := 75) 0 dX11_looser_75 rfl rfl ?_
          obtain ⟨v14, ev14, h⟩ := ob_some h
          refine ex_gR (pc := 76) ev14 dX11_looser_76 lfX11_7 ?_
          refine ex_bipush (pc := 79) 7 dX11_looser_79 (by decide) ?_
          obtain ⟨v15, ev15, h⟩ := ob_some h
          refine ex_rI (pc := 81) ev15 dX11_looser_81 ?_
          refine ex_imul (pc := 82) dX11_looser_82 ?_
          refine ex_iadd (pc := 83) dX11_looser_83 ?_
          refine ex_iconst (pc := 84) 1 dX11_looser_84 rfl ?_
          refine ex_iadd (pc := 85) dX11_looser_85 ?_
          refine ex_iload_n (pc := 86) 2 dX11_looser_86 rfl rfl ?_
          obtain ⟨q16, eq16, h⟩ := ob_some h
          refine ex_wI (pc := 87) eq16 dX11_looser_87 ?_
          refine ex_aload_n (pc := 88) 0 dX11_looser_88 rfl rfl ?_
          obtain ⟨v17, ev17, h⟩ := ob_some h
          refine ex_gR (pc := 89) ev17 dX11_looser_89 lfX11_7 ?_
          refine ex_bipush (pc := 92) 7 dX11_looser_92 (by decide) ?_
          refine ex_dup2 (pc := 94) dX11_looser_94 rfl rfl ?_
          obtain ⟨v18, ev18, h⟩ := ob_some h
          refine ex_rI (pc := 95) ev18 dX11_looser_95 ?_
          refine ex_iconst (pc := 96) 1 dX11_looser_96 rfl ?_
          refine ex_iadd (pc := 97) dX11_looser_97 ?_
          obtain ⟨q19, eq19, h⟩ := ob_some h
          refine ex_wI (pc := 98) eq19 dX11_looser_98 ?_
          refine ex_aload_n (pc := 99) 0 dX11_looser_99 rfl rfl ?_
          obtain ⟨v20, ev20, h⟩ := ob_some h
          refine ex_gR (pc := 100) ev20 dX11_looser_100 lfX11_7 ?_
          refine ex_bipush (pc := 103) 7 dX11_looser_103 (by decide) ?_
          obtain ⟨v21, ev21, h⟩ := ob_some h
          refine ex_rI (pc := 105) ev21 dX11_looser_105 ?_
          cases h
          exact ex_ireturn (pc := 106) dX11_looser_106
noncomputable def f_X11_looser (x0 : Nat) (x1 : Int32) (x2 : Int32) (M : Mem) : Option (Int32 × Mem) := if isOb M 11 x0 = true then f_X11_looser_0 x0 x1 x2 M else none
theorem o_X11_looser {x0 : Nat} {x1 : Int32} {x2 : Int32} {M : Mem} {res : Int32 × Mem} (h : f_X11_looser x0 x1 x2 M = some res) : isO M 11 x0 := by
  unfold f_X11_looser at h
  split at h
  · rename_i hc; exact isOb_iff hc
  · cases h
set_option maxHeartbeats 4000000 in
theorem s_X11_looser {X : XV} {d : Nat} (hd : 3 ≤ d) {x0 : Nat} {x1 : Int32} {x2 : Int32} {M : Mem} {res : Int32 × Mem} (h : f_X11_looser x0 x1 x2 M = some res) : Mx X d mX11_looser [.ref x0, .int x1, .int x2] M (some (.int res.1)) res.2 := by
  obtain ⟨d, rfl⟩ : ∃ e, d = e + 1 := ⟨d - 1, by omega⟩
  unfold f_X11_looser at h
  split at h
  rotate_left
  · cases h
  refine Mx.of (by decide) (Nat.le_of_ble_eq_true rfl) (⟨_, rfl, rfl⟩) ?_
  exact ex_sub (lo' := [(0, .ref x0), (1, .int x1), (2, .int x2)]) [0, 1, 2] rfl (t_X11_looser_0 hd _ _ _ _ _  h)
noncomputable def f_X11_whose_95 (k4 : Nat → Int32 → Int32 → Mem → Option (Int32 × Mem)) (x0 : Nat) (x2 : Int32) (s0 : Int32) (s1 : Int32) (M : Mem) : Option (Int32 × Mem) :=
  k4 x0 (s1 ||| s0) (x2 + 1) M
set_option maxHeartbeats 4000000 in
theorem t_X11_whose_95 {X : XV} {d : Nat} (hd : 6 ≤ d + 1) {k4 : Nat → Int32 → Int32 → Mem → Option (Int32 × Mem)} (hk4 : ∀ (x0 : Nat) (x1 : Int32) (x2 : Int32) (M : Mem) (res : Int32 × Mem), k4 x0 x1 x2 M = some res → Ex X (d + 1) mX11_whose 4 [(0, .ref x0), (1, .int x1), (2, .int x2)] [] M (some (.int res.1)) res.2) : ∀ (x0 : Nat) (x2 : Int32) (s0 : Int32) (s1 : Int32) (M : Mem) (res : Int32 × Mem), f_X11_whose_95 k4 x0 x2 s0 s1 M = some res → Ex X (d + 1) mX11_whose 95 [(0, .ref x0), (2, .int x2)] [.int s0, .int s1] M (some (.int res.1)) res.2 := by
  intro x0 x2 s0 s1 M res  h
  unfold f_X11_whose_95 at h
  refine ex_ior (pc := 95) dX11_whose_95 ?_
  refine ex_istore_n (pc := 96) [(1, .int (s1 ||| s0)), (0, .ref x0), (2, .int x2)] dX11_whose_96 rfl (by decide) rfl ?_
  refine ex_iinc (pc := 97) (x2 + 1) 2 [(2, .int (x2 + 1)), (1, .int (s1 ||| s0)), (0, .ref x0)] dX11_whose_97 rfl rfl (by decide) rfl ?_
  refine ex_goto (pc := 100) 4 dX11_whose_100 rfl ?_
  refine ex_sub (lo' := [(0, .ref x0), (1, .int (s1 ||| s0)), (2, .int (x2 + 1))]) [2, 1, 0] rfl ?_
  exact hk4 _ _ _ _ _  h
noncomputable def f_X11_whose_19 (n0 : Nat) (k4 : Nat → Int32 → Int32 → Mem → Option (Int32 × Mem)) (x0 : Nat) (x1 : Int32) (x2 : Int32) (x3 : Bool) (x4 : Int32) (M : Mem) : Option (Int32 × Mem) :=
  match n0 with
  | 0 => none
  | n + 1 =>
    (gR M 11 x0 0).bind fun v1 =>
    (rI M v1 7).bind fun v2 =>
    if v2 ≤ x4 then
    (if x3 = false then
    (f_X11_whose_95 k4 x0 x2 0 x1 M)
    else
    (f_X11_whose_95 k4 x0 x2 (jshl 1 x2) x1 M))
    else
    (if x3 = false then
    (f_X11_whose_19 n k4 x0 x1 x2 false (x4 + 1) M)
    else
    ((gR M 11 x0 0).bind fun v6 =>
    (rI M v6 (211 + (2 * x4))).bind fun v7 =>
    (f_X11_looseOf x0 x2 v7 M).bind fun q8 =>
    (gR q8.2 11 x0 0).bind fun v9 =>
    (rI q8.2 v9 ((211 + (2 * x4)) + 1)).bind fun v10 =>
    if q8.1 = v10 then
    (f_X11_whose_19 n k4 x0 x1 x2 true (x4 + 1) q8.2)
    else
    (f_X11_whose_19 n k4 x0 x1 x2 false (x4 + 1) q8.2)))
set_option maxHeartbeats 4000000 in
theorem t_X11_whose_19 {X : XV} {d : Nat} (hd : 6 ≤ d + 1) {k4 : Nat → Int32 → Int32 → Mem → Option (Int32 × Mem)} (hk4 : ∀ (x0 : Nat) (x1 : Int32) (x2 : Int32) (M : Mem) (res : Int32 × Mem), k4 x0 x1 x2 M = some res → Ex X (d + 1) mX11_whose 4 [(0, .ref x0), (1, .int x1), (2, .int x2)] [] M (some (.int res.1)) res.2) : ∀ (n : Nat) (x0 : Nat) (x1 : Int32) (x2 : Int32) (x3 : Bool) (x4 : Int32) (M : Mem) (res : Int32 × Mem), f_X11_whose_19 n k4 x0 x1 x2 x3 x4 M = some res → Ex X (d + 1) mX11_whose 19 [(0, .ref x0), (1, .int x1), (2, .int x2), (3, .int (jz x3)), (4, .int x4)] [] M (some (.int res.1)) res.2 := by
  intro n
  induction n with
  | zero =>
    intro x0 x1 x2 x3 x4 M res  h
    unfold f_X11_whose_19 at h
    cases h
  | succ n ih =>
    intro x0 x1 x2 x3 x4 M res  h
    unfold f_X11_whose_19 at h
    refine ex_iload (pc := 19) 4 dX11_whose_19 rfl ?_
    refine ex_aload_n (pc := 21) 0 dX11_whose_21 rfl rfl ?_
    obtain ⟨v1, ev1, h⟩ := ob_some h
    refine ex_gR (pc := 22) ev1 dX11_whose_22 lfX11_7 ?_
    refine ex_bipush (pc := 25) 7 dX11_whose_25 (by decide) ?_
    obtain ⟨v2, ev2, h⟩ := ob_some h
    refine ex_rI (pc := 27) ev2 dX11_whose_27 ?_
    by_cases c3 : v2 ≤ x4
    · rw [if_pos c3] at h
      refine ex_icmp_ge_t (pc := 28) 83 dX11_whose_28 rfl c3 ?_
      refine ex_iload_n (pc := 83) 1 dX11_whose_83 rfl rfl ?_
      refine ex_iload_n (pc := 84) 3 dX11_whose_84 rfl rfl ?_
      by_cases c4 : x3 = false
      · rw [if_pos c4] at h
        refine ex_if_eq_t (pc := 85) 94 dX11_whose_85 rfl (jz_eq_t c4) ?_
        refine ex_iconst (pc := 94) 0 dX11_whose_94 rfl ?_
        refine ex_sub (lo' := [(0, .ref x0), (2, .int x2)]) [0, 2] rfl ?_
        exact t_X11_whose_95 hd hk4 _ _ _ _ _ _  h
      · rw [if_neg c4] at h
        refine ex_if_eq_f (pc := 85) dX11_whose_85 94 rfl (jz_eq_f c4) ?_
        refine ex_iconst (pc := 88) 1 dX11_whose_88 rfl ?_
        refine ex_iload_n (pc := 89) 2 dX11_whose_89 rfl rfl ?_
        refine ex_ishl (pc := 90) dX11_whose_90 ?_
        refine ex_goto (pc := 91) 95 dX11_whose_91 rfl ?_
        refine ex_sub (lo' := [(0, .ref x0), (2, .int x2)]) [0, 2] rfl ?_
        exact t_X11_whose_95 hd hk4 _ _ _ _ _ _  h
    · rw [if_neg c3] at h
      refine ex_icmp_ge_f (pc := 28) dX11_whose_28 83 rfl c3 ?_
      refine ex_iload_n (pc := 31) 3 dX11_whose_31 rfl rfl ?_
      by_cases c5 : x3 = false
      · rw [if_pos c5] at h
        refine ex_if_eq_t (pc := 32) 75 dX11_whose_32 rfl (jz_eq_t c5) ?_
        refine ex_iconst (pc := 75) 0 dX11_whose_75 rfl ?_
        refine ex_istore_n (pc := 76) [(3, .int 0), (0, .ref x0), (1, .int x1), (2, .int x2), (4, .int x4)] dX11_whose_76 rfl (by decide) rfl ?_
        refine ex_iinc (pc := 77) (x4 + 1) 4 [(4, .int (x4 + 1)), (3, .int 0), (0, .ref x0), (1, .int x1), (2, .int x2)] dX11_whose_77 rfl rfl (by decide) rfl ?_
        refine ex_goto (pc := 80) 19 dX11_whose_80 rfl ?_
        refine ex_sub (lo' := [(0, .ref x0), (1, .int x1), (2, .int x2), (3, .int (jz false)), (4, .int (x4 + 1))]) [2, 3, 4, 1, 0] rfl ?_
        exact ih _ _ _ _ _ _ _  h
      · rw [if_neg c5] at h
        refine ex_if_eq_f (pc := 32) dX11_whose_32 75 rfl (jz_eq_f c5) ?_
        refine ex_aload_n (pc := 35) 0 dX11_whose_35 rfl rfl ?_
        refine ex_iload_n (pc := 36) 2 dX11_whose_36 rfl rfl ?_
        refine ex_aload_n (pc := 37) 0 dX11_whose_37 rfl rfl ?_
        obtain ⟨v6, ev6, h⟩ := ob_some h
        refine ex_gR (pc := 38) ev6 dX11_whose_38 lfX11_7 ?_
        refine ex_sipush (pc := 41) 211 dX11_whose_41 (by decide) ?_
        refine ex_iconst (pc := 44) 2 dX11_whose_44 rfl ?_
        refine ex_iload (pc := 45) 4 dX11_whose_45 rfl ?_
        refine ex_imul (pc := 47) dX11_whose_47 ?_
        refine ex_iadd (pc := 48) dX11_whose_48 ?_
        obtain ⟨v7, ev7, h⟩ := ob_some h
        refine ex_rI (pc := 49) ev7 dX11_whose_49 ?_
        obtain ⟨q8, eq8, h⟩ := ob_some h
        refine ex_callV2r (pc := 50) dX11_whose_50 jX11_looseOf lmX11_338 jiX11_looseOf jvX11_looseOf (o_X11_looseOf eq8) rfl (Nat.le_of_ble_eq_true rfl) (s_X11_looseOf (by omega)  eq8) ?_
        refine ex_aload_n (pc := 53) 0 dX11_whose_53 rfl rfl ?_
        obtain ⟨v9, ev9, h⟩ := ob_some h
        refine ex_gR (pc := 54) ev9 dX11_whose_54 lfX11_7 ?_
        refine ex_sipush (pc := 57) 211 dX11_whose_57 (by decide) ?_
        refine ex_iconst (pc := 60) 2 dX11_whose_60 rfl ?_
        refine ex_iload (pc := 61) 4 dX11_whose_61 rfl ?_
        refine ex_imul (pc := 63) dX11_whose_63 ?_
        refine ex_iadd (pc := 64) dX11_whose_64 ?_
        refine ex_iconst (pc := 65) 1 dX11_whose_65 rfl ?_
        refine ex_iadd (pc := 66) dX11_whose_66 ?_
        obtain ⟨v10, ev10, h⟩ := ob_some h
        refine ex_rI (pc := 67) ev10 dX11_whose_67 ?_
        by_cases c11 : q8.1 = v10
        · rw [if_pos c11] at h
          refine ex_icmp_ne_f (pc := 68) dX11_whose_68 75 rfl c11 ?_
          refine ex_iconst (pc := 71) 1 dX11_whose_71 rfl ?_
          refine ex_goto (pc := 72) 76 dX11_whose_72 rfl ?_
          refine ex_istore_n (pc := 76) [(3, .int 1), (0, .ref x0), (1, .int x1), (2, .int x2), (4, .int x4)] dX11_whose_76 rfl (by decide) rfl ?_
          refine ex_iinc (pc := 77) (x4 + 1) 4 [(4, .int (x4 + 1)), (3, .int 1), (0, .ref x0), (1, .int x1), (2, .int x2)] dX11_whose_77 rfl rfl (by decide) rfl ?_
          refine ex_goto (pc := 80) 19 dX11_whose_80 rfl ?_
          refine ex_sub (lo' := [(0, .ref x0), (1, .int x1), (2, .int x2), (3, .int (jz true)), (4, .int (x4 + 1))]) [2, 3, 4, 1, 0] rfl ?_
          exact ih _ _ _ _ _ _ _  h
        · rw [if_neg c11] at h
          refine ex_icmp_ne_t (pc := 68) 75 dX11_whose_68 rfl c11 ?_
          refine ex_iconst (pc := 75) 0 dX11_whose_75 rfl ?_
          refine ex_istore_n (pc := 76) [(3, .int 0), (0, .ref x0), (1, .int x1), (2, .int x2), (4, .int x4)] dX11_whose_76 rfl (by decide) rfl ?_
          refine ex_iinc (pc := 77) (x4 + 1) 4 [(4, .int (x4 + 1)), (3, .int 0), (0, .ref x0), (1, .int x1), (2, .int x2)] dX11_whose_77 rfl rfl (by decide) rfl ?_
          refine ex_goto (pc := 80) 19 dX11_whose_80 rfl ?_
          refine ex_sub (lo' := [(0, .ref x0), (1, .int x1), (2, .int x2), (3, .int (jz false)), (4, .int (x4 + 1))]) [2, 3, 4, 1, 0] rfl ?_
          exact ih _ _ _ _ _ _ _  h
noncomputable def f_X11_whose_4 (n0 : Nat) (x0 : Nat) (x1 : Int32) (x2 : Int32) (M : Mem) : Option (Int32 × Mem) :=
  match n0 with
  | 0 => none
  | n + 1 =>
    (gR M 11 x0 0).bind fun v12 =>
    (rI M v12 1).bind fun v13 =>
    if v13 ≤ x2 then
    (some (x1, M))
    else
    (f_X11_whose_19 fu (f_X11_whose_4 n) x0 x1 x2 true 0 M)
set_option maxHeartbeats 4000000 in
theorem t_X11_whose_4 {X : XV} {d : Nat} (hd : 6 ≤ d + 1) : ∀ (n : Nat) (x0 : Nat) (x1 : Int32) (x2 : Int32) (M : Mem) (res : Int32 × Mem), f_X11_whose_4 n  x0 x1 x2 M = some res → Ex X (d + 1) mX11_whose 4 [(0, .ref x0), (1, .int x1), (2, .int x2)] [] M (some (.int res.1)) res.2 := by
  intro n
  induction n with
  | zero =>
    intro x0 x1 x2 M res  h
    unfold f_X11_whose_4 at h
    cases h
  | succ n ih =>
    intro x0 x1 x2 M res  h
    unfold f_X11_whose_4 at h
    refine ex_iload_n (pc := 4) 2 dX11_whose_4 rfl rfl ?_
    refine ex_aload_n (pc := 5) 0 dX11_whose_5 rfl rfl ?_
    obtain ⟨v12, ev12, h⟩ := ob_some h
    refine ex_gR (pc := 6) ev12 dX11_whose_6 lfX11_7 ?_
    refine ex_iconst (pc := 9) 1 dX11_whose_9 rfl ?_
    obtain ⟨v13, ev13, h⟩ := ob_some h
    refine ex_rI (pc := 10) ev13 dX11_whose_10 ?_
    by_cases c14 : v13 ≤ x2
    · rw [if_pos c14] at h
      refine ex_icmp_ge_t (pc := 11) 103 dX11_whose_11 rfl c14 ?_
      refine ex_iload_n (pc := 103) 1 dX11_whose_103 rfl rfl ?_
      cases h
      exact ex_ireturn (pc := 104) dX11_whose_104
    · rw [if_neg c14] at h
      refine ex_icmp_ge_f (pc := 11) dX11_whose_11 103 rfl c14 ?_
      refine ex_iconst (pc := 14) 1 dX11_whose_14 rfl ?_
      refine ex_istore_n (pc := 15) [(3, .int 1), (0, .ref x0), (1, .int x1), (2, .int x2)] dX11_whose_15 rfl (by decide) rfl ?_
      refine ex_iconst (pc := 16) 0 dX11_whose_16 rfl ?_
      refine ex_istore (pc := 17) [(4, .int 0), (3, .int 1), (0, .ref x0), (1, .int x1), (2, .int x2)] dX11_whose_17 (by decide) rfl ?_
      refine ex_sub (lo' := [(0, .ref x0), (1, .int x1), (2, .int x2), (3, .int (jz true)), (4, .int 0)]) [2, 3, 4, 1, 0] rfl ?_
      exact t_X11_whose_19 hd ih _ _ _ _ _ _ _ _  h
noncomputable def f_X11_whose_0 (x0 : Nat) (M : Mem) : Option (Int32 × Mem) :=
  f_X11_whose_4 fu x0 0 0 M
set_option maxHeartbeats 4000000 in
theorem t_X11_whose_0 {X : XV} {d : Nat} (hd : 6 ≤ d + 1) : ∀ (x0 : Nat) (M : Mem) (res : Int32 × Mem), f_X11_whose_0  x0 M = some res → Ex X (d + 1) mX11_whose 0 [(0, .ref x0)] [] M (some (.int res.1)) res.2 := by
  intro x0 M res  h
  unfold f_X11_whose_0 at h
  refine ex_iconst (pc := 0) 0 dX11_whose_0 rfl ?_
  refine ex_istore_n (pc := 1) [(1, .int 0), (0, .ref x0)] dX11_whose_1 rfl (by decide) rfl ?_
  refine ex_iconst (pc := 2) 0 dX11_whose_2 rfl ?_
  refine ex_istore_n (pc := 3) [(2, .int 0), (1, .int 0), (0, .ref x0)] dX11_whose_3 rfl (by decide) rfl ?_
  refine ex_sub (lo' := [(0, .ref x0), (1, .int 0), (2, .int 0)]) [2, 1, 0] rfl ?_
  exact t_X11_whose_4 hd  _ _ _ _ _ _  h
noncomputable def f_X11_whose (x0 : Nat) (M : Mem) : Option (Int32 × Mem) := if isOb M 11 x0 = true then f_X11_whose_0 x0 M else none
theorem o_X11_whose {x0 : Nat} {M : Mem} {res : Int32 × Mem} (h : f_X11_whose x0 M = some res) : isO M 11 x0 := by
  unfold f_X11_whose at h
  split at h
  · rename_i hc; exact isOb_iff hc
  · cases h
set_option maxHeartbeats 4000000 in
theorem s_X11_whose {X : XV} {d : Nat} (hd : 6 ≤ d) {x0 : Nat} {M : Mem} {res : Int32 × Mem} (h : f_X11_whose x0 M = some res) : Mx X d mX11_whose [.ref x0] M (some (.int res.1)) res.2 := by
  obtain ⟨d, rfl⟩ : ∃ e, d = e + 1 := ⟨d - 1, by omega⟩
  unfold f_X11_whose at h
  split at h
  rotate_left
  · cases h
  refine Mx.of (by decide) (Nat.le_of_ble_eq_true rfl) (⟨_, rfl, rfl⟩) ?_
  exact ex_sub (lo' := [(0, .ref x0)]) [0] rfl (t_X11_whose_0 hd _ _ _  h)
noncomputable def f_X11_image_0 (x0 : Nat) (M : Mem) : Option (Int32 × Mem) :=
  (gR M 11 x0 0).bind fun v1 =>
  (gR M 11 x0 1).bind fun v2 =>
  (f_X11_copy v1 v2 M).bind fun q3 =>
  (gR q3 11 x0 0).bind fun v4 =>
  (rI q3 v4 8).bind fun v5 =>
  some (v5, q3)
set_option maxHeartbeats 4000000 in
theorem t_X11_image_0 {X : XV} {d : Nat} (hd : 2 ≤ d + 1) : ∀ (x0 : Nat) (M : Mem) (res : Int32 × Mem), f_X11_image_0  x0 M = some res → Ex X (d + 1) mX11_image 0 [(0, .ref x0)] [] M (some (.int res.1)) res.2 := by
  intro x0 M res  h
  unfold f_X11_image_0 at h
  refine ex_aload_n (pc := 0) 0 dX11_image_0 rfl rfl ?_
  obtain ⟨v1, ev1, h⟩ := ob_some h
  refine ex_gR (pc := 1) ev1 dX11_image_1 lfX11_7 ?_
  refine ex_aload_n (pc := 4) 0 dX11_image_4 rfl rfl ?_
  obtain ⟨v2, ev2, h⟩ := ob_some h
  refine ex_gR (pc := 5) ev2 dX11_image_5 lfX11_13 ?_
  obtain ⟨q3, eq3, h⟩ := ob_some h
  refine ex_callS2v (pc := 8) dX11_image_8 jX11_copy lmX11_83 jsX11_copy (Nat.le_of_ble_eq_true rfl) (s_X11_copy (by omega)  eq3) ?_
  refine ex_aload_n (pc := 11) 0 dX11_image_11 rfl rfl ?_
  obtain ⟨v4, ev4, h⟩ := ob_some h
  refine ex_gR (pc := 12) ev4 dX11_image_12 lfX11_7 ?_
  refine ex_bipush (pc := 15) 8 dX11_image_15 (by decide) ?_
  obtain ⟨v5, ev5, h⟩ := ob_some h
  refine ex_rI (pc := 17) ev5 dX11_image_17 ?_
  cases h
  exact ex_ireturn (pc := 18) dX11_image_18
noncomputable def f_X11_image (x0 : Nat) (M : Mem) : Option (Int32 × Mem) := if isOb M 11 x0 = true then f_X11_image_0 x0 M else none
theorem o_X11_image {x0 : Nat} {M : Mem} {res : Int32 × Mem} (h : f_X11_image x0 M = some res) : isO M 11 x0 := by
  unfold f_X11_image at h
  split at h
  · rename_i hc; exact isOb_iff hc
  · cases h
set_option maxHeartbeats 4000000 in
theorem s_X11_image {X : XV} {d : Nat} (hd : 2 ≤ d) {x0 : Nat} {M : Mem} {res : Int32 × Mem} (h : f_X11_image x0 M = some res) : Mx X d mX11_image [.ref x0] M (some (.int res.1)) res.2 := by
  obtain ⟨d, rfl⟩ : ∃ e, d = e + 1 := ⟨d - 1, by omega⟩
  unfold f_X11_image at h
  split at h
  rotate_left
  · cases h
  refine Mx.of (by decide) (Nat.le_of_ble_eq_true rfl) (⟨_, rfl, rfl⟩) ?_
  exact ex_sub (lo' := [(0, .ref x0)]) [0] rfl (t_X11_image_0 hd _ _ _  h)
noncomputable def f_X11_back_0 (x0 : Nat) (M : Mem) : Option (Int32 × Mem) :=
  (gR M 11 x0 1).bind fun v1 =>
  (gR M 11 x0 0).bind fun v2 =>
  (f_X11_copy v1 v2 M).bind fun q3 =>
  (gR q3 11 x0 0).bind fun v4 =>
  (rI q3 v4 8).bind fun v5 =>
  some (v5, q3)
set_option maxHeartbeats 4000000 in
theorem t_X11_back_0 {X : XV} {d : Nat} (hd : 2 ≤ d + 1) : ∀ (x0 : Nat) (M : Mem) (res : Int32 × Mem), f_X11_back_0  x0 M = some res → Ex X (d + 1) mX11_back 0 [(0, .ref x0)] [] M (some (.int res.1)) res.2 := by
  intro x0 M res  h
  unfold f_X11_back_0 at h
  refine ex_aload_n (pc := 0) 0 dX11_back_0 rfl rfl ?_
  obtain ⟨v1, ev1, h⟩ := ob_some h
  refine ex_gR (pc := 1) ev1 dX11_back_1 lfX11_13 ?_
  refine ex_aload_n (pc := 4) 0 dX11_back_4 rfl rfl ?_
  obtain ⟨v2, ev2, h⟩ := ob_some h
  refine ex_gR (pc := 5) ev2 dX11_back_5 lfX11_7 ?_
  obtain ⟨q3, eq3, h⟩ := ob_some h
  refine ex_callS2v (pc := 8) dX11_back_8 jX11_copy lmX11_83 jsX11_copy (Nat.le_of_ble_eq_true rfl) (s_X11_copy (by omega)  eq3) ?_
  refine ex_aload_n (pc := 11) 0 dX11_back_11 rfl rfl ?_
  obtain ⟨v4, ev4, h⟩ := ob_some h
  refine ex_gR (pc := 12) ev4 dX11_back_12 lfX11_7 ?_
  refine ex_bipush (pc := 15) 8 dX11_back_15 (by decide) ?_
  obtain ⟨v5, ev5, h⟩ := ob_some h
  refine ex_rI (pc := 17) ev5 dX11_back_17 ?_
  cases h
  exact ex_ireturn (pc := 18) dX11_back_18
noncomputable def f_X11_back (x0 : Nat) (M : Mem) : Option (Int32 × Mem) := if isOb M 11 x0 = true then f_X11_back_0 x0 M else none
theorem o_X11_back {x0 : Nat} {M : Mem} {res : Int32 × Mem} (h : f_X11_back x0 M = some res) : isO M 11 x0 := by
  unfold f_X11_back at h
  split at h
  · rename_i hc; exact isOb_iff hc
  · cases h
set_option maxHeartbeats 4000000 in
theorem s_X11_back {X : XV} {d : Nat} (hd : 2 ≤ d) {x0 : Nat} {M : Mem} {res : Int32 × Mem} (h : f_X11_back x0 M = some res) : Mx X d mX11_back [.ref x0] M (some (.int res.1)) res.2 := by
  obtain ⟨d, rfl⟩ : ∃ e, d = e + 1 := ⟨d - 1, by omega⟩
  unfold f_X11_back at h
  split at h
  rotate_left
  · cases h
  refine Mx.of (by decide) (Nat.le_of_ble_eq_true rfl) (⟨_, rfl, rfl⟩) ?_
  exact ex_sub (lo' := [(0, .ref x0)]) [0] rfl (t_X11_back_0 hd _ _ _  h)
noncomputable def f_X11_about_0 (x0 : Nat) (x1 : Int32) (M : Mem) : Option (Int32) :=
  (f_X11_isIn x1 0 7).bind fun v1 =>
  if v1 = false then
  (if x1 = 8 then
  ((gI M 11 x0 4).bind fun v4 =>
  some v4)
  else
  (some (-2)))
  else
  ((gR M 11 x0 0).bind fun v5 =>
  (rI M v5 x1).bind fun v6 =>
  some v6)
set_option maxHeartbeats 4000000 in
theorem t_X11_about_0 {X : XV} {d : Nat} (hd : 2 ≤ d + 1) : ∀ (x0 : Nat) (x1 : Int32) (M : Mem) (res : Int32), f_X11_about_0  x0 x1 M = some res → Ex X (d + 1) mX11_about 0 [(0, .ref x0), (1, .int x1)] [] M (some (.int res)) M := by
  intro x0 x1 M res  h
  unfold f_X11_about_0 at h
  refine ex_iload_n (pc := 0) 1 dX11_about_0 rfl rfl ?_
  refine ex_iconst (pc := 1) 0 dX11_about_1 rfl ?_
  refine ex_bipush (pc := 2) 7 dX11_about_2 (by decide) ?_
  obtain ⟨v1, ev1, h⟩ := ob_some h
  refine ex_callS3r (pc := 4) dX11_about_4 jX11_isIn lmX11_87 jsX11_isIn (Nat.le_of_ble_eq_true rfl) (s_X11_isIn (by omega)  ev1) ?_
  by_cases c2 : v1 = false
  · rw [if_pos c2] at h
    refine ex_if_eq_t (pc := 7) 19 dX11_about_7 rfl (jz_eq_t c2) ?_
    refine ex_iload_n (pc := 19) 1 dX11_about_19 rfl rfl ?_
    refine ex_bipush (pc := 20) 8 dX11_about_20 (by decide) ?_
    by_cases c3 : x1 = 8
    · rw [if_pos c3] at h
      refine ex_icmp_ne_f (pc := 22) dX11_about_22 32 rfl c3 ?_
      refine ex_aload_n (pc := 25) 0 dX11_about_25 rfl rfl ?_
      obtain ⟨v4, ev4, h⟩ := ob_some h
      refine ex_gI (pc := 26) ev4 dX11_about_26 lfX11_111 ?_
      refine ex_goto (pc := 29) 34 dX11_about_29 rfl ?_
      cases h
      exact ex_ireturn (pc := 34) dX11_about_34
    · rw [if_neg c3] at h
      refine ex_icmp_ne_t (pc := 22) 32 dX11_about_22 rfl c3 ?_
      refine ex_bipush (pc := 32) (-2) dX11_about_32 (by decide) ?_
      cases h
      exact ex_ireturn (pc := 34) dX11_about_34
  · rw [if_neg c2] at h
    refine ex_if_eq_f (pc := 7) dX11_about_7 19 rfl (jz_eq_f c2) ?_
    refine ex_aload_n (pc := 10) 0 dX11_about_10 rfl rfl ?_
    obtain ⟨v5, ev5, h⟩ := ob_some h
    refine ex_gR (pc := 11) ev5 dX11_about_11 lfX11_7 ?_
    refine ex_iload_n (pc := 14) 1 dX11_about_14 rfl rfl ?_
    obtain ⟨v6, ev6, h⟩ := ob_some h
    refine ex_rI (pc := 15) ev6 dX11_about_15 ?_
    refine ex_goto (pc := 16) 34 dX11_about_16 rfl ?_
    cases h
    exact ex_ireturn (pc := 34) dX11_about_34
noncomputable def f_X11_about (x0 : Nat) (x1 : Int32) (M : Mem) : Option (Int32) := if isOb M 11 x0 = true then f_X11_about_0 x0 x1 M else none
theorem o_X11_about {x0 : Nat} {x1 : Int32} {M : Mem} {res : Int32} (h : f_X11_about x0 x1 M = some res) : isO M 11 x0 := by
  unfold f_X11_about at h
  split at h
  · rename_i hc; exact isOb_iff hc
  · cases h
set_option maxHeartbeats 4000000 in
theorem s_X11_about {X : XV} {d : Nat} (hd : 2 ≤ d) {x0 : Nat} {x1 : Int32} {M : Mem} {res : Int32} (h : f_X11_about x0 x1 M = some res) : Mx X d mX11_about [.ref x0, .int x1] M (some (.int res)) M := by
  obtain ⟨d, rfl⟩ : ∃ e, d = e + 1 := ⟨d - 1, by omega⟩
  unfold f_X11_about at h
  split at h
  rotate_left
  · cases h
  refine Mx.of (by decide) (Nat.le_of_ble_eq_true rfl) (⟨_, rfl, rfl⟩) ?_
  exact ex_sub (lo' := [(0, .ref x0), (1, .int x1)]) [0, 1] rfl (t_X11_about_0 hd _ _ _ _  h)
