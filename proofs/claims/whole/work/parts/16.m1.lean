noncomputable def f_X11_beginOne_81 (x0 : Nat) (s0 : Int32) (s1 : Bool) (s2 : Nat) (M : Mem) : Option (Int32 × Mem) :=
  (f_X11_emit s2 (jz s1) s0 M).bind fun q1 =>
  (f_X11_nextToken x0 q1).bind fun q2 =>
  (pF q2 11 x0 18 (.int (jz true))).bind fun q3 =>
  (f_X11_settle x0 7 q3).bind fun q4 =>
  some (0, q4)
set_option maxHeartbeats 4000000 in
theorem t_X11_beginOne_81 {X : XV} {d : Nat} (hd : 6 ≤ d + 1) : ∀ (x0 : Nat) (s0 : Int32) (s1 : Bool) (s2 : Nat) (M : Mem) (res : Int32 × Mem), f_X11_beginOne_81  x0 s0 s1 s2 M = some res → Ex X (d + 1) mX11_beginOne 81 [(0, .ref x0)] [.int s0, .int (jz s1), .ref s2] M (some (.int res.1)) res.2 := by
  intro x0 s0 s1 s2 M res  h
  unfold f_X11_beginOne_81 at h
  obtain ⟨q1, eq1, h⟩ := ob_some h
  refine ex_callV2v (pc := 81) dX11_beginOne_81 jX11_emit lmX11_179 jiX11_emit jvX11_emit (o_X11_emit eq1) rfl (Nat.le_of_ble_eq_true rfl) (s_X11_emit (by omega)  eq1) ?_
  refine ex_aload_n (pc := 84) 0 dX11_beginOne_84 rfl rfl ?_
  obtain ⟨q2, eq2, h⟩ := ob_some h
  refine ex_callV0v (pc := 85) dX11_beginOne_85 jX11_nextToken lmX11_193 jiX11_nextToken jvX11_nextToken (o_X11_nextToken eq2) rfl (Nat.le_of_ble_eq_true rfl) (s_X11_nextToken (by omega)  eq2) ?_
  refine ex_aload_n (pc := 88) 0 dX11_beginOne_88 rfl rfl ?_
  refine ex_iconst (pc := 89) 1 dX11_beginOne_89 rfl ?_
  obtain ⟨q3, eq3, h⟩ := ob_some h
  refine ex_pF (pc := 90) eq3 dX11_beginOne_90 lfX11_202 (jz_nar true) (jz_fit true) (fun _ hq => by cases hq; rfl) ?_
  refine ex_aload_n (pc := 93) 0 dX11_beginOne_93 rfl rfl ?_
  refine ex_bipush (pc := 94) 7 dX11_beginOne_94 (by decide) ?_
  obtain ⟨q4, eq4, h⟩ := ob_some h
  refine ex_callV1v (pc := 96) dX11_beginOne_96 jX11_settle lmX11_205 jiX11_settle jvX11_settle (o_X11_settle eq4) rfl (Nat.le_of_ble_eq_true rfl) (s_X11_settle (by omega)  eq4) ?_
  refine ex_iconst (pc := 99) 0 dX11_beginOne_99 rfl ?_
  cases h
  exact ex_ireturn (pc := 100) dX11_beginOne_100
noncomputable def f_X11_beginOne_65 (x0 : Nat) (x1 : Int32) (s0 : Bool) (s1 : Nat) (M : Mem) : Option (Int32 × Mem) :=
  (gI M 11 x0 9).bind fun v5 =>
  if v5 = 1 then
  ((gI M 11 x0 10).bind fun v7 =>
  f_X11_beginOne_81 x0 v7 s0 s1 M)
  else
  (f_X11_beginOne_81 x0 x1 s0 s1 M)
set_option maxHeartbeats 4000000 in
theorem t_X11_beginOne_65 {X : XV} {d : Nat} (hd : 6 ≤ d + 1) : ∀ (x0 : Nat) (x1 : Int32) (s0 : Bool) (s1 : Nat) (M : Mem) (res : Int32 × Mem), f_X11_beginOne_65  x0 x1 s0 s1 M = some res → Ex X (d + 1) mX11_beginOne 65 [(0, .ref x0), (1, .int x1)] [.int (jz s0), .ref s1] M (some (.int res.1)) res.2 := by
  intro x0 x1 s0 s1 M res  h
  unfold f_X11_beginOne_65 at h
  refine ex_aload_n (pc := 65) 0 dX11_beginOne_65 rfl rfl ?_
  obtain ⟨v5, ev5, h⟩ := ob_some h
  refine ex_gI (pc := 66) ev5 dX11_beginOne_66 lfX11_126 ?_
  refine ex_iconst (pc := 69) 1 dX11_beginOne_69 rfl ?_
  by_cases c6 : v5 = 1
  · rw [if_pos c6] at h
    refine ex_icmp_ne_f (pc := 70) dX11_beginOne_70 80 rfl c6 ?_
    refine ex_aload_n (pc := 73) 0 dX11_beginOne_73 rfl rfl ?_
    obtain ⟨v7, ev7, h⟩ := ob_some h
    refine ex_gI (pc := 74) ev7 dX11_beginOne_74 lfX11_132 ?_
    refine ex_goto (pc := 77) 81 dX11_beginOne_77 rfl ?_
    refine ex_sub (lo' := [(0, .ref x0)]) [0] rfl ?_
    exact t_X11_beginOne_81 hd  _ _ _ _ _ _  h
  · rw [if_neg c6] at h
    refine ex_icmp_ne_t (pc := 70) 80 dX11_beginOne_70 rfl c6 ?_
    refine ex_iload_n (pc := 80) 1 dX11_beginOne_80 rfl rfl ?_
    refine ex_sub (lo' := [(0, .ref x0)]) [0] rfl ?_
    exact t_X11_beginOne_81 hd  _ _ _ _ _ _  h
noncomputable def f_X11_beginOne_51 (x0 : Nat) (x1 : Int32) (M : Mem) : Option (Int32 × Mem) :=
  (gI M 11 x0 9).bind fun v8 =>
  if v8 = 1 then
  (f_X11_beginOne_65 x0 x1 false x0 M)
  else
  (f_X11_beginOne_65 x0 x1 true x0 M)
set_option maxHeartbeats 4000000 in
theorem t_X11_beginOne_51 {X : XV} {d : Nat} (hd : 6 ≤ d + 1) : ∀ (x0 : Nat) (x1 : Int32) (M : Mem) (res : Int32 × Mem), f_X11_beginOne_51  x0 x1 M = some res → Ex X (d + 1) mX11_beginOne 51 [(0, .ref x0), (1, .int x1)] [] M (some (.int res.1)) res.2 := by
  intro x0 x1 M res  h
  unfold f_X11_beginOne_51 at h
  refine ex_aload_n (pc := 51) 0 dX11_beginOne_51 rfl rfl ?_
  refine ex_aload_n (pc := 52) 0 dX11_beginOne_52 rfl rfl ?_
  obtain ⟨v8, ev8, h⟩ := ob_some h
  refine ex_gI (pc := 53) ev8 dX11_beginOne_53 lfX11_126 ?_
  refine ex_iconst (pc := 56) 1 dX11_beginOne_56 rfl ?_
  by_cases c9 : v8 = 1
  · rw [if_pos c9] at h
    refine ex_icmp_ne_f (pc := 57) dX11_beginOne_57 64 rfl c9 ?_
    refine ex_iconst (pc := 60) 0 dX11_beginOne_60 rfl ?_
    refine ex_goto (pc := 61) 65 dX11_beginOne_61 rfl ?_
    refine ex_sub (lo' := [(0, .ref x0), (1, .int x1)]) [0, 1] rfl ?_
    exact t_X11_beginOne_65 hd  _ _ _ _ _ _  h
  · rw [if_neg c9] at h
    refine ex_icmp_ne_t (pc := 57) 64 dX11_beginOne_57 rfl c9 ?_
    refine ex_iconst (pc := 64) 1 dX11_beginOne_64 rfl ?_
    refine ex_sub (lo' := [(0, .ref x0), (1, .int x1)]) [0, 1] rfl ?_
    exact t_X11_beginOne_65 hd  _ _ _ _ _ _  h
noncomputable def f_X11_beginOne_39 (x0 : Nat) (x1 : Int32) (M : Mem) : Option (Int32 × Mem) :=
  (gI M 11 x0 9).bind fun v10 =>
  if v10 = 1 then
  (f_X11_beginOne_51 x0 x1 M)
  else
  (if x1 < 0 then
  ((gI M 11 x0 9).bind fun v13 =>
  if v13 = 40 then
  ((f_X11_opened x0 40 M).bind fun q36 =>
  some (q36.1, q36.2))
  else
  ((gI M 11 x0 9).bind fun v15 =>
  if v15 = 45 then
  ((f_X11_opened x0 5 M).bind fun q35 =>
  some (q35.1, q35.2))
  else
  ((f_X11_w6 100 105 103 105 116 115).bind fun v17 =>
  (f_X11_isWord x0 v17 M).bind fun v18 =>
  if v18 = false then
  ((f_X11_w4 115 117 109 115).bind fun v20 =>
  (f_X11_isWord x0 v20 M).bind fun v21 =>
  if v21 = false then
  ((f_X11_w2 105 102).bind fun v23 =>
  (f_X11_isWord x0 v23 M).bind fun v24 =>
  if v24 = false then
  ((f_X11_w3 110 111 116).bind fun v26 =>
  (f_X11_isWord x0 v26 M).bind fun v27 =>
  if v27 = false then
  (some (1, M))
  else
  ((f_X11_isAskAhead x0 M).bind fun v29 =>
  if v29 = false then
  (some (1, M))
  else
  ((f_X11_opened x0 20 M).bind fun q31 =>
  some (q31.1, q31.2))))
  else
  ((f_X11_opened x0 41 M).bind fun q32 =>
  some (q32.1, q32.2)))
  else
  ((f_X11_opened x0 3 M).bind fun q33 =>
  some (q33.1, q33.2)))
  else
  ((f_X11_opened x0 2 M).bind fun q34 =>
  some (q34.1, q34.2)))))
  else
  (f_X11_beginOne_51 x0 x1 M))
set_option maxHeartbeats 4000000 in
theorem t_X11_beginOne_39 {X : XV} {d : Nat} (hd : 6 ≤ d + 1) : ∀ (x0 : Nat) (x1 : Int32) (M : Mem) (res : Int32 × Mem), f_X11_beginOne_39  x0 x1 M = some res → Ex X (d + 1) mX11_beginOne 39 [(0, .ref x0), (1, .int x1)] [] M (some (.int res.1)) res.2 := by
  intro x0 x1 M res  h
  unfold f_X11_beginOne_39 at h
  refine ex_aload_n (pc := 39) 0 dX11_beginOne_39 rfl rfl ?_
  obtain ⟨v10, ev10, h⟩ := ob_some h
  refine ex_gI (pc := 40) ev10 dX11_beginOne_40 lfX11_126 ?_
  refine ex_iconst (pc := 43) 1 dX11_beginOne_43 rfl ?_
  by_cases c11 : v10 = 1
  · rw [if_pos c11] at h
    refine ex_icmp_eq_t (pc := 44) 51 dX11_beginOne_44 rfl c11 ?_
    refine ex_sub (lo' := [(0, .ref x0), (1, .int x1)]) [0, 1] rfl ?_
    exact t_X11_beginOne_51 hd  _ _ _ _  h
  · rw [if_neg c11] at h
    refine ex_icmp_eq_f (pc := 44) dX11_beginOne_44 51 rfl c11 ?_
    refine ex_iload_n (pc := 47) 1 dX11_beginOne_47 rfl rfl ?_
    by_cases c12 : x1 < 0
    · rw [if_pos c12] at h
      refine ex_if_lt_t (pc := 48) 101 dX11_beginOne_48 rfl c12 ?_
      refine ex_aload_n (pc := 101) 0 dX11_beginOne_101 rfl rfl ?_
      obtain ⟨v13, ev13, h⟩ := ob_some h
      refine ex_gI (pc := 102) ev13 dX11_beginOne_102 lfX11_126 ?_
      refine ex_bipush (pc := 105) 40 dX11_beginOne_105 (by decide) ?_
      by_cases c14 : v13 = 40
      · rw [if_pos c14] at h
        refine ex_icmp_ne_f (pc := 107) dX11_beginOne_107 117 rfl c14 ?_
        refine ex_aload_n (pc := 110) 0 dX11_beginOne_110 rfl rfl ?_
        refine ex_bipush (pc := 111) 40 dX11_beginOne_111 (by decide) ?_
        obtain ⟨q36, eq36, h⟩ := ob_some h
        refine ex_callV1r (pc := 113) dX11_beginOne_113 jX11_opened lmX11_208 jiX11_opened jvX11_opened (o_X11_opened eq36) rfl (Nat.le_of_ble_eq_true rfl) (s_X11_opened (by omega)  eq36) ?_
        cases h
        exact ex_ireturn (pc := 116) dX11_beginOne_116
      · rw [if_neg c14] at h
        refine ex_icmp_ne_t (pc := 107) 117 dX11_beginOne_107 rfl c14 ?_
        refine ex_aload_n (pc := 117) 0 dX11_beginOne_117 rfl rfl ?_
        obtain ⟨v15, ev15, h⟩ := ob_some h
        refine ex_gI (pc := 118) ev15 dX11_beginOne_118 lfX11_126 ?_
        refine ex_bipush (pc := 121) 45 dX11_beginOne_121 (by decide) ?_
        by_cases c16 : v15 = 45
        · rw [if_pos c16] at h
          refine ex_icmp_ne_f (pc := 123) dX11_beginOne_123 132 rfl c16 ?_
          refine ex_aload_n (pc := 126) 0 dX11_beginOne_126 rfl rfl ?_
          refine ex_iconst (pc := 127) 5 dX11_beginOne_127 rfl ?_
          obtain ⟨q35, eq35, h⟩ := ob_some h
          refine ex_callV1r (pc := 128) dX11_beginOne_128 jX11_opened lmX11_208 jiX11_opened jvX11_opened (o_X11_opened eq35) rfl (Nat.le_of_ble_eq_true rfl) (s_X11_opened (by omega)  eq35) ?_
          cases h
          exact ex_ireturn (pc := 131) dX11_beginOne_131
        · rw [if_neg c16] at h
          refine ex_icmp_ne_t (pc := 123) 132 dX11_beginOne_123 rfl c16 ?_
          refine ex_aload_n (pc := 132) 0 dX11_beginOne_132 rfl rfl ?_
          refine ex_bipush (pc := 133) 100 dX11_beginOne_133 (by decide) ?_
          refine ex_bipush (pc := 135) 105 dX11_beginOne_135 (by decide) ?_
          refine ex_bipush (pc := 137) 103 dX11_beginOne_137 (by decide) ?_
          refine ex_bipush (pc := 139) 105 dX11_beginOne_139 (by decide) ?_
          refine ex_bipush (pc := 141) 116 dX11_beginOne_141 (by decide) ?_
          refine ex_bipush (pc := 143) 115 dX11_beginOne_143 (by decide) ?_
          obtain ⟨v17, ev17, h⟩ := ob_some h
          refine ex_callS6r (pc := 145) dX11_beginOne_145 jX11_w6 lmX11_211 jsX11_w6 (Nat.le_of_ble_eq_true rfl) (s_X11_w6 (by omega)  ev17) ?_
          obtain ⟨v18, ev18, h⟩ := ob_some h
          refine ex_callV1r (pc := 148) dX11_beginOne_148 jX11_isWord lmX11_215 jiX11_isWord jvX11_isWord (o_X11_isWord ev18) rfl (Nat.le_of_ble_eq_true rfl) (s_X11_isWord (by omega)  ev18) ?_
          by_cases c19 : v18 = false
          · rw [if_pos c19] at h
            refine ex_if_eq_t (pc := 151) 160 dX11_beginOne_151 rfl (jz_eq_t c19) ?_
            refine ex_aload_n (pc := 160) 0 dX11_beginOne_160 rfl rfl ?_
            refine ex_bipush (pc := 161) 115 dX11_beginOne_161 (by decide) ?_
            refine ex_bipush (pc := 163) 117 dX11_beginOne_163 (by decide) ?_
            refine ex_bipush (pc := 165) 109 dX11_beginOne_165 (by decide) ?_
            refine ex_bipush (pc := 167) 115 dX11_beginOne_167 (by decide) ?_
            obtain ⟨v20, ev20, h⟩ := ob_some h
            refine ex_callS4r (pc := 169) dX11_beginOne_169 jX11_w4 lmX11_156 jsX11_w4 (Nat.le_of_ble_eq_true rfl) (s_X11_w4 (by omega)  ev20) ?_
            obtain ⟨v21, ev21, h⟩ := ob_some h
            refine ex_callV1r (pc := 172) dX11_beginOne_172 jX11_isWord lmX11_215 jiX11_isWord jvX11_isWord (o_X11_isWord ev21) rfl (Nat.le_of_ble_eq_true rfl) (s_X11_isWord (by omega)  ev21) ?_
            by_cases c22 : v21 = false
            · rw [if_pos c22] at h
              refine ex_if_eq_t (pc := 175) 184 dX11_beginOne_175 rfl (jz_eq_t c22) ?_
              refine ex_aload_n (pc := 184) 0 dX11_beginOne_184 rfl rfl ?_
              refine ex_bipush (pc := 185) 105 dX11_beginOne_185 (by decide) ?_
              refine ex_bipush (pc := 187) 102 dX11_beginOne_187 (by decide) ?_
              obtain ⟨v23, ev23, h⟩ := ob_some h
              refine ex_callS2r (pc := 189) dX11_beginOne_189 jX11_w2 lmX11_148 jsX11_w2 (Nat.le_of_ble_eq_true rfl) (s_X11_w2 (by omega)  ev23) ?_
              obtain ⟨v24, ev24, h⟩ := ob_some h
              refine ex_callV1r (pc := 192) dX11_beginOne_192 jX11_isWord lmX11_215 jiX11_isWord jvX11_isWord (o_X11_isWord ev24) rfl (Nat.le_of_ble_eq_true rfl) (s_X11_isWord (by omega)  ev24) ?_
              by_cases c25 : v24 = false
              · rw [if_pos c25] at h
                refine ex_if_eq_t (pc := 195) 205 dX11_beginOne_195 rfl (jz_eq_t c25) ?_
                refine ex_aload_n (pc := 205) 0 dX11_beginOne_205 rfl rfl ?_
                refine ex_bipush (pc := 206) 110 dX11_beginOne_206 (by decide) ?_
                refine ex_bipush (pc := 208) 111 dX11_beginOne_208 (by decide) ?_
                refine ex_bipush (pc := 210) 116 dX11_beginOne_210 (by decide) ?_
                obtain ⟨v26, ev26, h⟩ := ob_some h
                refine ex_callS3r (pc := 212) dX11_beginOne_212 jX11_w3 lmX11_152 jsX11_w3 (Nat.le_of_ble_eq_true rfl) (s_X11_w3 (by omega)  ev26) ?_
                obtain ⟨v27, ev27, h⟩ := ob_some h
                refine ex_callV1r (pc := 215) dX11_beginOne_215 jX11_isWord lmX11_215 jiX11_isWord jvX11_isWord (o_X11_isWord ev27) rfl (Nat.le_of_ble_eq_true rfl) (s_X11_isWord (by omega)  ev27) ?_
                by_cases c28 : v27 = false
                · rw [if_pos c28] at h
                  refine ex_if_eq_t (pc := 218) 237 dX11_beginOne_218 rfl (jz_eq_t c28) ?_
                  refine ex_iconst (pc := 237) 1 dX11_beginOne_237 rfl ?_
                  cases h
                  exact ex_ireturn (pc := 238) dX11_beginOne_238
                · rw [if_neg c28] at h
                  refine ex_if_eq_f (pc := 218) dX11_beginOne_218 237 rfl (jz_eq_f c28) ?_
                  refine ex_aload_n (pc := 221) 0 dX11_beginOne_221 rfl rfl ?_
                  obtain ⟨v29, ev29, h⟩ := ob_some h
                  refine ex_callV0r (pc := 222) dX11_beginOne_222 jX11_isAskAhead lmX11_219 jiX11_isAskAhead jvX11_isAskAhead (o_X11_isAskAhead ev29) rfl (Nat.le_of_ble_eq_true rfl) (s_X11_isAskAhead (by omega)  ev29) ?_
                  by_cases c30 : v29 = false
                  · rw [if_pos c30] at h
                    refine ex_if_eq_t (pc := 225) 237 dX11_beginOne_225 rfl (jz_eq_t c30) ?_
                    refine ex_iconst (pc := 237) 1 dX11_beginOne_237 rfl ?_
                    cases h
                    exact ex_ireturn (pc := 238) dX11_beginOne_238
                  · rw [if_neg c30] at h
                    refine ex_if_eq_f (pc := 225) dX11_beginOne_225 237 rfl (jz_eq_f c30) ?_
                    refine ex_aload_n (pc := 228) 0 dX11_beginOne_228 rfl rfl ?_
                    refine ex_bipush (pc := 229) 20 dX11_beginOne_229 (by decide) ?_
                    obtain ⟨q31, eq31, h⟩ := ob_some h
                    refine ex_callV1r (pc := 231) dX11_beginOne_231 jX11_opened lmX11_208 jiX11_opened jvX11_opened (o_X11_opened eq31) rfl (Nat.le_of_ble_eq_true rfl) (s_X11_opened (by omega)  eq31) ?_
                    refine ex_goto (pc := 234) 238 dX11_beginOne_234 rfl ?_
                    cases h
                    exact ex_ireturn (pc := 238) dX11_beginOne_238
              · rw [if_neg c25] at h
                refine ex_if_eq_f (pc := 195) dX11_beginOne_195 205 rfl (jz_eq_f c25) ?_
                refine ex_aload_n (pc := 198) 0 dX11_beginOne_198 rfl rfl ?_
                refine ex_bipush (pc := 199) 41 dX11_beginOne_199 (by decide) ?_
                obtain ⟨q32, eq32, h⟩ := ob_some h
                refine ex_callV1r (pc := 201) dX11_beginOne_201 jX11_opened lmX11_208 jiX11_opened jvX11_opened (o_X11_opened eq32) rfl (Nat.le_of_ble_eq_true rfl) (s_X11_opened (by omega)  eq32) ?_
                cases h
                exact ex_ireturn (pc := 204) dX11_beginOne_204
            · rw [if_neg c22] at h
              refine ex_if_eq_f (pc := 175) dX11_beginOne_175 184 rfl (jz_eq_f c22) ?_
              refine ex_aload_n (pc := 178) 0 dX11_beginOne_178 rfl rfl ?_
              refine ex_iconst (pc := 179) 3 dX11_beginOne_179 rfl ?_
              obtain ⟨q33, eq33, h⟩ := ob_some h
              refine ex_callV1r (pc := 180) dX11_beginOne_180 jX11_opened lmX11_208 jiX11_opened jvX11_opened (o_X11_opened eq33) rfl (Nat.le_of_ble_eq_true rfl) (s_X11_opened (by omega)  eq33) ?_
              cases h
              exact ex_ireturn (pc := 183) dX11_beginOne_183
          · rw [if_neg c19] at h
            refine ex_if_eq_f (pc := 151) dX11_beginOne_151 160 rfl (jz_eq_f c19) ?_
            refine ex_aload_n (pc := 154) 0 dX11_beginOne_154 rfl rfl ?_
            refine ex_iconst (pc := 155) 2 dX11_beginOne_155 rfl ?_
            obtain ⟨q34, eq34, h⟩ := ob_some h
            refine ex_callV1r (pc := 156) dX11_beginOne_156 jX11_opened lmX11_208 jiX11_opened jvX11_opened (o_X11_opened eq34) rfl (Nat.le_of_ble_eq_true rfl) (s_X11_opened (by omega)  eq34) ?_
            cases h
            exact ex_ireturn (pc := 159) dX11_beginOne_159
    · rw [if_neg c12] at h
      refine ex_if_lt_f (pc := 48) dX11_beginOne_48 101 rfl c12 ?_
      refine ex_sub (lo' := [(0, .ref x0), (1, .int x1)]) [0, 1] rfl ?_
      exact t_X11_beginOne_51 hd  _ _ _ _  h
noncomputable def f_X11_beginOne_20 (x0 : Nat) (M : Mem) : Option (Int32 × Mem) :=
  (f_X11_nameOf x0 M).bind fun v37 =>
  if v37 < 0 then
  (f_X11_beginOne_39 x0 v37 M)
  else
  ((f_X11_isOf x0 v37 M).bind fun v39 =>
  if v39 = true then
  (f_X11_beginOne_39 x0 v37 M)
  else
  (some (5, M)))
set_option maxHeartbeats 4000000 in
theorem t_X11_beginOne_20 {X : XV} {d : Nat} (hd : 6 ≤ d + 1) : ∀ (x0 : Nat) (M : Mem) (res : Int32 × Mem), f_X11_beginOne_20  x0 M = some res → Ex X (d + 1) mX11_beginOne 20 [(0, .ref x0)] [] M (some (.int res.1)) res.2 := by
  intro x0 M res  h
  unfold f_X11_beginOne_20 at h
  refine ex_aload_n (pc := 20) 0 dX11_beginOne_20 rfl rfl ?_
  obtain ⟨v37, ev37, h⟩ := ob_some h
  refine ex_callV0r (pc := 21) dX11_beginOne_21 jX11_nameOf lmX11_196 jiX11_nameOf jvX11_nameOf (o_X11_nameOf ev37) rfl (Nat.le_of_ble_eq_true rfl) (s_X11_nameOf (by omega)  ev37) ?_
  refine ex_istore_n (pc := 24) [(1, .int v37), (0, .ref x0)] dX11_beginOne_24 rfl (by decide) rfl ?_
  refine ex_iload_n (pc := 25) 0 dX11_beginOne_25 rfl rfl ?_
  by_cases c38 : v37 < 0
  · rw [if_pos c38] at h
    refine ex_if_lt_t (pc := 26) 39 dX11_beginOne_26 rfl c38 ?_
    refine ex_sub (lo' := [(0, .ref x0), (1, .int v37)]) [1, 0] rfl ?_
    exact t_X11_beginOne_39 hd  _ _ _ _  h
  · rw [if_neg c38] at h
    refine ex_if_lt_f (pc := 26) dX11_beginOne_26 39 rfl c38 ?_
    refine ex_aload_n (pc := 29) 1 dX11_beginOne_29 rfl rfl ?_
    refine ex_iload_n (pc := 30) 0 dX11_beginOne_30 rfl rfl ?_
    obtain ⟨v39, ev39, h⟩ := ob_some h
    refine ex_callV1r (pc := 31) dX11_beginOne_31 jX11_isOf lmX11_199 jiX11_isOf jvX11_isOf (o_X11_isOf ev39) rfl (Nat.le_of_ble_eq_true rfl) (s_X11_isOf (by omega)  ev39) ?_
    by_cases c40 : v39 = true
    · rw [if_pos c40] at h
      refine ex_if_ne_t (pc := 34) 39 dX11_beginOne_34 rfl (jz_ne_t c40) ?_
      refine ex_sub (lo' := [(0, .ref x0), (1, .int v37)]) [1, 0] rfl ?_
      exact t_X11_beginOne_39 hd  _ _ _ _  h
    · rw [if_neg c40] at h
      refine ex_if_ne_f (pc := 34) dX11_beginOne_34 39 rfl (jz_ne_f c40) ?_
      refine ex_iconst (pc := 37) 5 dX11_beginOne_37 rfl ?_
      cases h
      exact ex_ireturn (pc := 38) dX11_beginOne_38
noncomputable def f_X11_beginOne_0 (x0 : Nat) (M : Mem) : Option (Int32 × Mem) :=
  (gI M 11 x0 9).bind fun v41 =>
  if v41 = 1 then
  ((gI M 11 x0 10).bind fun v43 =>
  if v43 ≤ 9999 then
  (f_X11_beginOne_20 x0 M)
  else
  (some (2, M)))
  else
  (f_X11_beginOne_20 x0 M)
set_option maxHeartbeats 4000000 in
theorem t_X11_beginOne_0 {X : XV} {d : Nat} (hd : 6 ≤ d + 1) : ∀ (x0 : Nat) (M : Mem) (res : Int32 × Mem), f_X11_beginOne_0  x0 M = some res → Ex X (d + 1) mX11_beginOne 0 [(0, .ref x0)] [] M (some (.int res.1)) res.2 := by
  intro x0 M res  h
  unfold f_X11_beginOne_0 at h
  refine ex_aload_n (pc := 0) 0 dX11_beginOne_0 rfl rfl ?_
  obtain ⟨v41, ev41, h⟩ := ob_some h
  refine ex_gI (pc := 1) ev41 dX11_beginOne_1 lfX11_126 ?_
  refine ex_iconst (pc := 4) 1 dX11_beginOne_4 rfl ?_
  by_cases c42 : v41 = 1
  · rw [if_pos c42] at h
    refine ex_icmp_ne_f (pc := 5) dX11_beginOne_5 20 rfl c42 ?_
    refine ex_aload_n (pc := 8) 0 dX11_beginOne_8 rfl rfl ?_
    obtain ⟨v43, ev43, h⟩ := ob_some h
    refine ex_gI (pc := 9) ev43 dX11_beginOne_9 lfX11_132 ?_
    refine ex_sipush (pc := 12) 9999 dX11_beginOne_12 (by decide) ?_
    by_cases c44 : v43 ≤ 9999
    · rw [if_pos c44] at h
      refine ex_icmp_le_t (pc := 15) 20 dX11_beginOne_15 rfl c44 ?_
      refine ex_sub (lo' := [(0, .ref x0)]) [0] rfl ?_
      exact t_X11_beginOne_20 hd  _ _ _  h
    · rw [if_neg c44] at h
      refine ex_icmp_le_f (pc := 15) dX11_beginOne_15 20 rfl c44 ?_
      refine ex_iconst (pc := 18) 2 dX11_beginOne_18 rfl ?_
      cases h
      exact ex_ireturn (pc := 19) dX11_beginOne_19
  · rw [if_neg c42] at h
    refine ex_icmp_ne_t (pc := 5) 20 dX11_beginOne_5 rfl c42 ?_
    refine ex_sub (lo' := [(0, .ref x0)]) [0] rfl ?_
    exact t_X11_beginOne_20 hd  _ _ _  h
noncomputable def f_X11_beginOne (x0 : Nat) (M : Mem) : Option (Int32 × Mem) := if isOb M 11 x0 = true then f_X11_beginOne_0 x0 M else none
theorem o_X11_beginOne {x0 : Nat} {M : Mem} {res : Int32 × Mem} (h : f_X11_beginOne x0 M = some res) : isO M 11 x0 := by
  unfold f_X11_beginOne at h
  split at h
  · rename_i hc; exact isOb_iff hc
  · cases h
set_option maxHeartbeats 4000000 in
theorem s_X11_beginOne {X : XV} {d : Nat} (hd : 6 ≤ d) {x0 : Nat} {M : Mem} {res : Int32 × Mem} (h : f_X11_beginOne x0 M = some res) : Mx X d mX11_beginOne [.ref x0] M (some (.int res.1)) res.2 := by
  obtain ⟨d, rfl⟩ : ∃ e, d = e + 1 := ⟨d - 1, by omega⟩
  unfold f_X11_beginOne at h
  split at h
  rotate_left
  · cases h
  refine Mx.of (by decide) (Nat.le_of_ble_eq_true rfl) (⟨_, rfl, rfl⟩) ?_
  exact ex_sub (lo' := [(0, .ref x0)]) [0] rfl (t_X11_beginOne_0 hd _ _ _  h)
noncomputable def f_X11_compareOf_0 (x0 : Nat) (M : Mem) : Option (Int32) :=
  (gI M 11 x0 9).bind fun v1 =>
  if v1 = 60 then
  (some 10)
  else
  ((gI M 11 x0 9).bind fun v3 =>
  if v3 = 4 then
  (some 11)
  else
  ((gI M 11 x0 9).bind fun v5 =>
  if v5 = 62 then
  (some 12)
  else
  ((gI M 11 x0 9).bind fun v7 =>
  if v7 = 5 then
  (some 13)
  else
  ((gI M 11 x0 9).bind fun v9 =>
  if v9 = 61 then
  (some 14)
  else
  ((gI M 11 x0 9).bind fun v11 =>
  if v11 = 35 then
  (some 15)
  else
  (some (-1)))))))
set_option maxHeartbeats 4000000 in
theorem t_X11_compareOf_0 {X : XV} {d : Nat} (hd : 1 ≤ d + 1) : ∀ (x0 : Nat) (M : Mem) (res : Int32), f_X11_compareOf_0  x0 M = some res → Ex X (d + 1) mX11_compareOf 0 [(0, .ref x0)] [] M (some (.int res)) M := by
  intro x0 M res  h
  unfold f_X11_compareOf_0 at h
  refine ex_aload_n (pc := 0) 0 dX11_compareOf_0 rfl rfl ?_
  obtain ⟨v1, ev1, h⟩ := ob_some h
  refine ex_gI (pc := 1) ev1 dX11_compareOf_1 lfX11_126 ?_
  refine ex_bipush (pc := 4) 60 dX11_compareOf_4 (by decide) ?_
  by_cases c2 : v1 = 60
  · rw [if_pos c2] at h
    refine ex_icmp_ne_f (pc := 6) dX11_compareOf_6 14 rfl c2 ?_
    refine ex_bipush (pc := 9) 10 dX11_compareOf_9 (by decide) ?_
    refine ex_goto (pc := 11) 83 dX11_compareOf_11 rfl ?_
    cases h
    exact ex_ireturn (pc := 83) dX11_compareOf_83
  · rw [if_neg c2] at h
    refine ex_icmp_ne_t (pc := 6) 14 dX11_compareOf_6 rfl c2 ?_
    refine ex_aload_n (pc := 14) 0 dX11_compareOf_14 rfl rfl ?_
    obtain ⟨v3, ev3, h⟩ := ob_some h
    refine ex_gI (pc := 15) ev3 dX11_compareOf_15 lfX11_126 ?_
    refine ex_iconst (pc := 18) 4 dX11_compareOf_18 rfl ?_
    by_cases c4 : v3 = 4
    · rw [if_pos c4] at h
      refine ex_icmp_ne_f (pc := 19) dX11_compareOf_19 27 rfl c4 ?_
      refine ex_bipush (pc := 22) 11 dX11_compareOf_22 (by decide) ?_
      refine ex_goto (pc := 24) 83 dX11_compareOf_24 rfl ?_
      cases h
      exact ex_ireturn (pc := 83) dX11_compareOf_83
    · rw [if_neg c4] at h
      refine ex_icmp_ne_t (pc := 19) 27 dX11_compareOf_19 rfl c4 ?_
      refine ex_aload_n (pc := 27) 0 dX11_compareOf_27 rfl rfl ?_
      obtain ⟨v5, ev5, h⟩ := ob_some h
      refine ex_gI (pc := 28) ev5 dX11_compareOf_28 lfX11_126 ?_
      refine ex_bipush (pc := 31) 62 dX11_compareOf_31 (by decide) ?_
      by_cases c6 : v5 = 62
      · rw [if_pos c6] at h
        refine ex_icmp_ne_f (pc := 33) dX11_compareOf_33 41 rfl c6 ?_
        refine ex_bipush (pc := 36) 12 dX11_compareOf_36 (by decide) ?_
        refine ex_goto (pc := 38) 83 dX11_compareOf_38 rfl ?_
        cases h
        exact ex_ireturn (pc := 83) dX11_compareOf_83
      · rw [if_neg c6] at h
        refine ex_icmp_ne_t (pc := 33) 41 dX11_compareOf_33 rfl c6 ?_
        refine ex_aload_n (pc := 41) 0 dX11_compareOf_41 rfl rfl ?_
        obtain ⟨v7, ev7, h⟩ := ob_some h
        refine ex_gI (pc := 42) ev7 dX11_compareOf_42 lfX11_126 ?_
        refine ex_iconst (pc := 45) 5 dX11_compareOf_45 rfl ?_
        by_cases c8 : v7 = 5
        · rw [if_pos c8] at h
          refine ex_icmp_ne_f (pc := 46) dX11_compareOf_46 54 rfl c8 ?_
          refine ex_bipush (pc := 49) 13 dX11_compareOf_49 (by decide) ?_
          refine ex_goto (pc := 51) 83 dX11_compareOf_51 rfl ?_
          cases h
          exact ex_ireturn (pc := 83) dX11_compareOf_83
        · rw [if_neg c8] at h
          refine ex_icmp_ne_t (pc := 46) 54 dX11_compareOf_46 rfl c8 ?_
          refine ex_aload_n (pc := 54) 0 dX11_compareOf_54 rfl rfl ?_
          obtain ⟨v9, ev9, h⟩ := ob_some h
          refine ex_gI (pc := 55) ev9 dX11_compareOf_55 lfX11_126 ?_
          refine ex_bipush (pc := 58) 61 dX11_compareOf_58 (by decide) ?_
          by_cases c10 : v9 = 61
          · rw [if_pos c10] at h
            refine ex_icmp_ne_f (pc := 60) dX11_compareOf_60 68 rfl c10 ?_
            refine ex_bipush (pc := 63) 14 dX11_compareOf_63 (by decide) ?_
            refine ex_goto (pc := 65) 83 dX11_compareOf_65 rfl ?_
            cases h
            exact ex_ireturn (pc := 83) dX11_compareOf_83
          · rw [if_neg c10] at h
            refine ex_icmp_ne_t (pc := 60) 68 dX11_compareOf_60 rfl c10 ?_
            refine ex_aload_n (pc := 68) 0 dX11_compareOf_68 rfl rfl ?_
            obtain ⟨v11, ev11, h⟩ := ob_some h
            refine ex_gI (pc := 69) ev11 dX11_compareOf_69 lfX11_126 ?_
            refine ex_bipush (pc := 72) 35 dX11_compareOf_72 (by decide) ?_
            by_cases c12 : v11 = 35
            · rw [if_pos c12] at h
              refine ex_icmp_ne_f (pc := 74) dX11_compareOf_74 82 rfl c12 ?_
              refine ex_bipush (pc := 77) 15 dX11_compareOf_77 (by decide) ?_
              refine ex_goto (pc := 79) 83 dX11_compareOf_79 rfl ?_
              cases h
              exact ex_ireturn (pc := 83) dX11_compareOf_83
            · rw [if_neg c12] at h
              refine ex_icmp_ne_t (pc := 74) 82 dX11_compareOf_74 rfl c12 ?_
              refine ex_iconst (pc := 82) (-1) dX11_compareOf_82 rfl ?_
              cases h
              exact ex_ireturn (pc := 83) dX11_compareOf_83
noncomputable def f_X11_compareOf (x0 : Nat) (M : Mem) : Option (Int32) := if isOb M 11 x0 = true then f_X11_compareOf_0 x0 M else none
theorem o_X11_compareOf {x0 : Nat} {M : Mem} {res : Int32} (h : f_X11_compareOf x0 M = some res) : isO M 11 x0 := by
  unfold f_X11_compareOf at h
  split at h
  · rename_i hc; exact isOb_iff hc
  · cases h
set_option maxHeartbeats 4000000 in
theorem s_X11_compareOf {X : XV} {d : Nat} (hd : 1 ≤ d) {x0 : Nat} {M : Mem} {res : Int32} (h : f_X11_compareOf x0 M = some res) : Mx X d mX11_compareOf [.ref x0] M (some (.int res)) M := by
  obtain ⟨d, rfl⟩ : ∃ e, d = e + 1 := ⟨d - 1, by omega⟩
  unfold f_X11_compareOf at h
  split at h
  rotate_left
  · cases h
  refine Mx.of (by decide) (Nat.le_of_ble_eq_true rfl) (⟨_, rfl, rfl⟩) ?_
  exact ex_sub (lo' := [(0, .ref x0)]) [0] rfl (t_X11_compareOf_0 hd _ _ _  h)
noncomputable def f_X11_betweenOf_0 (x0 : Nat) (M : Mem) : Option (Int32) :=
  (gI M 11 x0 9).bind fun v1 =>
  if v1 = 43 then
  (some 6)
  else
  ((gI M 11 x0 9).bind fun v3 =>
  if v3 = 45 then
  (some 7)
  else
  ((gI M 11 x0 9).bind fun v5 =>
  if v5 = 42 then
  (some 8)
  else
  ((gI M 11 x0 9).bind fun v7 =>
  if v7 = 47 then
  (some 9)
  else
  ((f_X11_openNow x0 M).bind fun v9 =>
  if v9 = 41 then
  ((f_X11_isCompared x0 M).bind fun v11 =>
  if v11 = true then
  ((f_X11_w3 97 110 100).bind fun v13 =>
  (f_X11_isWord x0 v13 M).bind fun v14 =>
  if v14 = false then
  ((f_X11_w2 111 114).bind fun v16 =>
  (f_X11_isWord x0 v16 M).bind fun v17 =>
  if v17 = false then
  (some (-1))
  else
  (some 22))
  else
  (some 21))
  else
  ((f_X11_compareOf x0 M).bind fun v19 =>
  some v19))
  else
  (some (-1))))))
set_option maxHeartbeats 4000000 in
theorem t_X11_betweenOf_0 {X : XV} {d : Nat} (hd : 3 ≤ d + 1) : ∀ (x0 : Nat) (M : Mem) (res : Int32), f_X11_betweenOf_0  x0 M = some res → Ex X (d + 1) mX11_betweenOf 0 [(0, .ref x0)] [] M (some (.int res)) M := by
  intro x0 M res  h
  unfold f_X11_betweenOf_0 at h
  refine ex_aload_n (pc := 0) 0 dX11_betweenOf_0 rfl rfl ?_
  obtain ⟨v1, ev1, h⟩ := ob_some h
  refine ex_gI (pc := 1) ev1 dX11_betweenOf_1 lfX11_126 ?_
  refine ex_bipush (pc := 4) 43 dX11_betweenOf_4 (by decide) ?_
  by_cases c2 : v1 = 43
  · rw [if_pos c2] at h
    refine ex_icmp_ne_f (pc := 6) dX11_betweenOf_6 12 rfl c2 ?_
    refine ex_bipush (pc := 9) 6 dX11_betweenOf_9 (by decide) ?_
    cases h
    exact ex_ireturn (pc := 11) dX11_betweenOf_11
  · rw [if_neg c2] at h
    refine ex_icmp_ne_t (pc := 6) 12 dX11_betweenOf_6 rfl c2 ?_
    refine ex_aload_n (pc := 12) 0 dX11_betweenOf_12 rfl rfl ?_
    obtain ⟨v3, ev3, h⟩ := ob_some h
    refine ex_gI (pc := 13) ev3 dX11_betweenOf_13 lfX11_126 ?_
    refine ex_bipush (pc := 16) 45 dX11_betweenOf_16 (by decide) ?_
    by_cases c4 : v3 = 45
    · rw [if_pos c4] at h
      refine ex_icmp_ne_f (pc := 18) dX11_betweenOf_18 24 rfl c4 ?_
      refine ex_bipush (pc := 21) 7 dX11_betweenOf_21 (by decide) ?_
      cases h
      exact ex_ireturn (pc := 23) dX11_betweenOf_23
    · rw [if_neg c4] at h
      refine ex_icmp_ne_t (pc := 18) 24 dX11_betweenOf_18 rfl c4 ?_
      refine ex_aload_n (pc := 24) 0 dX11_betweenOf_24 rfl rfl ?_
      obtain ⟨v5, ev5, h⟩ := ob_some h
      refine ex_gI (pc := 25) ev5 dX11_betweenOf_25 lfX11_126 ?_
      refine ex_bipush (pc := 28) 42 dX11_betweenOf_28 (by decide) ?_
      by_cases c6 : v5 = 42
      · rw [if_pos c6] at h
        refine ex_icmp_ne_f (pc := 30) dX11_betweenOf_30 36 rfl c6 ?_
        refine ex_bipush (pc := 33) 8 dX11_betweenOf_33 (by decide) ?_
        cases h
        exact ex_ireturn (pc := 35) dX11_betweenOf_35
      · rw [if_neg c6] at h
        refine ex_icmp_ne_t (pc := 30) 36 dX11_betweenOf_30 rfl c6 ?_
        refine ex_aload_n (pc := 36) 0 dX11_betweenOf_36 rfl rfl ?_
        obtain ⟨v7, ev7, h⟩ := ob_some h
        refine ex_gI (pc := 37) ev7 dX11_betweenOf_37 lfX11_126 ?_
        refine ex_bipush (pc := 40) 47 dX11_betweenOf_40 (by decide) ?_
        by_cases c8 : v7 = 47
        · rw [if_pos c8] at h
          refine ex_icmp_ne_f (pc := 42) dX11_betweenOf_42 48 rfl c8 ?_
          refine ex_bipush (pc := 45) 9 dX11_betweenOf_45 (by decide) ?_
          cases h
          exact ex_ireturn (pc := 47) dX11_betweenOf_47
        · rw [if_neg c8] at h
          refine ex_icmp_ne_t (pc := 42) 48 dX11_betweenOf_42 rfl c8 ?_
          refine ex_aload_n (pc := 48) 0 dX11_betweenOf_48 rfl rfl ?_
          obtain ⟨v9, ev9, h⟩ := ob_some h
          refine ex_callV0r (pc := 49) dX11_betweenOf_49 jX11_openNow lmX11_190 jiX11_openNow jvX11_openNow (o_X11_openNow ev9) rfl (Nat.le_of_ble_eq_true rfl) (s_X11_openNow (by omega)  ev9) ?_
          refine ex_bipush (pc := 52) 41 dX11_betweenOf_52 (by decide) ?_
          by_cases c10 : v9 = 41
          · rw [if_pos c10] at h
            refine ex_icmp_eq_t (pc := 54) 59 dX11_betweenOf_54 rfl c10 ?_
            refine ex_aload_n (pc := 59) 0 dX11_betweenOf_59 rfl rfl ?_
            obtain ⟨v11, ev11, h⟩ := ob_some h
            refine ex_callV0r (pc := 60) dX11_betweenOf_60 jX11_isCompared lmX11_223 jiX11_isCompared jvX11_isCompared (o_X11_isCompared ev11) rfl (Nat.le_of_ble_eq_true rfl) (s_X11_isCompared (by omega)  ev11) ?_
            by_cases c12 : v11 = true
            · rw [if_pos c12] at h
              refine ex_if_ne_t (pc := 63) 71 dX11_betweenOf_63 rfl (jz_ne_t c12) ?_
              refine ex_aload_n (pc := 71) 0 dX11_betweenOf_71 rfl rfl ?_
              refine ex_bipush (pc := 72) 97 dX11_betweenOf_72 (by decide) ?_
              refine ex_bipush (pc := 74) 110 dX11_betweenOf_74 (by decide) ?_
              refine ex_bipush (pc := 76) 100 dX11_betweenOf_76 (by decide) ?_
              obtain ⟨v13, ev13, h⟩ := ob_some h
              refine ex_callS3r (pc := 78) dX11_betweenOf_78 jX11_w3 lmX11_152 jsX11_w3 (Nat.le_of_ble_eq_true rfl) (s_X11_w3 (by omega)  ev13) ?_
              obtain ⟨v14, ev14, h⟩ := ob_some h
              refine ex_callV1r (pc := 81) dX11_betweenOf_81 jX11_isWord lmX11_215 jiX11_isWord jvX11_isWord (o_X11_isWord ev14) rfl (Nat.le_of_ble_eq_true rfl) (s_X11_isWord (by omega)  ev14) ?_
              by_cases c15 : v14 = false
              · rw [if_pos c15] at h
                refine ex_if_eq_t (pc := 84) 92 dX11_betweenOf_84 rfl (jz_eq_t c15) ?_
                refine ex_aload_n (pc := 92) 0 dX11_betweenOf_92 rfl rfl ?_
                refine ex_bipush (pc := 93) 111 dX11_betweenOf_93 (by decide) ?_
                refine ex_bipush (pc := 95) 114 dX11_betweenOf_95 (by decide) ?_
                obtain ⟨v16, ev16, h⟩ := ob_some h
                refine ex_callS2r (pc := 97) dX11_betweenOf_97 jX11_w2 lmX11_148 jsX11_w2 (Nat.le_of_ble_eq_true rfl) (s_X11_w2 (by omega)  ev16) ?_
                obtain ⟨v17, ev17, h⟩ := ob_some h
                refine ex_callV1r (pc := 100) dX11_betweenOf_100 jX11_isWord lmX11_215 jiX11_isWord jvX11_isWord (o_X11_isWord ev17) rfl (Nat.le_of_ble_eq_true rfl) (s_X11_isWord (by omega)  ev17) ?_
                by_cases c18 : v17 = false
                · rw [if_pos c18] at h
                  refine ex_if_eq_t (pc := 103) 111 dX11_betweenOf_103 rfl (jz_eq_t c18) ?_
                  refine ex_iconst (pc := 111) (-1) dX11_betweenOf_111 rfl ?_
                  cases h
                  exact ex_ireturn (pc := 112) dX11_betweenOf_112
                · rw [if_neg c18] at h
                  refine ex_if_eq_f (pc := 103) dX11_betweenOf_103 111 rfl (jz_eq_f c18) ?_
                  refine ex_bipush (pc := 106) 22 dX11_betweenOf_106 (by decide) ?_
                  refine ex_goto (pc := 108) 112 dX11_betweenOf_108 rfl ?_
                  cases h
                  exact ex_ireturn (pc := 112) dX11_betweenOf_112
              · rw [if_neg c15] at h
                refine ex_if_eq_f (pc := 84) dX11_betweenOf_84 92 rfl (jz_eq_f c15) ?_
                refine ex_bipush (pc := 87) 21 dX11_betweenOf_87 (by decide) ?_
                refine ex_goto (pc := 89) 112 dX11_betweenOf_89 rfl ?_
                cases h
                exact ex_ireturn (pc := 112) dX11_betweenOf_112
            · rw [if_neg c12] at h
              refine ex_if_ne_f (pc := 63) dX11_betweenOf_63 71 rfl (jz_ne_f c12) ?_
              refine ex_aload_n (pc := 66) 0 dX11_betweenOf_66 rfl rfl ?_
              obtain ⟨v19, ev19, h⟩ := ob_some h
              refine ex_callV0r (pc := 67) dX11_betweenOf_67 jX11_compareOf lmX11_226 jiX11_compareOf jvX11_compareOf (o_X11_compareOf ev19) rfl (Nat.le_of_ble_eq_true rfl) (s_X11_compareOf (by omega)  ev19) ?_
              cases h
              exact ex_ireturn (pc := 70) dX11_betweenOf_70
          · rw [if_neg c10] at h
            refine ex_icmp_eq_f (pc := 54) dX11_betweenOf_54 59 rfl c10 ?_
            refine ex_iconst (pc := 57) (-1) dX11_betweenOf_57 rfl ?_
            cases h
            exact ex_ireturn (pc := 58) dX11_betweenOf_58
noncomputable def f_X11_betweenOf (x0 : Nat) (M : Mem) : Option (Int32) := if isOb M 11 x0 = true then f_X11_betweenOf_0 x0 M else none
theorem o_X11_betweenOf {x0 : Nat} {M : Mem} {res : Int32} (h : f_X11_betweenOf x0 M = some res) : isO M 11 x0 := by
  unfold f_X11_betweenOf at h
  split at h
  · rename_i hc; exact isOb_iff hc
  · cases h
set_option maxHeartbeats 4000000 in
theorem s_X11_betweenOf {X : XV} {d : Nat} (hd : 3 ≤ d) {x0 : Nat} {M : Mem} {res : Int32} (h : f_X11_betweenOf x0 M = some res) : Mx X d mX11_betweenOf [.ref x0] M (some (.int res)) M := by
  obtain ⟨d, rfl⟩ : ∃ e, d = e + 1 := ⟨d - 1, by omega⟩
  unfold f_X11_betweenOf at h
  split at h
  rotate_left
  · cases h
  refine Mx.of (by decide) (Nat.le_of_ble_eq_true rfl) (⟨_, rfl, rfl⟩) ?_
  exact ex_sub (lo' := [(0, .ref x0)]) [0] rfl (t_X11_betweenOf_0 hd _ _ _  h)
noncomputable def f_X11_partOf_0 (x0 : Nat) (x1 : Int32) (M : Mem) : Option (Int32) :=
  if x1 = 40 then
  ((gI M 11 x0 9).bind fun v2 =>
  if v2 = 41 then
  (some 0)
  else
  (some (-1)))
  else
  (if x1 = 41 then
  ((f_X11_w4 116 104 101 110).bind fun v5 =>
  (f_X11_isWord x0 v5 M).bind fun v6 =>
  if v6 = false then
  (some (-1))
  else
  ((f_X11_isCompared x0 M).bind fun v8 =>
  if v8 = false then
  (some (-1))
  else
  (some 42)))
  else
  (if x1 = 42 then
  ((f_X11_w4 101 108 115 101).bind fun v11 =>
  (f_X11_isWord x0 v11 M).bind fun v12 =>
  if v12 = false then
  (some (-1))
  else
  (some 43))
  else
  (if x1 = 43 then
  ((f_X11_w3 101 110 100).bind fun v15 =>
  (f_X11_isWord x0 v15 M).bind fun v16 =>
  if v16 = false then
  (some (-1))
  else
  (some 0))
  else
  (some (-1)))))
set_option maxHeartbeats 4000000 in
theorem t_X11_partOf_0 {X : XV} {d : Nat} (hd : 4 ≤ d + 1) : ∀ (x0 : Nat) (x1 : Int32) (M : Mem) (res : Int32), f_X11_partOf_0  x0 x1 M = some res → Ex X (d + 1) mX11_partOf 0 [(0, .ref x0), (1, .int x1)] [] M (some (.int res)) M := by
  intro x0 x1 M res  h
  unfold f_X11_partOf_0 at h
  refine ex_iload_n (pc := 0) 1 dX11_partOf_0 rfl rfl ?_
  by_cases c1 : x1 = 40
  · rw [if_pos c1] at h
    refine ex_tabIn (pc := 1) 32 dX11_partOf_1 (by rw [c1]; decide) (by rw [c1]; decide) (by rw [c1]; rfl) rfl ?_
    refine ex_aload_n (pc := 32) 0 dX11_partOf_32 rfl rfl ?_
    obtain ⟨v2, ev2, h⟩ := ob_some h
    refine ex_gI (pc := 33) ev2 dX11_partOf_33 lfX11_126 ?_
    refine ex_bipush (pc := 36) 41 dX11_partOf_36 (by decide) ?_
    by_cases c3 : v2 = 41
    · rw [if_pos c3] at h
      refine ex_icmp_ne_f (pc := 38) dX11_partOf_38 45 rfl c3 ?_
      refine ex_iconst (pc := 41) 0 dX11_partOf_41 rfl ?_
      refine ex_goto (pc := 42) 46 dX11_partOf_42 rfl ?_
      cases h
      exact ex_ireturn (pc := 46) dX11_partOf_46
    · rw [if_neg c3] at h
      refine ex_icmp_ne_t (pc := 38) 45 dX11_partOf_38 rfl c3 ?_
      refine ex_iconst (pc := 45) (-1) dX11_partOf_45 rfl ?_
      cases h
      exact ex_ireturn (pc := 46) dX11_partOf_46
  · rw [if_neg c1] at h
    by_cases c4 : x1 = 41
    · rw [if_pos c4] at h
      refine ex_tabIn (pc := 1) 47 dX11_partOf_1 (by rw [c4]; decide) (by rw [c4]; decide) (by rw [c4]; rfl) rfl ?_
      refine ex_aload_n (pc := 47) 0 dX11_partOf_47 rfl rfl ?_
      refine ex_bipush (pc := 48) 116 dX11_partOf_48 (by decide) ?_
      refine ex_bipush (pc := 50) 104 dX11_partOf_50 (by decide) ?_
      refine ex_bipush (pc := 52) 101 dX11_partOf_52 (by decide) ?_
      refine ex_bipush (pc := 54) 110 dX11_partOf_54 (by decide) ?_
      obtain ⟨v5, ev5, h⟩ := ob_some h
      refine ex_callS4r (pc := 56) dX11_partOf_56 jX11_w4 lmX11_156 jsX11_w4 (Nat.le_of_ble_eq_true rfl) (s_X11_w4 (by omega)  ev5) ?_
      obtain ⟨v6, ev6, h⟩ := ob_some h
      refine ex_callV1r (pc := 59) dX11_partOf_59 jX11_isWord lmX11_215 jiX11_isWord jvX11_isWord (o_X11_isWord ev6) rfl (Nat.le_of_ble_eq_true rfl) (s_X11_isWord (by omega)  ev6) ?_
      by_cases c7 : v6 = false
      · rw [if_pos c7] at h
        refine ex_if_eq_t (pc := 62) 77 dX11_partOf_62 rfl (jz_eq_t c7) ?_
        refine ex_iconst (pc := 77) (-1) dX11_partOf_77 rfl ?_
        cases h
        exact ex_ireturn (pc := 78) dX11_partOf_78
      · rw [if_neg c7] at h
        refine ex_if_eq_f (pc := 62) dX11_partOf_62 77 rfl (jz_eq_f c7) ?_
        refine ex_aload_n (pc := 65) 0 dX11_partOf_65 rfl rfl ?_
        obtain ⟨v8, ev8, h⟩ := ob_some h
        refine ex_callV0r (pc := 66) dX11_partOf_66 jX11_isCompared lmX11_223 jiX11_isCompared jvX11_isCompared (o_X11_isCompared ev8) rfl (Nat.le_of_ble_eq_true rfl) (s_X11_isCompared (by omega)  ev8) ?_
        by_cases c9 : v8 = false
        · rw [if_pos c9] at h
          refine ex_if_eq_t (pc := 69) 77 dX11_partOf_69 rfl (jz_eq_t c9) ?_
          refine ex_iconst (pc := 77) (-1) dX11_partOf_77 rfl ?_
          cases h
          exact ex_ireturn (pc := 78) dX11_partOf_78
        · rw [if_neg c9] at h
          refine ex_if_eq_f (pc := 69) dX11_partOf_69 77 rfl (jz_eq_f c9) ?_
          refine ex_bipush (pc := 72) 42 dX11_partOf_72 (by decide) ?_
          refine ex_goto (pc := 74) 78 dX11_partOf_74 rfl ?_
          cases h
          exact ex_ireturn (pc := 78) dX11_partOf_78
    · rw [if_neg c4] at h
      by_cases c10 : x1 = 42
      · rw [if_pos c10] at h
        refine ex_tabIn (pc := 1) 79 dX11_partOf_1 (by rw [c10]; decide) (by rw [c10]; decide) (by rw [c10]; rfl) rfl ?_
        refine ex_aload_n (pc := 79) 0 dX11_partOf_79 rfl rfl ?_
        refine ex_bipush (pc := 80) 101 dX11_partOf_80 (by decide) ?_
        refine ex_bipush (pc := 82) 108 dX11_partOf_82 (by decide) ?_
        refine ex_bipush (pc := 84) 115 dX11_partOf_84 (by decide) ?_
        refine ex_bipush (pc := 86) 101 dX11_partOf_86 (by decide) ?_
        obtain ⟨v11, ev11, h⟩ := ob_some h
        refine ex_callS4r (pc := 88) dX11_partOf_88 jX11_w4 lmX11_156 jsX11_w4 (Nat.le_of_ble_eq_true rfl) (s_X11_w4 (by omega)  ev11) ?_
        obtain ⟨v12, ev12, h⟩ := ob_some h
        refine ex_callV1r (pc := 91) dX11_partOf_91 jX11_isWord lmX11_215 jiX11_isWord jvX11_isWord (o_X11_isWord ev12) rfl (Nat.le_of_ble_eq_true rfl) (s_X11_isWord (by omega)  ev12) ?_
        by_cases c13 : v12 = false
        · rw [if_pos c13] at h
          refine ex_if_eq_t (pc := 94) 102 dX11_partOf_94 rfl (jz_eq_t c13) ?_
          refine ex_iconst (pc := 102) (-1) dX11_partOf_102 rfl ?_
          cases h
          exact ex_ireturn (pc := 103) dX11_partOf_103
        · rw [if_neg c13] at h
          refine ex_if_eq_f (pc := 94) dX11_partOf_94 102 rfl (jz_eq_f c13) ?_
          refine ex_bipush (pc := 97) 43 dX11_partOf_97 (by decide) ?_
          refine ex_goto (pc := 99) 103 dX11_partOf_99 rfl ?_
          cases h
          exact ex_ireturn (pc := 103) dX11_partOf_103
      · rw [if_neg c10] at h
        by_cases c14 : x1 = 43
        · rw [if_pos c14] at h
          refine ex_tabIn (pc := 1) 104 dX11_partOf_1 (by rw [c14]; decide) (by rw [c14]; decide) (by rw [c14]; rfl) rfl ?_
          refine ex_aload_n (pc := 104) 0 dX11_partOf_104 rfl rfl ?_
          refine ex_bipush (pc := 105) 101 dX11_partOf_105 (by decide) ?_
          refine ex_bipush (pc := 107) 110 dX11_partOf_107 (by decide) ?_
          refine ex_bipush (pc := 109) 100 dX11_partOf_109 (by decide) ?_
          obtain ⟨v15, ev15, h⟩ := ob_some h
          refine ex_callS3r (pc := 111) dX11_partOf_111 jX11_w3 lmX11_152 jsX11_w3 (Nat.le_of_ble_eq_true rfl) (s_X11_w3 (by omega)  ev15) ?_
          obtain ⟨v16, ev16, h⟩ := ob_some h
          refine ex_callV1r (pc := 114) dX11_partOf_114 jX11_isWord lmX11_215 jiX11_isWord jvX11_isWord (o_X11_isWord ev16) rfl (Nat.le_of_ble_eq_true rfl) (s_X11_isWord (by omega)  ev16) ?_
          by_cases c17 : v16 = false
          · rw [if_pos c17] at h
            refine ex_if_eq_t (pc := 117) 124 dX11_partOf_117 rfl (jz_eq_t c17) ?_
            refine ex_iconst (pc := 124) (-1) dX11_partOf_124 rfl ?_
            cases h
            exact ex_ireturn (pc := 125) dX11_partOf_125
          · rw [if_neg c17] at h
            refine ex_if_eq_f (pc := 117) dX11_partOf_117 124 rfl (jz_eq_f c17) ?_
            refine ex_iconst (pc := 120) 0 dX11_partOf_120 rfl ?_
            refine ex_goto (pc := 121) 125 dX11_partOf_121 rfl ?_
            cases h
            exact ex_ireturn (pc := 125) dX11_partOf_125
        · rw [if_neg c14] at h
          have zc1 : ¬ (x1).toInt = 40 := fun e9 => c1 (i32_of e9 (by decide))
          have zc4 : ¬ (x1).toInt = 41 := fun e9 => c4 (i32_of e9 (by decide))
          have zc10 : ¬ (x1).toInt = 42 := fun e9 => c10 (i32_of e9 (by decide))
          have zc14 : ¬ (x1).toInt = 43 := fun e9 => c14 (i32_of e9 (by decide))
          refine ex_tabOut (pc := 1) 126 dX11_partOf_1 (by omega) rfl ?_
          refine ex_iconst (pc := 126) (-1) dX11_partOf_126 rfl ?_
          cases h
          exact ex_ireturn (pc := 127) dX11_partOf_127
noncomputable def f_X11_partOf (x0 : Nat) (x1 : Int32) (M : Mem) : Option (Int32) := if isOb M 11 x0 = true then f_X11_partOf_0 x0 x1 M else none
theorem o_X11_partOf {x0 : Nat} {x1 : Int32} {M : Mem} {res : Int32} (h : f_X11_partOf x0 x1 M = some res) : isO M 11 x0 := by
  unfold f_X11_partOf at h
  split at h
  · rename_i hc; exact isOb_iff hc
  · cases h
set_option maxHeartbeats 4000000 in
theorem s_X11_partOf {X : XV} {d : Nat} (hd : 4 ≤ d) {x0 : Nat} {x1 : Int32} {M : Mem} {res : Int32} (h : f_X11_partOf x0 x1 M = some res) : Mx X d mX11_partOf [.ref x0, .int x1] M (some (.int res)) M := by
  obtain ⟨d, rfl⟩ : ∃ e, d = e + 1 := ⟨d - 1, by omega⟩
  unfold f_X11_partOf at h
  split at h
  rotate_left
  · cases h
  refine Mx.of (by decide) (Nat.le_of_ble_eq_true rfl) (⟨_, rfl, rfl⟩) ?_
  exact ex_sub (lo' := [(0, .ref x0), (1, .int x1)]) [0, 1] rfl (t_X11_partOf_0 hd _ _ _ _  h)
noncomputable def f_X11_behindOne_26 (x0 : Nat) (x1 : Int32) (s0 : Int32) (s1 : Nat) (M : Mem) : Option (Bool × Mem) :=
  (f_X11_settle s1 s0 M).bind fun q1 =>
  (gR q1 11 x0 15).bind fun v2 =>
  (gI q1 11 x0 16).bind fun v3 =>
  (wI q1 v2 v3 x1).bind fun q4 =>
  (gI q4 11 x0 16).bind fun v5 =>
  (pF q4 11 x0 16 (.int (v5 + 1))).bind fun q6 =>
  (pF q6 11 x0 18 (.int (jz false))).bind fun q7 =>
  (f_X11_nextToken x0 q7).bind fun q8 =>
  some (true, q8)
set_option maxHeartbeats 4000000 in
theorem t_X11_behindOne_26 {X : XV} {d : Nat} (hd : 5 ≤ d + 1) : ∀ (x0 : Nat) (x1 : Int32) (s0 : Int32) (s1 : Nat) (M : Mem) (res : Bool × Mem), f_X11_behindOne_26  x0 x1 s0 s1 M = some res → Ex X (d + 1) mX11_behindOne 26 [(0, .ref x0), (1, .int x1)] [.int s0, .ref s1] M (some (.int (jz res.1))) res.2 := by
  intro x0 x1 s0 s1 M res  h
  unfold f_X11_behindOne_26 at h
  obtain ⟨q1, eq1, h⟩ := ob_some h
  refine ex_callV1v (pc := 26) dX11_behindOne_26 jX11_settle lmX11_205 jiX11_settle jvX11_settle (o_X11_settle eq1) rfl (Nat.le_of_ble_eq_true rfl) (s_X11_settle (by omega)  eq1) ?_
  refine ex_aload_n (pc := 29) 0 dX11_behindOne_29 rfl rfl ?_
  obtain ⟨v2, ev2, h⟩ := ob_some h
  refine ex_gR (pc := 30) ev2 dX11_behindOne_30 lfX11_29 ?_
  refine ex_aload_n (pc := 33) 0 dX11_behindOne_33 rfl rfl ?_
  obtain ⟨v3, ev3, h⟩ := ob_some h
  refine ex_gI (pc := 34) ev3 dX11_behindOne_34 lfX11_173 ?_
  refine ex_iload_n (pc := 37) 1 dX11_behindOne_37 rfl rfl ?_
  obtain ⟨q4, eq4, h⟩ := ob_some h
  refine ex_wI (pc := 38) eq4 dX11_behindOne_38 ?_
  refine ex_aload_n (pc := 39) 0 dX11_behindOne_39 rfl rfl ?_
  refine ex_dup (pc := 40) dX11_behindOne_40 rfl ?_
  obtain ⟨v5, ev5, h⟩ := ob_some h
  refine ex_gI (pc := 41) ev5 dX11_behindOne_41 lfX11_173 ?_
  refine ex_iconst (pc := 44) 1 dX11_behindOne_44 rfl ?_
  refine ex_iadd (pc := 45) dX11_behindOne_45 ?_
  obtain ⟨q6, eq6, h⟩ := ob_some h
  refine ex_pF (pc := 46) eq6 dX11_behindOne_46 lfX11_173 rfl rfl (fun _ hq => by cases hq; rfl) ?_
  refine ex_aload_n (pc := 49) 0 dX11_behindOne_49 rfl rfl ?_
  refine ex_iconst (pc := 50) 0 dX11_behindOne_50 rfl ?_
  obtain ⟨q7, eq7, h⟩ := ob_some h
  refine ex_pF (pc := 51) eq7 dX11_behindOne_51 lfX11_202 (jz_nar false) (jz_fit false) (fun _ hq => by cases hq; rfl) ?_
  refine ex_aload_n (pc := 54) 0 dX11_behindOne_54 rfl rfl ?_
  obtain ⟨q8, eq8, h⟩ := ob_some h
  refine ex_callV0v (pc := 55) dX11_behindOne_55 jX11_nextToken lmX11_193 jiX11_nextToken jvX11_nextToken (o_X11_nextToken eq8) rfl (Nat.le_of_ble_eq_true rfl) (s_X11_nextToken (by omega)  eq8) ?_
  refine ex_iconst (pc := 58) 1 dX11_behindOne_58 rfl ?_
  cases h
  exact ex_ireturn (pc := 59) dX11_behindOne_59
noncomputable def f_X11_behindOne_0 (x0 : Nat) (M : Mem) : Option (Bool × Mem) :=
  (f_X11_betweenOf x0 M).bind fun v9 =>
  if v9 < 0 then
  ((f_X11_openNow x0 M).bind fun v11 =>
  (f_X11_partOf x0 v11 M).bind fun v12 =>
  if 0 ≤ v12 then
  ((f_X11_settle x0 1 M).bind fun q14 =>
  (f_X11_nextToken x0 q14).bind fun q15 =>
  if v12 ≤ 0 then
  ((gI q15 11 x0 17).bind fun v17 =>
  (pF q15 11 x0 17 (.int (v17 - 1))).bind fun q18 =>
  (gI q18 11 x0 16).bind fun v19 =>
  (pF q18 11 x0 16 (.int (v19 - 1))).bind fun q20 =>
  if v11 = 43 then
  ((f_X11_emit x0 4 0 q20).bind fun q23 =>
  (f_X11_settle x0 7 q23).bind fun q24 =>
  some (true, q24))
  else
  ((f_X11_settle x0 7 q20).bind fun q22 =>
  some (true, q22)))
  else
  ((gR q15 11 x0 15).bind fun v25 =>
  (f_X11_openAt x0 q15).bind fun v26 =>
  (wI q15 v25 v26 v12).bind fun q27 =>
  (pF q27 11 x0 18 (.int (jz false))).bind fun q28 =>
  some (true, q28)))
  else
  (some (false, M)))
  else
  ((f_X11_rank v9).bind fun v29 =>
  if v29 = 4 then
  (f_X11_behindOne_26 x0 v9 5 x0 M)
  else
  ((f_X11_rank v9).bind fun v31 =>
  f_X11_behindOne_26 x0 v9 v31 x0 M))
set_option maxHeartbeats 4000000 in
theorem t_X11_behindOne_0 {X : XV} {d : Nat} (hd : 5 ≤ d + 1) : ∀ (x0 : Nat) (M : Mem) (res : Bool × Mem), f_X11_behindOne_0  x0 M = some res → Ex X (d + 1) mX11_behindOne 0 [(0, .ref x0)] [] M (some (.int (jz res.1))) res.2 := by
  intro x0 M res  h
  unfold f_X11_behindOne_0 at h
  refine ex_aload_n (pc := 0) 0 dX11_behindOne_0 rfl rfl ?_
  obtain ⟨v9, ev9, h⟩ := ob_some h
  refine ex_callV0r (pc := 1) dX11_behindOne_1 jX11_betweenOf lmX11_229 jiX11_betweenOf jvX11_betweenOf (o_X11_betweenOf ev9) rfl (Nat.le_of_ble_eq_true rfl) (s_X11_betweenOf (by omega)  ev9) ?_
  refine ex_istore_n (pc := 4) [(1, .int v9), (0, .ref x0)] dX11_behindOne_4 rfl (by decide) rfl ?_
  refine ex_iload_n (pc := 5) 0 dX11_behindOne_5 rfl rfl ?_
  by_cases c10 : v9 < 0
  · rw [if_pos c10] at h
    refine ex_if_lt_t (pc := 6) 60 dX11_behindOne_6 rfl c10 ?_
    refine ex_aload_n (pc := 60) 1 dX11_behindOne_60 rfl rfl ?_
    obtain ⟨v11, ev11, h⟩ := ob_some h
    refine ex_callV0r (pc := 61) dX11_behindOne_61 jX11_openNow lmX11_190 jiX11_openNow jvX11_openNow (o_X11_openNow ev11) rfl (Nat.le_of_ble_eq_true rfl) (s_X11_openNow (by omega)  ev11) ?_
    refine ex_istore_n (pc := 64) [(2, .int v11), (1, .int v9), (0, .ref x0)] dX11_behindOne_64 rfl (by decide) rfl ?_
    refine ex_aload_n (pc := 65) 2 dX11_behindOne_65 rfl rfl ?_
    refine ex_iload_n (pc := 66) 0 dX11_behindOne_66 rfl rfl ?_
    obtain ⟨v12, ev12, h⟩ := ob_some h
    refine ex_callV1r (pc := 67) dX11_behindOne_67 jX11_partOf lmX11_232 jiX11_partOf jvX11_partOf (o_X11_partOf ev12) rfl (Nat.le_of_ble_eq_true rfl) (s_X11_partOf (by omega)  ev12) ?_
    refine ex_istore_n (pc := 70) [(3, .int v12), (2, .int v11), (1, .int v9), (0, .ref x0)] dX11_behindOne_70 rfl (by decide) rfl ?_
    refine ex_iload_n (pc := 71) 0 dX11_behindOne_71 rfl rfl ?_
    by_cases c13 : 0 ≤ v12
    · rw [if_pos c13] at h
      refine ex_if_ge_t (pc := 72) 77 dX11_behindOne_72 rfl c13 ?_
      refine ex_aload_n (pc := 77) 3 dX11_behindOne_77 rfl rfl ?_
      refine ex_iconst (pc := 78) 1 dX11_behindOne_78 rfl ?_
      obtain ⟨q14, eq14, h⟩ := ob_some h
      refine ex_callV1v (pc := 79) dX11_behindOne_79 jX11_settle lmX11_205 jiX11_settle jvX11_settle (o_X11_settle eq14) rfl (Nat.le_of_ble_eq_true rfl) (s_X11_settle (by omega)  eq14) ?_
      refine ex_aload_n (pc := 82) 3 dX11_behindOne_82 rfl rfl ?_
      obtain ⟨q15, eq15, h⟩ := ob_some h
      refine ex_callV0v (pc := 83) dX11_behindOne_83 jX11_nextToken lmX11_193 jiX11_nextToken jvX11_nextToken (o_X11_nextToken eq15) rfl (Nat.le_of_ble_eq_true rfl) (s_X11_nextToken (by omega)  eq15) ?_
      refine ex_iload_n (pc := 86) 0 dX11_behindOne_86 rfl rfl ?_
      by_cases c16 : v12 ≤ 0
      · rw [if_pos c16] at h
        refine ex_if_le_t (pc := 87) 107 dX11_behindOne_87 rfl c16 ?_
        refine ex_aload_n (pc := 107) 3 dX11_behindOne_107 rfl rfl ?_
        refine ex_dup (pc := 108) dX11_behindOne_108 rfl ?_
        obtain ⟨v17, ev17, h⟩ := ob_some h
        refine ex_gI (pc := 109) ev17 dX11_behindOne_109 lfX11_183 ?_
        refine ex_iconst (pc := 112) 1 dX11_behindOne_112 rfl ?_
        refine ex_isub (pc := 113) dX11_behindOne_113 ?_
        obtain ⟨q18, eq18, h⟩ := ob_some h
        refine ex_pF (pc := 114) eq18 dX11_behindOne_114 lfX11_183 rfl rfl (fun _ hq => by cases hq; rfl) ?_
        refine ex_aload_n (pc := 117) 3 dX11_behindOne_117 rfl rfl ?_
        refine ex_dup (pc := 118) dX11_behindOne_118 rfl ?_
        obtain ⟨v19, ev19, h⟩ := ob_some h
        refine ex_gI (pc := 119) ev19 dX11_behindOne_119 lfX11_173 ?_
        refine ex_iconst (pc := 122) 1 dX11_behindOne_122 rfl ?_
        refine ex_isub (pc := 123) dX11_behindOne_123 ?_
        obtain ⟨q20, eq20, h⟩ := ob_some h
        refine ex_pF (pc := 124) eq20 dX11_behindOne_124 lfX11_173 rfl rfl (fun _ hq => by cases hq; rfl) ?_
        refine ex_iload_n (pc := 127) 1 dX11_behindOne_127 rfl rfl ?_
        refine ex_bipush (pc := 128) 43 dX11_behindOne_128 (by decide) ?_
        by_cases c21 : v11 = 43
        · rw [if_pos c21] at h
          refine ex_icmp_ne_f (pc := 130) dX11_behindOne_130 139 rfl c21 ?_
          refine ex_aload_n (pc := 133) 3 dX11_behindOne_133 rfl rfl ?_
          refine ex_iconst (pc := 134) 4 dX11_behindOne_134 rfl ?_
          refine ex_iconst (pc := 135) 0 dX11_behindOne_135 rfl ?_
          obtain ⟨q23, eq23, h⟩ := ob_some h
          refine ex_callV2v (pc := 136) dX11_behindOne_136 jX11_emit lmX11_179 jiX11_emit jvX11_emit (o_X11_emit eq23) rfl (Nat.le_of_ble_eq_true rfl) (s_X11_emit (by omega)  eq23) ?_
          refine ex_aload_n (pc := 139) 3 dX11_behindOne_139 rfl rfl ?_
          refine ex_bipush (pc := 140) 7 dX11_behindOne_140 (by decide) ?_
          obtain ⟨q24, eq24, h⟩ := ob_some h
          refine ex_callV1v (pc := 142) dX11_behindOne_142 jX11_settle lmX11_205 jiX11_settle jvX11_settle (o_X11_settle eq24) rfl (Nat.le_of_ble_eq_true rfl) (s_X11_settle (by omega)  eq24) ?_
          refine ex_iconst (pc := 145) 1 dX11_behindOne_145 rfl ?_
          cases h
          exact ex_ireturn (pc := 146) dX11_behindOne_146
        · rw [if_neg c21] at h
          refine ex_icmp_ne_t (pc := 130) 139 dX11_behindOne_130 rfl c21 ?_
          refine ex_aload_n (pc := 139) 3 dX11_behindOne_139 rfl rfl ?_
          refine ex_bipush (pc := 140) 7 dX11_behindOne_140 (by decide) ?_
          obtain ⟨q22, eq22, h⟩ := ob_some h
          refine ex_callV1v (pc := 142) dX11_behindOne_142 jX11_settle lmX11_205 jiX11_settle jvX11_settle (o_X11_settle eq22) rfl (Nat.le_of_ble_eq_true rfl) (s_X11_settle (by omega)  eq22) ?_
          refine ex_iconst (pc := 145) 1 dX11_behindOne_145 rfl ?_
          cases h
          exact ex_ireturn (pc := 146) dX11_behindOne_146
      · rw [if_neg c16] at h
        refine ex_if_le_f (pc := 87) dX11_behindOne_87 107 rfl c16 ?_
        refine ex_aload_n (pc := 90) 3 dX11_behindOne_90 rfl rfl ?_
        obtain ⟨v25, ev25, h⟩ := ob_some h
        refine ex_gR (pc := 91) ev25 dX11_behindOne_91 lfX11_29 ?_
        refine ex_aload_n (pc := 94) 3 dX11_behindOne_94 rfl rfl ?_
        obtain ⟨v26, ev26, h⟩ := ob_some h
        refine ex_callV0r (pc := 95) dX11_behindOne_95 jX11_openAt lmX11_186 jiX11_openAt jvX11_openAt (o_X11_openAt ev26) rfl (Nat.le_of_ble_eq_true rfl) (s_X11_openAt (by omega)  ev26) ?_
        refine ex_iload_n (pc := 98) 0 dX11_behindOne_98 rfl rfl ?_
        obtain ⟨q27, eq27, h⟩ := ob_some h
        refine ex_wI (pc := 99) eq27 dX11_behindOne_99 ?_
        refine ex_aload_n (pc := 100) 3 dX11_behindOne_100 rfl rfl ?_
        refine ex_iconst (pc := 101) 0 dX11_behindOne_101 rfl ?_
        obtain ⟨q28, eq28, h⟩ := ob_some h
        refine ex_pF (pc := 102) eq28 dX11_behindOne_102 lfX11_202 (jz_nar false) (jz_fit false) (fun _ hq => by cases hq; rfl) ?_
        refine ex_iconst (pc := 105) 1 dX11_behindOne_105 rfl ?_
        cases h
        exact ex_ireturn (pc := 106) dX11_behindOne_106
    · rw [if_neg c13] at h
      refine ex_if_ge_f (pc := 72) dX11_behindOne_72 77 rfl c13 ?_
      refine ex_iconst (pc := 75) 0 dX11_behindOne_75 rfl ?_
      cases h
      exact ex_ireturn (pc := 76) dX11_behindOne_76
  · rw [if_neg c10] at h
    refine ex_if_lt_f (pc := 6) dX11_behindOne_6 60 rfl c10 ?_
    refine ex_aload_n (pc := 9) 1 dX11_behindOne_9 rfl rfl ?_
    refine ex_iload_n (pc := 10) 0 dX11_behindOne_10 rfl rfl ?_
    obtain ⟨v29, ev29, h⟩ := ob_some h
    refine ex_callS1r (pc := 11) dX11_behindOne_11 jX11_rank lmX11_176 jsX11_rank (Nat.le_of_ble_eq_true rfl) (s_X11_rank (by omega)  ev29) ?_
    refine ex_iconst (pc := 14) 4 dX11_behindOne_14 rfl ?_
    by_cases c30 : v29 = 4
    · rw [if_pos c30] at h
      refine ex_icmp_ne_f (pc := 15) dX11_behindOne_15 22 rfl c30 ?_
      refine ex_iconst (pc := 18) 5 dX11_behindOne_18 rfl ?_
      refine ex_goto (pc := 19) 26 dX11_behindOne_19 rfl ?_
      refine ex_sub (lo' := [(0, .ref x0), (1, .int v9)]) [1, 0] rfl ?_
      exact t_X11_behindOne_26 hd  _ _ _ _ _ _  h
    · rw [if_neg c30] at h
      refine ex_icmp_ne_t (pc := 15) 22 dX11_behindOne_15 rfl c30 ?_
      refine ex_iload_n (pc := 22) 0 dX11_behindOne_22 rfl rfl ?_
      obtain ⟨v31, ev31, h⟩ := ob_some h
      refine ex_callS1r (pc := 23) dX11_behindOne_23 jX11_rank lmX11_176 jsX11_rank (Nat.le_of_ble_eq_true rfl) (s_X11_rank (by omega)  ev31) ?_
      refine ex_sub (lo' := [(0, .ref x0), (1, .int v9)]) [1, 0] rfl ?_
      exact t_X11_behindOne_26 hd  _ _ _ _ _ _  h
noncomputable def f_X11_behindOne (x0 : Nat) (M : Mem) : Option (Bool × Mem) := if isOb M 11 x0 = true then f_X11_behindOne_0 x0 M else none
theorem o_X11_behindOne {x0 : Nat} {M : Mem} {res : Bool × Mem} (h : f_X11_behindOne x0 M = some res) : isO M 11 x0 := by
  unfold f_X11_behindOne at h
  split at h
  · rename_i hc; exact isOb_iff hc
  · cases h
set_option maxHeartbeats 4000000 in
theorem s_X11_behindOne {X : XV} {d : Nat} (hd : 5 ≤ d) {x0 : Nat} {M : Mem} {res : Bool × Mem} (h : f_X11_behindOne x0 M = some res) : Mx X d mX11_behindOne [.ref x0] M (some (.int (jz res.1))) res.2 := by
  obtain ⟨d, rfl⟩ : ∃ e, d = e + 1 := ⟨d - 1, by omega⟩
  unfold f_X11_behindOne at h
  split at h
  rotate_left
  · cases h
  refine Mx.of (by decide) (Nat.le_of_ble_eq_true rfl) (⟨_, rfl, jz_nar _⟩) ?_
  exact ex_sub (lo' := [(0, .ref x0)]) [0] rfl (t_X11_behindOne_0 hd _ _ _  h)
noncomputable def f_X11_summed_15 (n0 : Nat) (x0 : Nat) (M : Mem) : Option (Int32 × Mem) :=
  match n0 with
  | 0 => none
  | n + 1 =>
    (gZ M 11 x0 18).bind fun v1 =>
    if v1 = false then
    ((f_X11_beginOne x0 M).bind fun q3 =>
    if q3.1 = 0 then
    (f_X11_summed_15 n x0 q3.2)
    else
    (some (q3.1, q3.2)))
    else
    ((f_X11_behindOne x0 M).bind fun q5 =>
    if q5.1 = false then
    ((f_X11_openNow x0 q5.2).bind fun v7 =>
    if v7 < 0 then
    ((f_X11_settle x0 1 q5.2).bind fun q9 =>
    some (0, q9))
    else
    (some (1, q5.2)))
    else
    (f_X11_summed_15 n x0 q5.2))
set_option maxHeartbeats 4000000 in
theorem t_X11_summed_15 {X : XV} {d : Nat} (hd : 7 ≤ d + 1) : ∀ (n : Nat) (x0 : Nat) (M : Mem) (res : Int32 × Mem), f_X11_summed_15 n  x0 M = some res → Ex X (d + 1) mX11_summed 15 [(0, .ref x0)] [] M (some (.int res.1)) res.2 := by
  intro n
  induction n with
  | zero =>
    intro x0 M res  h
    unfold f_X11_summed_15 at h
    cases h
  | succ n ih =>
    intro x0 M res  h
    unfold f_X11_summed_15 at h
    refine ex_aload_n (pc := 15) 0 dX11_summed_15 rfl rfl ?_
    obtain ⟨v1, ev1, h⟩ := ob_some h
    refine ex_gZ (pc := 16) ev1 dX11_summed_16 lfX11_202 ?_
    by_cases c2 : v1 = false
    · rw [if_pos c2] at h
      refine ex_if_eq_t (pc := 19) 48 dX11_summed_19 rfl (jz_eq_t c2) ?_
      refine ex_aload_n (pc := 48) 0 dX11_summed_48 rfl rfl ?_
      obtain ⟨q3, eq3, h⟩ := ob_some h
      refine ex_callV0r (pc := 49) dX11_summed_49 jX11_beginOne lmX11_238 jiX11_beginOne jvX11_beginOne (o_X11_beginOne eq3) rfl (Nat.le_of_ble_eq_true rfl) (s_X11_beginOne (by omega)  eq3) ?_
      refine ex_istore_n (pc := 52) [(1, .int q3.1), (0, .ref x0)] dX11_summed_52 rfl (by decide) rfl ?_
      refine ex_iload_n (pc := 53) 0 dX11_summed_53 rfl rfl ?_
      by_cases c4 : q3.1 = 0
      · rw [if_pos c4] at h
        refine ex_if_eq_t (pc := 54) 59 dX11_summed_54 rfl c4 ?_
        refine ex_goto (pc := 59) 15 dX11_summed_59 rfl ?_
        refine ex_sub (lo' := [(0, .ref x0)]) [1] rfl ?_
        exact ih _ _ _  h
      · rw [if_neg c4] at h
        refine ex_if_eq_f (pc := 54) dX11_summed_54 59 rfl c4 ?_
        refine ex_iload_n (pc := 57) 0 dX11_summed_57 rfl rfl ?_
        cases h
        exact ex_ireturn (pc := 58) dX11_summed_58
    · rw [if_neg c2] at h
      refine ex_if_eq_f (pc := 19) dX11_summed_19 48 rfl (jz_eq_f c2) ?_
      refine ex_aload_n (pc := 22) 0 dX11_summed_22 rfl rfl ?_
      obtain ⟨q5, eq5, h⟩ := ob_some h
      refine ex_callV0r (pc := 23) dX11_summed_23 jX11_behindOne lmX11_235 jiX11_behindOne jvX11_behindOne (o_X11_behindOne eq5) rfl (Nat.le_of_ble_eq_true rfl) (s_X11_behindOne (by omega)  eq5) ?_
      by_cases c6 : q5.1 = false
      · rw [if_pos c6] at h
        refine ex_if_eq_t (pc := 26) 32 dX11_summed_26 rfl (jz_eq_t c6) ?_
        refine ex_aload_n (pc := 32) 0 dX11_summed_32 rfl rfl ?_
        obtain ⟨v7, ev7, h⟩ := ob_some h
        refine ex_callV0r (pc := 33) dX11_summed_33 jX11_openNow lmX11_190 jiX11_openNow jvX11_openNow (o_X11_openNow ev7) rfl (Nat.le_of_ble_eq_true rfl) (s_X11_openNow (by omega)  ev7) ?_
        by_cases c8 : v7 < 0
        · rw [if_pos c8] at h
          refine ex_if_lt_t (pc := 36) 41 dX11_summed_36 rfl c8 ?_
          refine ex_aload_n (pc := 41) 0 dX11_summed_41 rfl rfl ?_
          refine ex_iconst (pc := 42) 1 dX11_summed_42 rfl ?_
          obtain ⟨q9, eq9, h⟩ := ob_some h
          refine ex_callV1v (pc := 43) dX11_summed_43 jX11_settle lmX11_205 jiX11_settle jvX11_settle (o_X11_settle eq9) rfl (Nat.le_of_ble_eq_true rfl) (s_X11_settle (by omega)  eq9) ?_
          refine ex_iconst (pc := 46) 0 dX11_summed_46 rfl ?_
          cases h
          exact ex_ireturn (pc := 47) dX11_summed_47
        · rw [if_neg c8] at h
          refine ex_if_lt_f (pc := 36) dX11_summed_36 41 rfl c8 ?_
          refine ex_iconst (pc := 39) 1 dX11_summed_39 rfl ?_
          cases h
          exact ex_ireturn (pc := 40) dX11_summed_40
      · rw [if_neg c6] at h
        refine ex_if_eq_f (pc := 26) dX11_summed_26 32 rfl (jz_eq_f c6) ?_
        refine ex_goto (pc := 29) 15 dX11_summed_29 rfl ?_
        refine ex_sub (lo' := [(0, .ref x0)]) [0] rfl ?_
        exact ih _ _ _  h
noncomputable def f_X11_summed_0 (x0 : Nat) (M : Mem) : Option (Int32 × Mem) :=
  (pF M 11 x0 16 (.int 0)).bind fun q10 =>
  (pF q10 11 x0 17 (.int 0)).bind fun q11 =>
  (pF q11 11 x0 18 (.int (jz false))).bind fun q12 =>
  f_X11_summed_15 fu x0 q12
set_option maxHeartbeats 4000000 in
theorem t_X11_summed_0 {X : XV} {d : Nat} (hd : 7 ≤ d + 1) : ∀ (x0 : Nat) (M : Mem) (res : Int32 × Mem), f_X11_summed_0  x0 M = some res → Ex X (d + 1) mX11_summed 0 [(0, .ref x0)] [] M (some (.int res.1)) res.2 := by
  intro x0 M res  h
  unfold f_X11_summed_0 at h
  refine ex_aload_n (pc := 0) 0 dX11_summed_0 rfl rfl ?_
  refine ex_iconst (pc := 1) 0 dX11_summed_1 rfl ?_
  obtain ⟨q10, eq10, h⟩ := ob_some h
  refine ex_pF (pc := 2) eq10 dX11_summed_2 lfX11_173 rfl rfl (fun _ hq => by cases hq; rfl) ?_
  refine ex_aload_n (pc := 5) 0 dX11_summed_5 rfl rfl ?_
  refine ex_iconst (pc := 6) 0 dX11_summed_6 rfl ?_
  obtain ⟨q11, eq11, h⟩ := ob_some h
  refine ex_pF (pc := 7) eq11 dX11_summed_7 lfX11_183 rfl rfl (fun _ hq => by cases hq; rfl) ?_
  refine ex_aload_n (pc := 10) 0 dX11_summed_10 rfl rfl ?_
  refine ex_iconst (pc := 11) 0 dX11_summed_11 rfl ?_
  obtain ⟨q12, eq12, h⟩ := ob_some h
  refine ex_pF (pc := 12) eq12 dX11_summed_12 lfX11_202 (jz_nar false) (jz_fit false) (fun _ hq => by cases hq; rfl) ?_
  refine ex_sub (lo' := [(0, .ref x0)]) [0] rfl ?_
  exact t_X11_summed_15 hd  _ _ _ _  h
noncomputable def f_X11_summed (x0 : Nat) (M : Mem) : Option (Int32 × Mem) := if isOb M 11 x0 = true then f_X11_summed_0 x0 M else none
theorem o_X11_summed {x0 : Nat} {M : Mem} {res : Int32 × Mem} (h : f_X11_summed x0 M = some res) : isO M 11 x0 := by
  unfold f_X11_summed at h
  split at h
  · rename_i hc; exact isOb_iff hc
  · cases h
set_option maxHeartbeats 4000000 in
theorem s_X11_summed {X : XV} {d : Nat} (hd : 7 ≤ d) {x0 : Nat} {M : Mem} {res : Int32 × Mem} (h : f_X11_summed x0 M = some res) : Mx X d mX11_summed [.ref x0] M (some (.int res.1)) res.2 := by
  obtain ⟨d, rfl⟩ : ∃ e, d = e + 1 := ⟨d - 1, by omega⟩
  unfold f_X11_summed at h
  split at h
  rotate_left
  · cases h
  refine Mx.of (by decide) (Nat.le_of_ble_eq_true rfl) (⟨_, rfl, rfl⟩) ?_
  exact ex_sub (lo' := [(0, .ref x0)]) [0] rfl (t_X11_summed_0 hd _ _ _  h)
noncomputable def f_X11_figure_0 (x0 : Nat) (x1 : Int32) (x2 : Int32) (x3 : Int32) (M : Mem) : Option (Int32 × Mem) :=
  (gI M 11 x0 9).bind fun v1 =>
  if v1 = 1 then
  ((gI M 11 x0 10).bind fun v3 =>
  (f_X11_isIn v3 x2 x3).bind fun v4 =>
  if v4 = true then
  ((gR M 11 x0 2).bind fun v6 =>
  (gI M 11 x0 10).bind fun v7 =>
  (wI M v6 x1 v7).bind fun q8 =>
  (f_X11_nextToken x0 q8).bind fun q9 =>
  some (0, q9))
  else
  (some (2, M)))
  else
  (some (1, M))
set_option maxHeartbeats 4000000 in
theorem t_X11_figure_0 {X : XV} {d : Nat} (hd : 3 ≤ d + 1) : ∀ (x0 : Nat) (x1 : Int32) (x2 : Int32) (x3 : Int32) (M : Mem) (res : Int32 × Mem), f_X11_figure_0  x0 x1 x2 x3 M = some res → Ex X (d + 1) mX11_figure 0 [(0, .ref x0), (1, .int x1), (2, .int x2), (3, .int x3)] [] M (some (.int res.1)) res.2 := by
  intro x0 x1 x2 x3 M res  h
  unfold f_X11_figure_0 at h
  refine ex_aload_n (pc := 0) 0 dX11_figure_0 rfl rfl ?_
  obtain ⟨v1, ev1, h⟩ := ob_some h
  refine ex_gI (pc := 1) ev1 dX11_figure_1 lfX11_126 ?_
  refine ex_iconst (pc := 4) 1 dX11_figure_4 rfl ?_
  by_cases c2 : v1 = 1
  · rw [if_pos c2] at h
    refine ex_icmp_eq_t (pc := 5) 10 dX11_figure_5 rfl c2 ?_
    refine ex_aload_n (pc := 10) 0 dX11_figure_10 rfl rfl ?_
    obtain ⟨v3, ev3, h⟩ := ob_some h
    refine ex_gI (pc := 11) ev3 dX11_figure_11 lfX11_132 ?_
    refine ex_iload_n (pc := 14) 2 dX11_figure_14 rfl rfl ?_
    refine ex_iload_n (pc := 15) 3 dX11_figure_15 rfl rfl ?_
    obtain ⟨v4, ev4, h⟩ := ob_some h
    refine ex_callS3r (pc := 16) dX11_figure_16 jX11_isIn lmX11_87 jsX11_isIn (Nat.le_of_ble_eq_true rfl) (s_X11_isIn (by omega)  ev4) ?_
    by_cases c5 : v4 = true
    · rw [if_pos c5] at h
      refine ex_if_ne_t (pc := 19) 24 dX11_figure_19 rfl (jz_ne_t c5) ?_
      refine ex_aload_n (pc := 24) 0 dX11_figure_24 rfl rfl ?_
      obtain ⟨v6, ev6, h⟩ := ob_some h
      refine ex_gR (pc := 25) ev6 dX11_figure_25 lfX11_16 ?_
      refine ex_iload_n (pc := 28) 1 dX11_figure_28 rfl rfl ?_
      refine ex_aload_n (pc := 29) 0 dX11_figure_29 rfl rfl ?_
      obtain ⟨v7, ev7, h⟩ := ob_some h
      refine ex_gI (pc := 30) ev7 dX11_figure_30 lfX11_132 ?_
      obtain ⟨q8, eq8, h⟩ := ob_some h
      refine ex_wI (pc := 33) eq8 dX11_figure_33 ?_
      refine ex_aload_n (pc := 34) 0 dX11_figure_34 rfl rfl ?_
      obtain ⟨q9, eq9, h⟩ := ob_some h
      refine ex_callV0v (pc := 35) dX11_figure_35 jX11_nextToken lmX11_193 jiX11_nextToken jvX11_nextToken (o_X11_nextToken eq9) rfl (Nat.le_of_ble_eq_true rfl) (s_X11_nextToken (by omega)  eq9) ?_
      refine ex_iconst (pc := 38) 0 dX11_figure_38 rfl ?_
      cases h
      exact ex_ireturn (pc := 39) dX11_figure_39
    · rw [if_neg c5] at h
      refine ex_if_ne_f (pc := 19) dX11_figure_19 24 rfl (jz_ne_f c5) ?_
      refine ex_iconst (pc := 22) 2 dX11_figure_22 rfl ?_
      cases h
      exact ex_ireturn (pc := 23) dX11_figure_23
  · rw [if_neg c2] at h
    refine ex_icmp_eq_f (pc := 5) dX11_figure_5 10 rfl c2 ?_
    refine ex_iconst (pc := 8) 1 dX11_figure_8 rfl ?_
    cases h
    exact ex_ireturn (pc := 9) dX11_figure_9
noncomputable def f_X11_figure (x0 : Nat) (x1 : Int32) (x2 : Int32) (x3 : Int32) (M : Mem) : Option (Int32 × Mem) := if isOb M 11 x0 = true then f_X11_figure_0 x0 x1 x2 x3 M else none
theorem o_X11_figure {x0 : Nat} {x1 : Int32} {x2 : Int32} {x3 : Int32} {M : Mem} {res : Int32 × Mem} (h : f_X11_figure x0 x1 x2 x3 M = some res) : isO M 11 x0 := by
  unfold f_X11_figure at h
  split at h
  · rename_i hc; exact isOb_iff hc
  · cases h
set_option maxHeartbeats 4000000 in
theorem s_X11_figure {X : XV} {d : Nat} (hd : 3 ≤ d) {x0 : Nat} {x1 : Int32} {x2 : Int32} {x3 : Int32} {M : Mem} {res : Int32 × Mem} (h : f_X11_figure x0 x1 x2 x3 M = some res) : Mx X d mX11_figure [.ref x0, .int x1, .int x2, .int x3] M (some (.int res.1)) res.2 := by
  obtain ⟨d, rfl⟩ : ∃ e, d = e + 1 := ⟨d - 1, by omega⟩
  unfold f_X11_figure at h
  split at h
  rotate_left
  · cases h
  refine Mx.of (by decide) (Nat.le_of_ble_eq_true rfl) (⟨_, rfl, rfl⟩) ?_
  exact ex_sub (lo' := [(0, .ref x0), (1, .int x1), (2, .int x2), (3, .int x3)]) [0, 1, 2, 3] rfl (t_X11_figure_0 hd _ _ _ _ _ _  h)
noncomputable def f_X11_worded_0 (x0 : Nat) (x1 : Int64) (x3 : Int32) (x4 : Int32) (M : Mem) : Option (Int32 × Mem) :=
  (f_X11_isWord x0 x1 M).bind fun v1 =>
  if v1 = true then
  ((f_X11_nextToken x0 M).bind fun q3 =>
  (f_X11_figure x0 x3 0 x4 q3).bind fun q4 =>
  some (q4.1, q4.2))
  else
  (some (1, M))
set_option maxHeartbeats 4000000 in
theorem t_X11_worded_0 {X : XV} {d : Nat} (hd : 4 ≤ d + 1) : ∀ (x0 : Nat) (x1 : Int64) (x3 : Int32) (x4 : Int32) (M : Mem) (res : Int32 × Mem), f_X11_worded_0  x0 x1 x3 x4 M = some res → Ex X (d + 1) mX11_worded 0 [(0, .ref x0), (1, .long x1), (3, .int x3), (4, .int x4)] [] M (some (.int res.1)) res.2 := by
  intro x0 x1 x3 x4 M res  h
  unfold f_X11_worded_0 at h
  refine ex_aload_n (pc := 0) 0 dX11_worded_0 rfl rfl ?_
  refine ex_lload_n (pc := 1) 1 dX11_worded_1 rfl rfl ?_
  obtain ⟨v1, ev1, h⟩ := ob_some h
  refine ex_callV1r (pc := 2) dX11_worded_2 jX11_isWord lmX11_215 jiX11_isWord jvX11_isWord (o_X11_isWord ev1) rfl (Nat.le_of_ble_eq_true rfl) (s_X11_isWord (by omega)  ev1) ?_
  by_cases c2 : v1 = true
  · rw [if_pos c2] at h
    refine ex_if_ne_t (pc := 5) 10 dX11_worded_5 rfl (jz_ne_t c2) ?_
    refine ex_aload_n (pc := 10) 0 dX11_worded_10 rfl rfl ?_
    obtain ⟨q3, eq3, h⟩ := ob_some h
    refine ex_callV0v (pc := 11) dX11_worded_11 jX11_nextToken lmX11_193 jiX11_nextToken jvX11_nextToken (o_X11_nextToken eq3) rfl (Nat.le_of_ble_eq_true rfl) (s_X11_nextToken (by omega)  eq3) ?_
    refine ex_aload_n (pc := 14) 0 dX11_worded_14 rfl rfl ?_
    refine ex_iload_n (pc := 15) 2 dX11_worded_15 rfl rfl ?_
    refine ex_iconst (pc := 16) 0 dX11_worded_16 rfl ?_
    refine ex_iload (pc := 17) 3 dX11_worded_17 rfl ?_
    obtain ⟨q4, eq4, h⟩ := ob_some h
    refine ex_callV3r (pc := 19) dX11_worded_19 jX11_figure lmX11_241 jiX11_figure jvX11_figure (o_X11_figure eq4) rfl (Nat.le_of_ble_eq_true rfl) (s_X11_figure (by omega)  eq4) ?_
    cases h
    exact ex_ireturn (pc := 22) dX11_worded_22
  · rw [if_neg c2] at h
    refine ex_if_ne_f (pc := 5) dX11_worded_5 10 rfl (jz_ne_f c2) ?_
    refine ex_iconst (pc := 8) 1 dX11_worded_8 rfl ?_
    cases h
    exact ex_ireturn (pc := 9) dX11_worded_9
noncomputable def f_X11_worded (x0 : Nat) (x1 : Int64) (x3 : Int32) (x4 : Int32) (M : Mem) : Option (Int32 × Mem) := if isOb M 11 x0 = true then f_X11_worded_0 x0 x1 x3 x4 M else none
theorem o_X11_worded {x0 : Nat} {x1 : Int64} {x3 : Int32} {x4 : Int32} {M : Mem} {res : Int32 × Mem} (h : f_X11_worded x0 x1 x3 x4 M = some res) : isO M 11 x0 := by
  unfold f_X11_worded at h
  split at h
  · rename_i hc; exact isOb_iff hc
  · cases h
set_option maxHeartbeats 4000000 in
theorem s_X11_worded {X : XV} {d : Nat} (hd : 4 ≤ d) {x0 : Nat} {x1 : Int64} {x3 : Int32} {x4 : Int32} {M : Mem} {res : Int32 × Mem} (h : f_X11_worded x0 x1 x3 x4 M = some res) : Mx X d mX11_worded [.ref x0, .long x1, .int x3, .int x4] M (some (.int res.1)) res.2 := by
  obtain ⟨d, rfl⟩ : ∃ e, d = e + 1 := ⟨d - 1, by omega⟩
  unfold f_X11_worded at h
  split at h
  rotate_left
  · cases h
  refine Mx.of (by decide) (Nat.le_of_ble_eq_true rfl) (⟨_, rfl, rfl⟩) ?_
  exact ex_sub (lo' := [(0, .ref x0), (1, .long x1), (3, .int x3), (4, .int x4)]) [0, 1, 2, 3] rfl (t_X11_worded_0 hd _ _ _ _ _ _  h)
noncomputable def f_X11_lawClause_0 (x0 : Nat) (x1 : Int32) (M : Mem) : Option (Int32 × Mem) :=
  (gR M 11 x0 2).bind fun v1 =>
  (gI M 11 x0 13).bind fun v2 =>
  (wI M v1 (x1 + 1) v2).bind fun q3 =>
  (f_X11_summed x0 q3).bind fun q4 =>
  (gR q4.2 11 x0 2).bind fun v5 =>
  (gI q4.2 11 x0 13).bind fun v6 =>
  (wI q4.2 v5 (x1 + 2) v6).bind fun q7 =>
  some (q4.1, q7)
set_option maxHeartbeats 4000000 in
theorem t_X11_lawClause_0 {X : XV} {d : Nat} (hd : 8 ≤ d + 1) : ∀ (x0 : Nat) (x1 : Int32) (M : Mem) (res : Int32 × Mem), f_X11_lawClause_0  x0 x1 M = some res → Ex X (d + 1) mX11_lawClause 0 [(0, .ref x0), (1, .int x1)] [] M (some (.int res.1)) res.2 := by
  intro x0 x1 M res  h
  unfold f_X11_lawClause_0 at h
  refine ex_aload_n (pc := 0) 0 dX11_lawClause_0 rfl rfl ?_
  obtain ⟨v1, ev1, h⟩ := ob_some h
  refine ex_gR (pc := 1) ev1 dX11_lawClause_1 lfX11_16 ?_
  refine ex_iload_n (pc := 4) 1 dX11_lawClause_4 rfl rfl ?_
  refine ex_iconst (pc := 5) 1 dX11_lawClause_5 rfl ?_
  refine ex_iadd (pc := 6) dX11_lawClause_6 ?_
  refine ex_aload_n (pc := 7) 0 dX11_lawClause_7 rfl rfl ?_
  obtain ⟨v2, ev2, h⟩ := ob_some h
  refine ex_gI (pc := 8) ev2 dX11_lawClause_8 lfX11_167 ?_
  obtain ⟨q3, eq3, h⟩ := ob_some h
  refine ex_wI (pc := 11) eq3 dX11_lawClause_11 ?_
  refine ex_aload_n (pc := 12) 0 dX11_lawClause_12 rfl rfl ?_
  obtain ⟨q4, eq4, h⟩ := ob_some h
  refine ex_callV0r (pc := 13) dX11_lawClause_13 jX11_summed lmX11_245 jiX11_summed jvX11_summed (o_X11_summed eq4) rfl (Nat.le_of_ble_eq_true rfl) (s_X11_summed (by omega)  eq4) ?_
  refine ex_istore_n (pc := 16) [(2, .int q4.1), (0, .ref x0), (1, .int x1)] dX11_lawClause_16 rfl (by decide) rfl ?_
  refine ex_aload_n (pc := 17) 1 dX11_lawClause_17 rfl rfl ?_
  obtain ⟨v5, ev5, h⟩ := ob_some h
  refine ex_gR (pc := 18) ev5 dX11_lawClause_18 lfX11_16 ?_
  refine ex_iload_n (pc := 21) 2 dX11_lawClause_21 rfl rfl ?_
  refine ex_iconst (pc := 22) 2 dX11_lawClause_22 rfl ?_
  refine ex_iadd (pc := 23) dX11_lawClause_23 ?_
  refine ex_aload_n (pc := 24) 1 dX11_lawClause_24 rfl rfl ?_
  obtain ⟨v6, ev6, h⟩ := ob_some h
  refine ex_gI (pc := 25) ev6 dX11_lawClause_25 lfX11_167 ?_
  obtain ⟨q7, eq7, h⟩ := ob_some h
  refine ex_wI (pc := 28) eq7 dX11_lawClause_28 ?_
  refine ex_iload_n (pc := 29) 0 dX11_lawClause_29 rfl rfl ?_
  cases h
  exact ex_ireturn (pc := 30) dX11_lawClause_30
noncomputable def f_X11_lawClause (x0 : Nat) (x1 : Int32) (M : Mem) : Option (Int32 × Mem) := if isOb M 11 x0 = true then f_X11_lawClause_0 x0 x1 M else none
theorem o_X11_lawClause {x0 : Nat} {x1 : Int32} {M : Mem} {res : Int32 × Mem} (h : f_X11_lawClause x0 x1 M = some res) : isO M 11 x0 := by
  unfold f_X11_lawClause at h
  split at h
  · rename_i hc; exact isOb_iff hc
  · cases h
set_option maxHeartbeats 4000000 in
theorem s_X11_lawClause {X : XV} {d : Nat} (hd : 8 ≤ d) {x0 : Nat} {x1 : Int32} {M : Mem} {res : Int32 × Mem} (h : f_X11_lawClause x0 x1 M = some res) : Mx X d mX11_lawClause [.ref x0, .int x1] M (some (.int res.1)) res.2 := by
  obtain ⟨d, rfl⟩ : ∃ e, d = e + 1 := ⟨d - 1, by omega⟩
  unfold f_X11_lawClause at h
  split at h
  rotate_left
  · cases h
  refine Mx.of (by decide) (Nat.le_of_ble_eq_true rfl) (⟨_, rfl, rfl⟩) ?_
  exact ex_sub (lo' := [(0, .ref x0), (1, .int x1)]) [0, 1] rfl (t_X11_lawClause_0 hd _ _ _ _  h)
noncomputable def f_X11_pair_0 (x0 : Nat) (x1 : Int32) (x2 : Int32) (x3 : Int64) (x5 : Int32) (M : Mem) : Option (Int32 × Mem) :=
  (f_X11_figure x0 (x1 + 1) 0 x2 M).bind fun q1 =>
  if q1.1 = 0 then
  ((f_X11_worded x0 x3 (x1 + 2) x5 q1.2).bind fun q3 =>
  some (q3.1, q3.2))
  else
  (some (q1.1, q1.2))
set_option maxHeartbeats 4000000 in
theorem t_X11_pair_0 {X : XV} {d : Nat} (hd : 5 ≤ d + 1) : ∀ (x0 : Nat) (x1 : Int32) (x2 : Int32) (x3 : Int64) (x5 : Int32) (M : Mem) (res : Int32 × Mem), f_X11_pair_0  x0 x1 x2 x3 x5 M = some res → Ex X (d + 1) mX11_pair 0 [(0, .ref x0), (1, .int x1), (2, .int x2), (3, .long x3), (5, .int x5)] [] M (some (.int res.1)) res.2 := by
  intro x0 x1 x2 x3 x5 M res  h
  unfold f_X11_pair_0 at h
  refine ex_aload_n (pc := 0) 0 dX11_pair_0 rfl rfl ?_
  refine ex_iload_n (pc := 1) 1 dX11_pair_1 rfl rfl ?_
  refine ex_iconst (pc := 2) 1 dX11_pair_2 rfl ?_
  refine ex_iadd (pc := 3) dX11_pair_3 ?_
  refine ex_iconst (pc := 4) 0 dX11_pair_4 rfl ?_
  refine ex_iload_n (pc := 5) 2 dX11_pair_5 rfl rfl ?_
  obtain ⟨q1, eq1, h⟩ := ob_some h
  refine ex_callV3r (pc := 6) dX11_pair_6 jX11_figure lmX11_241 jiX11_figure jvX11_figure (o_X11_figure eq1) rfl (Nat.le_of_ble_eq_true rfl) (s_X11_figure (by omega)  eq1) ?_
  refine ex_istore (pc := 9) [(6, .int q1.1), (0, .ref x0), (1, .int x1), (2, .int x2), (3, .long x3), (5, .int x5)] dX11_pair_9 (by decide) rfl ?_
  refine ex_iload (pc := 11) 0 dX11_pair_11 rfl ?_
  by_cases c2 : q1.1 = 0
  · rw [if_pos c2] at h
    refine ex_if_eq_t (pc := 13) 21 dX11_pair_13 rfl c2 ?_
    refine ex_aload_n (pc := 21) 1 dX11_pair_21 rfl rfl ?_
    refine ex_lload_n (pc := 22) 4 dX11_pair_22 rfl rfl ?_
    refine ex_iload_n (pc := 23) 2 dX11_pair_23 rfl rfl ?_
    refine ex_iconst (pc := 24) 2 dX11_pair_24 rfl ?_
    refine ex_iadd (pc := 25) dX11_pair_25 ?_
    refine ex_iload (pc := 26) 5 dX11_pair_26 rfl ?_
    obtain ⟨q3, eq3, h⟩ := ob_some h
    refine ex_callV3r (pc := 28) dX11_pair_28 jX11_worded lmX11_248 jiX11_worded jvX11_worded (o_X11_worded eq3) rfl (Nat.le_of_ble_eq_true rfl) (s_X11_worded (by omega)  eq3) ?_
    cases h
    exact ex_ireturn (pc := 31) dX11_pair_31
  · rw [if_neg c2] at h
    refine ex_if_eq_f (pc := 13) dX11_pair_13 21 rfl c2 ?_
    refine ex_iload (pc := 16) 0 dX11_pair_16 rfl ?_
    refine ex_goto (pc := 18) 31 dX11_pair_18 rfl ?_
    cases h
    exact ex_ireturn (pc := 31) dX11_pair_31
noncomputable def f_X11_pair (x0 : Nat) (x1 : Int32) (x2 : Int32) (x3 : Int64) (x5 : Int32) (M : Mem) : Option (Int32 × Mem) := if isOb M 11 x0 = true then f_X11_pair_0 x0 x1 x2 x3 x5 M else none
theorem o_X11_pair {x0 : Nat} {x1 : Int32} {x2 : Int32} {x3 : Int64} {x5 : Int32} {M : Mem} {res : Int32 × Mem} (h : f_X11_pair x0 x1 x2 x3 x5 M = some res) : isO M 11 x0 := by
  unfold f_X11_pair at h
  split at h
  · rename_i hc; exact isOb_iff hc
  · cases h
set_option maxHeartbeats 4000000 in
theorem s_X11_pair {X : XV} {d : Nat} (hd : 5 ≤ d) {x0 : Nat} {x1 : Int32} {x2 : Int32} {x3 : Int64} {x5 : Int32} {M : Mem} {res : Int32 × Mem} (h : f_X11_pair x0 x1 x2 x3 x5 M = some res) : Mx X d mX11_pair [.ref x0, .int x1, .int x2, .long x3, .int x5] M (some (.int res.1)) res.2 := by
  obtain ⟨d, rfl⟩ : ∃ e, d = e + 1 := ⟨d - 1, by omega⟩
  unfold f_X11_pair at h
  split at h
  rotate_left
  · cases h
  refine Mx.of (by decide) (Nat.le_of_ble_eq_true rfl) (⟨_, rfl, rfl⟩) ?_
  exact ex_sub (lo' := [(0, .ref x0), (1, .int x1), (2, .int x2), (3, .long x3), (5, .int x5)]) [0, 1, 2, 3, 4] rfl (t_X11_pair_0 hd _ _ _ _ _ _ _  h)
noncomputable def f_X11_body_0 (x0 : Nat) (x1 : Int32) (x2 : Int32) (M : Mem) : Option (Int32 × Mem) :=
  if x1 = 3 then
  ((f_X11_w4 119 101 97 114).bind fun v2 =>
  (f_X11_pair x0 x2 9 v2 99 M).bind fun q3 =>
  some (q3.1, q3.2))
  else
  (if x1 = 4 then
  ((f_X11_w2 116 111).bind fun v5 =>
  (f_X11_pair x0 x2 9 v5 110 M).bind fun q6 =>
  some (q6.1, q6.2))
  else
  (if x1 = 5 then
  ((f_X11_w2 116 111).bind fun v8 =>
  (f_X11_pair x0 x2 9 v8 110 M).bind fun q9 =>
  some (q9.1, q9.2))
  else
  (if x1 = 6 then
  ((f_X11_w2 98 121).bind fun v11 =>
  (f_X11_pair x0 x2 9999 v11 4 M).bind fun q12 =>
  some (q12.1, q12.2))
  else
  (if x1 = 7 then
  ((f_X11_w2 98 121).bind fun v14 =>
  (f_X11_pair x0 x2 4 v14 9 M).bind fun q15 =>
  some (q15.1, q15.2))
  else
  (if x1 = 8 then
  ((f_X11_figure x0 (x2 + 1) 0 4 M).bind fun q17 =>
  some (q17.1, q17.2))
  else
  (if x1 = 9 then
  ((f_X11_figure x0 (x2 + 1) 1 60 M).bind fun q19 =>
  some (q19.1, q19.2))
  else
  ((f_X11_lawClause x0 x2 M).bind fun q20 =>
  some (q20.1, q20.2))))))))
set_option maxHeartbeats 4000000 in
theorem t_X11_body_0 {X : XV} {d : Nat} (hd : 9 ≤ d + 1) : ∀ (x0 : Nat) (x1 : Int32) (x2 : Int32) (M : Mem) (res : Int32 × Mem), f_X11_body_0  x0 x1 x2 M = some res → Ex X (d + 1) mX11_body 0 [(0, .ref x0), (1, .int x1), (2, .int x2)] [] M (some (.int res.1)) res.2 := by
  intro x0 x1 x2 M res  h
  unfold f_X11_body_0 at h
  refine ex_iload_n (pc := 0) 1 dX11_body_0 rfl rfl ?_
  by_cases c1 : x1 = 3
  · rw [if_pos c1] at h
    refine ex_tabIn (pc := 1) 44 dX11_body_1 (by rw [c1]; decide) (by rw [c1]; decide) (by rw [c1]; rfl) rfl ?_
    refine ex_aload_n (pc := 44) 0 dX11_body_44 rfl rfl ?_
    refine ex_iload_n (pc := 45) 2 dX11_body_45 rfl rfl ?_
    refine ex_bipush (pc := 46) 9 dX11_body_46 (by decide) ?_
    refine ex_bipush (pc := 48) 119 dX11_body_48 (by decide) ?_
    refine ex_bipush (pc := 50) 101 dX11_body_50 (by decide) ?_
    refine ex_bipush (pc := 52) 97 dX11_body_52 (by decide) ?_
    refine ex_bipush (pc := 54) 114 dX11_body_54 (by decide) ?_
    obtain ⟨v2, ev2, h⟩ := ob_some h
    refine ex_callS4r (pc := 56) dX11_body_56 jX11_w4 lmX11_156 jsX11_w4 (Nat.le_of_ble_eq_true rfl) (s_X11_w4 (by omega)  ev2) ?_
    refine ex_bipush (pc := 59) 99 dX11_body_59 (by decide) ?_
    obtain ⟨q3, eq3, h⟩ := ob_some h
    refine ex_callV4r (pc := 61) dX11_body_61 jX11_pair lmX11_252 jiX11_pair jvX11_pair (o_X11_pair eq3) rfl (Nat.le_of_ble_eq_true rfl) (s_X11_pair (by omega)  eq3) ?_
    cases h
    exact ex_ireturn (pc := 64) dX11_body_64
  · rw [if_neg c1] at h
    by_cases c4 : x1 = 4
    · rw [if_pos c4] at h
      refine ex_tabIn (pc := 1) 65 dX11_body_1 (by rw [c4]; decide) (by rw [c4]; decide) (by rw [c4]; rfl) rfl ?_
      refine ex_aload_n (pc := 65) 0 dX11_body_65 rfl rfl ?_
      refine ex_iload_n (pc := 66) 2 dX11_body_66 rfl rfl ?_
      refine ex_bipush (pc := 67) 9 dX11_body_67 (by decide) ?_
      refine ex_bipush (pc := 69) 116 dX11_body_69 (by decide) ?_
      refine ex_bipush (pc := 71) 111 dX11_body_71 (by decide) ?_
      obtain ⟨v5, ev5, h⟩ := ob_some h
      refine ex_callS2r (pc := 73) dX11_body_73 jX11_w2 lmX11_148 jsX11_w2 (Nat.le_of_ble_eq_true rfl) (s_X11_w2 (by omega)  ev5) ?_
      refine ex_bipush (pc := 76) 110 dX11_body_76 (by decide) ?_
      obtain ⟨q6, eq6, h⟩ := ob_some h
      refine ex_callV4r (pc := 78) dX11_body_78 jX11_pair lmX11_252 jiX11_pair jvX11_pair (o_X11_pair eq6) rfl (Nat.le_of_ble_eq_true rfl) (s_X11_pair (by omega)  eq6) ?_
      cases h
      exact ex_ireturn (pc := 81) dX11_body_81
    · rw [if_neg c4] at h
      by_cases c7 : x1 = 5
      · rw [if_pos c7] at h
        refine ex_tabIn (pc := 1) 82 dX11_body_1 (by rw [c7]; decide) (by rw [c7]; decide) (by rw [c7]; rfl) rfl ?_
        refine ex_aload_n (pc := 82) 0 dX11_body_82 rfl rfl ?_
        refine ex_iload_n (pc := 83) 2 dX11_body_83 rfl rfl ?_
        refine ex_bipush (pc := 84) 9 dX11_body_84 (by decide) ?_
        refine ex_bipush (pc := 86) 116 dX11_body_86 (by decide) ?_
        refine ex_bipush (pc := 88) 111 dX11_body_88 (by decide) ?_
        obtain ⟨v8, ev8, h⟩ := ob_some h
        refine ex_callS2r (pc := 90) dX11_body_90 jX11_w2 lmX11_148 jsX11_w2 (Nat.le_of_ble_eq_true rfl) (s_X11_w2 (by omega)  ev8) ?_
        refine ex_bipush (pc := 93) 110 dX11_body_93 (by decide) ?_
        obtain ⟨q9, eq9, h⟩ := ob_some h
        refine ex_callV4r (pc := 95) dX11_body_95 jX11_pair lmX11_252 jiX11_pair jvX11_pair (o_X11_pair eq9) rfl (Nat.le_of_ble_eq_true rfl) (s_X11_pair (by omega)  eq9) ?_
        cases h
        exact ex_ireturn (pc := 98) dX11_body_98
      · rw [if_neg c7] at h
        by_cases c10 : x1 = 6
        · rw [if_pos c10] at h
          refine ex_tabIn (pc := 1) 99 dX11_body_1 (by rw [c10]; decide) (by rw [c10]; decide) (by rw [c10]; rfl) rfl ?_
          refine ex_aload_n (pc := 99) 0 dX11_body_99 rfl rfl ?_
          refine ex_iload_n (pc := 100) 2 dX11_body_100 rfl rfl ?_
          refine ex_sipush (pc := 101) 9999 dX11_body_101 (by decide) ?_
          refine ex_bipush (pc := 104) 98 dX11_body_104 (by decide) ?_
          refine ex_bipush (pc := 106) 121 dX11_body_106 (by decide) ?_
          obtain ⟨v11, ev11, h⟩ := ob_some h
          refine ex_callS2r (pc := 108) dX11_body_108 jX11_w2 lmX11_148 jsX11_w2 (Nat.le_of_ble_eq_true rfl) (s_X11_w2 (by omega)  ev11) ?_
          refine ex_iconst (pc := 111) 4 dX11_body_111 rfl ?_
          obtain ⟨q12, eq12, h⟩ := ob_some h
          refine ex_callV4r (pc := 112) dX11_body_112 jX11_pair lmX11_252 jiX11_pair jvX11_pair (o_X11_pair eq12) rfl (Nat.le_of_ble_eq_true rfl) (s_X11_pair (by omega)  eq12) ?_
          cases h
          exact ex_ireturn (pc := 115) dX11_body_115
        · rw [if_neg c10] at h
          by_cases c13 : x1 = 7
          · rw [if_pos c13] at h
            refine ex_tabIn (pc := 1) 116 dX11_body_1 (by rw [c13]; decide) (by rw [c13]; decide) (by rw [c13]; rfl) rfl ?_
            refine ex_aload_n (pc := 116) 0 dX11_body_116 rfl rfl ?_
            refine ex_iload_n (pc := 117) 2 dX11_body_117 rfl rfl ?_
            refine ex_iconst (pc := 118) 4 dX11_body_118 rfl ?_
            refine ex_bipush (pc := 119) 98 dX11_body_119 (by decide) ?_
            refine ex_bipush (pc := 121) 121 dX11_body_121 (by decide) ?_
            obtain ⟨v14, ev14, h⟩ := ob_some h
            refine ex_callS2r (pc := 123) dX11_body_123 jX11_w2 lmX11_148 jsX11_w2 (Nat.le_of_ble_eq_true rfl) (s_X11_w2 (by omega)  ev14) ?_
            refine ex_bipush (pc := 126) 9 dX11_body_126 (by decide) ?_
            obtain ⟨q15, eq15, h⟩ := ob_some h
            refine ex_callV4r (pc := 128) dX11_body_128 jX11_pair lmX11_252 jiX11_pair jvX11_pair (o_X11_pair eq15) rfl (Nat.le_of_ble_eq_true rfl) (s_X11_pair (by omega)  eq15) ?_
            cases h
            exact ex_ireturn (pc := 131) dX11_body_131
          · rw [if_neg c13] at h
            by_cases c16 : x1 = 8
            · rw [if_pos c16] at h
              refine ex_tabIn (pc := 1) 132 dX11_body_1 (by rw [c16]; decide) (by rw [c16]; decide) (by rw [c16]; rfl) rfl ?_
              refine ex_aload_n (pc := 132) 0 dX11_body_132 rfl rfl ?_
              refine ex_iload_n (pc := 133) 2 dX11_body_133 rfl rfl ?_
              refine ex_iconst (pc := 134) 1 dX11_body_134 rfl ?_
              refine ex_iadd (pc := 135) dX11_body_135 ?_
              refine ex_iconst (pc := 136) 0 dX11_body_136 rfl ?_
              refine ex_iconst (pc := 137) 4 dX11_body_137 rfl ?_
              obtain ⟨q17, eq17, h⟩ := ob_some h
              refine ex_callV3r (pc := 138) dX11_body_138 jX11_figure lmX11_241 jiX11_figure jvX11_figure (o_X11_figure eq17) rfl (Nat.le_of_ble_eq_true rfl) (s_X11_figure (by omega)  eq17) ?_
              cases h
              exact ex_ireturn (pc := 141) dX11_body_141
            · rw [if_neg c16] at h
              by_cases c18 : x1 = 9
              · rw [if_pos c18] at h
                refine ex_tabIn (pc := 1) 142 dX11_body_1 (by rw [c18]; decide) (by rw [c18]; decide) (by rw [c18]; rfl) rfl ?_
                refine ex_aload_n (pc := 142) 0 dX11_body_142 rfl rfl ?_
                refine ex_iload_n (pc := 143) 2 dX11_body_143 rfl rfl ?_
                refine ex_iconst (pc := 144) 1 dX11_body_144 rfl ?_
                refine ex_iadd (pc := 145) dX11_body_145 ?_
                refine ex_iconst (pc := 146) 1 dX11_body_146 rfl ?_
                refine ex_bipush (pc := 147) 60 dX11_body_147 (by decide) ?_
                obtain ⟨q19, eq19, h⟩ := ob_some h
                refine ex_callV3r (pc := 149) dX11_body_149 jX11_figure lmX11_241 jiX11_figure jvX11_figure (o_X11_figure eq19) rfl (Nat.le_of_ble_eq_true rfl) (s_X11_figure (by omega)  eq19) ?_
                cases h
                exact ex_ireturn (pc := 152) dX11_body_152
              · rw [if_neg c18] at h
                have zc1 : ¬ (x1).toInt = 3 := fun e9 => c1 (i32_of e9 (by decide))
                have zc4 : ¬ (x1).toInt = 4 := fun e9 => c4 (i32_of e9 (by decide))
                have zc7 : ¬ (x1).toInt = 5 := fun e9 => c7 (i32_of e9 (by decide))
                have zc10 : ¬ (x1).toInt = 6 := fun e9 => c10 (i32_of e9 (by decide))
                have zc13 : ¬ (x1).toInt = 7 := fun e9 => c13 (i32_of e9 (by decide))
                have zc16 : ¬ (x1).toInt = 8 := fun e9 => c16 (i32_of e9 (by decide))
                have zc18 : ¬ (x1).toInt = 9 := fun e9 => c18 (i32_of e9 (by decide))
                refine ex_tabOut (pc := 1) 153 dX11_body_1 (by omega) rfl ?_
                refine ex_aload_n (pc := 153) 0 dX11_body_153 rfl rfl ?_
                refine ex_iload_n (pc := 154) 2 dX11_body_154 rfl rfl ?_
                obtain ⟨q20, eq20, h⟩ := ob_some h
                refine ex_callV1r (pc := 155) dX11_body_155 jX11_lawClause lmX11_256 jiX11_lawClause jvX11_lawClause (o_X11_lawClause eq20) rfl (Nat.le_of_ble_eq_true rfl) (s_X11_lawClause (by omega)  eq20) ?_
                cases h
                exact ex_ireturn (pc := 158) dX11_body_158
noncomputable def f_X11_body (x0 : Nat) (x1 : Int32) (x2 : Int32) (M : Mem) : Option (Int32 × Mem) := if isOb M 11 x0 = true then f_X11_body_0 x0 x1 x2 M else none
theorem o_X11_body {x0 : Nat} {x1 : Int32} {x2 : Int32} {M : Mem} {res : Int32 × Mem} (h : f_X11_body x0 x1 x2 M = some res) : isO M 11 x0 := by
  unfold f_X11_body at h
  split at h
  · rename_i hc; exact isOb_iff hc
  · cases h
set_option maxHeartbeats 4000000 in
theorem s_X11_body {X : XV} {d : Nat} (hd : 9 ≤ d) {x0 : Nat} {x1 : Int32} {x2 : Int32} {M : Mem} {res : Int32 × Mem} (h : f_X11_body x0 x1 x2 M = some res) : Mx X d mX11_body [.ref x0, .int x1, .int x2] M (some (.int res.1)) res.2 := by
  obtain ⟨d, rfl⟩ : ∃ e, d = e + 1 := ⟨d - 1, by omega⟩
  unfold f_X11_body at h
  split at h
  rotate_left
  · cases h
  refine Mx.of (by decide) (Nat.le_of_ble_eq_true rfl) (⟨_, rfl, rfl⟩) ?_
  exact ex_sub (lo' := [(0, .ref x0), (1, .int x1), (2, .int x2)]) [0, 1, 2] rfl (t_X11_body_0 hd _ _ _ _ _  h)
noncomputable def f_X11_sortOf_0 (x0 : Nat) (M : Mem) : Option (Int32) :=
  (f_X11_w5 108 111 111 115 101).bind fun v1 =>
  (f_X11_isWord x0 v1 M).bind fun v2 =>
  if v2 = false then
  ((f_X11_w4 98 101 108 105).bind fun v4 =>
  (f_X11_w4 101 118 101 115).bind fun v5 =>
  (f_X11_isLong x0 v4 v5 8 M).bind fun v6 =>
  if v6 = false then
  ((f_X11_w5 119 101 97 114 115).bind fun v8 =>
  (f_X11_isWord x0 v8 M).bind fun v9 =>
  if v9 = false then
  ((f_X11_w4 109 97 99 104).bind fun v11 =>
  (f_X11_w3 105 110 101).bind fun v12 =>
  (f_X11_isLong x0 v11 v12 7 M).bind fun v13 =>
  if v13 = false then
  ((f_X11_w6 115 116 114 105 99 116).bind fun v15 =>
  (f_X11_isWord x0 v15 M).bind fun v16 =>
  if v16 = false then
  ((f_X11_w5 115 108 97 99 107).bind fun v18 =>
  (f_X11_isWord x0 v18 M).bind fun v19 =>
  if v19 = false then
  ((f_X11_w5 99 114 97 110 107).bind fun v21 =>
  (f_X11_isWord x0 v21 M).bind fun v22 =>
  if v22 = false then
  ((f_X11_w3 111 105 108).bind fun v24 =>
  (f_X11_isWord x0 v24 M).bind fun v25 =>
  if v25 = false then
  ((f_X11_w4 108 105 102 116).bind fun v27 =>
  (f_X11_isWord x0 v27 M).bind fun v28 =>
  if v28 = false then
  ((f_X11_w5 110 105 103 104 116).bind fun v30 =>
  (f_X11_isWord x0 v30 M).bind fun v31 =>
  if v31 = false then
  (some (-1))
  else
  (some 9))
  else
  (some 8))
  else
  (some 7))
  else
  (some 6))
  else
  (some 5))
  else
  (some 4))
  else
  (some 3))
  else
  (some 2))
  else
  (some 1))
  else
  (some 0)
set_option maxHeartbeats 4000000 in
theorem t_X11_sortOf_0 {X : XV} {d : Nat} (hd : 6 ≤ d + 1) : ∀ (x0 : Nat) (M : Mem) (res : Int32), f_X11_sortOf_0  x0 M = some res → Ex X (d + 1) mX11_sortOf 0 [(0, .ref x0)] [] M (some (.int res)) M := by
  intro x0 M res  h
  unfold f_X11_sortOf_0 at h
  refine ex_aload_n (pc := 0) 0 dX11_sortOf_0 rfl rfl ?_
  refine ex_bipush (pc := 1) 108 dX11_sortOf_1 (by decide) ?_
  refine ex_bipush (pc := 3) 111 dX11_sortOf_3 (by decide) ?_
  refine ex_bipush (pc := 5) 111 dX11_sortOf_5 (by decide) ?_
  refine ex_bipush (pc := 7) 115 dX11_sortOf_7 (by decide) ?_
  refine ex_bipush (pc := 9) 101 dX11_sortOf_9 (by decide) ?_
  obtain ⟨v1, ev1, h⟩ := ob_some h
  refine ex_callS5r (pc := 11) dX11_sortOf_11 jX11_w5 lmX11_160 jsX11_w5 (Nat.le_of_ble_eq_true rfl) (s_X11_w5 (by omega)  ev1) ?_
  obtain ⟨v2, ev2, h⟩ := ob_some h
  refine ex_callV1r (pc := 14) dX11_sortOf_14 jX11_isWord lmX11_215 jiX11_isWord jvX11_isWord (o_X11_isWord ev2) rfl (Nat.le_of_ble_eq_true rfl) (s_X11_isWord (by omega)  ev2) ?_
  by_cases c3 : v2 = false
  · rw [if_pos c3] at h
    refine ex_if_eq_t (pc := 17) 22 dX11_sortOf_17 rfl (jz_eq_t c3) ?_
    refine ex_aload_n (pc := 22) 0 dX11_sortOf_22 rfl rfl ?_
    refine ex_bipush (pc := 23) 98 dX11_sortOf_23 (by decide) ?_
    refine ex_bipush (pc := 25) 101 dX11_sortOf_25 (by decide) ?_
    refine ex_bipush (pc := 27) 108 dX11_sortOf_27 (by decide) ?_
    refine ex_bipush (pc := 29) 105 dX11_sortOf_29 (by decide) ?_
    obtain ⟨v4, ev4, h⟩ := ob_some h
    refine ex_callS4r (pc := 31) dX11_sortOf_31 jX11_w4 lmX11_156 jsX11_w4 (Nat.le_of_ble_eq_true rfl) (s_X11_w4 (by omega)  ev4) ?_
    refine ex_bipush (pc := 34) 101 dX11_sortOf_34 (by decide) ?_
    refine ex_bipush (pc := 36) 118 dX11_sortOf_36 (by decide) ?_
    refine ex_bipush (pc := 38) 101 dX11_sortOf_38 (by decide) ?_
    refine ex_bipush (pc := 40) 115 dX11_sortOf_40 (by decide) ?_
    obtain ⟨v5, ev5, h⟩ := ob_some h
    refine ex_callS4r (pc := 42) dX11_sortOf_42 jX11_w4 lmX11_156 jsX11_w4 (Nat.le_of_ble_eq_true rfl) (s_X11_w4 (by omega)  ev5) ?_
    refine ex_bipush (pc := 45) 8 dX11_sortOf_45 (by decide) ?_
    obtain ⟨v6, ev6, h⟩ := ob_some h
    refine ex_callV3r (pc := 47) dX11_sortOf_47 jX11_isLong lmX11_259 jiX11_isLong jvX11_isLong (o_X11_isLong ev6) rfl (Nat.le_of_ble_eq_true rfl) (s_X11_isLong (by omega)  ev6) ?_
    by_cases c7 : v6 = false
    · rw [if_pos c7] at h
      refine ex_if_eq_t (pc := 50) 55 dX11_sortOf_50 rfl (jz_eq_t c7) ?_
      refine ex_aload_n (pc := 55) 0 dX11_sortOf_55 rfl rfl ?_
      refine ex_bipush (pc := 56) 119 dX11_sortOf_56 (by decide) ?_
      refine ex_bipush (pc := 58) 101 dX11_sortOf_58 (by decide) ?_
      refine ex_bipush (pc := 60) 97 dX11_sortOf_60 (by decide) ?_
      refine ex_bipush (pc := 62) 114 dX11_sortOf_62 (by decide) ?_
      refine ex_bipush (pc := 64) 115 dX11_sortOf_64 (by decide) ?_
      obtain ⟨v8, ev8, h⟩ := ob_some h
      refine ex_callS5r (pc := 66) dX11_sortOf_66 jX11_w5 lmX11_160 jsX11_w5 (Nat.le_of_ble_eq_true rfl) (s_X11_w5 (by omega)  ev8) ?_
      obtain ⟨v9, ev9, h⟩ := ob_some h
      refine ex_callV1r (pc := 69) dX11_sortOf_69 jX11_isWord lmX11_215 jiX11_isWord jvX11_isWord (o_X11_isWord ev9) rfl (Nat.le_of_ble_eq_true rfl) (s_X11_isWord (by omega)  ev9) ?_
      by_cases c10 : v9 = false
      · rw [if_pos c10] at h
        refine ex_if_eq_t (pc := 72) 77 dX11_sortOf_72 rfl (jz_eq_t c10) ?_
        refine ex_aload_n (pc := 77) 0 dX11_sortOf_77 rfl rfl ?_
        refine ex_bipush (pc := 78) 109 dX11_sortOf_78 (by decide) ?_
        refine ex_bipush (pc := 80) 97 dX11_sortOf_80 (by decide) ?_
        refine ex_bipush (pc := 82) 99 dX11_sortOf_82 (by decide) ?_
        refine ex_bipush (pc := 84) 104 dX11_sortOf_84 (by decide) ?_
        obtain ⟨v11, ev11, h⟩ := ob_some h
        refine ex_callS4r (pc := 86) dX11_sortOf_86 jX11_w4 lmX11_156 jsX11_w4 (Nat.le_of_ble_eq_true rfl) (s_X11_w4 (by omega)  ev11) ?_
        refine ex_bipush (pc := 89) 105 dX11_sortOf_89 (by decide) ?_
        refine ex_bipush (pc := 91) 110 dX11_sortOf_91 (by decide) ?_
        refine ex_bipush (pc := 93) 101 dX11_sortOf_93 (by decide) ?_
        obtain ⟨v12, ev12, h⟩ := ob_some h
        refine ex_callS3r (pc := 95) dX11_sortOf_95 jX11_w3 lmX11_152 jsX11_w3 (Nat.le_of_ble_eq_true rfl) (s_X11_w3 (by omega)  ev12) ?_
        refine ex_bipush (pc := 98) 7 dX11_sortOf_98 (by decide) ?_
        obtain ⟨v13, ev13, h⟩ := ob_some h
        refine ex_callV3r (pc := 100) dX11_sortOf_100 jX11_isLong lmX11_259 jiX11_isLong jvX11_isLong (o_X11_isLong ev13) rfl (Nat.le_of_ble_eq_true rfl) (s_X11_isLong (by omega)  ev13) ?_
        by_cases c14 : v13 = false
        · rw [if_pos c14] at h
          refine ex_if_eq_t (pc := 103) 108 dX11_sortOf_103 rfl (jz_eq_t c14) ?_
          refine ex_aload_n (pc := 108) 0 dX11_sortOf_108 rfl rfl ?_
          refine ex_bipush (pc := 109) 115 dX11_sortOf_109 (by decide) ?_
          refine ex_bipush (pc := 111) 116 dX11_sortOf_111 (by decide) ?_
          refine ex_bipush (pc := 113) 114 dX11_sortOf_113 (by decide) ?_
          refine ex_bipush (pc := 115) 105 dX11_sortOf_115 (by decide) ?_
          refine ex_bipush (pc := 117) 99 dX11_sortOf_117 (by decide) ?_
          refine ex_bipush (pc := 119) 116 dX11_sortOf_119 (by decide) ?_
          obtain ⟨v15, ev15, h⟩ := ob_some h
          refine ex_callS6r (pc := 121) dX11_sortOf_121 jX11_w6 lmX11_211 jsX11_w6 (Nat.le_of_ble_eq_true rfl) (s_X11_w6 (by omega)  ev15) ?_
          obtain ⟨v16, ev16, h⟩ := ob_some h
          refine ex_callV1r (pc := 124) dX11_sortOf_124 jX11_isWord lmX11_215 jiX11_isWord jvX11_isWord (o_X11_isWord ev16) rfl (Nat.le_of_ble_eq_true rfl) (s_X11_isWord (by omega)  ev16) ?_
          by_cases c17 : v16 = false
          · rw [if_pos c17] at h
            refine ex_if_eq_t (pc := 127) 132 dX11_sortOf_127 rfl (jz_eq_t c17) ?_
            refine ex_aload_n (pc := 132) 0 dX11_sortOf_132 rfl rfl ?_
            refine ex_bipush (pc := 133) 115 dX11_sortOf_133 (by decide) ?_
            refine ex_bipush (pc := 135) 108 dX11_sortOf_135 (by decide) ?_
            refine ex_bipush (pc := 137) 97 dX11_sortOf_137 (by decide) ?_
            refine ex_bipush (pc := 139) 99 dX11_sortOf_139 (by decide) ?_
            refine ex_bipush (pc := 141) 107 dX11_sortOf_141 (by decide) ?_
            obtain ⟨v18, ev18, h⟩ := ob_some h
            refine ex_callS5r (pc := 143) dX11_sortOf_143 jX11_w5 lmX11_160 jsX11_w5 (Nat.le_of_ble_eq_true rfl) (s_X11_w5 (by omega)  ev18) ?_
            obtain ⟨v19, ev19, h⟩ := ob_some h
            refine ex_callV1r (pc := 146) dX11_sortOf_146 jX11_isWord lmX11_215 jiX11_isWord jvX11_isWord (o_X11_isWord ev19) rfl (Nat.le_of_ble_eq_true rfl) (s_X11_isWord (by omega)  ev19) ?_
            by_cases c20 : v19 = false
            · rw [if_pos c20] at h
              refine ex_if_eq_t (pc := 149) 154 dX11_sortOf_149 rfl (jz_eq_t c20) ?_
              refine ex_aload_n (pc := 154) 0 dX11_sortOf_154 rfl rfl ?_
              refine ex_bipush (pc := 155) 99 dX11_sortOf_155 (by decide) ?_
              refine ex_bipush (pc := 157) 114 dX11_sortOf_157 (by decide) ?_
              refine ex_bipush (pc := 159) 97 dX11_sortOf_159 (by decide) ?_
              refine ex_bipush (pc := 161) 110 dX11_sortOf_161 (by decide) ?_
              refine ex_bipush (pc := 163) 107 dX11_sortOf_163 (by decide) ?_
              obtain ⟨v21, ev21, h⟩ := ob_some h
              refine ex_callS5r (pc := 165) dX11_sortOf_165 jX11_w5 lmX11_160 jsX11_w5 (Nat.le_of_ble_eq_true rfl) (s_X11_w5 (by omega)  ev21) ?_
              obtain ⟨v22, ev22, h⟩ := ob_some h
              refine ex_callV1r (pc := 168) dX11_sortOf_168 jX11_isWord lmX11_215 jiX11_isWord jvX11_isWord (o_X11_isWord ev22) rfl (Nat.le_of_ble_eq_true rfl) (s_X11_isWord (by omega)  ev22) ?_
              by_cases c23 : v22 = false
              · rw [if_pos c23] at h
                refine ex_if_eq_t (pc := 171) 177 dX11_sortOf_171 rfl (jz_eq_t c23) ?_
                refine ex_aload_n (pc := 177) 0 dX11_sortOf_177 rfl rfl ?_
                refine ex_bipush (pc := 178) 111 dX11_sortOf_178 (by decide) ?_
                refine ex_bipush (pc := 180) 105 dX11_sortOf_180 (by decide) ?_
                refine ex_bipush (pc := 182) 108 dX11_sortOf_182 (by decide) ?_
                obtain ⟨v24, ev24, h⟩ := ob_some h
                refine ex_callS3r (pc := 184) dX11_sortOf_184 jX11_w3 lmX11_152 jsX11_w3 (Nat.le_of_ble_eq_true rfl) (s_X11_w3 (by omega)  ev24) ?_
                obtain ⟨v25, ev25, h⟩ := ob_some h
                refine ex_callV1r (pc := 187) dX11_sortOf_187 jX11_isWord lmX11_215 jiX11_isWord jvX11_isWord (o_X11_isWord ev25) rfl (Nat.le_of_ble_eq_true rfl) (s_X11_isWord (by omega)  ev25) ?_
                by_cases c26 : v25 = false
                · rw [if_pos c26] at h
                  refine ex_if_eq_t (pc := 190) 196 dX11_sortOf_190 rfl (jz_eq_t c26) ?_
                  refine ex_aload_n (pc := 196) 0 dX11_sortOf_196 rfl rfl ?_
                  refine ex_bipush (pc := 197) 108 dX11_sortOf_197 (by decide) ?_
                  refine ex_bipush (pc := 199) 105 dX11_sortOf_199 (by decide) ?_
                  refine ex_bipush (pc := 201) 102 dX11_sortOf_201 (by decide) ?_
                  refine ex_bipush (pc := 203) 116 dX11_sortOf_203 (by decide) ?_
                  obtain ⟨v27, ev27, h⟩ := ob_some h
                  refine ex_callS4r (pc := 205) dX11_sortOf_205 jX11_w4 lmX11_156 jsX11_w4 (Nat.le_of_ble_eq_true rfl) (s_X11_w4 (by omega)  ev27) ?_
                  obtain ⟨v28, ev28, h⟩ := ob_some h
                  refine ex_callV1r (pc := 208) dX11_sortOf_208 jX11_isWord lmX11_215 jiX11_isWord jvX11_isWord (o_X11_isWord ev28) rfl (Nat.le_of_ble_eq_true rfl) (s_X11_isWord (by omega)  ev28) ?_
                  by_cases c29 : v28 = false
                  · rw [if_pos c29] at h
                    refine ex_if_eq_t (pc := 211) 219 dX11_sortOf_211 rfl (jz_eq_t c29) ?_
                    refine ex_aload_n (pc := 219) 0 dX11_sortOf_219 rfl rfl ?_
                    refine ex_bipush (pc := 220) 110 dX11_sortOf_220 (by decide) ?_
                    refine ex_bipush (pc := 222) 105 dX11_sortOf_222 (by decide) ?_
                    refine ex_bipush (pc := 224) 103 dX11_sortOf_224 (by decide) ?_
                    refine ex_bipush (pc := 226) 104 dX11_sortOf_226 (by decide) ?_
                    refine ex_bipush (pc := 228) 116 dX11_sortOf_228 (by decide) ?_
                    obtain ⟨v30, ev30, h⟩ := ob_some h
                    refine ex_callS5r (pc := 230) dX11_sortOf_230 jX11_w5 lmX11_160 jsX11_w5 (Nat.le_of_ble_eq_true rfl) (s_X11_w5 (by omega)  ev30) ?_
                    obtain ⟨v31, ev31, h⟩ := ob_some h
                    refine ex_callV1r (pc := 233) dX11_sortOf_233 jX11_isWord lmX11_215 jiX11_isWord jvX11_isWord (o_X11_isWord ev31) rfl (Nat.le_of_ble_eq_true rfl) (s_X11_isWord (by omega)  ev31) ?_
                    by_cases c32 : v31 = false
                    · rw [if_pos c32] at h
                      refine ex_if_eq_t (pc := 236) 244 dX11_sortOf_236 rfl (jz_eq_t c32) ?_
                      refine ex_iconst (pc := 244) (-1) dX11_sortOf_244 rfl ?_
                      cases h
                      exact ex_ireturn (pc := 245) dX11_sortOf_245
                    · rw [if_neg c32] at h
                      refine ex_if_eq_f (pc := 236) dX11_sortOf_236 244 rfl (jz_eq_f c32) ?_
                      refine ex_bipush (pc := 239) 9 dX11_sortOf_239 (by decide) ?_
                      refine ex_goto (pc := 241) 245 dX11_sortOf_241 rfl ?_
                      cases h
                      exact ex_ireturn (pc := 245) dX11_sortOf_245
                  · rw [if_neg c29] at h
                    refine ex_if_eq_f (pc := 211) dX11_sortOf_211 219 rfl (jz_eq_f c29) ?_
                    refine ex_bipush (pc := 214) 8 dX11_sortOf_214 (by decide) ?_
                    refine ex_goto (pc := 216) 245 dX11_sortOf_216 rfl ?_
                    cases h
                    exact ex_ireturn (pc := 245) dX11_sortOf_245
                · rw [if_neg c26] at h
                  refine ex_if_eq_f (pc := 190) dX11_sortOf_190 196 rfl (jz_eq_f c26) ?_
                  refine ex_bipush (pc := 193) 7 dX11_sortOf_193 (by decide) ?_
                  cases h
                  exact ex_ireturn (pc := 195) dX11_sortOf_195
              · rw [if_neg c23] at h
                refine ex_if_eq_f (pc := 171) dX11_sortOf_171 177 rfl (jz_eq_f c23) ?_
                refine ex_bipush (pc := 174) 6 dX11_sortOf_174 (by decide) ?_
                cases h
                exact ex_ireturn (pc := 176) dX11_sortOf_176
            · rw [if_neg c20] at h
              refine ex_if_eq_f (pc := 149) dX11_sortOf_149 154 rfl (jz_eq_f c20) ?_
              refine ex_iconst (pc := 152) 5 dX11_sortOf_152 rfl ?_
              cases h
              exact ex_ireturn (pc := 153) dX11_sortOf_153
          · rw [if_neg c17] at h
            refine ex_if_eq_f (pc := 127) dX11_sortOf_127 132 rfl (jz_eq_f c17) ?_
            refine ex_iconst (pc := 130) 4 dX11_sortOf_130 rfl ?_
            cases h
            exact ex_ireturn (pc := 131) dX11_sortOf_131
        · rw [if_neg c14] at h
          refine ex_if_eq_f (pc := 103) dX11_sortOf_103 108 rfl (jz_eq_f c14) ?_
          refine ex_iconst (pc := 106) 3 dX11_sortOf_106 rfl ?_
          cases h
          exact ex_ireturn (pc := 107) dX11_sortOf_107
      · rw [if_neg c10] at h
        refine ex_if_eq_f (pc := 72) dX11_sortOf_72 77 rfl (jz_eq_f c10) ?_
        refine ex_iconst (pc := 75) 2 dX11_sortOf_75 rfl ?_
        cases h
        exact ex_ireturn (pc := 76) dX11_sortOf_76
    · rw [if_neg c7] at h
      refine ex_if_eq_f (pc := 50) dX11_sortOf_50 55 rfl (jz_eq_f c7) ?_
      refine ex_iconst (pc := 53) 1 dX11_sortOf_53 rfl ?_
      cases h
      exact ex_ireturn (pc := 54) dX11_sortOf_54
  · rw [if_neg c3] at h
    refine ex_if_eq_f (pc := 17) dX11_sortOf_17 22 rfl (jz_eq_f c3) ?_
    refine ex_iconst (pc := 20) 0 dX11_sortOf_20 rfl ?_
    cases h
    exact ex_ireturn (pc := 21) dX11_sortOf_21
noncomputable def f_X11_sortOf (x0 : Nat) (M : Mem) : Option (Int32) := if isOb M 11 x0 = true then f_X11_sortOf_0 x0 M else none
theorem o_X11_sortOf {x0 : Nat} {M : Mem} {res : Int32} (h : f_X11_sortOf x0 M = some res) : isO M 11 x0 := by
  unfold f_X11_sortOf at h
  split at h
  · rename_i hc; exact isOb_iff hc
  · cases h
set_option maxHeartbeats 4000000 in
theorem s_X11_sortOf {X : XV} {d : Nat} (hd : 6 ≤ d) {x0 : Nat} {M : Mem} {res : Int32} (h : f_X11_sortOf x0 M = some res) : Mx X d mX11_sortOf [.ref x0] M (some (.int res)) M := by
  obtain ⟨d, rfl⟩ : ∃ e, d = e + 1 := ⟨d - 1, by omega⟩
  unfold f_X11_sortOf at h
  split at h
  rotate_left
  · cases h
  refine Mx.of (by decide) (Nat.le_of_ble_eq_true rfl) (⟨_, rfl, rfl⟩) ?_
  exact ex_sub (lo' := [(0, .ref x0)]) [0] rfl (t_X11_sortOf_0 hd _ _ _  h)
noncomputable def f_X11_clause_65 (x0 : Nat) (x1 : Int32) (x2 : Int32) (M : Mem) : Option (Int32 × Mem) :=
  (pF M 11 x0 14 (.int x1)).bind fun q1 =>
  (f_X11_nextToken x0 q1).bind fun q2 =>
  (gI q2 11 x0 12).bind fun v3 =>
  (gR q2 11 x0 2).bind fun v4 =>
  (wI q2 v4 ((v3 + 1) + (4 * x2)) x1).bind fun q5 =>
  (f_X11_body x0 x1 ((v3 + 1) + (4 * x2)) q5).bind fun q6 =>
  if q6.1 = 0 then
  ((gR q6.2 11 x0 2).bind fun v8 =>
  (gI q6.2 11 x0 12).bind fun v9 =>
  (rI q6.2 v8 v9).bind fun v10 =>
  (wI q6.2 v8 v9 (v10 + 1)).bind fun q11 =>
  (gI q11 11 x0 9).bind fun v12 =>
  if v12 = 59 then
  ((f_X11_nextToken x0 q11).bind fun q14 =>
  some (0, q14))
  else
  (some (1, q11)))
  else
  (some (q6.1, q6.2))
set_option maxHeartbeats 4000000 in
theorem t_X11_clause_65 {X : XV} {d : Nat} (hd : 10 ≤ d + 1) : ∀ (x0 : Nat) (x1 : Int32) (x2 : Int32) (M : Mem) (res : Int32 × Mem), f_X11_clause_65  x0 x1 x2 M = some res → Ex X (d + 1) mX11_clause 65 [(0, .ref x0), (1, .int x1), (2, .int x2)] [] M (some (.int res.1)) res.2 := by
  intro x0 x1 x2 M res  h
  unfold f_X11_clause_65 at h
  refine ex_aload_n (pc := 65) 0 dX11_clause_65 rfl rfl ?_
  refine ex_iload_n (pc := 66) 1 dX11_clause_66 rfl rfl ?_
  obtain ⟨q1, eq1, h⟩ := ob_some h
  refine ex_pF (pc := 67) eq1 dX11_clause_67 lfX11_170 rfl rfl (fun _ hq => by cases hq; rfl) ?_
  refine ex_aload_n (pc := 70) 0 dX11_clause_70 rfl rfl ?_
  obtain ⟨q2, eq2, h⟩ := ob_some h
  refine ex_callV0v (pc := 71) dX11_clause_71 jX11_nextToken lmX11_193 jiX11_nextToken jvX11_nextToken (o_X11_nextToken eq2) rfl (Nat.le_of_ble_eq_true rfl) (s_X11_nextToken (by omega)  eq2) ?_
  refine ex_aload_n (pc := 74) 0 dX11_clause_74 rfl rfl ?_
  obtain ⟨v3, ev3, h⟩ := ob_some h
  refine ex_gI (pc := 75) ev3 dX11_clause_75 lfX11_164 ?_
  refine ex_iconst (pc := 78) 1 dX11_clause_78 rfl ?_
  refine ex_iadd (pc := 79) dX11_clause_79 ?_
  refine ex_iconst (pc := 80) 4 dX11_clause_80 rfl ?_
  refine ex_iload_n (pc := 81) 2 dX11_clause_81 rfl rfl ?_
  refine ex_imul (pc := 82) dX11_clause_82 ?_
  refine ex_iadd (pc := 83) dX11_clause_83 ?_
  refine ex_istore_n (pc := 84) [(3, .int ((v3 + 1) + (4 * x2))), (0, .ref x0), (1, .int x1), (2, .int x2)] dX11_clause_84 rfl (by decide) rfl ?_
  refine ex_aload_n (pc := 85) 1 dX11_clause_85 rfl rfl ?_
  obtain ⟨v4, ev4, h⟩ := ob_some h
  refine ex_gR (pc := 86) ev4 dX11_clause_86 lfX11_16 ?_
  refine ex_iload_n (pc := 89) 0 dX11_clause_89 rfl rfl ?_
  refine ex_iload_n (pc := 90) 2 dX11_clause_90 rfl rfl ?_
  obtain ⟨q5, eq5, h⟩ := ob_some h
  refine ex_wI (pc := 91) eq5 dX11_clause_91 ?_
  refine ex_aload_n (pc := 92) 1 dX11_clause_92 rfl rfl ?_
  refine ex_iload_n (pc := 93) 2 dX11_clause_93 rfl rfl ?_
  refine ex_iload_n (pc := 94) 0 dX11_clause_94 rfl rfl ?_
  obtain ⟨q6, eq6, h⟩ := ob_some h
  refine ex_callV2r (pc := 95) dX11_clause_95 jX11_body lmX11_273 jiX11_body jvX11_body (o_X11_body eq6) rfl (Nat.le_of_ble_eq_true rfl) (s_X11_body (by omega)  eq6) ?_
  refine ex_istore (pc := 98) [(4, .int q6.1), (3, .int ((v3 + 1) + (4 * x2))), (0, .ref x0), (1, .int x1), (2, .int x2)] dX11_clause_98 (by decide) rfl ?_
  refine ex_iload (pc := 100) 0 dX11_clause_100 rfl ?_
  by_cases c7 : q6.1 = 0
  · rw [if_pos c7] at h
    refine ex_if_eq_t (pc := 102) 108 dX11_clause_102 rfl c7 ?_
    refine ex_aload_n (pc := 108) 2 dX11_clause_108 rfl rfl ?_
    obtain ⟨v8, ev8, h⟩ := ob_some h
    refine ex_gR (pc := 109) ev8 dX11_clause_109 lfX11_16 ?_
    refine ex_aload_n (pc := 112) 2 dX11_clause_112 rfl rfl ?_
    obtain ⟨v9, ev9, h⟩ := ob_some h
    refine ex_gI (pc := 113) ev9 dX11_clause_113 lfX11_164 ?_
    refine ex_dup2 (pc := 116) dX11_clause_116 rfl rfl ?_
    obtain ⟨v10, ev10, h⟩ := ob_some h
    refine ex_rI (pc := 117) ev10 dX11_clause_117 ?_
    refine ex_iconst (pc := 118) 1 dX11_clause_118 rfl ?_
    refine ex_iadd (pc := 119) dX11_clause_119 ?_
    obtain ⟨q11, eq11, h⟩ := ob_some h
    refine ex_wI (pc := 120) eq11 dX11_clause_120 ?_
    refine ex_aload_n (pc := 121) 2 dX11_clause_121 rfl rfl ?_
    obtain ⟨v12, ev12, h⟩ := ob_some h
    refine ex_gI (pc := 122) ev12 dX11_clause_122 lfX11_126 ?_
    refine ex_bipush (pc := 125) 59 dX11_clause_125 (by decide) ?_
    by_cases c13 : v12 = 59
    · rw [if_pos c13] at h
      refine ex_icmp_eq_t (pc := 127) 132 dX11_clause_127 rfl c13 ?_
      refine ex_aload_n (pc := 132) 2 dX11_clause_132 rfl rfl ?_
      obtain ⟨q14, eq14, h⟩ := ob_some h
      refine ex_callV0v (pc := 133) dX11_clause_133 jX11_nextToken lmX11_193 jiX11_nextToken jvX11_nextToken (o_X11_nextToken eq14) rfl (Nat.le_of_ble_eq_true rfl) (s_X11_nextToken (by omega)  eq14) ?_
      refine ex_iconst (pc := 136) 0 dX11_clause_136 rfl ?_
      cases h
      exact ex_ireturn (pc := 137) dX11_clause_137
    · rw [if_neg c13] at h
      refine ex_icmp_eq_f (pc := 127) dX11_clause_127 132 rfl c13 ?_
      refine ex_iconst (pc := 130) 1 dX11_clause_130 rfl ?_
      cases h
      exact ex_ireturn (pc := 131) dX11_clause_131
  · rw [if_neg c7] at h
    refine ex_if_eq_f (pc := 102) dX11_clause_102 108 rfl c7 ?_
    refine ex_iload (pc := 105) 0 dX11_clause_105 rfl ?_
    cases h
    exact ex_ireturn (pc := 107) dX11_clause_107
noncomputable def f_X11_clause_29 (x0 : Nat) (x1 : Int32) (M : Mem) : Option (Int32 × Mem) :=
  (gR M 11 x0 2).bind fun v15 =>
  (gI M 11 x0 12).bind fun v16 =>
  (rI M v15 v16).bind fun v17 =>
  if v17 = 24 then
  (some (6, M))
  else
  (if 2 < x1 then
  (f_X11_clause_65 x0 x1 v17 M)
  else
  ((gI M 11 x0 19).bind fun v20 =>
  (pF M 11 x0 19 (.int (v20 ||| (jshl 1 x1)))).bind fun q21 =>
  f_X11_clause_65 x0 x1 v17 q21))
set_option maxHeartbeats 4000000 in
theorem t_X11_clause_29 {X : XV} {d : Nat} (hd : 10 ≤ d + 1) : ∀ (x0 : Nat) (x1 : Int32) (M : Mem) (res : Int32 × Mem), f_X11_clause_29  x0 x1 M = some res → Ex X (d + 1) mX11_clause 29 [(0, .ref x0), (1, .int x1)] [] M (some (.int res.1)) res.2 := by
  intro x0 x1 M res  h
  unfold f_X11_clause_29 at h
  refine ex_aload_n (pc := 29) 0 dX11_clause_29 rfl rfl ?_
  obtain ⟨v15, ev15, h⟩ := ob_some h
  refine ex_gR (pc := 30) ev15 dX11_clause_30 lfX11_16 ?_
  refine ex_aload_n (pc := 33) 0 dX11_clause_33 rfl rfl ?_
  obtain ⟨v16, ev16, h⟩ := ob_some h
  refine ex_gI (pc := 34) ev16 dX11_clause_34 lfX11_164 ?_
  obtain ⟨v17, ev17, h⟩ := ob_some h
  refine ex_rI (pc := 37) ev17 dX11_clause_37 ?_
  refine ex_istore_n (pc := 38) [(2, .int v17), (0, .ref x0), (1, .int x1)] dX11_clause_38 rfl (by decide) rfl ?_
  refine ex_iload_n (pc := 39) 0 dX11_clause_39 rfl rfl ?_
  refine ex_bipush (pc := 40) 24 dX11_clause_40 (by decide) ?_
  by_cases c18 : v17 = 24
  · rw [if_pos c18] at h
    refine ex_icmp_ne_f (pc := 42) dX11_clause_42 48 rfl c18 ?_
    refine ex_bipush (pc := 45) 6 dX11_clause_45 (by decide) ?_
    cases h
    exact ex_ireturn (pc := 47) dX11_clause_47
  · rw [if_neg c18] at h
    refine ex_icmp_ne_t (pc := 42) 48 dX11_clause_42 rfl c18 ?_
    refine ex_iload_n (pc := 48) 2 dX11_clause_48 rfl rfl ?_
    refine ex_iconst (pc := 49) 2 dX11_clause_49 rfl ?_
    by_cases c19 : 2 < x1
    · rw [if_pos c19] at h
      refine ex_icmp_gt_t (pc := 50) 65 dX11_clause_50 rfl c19 ?_
      refine ex_sub (lo' := [(0, .ref x0), (1, .int x1), (2, .int v17)]) [1, 2, 0] rfl ?_
      exact t_X11_clause_65 hd  _ _ _ _ _  h
    · rw [if_neg c19] at h
      refine ex_icmp_gt_f (pc := 50) dX11_clause_50 65 rfl c19 ?_
      refine ex_aload_n (pc := 53) 1 dX11_clause_53 rfl rfl ?_
      refine ex_dup (pc := 54) dX11_clause_54 rfl ?_
      obtain ⟨v20, ev20, h⟩ := ob_some h
      refine ex_gI (pc := 55) ev20 dX11_clause_55 lfX11_266 ?_
      refine ex_iconst (pc := 58) 1 dX11_clause_58 rfl ?_
      refine ex_iload_n (pc := 59) 2 dX11_clause_59 rfl rfl ?_
      refine ex_ishl (pc := 60) dX11_clause_60 ?_
      refine ex_ior (pc := 61) dX11_clause_61 ?_
      obtain ⟨q21, eq21, h⟩ := ob_some h
      refine ex_pF (pc := 62) eq21 dX11_clause_62 lfX11_266 rfl rfl (fun _ hq => by cases hq; rfl) ?_
      refine ex_sub (lo' := [(0, .ref x0), (1, .int x1), (2, .int v17)]) [1, 2, 0] rfl ?_
      exact t_X11_clause_65 hd  _ _ _ _ _  h
noncomputable def f_X11_clause_0 (x0 : Nat) (M : Mem) : Option (Int32 × Mem) :=
  (f_X11_sortOf x0 M).bind fun v22 =>
  if 0 ≤ v22 then
  (if 2 < v22 then
  (f_X11_clause_29 x0 v22 M)
  else
  ((gI M 11 x0 19).bind fun v25 =>
  (f_X11_has v25 v22).bind fun v26 =>
  if v26 = false then
  (f_X11_clause_29 x0 v22 M)
  else
  (some (4, M))))
  else
  (some (1, M))
set_option maxHeartbeats 4000000 in
theorem t_X11_clause_0 {X : XV} {d : Nat} (hd : 10 ≤ d + 1) : ∀ (x0 : Nat) (M : Mem) (res : Int32 × Mem), f_X11_clause_0  x0 M = some res → Ex X (d + 1) mX11_clause 0 [(0, .ref x0)] [] M (some (.int res.1)) res.2 := by
  intro x0 M res  h
  unfold f_X11_clause_0 at h
  refine ex_aload_n (pc := 0) 0 dX11_clause_0 rfl rfl ?_
  obtain ⟨v22, ev22, h⟩ := ob_some h
  refine ex_callV0r (pc := 1) dX11_clause_1 jX11_sortOf lmX11_263 jiX11_sortOf jvX11_sortOf (o_X11_sortOf ev22) rfl (Nat.le_of_ble_eq_true rfl) (s_X11_sortOf (by omega)  ev22) ?_
  refine ex_istore_n (pc := 4) [(1, .int v22), (0, .ref x0)] dX11_clause_4 rfl (by decide) rfl ?_
  refine ex_iload_n (pc := 5) 0 dX11_clause_5 rfl rfl ?_
  by_cases c23 : 0 ≤ v22
  · rw [if_pos c23] at h
    refine ex_if_ge_t (pc := 6) 11 dX11_clause_6 rfl c23 ?_
    refine ex_iload_n (pc := 11) 0 dX11_clause_11 rfl rfl ?_
    refine ex_iconst (pc := 12) 2 dX11_clause_12 rfl ?_
    by_cases c24 : 2 < v22
    · rw [if_pos c24] at h
      refine ex_icmp_gt_t (pc := 13) 29 dX11_clause_13 rfl c24 ?_
      refine ex_sub (lo' := [(0, .ref x0), (1, .int v22)]) [1, 0] rfl ?_
      exact t_X11_clause_29 hd  _ _ _ _  h
    · rw [if_neg c24] at h
      refine ex_icmp_gt_f (pc := 13) dX11_clause_13 29 rfl c24 ?_
      refine ex_aload_n (pc := 16) 1 dX11_clause_16 rfl rfl ?_
      obtain ⟨v25, ev25, h⟩ := ob_some h
      refine ex_gI (pc := 17) ev25 dX11_clause_17 lfX11_266 ?_
      refine ex_iload_n (pc := 20) 0 dX11_clause_20 rfl rfl ?_
      obtain ⟨v26, ev26, h⟩ := ob_some h
      refine ex_callS2r (pc := 21) dX11_clause_21 jX11_has lmX11_269 jsX11_has (Nat.le_of_ble_eq_true rfl) (s_X11_has (by omega)  ev26) ?_
      by_cases c27 : v26 = false
      · rw [if_pos c27] at h
        refine ex_if_eq_t (pc := 24) 29 dX11_clause_24 rfl (jz_eq_t c27) ?_
        refine ex_sub (lo' := [(0, .ref x0), (1, .int v22)]) [1, 0] rfl ?_
        exact t_X11_clause_29 hd  _ _ _ _  h
      · rw [if_neg c27] at h
        refine ex_if_eq_f (pc := 24) dX11_clause_24 29 rfl (jz_eq_f c27) ?_
        refine ex_iconst (pc := 27) 4 dX11_clause_27 rfl ?_
        cases h
        exact ex_ireturn (pc := 28) dX11_clause_28
  · rw [if_neg c23] at h
    refine ex_if_ge_f (pc := 6) dX11_clause_6 11 rfl c23 ?_
    refine ex_iconst (pc := 9) 1 dX11_clause_9 rfl ?_
    cases h
    exact ex_ireturn (pc := 10) dX11_clause_10
noncomputable def f_X11_clause (x0 : Nat) (M : Mem) : Option (Int32 × Mem) := if isOb M 11 x0 = true then f_X11_clause_0 x0 M else none
theorem o_X11_clause {x0 : Nat} {M : Mem} {res : Int32 × Mem} (h : f_X11_clause x0 M = some res) : isO M 11 x0 := by
  unfold f_X11_clause at h
  split at h
  · rename_i hc; exact isOb_iff hc
  · cases h
set_option maxHeartbeats 4000000 in
theorem s_X11_clause {X : XV} {d : Nat} (hd : 10 ≤ d) {x0 : Nat} {M : Mem} {res : Int32 × Mem} (h : f_X11_clause x0 M = some res) : Mx X d mX11_clause [.ref x0] M (some (.int res.1)) res.2 := by
  obtain ⟨d, rfl⟩ : ∃ e, d = e + 1 := ⟨d - 1, by omega⟩
  unfold f_X11_clause at h
  split at h
  rotate_left
  · cases h
  refine Mx.of (by decide) (Nat.le_of_ble_eq_true rfl) (⟨_, rfl, rfl⟩) ?_
  exact ex_sub (lo' := [(0, .ref x0)]) [0] rfl (t_X11_clause_0 hd _ _ _  h)
noncomputable def f_X11_readText_43 (n0 : Nat) (x0 : Nat) (M : Mem) : Option (Int32 × Mem) :=
  match n0 with
  | 0 => none
  | n + 1 =>
    (gI M 11 x0 9).bind fun v1 =>
    if v1 = 0 then
    (some (0, M))
    else
    ((f_X11_clause x0 M).bind fun q3 =>
    if q3.1 = 0 then
    (f_X11_readText_43 n x0 q3.2)
    else
    (some (q3.1, q3.2)))
set_option maxHeartbeats 4000000 in
theorem t_X11_readText_43 {X : XV} {d : Nat} (hd : 11 ≤ d + 1) : ∀ (n : Nat) (x0 : Nat) (M : Mem) (res : Int32 × Mem), f_X11_readText_43 n  x0 M = some res → Ex X (d + 1) mX11_readText 43 [(0, .ref x0)] [] M (some (.int res.1)) res.2 := by
  intro n
  induction n with
  | zero =>
    intro x0 M res  h
    unfold f_X11_readText_43 at h
    cases h
  | succ n ih =>
    intro x0 M res  h
    unfold f_X11_readText_43 at h
    refine ex_aload_n (pc := 43) 0 dX11_readText_43 rfl rfl ?_
    obtain ⟨v1, ev1, h⟩ := ob_some h
    refine ex_gI (pc := 44) ev1 dX11_readText_44 lfX11_126 ?_
    by_cases c2 : v1 = 0
    · rw [if_pos c2] at h
      refine ex_if_eq_t (pc := 47) 64 dX11_readText_47 rfl c2 ?_
      refine ex_iconst (pc := 64) 0 dX11_readText_64 rfl ?_
      cases h
      exact ex_ireturn (pc := 65) dX11_readText_65
    · rw [if_neg c2] at h
      refine ex_if_eq_f (pc := 47) dX11_readText_47 64 rfl c2 ?_
      refine ex_aload_n (pc := 50) 0 dX11_readText_50 rfl rfl ?_
      obtain ⟨q3, eq3, h⟩ := ob_some h
      refine ex_callV0r (pc := 51) dX11_readText_51 jX11_clause lmX11_276 jiX11_clause jvX11_clause (o_X11_clause eq3) rfl (Nat.le_of_ble_eq_true rfl) (s_X11_clause (by omega)  eq3) ?_
      refine ex_istore_n (pc := 54) [(1, .int q3.1), (0, .ref x0)] dX11_readText_54 rfl (by decide) rfl ?_
      refine ex_iload_n (pc := 55) 0 dX11_readText_55 rfl rfl ?_
      by_cases c4 : q3.1 = 0
      · rw [if_pos c4] at h
        refine ex_if_eq_t (pc := 56) 61 dX11_readText_56 rfl c4 ?_
        refine ex_goto (pc := 61) 43 dX11_readText_61 rfl ?_
        refine ex_sub (lo' := [(0, .ref x0)]) [1] rfl ?_
        exact ih _ _ _  h
      · rw [if_neg c4] at h
        refine ex_if_eq_f (pc := 56) dX11_readText_56 61 rfl c4 ?_
        refine ex_iload_n (pc := 59) 0 dX11_readText_59 rfl rfl ?_
        cases h
        exact ex_ireturn (pc := 60) dX11_readText_60
noncomputable def f_X11_readText_0 (x0 : Nat) (M : Mem) : Option (Int32 × Mem) :=
  (gR M 11 x0 0).bind fun v5 =>
  (rI M v5 1).bind fun v6 =>
  (pF M 11 x0 12 (.int (705 * v6))).bind fun q7 =>
  (gR q7 11 x0 2).bind fun v8 =>
  (gI q7 11 x0 12).bind fun v9 =>
  (wI q7 v8 v9 0).bind fun q10 =>
  (pF q10 11 x0 13 (.int 0)).bind fun q11 =>
  (pF q11 11 x0 19 (.int 0)).bind fun q12 =>
  (pF q12 11 x0 7 (.int 0)).bind fun q13 =>
  (f_X11_nextToken x0 q13).bind fun q14 =>
  f_X11_readText_43 fu x0 q14
set_option maxHeartbeats 4000000 in
theorem t_X11_readText_0 {X : XV} {d : Nat} (hd : 11 ≤ d + 1) : ∀ (x0 : Nat) (M : Mem) (res : Int32 × Mem), f_X11_readText_0  x0 M = some res → Ex X (d + 1) mX11_readText 0 [(0, .ref x0)] [] M (some (.int res.1)) res.2 := by
  intro x0 M res  h
  unfold f_X11_readText_0 at h
  refine ex_aload_n (pc := 0) 0 dX11_readText_0 rfl rfl ?_
  refine ex_sipush (pc := 1) 705 dX11_readText_1 (by decide) ?_
  refine ex_aload_n (pc := 4) 0 dX11_readText_4 rfl rfl ?_
  obtain ⟨v5, ev5, h⟩ := ob_some h
  refine ex_gR (pc := 5) ev5 dX11_readText_5 lfX11_7 ?_
  refine ex_iconst (pc := 8) 1 dX11_readText_8 rfl ?_
  obtain ⟨v6, ev6, h⟩ := ob_some h
  refine ex_rI (pc := 9) ev6 dX11_readText_9 ?_
  refine ex_imul (pc := 10) dX11_readText_10 ?_
  obtain ⟨q7, eq7, h⟩ := ob_some h
  refine ex_pF (pc := 11) eq7 dX11_readText_11 lfX11_164 rfl rfl (fun _ hq => by cases hq; rfl) ?_
  refine ex_aload_n (pc := 14) 0 dX11_readText_14 rfl rfl ?_
  obtain ⟨v8, ev8, h⟩ := ob_some h
  refine ex_gR (pc := 15) ev8 dX11_readText_15 lfX11_16 ?_
  refine ex_aload_n (pc := 18) 0 dX11_readText_18 rfl rfl ?_
  obtain ⟨v9, ev9, h⟩ := ob_some h
  refine ex_gI (pc := 19) ev9 dX11_readText_19 lfX11_164 ?_
  refine ex_iconst (pc := 22) 0 dX11_readText_22 rfl ?_
  obtain ⟨q10, eq10, h⟩ := ob_some h
  refine ex_wI (pc := 23) eq10 dX11_readText_23 ?_
  refine ex_aload_n (pc := 24) 0 dX11_readText_24 rfl rfl ?_
  refine ex_iconst (pc := 25) 0 dX11_readText_25 rfl ?_
  obtain ⟨q11, eq11, h⟩ := ob_some h
  refine ex_pF (pc := 26) eq11 dX11_readText_26 lfX11_167 rfl rfl (fun _ hq => by cases hq; rfl) ?_
  refine ex_aload_n (pc := 29) 0 dX11_readText_29 rfl rfl ?_
  refine ex_iconst (pc := 30) 0 dX11_readText_30 rfl ?_
  obtain ⟨q12, eq12, h⟩ := ob_some h
  refine ex_pF (pc := 31) eq12 dX11_readText_31 lfX11_266 rfl rfl (fun _ hq => by cases hq; rfl) ?_
  refine ex_aload_n (pc := 34) 0 dX11_readText_34 rfl rfl ?_
  refine ex_iconst (pc := 35) 0 dX11_readText_35 rfl ?_
  obtain ⟨q13, eq13, h⟩ := ob_some h
  refine ex_pF (pc := 36) eq13 dX11_readText_36 lfX11_117 rfl rfl (fun _ hq => by cases hq; rfl) ?_
  refine ex_aload_n (pc := 39) 0 dX11_readText_39 rfl rfl ?_
  obtain ⟨q14, eq14, h⟩ := ob_some h
  refine ex_callV0v (pc := 40) dX11_readText_40 jX11_nextToken lmX11_193 jiX11_nextToken jvX11_nextToken (o_X11_nextToken eq14) rfl (Nat.le_of_ble_eq_true rfl) (s_X11_nextToken (by omega)  eq14) ?_
  refine ex_sub (lo' := [(0, .ref x0)]) [0] rfl ?_
  exact t_X11_readText_43 hd  _ _ _ _  h
noncomputable def f_X11_readText (x0 : Nat) (M : Mem) : Option (Int32 × Mem) := if isOb M 11 x0 = true then f_X11_readText_0 x0 M else none
theorem o_X11_readText {x0 : Nat} {M : Mem} {res : Int32 × Mem} (h : f_X11_readText x0 M = some res) : isO M 11 x0 := by
  unfold f_X11_readText at h
  split at h
  · rename_i hc; exact isOb_iff hc
  · cases h
set_option maxHeartbeats 4000000 in
theorem s_X11_readText {X : XV} {d : Nat} (hd : 11 ≤ d) {x0 : Nat} {M : Mem} {res : Int32 × Mem} (h : f_X11_readText x0 M = some res) : Mx X d mX11_readText [.ref x0] M (some (.int res.1)) res.2 := by
  obtain ⟨d, rfl⟩ : ∃ e, d = e + 1 := ⟨d - 1, by omega⟩
  unfold f_X11_readText at h
  split at h
  rotate_left
  · cases h
  refine Mx.of (by decide) (Nat.le_of_ble_eq_true rfl) (⟨_, rfl, rfl⟩) ?_
  exact ex_sub (lo' := [(0, .ref x0)]) [0] rfl (t_X11_readText_0 hd _ _ _  h)
noncomputable def f_X11_text_36 (x0 : Nat) (s0 : Int32) (s1 : Nat) (M : Mem) : Option (Int32 × Mem) :=
  (pF M 11 s1 6 (.int s0)).bind fun q1 =>
  (pF q1 11 x0 4 (.int 0)).bind fun q2 =>
  (gI q2 11 x0 5).bind fun v3 =>
  if v3 = 0 then
  ((gR q2 11 x0 0).bind fun v5 =>
  (rI q2 v5 1).bind fun v6 =>
  (wI q2 v5 1 (v6 + 1)).bind fun q7 =>
  (gR q7 11 x0 0).bind fun v8 =>
  (rI q7 v8 1).bind fun v9 =>
  some ((v9 - 1), q7))
  else
  (some ((-1), q2))
set_option maxHeartbeats 4000000 in
theorem t_X11_text_36 {X : XV} {d : Nat} (hd : 12 ≤ d + 1) : ∀ (x0 : Nat) (s0 : Int32) (s1 : Nat) (M : Mem) (res : Int32 × Mem), f_X11_text_36  x0 s0 s1 M = some res → Ex X (d + 1) mX11_text 36 [(0, .ref x0)] [.int s0, .ref s1] M (some (.int res.1)) res.2 := by
  intro x0 s0 s1 M res  h
  unfold f_X11_text_36 at h
  obtain ⟨q1, eq1, h⟩ := ob_some h
  refine ex_pF (pc := 36) eq1 dX11_text_36 lfX11_26 rfl rfl (fun _ hq => by cases hq; rfl) ?_
  refine ex_aload_n (pc := 39) 0 dX11_text_39 rfl rfl ?_
  refine ex_iconst (pc := 40) 0 dX11_text_40 rfl ?_
  obtain ⟨q2, eq2, h⟩ := ob_some h
  refine ex_pF (pc := 41) eq2 dX11_text_41 lfX11_111 rfl rfl (fun _ hq => by cases hq; rfl) ?_
  refine ex_aload_n (pc := 44) 0 dX11_text_44 rfl rfl ?_
  obtain ⟨v3, ev3, h⟩ := ob_some h
  refine ex_gI (pc := 45) ev3 dX11_text_45 lfX11_22 ?_
  by_cases c4 : v3 = 0
  · rw [if_pos c4] at h
    refine ex_if_eq_t (pc := 48) 53 dX11_text_48 rfl c4 ?_
    refine ex_aload_n (pc := 53) 0 dX11_text_53 rfl rfl ?_
    obtain ⟨v5, ev5, h⟩ := ob_some h
    refine ex_gR (pc := 54) ev5 dX11_text_54 lfX11_7 ?_
    refine ex_iconst (pc := 57) 1 dX11_text_57 rfl ?_
    refine ex_dup2 (pc := 58) dX11_text_58 rfl rfl ?_
    obtain ⟨v6, ev6, h⟩ := ob_some h
    refine ex_rI (pc := 59) ev6 dX11_text_59 ?_
    refine ex_iconst (pc := 60) 1 dX11_text_60 rfl ?_
    refine ex_iadd (pc := 61) dX11_text_61 ?_
    obtain ⟨q7, eq7, h⟩ := ob_some h
    refine ex_wI (pc := 62) eq7 dX11_text_62 ?_
    refine ex_aload_n (pc := 63) 0 dX11_text_63 rfl rfl ?_
    obtain ⟨v8, ev8, h⟩ := ob_some h
    refine ex_gR (pc := 64) ev8 dX11_text_64 lfX11_7 ?_
    refine ex_iconst (pc := 67) 1 dX11_text_67 rfl ?_
    obtain ⟨v9, ev9, h⟩ := ob_some h
    refine ex_rI (pc := 68) ev9 dX11_text_68 ?_
    refine ex_iconst (pc := 69) 1 dX11_text_69 rfl ?_
    refine ex_isub (pc := 70) dX11_text_70 ?_
    cases h
    exact ex_ireturn (pc := 71) dX11_text_71
  · rw [if_neg c4] at h
    refine ex_if_eq_f (pc := 48) dX11_text_48 53 rfl c4 ?_
    refine ex_iconst (pc := 51) (-1) dX11_text_51 rfl ?_
    cases h
    exact ex_ireturn (pc := 52) dX11_text_52
noncomputable def f_X11_text_0 (x0 : Nat) (M : Mem) : Option (Int32 × Mem) :=
  (gR M 11 x0 0).bind fun v10 =>
  (rI M v10 1).bind fun v11 =>
  if v11 = 4 then
  (some ((-1), M))
  else
  ((f_X11_readText x0 M).bind fun q13 =>
  (pF q13.2 11 x0 5 (.int q13.1)).bind fun q14 =>
  (gI q14 11 x0 5).bind fun v15 =>
  if v15 = 0 then
  (f_X11_text_36 x0 (-1) x0 q14)
  else
  ((gI q14 11 x0 8).bind fun v17 =>
  f_X11_text_36 x0 v17 x0 q14))
set_option maxHeartbeats 4000000 in
theorem t_X11_text_0 {X : XV} {d : Nat} (hd : 12 ≤ d + 1) : ∀ (x0 : Nat) (M : Mem) (res : Int32 × Mem), f_X11_text_0  x0 M = some res → Ex X (d + 1) mX11_text 0 [(0, .ref x0)] [] M (some (.int res.1)) res.2 := by
  intro x0 M res  h
  unfold f_X11_text_0 at h
  refine ex_aload_n (pc := 0) 0 dX11_text_0 rfl rfl ?_
  obtain ⟨v10, ev10, h⟩ := ob_some h
  refine ex_gR (pc := 1) ev10 dX11_text_1 lfX11_7 ?_
  refine ex_iconst (pc := 4) 1 dX11_text_4 rfl ?_
  obtain ⟨v11, ev11, h⟩ := ob_some h
  refine ex_rI (pc := 5) ev11 dX11_text_5 ?_
  refine ex_iconst (pc := 6) 4 dX11_text_6 rfl ?_
  by_cases c12 : v11 = 4
  · rw [if_pos c12] at h
    refine ex_icmp_ne_f (pc := 7) dX11_text_7 12 rfl c12 ?_
    refine ex_iconst (pc := 10) (-1) dX11_text_10 rfl ?_
    cases h
    exact ex_ireturn (pc := 11) dX11_text_11
  · rw [if_neg c12] at h
    refine ex_icmp_ne_t (pc := 7) 12 dX11_text_7 rfl c12 ?_
    refine ex_aload_n (pc := 12) 0 dX11_text_12 rfl rfl ?_
    refine ex_aload_n (pc := 13) 0 dX11_text_13 rfl rfl ?_
    obtain ⟨q13, eq13, h⟩ := ob_some h
    refine ex_callV0r (pc := 14) dX11_text_14 jX11_readText lmX11_279 jiX11_readText jvX11_readText (o_X11_readText eq13) rfl (Nat.le_of_ble_eq_true rfl) (s_X11_readText (by omega)  eq13) ?_
    obtain ⟨q14, eq14, h⟩ := ob_some h
    refine ex_pF (pc := 17) eq14 dX11_text_17 lfX11_22 rfl rfl (fun _ hq => by cases hq; rfl) ?_
    refine ex_aload_n (pc := 20) 0 dX11_text_20 rfl rfl ?_
    refine ex_aload_n (pc := 21) 0 dX11_text_21 rfl rfl ?_
    obtain ⟨v15, ev15, h⟩ := ob_some h
    refine ex_gI (pc := 22) ev15 dX11_text_22 lfX11_22 ?_
    by_cases c16 : v15 = 0
    · rw [if_pos c16] at h
      refine ex_if_ne_f (pc := 25) dX11_text_25 32 rfl c16 ?_
      refine ex_iconst (pc := 28) (-1) dX11_text_28 rfl ?_
      refine ex_goto (pc := 29) 36 dX11_text_29 rfl ?_
      refine ex_sub (lo' := [(0, .ref x0)]) [0] rfl ?_
      exact t_X11_text_36 hd  _ _ _ _ _  h
    · rw [if_neg c16] at h
      refine ex_if_ne_t (pc := 25) 32 dX11_text_25 rfl c16 ?_
      refine ex_aload_n (pc := 32) 0 dX11_text_32 rfl rfl ?_
      obtain ⟨v17, ev17, h⟩ := ob_some h
      refine ex_gI (pc := 33) ev17 dX11_text_33 lfX11_123 ?_
      refine ex_sub (lo' := [(0, .ref x0)]) [0] rfl ?_
      exact t_X11_text_36 hd  _ _ _ _ _  h
noncomputable def f_X11_text (x0 : Nat) (M : Mem) : Option (Int32 × Mem) := if isOb M 11 x0 = true then f_X11_text_0 x0 M else none
theorem o_X11_text {x0 : Nat} {M : Mem} {res : Int32 × Mem} (h : f_X11_text x0 M = some res) : isO M 11 x0 := by
  unfold f_X11_text at h
  split at h
  · rename_i hc; exact isOb_iff hc
  · cases h
set_option maxHeartbeats 4000000 in
theorem s_X11_text {X : XV} {d : Nat} (hd : 12 ≤ d) {x0 : Nat} {M : Mem} {res : Int32 × Mem} (h : f_X11_text x0 M = some res) : Mx X d mX11_text [.ref x0] M (some (.int res.1)) res.2 := by
  obtain ⟨d, rfl⟩ : ∃ e, d = e + 1 := ⟨d - 1, by omega⟩
  unfold f_X11_text at h
  split at h
  rotate_left
  · cases h
  refine Mx.of (by decide) (Nat.le_of_ble_eq_true rfl) (⟨_, rfl, rfl⟩) ?_
  exact ex_sub (lo' := [(0, .ref x0)]) [0] rfl (t_X11_text_0 hd _ _ _  h)
noncomputable def f_X11_fault_0 (x0 : Nat) (x1 : Int32) (M : Mem) : Option (Int32) :=
  if x1 = 0 then
  ((gI M 11 x0 5).bind fun v4 =>
  some v4)
  else
  (if x1 = 1 then
  ((gI M 11 x0 6).bind fun v3 =>
  some v3)
  else
  (some (-1)))
set_option maxHeartbeats 4000000 in
theorem t_X11_fault_0 {X : XV} {d : Nat} (hd : 1 ≤ d + 1) : ∀ (x0 : Nat) (x1 : Int32) (M : Mem) (res : Int32), f_X11_fault_0  x0 x1 M = some res → Ex X (d + 1) mX11_fault 0 [(0, .ref x0), (1, .int x1)] [] M (some (.int res)) M := by
  intro x0 x1 M res  h
  unfold f_X11_fault_0 at h
  refine ex_iload_n (pc := 0) 1 dX11_fault_0 rfl rfl ?_
  by_cases c1 : x1 = 0
  · rw [if_pos c1] at h
    refine ex_if_ne_f (pc := 1) dX11_fault_1 11 rfl c1 ?_
    refine ex_aload_n (pc := 4) 0 dX11_fault_4 rfl rfl ?_
    obtain ⟨v4, ev4, h⟩ := ob_some h
    refine ex_gI (pc := 5) ev4 dX11_fault_5 lfX11_22 ?_
    refine ex_goto (pc := 8) 24 dX11_fault_8 rfl ?_
    cases h
    exact ex_ireturn (pc := 24) dX11_fault_24
  · rw [if_neg c1] at h
    refine ex_if_ne_t (pc := 1) 11 dX11_fault_1 rfl c1 ?_
    refine ex_iload_n (pc := 11) 1 dX11_fault_11 rfl rfl ?_
    refine ex_iconst (pc := 12) 1 dX11_fault_12 rfl ?_
    by_cases c2 : x1 = 1
    · rw [if_pos c2] at h
      refine ex_icmp_ne_f (pc := 13) dX11_fault_13 23 rfl c2 ?_
      refine ex_aload_n (pc := 16) 0 dX11_fault_16 rfl rfl ?_
      obtain ⟨v3, ev3, h⟩ := ob_some h
      refine ex_gI (pc := 17) ev3 dX11_fault_17 lfX11_26 ?_
      refine ex_goto (pc := 20) 24 dX11_fault_20 rfl ?_
      cases h
      exact ex_ireturn (pc := 24) dX11_fault_24
    · rw [if_neg c2] at h
      refine ex_icmp_ne_t (pc := 13) 23 dX11_fault_13 rfl c2 ?_
      refine ex_iconst (pc := 23) (-1) dX11_fault_23 rfl ?_
      cases h
      exact ex_ireturn (pc := 24) dX11_fault_24
noncomputable def f_X11_fault (x0 : Nat) (x1 : Int32) (M : Mem) : Option (Int32) := if isOb M 11 x0 = true then f_X11_fault_0 x0 x1 M else none
theorem o_X11_fault {x0 : Nat} {x1 : Int32} {M : Mem} {res : Int32} (h : f_X11_fault x0 x1 M = some res) : isO M 11 x0 := by
  unfold f_X11_fault at h
  split at h
  · rename_i hc; exact isOb_iff hc
  · cases h
set_option maxHeartbeats 4000000 in
theorem s_X11_fault {X : XV} {d : Nat} (hd : 1 ≤ d) {x0 : Nat} {x1 : Int32} {M : Mem} {res : Int32} (h : f_X11_fault x0 x1 M = some res) : Mx X d mX11_fault [.ref x0, .int x1] M (some (.int res)) M := by
  obtain ⟨d, rfl⟩ : ∃ e, d = e + 1 := ⟨d - 1, by omega⟩
  unfold f_X11_fault at h
  split at h
  rotate_left
  · cases h
  refine Mx.of (by decide) (Nat.le_of_ble_eq_true rfl) (⟨_, rfl, rfl⟩) ?_
  exact ex_sub (lo' := [(0, .ref x0), (1, .int x1)]) [0, 1] rfl (t_X11_fault_0 hd _ _ _ _  h)
noncomputable def f_X11_by_0 (x0 : Nat) (x1 : Int32) (M : Mem) : Option (Bool × Mem) :=
  (gR M 11 x0 0).bind fun v1 =>
  (rI M v1 1).bind fun v2 =>
  (f_X11_isIn x1 (-1) (v2 - 1)).bind fun v3 =>
  if v3 = true then
  ((gR M 11 x0 0).bind fun v5 =>
  (wI M v5 2 x1).bind fun q6 =>
  some (true, q6))
  else
  (some (false, M))
set_option maxHeartbeats 4000000 in
theorem t_X11_by_0 {X : XV} {d : Nat} (hd : 2 ≤ d + 1) : ∀ (x0 : Nat) (x1 : Int32) (M : Mem) (res : Bool × Mem), f_X11_by_0  x0 x1 M = some res → Ex X (d + 1) mX11_by 0 [(0, .ref x0), (1, .int x1)] [] M (some (.int (jz res.1))) res.2 := by
  intro x0 x1 M res  h
  unfold f_X11_by_0 at h
  refine ex_iload_n (pc := 0) 1 dX11_by_0 rfl rfl ?_
  refine ex_iconst (pc := 1) (-1) dX11_by_1 rfl ?_
  refine ex_aload_n (pc := 2) 0 dX11_by_2 rfl rfl ?_
  obtain ⟨v1, ev1, h⟩ := ob_some h
  refine ex_gR (pc := 3) ev1 dX11_by_3 lfX11_7 ?_
  refine ex_iconst (pc := 6) 1 dX11_by_6 rfl ?_
  obtain ⟨v2, ev2, h⟩ := ob_some h
  refine ex_rI (pc := 7) ev2 dX11_by_7 ?_
  refine ex_iconst (pc := 8) 1 dX11_by_8 rfl ?_
  refine ex_isub (pc := 9) dX11_by_9 ?_
  obtain ⟨v3, ev3, h⟩ := ob_some h
  refine ex_callS3r (pc := 10) dX11_by_10 jX11_isIn lmX11_87 jsX11_isIn (Nat.le_of_ble_eq_true rfl) (s_X11_isIn (by omega)  ev3) ?_
  by_cases c4 : v3 = true
  · rw [if_pos c4] at h
    refine ex_if_ne_t (pc := 13) 18 dX11_by_13 rfl (jz_ne_t c4) ?_
    refine ex_aload_n (pc := 18) 0 dX11_by_18 rfl rfl ?_
    obtain ⟨v5, ev5, h⟩ := ob_some h
    refine ex_gR (pc := 19) ev5 dX11_by_19 lfX11_7 ?_
    refine ex_iconst (pc := 22) 2 dX11_by_22 rfl ?_
    refine ex_iload_n (pc := 23) 1 dX11_by_23 rfl rfl ?_
    obtain ⟨q6, eq6, h⟩ := ob_some h
    refine ex_wI (pc := 24) eq6 dX11_by_24 ?_
    refine ex_iconst (pc := 25) 1 dX11_by_25 rfl ?_
    cases h
    exact ex_ireturn (pc := 26) dX11_by_26
  · rw [if_neg c4] at h
    refine ex_if_ne_f (pc := 13) dX11_by_13 18 rfl (jz_ne_f c4) ?_
    refine ex_iconst (pc := 16) 0 dX11_by_16 rfl ?_
    cases h
    exact ex_ireturn (pc := 17) dX11_by_17
noncomputable def f_X11_by (x0 : Nat) (x1 : Int32) (M : Mem) : Option (Bool × Mem) := if isOb M 11 x0 = true then f_X11_by_0 x0 x1 M else none
theorem o_X11_by {x0 : Nat} {x1 : Int32} {M : Mem} {res : Bool × Mem} (h : f_X11_by x0 x1 M = some res) : isO M 11 x0 := by
  unfold f_X11_by at h
  split at h
  · rename_i hc; exact isOb_iff hc
  · cases h
set_option maxHeartbeats 4000000 in
theorem s_X11_by {X : XV} {d : Nat} (hd : 2 ≤ d) {x0 : Nat} {x1 : Int32} {M : Mem} {res : Bool × Mem} (h : f_X11_by x0 x1 M = some res) : Mx X d mX11_by [.ref x0, .int x1] M (some (.int (jz res.1))) res.2 := by
  obtain ⟨d, rfl⟩ : ∃ e, d = e + 1 := ⟨d - 1, by omega⟩
  unfold f_X11_by at h
  split at h
  rotate_left
  · cases h
  refine Mx.of (by decide) (Nat.le_of_ble_eq_true rfl) (⟨_, rfl, jz_nar _⟩) ?_
  exact ex_sub (lo' := [(0, .ref x0), (1, .int x1)]) [0, 1] rfl (t_X11_by_0 hd _ _ _ _  h)
noncomputable def f_X11_clip_0 (x0 : Int64) : Option (Int64) :=
  if (lg_cmp x0 1000000) ≤ 0 then
  (if 0 ≤ (lg_cmp x0 (-1000000)) then
  (some x0)
  else
  (some (-1000000)))
  else
  (some 1000000)
set_option maxHeartbeats 4000000 in
theorem t_X11_clip_0 {X : XV} {d : Nat} {M : Mem} (hd : 1 ≤ d + 1) : ∀ (x0 : Int64) (res : Int64), f_X11_clip_0  x0 = some res → Ex X (d + 1) mX11_clip 0 [(0, .long x0)] [] M (some (.long res)) M := by
  intro x0 res  h
  unfold f_X11_clip_0 at h
  refine ex_lload_n (pc := 0) 0 dX11_clip_0 rfl rfl ?_
  refine ex_ldc2 (pc := 1) dX11_clip_1 lkX11_282 ?_
  refine ex_lcmp (pc := 4) dX11_clip_4 ?_
  by_cases c1 : (lg_cmp x0 1000000) ≤ 0
  · rw [if_pos c1] at h
    refine ex_if_le_t (pc := 5) 14 dX11_clip_5 rfl c1 ?_
    refine ex_lload_n (pc := 14) 0 dX11_clip_14 rfl rfl ?_
    refine ex_ldc2 (pc := 15) dX11_clip_15 lkX11_284 ?_
    refine ex_lcmp (pc := 18) dX11_clip_18 ?_
    by_cases c2 : 0 ≤ (lg_cmp x0 (-1000000))
    · rw [if_pos c2] at h
      refine ex_if_ge_t (pc := 19) 28 dX11_clip_19 rfl c2 ?_
      refine ex_lload_n (pc := 28) 0 dX11_clip_28 rfl rfl ?_
      cases h
      exact ex_lreturn (pc := 29) dX11_clip_29
    · rw [if_neg c2] at h
      refine ex_if_ge_f (pc := 19) dX11_clip_19 28 rfl c2 ?_
      refine ex_ldc2 (pc := 22) dX11_clip_22 lkX11_284 ?_
      refine ex_goto (pc := 25) 29 dX11_clip_25 rfl ?_
      cases h
      exact ex_lreturn (pc := 29) dX11_clip_29
  · rw [if_neg c1] at h
    refine ex_if_le_f (pc := 5) dX11_clip_5 14 rfl c1 ?_
    refine ex_ldc2 (pc := 8) dX11_clip_8 lkX11_282 ?_
    refine ex_goto (pc := 11) 29 dX11_clip_11 rfl ?_
    cases h
    exact ex_lreturn (pc := 29) dX11_clip_29
noncomputable def f_X11_clip (x0 : Int64) : Option (Int64) := f_X11_clip_0 x0
set_option maxHeartbeats 4000000 in
theorem s_X11_clip {X : XV} {d : Nat} (hd : 1 ≤ d) {x0 : Int64} {M : Mem} {res : Int64} (h : f_X11_clip x0 = some res) : Mx X d mX11_clip [.long x0] M (some (.long res)) M := by
  obtain ⟨d, rfl⟩ : ∃ e, d = e + 1 := ⟨d - 1, by omega⟩
  unfold f_X11_clip at h
  refine Mx.of (by decide) (Nat.le_of_ble_eq_true rfl) (rfl) ?_
  exact ex_sub (lo' := [(0, .long x0)]) [0] rfl (t_X11_clip_0 hd _ _  h)
noncomputable def f_X11_two_0 (x0 : Int32) (x1 : Int64) (x3 : Int64) : Option (Int64) :=
  if x0 = 6 then
  ((f_X11_clip (x1 + x3)).bind fun v2 =>
  some v2)
  else
  (if x0 = 7 then
  ((f_X11_clip (x1 - x3)).bind fun v4 =>
  some v4)
  else
  (if x0 = 8 then
  ((f_X11_clip (x1 * x3)).bind fun v6 =>
  some v6)
  else
  (if (lg_cmp x3 0) = 0 then
  (some 0)
  else
  ((dvL x1 x3).bind fun v8 =>
  (f_X11_clip v8).bind fun v9 =>
  some v9))))
set_option maxHeartbeats 4000000 in
theorem t_X11_two_0 {X : XV} {d : Nat} {M : Mem} (hd : 2 ≤ d + 1) : ∀ (x0 : Int32) (x1 : Int64) (x3 : Int64) (res : Int64), f_X11_two_0  x0 x1 x3 = some res → Ex X (d + 1) mX11_two 0 [(0, .int x0), (1, .long x1), (3, .long x3)] [] M (some (.long res)) M := by
  intro x0 x1 x3 res  h
  unfold f_X11_two_0 at h
  refine ex_iload_n (pc := 0) 0 dX11_two_0 rfl rfl ?_
  by_cases c1 : x0 = 6
  · rw [if_pos c1] at h
    refine ex_tabIn (pc := 1) 28 dX11_two_1 (by rw [c1]; decide) (by rw [c1]; decide) (by rw [c1]; rfl) rfl ?_
    refine ex_lload_n (pc := 28) 1 dX11_two_28 rfl rfl ?_
    refine ex_lload_n (pc := 29) 2 dX11_two_29 rfl rfl ?_
    refine ex_ladd (pc := 30) dX11_two_30 ?_
    obtain ⟨v2, ev2, h⟩ := ob_some h
    refine ex_callS1r (pc := 31) dX11_two_31 jX11_clip lmX11_286 jsX11_clip (Nat.le_of_ble_eq_true rfl) (s_X11_clip (by omega)  ev2) ?_
    cases h
    exact ex_lreturn (pc := 34) dX11_two_34
  · rw [if_neg c1] at h
    by_cases c3 : x0 = 7
    · rw [if_pos c3] at h
      refine ex_tabIn (pc := 1) 35 dX11_two_1 (by rw [c3]; decide) (by rw [c3]; decide) (by rw [c3]; rfl) rfl ?_
      refine ex_lload_n (pc := 35) 1 dX11_two_35 rfl rfl ?_
      refine ex_lload_n (pc := 36) 2 dX11_two_36 rfl rfl ?_
      refine ex_lsub (pc := 37) dX11_two_37 ?_
      obtain ⟨v4, ev4, h⟩ := ob_some h
      refine ex_callS1r (pc := 38) dX11_two_38 jX11_clip lmX11_286 jsX11_clip (Nat.le_of_ble_eq_true rfl) (s_X11_clip (by omega)  ev4) ?_
      cases h
      exact ex_lreturn (pc := 41) dX11_two_41
    · rw [if_neg c3] at h
      by_cases c5 : x0 = 8
      · rw [if_pos c5] at h
        refine ex_tabIn (pc := 1) 42 dX11_two_1 (by rw [c5]; decide) (by rw [c5]; decide) (by rw [c5]; rfl) rfl ?_
        refine ex_lload_n (pc := 42) 1 dX11_two_42 rfl rfl ?_
        refine ex_lload_n (pc := 43) 2 dX11_two_43 rfl rfl ?_
        refine ex_lmul (pc := 44) dX11_two_44 ?_
        obtain ⟨v6, ev6, h⟩ := ob_some h
        refine ex_callS1r (pc := 45) dX11_two_45 jX11_clip lmX11_286 jsX11_clip (Nat.le_of_ble_eq_true rfl) (s_X11_clip (by omega)  ev6) ?_
        cases h
        exact ex_lreturn (pc := 48) dX11_two_48
      · rw [if_neg c5] at h
        have zc1 : ¬ (x0).toInt = 6 := fun e9 => c1 (i32_of e9 (by decide))
        have zc3 : ¬ (x0).toInt = 7 := fun e9 => c3 (i32_of e9 (by decide))
        have zc5 : ¬ (x0).toInt = 8 := fun e9 => c5 (i32_of e9 (by decide))
        refine ex_tabOut (pc := 1) 49 dX11_two_1 (by omega) rfl ?_
        refine ex_lload_n (pc := 49) 2 dX11_two_49 rfl rfl ?_
        refine ex_lconst (pc := 50) 0 dX11_two_50 rfl ?_
        refine ex_lcmp (pc := 51) dX11_two_51 ?_
        by_cases c7 : (lg_cmp x3 0) = 0
        · rw [if_pos c7] at h
          refine ex_if_ne_f (pc := 52) dX11_two_52 59 rfl c7 ?_
          refine ex_lconst (pc := 55) 0 dX11_two_55 rfl ?_
          refine ex_goto (pc := 56) 65 dX11_two_56 rfl ?_
          cases h
          exact ex_lreturn (pc := 65) dX11_two_65
        · rw [if_neg c7] at h
          refine ex_if_ne_t (pc := 52) 59 dX11_two_52 rfl c7 ?_
          refine ex_lload_n (pc := 59) 1 dX11_two_59 rfl rfl ?_
          refine ex_lload_n (pc := 60) 2 dX11_two_60 rfl rfl ?_
          obtain ⟨v8, ev8, h⟩ := ob_some h
          refine ex_ldivq (pc := 61) ev8 dX11_two_61 ?_
          obtain ⟨v9, ev9, h⟩ := ob_some h
          refine ex_callS1r (pc := 62) dX11_two_62 jX11_clip lmX11_286 jsX11_clip (Nat.le_of_ble_eq_true rfl) (s_X11_clip (by omega)  ev9) ?_
          cases h
          exact ex_lreturn (pc := 65) dX11_two_65
noncomputable def f_X11_two (x0 : Int32) (x1 : Int64) (x3 : Int64) : Option (Int64) := f_X11_two_0 x0 x1 x3
set_option maxHeartbeats 4000000 in
theorem s_X11_two {X : XV} {d : Nat} (hd : 2 ≤ d) {x0 : Int32} {x1 : Int64} {x3 : Int64} {M : Mem} {res : Int64} (h : f_X11_two x0 x1 x3 = some res) : Mx X d mX11_two [.int x0, .long x1, .long x3] M (some (.long res)) M := by
  obtain ⟨d, rfl⟩ : ∃ e, d = e + 1 := ⟨d - 1, by omega⟩
  unfold f_X11_two at h
  refine Mx.of (by decide) (Nat.le_of_ble_eq_true rfl) (rfl) ?_
  exact ex_sub (lo' := [(0, .int x0), (1, .long x1), (3, .long x3)]) [0, 1, 2] rfl (t_X11_two_0 hd _ _ _ _  h)
noncomputable def f_X11_isAsked_0 (x0 : Int32) (x1 : Int64) (x3 : Int64) : Option (Bool) :=
  if x0 = 10 then
  (if 0 ≤ (lg_cmp x1 x3) then
  (some false)
  else
  (some true))
  else
  (if x0 = 11 then
  (if 0 < (lg_cmp x1 x3) then
  (some false)
  else
  (some true))
  else
  (if x0 = 12 then
  (if (lg_cmp x1 x3) ≤ 0 then
  (some false)
  else
  (some true))
  else
  (if x0 = 13 then
  (if (lg_cmp x1 x3) < 0 then
  (some false)
  else
  (some true))
  else
  (if x0 = 14 then
  (if (lg_cmp x1 x3) = 0 then
  (some true)
  else
  (some false))
  else
  (if (lg_cmp x1 x3) = 0 then
  (some false)
  else
  (some true))))))
set_option maxHeartbeats 4000000 in
theorem t_X11_isAsked_0 {X : XV} {d : Nat} {M : Mem} (hd : 1 ≤ d + 1) : ∀ (x0 : Int32) (x1 : Int64) (x3 : Int64) (res : Bool), f_X11_isAsked_0  x0 x1 x3 = some res → Ex X (d + 1) mX11_isAsked 0 [(0, .int x0), (1, .long x1), (3, .long x3)] [] M (some (.int (jz res))) M := by
  intro x0 x1 x3 res  h
  unfold f_X11_isAsked_0 at h
  refine ex_iload_n (pc := 0) 0 dX11_isAsked_0 rfl rfl ?_
  refine ex_bipush (pc := 1) 10 dX11_isAsked_1 (by decide) ?_
  by_cases c1 : x0 = 10
  · rw [if_pos c1] at h
    refine ex_icmp_ne_f (pc := 3) dX11_isAsked_3 20 rfl c1 ?_
    refine ex_lload_n (pc := 6) 1 dX11_isAsked_6 rfl rfl ?_
    refine ex_lload_n (pc := 7) 2 dX11_isAsked_7 rfl rfl ?_
    refine ex_lcmp (pc := 8) dX11_isAsked_8 ?_
    by_cases c11 : 0 ≤ (lg_cmp x1 x3)
    · rw [if_pos c11] at h
      refine ex_if_ge_t (pc := 9) 16 dX11_isAsked_9 rfl c11 ?_
      refine ex_iconst (pc := 16) 0 dX11_isAsked_16 rfl ?_
      refine ex_goto (pc := 17) 111 dX11_isAsked_17 rfl ?_
      cases h
      exact ex_ireturn (pc := 111) dX11_isAsked_111
    · rw [if_neg c11] at h
      refine ex_if_ge_f (pc := 9) dX11_isAsked_9 16 rfl c11 ?_
      refine ex_iconst (pc := 12) 1 dX11_isAsked_12 rfl ?_
      refine ex_goto (pc := 13) 111 dX11_isAsked_13 rfl ?_
      cases h
      exact ex_ireturn (pc := 111) dX11_isAsked_111
  · rw [if_neg c1] at h
    refine ex_icmp_ne_t (pc := 3) 20 dX11_isAsked_3 rfl c1 ?_
    refine ex_iload_n (pc := 20) 0 dX11_isAsked_20 rfl rfl ?_
    refine ex_bipush (pc := 21) 11 dX11_isAsked_21 (by decide) ?_
    by_cases c2 : x0 = 11
    · rw [if_pos c2] at h
      refine ex_icmp_ne_f (pc := 23) dX11_isAsked_23 40 rfl c2 ?_
      refine ex_lload_n (pc := 26) 1 dX11_isAsked_26 rfl rfl ?_
      refine ex_lload_n (pc := 27) 2 dX11_isAsked_27 rfl rfl ?_
      refine ex_lcmp (pc := 28) dX11_isAsked_28 ?_
      by_cases c10 : 0 < (lg_cmp x1 x3)
      · rw [if_pos c10] at h
        refine ex_if_gt_t (pc := 29) 36 dX11_isAsked_29 rfl c10 ?_
        refine ex_iconst (pc := 36) 0 dX11_isAsked_36 rfl ?_
        refine ex_goto (pc := 37) 111 dX11_isAsked_37 rfl ?_
        cases h
        exact ex_ireturn (pc := 111) dX11_isAsked_111
      · rw [if_neg c10] at h
        refine ex_if_gt_f (pc := 29) dX11_isAsked_29 36 rfl c10 ?_
        refine ex_iconst (pc := 32) 1 dX11_isAsked_32 rfl ?_
        refine ex_goto (pc := 33) 111 dX11_isAsked_33 rfl ?_
        cases h
        exact ex_ireturn (pc := 111) dX11_isAsked_111
    · rw [if_neg c2] at h
      refine ex_icmp_ne_t (pc := 23) 40 dX11_isAsked_23 rfl c2 ?_
      refine ex_iload_n (pc := 40) 0 dX11_isAsked_40 rfl rfl ?_
      refine ex_bipush (pc := 41) 12 dX11_isAsked_41 (by decide) ?_
      by_cases c3 : x0 = 12
      · rw [if_pos c3] at h
        refine ex_icmp_ne_f (pc := 43) dX11_isAsked_43 60 rfl c3 ?_
        refine ex_lload_n (pc := 46) 1 dX11_isAsked_46 rfl rfl ?_
        refine ex_lload_n (pc := 47) 2 dX11_isAsked_47 rfl rfl ?_
        refine ex_lcmp (pc := 48) dX11_isAsked_48 ?_
        by_cases c9 : (lg_cmp x1 x3) ≤ 0
        · rw [if_pos c9] at h
          refine ex_if_le_t (pc := 49) 56 dX11_isAsked_49 rfl c9 ?_
          refine ex_iconst (pc := 56) 0 dX11_isAsked_56 rfl ?_
          refine ex_goto (pc := 57) 111 dX11_isAsked_57 rfl ?_
          cases h
          exact ex_ireturn (pc := 111) dX11_isAsked_111
        · rw [if_neg c9] at h
          refine ex_if_le_f (pc := 49) dX11_isAsked_49 56 rfl c9 ?_
          refine ex_iconst (pc := 52) 1 dX11_isAsked_52 rfl ?_
          refine ex_goto (pc := 53) 111 dX11_isAsked_53 rfl ?_
          cases h
          exact ex_ireturn (pc := 111) dX11_isAsked_111
      · rw [if_neg c3] at h
        refine ex_icmp_ne_t (pc := 43) 60 dX11_isAsked_43 rfl c3 ?_
        refine ex_iload_n (pc := 60) 0 dX11_isAsked_60 rfl rfl ?_
        refine ex_bipush (pc := 61) 13 dX11_isAsked_61 (by decide) ?_
        by_cases c4 : x0 = 13
        · rw [if_pos c4] at h
          refine ex_icmp_ne_f (pc := 63) dX11_isAsked_63 80 rfl c4 ?_
          refine ex_lload_n (pc := 66) 1 dX11_isAsked_66 rfl rfl ?_
          refine ex_lload_n (pc := 67) 2 dX11_isAsked_67 rfl rfl ?_
          refine ex_lcmp (pc := 68) dX11_isAsked_68 ?_
          by_cases c8 : (lg_cmp x1 x3) < 0
          · rw [if_pos c8] at h
            refine ex_if_lt_t (pc := 69) 76 dX11_isAsked_69 rfl c8 ?_
            refine ex_iconst (pc := 76) 0 dX11_isAsked_76 rfl ?_
            refine ex_goto (pc := 77) 111 dX11_isAsked_77 rfl ?_
            cases h
            exact ex_ireturn (pc := 111) dX11_isAsked_111
          · rw [if_neg c8] at h
            refine ex_if_lt_f (pc := 69) dX11_isAsked_69 76 rfl c8 ?_
            refine ex_iconst (pc := 72) 1 dX11_isAsked_72 rfl ?_
            refine ex_goto (pc := 73) 111 dX11_isAsked_73 rfl ?_
            cases h
            exact ex_ireturn (pc := 111) dX11_isAsked_111
        · rw [if_neg c4] at h
          refine ex_icmp_ne_t (pc := 63) 80 dX11_isAsked_63 rfl c4 ?_
          refine ex_iload_n (pc := 80) 0 dX11_isAsked_80 rfl rfl ?_
          refine ex_bipush (pc := 81) 14 dX11_isAsked_81 (by decide) ?_
          by_cases c5 : x0 = 14
          · rw [if_pos c5] at h
            refine ex_icmp_ne_f (pc := 83) dX11_isAsked_83 100 rfl c5 ?_
            refine ex_lload_n (pc := 86) 1 dX11_isAsked_86 rfl rfl ?_
            refine ex_lload_n (pc := 87) 2 dX11_isAsked_87 rfl rfl ?_
            refine ex_lcmp (pc := 88) dX11_isAsked_88 ?_
            by_cases c7 : (lg_cmp x1 x3) = 0
            · rw [if_pos c7] at h
              refine ex_if_ne_f (pc := 89) dX11_isAsked_89 96 rfl c7 ?_
              refine ex_iconst (pc := 92) 1 dX11_isAsked_92 rfl ?_
              refine ex_goto (pc := 93) 111 dX11_isAsked_93 rfl ?_
              cases h
              exact ex_ireturn (pc := 111) dX11_isAsked_111
            · rw [if_neg c7] at h
              refine ex_if_ne_t (pc := 89) 96 dX11_isAsked_89 rfl c7 ?_
              refine ex_iconst (pc := 96) 0 dX11_isAsked_96 rfl ?_
              refine ex_goto (pc := 97) 111 dX11_isAsked_97 rfl ?_
              cases h
              exact ex_ireturn (pc := 111) dX11_isAsked_111
          · rw [if_neg c5] at h
            refine ex_icmp_ne_t (pc := 83) 100 dX11_isAsked_83 rfl c5 ?_
            refine ex_lload_n (pc := 100) 1 dX11_isAsked_100 rfl rfl ?_
            refine ex_lload_n (pc := 101) 2 dX11_isAsked_101 rfl rfl ?_
            refine ex_lcmp (pc := 102) dX11_isAsked_102 ?_
            by_cases c6 : (lg_cmp x1 x3) = 0
            · rw [if_pos c6] at h
              refine ex_if_eq_t (pc := 103) 110 dX11_isAsked_103 rfl c6 ?_
              refine ex_iconst (pc := 110) 0 dX11_isAsked_110 rfl ?_
              cases h
              exact ex_ireturn (pc := 111) dX11_isAsked_111
            · rw [if_neg c6] at h
              refine ex_if_eq_f (pc := 103) dX11_isAsked_103 110 rfl c6 ?_
              refine ex_iconst (pc := 106) 1 dX11_isAsked_106 rfl ?_
              refine ex_goto (pc := 107) 111 dX11_isAsked_107 rfl ?_
              cases h
              exact ex_ireturn (pc := 111) dX11_isAsked_111
noncomputable def f_X11_isAsked (x0 : Int32) (x1 : Int64) (x3 : Int64) : Option (Bool) := f_X11_isAsked_0 x0 x1 x3
set_option maxHeartbeats 4000000 in
theorem s_X11_isAsked {X : XV} {d : Nat} (hd : 1 ≤ d) {x0 : Int32} {x1 : Int64} {x3 : Int64} {M : Mem} {res : Bool} (h : f_X11_isAsked x0 x1 x3 = some res) : Mx X d mX11_isAsked [.int x0, .long x1, .long x3] M (some (.int (jz res))) M := by
  obtain ⟨d, rfl⟩ : ∃ e, d = e + 1 := ⟨d - 1, by omega⟩
  unfold f_X11_isAsked at h
  refine Mx.of (by decide) (Nat.le_of_ble_eq_true rfl) (⟨_, rfl, jz_nar _⟩) ?_
  exact ex_sub (lo' := [(0, .int x0), (1, .long x1), (3, .long x3)]) [0, 1, 2] rfl (t_X11_isAsked_0 hd _ _ _ _  h)
noncomputable def f_X11_digitsOf_16 (n0 : Nat) (x2 : Int64) (x4 : Int64) : Option (Int64) :=
  match n0 with
  | 0 => none
  | n + 1 =>
    if (lg_cmp x4 0) ≤ 0 then
    (some x2)
    else
    (f_X11_digitsOf_16 n (x2 + (jremL x4 10)) (x4 / 10))
set_option maxHeartbeats 4000000 in
theorem t_X11_digitsOf_16 {X : XV} {d : Nat} {M : Mem} (hd : 1 ≤ d + 1) : ∀ (n : Nat) (x2 : Int64) (x4 : Int64) (res : Int64), f_X11_digitsOf_16 n  x2 x4 = some res → Ex X (d + 1) mX11_digitsOf 16 [(2, .long x2), (4, .long x4)] [] M (some (.long res)) M := by
  intro n
  induction n with
  | zero =>
    intro x2 x4 res  h
    unfold f_X11_digitsOf_16 at h
    cases h
  | succ n ih =>
    intro x2 x4 res  h
    unfold f_X11_digitsOf_16 at h
    refine ex_lload (pc := 16) 1 dX11_digitsOf_16 rfl ?_
    refine ex_lconst (pc := 18) 0 dX11_digitsOf_18 rfl ?_
    refine ex_lcmp (pc := 19) dX11_digitsOf_19 ?_
    by_cases c1 : (lg_cmp x4 0) ≤ 0
    · rw [if_pos c1] at h
      refine ex_if_le_t (pc := 20) 43 dX11_digitsOf_20 rfl c1 ?_
      refine ex_lload_n (pc := 43) 0 dX11_digitsOf_43 rfl rfl ?_
      cases h
      exact ex_lreturn (pc := 44) dX11_digitsOf_44
    · rw [if_neg c1] at h
      refine ex_if_le_f (pc := 20) dX11_digitsOf_20 43 rfl c1 ?_
      refine ex_lload_n (pc := 23) 0 dX11_digitsOf_23 rfl rfl ?_
      refine ex_lload (pc := 24) 1 dX11_digitsOf_24 rfl ?_
      refine ex_ldc2 (pc := 26) dX11_digitsOf_26 lkX11_290 ?_
      refine ex_lrem (pc := 29) dX11_digitsOf_29 (by decide) ?_
      refine ex_ladd (pc := 30) dX11_digitsOf_30 ?_
      refine ex_lstore_n (pc := 31) [(2, .long (x2 + (jremL x4 10))), (4, .long x4)] dX11_digitsOf_31 rfl (by decide) rfl ?_
      refine ex_lload (pc := 32) 1 dX11_digitsOf_32 rfl ?_
      refine ex_ldc2 (pc := 34) dX11_digitsOf_34 lkX11_290 ?_
      refine ex_ldiv (pc := 37) dX11_digitsOf_37 (by decide) ?_
      refine ex_lstore (pc := 38) [(4, .long (x4 / 10)), (2, .long (x2 + (jremL x4 10)))] dX11_digitsOf_38 (by decide) rfl ?_
      refine ex_goto (pc := 40) 16 dX11_digitsOf_40 rfl ?_
      refine ex_sub (lo' := [(2, .long (x2 + (jremL x4 10))), (4, .long (x4 / 10))]) [1, 0] rfl ?_
      exact ih _ _ _  h
noncomputable def f_X11_digitsOf_14 (x2 : Int64) (s0 : Int64) : Option (Int64) :=
  f_X11_digitsOf_16 fu x2 s0
set_option maxHeartbeats 4000000 in
theorem t_X11_digitsOf_14 {X : XV} {d : Nat} {M : Mem} (hd : 1 ≤ d + 1) : ∀ (x2 : Int64) (s0 : Int64) (res : Int64), f_X11_digitsOf_14  x2 s0 = some res → Ex X (d + 1) mX11_digitsOf 14 [(2, .long x2)] [.long s0] M (some (.long res)) M := by
  intro x2 s0 res  h
  unfold f_X11_digitsOf_14 at h
  refine ex_lstore (pc := 14) [(4, .long s0), (2, .long x2)] dX11_digitsOf_14 (by decide) rfl ?_
  refine ex_sub (lo' := [(2, .long x2), (4, .long s0)]) [1, 0] rfl ?_
  exact t_X11_digitsOf_16 hd  _ _ _ _  h
noncomputable def f_X11_digitsOf_0 (x0 : Int64) : Option (Int64) :=
  if 0 ≤ (lg_cmp x0 0) then
  (f_X11_digitsOf_14 0 x0)
  else
  (f_X11_digitsOf_14 0 (-x0))
set_option maxHeartbeats 4000000 in
theorem t_X11_digitsOf_0 {X : XV} {d : Nat} {M : Mem} (hd : 1 ≤ d + 1) : ∀ (x0 : Int64) (res : Int64), f_X11_digitsOf_0  x0 = some res → Ex X (d + 1) mX11_digitsOf 0 [(0, .long x0)] [] M (some (.long res)) M := by
  intro x0 res  h
  unfold f_X11_digitsOf_0 at h
  refine ex_lconst (pc := 0) 0 dX11_digitsOf_0 rfl ?_
  refine ex_lstore_n (pc := 1) [(2, .long 0), (0, .long x0)] dX11_digitsOf_1 rfl (by decide) rfl ?_
  refine ex_lload_n (pc := 2) 1 dX11_digitsOf_2 rfl rfl ?_
  refine ex_lconst (pc := 3) 0 dX11_digitsOf_3 rfl ?_
  refine ex_lcmp (pc := 4) dX11_digitsOf_4 ?_
  by_cases c2 : 0 ≤ (lg_cmp x0 0)
  · rw [if_pos c2] at h
    refine ex_if_ge_t (pc := 5) 13 dX11_digitsOf_5 rfl c2 ?_
    refine ex_lload_n (pc := 13) 1 dX11_digitsOf_13 rfl rfl ?_
    refine ex_sub (lo' := [(2, .long 0)]) [0] rfl ?_
    exact t_X11_digitsOf_14 hd  _ _ _  h
  · rw [if_neg c2] at h
    refine ex_if_ge_f (pc := 5) dX11_digitsOf_5 13 rfl c2 ?_
    refine ex_lload_n (pc := 8) 1 dX11_digitsOf_8 rfl rfl ?_
    refine ex_lneg (pc := 9) dX11_digitsOf_9 ?_
    refine ex_goto (pc := 10) 14 dX11_digitsOf_10 rfl ?_
    refine ex_sub (lo' := [(2, .long 0)]) [0] rfl ?_
    exact t_X11_digitsOf_14 hd  _ _ _  h
noncomputable def f_X11_digitsOf (x0 : Int64) : Option (Int64) := f_X11_digitsOf_0 x0
set_option maxHeartbeats 4000000 in
theorem s_X11_digitsOf {X : XV} {d : Nat} (hd : 1 ≤ d) {x0 : Int64} {M : Mem} {res : Int64} (h : f_X11_digitsOf x0 = some res) : Mx X d mX11_digitsOf [.long x0] M (some (.long res)) M := by
  obtain ⟨d, rfl⟩ : ∃ e, d = e + 1 := ⟨d - 1, by omega⟩
  unfold f_X11_digitsOf at h
  refine Mx.of (by decide) (Nat.le_of_ble_eq_true rfl) (rfl) ?_
  exact ex_sub (lo' := [(0, .long x0)]) [0] rfl (t_X11_digitsOf_0 hd _ _  h)
noncomputable def f_X11_sumsOf_0 (x0 : Nat) (x1 : Int64) (M : Mem) : Option (Int64) :=
  if (lg_cmp x1 0) < 0 then
  (some 0)
  else
  ((gR M 11 x0 0).bind fun v2 =>
  (rI M v2 0).bind fun v3 =>
  if 0 ≤ (lg_cmp x1 (Int32.toInt64 v3)) then
  (some 0)
  else
  ((f_X11_get x0 (Int64.toInt32 x1) 2 M).bind fun v5 =>
  some (Int32.toInt64 v5)))
set_option maxHeartbeats 4000000 in
theorem t_X11_sumsOf_0 {X : XV} {d : Nat} (hd : 2 ≤ d + 1) : ∀ (x0 : Nat) (x1 : Int64) (M : Mem) (res : Int64), f_X11_sumsOf_0  x0 x1 M = some res → Ex X (d + 1) mX11_sumsOf 0 [(0, .ref x0), (1, .long x1)] [] M (some (.long res)) M := by
  intro x0 x1 M res  h
  unfold f_X11_sumsOf_0 at h
  refine ex_lload_n (pc := 0) 1 dX11_sumsOf_0 rfl rfl ?_
  refine ex_lconst (pc := 1) 0 dX11_sumsOf_1 rfl ?_
  refine ex_lcmp (pc := 2) dX11_sumsOf_2 ?_
  by_cases c1 : (lg_cmp x1 0) < 0
  · rw [if_pos c1] at h
    refine ex_if_lt_t (pc := 3) 29 dX11_sumsOf_3 rfl c1 ?_
    refine ex_lconst (pc := 29) 0 dX11_sumsOf_29 rfl ?_
    cases h
    exact ex_lreturn (pc := 30) dX11_sumsOf_30
  · rw [if_neg c1] at h
    refine ex_if_lt_f (pc := 3) dX11_sumsOf_3 29 rfl c1 ?_
    refine ex_lload_n (pc := 6) 1 dX11_sumsOf_6 rfl rfl ?_
    refine ex_aload_n (pc := 7) 0 dX11_sumsOf_7 rfl rfl ?_
    obtain ⟨v2, ev2, h⟩ := ob_some h
    refine ex_gR (pc := 8) ev2 dX11_sumsOf_8 lfX11_7 ?_
    refine ex_iconst (pc := 11) 0 dX11_sumsOf_11 rfl ?_
    obtain ⟨v3, ev3, h⟩ := ob_some h
    refine ex_rI (pc := 12) ev3 dX11_sumsOf_12 ?_
    refine ex_i2l (pc := 13) dX11_sumsOf_13 ?_
    refine ex_lcmp (pc := 14) dX11_sumsOf_14 ?_
    by_cases c4 : 0 ≤ (lg_cmp x1 (Int32.toInt64 v3))
    · rw [if_pos c4] at h
      refine ex_if_ge_t (pc := 15) 29 dX11_sumsOf_15 rfl c4 ?_
      refine ex_lconst (pc := 29) 0 dX11_sumsOf_29 rfl ?_
      cases h
      exact ex_lreturn (pc := 30) dX11_sumsOf_30
    · rw [if_neg c4] at h
      refine ex_if_ge_f (pc := 15) dX11_sumsOf_15 29 rfl c4 ?_
      refine ex_aload_n (pc := 18) 0 dX11_sumsOf_18 rfl rfl ?_
      refine ex_lload_n (pc := 19) 1 dX11_sumsOf_19 rfl rfl ?_
      refine ex_l2i (pc := 20) dX11_sumsOf_20 ?_
      refine ex_iconst (pc := 21) 2 dX11_sumsOf_21 rfl ?_
      obtain ⟨v5, ev5, h⟩ := ob_some h
      refine ex_callV2r (pc := 22) dX11_sumsOf_22 jX11_get lmX11_107 jiX11_get jvX11_get (o_X11_get ev5) rfl (Nat.le_of_ble_eq_true rfl) (s_X11_get (by omega)  ev5) ?_
      refine ex_i2l (pc := 25) dX11_sumsOf_25 ?_
      refine ex_goto (pc := 26) 30 dX11_sumsOf_26 rfl ?_
      cases h
      exact ex_lreturn (pc := 30) dX11_sumsOf_30
noncomputable def f_X11_sumsOf (x0 : Nat) (x1 : Int64) (M : Mem) : Option (Int64) := if isOb M 11 x0 = true then f_X11_sumsOf_0 x0 x1 M else none
theorem o_X11_sumsOf {x0 : Nat} {x1 : Int64} {M : Mem} {res : Int64} (h : f_X11_sumsOf x0 x1 M = some res) : isO M 11 x0 := by
  unfold f_X11_sumsOf at h
  split at h
  · rename_i hc; exact isOb_iff hc
  · cases h
set_option maxHeartbeats 4000000 in
theorem s_X11_sumsOf {X : XV} {d : Nat} (hd : 2 ≤ d) {x0 : Nat} {x1 : Int64} {M : Mem} {res : Int64} (h : f_X11_sumsOf x0 x1 M = some res) : Mx X d mX11_sumsOf [.ref x0, .long x1] M (some (.long res)) M := by
  obtain ⟨d, rfl⟩ : ∃ e, d = e + 1 := ⟨d - 1, by omega⟩
  unfold f_X11_sumsOf at h
  split at h
  rotate_left
  · cases h
  refine Mx.of (by decide) (Nat.le_of_ble_eq_true rfl) (rfl) ?_
  exact ex_sub (lo' := [(0, .ref x0), (1, .long x1)]) [0, 1] rfl (t_X11_sumsOf_0 hd _ _ _ _  h)
noncomputable def f_X11_joined_0 (x0 : Int32) (x1 : Bool) (x2 : Bool) : Option (Bool) :=
  if x0 = 21 then
  (if x1 = false then
  (some false)
  else
  (if x2 = false then
  (some false)
  else
  (some true)))
  else
  (if x1 = true then
  (some true)
  else
  (if x2 = false then
  (some false)
  else
  (some true)))
set_option maxHeartbeats 4000000 in
theorem t_X11_joined_0 {X : XV} {d : Nat} {M : Mem} (hd : 1 ≤ d + 1) : ∀ (x0 : Int32) (x1 : Bool) (x2 : Bool) (res : Bool), f_X11_joined_0  x0 x1 x2 = some res → Ex X (d + 1) mX11_joined 0 [(0, .int x0), (1, .int (jz x1)), (2, .int (jz x2))] [] M (some (.int (jz res))) M := by
  intro x0 x1 x2 res  h
  unfold f_X11_joined_0 at h
  refine ex_iload_n (pc := 0) 0 dX11_joined_0 rfl rfl ?_
  refine ex_bipush (pc := 1) 21 dX11_joined_1 (by decide) ?_
  by_cases c1 : x0 = 21
  · rw [if_pos c1] at h
    refine ex_icmp_ne_f (pc := 3) dX11_joined_3 22 rfl c1 ?_
    refine ex_iload_n (pc := 6) 1 dX11_joined_6 rfl rfl ?_
    by_cases c4 : x1 = false
    · rw [if_pos c4] at h
      refine ex_if_eq_t (pc := 7) 18 dX11_joined_7 rfl (jz_eq_t c4) ?_
      refine ex_iconst (pc := 18) 0 dX11_joined_18 rfl ?_
      refine ex_goto (pc := 19) 35 dX11_joined_19 rfl ?_
      cases h
      exact ex_ireturn (pc := 35) dX11_joined_35
    · rw [if_neg c4] at h
      refine ex_if_eq_f (pc := 7) dX11_joined_7 18 rfl (jz_eq_f c4) ?_
      refine ex_iload_n (pc := 10) 2 dX11_joined_10 rfl rfl ?_
      by_cases c5 : x2 = false
      · rw [if_pos c5] at h
        refine ex_if_eq_t (pc := 11) 18 dX11_joined_11 rfl (jz_eq_t c5) ?_
        refine ex_iconst (pc := 18) 0 dX11_joined_18 rfl ?_
        refine ex_goto (pc := 19) 35 dX11_joined_19 rfl ?_
        cases h
        exact ex_ireturn (pc := 35) dX11_joined_35
      · rw [if_neg c5] at h
        refine ex_if_eq_f (pc := 11) dX11_joined_11 18 rfl (jz_eq_f c5) ?_
        refine ex_iconst (pc := 14) 1 dX11_joined_14 rfl ?_
        refine ex_goto (pc := 15) 35 dX11_joined_15 rfl ?_
        cases h
        exact ex_ireturn (pc := 35) dX11_joined_35
  · rw [if_neg c1] at h
    refine ex_icmp_ne_t (pc := 3) 22 dX11_joined_3 rfl c1 ?_
    refine ex_iload_n (pc := 22) 1 dX11_joined_22 rfl rfl ?_
    by_cases c2 : x1 = true
    · rw [if_pos c2] at h
      refine ex_if_ne_t (pc := 23) 30 dX11_joined_23 rfl (jz_ne_t c2) ?_
      refine ex_iconst (pc := 30) 1 dX11_joined_30 rfl ?_
      refine ex_goto (pc := 31) 35 dX11_joined_31 rfl ?_
      cases h
      exact ex_ireturn (pc := 35) dX11_joined_35
    · rw [if_neg c2] at h
      refine ex_if_ne_f (pc := 23) dX11_joined_23 30 rfl (jz_ne_f c2) ?_
      refine ex_iload_n (pc := 26) 2 dX11_joined_26 rfl rfl ?_
      by_cases c3 : x2 = false
      · rw [if_pos c3] at h
        refine ex_if_eq_t (pc := 27) 34 dX11_joined_27 rfl (jz_eq_t c3) ?_
        refine ex_iconst (pc := 34) 0 dX11_joined_34 rfl ?_
        cases h
        exact ex_ireturn (pc := 35) dX11_joined_35
      · rw [if_neg c3] at h
        refine ex_if_eq_f (pc := 27) dX11_joined_27 34 rfl (jz_eq_f c3) ?_
        refine ex_iconst (pc := 30) 1 dX11_joined_30 rfl ?_
        refine ex_goto (pc := 31) 35 dX11_joined_31 rfl ?_
        cases h
        exact ex_ireturn (pc := 35) dX11_joined_35
noncomputable def f_X11_joined (x0 : Int32) (x1 : Bool) (x2 : Bool) : Option (Bool) := f_X11_joined_0 x0 x1 x2
set_option maxHeartbeats 4000000 in
theorem s_X11_joined {X : XV} {d : Nat} (hd : 1 ≤ d) {x0 : Int32} {x1 : Bool} {x2 : Bool} {M : Mem} {res : Bool} (h : f_X11_joined x0 x1 x2 = some res) : Mx X d mX11_joined [.int x0, .int (jz x1), .int (jz x2)] M (some (.int (jz res))) M := by
  obtain ⟨d, rfl⟩ : ∃ e, d = e + 1 := ⟨d - 1, by omega⟩
  unfold f_X11_joined at h
  refine Mx.of (by decide) (Nat.le_of_ble_eq_true rfl) (⟨_, rfl, jz_nar _⟩) ?_
  exact ex_sub (lo' := [(0, .int x0), (1, .int (jz x1)), (2, .int (jz x2))]) [0, 1, 2] rfl (t_X11_joined_0 hd _ _ _ _  h)
noncomputable def f_X11_summedUp_38 (n0 : Nat) (x0 : Nat) (x3 : Int32) (x4 : Int32) (x5 : Int32) (x6 : Int32) (x7 : Int32) (M : Mem) : Option (Int64 × Mem) :=
  match n0 with
  | 0 => none
  | n + 1 =>
    (gR M 11 x0 2).bind fun v1 =>
    (rI M v1 (x3 + 2)).bind fun v2 =>
    if v2 ≤ x7 then
    ((gR M 11 x0 21).bind fun v4 =>
    (rL M v4 0).bind fun v5 =>
    some (v5, M))
    else
    ((gR M 11 x0 2).bind fun v6 =>
    (rI M v6 (x4 + (2 * x7))).bind fun v7 =>
    (gR M 11 x0 2).bind fun v8 =>
    (rI M v8 ((x4 + (2 * x7)) + 1)).bind fun v9 =>
    if 1 < v7 then
    (if v7 = 4 then
    ((gR M 11 x0 22).bind fun v57 =>
    (rZb M v57 (x6 + (-1))).bind fun v58 =>
    if v58 = true then
    (f_X11_summedUp_38 n x0 x3 x4 (x5 + (-1)) (x6 + (-1)) (x7 + 1) M)
    else
    ((gR M 11 x0 21).bind fun v60 =>
    (gR M 11 x0 21).bind fun v61 =>
    (rL M v61 (x5 + (-1))).bind fun v62 =>
    (wL M v60 ((x5 + (-1)) - 1) v62).bind fun q63 =>
    f_X11_summedUp_38 n x0 x3 x4 (x5 + (-1)) (x6 + (-1)) (x7 + 1) q63))
    else
    (if 5 < v7 then
    (if 10 ≤ v7 then
    (if 20 ≤ v7 then
    (if v7 = 20 then
    ((gR M 11 x0 22).bind fun v23 =>
    (gR M 11 x0 22).bind fun v24 =>
    (rZb M v24 (x6 - 1)).bind fun v25 =>
    if v25 = true then
    ((wZ M v23 (x6 - 1) (jz false)).bind fun q27 =>
    f_X11_summedUp_38 n x0 x3 x4 x5 x6 (x7 + 1) q27)
    else
    ((wZ M v23 (x6 - 1) (jz true)).bind fun q28 =>
    f_X11_summedUp_38 n x0 x3 x4 x5 x6 (x7 + 1) q28))
    else
    ((gR M 11 x0 22).bind fun v16 =>
    (gR M 11 x0 22).bind fun v17 =>
    (rZb M v17 ((x6 + (-1)) - 1)).bind fun v18 =>
    (gR M 11 x0 22).bind fun v19 =>
    (rZb M v19 (x6 + (-1))).bind fun v20 =>
    (f_X11_joined v7 v18 v20).bind fun v21 =>
    (wZ M v16 ((x6 + (-1)) - 1) (jz v21)).bind fun q22 =>
    f_X11_summedUp_38 n x0 x3 x4 x5 (x6 + (-1)) (x7 + 1) q22))
    else
    ((gR M 11 x0 22).bind fun v29 =>
    (gR M 11 x0 21).bind fun v30 =>
    (rL M v30 (x5 + (-2))).bind fun v31 =>
    (gR M 11 x0 21).bind fun v32 =>
    (rL M v32 ((x5 + (-2)) + 1)).bind fun v33 =>
    (f_X11_isAsked v7 v31 v33).bind fun v34 =>
    (wZ M v29 x6 (jz v34)).bind fun q35 =>
    f_X11_summedUp_38 n x0 x3 x4 (x5 + (-2)) (x6 + 1) (x7 + 1) q35))
    else
    ((gR M 11 x0 21).bind fun v36 =>
    (gR M 11 x0 21).bind fun v37 =>
    (rL M v37 ((x5 + (-1)) - 1)).bind fun v38 =>
    (gR M 11 x0 21).bind fun v39 =>
    (rL M v39 (x5 + (-1))).bind fun v40 =>
    (f_X11_two v7 v38 v40).bind fun v41 =>
    (wL M v36 ((x5 + (-1)) - 1) v41).bind fun q42 =>
    f_X11_summedUp_38 n x0 x3 x4 (x5 + (-1)) x6 (x7 + 1) q42))
    else
    ((gR M 11 x0 21).bind fun v43 =>
    if v7 = 5 then
    ((gR M 11 x0 21).bind fun v54 =>
    (rL M v54 (x5 - 1)).bind fun v55 =>
    (wL M v43 (x5 - 1) (-v55)).bind fun q56 =>
    f_X11_summedUp_38 n x0 x3 x4 x5 x6 (x7 + 1) q56)
    else
    (if v7 = 3 then
    ((gR M 11 x0 21).bind fun v50 =>
    (rL M v50 (x5 - 1)).bind fun v51 =>
    (f_X11_sumsOf x0 v51 M).bind fun v52 =>
    (wL M v43 (x5 - 1) v52).bind fun q53 =>
    f_X11_summedUp_38 n x0 x3 x4 x5 x6 (x7 + 1) q53)
    else
    ((gR M 11 x0 21).bind fun v46 =>
    (rL M v46 (x5 - 1)).bind fun v47 =>
    (f_X11_digitsOf v47).bind fun v48 =>
    (wL M v43 (x5 - 1) v48).bind fun q49 =>
    f_X11_summedUp_38 n x0 x3 x4 x5 x6 (x7 + 1) q49)))))
    else
    ((gR M 11 x0 21).bind fun v64 =>
    if v7 = 0 then
    ((wL M v64 x5 (Int32.toInt64 v9)).bind fun q69 =>
    f_X11_summedUp_38 n x0 x3 x4 (x5 + 1) x6 (x7 + 1) q69)
    else
    ((gR M 11 x0 20).bind fun v66 =>
    (rI M v66 v9).bind fun v67 =>
    (wL M v64 x5 (Int32.toInt64 v67)).bind fun q68 =>
    f_X11_summedUp_38 n x0 x3 x4 (x5 + 1) x6 (x7 + 1) q68)))
set_option maxHeartbeats 4000000 in
theorem t_X11_summedUp_38 {X : XV} {d : Nat} (hd : 3 ≤ d + 1) : ∀ (n : Nat) (x0 : Nat) (x3 : Int32) (x4 : Int32) (x5 : Int32) (x6 : Int32) (x7 : Int32) (M : Mem) (res : Int64 × Mem), f_X11_summedUp_38 n  x0 x3 x4 x5 x6 x7 M = some res → Ex X (d + 1) mX11_summedUp 38 [(0, .ref x0), (3, .int x3), (4, .int x4), (5, .int x5), (6, .int x6), (7, .int x7)] [] M (some (.long res.1)) res.2 := by
  intro n
  induction n with
  | zero =>
    intro x0 x3 x4 x5 x6 x7 M res  h
    unfold f_X11_summedUp_38 at h
    cases h
  | succ n ih =>
    intro x0 x3 x4 x5 x6 x7 M res  h
    unfold f_X11_summedUp_38 at h
    refine ex_iload (pc := 38) 5 dX11_summedUp_38 rfl ?_
    refine ex_aload_n (pc := 40) 0 dX11_summedUp_40 rfl rfl ?_
    obtain ⟨v1, ev1, h⟩ := ob_some h
    refine ex_gR (pc := 41) ev1 dX11_summedUp_41 lfX11_16 ?_
    refine ex_iload_n (pc := 44) 1 dX11_summedUp_44 rfl rfl ?_
    refine ex_iconst (pc := 45) 2 dX11_summedUp_45 rfl ?_
    refine ex_iadd (pc := 46) dX11_summedUp_46 ?_
    obtain ⟨v2, ev2, h⟩ := ob_some h
    refine ex_rI (pc := 47) ev2 dX11_summedUp_47 ?_
    by_cases c3 : v2 ≤ x7
    · rw [if_pos c3] at h
      refine ex_icmp_ge_t (pc := 48) 393 dX11_summedUp_48 rfl c3 ?_
      refine ex_aload_n (pc := 393) 0 dX11_summedUp_393 rfl rfl ?_
      obtain ⟨v4, ev4, h⟩ := ob_some h
      refine ex_gR (pc := 394) ev4 dX11_summedUp_394 lfX11_35 ?_
      refine ex_iconst (pc := 397) 0 dX11_summedUp_397 rfl ?_
      obtain ⟨v5, ev5, h⟩ := ob_some h
      refine ex_rL (pc := 398) ev5 dX11_summedUp_398 ?_
      cases h
      exact ex_lreturn (pc := 399) dX11_summedUp_399
    · rw [if_neg c3] at h
      refine ex_icmp_ge_f (pc := 48) dX11_summedUp_48 393 rfl c3 ?_
      refine ex_aload_n (pc := 51) 0 dX11_summedUp_51 rfl rfl ?_
      obtain ⟨v6, ev6, h⟩ := ob_some h
      refine ex_gR (pc := 52) ev6 dX11_summedUp_52 lfX11_16 ?_
      refine ex_iload (pc := 55) 2 dX11_summedUp_55 rfl ?_
      refine ex_iconst (pc := 57) 2 dX11_summedUp_57 rfl ?_
      refine ex_iload (pc := 58) 5 dX11_summedUp_58 rfl ?_
      refine ex_imul (pc := 60) dX11_summedUp_60 ?_
      refine ex_iadd (pc := 61) dX11_summedUp_61 ?_
      obtain ⟨v7, ev7, h⟩ := ob_some h
      refine ex_rI (pc := 62) ev7 dX11_summedUp_62 ?_
      refine ex_istore (pc := 63) [(8, .int v7), (0, .ref x0), (3, .int x3), (4, .int x4), (5, .int x5), (6, .int x6), (7, .int x7)] dX11_summedUp_63 (by decide) rfl ?_
      refine ex_aload_n (pc := 65) 1 dX11_summedUp_65 rfl rfl ?_
      obtain ⟨v8, ev8, h⟩ := ob_some h
      refine ex_gR (pc := 66) ev8 dX11_summedUp_66 lfX11_16 ?_
      refine ex_iload (pc := 69) 3 dX11_summedUp_69 rfl ?_
      refine ex_iconst (pc := 71) 2 dX11_summedUp_71 rfl ?_
      refine ex_iload (pc := 72) 6 dX11_summedUp_72 rfl ?_
      refine ex_imul (pc := 74) dX11_summedUp_74 ?_
      refine ex_iadd (pc := 75) dX11_summedUp_75 ?_
      refine ex_iconst (pc := 76) 1 dX11_summedUp_76 rfl ?_
      refine ex_iadd (pc := 77) dX11_summedUp_77 ?_
      obtain ⟨v9, ev9, h⟩ := ob_some h
      refine ex_rI (pc := 78) ev9 dX11_summedUp_78 ?_
      refine ex_istore (pc := 79) [(9, .int v9), (8, .int v7), (0, .ref x0), (3, .int x3), (4, .int x4), (5, .int x5), (6, .int x6), (7, .int x7)] dX11_summedUp_79 (by decide) rfl ?_
      refine ex_iload (pc := 81) 1 dX11_summedUp_81 rfl ?_
      refine ex_iconst (pc := 83) 1 dX11_summedUp_83 rfl ?_
      by_cases c10 : 1 < v7
      · rw [if_pos c10] at h
        refine ex_icmp_gt_t (pc := 84) 119 dX11_summedUp_84 rfl c10 ?_
        refine ex_iload (pc := 119) 1 dX11_summedUp_119 rfl ?_
        refine ex_iconst (pc := 121) 4 dX11_summedUp_121 rfl ?_
        by_cases c11 : v7 = 4
        · rw [if_pos c11] at h
          refine ex_icmp_ne_f (pc := 122) dX11_summedUp_122 160 rfl c11 ?_
          refine ex_iinc (pc := 125) (x5 + (-1)) 5 [(5, .int (x5 + (-1))), (9, .int v9), (8, .int v7), (0, .ref x0), (3, .int x3), (4, .int x4), (6, .int x6), (7, .int x7)] dX11_summedUp_125 rfl rfl (by decide) rfl ?_
          refine ex_iinc (pc := 128) (x6 + (-1)) 6 [(6, .int (x6 + (-1))), (5, .int (x5 + (-1))), (9, .int v9), (8, .int v7), (0, .ref x0), (3, .int x3), (4, .int x4), (7, .int x7)] dX11_summedUp_128 rfl rfl (by decide) rfl ?_
          refine ex_aload_n (pc := 131) 4 dX11_summedUp_131 rfl rfl ?_
          obtain ⟨v57, ev57, h⟩ := ob_some h
          refine ex_gR (pc := 132) ev57 dX11_summedUp_132 lfX11_39 ?_
          refine ex_iload (pc := 135) 0 dX11_summedUp_135 rfl ?_
          obtain ⟨v58, ev58, h⟩ := ob_some h
          refine ex_rZb (pc := 137) ev58 dX11_summedUp_137 ?_
          by_cases c59 : v58 = true
          · rw [if_pos c59] at h
            refine ex_if_ne_t (pc := 138) 387 dX11_summedUp_138 rfl (jz_ne_t c59) ?_
            refine ex_iinc (pc := 387) (x7 + 1) 7 [(7, .int (x7 + 1)), (6, .int (x6 + (-1))), (5, .int (x5 + (-1))), (9, .int v9), (8, .int v7), (0, .ref x0), (3, .int x3), (4, .int x4)] dX11_summedUp_387 rfl rfl (by decide) rfl ?_
            refine ex_goto (pc := 390) 38 dX11_summedUp_390 rfl ?_
            refine ex_sub (lo' := [(0, .ref x0), (3, .int x3), (4, .int x4), (5, .int (x5 + (-1))), (6, .int (x6 + (-1))), (7, .int (x7 + 1))]) [5, 6, 7, 2, 1, 0] rfl ?_
            exact ih _ _ _ _ _ _ _ _  h
          · rw [if_neg c59] at h
            refine ex_if_ne_f (pc := 138) dX11_summedUp_138 387 rfl (jz_ne_f c59) ?_
            refine ex_aload_n (pc := 141) 4 dX11_summedUp_141 rfl rfl ?_
            obtain ⟨v60, ev60, h⟩ := ob_some h
            refine ex_gR (pc := 142) ev60 dX11_summedUp_142 lfX11_35 ?_
            refine ex_iload (pc := 145) 1 dX11_summedUp_145 rfl ?_
            refine ex_iconst (pc := 147) 1 dX11_summedUp_147 rfl ?_
            refine ex_isub (pc := 148) dX11_summedUp_148 ?_
            refine ex_aload_n (pc := 149) 4 dX11_summedUp_149 rfl rfl ?_
            obtain ⟨v61, ev61, h⟩ := ob_some h
            refine ex_gR (pc := 150) ev61 dX11_summedUp_150 lfX11_35 ?_
            refine ex_iload (pc := 153) 1 dX11_summedUp_153 rfl ?_
            obtain ⟨v62, ev62, h⟩ := ob_some h
            refine ex_rL (pc := 155) ev62 dX11_summedUp_155 ?_
            obtain ⟨q63, eq63, h⟩ := ob_some h
            refine ex_wL (pc := 156) eq63 dX11_summedUp_156 ?_
            refine ex_goto (pc := 157) 387 dX11_summedUp_157 rfl ?_
            refine ex_iinc (pc := 387) (x7 + 1) 7 [(7, .int (x7 + 1)), (6, .int (x6 + (-1))), (5, .int (x5 + (-1))), (9, .int v9), (8, .int v7), (0, .ref x0), (3, .int x3), (4, .int x4)] dX11_summedUp_387 rfl rfl (by decide) rfl ?_
            refine ex_goto (pc := 390) 38 dX11_summedUp_390 rfl ?_
            refine ex_sub (lo' := [(0, .ref x0), (3, .int x3), (4, .int x4), (5, .int (x5 + (-1))), (6, .int (x6 + (-1))), (7, .int (x7 + 1))]) [5, 6, 7, 2, 1, 0] rfl ?_
            exact ih _ _ _ _ _ _ _ _  h
        · rw [if_neg c11] at h
          refine ex_icmp_ne_t (pc := 122) 160 dX11_summedUp_122 rfl c11 ?_
          refine ex_iload (pc := 160) 1 dX11_summedUp_160 rfl ?_
          refine ex_iconst (pc := 162) 5 dX11_summedUp_162 rfl ?_
          by_cases c12 : 5 < v7
          · rw [if_pos c12] at h
            refine ex_icmp_gt_t (pc := 163) 231 dX11_summedUp_163 rfl c12 ?_
            refine ex_iload (pc := 231) 1 dX11_summedUp_231 rfl ?_
            refine ex_bipush (pc := 233) 10 dX11_summedUp_233 (by decide) ?_
            by_cases c13 : 10 ≤ v7
            · rw [if_pos c13] at h
              refine ex_icmp_ge_t (pc := 235) 274 dX11_summedUp_235 rfl c13 ?_
              refine ex_iload (pc := 274) 1 dX11_summedUp_274 rfl ?_
              refine ex_bipush (pc := 276) 20 dX11_summedUp_276 (by decide) ?_
              by_cases c14 : 20 ≤ v7
              · rw [if_pos c14] at h
                refine ex_icmp_ge_t (pc := 278) 318 dX11_summedUp_278 rfl c14 ?_
                refine ex_iload (pc := 318) 1 dX11_summedUp_318 rfl ?_
                refine ex_bipush (pc := 320) 20 dX11_summedUp_320 (by decide) ?_
                by_cases c15 : v7 = 20
                · rw [if_pos c15] at h
                  refine ex_icmp_ne_f (pc := 322) dX11_summedUp_322 354 rfl c15 ?_
                  refine ex_aload_n (pc := 325) 2 dX11_summedUp_325 rfl rfl ?_
                  obtain ⟨v23, ev23, h⟩ := ob_some h
                  refine ex_gR (pc := 326) ev23 dX11_summedUp_326 lfX11_39 ?_
                  refine ex_iload (pc := 329) 6 dX11_summedUp_329 rfl ?_
                  refine ex_iconst (pc := 331) 1 dX11_summedUp_331 rfl ?_
                  refine ex_isub (pc := 332) dX11_summedUp_332 ?_
                  refine ex_aload_n (pc := 333) 2 dX11_summedUp_333 rfl rfl ?_
                  obtain ⟨v24, ev24, h⟩ := ob_some h
                  refine ex_gR (pc := 334) ev24 dX11_summedUp_334 lfX11_39 ?_
                  refine ex_iload (pc := 337) 6 dX11_summedUp_337 rfl ?_
                  refine ex_iconst (pc := 339) 1 dX11_summedUp_339 rfl ?_
                  refine ex_isub (pc := 340) dX11_summedUp_340 ?_
                  obtain ⟨v25, ev25, h⟩ := ob_some h
                  refine ex_rZb (pc := 341) ev25 dX11_summedUp_341 ?_
                  by_cases c26 : v25 = true
                  · rw [if_pos c26] at h
                    refine ex_if_ne_t (pc := 342) 349 dX11_summedUp_342 rfl (jz_ne_t c26) ?_
                    refine ex_iconst (pc := 349) 0 dX11_summedUp_349 rfl ?_
                    obtain ⟨q27, eq27, h⟩ := ob_some h
                    refine ex_wZ (pc := 350) eq27 dX11_summedUp_350 ?_
                    refine ex_goto (pc := 351) 387 dX11_summedUp_351 rfl ?_
                    refine ex_iinc (pc := 387) (x7 + 1) 7 [(7, .int (x7 + 1)), (9, .int v9), (8, .int v7), (0, .ref x0), (3, .int x3), (4, .int x4), (5, .int x5), (6, .int x6)] dX11_summedUp_387 rfl rfl (by decide) rfl ?_
                    refine ex_goto (pc := 390) 38 dX11_summedUp_390 rfl ?_
                    refine ex_sub (lo' := [(0, .ref x0), (3, .int x3), (4, .int x4), (5, .int x5), (6, .int x6), (7, .int (x7 + 1))]) [3, 4, 5, 6, 7, 0] rfl ?_
                    exact ih _ _ _ _ _ _ _ _  h
                  · rw [if_neg c26] at h
                    refine ex_if_ne_f (pc := 342) dX11_summedUp_342 349 rfl (jz_ne_f c26) ?_
                    refine ex_iconst (pc := 345) 1 dX11_summedUp_345 rfl ?_
                    refine ex_goto (pc := 346) 350 dX11_summedUp_346 rfl ?_
                    obtain ⟨q28, eq28, h⟩ := ob_some h
                    refine ex_wZ (pc := 350) eq28 dX11_summedUp_350 ?_
                    refine ex_goto (pc := 351) 387 dX11_summedUp_351 rfl ?_
                    refine ex_iinc (pc := 387) (x7 + 1) 7 [(7, .int (x7 + 1)), (9, .int v9), (8, .int v7), (0, .ref x0), (3, .int x3), (4, .int x4), (5, .int x5), (6, .int x6)] dX11_summedUp_387 rfl rfl (by decide) rfl ?_
                    refine ex_goto (pc := 390) 38 dX11_summedUp_390 rfl ?_
                    refine ex_sub (lo' := [(0, .ref x0), (3, .int x3), (4, .int x4), (5, .int x5), (6, .int x6), (7, .int (x7 + 1))]) [3, 4, 5, 6, 7, 0] rfl ?_
                    exact ih _ _ _ _ _ _ _ _  h
                · rw [if_neg c15] at h
                  refine ex_icmp_ne_t (pc := 322) 354 dX11_summedUp_322 rfl c15 ?_
                  refine ex_iinc (pc := 354) (x6 + (-1)) 6 [(6, .int (x6 + (-1))), (9, .int v9), (8, .int v7), (0, .ref x0), (3, .int x3), (4, .int x4), (5, .int x5), (7, .int x7)] dX11_summedUp_354 rfl rfl (by decide) rfl ?_
                  refine ex_aload_n (pc := 357) 3 dX11_summedUp_357 rfl rfl ?_
                  obtain ⟨v16, ev16, h⟩ := ob_some h
                  refine ex_gR (pc := 358) ev16 dX11_summedUp_358 lfX11_39 ?_
                  refine ex_iload (pc := 361) 0 dX11_summedUp_361 rfl ?_
                  refine ex_iconst (pc := 363) 1 dX11_summedUp_363 rfl ?_
                  refine ex_isub (pc := 364) dX11_summedUp_364 ?_
                  refine ex_iload (pc := 365) 2 dX11_summedUp_365 rfl ?_
                  refine ex_aload_n (pc := 367) 3 dX11_summedUp_367 rfl rfl ?_
                  obtain ⟨v17, ev17, h⟩ := ob_some h
                  refine ex_gR (pc := 368) ev17 dX11_summedUp_368 lfX11_39 ?_
                  refine ex_iload (pc := 371) 0 dX11_summedUp_371 rfl ?_
                  refine ex_iconst (pc := 373) 1 dX11_summedUp_373 rfl ?_
                  refine ex_isub (pc := 374) dX11_summedUp_374 ?_
                  obtain ⟨v18, ev18, h⟩ := ob_some h
                  refine ex_rZb (pc := 375) ev18 dX11_summedUp_375 ?_
                  refine ex_aload_n (pc := 376) 3 dX11_summedUp_376 rfl rfl ?_
                  obtain ⟨v19, ev19, h⟩ := ob_some h
                  refine ex_gR (pc := 377) ev19 dX11_summedUp_377 lfX11_39 ?_
                  refine ex_iload (pc := 380) 0 dX11_summedUp_380 rfl ?_
                  obtain ⟨v20, ev20, h⟩ := ob_some h
                  refine ex_rZb (pc := 382) ev20 dX11_summedUp_382 ?_
                  obtain ⟨v21, ev21, h⟩ := ob_some h
                  refine ex_callS3r (pc := 383) dX11_summedUp_383 jX11_joined lmX11_306 jsX11_joined (Nat.le_of_ble_eq_true rfl) (s_X11_joined (by omega)  ev21) ?_
                  obtain ⟨q22, eq22, h⟩ := ob_some h
                  refine ex_wZ (pc := 386) eq22 dX11_summedUp_386 ?_
                  refine ex_iinc (pc := 387) (x7 + 1) 7 [(7, .int (x7 + 1)), (6, .int (x6 + (-1))), (9, .int v9), (8, .int v7), (0, .ref x0), (3, .int x3), (4, .int x4), (5, .int x5)] dX11_summedUp_387 rfl rfl (by decide) rfl ?_
                  refine ex_goto (pc := 390) 38 dX11_summedUp_390 rfl ?_
                  refine ex_sub (lo' := [(0, .ref x0), (3, .int x3), (4, .int x4), (5, .int x5), (6, .int (x6 + (-1))), (7, .int (x7 + 1))]) [4, 5, 6, 7, 1, 0] rfl ?_
                  exact ih _ _ _ _ _ _ _ _  h
              · rw [if_neg c14] at h
                refine ex_icmp_ge_f (pc := 278) dX11_summedUp_278 318 rfl c14 ?_
                refine ex_iinc (pc := 281) (x5 + (-2)) 5 [(5, .int (x5 + (-2))), (9, .int v9), (8, .int v7), (0, .ref x0), (3, .int x3), (4, .int x4), (6, .int x6), (7, .int x7)] dX11_summedUp_281 rfl rfl (by decide) rfl ?_
                refine ex_aload_n (pc := 284) 3 dX11_summedUp_284 rfl rfl ?_
                obtain ⟨v29, ev29, h⟩ := ob_some h
                refine ex_gR (pc := 285) ev29 dX11_summedUp_285 lfX11_39 ?_
                refine ex_iload (pc := 288) 6 dX11_summedUp_288 rfl ?_
                refine ex_iload (pc := 290) 2 dX11_summedUp_290 rfl ?_
                refine ex_aload_n (pc := 292) 3 dX11_summedUp_292 rfl rfl ?_
                obtain ⟨v30, ev30, h⟩ := ob_some h
                refine ex_gR (pc := 293) ev30 dX11_summedUp_293 lfX11_35 ?_
                refine ex_iload (pc := 296) 0 dX11_summedUp_296 rfl ?_
                obtain ⟨v31, ev31, h⟩ := ob_some h
                refine ex_rL (pc := 298) ev31 dX11_summedUp_298 ?_
                refine ex_aload_n (pc := 299) 3 dX11_summedUp_299 rfl rfl ?_
                obtain ⟨v32, ev32, h⟩ := ob_some h
                refine ex_gR (pc := 300) ev32 dX11_summedUp_300 lfX11_35 ?_
                refine ex_iload (pc := 303) 0 dX11_summedUp_303 rfl ?_
                refine ex_iconst (pc := 305) 1 dX11_summedUp_305 rfl ?_
                refine ex_iadd (pc := 306) dX11_summedUp_306 ?_
                obtain ⟨v33, ev33, h⟩ := ob_some h
                refine ex_rL (pc := 307) ev33 dX11_summedUp_307 ?_
                obtain ⟨v34, ev34, h⟩ := ob_some h
                refine ex_callS3r (pc := 308) dX11_summedUp_308 jX11_isAsked lmX11_302 jsX11_isAsked (Nat.le_of_ble_eq_true rfl) (s_X11_isAsked (by omega)  ev34) ?_
                obtain ⟨q35, eq35, h⟩ := ob_some h
                refine ex_wZ (pc := 311) eq35 dX11_summedUp_311 ?_
                refine ex_iinc (pc := 312) (x6 + 1) 6 [(6, .int (x6 + 1)), (5, .int (x5 + (-2))), (9, .int v9), (8, .int v7), (0, .ref x0), (3, .int x3), (4, .int x4), (7, .int x7)] dX11_summedUp_312 rfl rfl (by decide) rfl ?_
                refine ex_goto (pc := 315) 387 dX11_summedUp_315 rfl ?_
                refine ex_iinc (pc := 387) (x7 + 1) 7 [(7, .int (x7 + 1)), (6, .int (x6 + 1)), (5, .int (x5 + (-2))), (9, .int v9), (8, .int v7), (0, .ref x0), (3, .int x3), (4, .int x4)] dX11_summedUp_387 rfl rfl (by decide) rfl ?_
                refine ex_goto (pc := 390) 38 dX11_summedUp_390 rfl ?_
                refine ex_sub (lo' := [(0, .ref x0), (3, .int x3), (4, .int x4), (5, .int (x5 + (-2))), (6, .int (x6 + 1)), (7, .int (x7 + 1))]) [5, 6, 7, 2, 1, 0] rfl ?_
                exact ih _ _ _ _ _ _ _ _  h
            · rw [if_neg c13] at h
              refine ex_icmp_ge_f (pc := 235) dX11_summedUp_235 274 rfl c13 ?_
              refine ex_iinc (pc := 238) (x5 + (-1)) 5 [(5, .int (x5 + (-1))), (9, .int v9), (8, .int v7), (0, .ref x0), (3, .int x3), (4, .int x4), (6, .int x6), (7, .int x7)] dX11_summedUp_238 rfl rfl (by decide) rfl ?_
              refine ex_aload_n (pc := 241) 3 dX11_summedUp_241 rfl rfl ?_
              obtain ⟨v36, ev36, h⟩ := ob_some h
              refine ex_gR (pc := 242) ev36 dX11_summedUp_242 lfX11_35 ?_
              refine ex_iload (pc := 245) 0 dX11_summedUp_245 rfl ?_
              refine ex_iconst (pc := 247) 1 dX11_summedUp_247 rfl ?_
              refine ex_isub (pc := 248) dX11_summedUp_248 ?_
              refine ex_iload (pc := 249) 2 dX11_summedUp_249 rfl ?_
              refine ex_aload_n (pc := 251) 3 dX11_summedUp_251 rfl rfl ?_
              obtain ⟨v37, ev37, h⟩ := ob_some h
              refine ex_gR (pc := 252) ev37 dX11_summedUp_252 lfX11_35 ?_
              refine ex_iload (pc := 255) 0 dX11_summedUp_255 rfl ?_
              refine ex_iconst (pc := 257) 1 dX11_summedUp_257 rfl ?_
              refine ex_isub (pc := 258) dX11_summedUp_258 ?_
              obtain ⟨v38, ev38, h⟩ := ob_some h
              refine ex_rL (pc := 259) ev38 dX11_summedUp_259 ?_
              refine ex_aload_n (pc := 260) 3 dX11_summedUp_260 rfl rfl ?_
              obtain ⟨v39, ev39, h⟩ := ob_some h
              refine ex_gR (pc := 261) ev39 dX11_summedUp_261 lfX11_35 ?_
              refine ex_iload (pc := 264) 0 dX11_summedUp_264 rfl ?_
              obtain ⟨v40, ev40, h⟩ := ob_some h
              refine ex_rL (pc := 266) ev40 dX11_summedUp_266 ?_
              obtain ⟨v41, ev41, h⟩ := ob_some h
              refine ex_callS3r (pc := 267) dX11_summedUp_267 jX11_two lmX11_298 jsX11_two (Nat.le_of_ble_eq_true rfl) (s_X11_two (by omega)  ev41) ?_
              obtain ⟨q42, eq42, h⟩ := ob_some h
              refine ex_wL (pc := 270) eq42 dX11_summedUp_270 ?_
              refine ex_goto (pc := 271) 387 dX11_summedUp_271 rfl ?_
              refine ex_iinc (pc := 387) (x7 + 1) 7 [(7, .int (x7 + 1)), (5, .int (x5 + (-1))), (9, .int v9), (8, .int v7), (0, .ref x0), (3, .int x3), (4, .int x4), (6, .int x6)] dX11_summedUp_387 rfl rfl (by decide) rfl ?_
              refine ex_goto (pc := 390) 38 dX11_summedUp_390 rfl ?_
              refine ex_sub (lo' := [(0, .ref x0), (3, .int x3), (4, .int x4), (5, .int (x5 + (-1))), (6, .int x6), (7, .int (x7 + 1))]) [4, 5, 6, 1, 7, 0] rfl ?_
              exact ih _ _ _ _ _ _ _ _  h
          · rw [if_neg c12] at h
            refine ex_icmp_gt_f (pc := 163) dX11_summedUp_163 231 rfl c12 ?_
            refine ex_aload_n (pc := 166) 2 dX11_summedUp_166 rfl rfl ?_
            obtain ⟨v43, ev43, h⟩ := ob_some h
            refine ex_gR (pc := 167) ev43 dX11_summedUp_167 lfX11_35 ?_
            refine ex_iload (pc := 170) 5 dX11_summedUp_170 rfl ?_
            refine ex_iconst (pc := 172) 1 dX11_summedUp_172 rfl ?_
            refine ex_isub (pc := 173) dX11_summedUp_173 ?_
            refine ex_iload (pc := 174) 1 dX11_summedUp_174 rfl ?_
            refine ex_iconst (pc := 176) 5 dX11_summedUp_176 rfl ?_
            by_cases c44 : v7 = 5
            · rw [if_pos c44] at h
              refine ex_icmp_ne_f (pc := 177) dX11_summedUp_177 193 rfl c44 ?_
              refine ex_aload_n (pc := 180) 2 dX11_summedUp_180 rfl rfl ?_
              obtain ⟨v54, ev54, h⟩ := ob_some h
              refine ex_gR (pc := 181) ev54 dX11_summedUp_181 lfX11_35 ?_
              refine ex_iload (pc := 184) 5 dX11_summedUp_184 rfl ?_
              refine ex_iconst (pc := 186) 1 dX11_summedUp_186 rfl ?_
              refine ex_isub (pc := 187) dX11_summedUp_187 ?_
              obtain ⟨v55, ev55, h⟩ := ob_some h
              refine ex_rL (pc := 188) ev55 dX11_summedUp_188 ?_
              refine ex_lneg (pc := 189) dX11_summedUp_189 ?_
              refine ex_goto (pc := 190) 227 dX11_summedUp_190 rfl ?_
              obtain ⟨q56, eq56, h⟩ := ob_some h
              refine ex_wL (pc := 227) eq56 dX11_summedUp_227 ?_
              refine ex_goto (pc := 228) 387 dX11_summedUp_228 rfl ?_
              refine ex_iinc (pc := 387) (x7 + 1) 7 [(7, .int (x7 + 1)), (9, .int v9), (8, .int v7), (0, .ref x0), (3, .int x3), (4, .int x4), (5, .int x5), (6, .int x6)] dX11_summedUp_387 rfl rfl (by decide) rfl ?_
              refine ex_goto (pc := 390) 38 dX11_summedUp_390 rfl ?_
              refine ex_sub (lo' := [(0, .ref x0), (3, .int x3), (4, .int x4), (5, .int x5), (6, .int x6), (7, .int (x7 + 1))]) [3, 4, 5, 6, 7, 0] rfl ?_
              exact ih _ _ _ _ _ _ _ _  h
            · rw [if_neg c44] at h
              refine ex_icmp_ne_t (pc := 177) 193 dX11_summedUp_177 rfl c44 ?_
              refine ex_iload (pc := 193) 1 dX11_summedUp_193 rfl ?_
              refine ex_iconst (pc := 195) 3 dX11_summedUp_195 rfl ?_
              by_cases c45 : v7 = 3
              · rw [if_pos c45] at h
                refine ex_icmp_ne_f (pc := 196) dX11_summedUp_196 215 rfl c45 ?_
                refine ex_aload_n (pc := 199) 2 dX11_summedUp_199 rfl rfl ?_
                refine ex_aload_n (pc := 200) 2 dX11_summedUp_200 rfl rfl ?_
                obtain ⟨v50, ev50, h⟩ := ob_some h
                refine ex_gR (pc := 201) ev50 dX11_summedUp_201 lfX11_35 ?_
                refine ex_iload (pc := 204) 5 dX11_summedUp_204 rfl ?_
                refine ex_iconst (pc := 206) 1 dX11_summedUp_206 rfl ?_
                refine ex_isub (pc := 207) dX11_summedUp_207 ?_
                obtain ⟨v51, ev51, h⟩ := ob_some h
                refine ex_rL (pc := 208) ev51 dX11_summedUp_208 ?_
                obtain ⟨v52, ev52, h⟩ := ob_some h
                refine ex_callV1r (pc := 209) dX11_summedUp_209 jX11_sumsOf lmX11_292 jiX11_sumsOf jvX11_sumsOf (o_X11_sumsOf ev52) rfl (Nat.le_of_ble_eq_true rfl) (s_X11_sumsOf (by omega)  ev52) ?_
                refine ex_goto (pc := 212) 227 dX11_summedUp_212 rfl ?_
                obtain ⟨q53, eq53, h⟩ := ob_some h
                refine ex_wL (pc := 227) eq53 dX11_summedUp_227 ?_
                refine ex_goto (pc := 228) 387 dX11_summedUp_228 rfl ?_
                refine ex_iinc (pc := 387) (x7 + 1) 7 [(7, .int (x7 + 1)), (9, .int v9), (8, .int v7), (0, .ref x0), (3, .int x3), (4, .int x4), (5, .int x5), (6, .int x6)] dX11_summedUp_387 rfl rfl (by decide) rfl ?_
                refine ex_goto (pc := 390) 38 dX11_summedUp_390 rfl ?_
                refine ex_sub (lo' := [(0, .ref x0), (3, .int x3), (4, .int x4), (5, .int x5), (6, .int x6), (7, .int (x7 + 1))]) [3, 4, 5, 6, 7, 0] rfl ?_
                exact ih _ _ _ _ _ _ _ _  h
              · rw [if_neg c45] at h
                refine ex_icmp_ne_t (pc := 196) 215 dX11_summedUp_196 rfl c45 ?_
                refine ex_aload_n (pc := 215) 2 dX11_summedUp_215 rfl rfl ?_
                obtain ⟨v46, ev46, h⟩ := ob_some h
                refine ex_gR (pc := 216) ev46 dX11_summedUp_216 lfX11_35 ?_
                refine ex_iload (pc := 219) 5 dX11_summedUp_219 rfl ?_
                refine ex_iconst (pc := 221) 1 dX11_summedUp_221 rfl ?_
                refine ex_isub (pc := 222) dX11_summedUp_222 ?_
                obtain ⟨v47, ev47, h⟩ := ob_some h
                refine ex_rL (pc := 223) ev47 dX11_summedUp_223 ?_
                obtain ⟨v48, ev48, h⟩ := ob_some h
                refine ex_callS1r (pc := 224) dX11_summedUp_224 jX11_digitsOf lmX11_295 jsX11_digitsOf (Nat.le_of_ble_eq_true rfl) (s_X11_digitsOf (by omega)  ev48) ?_
                obtain ⟨q49, eq49, h⟩ := ob_some h
                refine ex_wL (pc := 227) eq49 dX11_summedUp_227 ?_
                refine ex_goto (pc := 228) 387 dX11_summedUp_228 rfl ?_
                refine ex_iinc (pc := 387) (x7 + 1) 7 [(7, .int (x7 + 1)), (9, .int v9), (8, .int v7), (0, .ref x0), (3, .int x3), (4, .int x4), (5, .int x5), (6, .int x6)] dX11_summedUp_387 rfl rfl (by decide) rfl ?_
                refine ex_goto (pc := 390) 38 dX11_summedUp_390 rfl ?_
                refine ex_sub (lo' := [(0, .ref x0), (3, .int x3), (4, .int x4), (5, .int x5), (6, .int x6), (7, .int (x7 + 1))]) [3, 4, 5, 6, 7, 0] rfl ?_
                exact ih _ _ _ _ _ _ _ _  h
      · rw [if_neg c10] at h
        refine ex_icmp_gt_f (pc := 84) dX11_summedUp_84 119 rfl c10 ?_
        refine ex_aload_n (pc := 87) 2 dX11_summedUp_87 rfl rfl ?_
        obtain ⟨v64, ev64, h⟩ := ob_some h
        refine ex_gR (pc := 88) ev64 dX11_summedUp_88 lfX11_35 ?_
        refine ex_iload (pc := 91) 5 dX11_summedUp_91 rfl ?_
        refine ex_iload (pc := 93) 1 dX11_summedUp_93 rfl ?_
        by_cases c65 : v7 = 0
        · rw [if_pos c65] at h
          refine ex_if_ne_f (pc := 95) dX11_summedUp_95 104 rfl c65 ?_
          refine ex_iload (pc := 98) 0 dX11_summedUp_98 rfl ?_
          refine ex_i2l (pc := 100) dX11_summedUp_100 ?_
          refine ex_goto (pc := 101) 112 dX11_summedUp_101 rfl ?_
          obtain ⟨q69, eq69, h⟩ := ob_some h
          refine ex_wL (pc := 112) eq69 dX11_summedUp_112 ?_
          refine ex_iinc (pc := 113) (x5 + 1) 5 [(5, .int (x5 + 1)), (9, .int v9), (8, .int v7), (0, .ref x0), (3, .int x3), (4, .int x4), (6, .int x6), (7, .int x7)] dX11_summedUp_113 rfl rfl (by decide) rfl ?_
          refine ex_goto (pc := 116) 387 dX11_summedUp_116 rfl ?_
          refine ex_iinc (pc := 387) (x7 + 1) 7 [(7, .int (x7 + 1)), (5, .int (x5 + 1)), (9, .int v9), (8, .int v7), (0, .ref x0), (3, .int x3), (4, .int x4), (6, .int x6)] dX11_summedUp_387 rfl rfl (by decide) rfl ?_
          refine ex_goto (pc := 390) 38 dX11_summedUp_390 rfl ?_
          refine ex_sub (lo' := [(0, .ref x0), (3, .int x3), (4, .int x4), (5, .int (x5 + 1)), (6, .int x6), (7, .int (x7 + 1))]) [4, 5, 6, 1, 7, 0] rfl ?_
          exact ih _ _ _ _ _ _ _ _  h
        · rw [if_neg c65] at h
          refine ex_if_ne_t (pc := 95) 104 dX11_summedUp_95 rfl c65 ?_
          refine ex_aload_n (pc := 104) 2 dX11_summedUp_104 rfl rfl ?_
          obtain ⟨v66, ev66, h⟩ := ob_some h
          refine ex_gR (pc := 105) ev66 dX11_summedUp_105 lfX11_32 ?_
          refine ex_iload (pc := 108) 0 dX11_summedUp_108 rfl ?_
          obtain ⟨v67, ev67, h⟩ := ob_some h
          refine ex_rI (pc := 110) ev67 dX11_summedUp_110 ?_
          refine ex_i2l (pc := 111) dX11_summedUp_111 ?_
          obtain ⟨q68, eq68, h⟩ := ob_some h
          refine ex_wL (pc := 112) eq68 dX11_summedUp_112 ?_
          refine ex_iinc (pc := 113) (x5 + 1) 5 [(5, .int (x5 + 1)), (9, .int v9), (8, .int v7), (0, .ref x0), (3, .int x3), (4, .int x4), (6, .int x6), (7, .int x7)] dX11_summedUp_113 rfl rfl (by decide) rfl ?_
          refine ex_goto (pc := 116) 387 dX11_summedUp_116 rfl ?_
          refine ex_iinc (pc := 387) (x7 + 1) 7 [(7, .int (x7 + 1)), (5, .int (x5 + 1)), (9, .int v9), (8, .int v7), (0, .ref x0), (3, .int x3), (4, .int x4), (6, .int x6)] dX11_summedUp_387 rfl rfl (by decide) rfl ?_
          refine ex_goto (pc := 390) 38 dX11_summedUp_390 rfl ?_
          refine ex_sub (lo' := [(0, .ref x0), (3, .int x3), (4, .int x4), (5, .int (x5 + 1)), (6, .int x6), (7, .int (x7 + 1))]) [4, 5, 6, 1, 7, 0] rfl ?_
          exact ih _ _ _ _ _ _ _ _  h
noncomputable def f_X11_summedUp_0 (x0 : Nat) (x1 : Int32) (x2 : Int32) (M : Mem) : Option (Int64 × Mem) :=
  (gR M 11 x0 2).bind fun v70 =>
  (rI M v70 ((((705 * x1) + 1) + (4 * x2)) + 1)).bind fun v71 =>
  f_X11_summedUp_38 fu x0 (((705 * x1) + 1) + (4 * x2)) ((705 * x1) + 97) 0 0 v71 M
set_option maxHeartbeats 4000000 in
theorem t_X11_summedUp_0 {X : XV} {d : Nat} (hd : 3 ≤ d + 1) : ∀ (x0 : Nat) (x1 : Int32) (x2 : Int32) (M : Mem) (res : Int64 × Mem), f_X11_summedUp_0  x0 x1 x2 M = some res → Ex X (d + 1) mX11_summedUp 0 [(0, .ref x0), (1, .int x1), (2, .int x2)] [] M (some (.long res.1)) res.2 := by
  intro x0 x1 x2 M res  h
  unfold f_X11_summedUp_0 at h
  refine ex_sipush (pc := 0) 705 dX11_summedUp_0 (by decide) ?_
  refine ex_iload_n (pc := 3) 1 dX11_summedUp_3 rfl rfl ?_
  refine ex_imul (pc := 4) dX11_summedUp_4 ?_
  refine ex_iconst (pc := 5) 1 dX11_summedUp_5 rfl ?_
  refine ex_iadd (pc := 6) dX11_summedUp_6 ?_
  refine ex_iconst (pc := 7) 4 dX11_summedUp_7 rfl ?_
  refine ex_iload_n (pc := 8) 2 dX11_summedUp_8 rfl rfl ?_
  refine ex_imul (pc := 9) dX11_summedUp_9 ?_
  refine ex_iadd (pc := 10) dX11_summedUp_10 ?_
  refine ex_istore_n (pc := 11) [(3, .int (((705 * x1) + 1) + (4 * x2))), (0, .ref x0), (1, .int x1), (2, .int x2)] dX11_summedUp_11 rfl (by decide) rfl ?_
  refine ex_sipush (pc := 12) 705 dX11_summedUp_12 (by decide) ?_
  refine ex_iload_n (pc := 15) 2 dX11_summedUp_15 rfl rfl ?_
  refine ex_imul (pc := 16) dX11_summedUp_16 ?_
  refine ex_bipush (pc := 17) 97 dX11_summedUp_17 (by decide) ?_
  refine ex_iadd (pc := 19) dX11_summedUp_19 ?_
  refine ex_istore (pc := 20) [(4, .int ((705 * x1) + 97)), (3, .int (((705 * x1) + 1) + (4 * x2))), (0, .ref x0), (1, .int x1), (2, .int x2)] dX11_summedUp_20 (by decide) rfl ?_
  refine ex_iconst (pc := 22) 0 dX11_summedUp_22 rfl ?_
  refine ex_istore (pc := 23) [(5, .int 0), (4, .int ((705 * x1) + 97)), (3, .int (((705 * x1) + 1) + (4 * x2))), (0, .ref x0), (1, .int x1), (2, .int x2)] dX11_summedUp_23 (by decide) rfl ?_
  refine ex_iconst (pc := 25) 0 dX11_summedUp_25 rfl ?_
  refine ex_istore (pc := 26) [(6, .int 0), (5, .int 0), (4, .int ((705 * x1) + 97)), (3, .int (((705 * x1) + 1) + (4 * x2))), (0, .ref x0), (1, .int x1), (2, .int x2)] dX11_summedUp_26 (by decide) rfl ?_
  refine ex_aload_n (pc := 28) 4 dX11_summedUp_28 rfl rfl ?_
  obtain ⟨v70, ev70, h⟩ := ob_some h
  refine ex_gR (pc := 29) ev70 dX11_summedUp_29 lfX11_16 ?_
  refine ex_iload_n (pc := 32) 3 dX11_summedUp_32 rfl rfl ?_
  refine ex_iconst (pc := 33) 1 dX11_summedUp_33 rfl ?_
  refine ex_iadd (pc := 34) dX11_summedUp_34 ?_
  obtain ⟨v71, ev71, h⟩ := ob_some h
  refine ex_rI (pc := 35) ev71 dX11_summedUp_35 ?_
  refine ex_istore (pc := 36) [(7, .int v71), (6, .int 0), (5, .int 0), (4, .int ((705 * x1) + 97)), (3, .int (((705 * x1) + 1) + (4 * x2))), (0, .ref x0), (1, .int x1), (2, .int x2)] dX11_summedUp_36 (by decide) rfl ?_
  refine ex_sub (lo' := [(0, .ref x0), (3, .int (((705 * x1) + 1) + (4 * x2))), (4, .int ((705 * x1) + 97)), (5, .int 0), (6, .int 0), (7, .int v71)]) [5, 4, 3, 2, 1, 0] rfl ?_
  exact t_X11_summedUp_38 hd  _ _ _ _ _ _ _ _ _  h
noncomputable def f_X11_summedUp (x0 : Nat) (x1 : Int32) (x2 : Int32) (M : Mem) : Option (Int64 × Mem) := if isOb M 11 x0 = true then f_X11_summedUp_0 x0 x1 x2 M else none
theorem o_X11_summedUp {x0 : Nat} {x1 : Int32} {x2 : Int32} {M : Mem} {res : Int64 × Mem} (h : f_X11_summedUp x0 x1 x2 M = some res) : isO M 11 x0 := by
  unfold f_X11_summedUp at h
  split at h
  · rename_i hc; exact isOb_iff hc
  · cases h
set_option maxHeartbeats 4000000 in
theorem s_X11_summedUp {X : XV} {d : Nat} (hd : 3 ≤ d) {x0 : Nat} {x1 : Int32} {x2 : Int32} {M : Mem} {res : Int64 × Mem} (h : f_X11_summedUp x0 x1 x2 M = some res) : Mx X d mX11_summedUp [.ref x0, .int x1, .int x2] M (some (.long res.1)) res.2 := by
  obtain ⟨d, rfl⟩ : ∃ e, d = e + 1 := ⟨d - 1, by omega⟩
  unfold f_X11_summedUp at h
  split at h
  rotate_left
  · cases h
  refine Mx.of (by decide) (Nat.le_of_ble_eq_true rfl) (rfl) ?_
  exact ex_sub (lo' := [(0, .ref x0), (1, .int x1), (2, .int x2)]) [0, 1, 2] rfl (t_X11_summedUp_0 hd _ _ _ _ _  h)
noncomputable def f_X11_says_3 (n0 : Nat) (x0 : Nat) (x1 : Int32) (x2 : Int32) (x3 : Int32) (x4 : Int32) (x5 : Int32) (M : Mem) : Option (Int32 × Mem) :=
  match n0 with
  | 0 => none
  | n + 1 =>
    if x1 < 0 then
    ((f_X11_cut (Int32.toInt64 x3) 0 x4).bind fun v2 =>
    some (v2, M))
    else
    ((gR M 11 x0 2).bind fun v3 =>
    (rI M v3 (705 * x1)).bind fun v4 =>
    if v4 ≤ x5 then
    ((f_X11_cut (Int32.toInt64 x3) 0 x4).bind fun v6 =>
    some (v6, M))
    else
    ((gR M 11 x0 2).bind fun v7 =>
    (rI M v7 (((705 * x1) + 1) + (4 * x5))).bind fun v8 =>
    if v8 = x2 then
    ((f_X11_summedUp x0 x1 x5 M).bind fun q10 =>
    (f_X11_cut q10.1 0 x4).bind fun v11 =>
    some (v11, q10.2))
    else
    (f_X11_says_3 n x0 x1 x2 x3 x4 (x5 + 1) M)))
set_option maxHeartbeats 4000000 in
theorem t_X11_says_3 {X : XV} {d : Nat} (hd : 4 ≤ d + 1) : ∀ (n : Nat) (x0 : Nat) (x1 : Int32) (x2 : Int32) (x3 : Int32) (x4 : Int32) (x5 : Int32) (M : Mem) (res : Int32 × Mem), f_X11_says_3 n  x0 x1 x2 x3 x4 x5 M = some res → Ex X (d + 1) mX11_says 3 [(0, .ref x0), (1, .int x1), (2, .int x2), (3, .int x3), (4, .int x4), (5, .int x5)] [] M (some (.int res.1)) res.2 := by
  intro n
  induction n with
  | zero =>
    intro x0 x1 x2 x3 x4 x5 M res  h
    unfold f_X11_says_3 at h
    cases h
  | succ n ih =>
    intro x0 x1 x2 x3 x4 x5 M res  h
    unfold f_X11_says_3 at h
    refine ex_iload_n (pc := 3) 1 dX11_says_3 rfl rfl ?_
    by_cases c1 : x1 < 0
    · rw [if_pos c1] at h
      refine ex_if_lt_t (pc := 4) 63 dX11_says_4 rfl c1 ?_
      refine ex_iload_n (pc := 63) 3 dX11_says_63 rfl rfl ?_
      refine ex_i2l (pc := 64) dX11_says_64 ?_
      refine ex_iconst (pc := 65) 0 dX11_says_65 rfl ?_
      refine ex_iload (pc := 66) 4 dX11_says_66 rfl ?_
      obtain ⟨v2, ev2, h⟩ := ob_some h
      refine ex_callS3r (pc := 68) dX11_says_68 jX11_cut lmX11_313 jsX11_cut (Nat.le_of_ble_eq_true rfl) (s_X11_cut (by omega)  ev2) ?_
      cases h
      exact ex_ireturn (pc := 71) dX11_says_71
    · rw [if_neg c1] at h
      refine ex_if_lt_f (pc := 4) dX11_says_4 63 rfl c1 ?_
      refine ex_iload (pc := 7) 5 dX11_says_7 rfl ?_
      refine ex_aload_n (pc := 9) 0 dX11_says_9 rfl rfl ?_
      obtain ⟨v3, ev3, h⟩ := ob_some h
      refine ex_gR (pc := 10) ev3 dX11_says_10 lfX11_16 ?_
      refine ex_sipush (pc := 13) 705 dX11_says_13 (by decide) ?_
      refine ex_iload_n (pc := 16) 1 dX11_says_16 rfl rfl ?_
      refine ex_imul (pc := 17) dX11_says_17 ?_
      obtain ⟨v4, ev4, h⟩ := ob_some h
      refine ex_rI (pc := 18) ev4 dX11_says_18 ?_
      by_cases c5 : v4 ≤ x5
      · rw [if_pos c5] at h
        refine ex_icmp_ge_t (pc := 19) 63 dX11_says_19 rfl c5 ?_
        refine ex_iload_n (pc := 63) 3 dX11_says_63 rfl rfl ?_
        refine ex_i2l (pc := 64) dX11_says_64 ?_
        refine ex_iconst (pc := 65) 0 dX11_says_65 rfl ?_
        refine ex_iload (pc := 66) 4 dX11_says_66 rfl ?_
        obtain ⟨v6, ev6, h⟩ := ob_some h
        refine ex_callS3r (pc := 68) dX11_says_68 jX11_cut lmX11_313 jsX11_cut (Nat.le_of_ble_eq_true rfl) (s_X11_cut (by omega)  ev6) ?_
        cases h
        exact ex_ireturn (pc := 71) dX11_says_71
      · rw [if_neg c5] at h
        refine ex_icmp_ge_f (pc := 19) dX11_says_19 63 rfl c5 ?_
        refine ex_aload_n (pc := 22) 0 dX11_says_22 rfl rfl ?_
        obtain ⟨v7, ev7, h⟩ := ob_some h
        refine ex_gR (pc := 23) ev7 dX11_says_23 lfX11_16 ?_
        refine ex_sipush (pc := 26) 705 dX11_says_26 (by decide) ?_
        refine ex_iload_n (pc := 29) 1 dX11_says_29 rfl rfl ?_
        refine ex_imul (pc := 30) dX11_says_30 ?_
        refine ex_iconst (pc := 31) 1 dX11_says_31 rfl ?_
        refine ex_iadd (pc := 32) dX11_says_32 ?_
        refine ex_iconst (pc := 33) 4 dX11_says_33 rfl ?_
        refine ex_iload (pc := 34) 5 dX11_says_34 rfl ?_
        refine ex_imul (pc := 36) dX11_says_36 ?_
        refine ex_iadd (pc := 37) dX11_says_37 ?_
        obtain ⟨v8, ev8, h⟩ := ob_some h
        refine ex_rI (pc := 38) ev8 dX11_says_38 ?_
        refine ex_iload_n (pc := 39) 2 dX11_says_39 rfl rfl ?_
        by_cases c9 : v8 = x2
        · rw [if_pos c9] at h
          refine ex_icmp_ne_f (pc := 40) dX11_says_40 57 rfl c9 ?_
          refine ex_aload_n (pc := 43) 0 dX11_says_43 rfl rfl ?_
          refine ex_iload_n (pc := 44) 1 dX11_says_44 rfl rfl ?_
          refine ex_iload (pc := 45) 5 dX11_says_45 rfl ?_
          obtain ⟨q10, eq10, h⟩ := ob_some h
          refine ex_callV2r (pc := 47) dX11_says_47 jX11_summedUp lmX11_310 jiX11_summedUp jvX11_summedUp (o_X11_summedUp eq10) rfl (Nat.le_of_ble_eq_true rfl) (s_X11_summedUp (by omega)  eq10) ?_
          refine ex_iconst (pc := 50) 0 dX11_says_50 rfl ?_
          refine ex_iload (pc := 51) 4 dX11_says_51 rfl ?_
          obtain ⟨v11, ev11, h⟩ := ob_some h
          refine ex_callS3r (pc := 53) dX11_says_53 jX11_cut lmX11_313 jsX11_cut (Nat.le_of_ble_eq_true rfl) (s_X11_cut (by omega)  ev11) ?_
          cases h
          exact ex_ireturn (pc := 56) dX11_says_56
        · rw [if_neg c9] at h
          refine ex_icmp_ne_t (pc := 40) 57 dX11_says_40 rfl c9 ?_
          refine ex_iinc (pc := 57) (x5 + 1) 5 [(5, .int (x5 + 1)), (0, .ref x0), (1, .int x1), (2, .int x2), (3, .int x3), (4, .int x4)] dX11_says_57 rfl rfl (by decide) rfl ?_
          refine ex_goto (pc := 60) 3 dX11_says_60 rfl ?_
          refine ex_sub (lo' := [(0, .ref x0), (1, .int x1), (2, .int x2), (3, .int x3), (4, .int x4), (5, .int (x5 + 1))]) [1, 2, 3, 4, 5, 0] rfl ?_
          exact ih _ _ _ _ _ _ _ _  h
noncomputable def f_X11_says_0 (x0 : Nat) (x1 : Int32) (x2 : Int32) (x3 : Int32) (x4 : Int32) (M : Mem) : Option (Int32 × Mem) :=
  f_X11_says_3 fu x0 x1 x2 x3 x4 0 M
set_option maxHeartbeats 4000000 in
theorem t_X11_says_0 {X : XV} {d : Nat} (hd : 4 ≤ d + 1) : ∀ (x0 : Nat) (x1 : Int32) (x2 : Int32) (x3 : Int32) (x4 : Int32) (M : Mem) (res : Int32 × Mem), f_X11_says_0  x0 x1 x2 x3 x4 M = some res → Ex X (d + 1) mX11_says 0 [(0, .ref x0), (1, .int x1), (2, .int x2), (3, .int x3), (4, .int x4)] [] M (some (.int res.1)) res.2 := by
  intro x0 x1 x2 x3 x4 M res  h
  unfold f_X11_says_0 at h
  refine ex_iconst (pc := 0) 0 dX11_says_0 rfl ?_
  refine ex_istore (pc := 1) [(5, .int 0), (0, .ref x0), (1, .int x1), (2, .int x2), (3, .int x3), (4, .int x4)] dX11_says_1 (by decide) rfl ?_
  refine ex_sub (lo' := [(0, .ref x0), (1, .int x1), (2, .int x2), (3, .int x3), (4, .int x4), (5, .int 0)]) [1, 2, 3, 4, 5, 0] rfl ?_
  exact t_X11_says_3 hd  _ _ _ _ _ _ _ _ _  h
noncomputable def f_X11_says (x0 : Nat) (x1 : Int32) (x2 : Int32) (x3 : Int32) (x4 : Int32) (M : Mem) : Option (Int32 × Mem) := if isOb M 11 x0 = true then f_X11_says_0 x0 x1 x2 x3 x4 M else none
theorem o_X11_says {x0 : Nat} {x1 : Int32} {x2 : Int32} {x3 : Int32} {x4 : Int32} {M : Mem} {res : Int32 × Mem} (h : f_X11_says x0 x1 x2 x3 x4 M = some res) : isO M 11 x0 := by
  unfold f_X11_says at h
  split at h
  · rename_i hc; exact isOb_iff hc
  · cases h
set_option maxHeartbeats 4000000 in
theorem s_X11_says {X : XV} {d : Nat} (hd : 4 ≤ d) {x0 : Nat} {x1 : Int32} {x2 : Int32} {x3 : Int32} {x4 : Int32} {M : Mem} {res : Int32 × Mem} (h : f_X11_says x0 x1 x2 x3 x4 M = some res) : Mx X d mX11_says [.ref x0, .int x1, .int x2, .int x3, .int x4] M (some (.int res.1)) res.2 := by
  obtain ⟨d, rfl⟩ : ∃ e, d = e + 1 := ⟨d - 1, by omega⟩
  unfold f_X11_says at h
  split at h
  rotate_left
  · cases h
  refine Mx.of (by decide) (Nat.le_of_ble_eq_true rfl) (⟨_, rfl, rfl⟩) ?_
  exact ex_sub (lo' := [(0, .ref x0), (1, .int x1), (2, .int x2), (3, .int x3), (4, .int x4)]) [0, 1, 2, 3, 4] rfl (t_X11_says_0 hd _ _ _ _ _ _ _  h)
noncomputable def f_X11_name_0 (x0 : Nat) (x1 : Int32) (M : Mem) : Option (Mem) :=
  (gR M 11 x0 20).bind fun v1 =>
  (gR M 11 x0 0).bind fun v2 =>
  (rI M v2 8).bind fun v3 =>
  (wI M v1 0 v3).bind fun q4 =>
  (gR q4 11 x0 20).bind fun v5 =>
  (f_X11_get x0 x1 16 q4).bind fun v6 =>
  (wI q4 v5 1 v6).bind fun q7 =>
  (gR q7 11 x0 20).bind fun v8 =>
  (f_X11_get x0 x1 0 q7).bind fun v9 =>
  (wI q7 v8 2 v9).bind fun q10 =>
  (gR q10 11 x0 20).bind fun v11 =>
  (f_X11_get x0 x1 1 q10).bind fun v12 =>
  (wI q10 v11 3 v12).bind fun q13 =>
  (gR q13 11 x0 20).bind fun v14 =>
  (f_X11_get x0 x1 2 q13).bind fun v15 =>
  (wI q13 v14 4 v15).bind fun q16 =>
  (gR q16 11 x0 20).bind fun v17 =>
  (wI q16 v17 5 x1).bind fun q18 =>
  (gR q18 11 x0 20).bind fun v19 =>
  (f_X11_get x0 x1 3 q18).bind fun v20 =>
  (wI q18 v19 6 v20).bind fun q21 =>
  (gR q21 11 x0 20).bind fun v22 =>
  (f_X11_get x0 x1 3 q21).bind fun v23 =>
  (f_X11_get x0 x1 2 q21).bind fun v24 =>
  (f_X11_longOf v24).bind fun v25 =>
  if v23 = v25 then
  ((wI q21 v22 7 1).bind fun q28 =>
  some q28)
  else
  ((wI q21 v22 7 0).bind fun q27 =>
  some q27)
set_option maxHeartbeats 4000000 in
theorem t_X11_name_0 {X : XV} {d : Nat} (hd : 2 ≤ d + 1) : ∀ (x0 : Nat) (x1 : Int32) (M : Mem) (res : Mem), f_X11_name_0  x0 x1 M = some res → Ex X (d + 1) mX11_name 0 [(0, .ref x0), (1, .int x1)] [] M none res := by
  intro x0 x1 M res  h
  unfold f_X11_name_0 at h
  refine ex_aload_n (pc := 0) 0 dX11_name_0 rfl rfl ?_
  obtain ⟨v1, ev1, h⟩ := ob_some h
  refine ex_gR (pc := 1) ev1 dX11_name_1 lfX11_32 ?_
  refine ex_iconst (pc := 4) 0 dX11_name_4 rfl ?_
  refine ex_aload_n (pc := 5) 0 dX11_name_5 rfl rfl ?_
  obtain ⟨v2, ev2, h⟩ := ob_some h
  refine ex_gR (pc := 6) ev2 dX11_name_6 lfX11_7 ?_
  refine ex_bipush (pc := 9) 8 dX11_name_9 (by decide) ?_
  obtain ⟨v3, ev3, h⟩ := ob_some h
  refine ex_rI (pc := 11) ev3 dX11_name_11 ?_
  obtain ⟨q4, eq4, h⟩ := ob_some h
  refine ex_wI (pc := 12) eq4 dX11_name_12 ?_
  refine ex_aload_n (pc := 13) 0 dX11_name_13 rfl rfl ?_
  obtain ⟨v5, ev5, h⟩ := ob_some h
  refine ex_gR (pc := 14) ev5 dX11_name_14 lfX11_32 ?_
  refine ex_iconst (pc := 17) 1 dX11_name_17 rfl ?_
  refine ex_aload_n (pc := 18) 0 dX11_name_18 rfl rfl ?_
  refine ex_iload_n (pc := 19) 1 dX11_name_19 rfl rfl ?_
  refine ex_bipush (pc := 20) 16 dX11_name_20 (by decide) ?_
  obtain ⟨v6, ev6, h⟩ := ob_some h
  refine ex_callV2r (pc := 22) dX11_name_22 jX11_get lmX11_107 jiX11_get jvX11_get (o_X11_get ev6) rfl (Nat.le_of_ble_eq_true rfl) (s_X11_get (by omega)  ev6) ?_
  obtain ⟨q7, eq7, h⟩ := ob_some h
  refine ex_wI (pc := 25) eq7 dX11_name_25 ?_
  refine ex_aload_n (pc := 26) 0 dX11_name_26 rfl rfl ?_
  obtain ⟨v8, ev8, h⟩ := ob_some h
  refine ex_gR (pc := 27) ev8 dX11_name_27 lfX11_32 ?_
  refine ex_iconst (pc := 30) 2 dX11_name_30 rfl ?_
  refine ex_aload_n (pc := 31) 0 dX11_name_31 rfl rfl ?_
  refine ex_iload_n (pc := 32) 1 dX11_name_32 rfl rfl ?_
  refine ex_iconst (pc := 33) 0 dX11_name_33 rfl ?_
  obtain ⟨v9, ev9, h⟩ := ob_some h
  refine ex_callV2r (pc := 34) dX11_name_34 jX11_get lmX11_107 jiX11_get jvX11_get (o_X11_get ev9) rfl (Nat.le_of_ble_eq_true rfl) (s_X11_get (by omega)  ev9) ?_
  obtain ⟨q10, eq10, h⟩ := ob_some h
  refine ex_wI (pc := 37) eq10 dX11_name_37 ?_
  refine ex_aload_n (pc := 38) 0 dX11_name_38 rfl rfl ?_
  obtain ⟨v11, ev11, h⟩ := ob_some h
  refine ex_gR (pc := 39) ev11 dX11_name_39 lfX11_32 ?_
  refine ex_iconst (pc := 42) 3 dX11_name_42 rfl ?_
  refine ex_aload_n (pc := 43) 0 dX11_name_43 rfl rfl ?_
  refine ex_iload_n (pc := 44) 1 dX11_name_44 rfl rfl ?_
  refine ex_iconst (pc := 45) 1 dX11_name_45 rfl ?_
  obtain ⟨v12, ev12, h⟩ := ob_some h
  refine ex_callV2r (pc := 46) dX11_name_46 jX11_get lmX11_107 jiX11_get jvX11_get (o_X11_get ev12) rfl (Nat.le_of_ble_eq_true rfl) (s_X11_get (by omega)  ev12) ?_
  obtain ⟨q13, eq13, h⟩ := ob_some h
  refine ex_wI (pc := 49) eq13 dX11_name_49 ?_
  refine ex_aload_n (pc := 50) 0 dX11_name_50 rfl rfl ?_
  obtain ⟨v14, ev14, h⟩ := ob_some h
  refine ex_gR (pc := 51) ev14 dX11_name_51 lfX11_32 ?_
  refine ex_iconst (pc := 54) 4 dX11_name_54 rfl ?_
  refine ex_aload_n (pc := 55) 0 dX11_name_55 rfl rfl ?_
  refine ex_iload_n (pc := 56) 1 dX11_name_56 rfl rfl ?_
  refine ex_iconst (pc := 57) 2 dX11_name_57 rfl ?_
  obtain ⟨v15, ev15, h⟩ := ob_some h
  refine ex_callV2r (pc := 58) dX11_name_58 jX11_get lmX11_107 jiX11_get jvX11_get (o_X11_get ev15) rfl (Nat.le_of_ble_eq_true rfl) (s_X11_get (by omega)  ev15) ?_
  obtain ⟨q16, eq16, h⟩ := ob_some h
  refine ex_wI (pc := 61) eq16 dX11_name_61 ?_
  refine ex_aload_n (pc := 62) 0 dX11_name_62 rfl rfl ?_
  obtain ⟨v17, ev17, h⟩ := ob_some h
  refine ex_gR (pc := 63) ev17 dX11_name_63 lfX11_32 ?_
  refine ex_iconst (pc := 66) 5 dX11_name_66 rfl ?_
  refine ex_iload_n (pc := 67) 1 dX11_name_67 rfl rfl ?_
  obtain ⟨q18, eq18, h⟩ := ob_some h
  refine ex_wI (pc := 68) eq18 dX11_name_68 ?_
  refine ex_aload_n (pc := 69) 0 dX11_name_69 rfl rfl ?_
  obtain ⟨v19, ev19, h⟩ := ob_some h
  refine ex_gR (pc := 70) ev19 dX11_name_70 lfX11_32 ?_
  refine ex_bipush (pc := 73) 6 dX11_name_73 (by decide) ?_
  refine ex_aload_n (pc := 75) 0 dX11_name_75 rfl rfl ?_
  refine ex_iload_n (pc := 76) 1 dX11_name_76 rfl rfl ?_
  refine ex_iconst (pc := 77) 3 dX11_name_77 rfl ?_
  obtain ⟨v20, ev20, h⟩ := ob_some h
  refine ex_callV2r (pc := 78) dX11_name_78 jX11_get lmX11_107 jiX11_get jvX11_get (o_X11_get ev20) rfl (Nat.le_of_ble_eq_true rfl) (s_X11_get (by omega)  ev20) ?_
  obtain ⟨q21, eq21, h⟩ := ob_some h
  refine ex_wI (pc := 81) eq21 dX11_name_81 ?_
  refine ex_aload_n (pc := 82) 0 dX11_name_82 rfl rfl ?_
  obtain ⟨v22, ev22, h⟩ := ob_some h
  refine ex_gR (pc := 83) ev22 dX11_name_83 lfX11_32 ?_
  refine ex_bipush (pc := 86) 7 dX11_name_86 (by decide) ?_
  refine ex_aload_n (pc := 88) 0 dX11_name_88 rfl rfl ?_
  refine ex_iload_n (pc := 89) 1 dX11_name_89 rfl rfl ?_
  refine ex_iconst (pc := 90) 3 dX11_name_90 rfl ?_
  obtain ⟨v23, ev23, h⟩ := ob_some h
  refine ex_callV2r (pc := 91) dX11_name_91 jX11_get lmX11_107 jiX11_get jvX11_get (o_X11_get ev23) rfl (Nat.le_of_ble_eq_true rfl) (s_X11_get (by omega)  ev23) ?_
  refine ex_aload_n (pc := 94) 0 dX11_name_94 rfl rfl ?_
  refine ex_iload_n (pc := 95) 1 dX11_name_95 rfl rfl ?_
  refine ex_iconst (pc := 96) 2 dX11_name_96 rfl ?_
  obtain ⟨v24, ev24, h⟩ := ob_some h
  refine ex_callV2r (pc := 97) dX11_name_97 jX11_get lmX11_107 jiX11_get jvX11_get (o_X11_get ev24) rfl (Nat.le_of_ble_eq_true rfl) (s_X11_get (by omega)  ev24) ?_
  obtain ⟨v25, ev25, h⟩ := ob_some h
  refine ex_callS1r (pc := 100) dX11_name_100 jX11_longOf lmX11_91 jsX11_longOf (Nat.le_of_ble_eq_true rfl) (s_X11_longOf (by omega)  ev25) ?_
  by_cases c26 : v23 = v25
  · rw [if_pos c26] at h
    refine ex_icmp_ne_f (pc := 103) dX11_name_103 110 rfl c26 ?_
    refine ex_iconst (pc := 106) 1 dX11_name_106 rfl ?_
    refine ex_goto (pc := 107) 111 dX11_name_107 rfl ?_
    obtain ⟨q28, eq28, h⟩ := ob_some h
    refine ex_wI (pc := 111) eq28 dX11_name_111 ?_
    cases h
    exact ex_return (pc := 112) dX11_name_112
  · rw [if_neg c26] at h
    refine ex_icmp_ne_t (pc := 103) 110 dX11_name_103 rfl c26 ?_
    refine ex_iconst (pc := 110) 0 dX11_name_110 rfl ?_
    obtain ⟨q27, eq27, h⟩ := ob_some h
    refine ex_wI (pc := 111) eq27 dX11_name_111 ?_
    cases h
    exact ex_return (pc := 112) dX11_name_112
noncomputable def f_X11_name (x0 : Nat) (x1 : Int32) (M : Mem) : Option (Mem) := if isOb M 11 x0 = true then f_X11_name_0 x0 x1 M else none
theorem o_X11_name {x0 : Nat} {x1 : Int32} {M : Mem} {res : Mem} (h : f_X11_name x0 x1 M = some res) : isO M 11 x0 := by
  unfold f_X11_name at h
  split at h
  · rename_i hc; exact isOb_iff hc
  · cases h
set_option maxHeartbeats 4000000 in
theorem s_X11_name {X : XV} {d : Nat} (hd : 2 ≤ d) {x0 : Nat} {x1 : Int32} {M : Mem} {res : Mem} (h : f_X11_name x0 x1 M = some res) : Mx X d mX11_name [.ref x0, .int x1] M none res := by
  obtain ⟨d, rfl⟩ : ∃ e, d = e + 1 := ⟨d - 1, by omega⟩
  unfold f_X11_name at h
  split at h
  rotate_left
  · cases h
  refine Mx.of (by decide) (Nat.le_of_ble_eq_true rfl) (rfl) ?_
  exact ex_sub (lo' := [(0, .ref x0), (1, .int x1)]) [0, 1] rfl (t_X11_name_0 hd _ _ _ _  h)
noncomputable def f_X11_looseOf_0 (x0 : Nat) (x1 : Int32) (x2 : Int32) (M : Mem) : Option (Int32 × Mem) :=
  (f_X11_name x0 x2 M).bind fun q1 =>
  (gR q1 11 x0 20).bind fun v2 =>
  (rI q1 v2 3).bind fun v3 =>
  (gR q1 11 x0 20).bind fun v4 =>
  (rI q1 v4 1).bind fun v5 =>
  (f_X11_says x0 x1 0 (v3 - (v5 / 3)) 10 q1).bind fun q6 =>
  some (q6.1, q6.2)
set_option maxHeartbeats 4000000 in
theorem t_X11_looseOf_0 {X : XV} {d : Nat} (hd : 5 ≤ d + 1) : ∀ (x0 : Nat) (x1 : Int32) (x2 : Int32) (M : Mem) (res : Int32 × Mem), f_X11_looseOf_0  x0 x1 x2 M = some res → Ex X (d + 1) mX11_looseOf 0 [(0, .ref x0), (1, .int x1), (2, .int x2)] [] M (some (.int res.1)) res.2 := by
  intro x0 x1 x2 M res  h
  unfold f_X11_looseOf_0 at h
  refine ex_aload_n (pc := 0) 0 dX11_looseOf_0 rfl rfl ?_
  refine ex_iload_n (pc := 1) 2 dX11_looseOf_1 rfl rfl ?_
  obtain ⟨q1, eq1, h⟩ := ob_some h
  refine ex_callV1v (pc := 2) dX11_looseOf_2 jX11_name lmX11_316 jiX11_name jvX11_name (o_X11_name eq1) rfl (Nat.le_of_ble_eq_true rfl) (s_X11_name (by omega)  eq1) ?_
  refine ex_aload_n (pc := 5) 0 dX11_looseOf_5 rfl rfl ?_
  refine ex_iload_n (pc := 6) 1 dX11_looseOf_6 rfl rfl ?_
  refine ex_iconst (pc := 7) 0 dX11_looseOf_7 rfl ?_
  refine ex_aload_n (pc := 8) 0 dX11_looseOf_8 rfl rfl ?_
  obtain ⟨v2, ev2, h⟩ := ob_some h
  refine ex_gR (pc := 9) ev2 dX11_looseOf_9 lfX11_32 ?_
  refine ex_iconst (pc := 12) 3 dX11_looseOf_12 rfl ?_
  obtain ⟨v3, ev3, h⟩ := ob_some h
  refine ex_rI (pc := 13) ev3 dX11_looseOf_13 ?_
  refine ex_aload_n (pc := 14) 0 dX11_looseOf_14 rfl rfl ?_
  obtain ⟨v4, ev4, h⟩ := ob_some h
  refine ex_gR (pc := 15) ev4 dX11_looseOf_15 lfX11_32 ?_
  refine ex_iconst (pc := 18) 1 dX11_looseOf_18 rfl ?_
  obtain ⟨v5, ev5, h⟩ := ob_some h
  refine ex_rI (pc := 19) ev5 dX11_looseOf_19 ?_
  refine ex_iconst (pc := 20) 3 dX11_looseOf_20 rfl ?_
  refine ex_idiv (pc := 21) dX11_looseOf_21 (by decide) ?_
  refine ex_isub (pc := 22) dX11_looseOf_22 ?_
  refine ex_bipush (pc := 23) 10 dX11_looseOf_23 (by decide) ?_
  obtain ⟨q6, eq6, h⟩ := ob_some h
  refine ex_callV4r (pc := 25) dX11_looseOf_25 jX11_says lmX11_319 jiX11_says jvX11_says (o_X11_says eq6) rfl (Nat.le_of_ble_eq_true rfl) (s_X11_says (by omega)  eq6) ?_
  cases h
  exact ex_ireturn (pc := 28) dX11_looseOf_28
noncomputable def f_X11_looseOf (x0 : Nat) (x1 : Int32) (x2 : Int32) (M : Mem) : Option (Int32 × Mem) := if isOb M 11 x0 = true then f_X11_looseOf_0 x0 x1 x2 M else none
theorem o_X11_looseOf {x0 : Nat} {x1 : Int32} {x2 : Int32} {M : Mem} {res : Int32 × Mem} (h : f_X11_looseOf x0 x1 x2 M = some res) : isO M 11 x0 := by
  unfold f_X11_looseOf at h
  split at h
  · rename_i hc; exact isOb_iff hc
  · cases h
set_option maxHeartbeats 4000000 in
theorem s_X11_looseOf {X : XV} {d : Nat} (hd : 5 ≤ d) {x0 : Nat} {x1 : Int32} {x2 : Int32} {M : Mem} {res : Int32 × Mem} (h : f_X11_looseOf x0 x1 x2 M = some res) : Mx X d mX11_looseOf [.ref x0, .int x1, .int x2] M (some (.int res.1)) res.2 := by
  obtain ⟨d, rfl⟩ : ∃ e, d = e + 1 := ⟨d - 1, by omega⟩
  unfold f_X11_looseOf at h
  split at h
  rotate_left
  · cases h
  refine Mx.of (by decide) (Nat.le_of_ble_eq_true rfl) (⟨_, rfl, rfl⟩) ?_
  exact ex_sub (lo' := [(0, .ref x0), (1, .int x1), (2, .int x2)]) [0, 1, 2] rfl (t_X11_looseOf_0 hd _ _ _ _ _  h)
