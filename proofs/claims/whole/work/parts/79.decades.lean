/-! decades -/
section DEC
variable {N : Mem} {σ τ υ υ0 : ST} {s s' : SS} {A : Nat → Int32}
theorem wf_12x (hW : WFs s) {v : Nat} (hv : v < 30557) : WFs (us s 1 2 v) := by
  have e : cur (us s 1 2 v) = us (cur s) 0 2 v := cur_us (k := 0)
  exact WFs_w hW (fun k i hk => us_row (by omega)) (by rw [e]; exact ww_02 hW.1 hv) (by rw [us_col (by omega)]; exact Nat.le_refl _)
theorem rr_12x (hW : WFs s) (hR : RR A s) {v : Nat} : RR (ua A 9 (nI v)) (us s 1 2 v) := by
  have e : cur (us s 1 2 v) = us (cur s) 0 2 v := cur_us (k := 0)
  have h9 := RW.sc9 (A := A) (w := cur s) ⟨hR.1.1, hR.1.2.2.2.2.2.2.2.2.1, hR.1.2.2.2.2.2.2.2.2.2.1, hR.2.1⟩ (v := v)
  refine RR_w hW hR (fun i _ _ => ua_ne (by omega)) (fun i _ _ => ua_ne (by omega)) (fun k i hk => us_row (by omega)) ?_ ?_ ?_ ?_ ?_ ?_
  · rw [ua_ne (by omega), us_col (by omega)]; exact hR.1.1
  · rw [ua_ne (by omega), us_col (by omega)]; exact hR.1.2.2.2.2.2.2.2.2.1
  · rw [ua_same rfl, us_same rfl rfl]
  · rw [ua_ne (by omega), us_col (by omega)]; exact hR.1.2.2.2.2.2.2.2.2.2.2
  · rw [e]; exact h9.2.2.2
  · rw [e]; exact Rbk_b (fun i hi => ua_ne (by omega)) (fun i => us_row (by omega)) (us_col (by omega)) hW.1.2.2.2.1 hR.2.2.2.2.2.2.2.2.2.2.2
theorem handle_e (hC : RC 1 σ s) (hW : WFs s) (hR : RR (υ.1 643) s) {x : Nat} (hx : x < 30557) (hc : 0 < s 1 0) (h4 : x % 5 ≠ 4) : ∃ τ υ' s', g_X10_handle N 0 (nI (x % s 1 0)) (nI x) σ = some τ ∧ g_X11_happens N 642 (nI x) υ = some υ' ∧ RC 1 τ s' ∧ FC σ τ ∧ WFs s' ∧ RR (υ'.1 643) s' ∧ FR υ υ' ∧ s' 0 5 = s 0 5 := by
  have hc5 : s 1 0 ≤ 5 := hW.1.1
  have hm : x % s 1 0 < s 1 0 := Nat.mod_lt _ hc
  have hT := hasT (N := N) (c_1_0 hC) hc5 hm
  have e0 : xI 4607 υ (642 + 1) (nI 0) = some (nI (s 1 0)) := by
    rw [xI_n (by omega) (by omega)]
    exact congrArg some (r_0 hR)
  have er : rmI (nI x) (nI (s 1 0)) = some (nI (x % s 1 0)) := w_rm (by omega) hc (by omega)
  have j5 : jrem (nI x) (nI 5) = nI (x % 5) := w_rem (by omega) (by omega) (by omega)
  have j10 : jrem (nI x) (nI 10) = nI (x % 10) := w_rem (by omega) (by omega) (by omega)
  have j997 : jrem (nI x) (nI 997) = nI (x % 997) := w_rem (by omega) (by omega) (by omega)
  have l5 : x % 5 < 5 := Nat.mod_lt _ (by omega)
  generalize hmx : x % s 1 0 = m at *
  have hm5 : m < 5 := by omega
  have ne : ∀ a b, a < 100 → b < 100 → a ≠ b → ¬ nI a = nI b := fun a b h1 h2 h3 h4 => h3 ((nI_eq (by omega) (by omega)).mp h4)
  have hs : g_X9_has N (0 + 1 + 1) (nI m) σ = some true := hT
  have hapA : g_X11_happens N 642 (nI x) υ = if nI (x % 5) = nI 2 then ((g_X11_lay N 642 (nI m) (nI 1) (nI (x % 10)) υ).bind fun r7 => some r7) else if nI (x % 5) = nI 3 then ((g_X11_clearRoll N 642 (nI m) υ).bind fun r6 => some r6) else (g_X11_canCrank N 642 (nI m) υ).bind fun v4 => if v4 = false then some υ else (g_X11_crankNow N 642 (nI m) (nI (x % 997)) υ).bind fun r5 => some r5 := by
    unfold g_X11_happens g_X11_happens_0
    rw [k_5, j5, k_4, if_neg (ne _ _ (by omega) (by omega) h4), k_0, e0, bnd, if_neg (ne _ _ (by omega) (by omega) (by omega)), bnd, er, bnd, k_2, k_3, k_1, k_10, j10, k_997, j997]
  have hanA : g_X10_handle N 0 (nI m) (nI x) σ = if nI 1 < nI (x % 5) then (if nI (x % 5) = nI 2 then ((yI 5 σ (0 + 1 + 1 + 4) (nI m) (nI (x % 10))).bind fun r3 => some r3) else ((yI 5 σ (0 + 1 + 1 + 6) (nI m) (nI 0)).bind fun r2 => some r2)) else (g_X9_canTurn N (0 + 1 + 1) (nI m) σ).bind fun v4 => if v4 = false then some σ else (g_X9_turn N (0 + 1 + 1) (nI m) (nI (x % 997)) σ).bind fun r5 => some r5 := by
    unfold g_X10_handle g_X10_handle_0
    rw [hs, bnd, if_pos rfl, k_5, j5, k_1, k_2, k_10, j10, k_0, k_997, j997]
  rw [hapA, hanA]
  by_cases c2 : x % 5 = 2
  · have hv : x % 10 ≤ 9 := by have := Nat.mod_lt x (show 0 < 10 by omega); omega
    refine ⟨setI σ 6 m (nI (x % 10)), setI υ 643 (11 + (18 * m + 1)) (nI (x % 10)), us s 5 m (x % 10), ?_, ?_, hC.set (k := 5) (by omega) (by omega), FC.rfl.set (by omega), wf_5 hW hv, ?_, FR.rfl.set (by omega), us_row (by omega)⟩
    · rw [if_pos (nI_lt (by omega) (by omega)), if_pos (by rw [c2]), yI_n hm5 (by omega), bnd]
    · rw [if_pos (by rw [c2]), lay_r hm5 (by omega), bnd]
    · rw [I_ua]
      exact rr_f1 hW hR hm
  · by_cases c3 : x % 5 = 3
    · have hcl := clear_ok (N := N) (σ := υ) (f := υ.1 643) hm5
      rw [R_id] at hcl
      refine ⟨setI σ 8 m (nI 0), setR υ 643 (clr (υ.1 643) m), us s 7 m 0, ?_, ?_, hC.set (k := 7) (by omega) (by omega), FC.rfl.set (by omega), wf_7 hW (by omega), ?_, FR.rfl.row (by omega), us_row (by omega)⟩
      · rw [if_pos (nI_lt (by omega) (by omega)), if_neg (ne _ _ (by omega) (by omega) c2), yI_n hm5 (by omega), bnd]
      · rw [if_neg (ne _ _ (by omega) (by omega) c2), if_pos (by rw [c3]), hcl, bnd]
      · rw [R_1]
        exact rr_clr hW hR hm
    · have hv : x % 997 ≤ 9999 := by have := Nat.mod_lt x (show 0 < 997 by omega); omega
      rw [if_neg (nI_nlt (by omega) (by omega)), if_neg (ne _ _ (by omega) (by omega) c2), if_neg (ne _ _ (by omega) (by omega) c3)]
      have ct := canT (N := N) hC hW hm
      have cr := canR (N := N) hW hR hm
      have ct' : g_X9_canTurn N (0 + 1 + 1) (nI m) σ = some (decide (s 4 m < 99)) := ct
      rw [ct', cr, bnd, bnd]
      by_cases hw : s 4 m < 99
      · have e2 := trn_c (N := N) hC hW hm hv
        have e2' : g_X9_turn N (0 + 1 + 1) (nI m) (nI (x % 997)) σ = _ := e2
        have e4 := trn_r (N := N) (σ := υ) (f := υ.1 643) hW hR hm hv
        rw [R_id] at e4
        refine ⟨setI (setI σ 7 m (nI ((s 6 m + x % 997) % 10000))) 5 m (nI (s 4 m + 1)), setR υ 643 (ua (ua (υ.1 643) (11 + (18 * m + 2)) (nI ((s 6 m + x % 997) % 10000))) (11 + 18 * m) (nI (s 4 m + 1))), trn s m (x % 997), ?_, ?_, (hC.set (k := 6) (by omega) (by omega)).set (k := 4) (by omega) (by omega), (FC.rfl.set (by omega)).set (by omega), wf_trn hW hw, ?_, FR.rfl.row (a := 643) (by omega), ?_⟩
        · rw [decide_eq_true hw, if_neg (by decide), e2', bnd]
        · rw [decide_eq_true hw, if_neg (by decide), e4, bnd]
        · rw [R_1]
          exact rr_trn hW hR hm
        · unfold trn
          rw [us_row (by omega), us_row (by omega)]
      · refine ⟨σ, υ, s, ?_, ?_, hC, FC.rfl, hW, hR, FR.rfl, rfl⟩
        · rw [decide_eq_false hw, if_pos rfl]
        · rw [decide_eq_false hw, if_pos rfl]
theorem dec_l (p : Nat) (hp : p ≤ 40) : ∀ d i n n2 σ υ s, i + d = p → d < n → d < n2 → RC 1 σ s → WFs s → RX N σ s υ → ∃ r s' τ υ', g_X10_decades_49 N n 0 (nI p) (nI i) σ = some (r, τ) ∧ g_X11_decades_43 N n2 642 (nI p) (nI i) υ = some (r, υ') ∧ RC 1 τ s' ∧ FC σ τ ∧ WFs s' ∧ RR (υ'.1 643) s' ∧ FR υ υ' ∧ s' 0 5 = s 0 5 := by
  intro d
  induction d with
  | zero =>
    intro i n n2 σ υ s hi hn hn2 hC hW hX
    obtain ⟨n, rfl⟩ : ∃ x, n = x + 1 := ⟨n - 1, by omega⟩
    obtain ⟨n2, rfl⟩ : ∃ x, n2 = x + 1 := ⟨n2 - 1, by omega⟩
    obtain rfl : i = p := by omega
    have e8 : xI 4607 υ (642 + 1) (nI 8) = some (nI (s 1 1)) := by
      rw [xI_n (by omega) (by omega)]
      exact congrArg some (r_8 hX.1)
    have c11 : σ.1 (0 + 1 + 1) 1 = nI (s 1 1) := c_1_1 hC
    refine ⟨nI (s 1 1), s, σ, υ, ?_, ?_, hC, FC.rfl, hW, hX.1, FR.rfl, rfl⟩
    · rw [g_X10_decades_49, if_pos (nI_le (Nat.le_refl _) (by omega)), c11]
    · rw [g_X11_decades_43, if_pos (nI_le (Nat.le_refl _) (by omega)), k_8, e8, bnd]
  | succ d ih =>
    intro i n n2 σ υ s hi hn hn2 hC hW hX
    obtain ⟨n, rfl⟩ : ∃ x, n = x + 1 := ⟨n - 1, by omega⟩
    obtain ⟨n2, rfl⟩ : ∃ x, n2 = x + 1 := ⟨n2 - 1, by omega⟩
    have hx : s 1 2 < 30557 := hW.1.2.2.1
    have b1 : s 1 1 ≤ 9999 := hW.1.2.1
    have hc5 : s 1 0 ≤ 5 := hW.1.1
    have c12 : σ.1 (0 + 1 + 1) 2 = nI (s 1 2) := c_1_2 hC
    have hC1 : RC 1 (setI σ 2 2 (nI (nxt (s 1 2)))) (us s 1 2 (nxt (s 1 2))) := hC.set (k := 1) (by omega) (by omega)
    have hF1 : FC σ (setI σ 2 2 (nI (nxt (s 1 2)))) := FC.rfl.set (by omega)
    have hW1 := wf_12x hW (nxt_b (s 1 2))
    have hV := (rv_of hX.1).1
    have ec : cur s 0 2 = s 1 2 := rfl
    have ea := anew_r (N := N) (w := cur s) hV (by rw [ec]; exact hx)
    rw [ec] at ea
    have hfr : FR υ (setI υ 643 9 (nI (nxt (s 1 2)))) := FR.rfl.set (by omega)
    have h05 : us s 1 2 (nxt (s 1 2)) 0 5 = s 0 5 := us_row (by omega)
    have hX1 : RX N (setI σ 2 2 (nI (nxt (s 1 2)))) (us s 1 2 (nxt (s 1 2))) (setI υ 643 9 (nI (nxt (s 1 2)))) := (hX.fr hfr (by rw [I_ua]; exact rr_12x hW hX.1) h05).of rfl
    have e9 : xI 4607 υ (642 + 1) (nI 9) = some (nI (s 1 2)) := by
      rw [xI_n (by omega) (by omega)]
      exact congrArg some (r_9 hX.1)
    have j5 : jrem (nI (s 1 2)) (nI 5) = nI (s 1 2 % 5) := w_rem (by omega) (by omega) (by omega)
    have rn : g_X9_renewX N (0 + 1 + 1) σ = some (setI σ 2 2 (nI (nxt (s 1 2)))) := by
      unfold g_X9_renewX g_X9_renewX_0 nxt
      rw [c12, k_433, pk_mul, k_313, nI_add, k_30557, w_rem (by omega) (by omega) (by omega), bnd]
    have l5 : s 1 2 % 5 < 5 := Nat.mod_lt _ (by omega)
    have t11 : (setI σ 2 2 (nI (nxt (s 1 2)))).1 (0 + 1 + 1) 1 = nI (s 1 1) := (c_1_1 hC1).trans (by rw [us_col (by omega)])
    have t10 : (setI σ 2 2 (nI (nxt (s 1 2)))).1 (0 + 1 + 1) 0 = nI (s 1 0) := (c_1_0 hC1).trans (by rw [us_col (by omega)])
    have ne : ∀ a b, a < 100 → b < 100 → a ≠ b → ¬ nI a = nI b := fun a b h1 h2 h3 h4 => h3 ((nI_eq (by omega) (by omega)).mp h4)
    have go : ∀ τ1 υ1 s1, RC 1 τ1 s1 → FC σ τ1 → WFs s1 → RX N τ1 s1 υ1 → FR υ υ1 → s1 0 5 = s 0 5 → g_X10_decades_49 N (n + 1) 0 (nI p) (nI i) σ = g_X10_decades_49 N n 0 (nI p) (nI (i + 1)) τ1 → g_X11_happens N 642 (nI (s 1 2)) (setI υ 643 9 (nI (nxt (s 1 2)))) = some υ1 → ∃ r s' τ υ', g_X10_decades_49 N (n + 1) 0 (nI p) (nI i) σ = some (r, τ) ∧ g_X11_decades_43 N (n2 + 1) 642 (nI p) (nI i) υ = some (r, υ') ∧ RC 1 τ s' ∧ FC σ τ ∧ WFs s' ∧ RR (υ'.1 643) s' ∧ FR υ υ' ∧ s' 0 5 = s 0 5 := by
      intro τ1 υ1 s1 q1 q2 q3 q4 q5 q6 q7 q8
      obtain ⟨r, s', τ, υ', z1, z2, z3, z4, z5, z6, z7, z8⟩ := ih (i + 1) n n2 τ1 υ1 s1 (by omega) (by omega) (by omega) q1 q3 q4
      refine ⟨r, s', τ, υ', q7.trans z1, ?_, z3, q2.trans z4, z5, z6, q5.trans z7, z8.trans q6⟩
      rw [g_X11_decades_43, if_neg (nI_ge (by omega) (by omega)), k_9, e9, bnd, ea, bnd, q8, bnd, k_1, nI_add]
      exact z2
    have e8' : xI 4607 (setI υ 643 9 (nI (nxt (s 1 2)))) (642 + 1) (nI 8) = some (nI (s 1 1)) := by
      rw [xI_n (by omega) (by omega)]
      exact congrArg some ((r_8 hX1.1).trans (by rw [us_col (by omega)]))
    have e0' : xI 4607 (setI υ 643 9 (nI (nxt (s 1 2)))) (642 + 1) (nI 0) = some (nI (s 1 0)) := by
      rw [xI_n (by omega) (by omega)]
      exact congrArg some ((r_0 hX1.1).trans (by rw [us_col (by omega)]))
    by_cases h4 : s 1 2 % 5 = 4
    · by_cases hn9 : s 1 1 < 9999
      · obtain ⟨τ2, υ2, s2, e, o, a0, a1, a2, a3, a4, a5, a6, a7, a8, a9, a10, a11, a12⟩ := ngt_e (N := N) hC1 hW1 hX1 (by rw [us_col (by omega)]; exact hn9)
        refine go τ2 υ2 s2 a4 (hF1.trans a5) a6 (a7.of (by rw [a5.q])) (hfr.trans a8) (a9.trans h05) ?_ ?_
        · rw [g_X10_decades_49, if_neg (nI_ge (by omega) (by omega)), rn, bnd, c12, k_5, j5, k_4, if_pos (by rw [h4]), t11, k_9999, if_neg (nI_ge hn9 (by omega))]
          show ((g_X4_theText N 1 (setI σ 2 2 (nI (nxt (s 1 2))))).bind fun v4 => (g_X0_pass N 601 2 20 13 v4 (setI σ 2 2 (nI (nxt (s 1 2))))).bind fun r5 => g_X10_decades_49 N n 0 (nI p) (nI i + 1) r5.2) = _
          rw [a1, bnd, a2, bnd, k_1, nI_add]
        · unfold g_X11_happens g_X11_happens_0
          rw [k_5, j5, k_4, if_pos (by rw [h4]), k_8, e8', bnd, k_9999, if_neg (nI_ge hn9 (by omega)), a3, bnd]
      · refine go _ _ _ hC1 hF1 hW1 hX1 hfr h05 ?_ ?_
        · rw [g_X10_decades_49, if_neg (nI_ge (by omega) (by omega)), rn, bnd, c12, k_5, j5, k_4, if_pos (by rw [h4]), t11, k_9999, if_pos (nI_le (by omega) (by omega)), k_1, nI_add]
        · unfold g_X11_happens g_X11_happens_0
          rw [k_5, j5, k_4, if_pos (by rw [h4]), k_8, e8', bnd, k_9999, if_pos (nI_le (by omega) (by omega))]
    · by_cases hc : s 1 0 = 0
      · refine go _ _ _ hC1 hF1 hW1 hX1 hfr h05 ?_ ?_
        · rw [g_X10_decades_49, if_neg (nI_ge (by omega) (by omega)), rn, bnd, c12, k_5, j5, k_4, if_neg (ne _ _ (by omega) (by omega) h4), t10, k_0, if_pos (nI_le (by omega) (by omega)), k_1, nI_add]
        · unfold g_X11_happens g_X11_happens_0
          rw [k_5, j5, k_4, if_neg (ne _ _ (by omega) (by omega) h4), k_0, e0', bnd, if_pos (by rw [hc])]
      · have hc0 : us s 1 2 (nxt (s 1 2)) 1 0 = s 1 0 := us_col (by omega)
        obtain ⟨τ2, υ2, s2, a1, a2, a3, a4, a5, a6, a7, a8⟩ := handle_e (N := N) hC1 hW1 hX1.1 hx (by rw [hc0]; omega) h4
        rw [hc0] at a1
        refine go τ2 υ2 s2 a3 (hF1.trans a4) a5 ((hX1.fr a7 a6 a8).of (by rw [a4.q])) (hfr.trans a7) (a8.trans h05) ?_ a2
        have er : rmI (nI (s 1 2)) (nI (s 1 0)) = some (nI (s 1 2 % s 1 0)) := w_rm (by omega) (by omega) (by omega)
        rw [g_X10_decades_49, if_neg (nI_ge (by omega) (by omega)), rn, bnd, c12, k_5, j5, k_4, if_neg (ne _ _ (by omega) (by omega) h4), t10, k_0, if_neg (nI_ge (by omega) (by omega)), er, bnd, a1, bnd, k_1, nI_add]
theorem decades_ok (hC : RC 1 σ s) (hW : WFs s) (hX : RX N σ s σ) (x y : Int32) : OK1 σ s (g_X10_decades N 0 x y) (g_X11_decades N 642 x y) := by
  refine ok1_3 hX (fun υ0 hX0 => ?_)
  rcases argn x (n := 9999) (by omega) with h | ⟨sd, hsd, rfl⟩
  · refine ⟨-nI 1, s, σ, υ0, ?_, ?_, hC, FC.rfl, hW, hX0.1, FR.rfl, rfl⟩
    · unfold g_X10_decades g_X10_decades_0
      rw [k_0, k_9999, wi10, in_f h, bnd, if_pos rfl, k_1]
    · unfold g_X11_decades g_X11_decades_0
      rw [k_0, k_9999, wi11, in_f h, bnd, if_pos rfl, k_1]
  have ws : decide (nI 0 ≤ nI sd ∧ nI sd ≤ nI 9999) = true := in_t (by omega) hsd (by omega)
  by_cases h : nI 1 ≤ y ∧ y ≤ nI 40
  · obtain ⟨n, hn, rfl⟩ := nI_of2 (M := nI 40) (nI_toInt (by omega)) (x := y) (fun q => Int32.lt_irrefl (Int32.lt_of_lt_of_le q (Int32.le_trans (by decide : (0 : Int32) ≤ nI 1) h.1))) h.2
    obtain ⟨τ1, r1, r2, r3⟩ := rem_c (N := N) hC hW
    obtain ⟨g, k1, k2⟩ := keepR (N := N) hW hX0.1
    have W1 := wf_rem hW
    have f1 : FR υ0 (setI (setR υ0 643 g) 643 9 (nI (sd * 2 + 193))) := (FR.rfl.row (by omega)).set (by omega)
    have h5 : rem s 0 5 = s 0 5 := rem_o (by omega) (by omega)
    have C1 : RC 1 (setI τ1 2 2 (nI (sd * 2 + 193))) (us (rem s) 1 2 (sd * 2 + 193)) := r2.set (k := 1) (by omega) (by omega)
    have F1 : FC σ (setI τ1 2 2 (nI (sd * 2 + 193))) := r3.set (by omega)
    have R1 : RR ((setI (setR υ0 643 g) 643 9 (nI (sd * 2 + 193))).1 643) (us (rem s) 1 2 (sd * 2 + 193)) := by
      rw [I_ua, R_1]
      exact rr_12x W1 k2
    have h55 : us (rem s) 1 2 (sd * 2 + 193) 0 5 = s 0 5 := by rw [us_row (by omega), h5]
    have X1 : RX N (setI τ1 2 2 (nI (sd * 2 + 193))) (us (rem s) 1 2 (sd * 2 + 193)) (setI (setR υ0 643 g) 643 9 (nI (sd * 2 + 193))) := (hX0.fr f1 R1 h55).of (by rw [F1.q])
    obtain ⟨r, s', τ, υ', z1, z2, z3, z4, z5, z6, z7, z8⟩ := dec_l (N := N) n hn n 0 fu fu _ _ _ (by omega) (by unfold fu; omega) (by unfold fu; omega) C1 (wf_12x W1 (by omega)) X1
    have wd : decide (nI 1 ≤ nI n ∧ nI n ≤ nI 40) = true := decide_eq_true h
    refine ⟨r, s', τ, υ', ?_, ?_, z3, F1.trans z4, z5, z6, f1.trans z7, z8.trans h55⟩
    · unfold g_X10_decades g_X10_decades_0
      rw [k_0, k_9999, wi10, ws, bnd, if_neg (by decide), k_1, k_40, wi10, wd, bnd, if_pos rfl]
      show ((g_X4_remember N 1 σ).bind fun r8 => (some (setI r8 2 2 (nI sd * 2 + 193))).bind fun r9 => g_X10_decades_49 N fu 0 (nI n) (nI 0) r9) = _
      rw [r1, bnd, k_2, pk_mul, k_193, nI_add, bnd]
      exact z1
    · unfold g_X11_decades g_X11_decades_0
      rw [k_0, k_9999, wi11, ws, bnd, if_neg (by decide), k_1, k_40, wi11, wd, bnd, if_pos rfl, k1, bnd, k_9, k_2, pk_mul, k_193, nI_add, yI_n (by omega) (by omega), bnd]
      exact z2
  · refine ⟨-nI 1, s, σ, υ0, ?_, ?_, hC, FC.rfl, hW, hX0.1, FR.rfl, rfl⟩
    · unfold g_X10_decades g_X10_decades_0
      rw [k_0, k_9999, wi10, ws, bnd, if_neg (by decide), k_1, k_40, wi10, in_f h, bnd, if_neg (by decide)]
    · unfold g_X11_decades g_X11_decades_0
      rw [k_0, k_9999, wi11, ws, bnd, if_neg (by decide), k_1, k_40, wi11, in_f h, bnd, if_neg (by decide)]
end DEC
