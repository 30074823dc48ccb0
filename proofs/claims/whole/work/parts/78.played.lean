/-! played -/
section PLY
variable {N : Mem} {σ τ υ υ0 : ST} {s s' : SS}
def PL (σ υ : ST) (N : Mem) (s : SS) (b : Bool) (s' : SS) (τ υ' : ST) : Prop := RC 1 τ s' ∧ FC σ τ ∧ WFs s' ∧ RX N σ s' υ' ∧ FR υ υ' ∧ s' 0 5 = s 0 5
theorem PL.of3 {Pr : Bool → Prop} {p q : ST → Option (Bool × ST)} (hX : RX N σ s υ) (h : OK3 Pr σ υ s p q) : ∃ b s' τ υ', p σ = some (b, τ) ∧ q υ = some (b, υ') ∧ PL σ υ N s b s' τ υ' := by
  obtain ⟨r, s', τ, υ', -, h1, h2, h3, h4, h5, h6, h7, h8⟩ := h
  exact ⟨r, s', τ, υ', h1, h2, h3, h4, h5, hX.fr h7 h6 h8, h7, h8⟩
theorem PL.ofI {p q : ST → Option (Int32 × ST)} (hX : RX N σ s υ) (h : OK3 Pi σ υ s p q) : ∃ b s' τ υ' r, p σ = some (r, τ) ∧ q υ = some (r, υ') ∧ (r = -nI 1 ↔ b = false) ∧ (r < nI 0 ↔ b = false) ∧ PL σ υ N s b s' τ υ' := by
  obtain ⟨r, s', τ, υ', h0, h1, h2, h3, h4, h5, h6, h7, h8⟩ := h
  rcases h0 with rfl | ⟨k, hk, rfl⟩
  · exact ⟨false, s', τ, υ', _, h1, h2, ⟨fun _ => rfl, fun _ => rfl⟩, ⟨fun _ => rfl, fun _ => by decide⟩, h3, h4, h5, hX.fr h7 h6 h8, h7, h8⟩
  · refine ⟨true, s', τ, υ', _, h1, h2, ⟨fun q => ?_, fun q => by cases q⟩, ⟨fun q => ?_, fun q => by cases q⟩, h3, h4, h5, hX.fr h7 h6 h8, h7, h8⟩
    · exact absurd q (fun q => (w_em (a := k) (b := 1) (by omega) (by omega) (by omega)).mp q)
    · exact absurd q (nI_nlt (by omega) (by omega))
/-- a clause of a text, played -/
theorem pl_e {t u4 j k c nC : Nat} (hj : j < 4) (hk : k < nC) (hn : nC ≤ 24) (hob : isOb N 8 t = true) (g4 : gR N 8 t 4 = some u4) (n4 : lnA N u4 = some (nI (3 * nC))) (hcl : clOk N (fun i => υ.1 645 (705 * j + i)) u4 k c) (hC : RC 1 σ s) (hW : WFs s) (hX : RX N σ s υ) : ∃ b s' τ υ', g_X10_playClause N 0 (some t) (nI k) σ = some (b, τ) ∧ g_X11_isPlayed N 642 (nI (705 * j + (1 + 4 * k))) υ = some (b, υ') ∧ PL σ υ N s b s' τ υ' := by
  obtain ⟨hc9, hR0, r0, x, y, rx, ry, h1, h2⟩ := hcl
  dsimp only at hR0 h1 h2
  have part : ∀ q, q < 3 → ∀ v, rI N u4 (nI (3 * k + q)) = some v → f_X8_clausePart t (nI k) (nI q) N = some v := by
    intro q hq v hv
    unfold f_X8_clausePart f_X8_clausePart_0
    rw [if_pos hob, k_3, pk_mul, nI_add, k_0, if_neg (nI_nlt (by omega) (by omega)), g4, bnd, n4, bnd, if_neg (nI_ge (by omega) (by omega)), bnd, show k * 3 + q = 3 * k + q by omega, hv, bnd]
  have p0 := part 0 (by omega) _ r0
  have p1 := part 1 (by omega) _ rx
  have p2 := part 2 (by omega) _ ry
  have m0 : xI 2820 υ (642 + 3) (nI (705 * j + (1 + 4 * k))) = some (nI (rk c)) := by
    rw [xI_n (by omega) (by omega)]
    exact congrArg some hR0
  have m1 : ∃ v, xI 2820 υ (642 + 3) (nI (705 * j + (1 + 4 * k)) + nI 1) = some v ∧ (3 ≤ c → v = x) := by
    refine ⟨_, by rw [nI_add, xI_n (by omega) (by omega)], fun q => ?_⟩
    rw [show 705 * j + (1 + 4 * k) + 1 = 705 * j + (1 + (4 * k + 1)) by omega]
    exact (h1 q).1
  have m2 : ∃ v, xI 2820 υ (642 + 3) (nI (705 * j + (1 + 4 * k)) + nI 2) = some v ∧ (3 ≤ c → c ≠ 7 → c ≠ 9 → v = y) := by
    refine ⟨_, by rw [nI_add, xI_n (by omega) (by omega)], fun q q7 q9 => ?_⟩
    rw [show 705 * j + (1 + 4 * k) + 2 = 705 * j + (1 + (4 * k + 2)) by omega]
    exact (h2 q q7 q9).1
  obtain ⟨v1, m1, e1⟩ := m1
  obtain ⟨v2, m2, e2⟩ := m2
  unfold g_X10_playClause g_X10_playClause_0 g_X11_isPlayed g_X11_isPlayed_0
  rw [bnd, k_1, p1, bnd, k_2, p2, bnd, k_0, p0, bnd, m1, bnd, m2, bnd, m0, bnd, k_3, k_4, k_5, k_6, k_7, k_8, k_9]
  have ne : ∀ a b, a < 100 → b < 100 → a ≠ b → ¬ nI a = nI b := fun a b h1 h2 h3 h4 => h3 ((nI_eq (by omega) (by omega)).mp h4)
  have hrk : rk c = if c = 7 then 8 else if c = 8 then 7 else c := rfl
  by_cases c3 : c = 3
  · subst c3
    obtain rfl := e1 (by omega)
    obtain rfl := e2 (by omega) (by omega) (by omega)
    obtain ⟨b, s', τ, υ', r, q1, q2, q3, q4, q5⟩ := PL.ofI hX (machine_x (N := N) hC hW hX.1 v1 v2)
    refine ⟨b, s', τ, υ', ?_, ?_, q5⟩
    · rw [if_pos rfl, q1, bnd]
      dsimp only
      cases b with
      | false => rw [if_pos (q3.mpr rfl)]
      | true => rw [if_neg (fun q => Bool.noConfusion (q3.mp q))]
    · rw [show rk 3 = 3 from rfl, if_pos rfl, q2, bnd]
      dsimp only
      cases b with
      | false => rw [if_pos (q4.mpr rfl)]
      | true => rw [if_neg (fun q => Bool.noConfusion (q4.mp q))]
  rw [if_neg (ne c 3 (by omega) (by omega) c3)]
  by_cases c4 : c = 4
  · subst c4
    obtain rfl := e1 (by omega)
    obtain rfl := e2 (by omega) (by omega) (by omega)
    obtain ⟨b, s', τ, υ', q1, q2, q5⟩ := PL.of3 hX (rule_x (N := N) hC hW hX.1 v1 false v2)
    refine ⟨b, s', τ, υ', ?_, ?_, q5⟩
    · rw [if_pos rfl, q1, bnd]
    · rw [show rk 4 = 4 from rfl, if_neg (ne 4 3 (by omega) (by omega) (by omega)), if_pos rfl, q2, bnd]
  rw [if_neg (ne c 4 (by omega) (by omega) c4)]
  by_cases c5 : c = 5
  · subst c5
    obtain rfl := e1 (by omega)
    obtain rfl := e2 (by omega) (by omega) (by omega)
    obtain ⟨b, s', τ, υ', q1, q2, q5⟩ := PL.of3 hX (rule_x (N := N) hC hW hX.1 v1 true v2)
    refine ⟨b, s', τ, υ', ?_, ?_, q5⟩
    · rw [if_pos rfl, q1, bnd]
    · rw [show rk 5 = 5 from rfl, if_neg (ne 5 3 (by omega) (by omega) (by omega)), if_neg (ne 5 4 (by omega) (by omega) (by omega)), if_pos rfl, q2, bnd]
  rw [if_neg (ne c 5 (by omega) (by omega) c5)]
  by_cases c6 : c = 6
  · subst c6
    obtain rfl := e1 (by omega)
    obtain rfl := e2 (by omega) (by omega) (by omega)
    obtain ⟨b, s', τ, υ', r, q1, q2, q3, q4, q5⟩ := PL.ofI hX (crank_x (N := N) hC hW hX.1 v2 v1)
    refine ⟨b, s', τ, υ', ?_, ?_, q5⟩
    · rw [if_pos rfl, q1, bnd]
      dsimp only
      cases b with
      | false => rw [if_pos (q3.mpr rfl)]
      | true => rw [if_neg (fun q => Bool.noConfusion (q3.mp q))]
    · rw [show rk 6 = 6 from rfl, if_neg (ne 6 3 (by omega) (by omega) (by omega)), if_neg (ne 6 4 (by omega) (by omega) (by omega)), if_neg (ne 6 5 (by omega) (by omega) (by omega)), if_pos rfl, q2, bnd]
      dsimp only
      cases b with
      | false => rw [if_pos (q4.mpr rfl)]
      | true => rw [if_neg (fun q => Bool.noConfusion (q4.mp q))]
  rw [if_neg (ne c 6 (by omega) (by omega) c6)]
  by_cases c7 : c = 7
  · subst c7
    obtain rfl := e1 (by omega)
    obtain ⟨b, s', τ, υ', q1, q2, q5⟩ := PL.of3 hX (lift_x (N := N) hC hW hX.1 v1)
    refine ⟨b, s', τ, υ', ?_, ?_, q5⟩
    · rw [if_pos rfl, q1, bnd]
    · rw [show rk 7 = 8 from rfl, if_neg (ne 8 3 (by omega) (by omega) (by omega)), if_neg (ne 8 4 (by omega) (by omega) (by omega)), if_neg (ne 8 5 (by omega) (by omega) (by omega)), if_neg (ne 8 6 (by omega) (by omega) (by omega)), if_neg (ne 8 7 (by omega) (by omega) (by omega)), if_pos rfl, q2, bnd]
  rw [if_neg (ne c 7 (by omega) (by omega) c7)]
  by_cases c8 : c = 8
  · subst c8
    obtain rfl := e1 (by omega)
    obtain rfl := e2 (by omega) (by omega) (by omega)
    obtain ⟨b, s', τ, υ', q1, q2, q5⟩ := PL.of3 hX (oil_x (N := N) hC hW hX.1 v1 v2)
    refine ⟨b, s', τ, υ', ?_, ?_, q5⟩
    · rw [if_pos rfl, q1, bnd]
    · rw [show rk 8 = 7 from rfl, if_neg (ne 7 3 (by omega) (by omega) (by omega)), if_neg (ne 7 4 (by omega) (by omega) (by omega)), if_neg (ne 7 5 (by omega) (by omega) (by omega)), if_neg (ne 7 6 (by omega) (by omega) (by omega)), if_pos rfl, q2, bnd]
  rw [if_neg (ne c 8 (by omega) (by omega) c8)]
  have hrk : rk c = c := by
    unfold rk
    rw [if_neg c7, if_neg c8]
  rw [hrk, if_neg (ne c 3 (by omega) (by omega) c3), if_neg (ne c 4 (by omega) (by omega) c4), if_neg (ne c 5 (by omega) (by omega) c5), if_neg (ne c 6 (by omega) (by omega) c6), if_neg (ne c 7 (by omega) (by omega) c7), if_neg (ne c 8 (by omega) (by omega) c8)]
  by_cases c9 : c = 9
  · subst c9
    obtain rfl := e1 (by omega)
    obtain ⟨-, a, a9, rfl, ha⟩ := h1 (by omega)
    obtain ⟨ha1, ha2⟩ := ha rfl
    have b1 : s 1 1 ≤ 9999 := hW.1.2.1
    have c11 : σ.1 (0 + 1 + 1) 1 = nI (s 1 1) := c_1_1 hC
    obtain ⟨τ, υ', s', E, k0, k1, k2, k3, k4, k5, k6, k7, k8, k9, k10⟩ := nl (N := N) a (by omega) (min a (9999 - s 1 1)) 0 fu fu 0 σ (setI υ 642 24 (nI 0)) s (by omega) (by unfold fu; omega) (by unfold fu; omega) (by omega) hC hW hX.s24 (by omega)
    rw [Nat.zero_add, Nat.zero_add] at k1
    rw [Nat.zero_add] at k2
    have t11 : τ.1 (0 + 1 + 1) 1 = nI (s' 1 1) := c_1_1 k3
    have pn : g_X10_passNights N 0 (nI a) σ = some (nI E, τ) := by
      unfold g_X10_passNights g_X10_passNights_0
      rw [c11, k_9999, pk_sub b1, jmin_n (by omega) (by omega), k_0, k1]
    obtain ⟨z, hz⟩ : ∃ z, fu - min a (9999 - s 1 1) = z + 1 := ⟨999999 - min a (9999 - s 1 1), by unfold fu; omega⟩
    refine ⟨decide (s 1 1 + a ≤ 9999), s', τ, υ', ?_, ?_, k3, k4, k5, k6, f24.trans k7, k8⟩
    · rw [if_pos rfl, pn, bnd]
      dsimp only
      rw [t11, c11, k9, pk_sub (by omega)]
      by_cases hp : s 1 1 + a ≤ 9999
      · rw [if_pos (by rw [show s 1 1 + min a (9999 - s 1 1) - s 1 1 = a by omega]), decide_eq_true hp]
      · rw [if_neg (fun q => by have := (nI_eq (by omega) (by omega)).mp q; omega), decide_eq_false hp]
    · have ap : g_X11_arePassed N 642 (nI a) υ = some (decide (s 1 1 + a ≤ 9999), υ') := by
        unfold g_X11_arePassed g_X11_arePassed_0
        rw [k_0, bnd, k2, hz, g_X11_arePassed_7]
        by_cases hp : s 1 1 + a ≤ 9999
        · rw [if_pos (nI_le (by omega) (by omega)), decide_eq_true hp]
        · have e8 : xI 4607 υ' (642 + 1) (nI 8) = some (nI 9999) := by
            rw [xI_n (by omega) (by omega)]
            refine congrArg some ((r_8 k6.1).trans ?_)
            rw [k9, show s 1 1 + min a (9999 - s 1 1) = 9999 by omega]
          rw [if_neg (nI_ge (by omega) (by omega)), k_8, e8, bnd, k_9999, if_pos rfl, decide_eq_false hp]
      rw [if_pos rfl, ap, bnd]
  · rw [if_neg (ne c 9 (by omega) (by omega) c9), if_neg (ne c 9 (by omega) (by omega) c9)]
    exact ⟨true, s, σ, υ, rfl, rfl, hC, FC.rfl, hW, hX, FR.rfl, rfl⟩
theorem played_ok (hC : RC 1 σ s) (hW : WFs s) (hX : RX N σ s σ) (x : Int32) : OK1 σ s (g_X10_played N 0 x) (g_X11_played N 642 x) := by
  have h5 : s 0 5 ≤ 4 := by obtain ⟨_, _, _, _, h5, _⟩ := hW; exact h5
  refine ok1_3 hX (fun υ0 hX0 => ?_)
  have c05 : σ.1 (0 + 1) 5 = nI (s 0 5) := c_0_5 hC
  have r01 : xI 4607 υ0 (642 + 1) (nI 1) = some (nI (s 0 5)) := by
    rw [xI_n (by omega) (by omega)]
    exact congrArg some (r_1 hX0.1)
  rcases arg1 x (c := s 0 5) (by omega) with ⟨h, hne⟩ | ⟨j, hj, rfl⟩
  · refine ⟨-nI 2, s, σ, υ0, ?_, ?_, hC, FC.rfl, hW, hX0.1, FR.rfl, rfl⟩
    · unfold g_X10_played g_X10_played_0
      rw [c05, k_0, k_1, wi10, h, bnd, if_pos rfl, k_2]
    · unfold g_X11_played g_X11_played_0
      rw [k_1, r01, bnd, k_0, wi11, h, bnd, if_neg (by decide), k_2]
  · obtain ⟨t, ht, hTR⟩ := hX0.2.2 j hj
    have hTR0 := hTR
    obtain ⟨u0, u1, u2, u3, u4, nO, nC, O, P, ck, hob, g0, g1, g2, g3, g4, g5, n0, n2, n4, hnO, hnC, hR0, hO, hcl, hlw⟩ := hTR
    have hl : ∀ d k n n2 σ1 υ1 s1, k + d = nC → d < n → d < n2 → RC 1 σ1 s1 → WFs s1 → RX N σ1 s1 υ1 → υ1.1 645 = υ0.1 645 → ∃ r s' τ υ, g_X10_played_44 N n 0 (some t) (nI k) σ1 = some (r, τ) ∧ g_X11_played_21 N n2 642 (nI j) (nI k) υ1 = some (r, υ) ∧ RC 1 τ s' ∧ FC σ1 τ ∧ WFs s' ∧ RR (υ.1 643) s' ∧ FR υ1 υ ∧ s' 0 5 = s1 0 5 := by
      intro d
      induction d with
      | zero =>
        intro k n n2 σ1 υ1 s1 hk hn hn2 hC1 hW1 hX1 he
        obtain ⟨n, rfl⟩ : ∃ x, n = x + 1 := ⟨n - 1, by omega⟩
        obtain ⟨n2, rfl⟩ : ∃ x, n2 = x + 1 := ⟨n2 - 1, by omega⟩
        obtain rfl : k = nC := by omega
        have e0 : xI 2820 υ1 (642 + 3) (nI 705 * nI j) = some (nI k) := by
          rw [pk_mul, xI_n (by omega) (by omega)]
          have : υ1.1 645 (705 * j) = nI k := by rw [he]; exact hR0
          exact congrArg some this
        refine ⟨-nI 1, s1, σ1, υ1, ?_, ?_, hC1, FC.rfl, hW1, hX1.1, FR.rfl, rfl⟩
        · rw [g_X10_played_44, bnd, g5, bnd, if_pos (nI_le (Nat.le_refl _) (by omega)), k_1]
        · rw [g_X11_played_21, k_705, e0, bnd, if_pos (nI_le (Nat.le_refl _) (by omega)), k_1]
      | succ d ih =>
        intro k n n2 σ1 υ1 s1 hk hn hn2 hC1 hW1 hX1 he
        obtain ⟨n, rfl⟩ : ∃ x, n = x + 1 := ⟨n - 1, by omega⟩
        obtain ⟨n2, rfl⟩ : ∃ x, n2 = x + 1 := ⟨n2 - 1, by omega⟩
        have e0 : xI 2820 υ1 (642 + 3) (nI 705 * nI j) = some (nI nC) := by
          rw [pk_mul, xI_n (by omega) (by omega)]
          have : υ1.1 645 (705 * j) = nI nC := by rw [he]; exact hR0
          exact congrArg some this
        have hck : clOk N (fun i => υ1.1 645 (705 * j + i)) u4 k (ck k) := by
          rw [he]
          exact hcl k (by omega)
        obtain ⟨b, s', τ, υ', q1, q2, q3, q4, q5, q6, q7, q8⟩ := pl_e (N := N) (j := j) (k := k) (by omega) (show k < nC by omega) hnC hob g4 n4 hck hC1 hW1 hX1
        have ei : nI 705 * nI j + nI 1 + nI 4 * nI k = nI (705 * j + (1 + 4 * k)) := by
          rw [pk_mul, pk_mul, nI_add, nI_add, Nat.add_assoc]
        cases b with
        | true =>
          obtain ⟨r, s2, τ2, υ2, z1, z2, z3, z4, z5, z6, z7, z8⟩ := ih (k + 1) n n2 τ υ' s' (by omega) (by omega) (by omega) q3 q5 (q6.of (by rw [q4.q])) ((funext fun i => q7.1 645 i (Or.inr (Or.inr (by omega)))).trans he)
          refine ⟨r, s2, τ2, υ2, ?_, ?_, z3, q4.trans z4, z5, z6, q7.trans z7, z8.trans q8⟩
          · rw [g_X10_played_44, bnd, g5, bnd, if_neg (nI_ge (by omega) (by omega)), q1, bnd]
            dsimp only
            rw [if_pos rfl, k_1, nI_add]
            exact z1
          · rw [g_X11_played_21, k_705, e0, bnd, if_neg (nI_ge (by omega) (by omega)), k_1, k_4, ei, q2, bnd]
            dsimp only
            rw [if_pos rfl, nI_add]
            exact z2
        | false =>
          refine ⟨nI k, s', τ, υ', ?_, ?_, q3, q4, q5, q6.1, q7, q8⟩
          · rw [g_X10_played_44, bnd, g5, bnd, if_neg (nI_ge (by omega) (by omega)), q1, bnd]
            dsimp only
            rw [if_neg (by decide)]
          · rw [g_X11_played_21, k_705, e0, bnd, if_neg (nI_ge (by omega) (by omega)), k_1, k_4, ei, q2, bnd]
            dsimp only
            rw [if_neg (by decide)]
    obtain ⟨r, s', τ, υ, z1, z2, z3⟩ := hl nC 0 fu fu σ υ0 s (by omega) (by unfold fu; omega) (by unfold fu; omega) hC hW hX0 rfl
    have ed : decide (nI 0 ≤ nI j ∧ nI j ≤ nI (s 0 5) - nI 1) = true := by
      refine decide_eq_true ⟨nI_le (by omega) (by omega), ?_⟩
      rw [pk_sub (by omega)]
      exact nI_le (by omega) (by omega)
    have xq : xQ σ (0 + 1 + 11) (nI j) = some (some t) := by
      rw [xQ_n (by omega)]
      exact congrArg some ht
    refine ⟨r, s', τ, υ, ?_, ?_, z3⟩
    · unfold g_X10_played g_X10_played_0
      rw [c05, k_0, k_1, wi10, ed, bnd, if_neg (by decide), xq, bnd, if_neg (by intro q; cases q), bnd]
      exact z1
    · unfold g_X11_played g_X11_played_0
      rw [k_1, r01, bnd, k_0, wi11, ed, bnd, if_pos rfl]
      exact z2
end PLY
