/-! the law's loop -/
section LOO
variable {B : Nat} {X : XV}
theorem lc0 (x : Int64) : lg_cmp x x = 0 := (lgc x x).mpr rfl
theorem sc_e {k : Nat} (h : k < X.2.1) (hL : X.2.1 ≤ 3072) : scR X (nI k) = some (X.2.2.1 k) := by
  unfold scR
  rw [if_neg (nI_in h (by omega)), nI_clamp (by omega)]
theorem law_loop (hL : X.2.1 ≤ 3072) (S : Nat) : ∀ (n c : Nat) (N : Mem) (σ : ST) (s z : SS), Inv N σ s z → HN N B → FN N B → c ≤ 512 → 512 < n + c → N.1 ≤ B + 663 + 6 * c → N.2.1 ≤ S + 684 * c → ∃ N' σ', f_L_law_18 X n (B + 0) (B + 642) (nI (6 * c)) (put N B σ) = some (true, put N' B σ') ∧ N'.1 ≤ B + 663 + 6 * 512 ∧ N'.2.1 ≤ S + 684 * 512 := by
  intro n
  induction n with
  | zero =>
    intro c N σ s z h hN hF h1 h2 h3 h4
    omega
  | succ n ih =>
    intro c N σ s z h hN hF h1 h2 h3 h4
    rw [f_L_law_18]
    have eL : Int32.ofNat X.2.1 = nI X.2.1 := rfl
    have lt : (Int32.ofNat X.2.1 - 6 < nI (6 * c)) ↔ X.2.1 < 6 * c + 6 := by
      rw [eL, show (6 : Int32) = nI 6 from rfl, Int32.lt_iff_toInt_lt, pk_sub_toInt (by omega) (by omega), nI_toInt (by omega)]
      omega
    by_cases cl : X.2.1 < 6 * c + 6
    · rw [if_pos (lt.mpr cl)]
      exact ⟨N, σ, rfl, by omega, by omega⟩
    rw [if_neg (fun y => cl (lt.mp y)), sc_e (by omega) hL, bnd]
    have hc : c ≤ 511 := by omega
    have sc1 : scR X (nI (6 * c) + 1) = some (X.2.2.1 (6 * c + 1)) := by rw [show (1 : Int32) = nI 1 from rfl, nI_add]; exact sc_e (by omega) hL
    have sc2 : scR X (nI (6 * c) + 2) = some (X.2.2.1 (6 * c + 2)) := by rw [show (2 : Int32) = nI 2 from rfl, nI_add]; exact sc_e (by omega) hL
    have sc3 : scR X (nI (6 * c) + 3) = some (X.2.2.1 (6 * c + 3)) := by rw [show (3 : Int32) = nI 3 from rfl, nI_add]; exact sc_e (by omega) hL
    have sc4 : scR X (nI (6 * c) + 4) = some (X.2.2.1 (6 * c + 4)) := by rw [show (4 : Int32) = nI 4 from rfl, nI_add]; exact sc_e (by omega) hL
    have sc5 : scR X (nI (6 * c) + 5) = some (X.2.2.1 (6 * c + 5)) := by rw [show (5 : Int32) = nI 5 from rfl, nI_add]; exact sc_e (by omega) hL
    have go : ∀ (N' : Mem) (υ : ST) (s' z' : SS), Inv N' υ s' z' → HN N' B → FN N' B → N'.1 ≤ N.1 + 6 → N'.2.1 ≤ N.2.1 + 684 → ∃ N2 σ2, f_L_law_18 X n (B + 0) (B + 642) (nI (6 * c) + 6) (put N' B υ) = some (true, put N2 B σ2) ∧ N2.1 ≤ B + 663 + 6 * 512 ∧ N2.2.1 ≤ S + 684 * 512 := by
      intro N' υ s' z' i1 i2 i3 i4 i5
      have j1 : N'.1 ≤ B + 663 + 6 * (c + 1) := by
        rw [Nat.mul_add, Nat.mul_one, ← Nat.add_assoc]
        exact Nat.le_trans i4 (Nat.add_le_add_right h3 6)
      have j2 : N'.2.1 ≤ S + 684 * (c + 1) := by
        rw [Nat.mul_add, Nat.mul_one, ← Nat.add_assoc]
        exact Nat.le_trans i5 (Nat.add_le_add_right h4 684)
      rw [show (6 : Int32) = nI 6 from rfl, nI_add, show 6 * c + 6 = 6 * (c + 1) by omega]
      exact ih (c + 1) N' υ s' z' i1 i2 i3 (by omega) (by omega) j1 j2
    clear ih eL lt
    generalize X.2.2.1 (6 * c) &&& 63 = v
    generalize X.2.2.1 (6 * c + 1) = p1 at *
    generalize X.2.2.1 (6 * c + 2) = p2 at *
    generalize X.2.2.1 (6 * c + 3) = p3 at *
    generalize X.2.2.1 (6 * c + 4) = p4 at *
    generalize X.2.2.1 (6 * c + 5) = p5 at *
    by_cases h0 : v = 0
    · obtain ⟨r, τ, υ, s', z', e1, e2, e3⟩ := mo_machine (B := B) h hN p1 p2
      rw [if_pos h0, sc1, sc2, bnd, bnd, e1, bnd, bnd, bnd]
      dsimp only
      rw [e2, bnd]
      dsimp only
      rw [if_pos rfl]
      exact go N υ s' z' e3 hN hF (by omega) (by omega)
    rw [if_neg h0]
    by_cases h1 : v = 1
    · rw [if_pos h1, sc1, sc2, bnd, bnd]
      by_cases c0 : p2 = 0
      · rw [if_pos c0]
        obtain ⟨r, τ, υ, s', z', e1, e2, e3⟩ := mo_rule (B := B) h hN p1 false p3
        unfold f_L_law_288 f_L_law_315
        rw [sc1, sc2, sc3, bnd, e1, bnd, bnd, bnd, if_pos c0, bnd]
        dsimp only
        rw [e2, bnd]
        dsimp only
        rw [if_pos rfl]
        exact go N υ s' z' e3 hN hF (by omega) (by omega)
      · rw [if_neg c0]
        obtain ⟨r, τ, υ, s', z', e1, e2, e3⟩ := mo_rule (B := B) h hN p1 true p3
        unfold f_L_law_288 f_L_law_315
        rw [sc1, sc2, sc3, bnd, e1, bnd, bnd, bnd, if_neg c0, bnd]
        dsimp only
        rw [e2, bnd]
        dsimp only
        rw [if_pos rfl]
        exact go N υ s' z' e3 hN hF (by omega) (by omega)
    rw [if_neg h1]
    by_cases h2 : v = 2
    · obtain ⟨r, τ, υ, s', z', e1, e2, e3⟩ := mo_feed (B := B) h hN p1 p2 p3 p4 p5
      rw [if_pos h2, sc1, sc2, sc3, sc4, sc5, bnd, bnd, bnd, bnd, bnd, e1, bnd, bnd, bnd, bnd, bnd, bnd]
      dsimp only
      rw [e2, bnd]
      dsimp only
      rw [if_pos rfl]
      exact go N υ s' z' e3 hN hF (by omega) (by omega)
    rw [if_neg h2]
    by_cases h3 : v = 3
    · obtain ⟨r, τ, υ, s', z', e1, e2, e3⟩ := mo_end (B := B) h hN p1
      rw [if_pos h3, sc1, bnd, e1, bnd, bnd]
      dsimp only
      rw [e2, bnd]
      dsimp only
      rw [if_pos rfl]
      exact go N υ s' z' e3 hN hF (by omega) (by omega)
    rw [if_neg h3]
    by_cases h4 : v = 4
    · obtain ⟨r, N', τ, υ, s', e1, e2, e3, e4, e5, e6, e7⟩ := text_ok h hN hF
      rw [if_pos h4, e1, bnd]
      dsimp only
      rw [e2, bnd]
      dsimp only
      rw [if_pos rfl]
      exact go N' υ s' z e3 e4 e5 e6 e7
    rw [if_neg h4]
    by_cases h5 : v = 5
    · obtain ⟨r, e1, e2⟩ := mo_fault (B := B) h hN p1
      rw [if_pos h5, sc1, bnd, e1, bnd, bnd, e2, bnd, if_pos rfl]
      exact go N σ s z h hN hF (by omega) (by omega)
    rw [if_neg h5]
    by_cases h6 : v = 6
    · obtain ⟨r, τ, υ, s', z', e1, e2, e3⟩ := mo_by (B := B) h hN p1
      rw [if_pos h6, sc1, bnd, e1, bnd, bnd]
      dsimp only
      rw [e2, bnd]
      dsimp only
      rw [if_pos rfl]
      exact go N υ s' z' e3 hN hF (by omega) (by omega)
    rw [if_neg h6]
    by_cases h7 : v = 7
    · obtain ⟨r, τ, υ, s', z', e1, e2, e3⟩ := mo_crank (B := B) h hN p1 p2
      rw [if_pos h7, sc1, sc2, bnd, bnd, e1, bnd, bnd, bnd]
      dsimp only
      rw [e2, bnd]
      dsimp only
      rw [if_pos rfl]
      exact go N υ s' z' e3 hN hF (by omega) (by omega)
    rw [if_neg h7]
    by_cases h8 : v = 8
    · obtain ⟨r, τ, υ, s', z', e1, e2, e3⟩ := mo_oil (B := B) h hN p1 p2
      rw [if_pos h8, sc1, sc2, bnd, bnd, e1, bnd, bnd, bnd]
      dsimp only
      rw [e2, bnd]
      dsimp only
      rw [if_pos rfl]
      exact go N υ s' z' e3 hN hF (by omega) (by omega)
    rw [if_neg h8]
    by_cases h9 : v = 9
    · obtain ⟨r, τ, υ, s', z', e1, e2, e3⟩ := mo_lift (B := B) h hN p1
      rw [if_pos h9, sc1, bnd, e1, bnd, bnd]
      dsimp only
      rw [e2, bnd]
      dsimp only
      rw [if_pos rfl]
      exact go N υ s' z' e3 hN hF (by omega) (by omega)
    rw [if_neg h9]
    by_cases h10 : v = 10
    · obtain ⟨r, τ, υ, s', z', e1, e2, e3⟩ := mo_night (B := B) h hN p1
      rw [if_pos h10, sc1, bnd, e1, bnd, bnd]
      dsimp only
      rw [e2, bnd]
      dsimp only
      rw [if_pos rfl]
      exact go N υ s' z' e3 hN hF (by omega) (by omega)
    rw [if_neg h10]
    by_cases h11 : v = 11
    · obtain ⟨r, τ, υ, s', z', e1, e2, e3⟩ := mo_played (B := B) h hN p1
      rw [if_pos h11, sc1, bnd, e1, bnd, bnd]
      dsimp only
      rw [e2, bnd]
      dsimp only
      rw [if_pos rfl]
      exact go N υ s' z' e3 hN hF (by omega) (by omega)
    rw [if_neg h11]
    by_cases h12 : v = 12
    · obtain ⟨r, τ, υ, s', z', e1, e2, e3⟩ := mo_decades (B := B) h hN p1 p2
      rw [if_pos h12, sc1, sc2, bnd, bnd, e1, bnd, bnd, bnd]
      dsimp only
      rw [e2, bnd]
      dsimp only
      rw [if_pos rfl]
      exact go N υ s' z' e3 hN hF (by omega) (by omega)
    rw [if_neg h12]
    by_cases h13 : v = 13
    · obtain ⟨r, τ, υ, s', z', e1, e2, e3⟩ := mo_undo (B := B) h hN
      rw [if_pos h13, e1, bnd]
      dsimp only
      rw [e2, bnd]
      dsimp only
      rw [if_pos rfl]
      exact go N υ s' z' e3 hN hF (by omega) (by omega)
    rw [if_neg h13]
    by_cases h14 : v = 14
    · obtain ⟨r, τ, υ, s', z', e1, e2, e3⟩ := mo_of (B := B) h hN p1 p2
      rw [if_pos h14, sc1, sc2, bnd, bnd, e1, bnd, bnd, bnd]
      dsimp only
      rw [e2, bnd]
      dsimp only
      rw [if_pos rfl]
      exact go N υ s' z' e3 hN hF (by omega) (by omega)
    rw [if_neg h14]
    by_cases h15 : v = 15
    · rw [if_pos h15, sc1, sc2, bnd, bnd]
      by_cases c0 : p2 = 0
      · rw [if_pos c0]
        obtain ⟨r, e1, e2⟩ := mo_told (B := B) h hN p1 false
        unfold f_L_law_706 f_L_law_728
        rw [e1, bnd, sc1, sc2, bnd, bnd, if_pos c0, e2, bnd, if_pos rfl]
        exact go N σ s z h hN hF (by omega) (by omega)
      · rw [if_neg c0]
        obtain ⟨r, e1, e2⟩ := mo_told (B := B) h hN p1 true
        unfold f_L_law_706 f_L_law_728
        rw [e1, bnd, sc1, sc2, bnd, bnd, if_neg c0, e2, bnd, if_pos rfl]
        exact go N σ s z h hN hF (by omega) (by omega)
    rw [if_neg h15]
    by_cases h16 : v = 16
    · obtain ⟨r, e1, e2⟩ := mo_is (B := B) h hN p1
      rw [if_pos h16, sc1, bnd, e1, bnd, bnd, e2, bnd, if_pos rfl]
      exact go N σ s z h hN hF (by omega) (by omega)
    rw [if_neg h16]
    by_cases h17 : v = 17
    · obtain ⟨r, e1, e2⟩ := mo_book (B := B) h hN p1 p2
      rw [if_pos h17, sc1, sc2, bnd, bnd, e1, bnd, bnd, bnd, e2, bnd, if_pos rfl]
      exact go N σ s z h hN hF (by omega) (by omega)
    rw [if_neg h17]
    by_cases h18 : v = 18
    · obtain ⟨r, τ, υ, s', z', e1, e2, e3⟩ := mo_foretold (B := B) h hN p1 p2 p3
      rw [if_pos h18, sc1, sc2, sc3, bnd, bnd, bnd, e1, bnd, bnd, bnd, bnd]
      dsimp only
      rw [e2, bnd]
      dsimp only
      rw [if_pos rfl]
      exact go N υ s' z' e3 hN hF (by omega) (by omega)
    rw [if_neg h18]
    by_cases h19 : v = 19
    · obtain ⟨r, τ, υ, s', z', e1, e2, e3⟩ := mo_put (B := B) h hN p1
      rw [if_pos h19, sc1, bnd, e1, bnd, bnd]
      dsimp only
      rw [e2, bnd]
      dsimp only
      rw [if_pos rfl]
      exact go N υ s' z' e3 hN hF (by omega) (by omega)
    rw [if_neg h19]
    by_cases h20 : v = 20
    · obtain ⟨r, τ, υ, s', z', e1, e2, e3⟩ := mo_may (B := B) h hN p1
      rw [if_pos h20, sc1, bnd, e1, bnd, bnd]
      dsimp only
      rw [e2, bnd]
      dsimp only
      rw [if_pos (lc0 _)]
      exact go N υ s' z' e3 hN hF (by omega) (by omega)
    rw [if_neg h20]
    by_cases h21 : v = 21
    · rw [if_pos h21, sc1, sc2, sc3, bnd, bnd, bnd]
      by_cases c0 : p3 = 0
      · rw [if_pos c0]
        obtain ⟨r, τ, υ, s', z', e1, e2, e3⟩ := mo_odds (B := B) h hN p1 p2 false
        unfold f_L_law_906 f_L_law_933
        rw [e1, bnd, sc1, sc2, sc3, bnd, bnd, bnd, if_pos c0]
        dsimp only
        rw [e2, bnd]
        dsimp only
        rw [if_pos (lc0 _)]
        exact go N υ s' z' e3 hN hF (by omega) (by omega)
      · rw [if_neg c0]
        obtain ⟨r, τ, υ, s', z', e1, e2, e3⟩ := mo_odds (B := B) h hN p1 p2 true
        unfold f_L_law_906 f_L_law_933
        rw [e1, bnd, sc1, sc2, sc3, bnd, bnd, bnd, if_neg c0]
        dsimp only
        rw [e2, bnd]
        dsimp only
        rw [if_pos (lc0 _)]
        exact go N υ s' z' e3 hN hF (by omega) (by omega)
    rw [if_neg h21]
    by_cases h22 : v = 22
    · obtain ⟨r, τ, υ, s', z', e1, e2, e3⟩ := mo_day (B := B) h hN p1
      rw [if_pos h22, sc1, bnd, e1, bnd, bnd]
      dsimp only
      rw [e2, bnd]
      dsimp only
      rw [if_pos rfl]
      exact go N υ s' z' e3 hN hF (by omega) (by omega)
    rw [if_neg h22]
    by_cases h23 : v = 23
    · obtain ⟨r, τ, υ, s', z', e1, e2, e3⟩ := mo_fits (B := B) h hN
      rw [if_pos h23, e1, bnd]
      dsimp only
      rw [e2, bnd]
      dsimp only
      rw [if_pos rfl]
      exact go N υ s' z' e3 hN hF (by omega) (by omega)
    rw [if_neg h23]
    by_cases h24 : v = 24
    · obtain ⟨r, τ, υ, s', z', e1, e2, e3⟩ := mo_likeliest (B := B) h hN p1
      rw [if_pos h24, sc1, bnd, e1, bnd, bnd]
      dsimp only
      rw [e2, bnd]
      dsimp only
      rw [if_pos rfl]
      exact go N υ s' z' e3 hN hF (by omega) (by omega)
    rw [if_neg h24]
    by_cases h25 : v = 25
    · obtain ⟨r, τ, υ, s', z', e1, e2, e3⟩ := mo_add (B := B) h hN p1
      rw [if_pos h25, sc1, bnd, e1, bnd, bnd]
      dsimp only
      rw [e2, bnd]
      dsimp only
      rw [if_pos rfl]
      exact go N υ s' z' e3 hN hF (by omega) (by omega)
    rw [if_neg h25]
    by_cases h26 : v = 26
    · obtain ⟨r, τ, υ, s', z', e1, e2, e3⟩ := mo_second (B := B) h hN p1
      rw [if_pos h26, sc1, bnd, e1, bnd, bnd]
      dsimp only
      rw [e2, bnd]
      dsimp only
      rw [if_pos rfl]
      exact go N υ s' z' e3 hN hF (by omega) (by omega)
    rw [if_neg h26]
    by_cases h27 : v = 27
    · obtain ⟨r, τ, υ, s', z', e1, e2, e3⟩ := mo_duet (B := B) h hN p1 p2
      rw [if_pos h27, sc1, sc2, bnd, bnd, e1, bnd, bnd, bnd]
      dsimp only
      rw [e2, bnd]
      dsimp only
      rw [if_pos rfl]
      exact go N υ s' z' e3 hN hF (by omega) (by omega)
    rw [if_neg h27]
    by_cases h28 : v = 28
    · obtain ⟨r, τ, υ, s', z', e1, e2, e3⟩ := mo_common (B := B) h hN p1
      rw [if_pos h28, sc1, bnd, e1, bnd, bnd]
      dsimp only
      rw [e2, bnd]
      dsimp only
      rw [if_pos rfl]
      exact go N υ s' z' e3 hN hF (by omega) (by omega)
    rw [if_neg h28]
    by_cases h29 : v = 29
    · obtain ⟨r, τ, υ, s', z', e1, e2, e3⟩ := mo_apart (B := B) h hN
      rw [if_pos h29, e1, bnd]
      dsimp only
      rw [e2, bnd]
      dsimp only
      rw [if_pos rfl]
      exact go N υ s' z' e3 hN hF (by omega) (by omega)
    rw [if_neg h29]
    by_cases h30 : v = 30
    · obtain ⟨r, τ, υ, s', z', e1, e2, e3⟩ := mo_grows (B := B) h hN p1 p2
      rw [if_pos h30, sc1, sc2, bnd, bnd, e1, bnd, bnd, bnd]
      dsimp only
      rw [e2, bnd]
      dsimp only
      rw [if_pos rfl]
      exact go N υ s' z' e3 hN hF (by omega) (by omega)
    rw [if_neg h30]
    by_cases h31 : v = 31
    · rw [if_pos h31, sc1, bnd]
      by_cases c0 : p1 = 0
      · rw [if_pos c0]
        obtain ⟨r, e1, e2⟩ := mo_stays (B := B) h hN false
        unfold f_L_law_1163 f_L_law_1180
        rw [e1, bnd, sc1, bnd, if_pos c0, e2, bnd, if_pos rfl]
        exact go N σ s z h hN hF (by omega) (by omega)
      · rw [if_neg c0]
        obtain ⟨r, e1, e2⟩ := mo_stays (B := B) h hN true
        unfold f_L_law_1163 f_L_law_1180
        rw [e1, bnd, sc1, bnd, if_neg c0, e2, bnd, if_pos rfl]
        exact go N σ s z h hN hF (by omega) (by omega)
    rw [if_neg h31]
    by_cases h32 : v = 32
    · rw [if_pos h32, sc1, bnd]
      by_cases c0 : p1 = 0
      · rw [if_pos c0]
        obtain ⟨r, τ, υ, s', z', e1, e2, e3⟩ := mo_likes (B := B) h hN false p2 p3 p4
        unfold f_L_law_1202 f_L_law_1234
        rw [sc1, sc2, sc3, sc4, bnd, bnd, bnd, e1, bnd, bnd, if_pos c0, bnd, bnd, bnd]
        dsimp only
        rw [e2, bnd]
        dsimp only
        rw [if_pos rfl]
        exact go N υ s' z' e3 hN hF (by omega) (by omega)
      · rw [if_neg c0]
        obtain ⟨r, τ, υ, s', z', e1, e2, e3⟩ := mo_likes (B := B) h hN true p2 p3 p4
        unfold f_L_law_1202 f_L_law_1234
        rw [sc1, sc2, sc3, sc4, bnd, bnd, bnd, e1, bnd, bnd, if_neg c0, bnd, bnd, bnd]
        dsimp only
        rw [e2, bnd]
        dsimp only
        rw [if_pos rfl]
        exact go N υ s' z' e3 hN hF (by omega) (by omega)
    rw [if_neg h32]
    by_cases h33 : v = 33
    · obtain ⟨r, τ, υ, s', z', e1, e2, e3⟩ := mo_paired (B := B) h hN p1
      rw [if_pos h33, sc1, bnd, e1, bnd, bnd]
      dsimp only
      rw [e2, bnd]
      dsimp only
      rw [if_pos rfl]
      exact go N υ s' z' e3 hN hF (by omega) (by omega)
    rw [if_neg h33]
    by_cases h34 : v = 34
    · obtain ⟨r, e1, e2⟩ := mo_blocks (B := B) h hN p1 p2
      rw [if_pos h34, sc1, sc2, bnd, bnd, e1, bnd, bnd, bnd, e2, bnd, if_pos rfl]
      exact go N σ s z h hN hF (by omega) (by omega)
    rw [if_neg h34]
    by_cases h35 : v = 35
    · obtain ⟨r, τ, υ, s', z', e1, e2, e3⟩ := mo_needs (B := B) h hN p1 p2
      rw [if_pos h35, sc1, sc2, bnd, bnd, e1, bnd, bnd, bnd]
      dsimp only
      rw [e2, bnd]
      dsimp only
      rw [if_pos rfl]
      exact go N υ s' z' e3 hN hF (by omega) (by omega)
    rw [if_neg h35]
    by_cases h36 : v = 36
    · obtain ⟨r, τ, υ, s', z', e1, e2, e3⟩ := mo_stock (B := B) h hN p1 p2 p3
      rw [if_pos h36, sc1, sc2, sc3, bnd, bnd, bnd, e1, bnd, bnd, bnd, bnd]
      dsimp only
      rw [e2, bnd]
      dsimp only
      rw [if_pos rfl]
      exact go N υ s' z' e3 hN hF (by omega) (by omega)
    rw [if_neg h36]
    by_cases h37 : v = 37
    · obtain ⟨r, τ, υ, s', z', e1, e2, e3⟩ := mo_looser (B := B) h hN p1 p2
      rw [if_pos h37, sc1, sc2, bnd, bnd, e1, bnd, bnd, bnd]
      dsimp only
      rw [e2, bnd]
      dsimp only
      rw [if_pos rfl]
      exact go N υ s' z' e3 hN hF (by omega) (by omega)
    rw [if_neg h37]
    by_cases h38 : v = 38
    · obtain ⟨r, τ, υ, s', z', e1, e2, e3⟩ := mo_whose (B := B) h hN
      rw [if_pos h38, e1, bnd]
      dsimp only
      rw [e2, bnd]
      dsimp only
      rw [if_pos rfl]
      exact go N υ s' z' e3 hN hF (by omega) (by omega)
    rw [if_neg h38]
    by_cases h39 : v = 39
    · obtain ⟨r, e1, e2⟩ := mo_forgiven (B := B) h hN p1
      rw [if_pos h39, sc1, bnd, e1, bnd, bnd, e2, bnd, if_pos rfl]
      exact go N σ s z h hN hF (by omega) (by omega)
    rw [if_neg h39]
    by_cases h40 : v = 40
    · obtain ⟨r, e1, e2⟩ := mo_snow (B := B) h hN
      rw [if_pos h40, e1, bnd, e2, bnd, if_pos rfl]
      exact go N σ s z h hN hF (by omega) (by omega)
    rw [if_neg h40]
    by_cases h41 : v = 41
    · obtain ⟨r, e1, e2⟩ := mo_worn (B := B) h hN
      rw [if_pos h41, e1, bnd, e2, bnd, if_pos rfl]
      exact go N σ s z h hN hF (by omega) (by omega)
    rw [if_neg h41]
    by_cases h42 : v = 42
    · obtain ⟨r, e1, e2⟩ := mo_blank (B := B) h hN
      rw [if_pos h42, e1, bnd, e2, bnd, if_pos rfl]
      exact go N σ s z h hN hF (by omega) (by omega)
    rw [if_neg h42]
    by_cases h43 : v = 43
    · obtain ⟨r, e1, e2⟩ := mo_ledger (B := B) h hN p1
      rw [if_pos h43, sc1, bnd, e1, bnd, bnd, e2, bnd, if_pos rfl]
      exact go N σ s z h hN hF (by omega) (by omega)
    rw [if_neg h43]
    by_cases h44 : v = 44
    · obtain ⟨r, τ, υ, s', z', e1, e2, e3⟩ := mo_image (B := B) h hN
      rw [if_pos h44, e1, bnd]
      dsimp only
      rw [e2, bnd]
      dsimp only
      rw [if_pos rfl]
      exact go N υ s' z' e3 hN hF (by omega) (by omega)
    rw [if_neg h44]
    by_cases h45 : v = 45
    · obtain ⟨r, τ, υ, s', z', e1, e2, e3⟩ := mo_back (B := B) h hN
      rw [if_pos h45, e1, bnd]
      dsimp only
      rw [e2, bnd]
      dsimp only
      rw [if_pos rfl]
      exact go N υ s' z' e3 hN hF (by omega) (by omega)
    rw [if_neg h45]
    by_cases h46 : v = 46
    · obtain ⟨r, e1, e2⟩ := mo_about (B := B) h hN p1
      rw [if_pos h46, sc1, bnd, e1, bnd, bnd, e2, bnd, if_pos rfl]
      exact go N σ s z h hN hF (by omega) (by omega)
    rw [if_neg h46]
    exact go N σ s z h hN hF (by omega) (by omega)
end LOO
