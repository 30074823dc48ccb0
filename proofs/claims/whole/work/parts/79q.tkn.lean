/-! one token on both sides -/
def TKN (B : Nat → Nat) (L : Nat) (σ υ : ST) (q kc : Nat) : Prop := ((∀ i, B i < 256) ∧ BT B L σ ∧ BR B L υ ∧ q ≤ L) ∧ (σ.1 593 4 = nI q ∧ σ.1 593 5 = nI (tkE B L q) ∧ σ.1 593 2 = nI kc ∧ tkK B L q kc) ∧ (υ.1 642 8 = nI q ∧ υ.1 642 7 = nI (tkE B L q) ∧ υ.1 642 9 = nI (rkK B L q)) ∧ (kc = 27 → ∃ v, v ≤ 1000000 ∧ υ.1 642 10 = nI v ∧ σ.1 593 3 = nI (min v 10000)) ∧ (q < L → bA (B q) = true → υ.2.1 642 11 = lN (pkl B q (tkE B L q - q)))
section TKA
variable {N : Mem} {σ τ υ : ST} {B : Nat → Nat} {L q kc : Nat}
theorem pkl_1 (B : Nat → Nat) (q : Nat) : pkl B q 1 = B q := by
  have e0 : pkl B q 0 = 0 := rfl
  show pkl B q (0 + 1) = B q
  rw [pkl, e0, if_pos (by omega), Nat.add_zero]
  omega
theorem tkE_b (hq : q ≤ L) : tkE B L q ≤ L ∧ q ≤ tkE B L q ∧ (q < L → q < tkE B L q) := by
  unfold tkE
  have s1 := spn_b bA B (L - (q + 1)) (q + 1)
  have s2 := spn_b bD B (L - (q + 1)) (q + 1)
  by_cases c : L ≤ q
  · rw [if_pos c]; omega
  · rw [if_neg c]
    by_cases c1 : bA (B q) = true
    · rw [if_pos c1]; omega
    · rw [if_neg c1]
      by_cases c2 : bD (B q) = true
      · rw [if_pos c2]; omega
      · rw [if_neg c2]
        by_cases c3 : sg2 B L q = true
        · have := of_decide_eq_true c3
          rw [if_pos c3]; omega
        · rw [if_neg c3]; omega
/-- both go on to the next token -/
theorem tk_at (hB : ∀ i, B i < 256) (h1 : BT B L σ) (h2 : BR B L υ) {p : Nat} (hp : p ≤ L) (h5 : σ.1 593 5 = nI p) (h7 : υ.1 642 7 = nI p) : ∃ τ υ' q kc, g_X7_advance N 593 σ = some τ ∧ g_X11_nextToken N 642 υ = some υ' ∧ TKN B L τ υ' q kc ∧ p ≤ q ∧ (∀ a i, ¬ (a = 593 ∧ 2 ≤ i ∧ i ≤ 5) → τ.1 a i = σ.1 a i) ∧ τ.2 = σ.2 ∧ (∀ a i, ¬ (a = 642 ∧ 7 ≤ i ∧ i ≤ 10) → υ'.1 a i = υ.1 a i) ∧ (∀ a i, ¬ (a = 642 ∧ i = 11) → υ'.2.1 a i = υ.2.1 a i) ∧ υ'.2.2 = υ.2.2 := by
  have h0 := h1.1
  have sb := spn_b bB B (L - p) p
  obtain ⟨τ, kc, a1, a2, a3, a4, a5, a6, a7, a8⟩ := adv_c (N := N) h1 hp h5
  obtain ⟨υ', b1, b2, b3, b4, b5, b6, b7, b8, b9⟩ := adv_r (N := N) h2 hp h7
  generalize spn bB B (L - p) p = q at *
  have T1 : BT B L τ := h1.f (fun i => a7 _ _ (by omega)) (a7 _ _ (by omega))
  have T2 : BR B L υ' := h2.f (fun i => b7 _ _ (by omega)) (b7 _ _ (by omega))
  refine ⟨τ, υ', q, kc, a1, b1, ⟨⟨hB, T1, T2, by omega⟩, ⟨a2, a3, a4, a5⟩, ⟨b2, b3, b4⟩, fun hk => ?_, fun hq ha => ?_⟩, sb.1, a7, a8, b7, b8, b9⟩
  · have key : q < L ∧ bD (B q) = true := by
      rcases a5 with x | x | x | x
      · omega
      · have := x.2.2
        omega
      · exact ⟨x.1, x.2.2.1⟩
      · exfalso
        have y := x.2.2.2
        have z := sg_b (B q)
        by_cases x1 : sg2 B L q = true
        · rw [if_pos x1] at y
          by_cases x2 : B q = 60
          · rw [if_pos x2] at y; omega
          · rw [if_neg x2] at y; omega
        · rw [if_neg x1] at y; omega
    have cd := of_decide_eq_true key.2
    refine ⟨_, nmr_b B (L - (q + 1)) (q + 1) (B q - 48) (by omega), b5 key.1 key.2, ?_⟩
    rw [a6 hk, nmcr B (L - (q + 1)) (q + 1) (B q - 48) (B q - 48) (by omega)]
  · have eE : tkE B L q = spn bA B (L - (q + 1)) (q + 1) := by
      unfold tkE
      rw [if_neg (by omega), if_pos ha]
    have e1 : pkl B q 1 = B q := pkl_1 B q
    rw [b6 hq ha, eE, ← pkl_r (B := B) (q := q) (L - (q + 1)) 1, e1]
theorem tk_go (h : TKN B L σ υ q kc) : ∃ τ υ' q' kc', g_X7_advance N 593 σ = some τ ∧ g_X11_nextToken N 642 υ = some υ' ∧ TKN B L τ υ' q' kc' ∧ q ≤ q' ∧ (q < L → q < q') ∧ (∀ a i, ¬ (a = 593 ∧ 2 ≤ i ∧ i ≤ 5) → τ.1 a i = σ.1 a i) ∧ τ.2 = σ.2 ∧ (∀ a i, ¬ (a = 642 ∧ 7 ≤ i ∧ i ≤ 10) → υ'.1 a i = υ.1 a i) ∧ (∀ a i, ¬ (a = 642 ∧ i = 11) → υ'.2.1 a i = υ.2.1 a i) ∧ υ'.2.2 = υ.2.2 := by
  obtain ⟨⟨hB, h1, h2, hq⟩, ⟨_, h5, _, _⟩, ⟨_, h7, _⟩, _, _⟩ := h
  obtain ⟨t1, t2, t3⟩ := tkE_b (B := B) hq
  obtain ⟨τ, υ', q', kc', x1, x2, x3, x4, x5⟩ := tk_at (N := N) hB h1 h2 t1 h5 h7
  exact ⟨τ, υ', q', kc', x1, x2, x3, by omega, fun c => by have := t3 c; omega, x5⟩
/-- the reference asks for a word -/
theorem tk_w (h : TKN B L σ υ q kc) {k : Nat} (hk : k < 27) (h1 : k ≠ 1) : g_X11_isWord N 642 (lN (wpk k)) υ = some (decide (kc = k)) := by
  obtain ⟨⟨hB, b1, b2, hq⟩, ⟨c1, c2, c3, c4⟩, ⟨r1, r2, r3⟩, _, r5⟩ := h
  have h0 := b1.1
  have l7 := wlen_7 hk h1
  have up : wpk k < 18446744073709551616 := by
    have hu := pkl_u (B := wdn) (q := wst k) (fun u => wdn_b _) (wlen k) l7
    have p7 : (256 : Nat) ^ wlen k ≤ 256 ^ 7 := Nat.pow_le_pow_right (by omega) l7
    have e7 : (256 : Nat) ^ 7 = 72057594037927936 := by decide
    unfold wpk
    omega
  unfold g_X11_isWord g_X11_isWord_0
  rw [r3, show (2 : Int32) = nI 2 from rfl]
  by_cases c : q < L ∧ bA (B q) = true
  · have eK : rkK B L q = 2 := by
      unfold rkK
      rw [if_neg (by omega), if_pos c.2]
    have eE : tkE B L q = spn bA B (L - (q + 1)) (q + 1) := by
      unfold tkE
      rw [if_neg (by omega), if_pos c.2]
    have tb := tkE_b (B := B) hq
    have al : ∀ u, u < tkE B L q - q → 1 ≤ B (q + u) := by
      intro u hu
      have : bA (B (q + u)) = true := by
        by_cases c0 : u = 0
        · rw [c0]; exact c.2
        · exact spn_a (L - (q + 1)) (q + 1) (q + u) (by omega) (by rw [← eE]; omega)
      have := of_decide_eq_true this
      omega
    have pb : pkl B q (tkE B L q - q) ≤ 1152921504606846976 := by
      have e1 : pkl B q 1 = B q := pkl_1 B q
      have := pkr_b B (L - (q + 1)) (q + 1) (B q) (by have := hB q; omega)
      rw [← e1, pkl_r (B := B) (q := q) (L - (q + 1)) 1, ← eE] at this
      exact this
    rw [eK, if_pos rfl, r5 c.1 c.2]
    have key : (pkl B q (tkE B L q - q) = wpk k) ↔ kc = k := by
      rcases c4 with x | x | x | x
      · omega
      · rcases x.2.2 with ⟨y1, y2⟩ | ⟨y1, y2⟩
        · rw [isW_p y2]
          exact ⟨fun e => wpk_i y1 hk e, fun e => by rw [e]⟩
        · refine ⟨fun e => absurd (isW_n (fun u => hB _) al (tb.2.2 c.1) hk h1 e) (y2 k hk), fun e => by omega⟩
      · rw [c.2] at x
        exact absurd x.2.1 (by decide)
      · rw [c.2] at x
        exact absurd x.2.1 (by decide)
    by_cases d : kc = k
    · rw [if_pos ((lgc _ _).mpr (by rw [key.mpr d])), decide_eq_true d]
    · rw [if_neg (fun x => d (key.mp ((lN_inj (by omega) up).mp ((lgc _ _).mp x)))), decide_eq_false d]
  · have hne : kc ≠ k := by
      rcases c4 with x | x | x | x
      · omega
      · exact absurd ⟨x.1, x.2.1⟩ c
      · omega
      · have y := x.2.2.2
        have z := sg_b (B q)
        by_cases x1 : sg2 B L q = true
        · rw [if_pos x1] at y
          by_cases x2 : B q = 60
          · rw [if_pos x2] at y; omega
          · rw [if_neg x2] at y; omega
        · rw [if_neg x1] at y; omega
    have hK : rkK B L q ≠ 2 ∧ rkK B L q < 300 := by
      have hb := hB q
      unfold rkK
      by_cases d : L ≤ q
      · rw [if_pos d]; omega
      · rw [if_neg d, if_neg (fun x => c ⟨by omega, x⟩)]
        by_cases d1 : bD (B q) = true
        · rw [if_pos d1]; omega
        · rw [if_neg d1]
          by_cases d2 : sg2 B L q = true
          · rw [if_pos d2]
            by_cases d3 : B q = 60
            · rw [if_pos d3]; omega
            · rw [if_neg d3]; omega
          · rw [if_neg d2]
            by_cases d3 : sgS (B q) = true
            · have := of_decide_eq_true d3
              rw [if_pos d3]; omega
            · rw [if_neg d3]; omega
    rw [if_neg (fun x => hK.1 ((nI_eq (by omega) (by omega)).mp x)), decide_eq_false hne]
end TKA
