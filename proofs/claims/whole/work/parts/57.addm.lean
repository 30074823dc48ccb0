/-! what to add: the mathematics -/
def oM (o : Option Nat) : Nat := match o with
  | none => 0
  | some q => 2 ^ q
def Eg (r f : Nat → Nat) (n p d q : Nat) : Prop := bhd f n p (r (2 * d)) = some q ∨ bhd f n p (r (2 * d + 1)) = some q
def ofm (r f : Nat → Nat) (n p d : Nat) : Nat := oM (bhd f n p (r (2 * d))) ||| oM (bhd f n p (r (2 * d + 1)))
def Rch (r f : Nat → Nat) (n j p : Nat) : Prop := match j with
  | 0 => p = n
  | j + 1 => p ≤ n ∧ ∃ d, d < 10 ∧ ∃ q, Eg r f n p d q ∧ Rch r f n j q
def tby (r f : Nat → Nat) (n : Nat) (tk : Nat → Nat) (p e : Nat) : Nat := match bhd f n p (r e) with
  | none => 1000000000
  | some q => if q = p then 1000000000 else 1 + tk q
def TK (r f : Nat → Nat) (n : Nat) (tk : Nat → Nat) : Prop := tk n = 0 ∧ ∀ p, p < n → tk p ≤ 1000000000 ∧ (∀ e, e < 20 → ∀ q, bhd f n p (r e) = some q → q ≠ p → tk p ≤ 1 + tk q) ∧ (tk p = 1000000000 ∨ ∃ e, e < 20 ∧ ∃ q, bhd f n p (r e) = some q ∧ q ≠ p ∧ tk p = 1 + tk q ∧ tk p < 1000000000)
section ADM
variable {r f tk : Nat → Nat} {n : Nat}
theorem p2_b {q : Nat} (h : q ≤ 12) : 2 ^ q < 8192 := by
  have h1 : 2 ^ q ≤ 2 ^ 12 := Nat.pow_le_pow_right (by omega) h
  have h2 : 2 ^ 12 = 4096 := by decide
  omega
theorem w_or {a b : Nat} (ha : a < 8192) (hb : b < 8192) : nI a ||| nI b = nI (a ||| b) := by
  have hab : a ||| b < 2 ^ 13 := Nat.or_lt_two_pow (n := 13) ha hb
  apply Int32.toBitVec_inj.mp
  apply BitVec.eq_of_toNat_eq
  rw [Int32.toBitVec_or, BitVec.toNat_or, pk_tn (by omega), pk_tn (by omega), pk_tn (by omega)]
theorem w_an {a b : Nat} (ha : a < 8192) (hb : b < 8192) : nI a &&& nI b = nI (a &&& b) := by
  have hab : a &&& b < 2 ^ 13 := Nat.and_lt_two_pow (n := 13) a hb
  apply Int32.toBitVec_inj.mp
  apply BitVec.eq_of_toNat_eq
  rw [Int32.toBitVec_and, BitVec.toNat_and, pk_tn (by omega), pk_tn (by omega), pk_tn (by omega)]
theorem or_b {a b : Nat} (ha : a < 8192) (hb : b < 8192) : a ||| b < 8192 := Nat.or_lt_two_pow (n := 13) ha hb
theorem an_b {a b : Nat} (hb : b < 8192) : a &&& b < 8192 := Nat.and_lt_two_pow (n := 13) a hb
theorem bit_t (x m : Nat) : (bit x m = 1) = (x.testBit m = true) := by
  unfold bit
  rw [Nat.testBit_eq_decide_div_mod_eq, decide_eq_true_eq]
theorem nz_t {x : Nat} : x ≠ 0 ↔ ∃ q, x.testBit q = true := by
  constructor
  · intro h
    apply Classical.byContradiction
    intro hn
    apply h
    apply Nat.eq_of_testBit_eq
    intro i
    rw [Nat.testBit_eq_decide_div_mod_eq (x := 0), Nat.zero_div, decide_eq_false (by omega)]
    cases e : x.testBit i with
    | false => rfl
    | true => exact absurd ⟨i, e⟩ hn
  · rintro ⟨q, hq⟩ h0
    rw [h0, Nat.testBit_eq_decide_div_mod_eq, Nat.zero_div, decide_eq_true_eq] at hq
    omega
theorem bhd_ge {f : Nat → Nat} {n p w k : Nat} (h : bhd f n p w = some k) : p ≤ k := by
  unfold bhd at h
  split at h
  · cases h; exact Nat.le_refl _
  · split at h
    · split at h
      · cases h; omega
      · cases h
    · split at h
      · cases h; omega
      · cases h
theorem oM_t {o : Option Nat} {q : Nat} : (oM o).testBit q = true ↔ o = some q := by
  cases o with
  | none =>
    unfold oM
    rw [Nat.testBit_eq_decide_div_mod_eq, Nat.zero_div, decide_eq_true_eq]
    constructor
    · intro h; omega
    · intro h; cases h
  | some k =>
    unfold oM
    rw [Nat.testBit_two_pow, decide_eq_true_eq]
    constructor
    · intro h; rw [h]
    · intro h; cases h; rfl
theorem oM_b {p w : Nat} (hp : p ≤ n) (hn : n ≤ 12) : oM (bhd f n p w) < 8192 := by
  cases e : bhd f n p w with
  | none => show 0 < 8192; omega
  | some k =>
    have := bhd_b hp e
    exact p2_b (by omega)
theorem ofm_b {p d : Nat} (hp : p ≤ n) (hn : n ≤ 12) : ofm r f n p d < 8192 := or_b (oM_b hp hn) (oM_b hp hn)
theorem ofm_t {p d q : Nat} : (ofm r f n p d).testBit q = true ↔ Eg r f n p d q := by
  unfold ofm Eg
  rw [Nat.testBit_or, Bool.or_eq_true, oM_t, oM_t]
theorem hit_t {p d g : Nat} : ofm r f n p d &&& g ≠ 0 ↔ ∃ q, Eg r f n p d q ∧ g.testBit q = true := by
  rw [nz_t]
  constructor
  · rintro ⟨q, hq⟩
    rw [Nat.testBit_and, Bool.and_eq_true, ofm_t] at hq
    exact ⟨q, hq⟩
  · rintro ⟨q, hq⟩
    refine ⟨q, ?_⟩
    rw [Nat.testBit_and, Bool.and_eq_true, ofm_t]
    exact hq
theorem Eg_e {p d q : Nat} : Eg r f n p d q ↔ ∃ l, l < 2 ∧ bhd f n p (r (2 * d + l)) = some q := by
  constructor
  · rintro (h | h)
    · exact ⟨0, by omega, h⟩
    · exact ⟨1, by omega, h⟩
  · rintro ⟨l, hl, h⟩
    obtain rfl | rfl : l = 0 ∨ l = 1 := by omega
    · exact Or.inl h
    · exact Or.inr h
theorem Rch_le {j p : Nat} (h : Rch r f n j p) : p ≤ n := by
  cases j with
  | zero => exact Nat.le_of_eq h
  | succ j => exact h.1
theorem tk_1 (h : TK r f n tk) : ∀ j p, j < 1000000000 → Rch r f n j p → tk p ≤ j := by
  intro j
  induction j with
  | zero =>
    intro p _ hp
    rw [show p = n from hp, h.1]
    exact Nat.le_refl _
  | succ j ih =>
    rintro p hj ⟨hp, d, hd, q, hE, hq⟩
    have h1 := ih q (by omega) hq
    by_cases e : p = n
    · rw [e, h.1]; omega
    · obtain ⟨l, hl, hb⟩ := Eg_e.mp hE
      by_cases e2 : q = p
      · rw [← e2]; omega
      · have := (h.2 p (by omega)).2.1 (2 * d + l) (by omega) q hb e2
        omega
theorem tk_2 (h : TK r f n tk) : ∀ j p, j < 1000000000 → p ≤ n → tk p = j → Rch r f n j p := by
  intro j
  induction j with
  | zero =>
    intro p _ hp e
    show p = n
    apply Classical.byContradiction
    intro hn
    rcases (h.2 p (by omega)).2.2 with h1 | ⟨e1, h1, q, h2, h3, h4, h5⟩
    · omega
    · omega
  | succ j ih =>
    intro p hj hp e
    by_cases en : p = n
    · rw [en, h.1] at e
      omega
    · rcases (h.2 p (by omega)).2.2 with h1 | ⟨e1, h1, q, h2, h3, h4, h5⟩
      · omega
      · have hq := ih q (by omega) (bhd_b hp h2) (by omega)
        refine ⟨hp, e1 / 2, by omega, q, Eg_e.mpr ⟨e1 % 2, by omega, ?_⟩, hq⟩
        rw [show 2 * (e1 / 2) + e1 % 2 = e1 by omega]
        exact h2
theorem tk_3 (h : TK r f n tk) : ∀ j p, p + j = n → tk p < 1000000000 → tk p ≤ j := by
  intro j
  induction j using Nat.strongRecOn with
  | _ j ih =>
    intro p hp hf
    by_cases en : p = n
    · rw [en, h.1]; omega
    · rcases (h.2 p (by omega)).2.2 with h1 | ⟨e1, h1, q, h2, h3, h4, h5⟩
      · omega
      · have g1 := bhd_b (by omega) h2
        have g2 := bhd_ge h2
        have := ih (n - q) (by omega) q (by omega) (by omega)
        omega
theorem tk_4 (h : TK r f n tk) {p : Nat} (hp : p < n) : 1 ≤ tk p := by
  rcases (h.2 p hp).2.2 with h1 | ⟨e1, h1, q, h2, h3, h4, h5⟩
  · omega
  · omega
/-- both greedy steps reach the same places -/
theorem step_eq (h : TK r f n tk) {pl k d : Nat} (hd : d < 10) (hk : k < 1000) (hpl : ∀ p, pl.testBit p = true → p < n ∧ tk p = k + 1) (q : Nat) : ((∃ p, p ≤ n ∧ pl.testBit p = true ∧ Eg r f n p d q) ∧ Rch r f n k q) ↔ ∃ p, p < n ∧ pl.testBit p = true ∧ ∃ l, l < 2 ∧ bhd f n p (r (2 * d + l)) = some q ∧ tby r f n tk p (2 * d + l) = tk p := by
  constructor
  · rintro ⟨⟨p, hp, hT, hE⟩, hR⟩
    obtain ⟨hpn, htk⟩ := hpl p hT
    have h1 := tk_1 h k q (by omega) hR
    obtain ⟨l, hl, hb⟩ := Eg_e.mp hE
    have hne : q ≠ p := by intro e; rw [e] at h1; omega
    have h2 := (h.2 p hpn).2.1 (2 * d + l) (by omega) q hb hne
    refine ⟨p, hpn, hT, l, hl, hb, ?_⟩
    unfold tby
    rw [hb]
    show (if q = p then 1000000000 else 1 + tk q) = tk p
    rw [if_neg hne]
    omega
  · rintro ⟨p, hpn, hT, l, hl, hb, ht⟩
    obtain ⟨-, htk⟩ := hpl p hT
    refine ⟨⟨p, by omega, hT, Eg_e.mpr ⟨l, hl, hb⟩⟩, ?_⟩
    unfold tby at ht
    rw [hb] at ht
    dsimp only at ht
    by_cases e : q = p
    · rw [if_pos e] at ht
      omega
    · rw [if_neg e] at ht
      exact tk_2 h k q (by omega) (bhd_b (by omega) hb) (by omega)
end ADM
