/-! the longest row in both: the mathematics -/
def lcq (f g : Nat → Nat) (n m : Nat) (k i j : Nat) : Nat := match k with
  | 0 => 0
  | k + 1 => if n ≤ i ∨ m ≤ j then 0 else if f i = g j then 1 + lcq f g n m k (i + 1) (j + 1) else max (lcq f g n m k (i + 1) j) (lcq f g n m k i (j + 1))
def LC (f g : Nat → Nat) (n m i j : Nat) : Nat := lcq f g n m (n + m) i j
def fo (f : Nat → Nat) (d : Nat) (k i : Nat) : Option Nat := match k with
  | 0 => none
  | k + 1 => if f i = d then some i else fo f d k (i + 1)
section LCS
variable {f g : Nat → Nat} {n m : Nat}
theorem lcq_out {k i j : Nat} (h : n ≤ i ∨ m ≤ j) : lcq f g n m k i j = 0 := by
  cases k with
  | zero => rfl
  | succ k => exact if_pos h
theorem lcq_st : ∀ k i j, n - i + (m - j) ≤ k → lcq f g n m (k + 1) i j = lcq f g n m k i j := by
  intro k
  induction k with
  | zero =>
    intro i j h
    rw [lcq_out (Or.inl (by omega)), lcq_out (Or.inl (by omega))]
  | succ k ih =>
    intro i j h
    by_cases c : n ≤ i ∨ m ≤ j
    · rw [lcq_out c, lcq_out c]
    · have e1 := ih (i + 1) (j + 1) (by omega)
      have e2 := ih (i + 1) j (by omega)
      have e3 := ih i (j + 1) (by omega)
      show (if n ≤ i ∨ m ≤ j then 0 else if f i = g j then 1 + lcq f g n m (k + 1) (i + 1) (j + 1) else max (lcq f g n m (k + 1) (i + 1) j) (lcq f g n m (k + 1) i (j + 1))) = (if n ≤ i ∨ m ≤ j then 0 else if f i = g j then 1 + lcq f g n m k (i + 1) (j + 1) else max (lcq f g n m k (i + 1) j) (lcq f g n m k i (j + 1)))
      rw [e1, e2, e3]
theorem LC_out {i j : Nat} (h : n ≤ i ∨ m ≤ j) : LC f g n m i j = 0 := lcq_out h
theorem LC_eq {i j : Nat} (hi : i < n) (hj : j < m) (h : f i = g j) : LC f g n m i j = 1 + LC f g n m (i + 1) (j + 1) := by
  unfold LC
  rw [← lcq_st (n + m) i j (by omega), lcq, if_neg (by omega), if_pos h]
theorem LC_ne {i j : Nat} (hi : i < n) (hj : j < m) (h : f i ≠ g j) : LC f g n m i j = max (LC f g n m (i + 1) j) (LC f g n m i (j + 1)) := by
  unfold LC
  rw [← lcq_st (n + m) i j (by omega), lcq, if_neg (by omega), if_neg h]
theorem LC_m : ∀ k i j, n - i + (m - j) ≤ k → LC f g n m (i + 1) j ≤ LC f g n m i j ∧ LC f g n m i (j + 1) ≤ LC f g n m i j ∧ LC f g n m i j ≤ LC f g n m (i + 1) j + 1 ∧ LC f g n m i j ≤ LC f g n m i (j + 1) + 1 := by
  intro k
  induction k with
  | zero =>
    intro i j h
    rw [LC_out (i := i) (j := j) (Or.inl (by omega)), LC_out (i := i + 1) (j := j) (Or.inl (by omega)), LC_out (i := i) (j := j + 1) (Or.inl (by omega))]
    omega
  | succ k ih =>
    intro i j h
    by_cases c : n ≤ i ∨ m ≤ j
    · rw [LC_out (i := i) (j := j) c, LC_out (i := i + 1) (j := j) (by omega), LC_out (i := i) (j := j + 1) (by omega)]
      omega
    · have a1 := ih (i + 1) j (by omega)
      have a2 := ih i (j + 1) (by omega)
      by_cases e : f i = g j
      · have e1 := LC_eq (n := n) (m := m) (i := i) (j := j) (by omega) (by omega) e
        omega
      · have e1 := LC_ne (n := n) (m := m) (i := i) (j := j) (by omega) (by omega) e
        omega
theorem LC_b : ∀ k i j, n - i ≤ k → LC f g n m i j ≤ k := by
  intro k
  induction k with
  | zero =>
    intro i j h
    rw [LC_out (Or.inl (by omega))]
    omega
  | succ k ih =>
    intro i j h
    have h1 := (LC_m (f := f) (g := g) (n := n) (m := m) _ i j (Nat.le_refl _)).2.2.1
    have h2 := ih (i + 1) j (by omega)
    omega
theorem LC_i : ∀ k i j, LC f g n m (i + k) j ≤ LC f g n m i j := by
  intro k
  induction k with
  | zero => intro i j; exact Nat.le_refl _
  | succ k ih =>
    intro i j
    have h1 := (LC_m (f := f) (g := g) (n := n) (m := m) _ (i + k) j (Nat.le_refl _)).1
    have h2 := ih i j
    rw [show i + (k + 1) = i + k + 1 by omega]
    omega
theorem LC_j : ∀ k i j, LC f g n m i (j + k) ≤ LC f g n m i j := by
  intro k
  induction k with
  | zero => intro i j; exact Nat.le_refl _
  | succ k ih =>
    intro i j
    have h1 := (LC_m (f := f) (g := g) (n := n) (m := m) _ i (j + k) (Nat.le_refl _)).2.1
    have h2 := ih i j
    rw [show j + (k + 1) = j + k + 1 by omega]
    omega
theorem LC_mo {i j p q : Nat} (h1 : i ≤ p) (h2 : j ≤ q) : LC f g n m p q ≤ LC f g n m i j := by
  have a := LC_i (f := f) (g := g) (n := n) (m := m) (p - i) i q
  have b := LC_j (f := f) (g := g) (n := n) (m := m) (q - j) i j
  rw [show i + (p - i) = p by omega] at a
  rw [show j + (q - j) = q by omega] at b
  omega
theorem LC_up {i j p q : Nat} (h1 : i ≤ p) (h2 : j ≤ q) (hp : p < n) (hq : q < m) (h : f p = g q) : 1 + LC f g n m (p + 1) (q + 1) ≤ LC f g n m i j := by
  rw [← LC_eq hp hq h]
  exact LC_mo h1 h2
theorem LC_ex {r : Nat} : ∀ k i j, n - i + (m - j) ≤ k → LC f g n m i j = r + 1 → ∃ p q, i ≤ p ∧ p < n ∧ j ≤ q ∧ q < m ∧ f p = g q ∧ LC f g n m (p + 1) (q + 1) = r := by
  intro k
  induction k with
  | zero =>
    intro i j h e
    rw [LC_out (Or.inl (by omega))] at e
    omega
  | succ k ih =>
    intro i j h e
    by_cases c : n ≤ i ∨ m ≤ j
    · rw [LC_out c] at e
      omega
    · by_cases e1 : f i = g j
      · rw [LC_eq (by omega) (by omega) e1] at e
        exact ⟨i, j, Nat.le_refl _, by omega, Nat.le_refl _, by omega, e1, by omega⟩
      · have e2 := LC_ne (n := n) (m := m) (i := i) (j := j) (by omega) (by omega) e1
        by_cases c2 : LC f g n m (i + 1) j = r + 1
        · obtain ⟨p, q, a1, a2, a3, a4, a5, a6⟩ := ih (i + 1) j (by omega) c2
          exact ⟨p, q, by omega, a2, a3, a4, a5, a6⟩
        · obtain ⟨p, q, a1, a2, a3, a4, a5, a6⟩ := ih i (j + 1) (by omega) (by omega)
          exact ⟨p, q, a1, a2, by omega, a4, a5, a6⟩
theorem fo_s {d p : Nat} : ∀ k i, fo f d k i = some p → i ≤ p ∧ p < i + k ∧ f p = d ∧ ∀ q, i ≤ q → q < p → f q ≠ d := by
  intro k
  induction k with
  | zero => intro i h; cases h
  | succ k ih =>
    intro i h
    rw [fo] at h
    by_cases e : f i = d
    · rw [if_pos e] at h
      cases h
      exact ⟨Nat.le_refl _, by omega, e, fun q h1 h2 => by omega⟩
    · rw [if_neg e] at h
      obtain ⟨a1, a2, a3, a4⟩ := ih (i + 1) h
      refine ⟨by omega, by omega, a3, fun q h1 h2 => ?_⟩
      by_cases e2 : q = i
      · rw [e2]; exact e
      · exact a4 q (by omega) h2
theorem fo_n {d : Nat} : ∀ k i, fo f d k i = none → ∀ q, i ≤ q → q < i + k → f q ≠ d := by
  intro k
  induction k with
  | zero => intro i h q h1 h2; omega
  | succ k ih =>
    intro i h q h1 h2
    rw [fo] at h
    by_cases e : f i = d
    · rw [if_pos e] at h
      cases h
    · rw [if_neg e] at h
      by_cases e2 : q = i
      · rw [e2]; exact e
      · exact ih (i + 1) h q (by omega) (by omega)
/-- a digit by which it goes on -/
def ND (f g : Nat → Nat) (n m i j r d : Nat) : Prop := ∃ p q, fo f d (n - i) i = some p ∧ fo g d (m - j) j = some q ∧ LC f g n m (p + 1) (q + 1) = r
theorem ND_ex {i j r : Nat} (h9 : ∀ i, f i ≤ 9) (h : LC f g n m i j = r + 1) : ∃ d, d ≤ 9 ∧ ND f g n m i j r d := by
  obtain ⟨p, q, a1, a2, a3, a4, a5, a6⟩ := LC_ex _ i j (Nat.le_refl _) h
  refine ⟨f p, h9 p, ?_⟩
  cases e1 : fo f (f p) (n - i) i with
  | none => exact absurd rfl (fo_n _ _ e1 p a1 (by omega))
  | some p' =>
    cases e2 : fo g (f p) (m - j) j with
    | none => exact absurd a5.symm (fo_n _ _ e2 q a3 (by omega))
    | some q' =>
      obtain ⟨b1, b2, b3, b4⟩ := fo_s _ _ e1
      obtain ⟨c1, c2, c3, c4⟩ := fo_s _ _ e2
      refine ⟨p', q', e1, e2, ?_⟩
      have hp : p' ≤ p := by
        apply Nat.le_of_not_lt
        intro hc
        exact b4 p a1 hc rfl
      have hq : q' ≤ q := by
        apply Nat.le_of_not_lt
        intro hc
        exact c4 q a3 hc a5.symm
      have m1 := LC_mo (f := f) (g := g) (n := n) (m := m) (i := p' + 1) (j := q' + 1) (p := p + 1) (q := q + 1) (by omega) (by omega)
      have m2 := LC_up (f := f) (g := g) (n := n) (m := m) (i := i) (j := j) (p := p') (q := q') b1 c1 (by omega) (by omega) (b3.trans c3.symm)
      omega
end LCS
