/-! the class's tokens: blanks, numbers -/
def BT (B : Nat → Nat) (L : Nat) (σ : ST) : Prop := L ≤ 300 ∧ σ.1 593 1 = nI L ∧ ∀ i, i < L → σ.1 594 i = nI (B i) ∧ B i ≤ 255
def BR (B : Nat → Nat) (L : Nat) (σ : ST) : Prop := L ≤ 300 ∧ σ.1 642 4 = nI L ∧ ∀ i, i < L → σ.1 646 i = nI (B i) ∧ B i ≤ 255
def spn (P : Nat → Bool) (B : Nat → Nat) (d p : Nat) : Nat := match d with
  | 0 => p
  | d + 1 => if P (B p) = true then spn P B d (p + 1) else p
def bB (c : Nat) : Bool := decide (c = 32 ∨ c = 10)
def bD (c : Nat) : Bool := decide (48 ≤ c ∧ c ≤ 57)
def bA (c : Nat) : Bool := decide ((97 ≤ c ∧ c ≤ 122) ∨ (65 ≤ c ∧ c ≤ 90))
def nmc (B : Nat → Nat) (d p v : Nat) : Nat := match d with
  | 0 => v
  | d + 1 => if bD (B p) = true then nmc B d (p + 1) (min (v * 10 + (B p - 48)) 10000) else v
def nmr (B : Nat → Nat) (d p v : Nat) : Nat := match d with
  | 0 => v
  | d + 1 => if bD (B p) = true then nmr B d (p + 1) (if v ≤ 99999 then 10 * v + (B p - 48) else v) else v
section TKS
variable {N : Mem} {σ τ υ : ST} {B : Nat → Nat} {L : Nat}
theorem ch_t : ∀ c, c < 256 → f_X7_isLetter (nI c) = some (bA c) ∧ f_X7_isDigit (nI c) = some (bD c) ∧ f_X11_isLetterByte (nI c) = some (bA c) ∧ f_X11_isFigure (nI c) = some (bD c) := by decide +kernel
theorem ch_n : f_X7_isLetter (-1) = some false ∧ f_X7_isDigit (-1) = some false ∧ f_X11_isLetterByte (-1) = some false ∧ f_X11_isFigure (-1) = some false := by decide +kernel
theorem spn_b (P : Nat → Bool) (B : Nat → Nat) : ∀ d p, p ≤ spn P B d p ∧ spn P B d p ≤ p + d := by
  intro d
  induction d with
  | zero => intro p; exact ⟨Nat.le_refl _, Nat.le_refl _⟩
  | succ d ih =>
    intro p
    unfold spn
    by_cases h : P (B p) = true
    · rw [if_pos h]
      have := ih (p + 1)
      omega
    · rw [if_neg h]
      omega
theorem nmcr (B : Nat → Nat) : ∀ d p v w, v = min w 10000 → nmc B d p v = min (nmr B d p w) 10000 := by
  intro d
  induction d with
  | zero => intro p v w h; exact h
  | succ d ih =>
    intro p v w h
    unfold nmc nmr
    by_cases c : bD (B p) = true
    · rw [if_pos c, if_pos c]
      refine ih _ _ _ ?_
      by_cases c2 : w ≤ 99999
      · rw [if_pos c2]
        omega
      · rw [if_neg c2]
        omega
    · rw [if_neg c, if_neg c]
      exact h
theorem nmr_b (B : Nat → Nat) : ∀ d p w, w ≤ 1000000 → nmr B d p w ≤ 1000000 := by
  intro d
  induction d with
  | zero => intro p w h; exact h
  | succ d ih =>
    intro p w h
    unfold nmr
    by_cases c : bD (B p) = true
    · rw [if_pos c]
      refine ih _ _ ?_
      have := of_decide_eq_true c
      by_cases c2 : w ≤ 99999
      · rw [if_pos c2]
        omega
      · rw [if_neg c2]
        omega
    · rw [if_neg c]
      exact h
theorem BT.f (h : BT B L σ) (hf : ∀ i, τ.1 594 i = σ.1 594 i) (h1 : τ.1 593 1 = σ.1 593 1) : BT B L τ := ⟨h.1, h1.trans h.2.1, fun i hi => by rw [hf]; exact h.2.2 i hi⟩
theorem BT.s (h : BT B L σ) {k : Nat} {v : Int32} (hk : k ≠ 1) : BT B L (setI σ 593 k v) := h.f (fun i => I_row (by omega)) (if_neg (fun q => hk q.2.symm))
theorem ba_c (h : BT B L σ) {i : Nat} (hi : i ≤ 300) : g_X7_byteAt N 593 (nI i) σ = some (if i < L then nI (B i) else -1) := by
  obtain ⟨h0, h1, h2⟩ := h
  unfold g_X7_byteAt g_X7_byteAt_0
  rw [h1, show (0 : Int32) = nI 0 from rfl, if_neg (nI_nlt (by omega) (by omega))]
  by_cases c : i < L
  · rw [if_neg (nI_ge (by omega) (by omega)), if_pos c, show (300 : Int32) = nI 300 from rfl, if_neg (nI_ge (by omega) (by omega)), xI_n (by omega) (by omega), bnd]
    exact congrArg some (h2 i c).1
  · rw [if_pos (nI_le (by omega) (by omega)), if_neg c]
theorem ba_r (h : BR B L σ) {i : Nat} (hi : i ≤ 300) : g_X11_byteAt N 642 (nI i) σ = some (if i < L then nI (B i) else -1) := by
  obtain ⟨h0, h1, h2⟩ := h
  unfold g_X11_byteAt g_X11_byteAt_0
  rw [h1]
  by_cases c : i < L
  · rw [if_neg (nI_ge (by omega) (by omega)), if_pos c, xI_n (by omega) (by omega), bnd]
    exact congrArg some (h2 i c).1
  · rw [if_pos (nI_le (by omega) (by omega)), if_neg c]
theorem I_tw {a k : Nat} {v w : Int32} : setI (setI σ a k v) a k w = setI σ a k w := by
  refine Prod.ext (funext fun b => funext fun j => ?_) rfl
  by_cases h : b = a ∧ j = k
  · rw [I_same h.1 h.2, I_same h.1 h.2]
  · exact (if_neg h).trans ((if_neg h).trans (if_neg h).symm)
theorem I_ne {a b k j : Nat} {v : Int32} (h : ¬ (b = a ∧ j = k)) : (setI σ a k v).1 b j = σ.1 b j := if_neg h
/-- the class passes over blanks -/
theorem sk_c (h : BT B L σ) : ∀ d p n, p + d = L → d < n → g_X7_advance_8 N n 593 (setI σ 593 4 (nI p)) = g_X7_advance_58 N 593 (setI σ 593 4 (nI (spn bB B d p))) := by
  have h0 := h.1
  intro d
  induction d with
  | zero =>
    intro p n hp hn
    obtain ⟨n, rfl⟩ : ∃ x, n = x + 1 := ⟨n - 1, by omega⟩
    have e1 : (setI σ 593 4 (nI p)).1 593 1 = nI L := (I_ne (by omega)).trans h.2.1
    have e4 : (setI σ 593 4 (nI p)).1 593 4 = nI p := I_same rfl rfl
    rw [g_X7_advance_8, e1, e4, if_pos (nI_le (by omega) (by omega))]
    rfl
  | succ d ih =>
    intro p n hp hn
    obtain ⟨n, rfl⟩ : ∃ x, n = x + 1 := ⟨n - 1, by omega⟩
    have e1 : (setI σ 593 4 (nI p)).1 593 1 = nI L := (I_ne (by omega)).trans h.2.1
    have e4 : (setI σ 593 4 (nI p)).1 593 4 = nI p := I_same rfl rfl
    have eb := ba_c (N := N) (h.s (k := 4) (v := nI p) (by omega)) (i := p) (by omega)
    rw [if_pos (by omega)] at eb
    have bb := (h.2.2 p (by omega)).2
    have go : g_X7_advance_45 N (g_X7_advance_8 N n) 593 (setI σ 593 4 (nI p)) = g_X7_advance_58 N 593 (setI σ 593 4 (nI (spn bB B d (p + 1)))) := by
      unfold g_X7_advance_45
      rw [e4, bnd, k_1, nI_add, I_tw]
      exact ih (p + 1) n (by omega) (by omega)
    have ne : ∀ a, a < 256 → B p ≠ a → ¬ nI (B p) = nI a := fun a ha q e => q ((nI_eq (by omega) (by omega)).mp e)
    rw [g_X7_advance_8, e1, e4, if_neg (nI_ge (by omega) (by omega)), eb, bnd, bnd]
    unfold spn
    by_cases c : B p = 32
    · rw [if_pos (by rw [c]; rfl), if_pos (by unfold bB; exact decide_eq_true (Or.inl c))]
      exact go
    · rw [show (32 : Int32) = nI 32 from rfl, if_neg (ne 32 (by omega) c)]
      by_cases c2 : B p = 10
      · rw [if_pos (by rw [c2]; rfl), if_pos (by unfold bB; exact decide_eq_true (Or.inr c2))]
        exact go
      · rw [show (10 : Int32) = nI 10 from rfl, if_neg (ne 10 (by omega) c2), if_neg (by unfold bB; intro q; have := of_decide_eq_true q; omega)]
/-- the class reads a number on -/
theorem nu_c : ∀ d p n v σ, BT B L σ → p + d = L → d < n → v ≤ 10000 → σ.1 593 5 = nI p → σ.1 593 3 = nI v → ∃ τ, g_X7_scanNumber_21 N n 593 σ = some τ ∧ τ.1 593 5 = nI (spn bD B d p) ∧ τ.1 593 3 = nI (nmc B d p v) ∧ (∀ a i, ¬ (a = 593 ∧ (i = 3 ∨ i = 5)) → τ.1 a i = σ.1 a i) ∧ τ.2 = σ.2 := by
  intro d
  induction d with
  | zero =>
    intro p n v σ h hp hn hv h5 h3
    obtain ⟨n, rfl⟩ : ∃ x, n = x + 1 := ⟨n - 1, by omega⟩
    have h0 := h.1
    refine ⟨σ, ?_, h5, h3, fun _ _ _ => rfl, rfl⟩
    rw [g_X7_scanNumber_21, h5, h.2.1, if_pos (nI_le (by omega) (by omega))]
  | succ d ih =>
    intro p n v σ h hp hn hv h5 h3
    obtain ⟨n, rfl⟩ : ∃ x, n = x + 1 := ⟨n - 1, by omega⟩
    have h0 := h.1
    have eb := ba_c (N := N) h (i := p) (by omega)
    rw [if_pos (by omega)] at eb
    have bb := (h.2.2 p (by omega)).2
    unfold spn nmc
    by_cases c : bD (B p) = true
    · have cd := of_decide_eq_true c
      have e3 : (setI σ 593 3 (nI (min (v * 10 + (B p - 48)) 10000))).1 593 5 = nI p := (I_ne (by omega)).trans h5
      obtain ⟨τ, t1, t2, t3, t4, t5⟩ := ih (p + 1) n (min (v * 10 + (B p - 48)) 10000) (setI (setI σ 593 3 (nI (min (v * 10 + (B p - 48)) 10000))) 593 5 (nI (p + 1))) ((h.s (by omega)).s (by omega)) (by omega) (by omega) (by omega) (I_same rfl rfl) ((I_ne (by omega)).trans (I_same rfl rfl))
      refine ⟨τ, ?_, by rw [if_pos c]; exact t2, by rw [if_pos c]; exact t3, fun a i q => ?_, t5⟩
      · have ev : jmin (nI v * 10 + nI (B p) - 48) 10000 = nI (min (v * 10 + (B p - 48)) 10000) := by
          rw [show (10 : Int32) = nI 10 from rfl, pk_mul, nI_add, show (48 : Int32) = nI 48 from rfl, pk_sub (by omega), show (10000 : Int32) = nI 10000 from rfl, jmin_n (by omega) (by omega), show v * 10 + B p - 48 = v * 10 + (B p - 48) by omega]
        rw [g_X7_scanNumber_21, h5, h.2.1, if_neg (nI_ge (by omega) (by omega)), eb, bnd, (ch_t _ (by omega)).2.1, bnd, c, if_neg (by decide), bnd, h3, ev, bnd, e3, bnd, k_1, nI_add]
        exact t1
      · rw [t4 a i q, I_ne (by omega), I_ne (by omega)]
    · refine ⟨σ, ?_, by rw [if_neg c]; exact h5, by rw [if_neg c]; exact h3, fun _ _ _ => rfl, rfl⟩
      rw [g_X7_scanNumber_21, h5, h.2.1, if_neg (nI_ge (by omega) (by omega)), eb, bnd, (ch_t _ (by omega)).2.1, bnd, if_pos (by cases q : bD (B p) with | true => exact absurd q c | false => rfl)]
end TKS
