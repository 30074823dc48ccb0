/-! a word here is a word there -/
def pkl (B : Nat → Nat) (q n : Nat) : Nat := match n with
  | 0 => 0
  | n + 1 => if pkl B q n < 281474976710656 then pkl B q n * 256 + B (q + n) else 1152921504606846976
def wpk (k : Nat) : Nat := pkl wdn (wst k) (wlen k)
section PCK
variable {N : Mem} {σ τ υ : ST} {B W : Nat → Nat} {L q e j : Nat}
theorem spn_a {P : Nat → Bool} : ∀ d p i, p ≤ i → i < spn P B d p → P (B i) = true := by
  intro d
  induction d with
  | zero =>
    intro p i h1 h2
    unfold spn at h2
    omega
  | succ d ih =>
    intro p i h1 h2
    unfold spn at h2
    by_cases c : P (B p) = true
    · rw [if_pos c] at h2
      by_cases c2 : i = p
      · rw [c2]; exact c
      · exact ih (p + 1) i (by omega) h2
    · rw [if_neg c] at h2
      omega
theorem pkl_r : ∀ d n, pkr B d (q + n) (pkl B q n) = pkl B q (spn bA B d (q + n) - q) := by
  intro d
  induction d with
  | zero =>
    intro n
    unfold pkr spn
    rw [Nat.add_sub_cancel_left]
  | succ d ih =>
    intro n
    unfold pkr spn
    by_cases c : bA (B (q + n)) = true
    · rw [if_pos c, if_pos c]
      exact ih (n + 1)
    · rw [if_neg c, if_neg c, Nat.add_sub_cancel_left]
theorem p256 {n : Nat} (h : n ≤ 6) : 256 ^ n ≤ 281474976710656 := Nat.le_trans (Nat.pow_le_pow_right (by omega) h) (by decide)
theorem pkl_u (hB : ∀ u, B (q + u) < 256) : ∀ n, n ≤ 7 → pkl B q n < 256 ^ n := by
  intro n
  induction n with
  | zero => intro _; exact Nat.one_pos
  | succ n ih =>
    intro hn
    have h1 := ih (by omega)
    have h2 := p256 (n := n) (by omega)
    have h3 := hB n
    unfold pkl
    rw [if_pos (by omega), Nat.pow_succ]
    omega
theorem pkl_l (hB : ∀ u, B (q + u) < 256) (h0 : 1 ≤ B q) : ∀ n, n ≤ 6 → 256 ^ n ≤ pkl B q (n + 1) := by
  intro n
  induction n with
  | zero =>
    intro _
    unfold pkl pkl
    rw [if_pos (by omega), Nat.pow_zero]
    show 1 ≤ 0 * 256 + B (q + 0)
    rw [Nat.add_zero]
    omega
  | succ n ih =>
    intro hn
    have h1 := ih (by omega)
    have h2 := pkl_u hB (n + 1) (by omega)
    have h3 := p256 (n := n + 1) (by omega)
    rw [pkl, if_pos (by omega), Nat.pow_succ]
    omega
theorem pkl_8 (hB : ∀ u, B (q + u) < 256) (h0 : 1 ≤ B q) : ∀ n, pkl B q (n + 8) = 1152921504606846976 := by
  intro n
  induction n with
  | zero =>
    have h1 := pkl_l hB h0 6 (by omega)
    have e : (256 : Nat) ^ 6 = 281474976710656 := by decide
    rw [e] at h1
    have h2 : 281474976710656 ≤ pkl B q 7 := h1
    show pkl B q (7 + 1) = _
    rw [pkl, if_neg (by omega)]
  | succ n ih =>
    show pkl B q ((n + 8) + 1) = _
    rw [pkl, if_neg (by rw [ih]; omega)]
theorem pkl_i (hB : ∀ u, B (q + u) < 256) (hW : ∀ u, W (j + u) < 256) : ∀ n m, n ≤ 7 → m ≤ 7 → (∀ u, u < n → 1 ≤ B (q + u)) → (∀ u, u < m → 1 ≤ W (j + u)) → pkl B q n = pkl W j m → n = m ∧ ∀ u, u < n → B (q + u) = W (j + u) := by
  intro n
  induction n with
  | zero =>
    intro m h1 h2 p1 p2 h
    cases m with
    | zero => exact ⟨rfl, fun u hu => absurd hu (by omega)⟩
    | succ m =>
      exfalso
      have a1 := pkl_u hW m (by omega)
      have a2 := p256 (n := m) (by omega)
      have a3 := p2 m (by omega)
      rw [pkl, pkl, if_pos (by omega)] at h
      omega
  | succ n ih =>
    intro m h1 h2 p1 p2 h
    have b1 := pkl_u hB n (by omega)
    have b2 := p256 (n := n) (by omega)
    have b3 := p1 n (by omega)
    have b4 := hB n
    cases m with
    | zero =>
      exfalso
      have hs : pkl B q (n + 1) = pkl B q n * 256 + B (q + n) := by rw [pkl, if_pos (by omega)]
      have hz : pkl W j 0 = 0 := rfl
      omega
    | succ m =>
      have a1 := pkl_u hW m (by omega)
      have a2 := p256 (n := m) (by omega)
      have a4 := hW m
      rw [pkl, if_pos (by omega), pkl, if_pos (by omega)] at h
      obtain ⟨e1, e2⟩ := ih m (by omega) (by omega) (fun u hu => p1 u (by omega)) (fun u hu => p2 u (by omega)) (by omega)
      refine ⟨by omega, fun u hu => ?_⟩
      by_cases c : u = n
      · subst c
        subst e1
        omega
      · exact e2 u (by omega)
theorem pkl_c {n : Nat} : (∀ u, u < n → B (q + u) = W (j + u)) → pkl B q n = pkl W j n := by
  induction n with
  | zero => intro _; rfl
  | succ n ih =>
    intro h
    rw [pkl, pkl, ih (fun u hu => h u (by omega)), h n (by omega)]
theorem wpk_t : (List.range 27).all (fun a => (List.range 27).all (fun b => decide (wpk a = wpk b → a = b))) = true := by decide +kernel
theorem wpk_i {a b : Nat} (ha : a < 27) (hb : b < 27) (h : wpk a = wpk b) : a = b := of_decide_eq_true (List.all_eq_true.mp (List.all_eq_true.mp wpk_t a (List.mem_range.mpr ha)) b (List.mem_range.mpr hb)) h
theorem wlen_t : (List.range 27).all (fun a => decide (a = 1 ∨ wlen a ≤ 7)) = true := by decide +kernel
theorem wlen_7 {a : Nat} (ha : a < 27) (h1 : a ≠ 1) : wlen a ≤ 7 := (of_decide_eq_true (List.all_eq_true.mp wlen_t a (List.mem_range.mpr ha))).resolve_left h1
theorem wdn_b (u : Nat) : wdn u < 256 := by
  by_cases h : u < 138
  · exact (wd_t u h).2
  · have : wdn u = 0 := by
      unfold wdn
      have hl : mx_wd.length = 138 := by decide +kernel
      rw [List.getD_eq_getElem?_getD, List.getElem?_eq_none (by omega)]
      rfl
    omega
theorem isW_p (h : isW B q e j) : pkl B q (e - q) = wpk j := by
  obtain ⟨h1, h2⟩ := h
  rw [show e - q = wlen j by omega]
  exact pkl_c h2
/-- the packed value is word k's only where the letters are -/
theorem isW_n (hB : ∀ u, B (q + u) < 256) (hA : ∀ u, u < e - q → 1 ≤ B (q + u)) (hq : q < e) {k : Nat} (hk : k < 27) (h1 : k ≠ 1) (h : pkl B q (e - q) = wpk k) : isW B q e k := by
  have l7 := wlen_7 hk h1
  obtain ⟨w1, w2, w3, w4, w5, w6⟩ := wd_k hk
  have hu := pkl_u (B := wdn) (q := wst k) (fun u => wdn_b _) (wlen k) l7
  have p7 : (256 : Nat) ^ wlen k ≤ 256 ^ 7 := Nat.pow_le_pow_right (by omega) l7
  have e7 : (256 : Nat) ^ 7 = 72057594037927936 := by decide
  have h0 : 1 ≤ B q := hA 0 (by omega)
  by_cases c : e - q ≤ 7
  · obtain ⟨i1, i2⟩ := pkl_i hB (fun u => wdn_b _) (e - q) (wlen k) c l7 hA (fun u hu => by have := w6 u hu; omega) h
    refine ⟨by omega, fun u hu => i2 u (by omega)⟩
  · exfalso
    have e8 := pkl_8 hB h0 (e - q - 8)
    rw [show e - q - 8 + 8 = e - q by omega, h] at e8
    unfold wpk at e8
    omega
end PCK
