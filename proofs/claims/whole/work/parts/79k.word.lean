/-! the class's words -/
def wdn (j : Nat) : Nat := (mx_wd.getD j 0).toNatClampNeg
def wds0 : List Nat := [0, 6, 15, 21, 29, 36, 42, 48, 53, 57, 63, 69, 74, 78, 82, 87, 92, 95, 98, 105, 110, 113, 118, 123, 127, 130, 134, 138]
def wst (k : Nat) : Nat := wds0.getD k 0
def wlen (k : Nat) : Nat := wst (k + 1) - wst k - 1
/-- the letters from q up to e are the table's word k -/
def isW (B : Nat → Nat) (q e k : Nat) : Prop := q + wlen k = e ∧ ∀ u, u < wlen k → B (q + u) = wdn (wst k + u)
section WRD
variable {N : Mem} {σ τ υ : ST} {B : Nat → Nat} {L q e : Nat}
theorem wd_t : ∀ j, j < 138 → f_J0_charAt_5068e 0 (nI j) = some (nI (wdn j)) ∧ wdn j < 256 := by decide +kernel
theorem wd_l : f_J0_length_8abf5 0 = some (nI 138) := by decide +kernel
theorem wd_a : (List.range 27).all (fun k => decide (wst k + wlen k + 1 = wst (k + 1) ∧ wst (k + 1) ≤ 138 ∧ wdn (wst k + wlen k) = 32 ∧ 1 ≤ wlen k ∧ wlen k ≤ 8) && (List.range (wlen k)).all (fun u => decide (97 ≤ wdn (wst k + u) ∧ wdn (wst k + u) ≤ 122))) = true := by decide +kernel
theorem wd_k {k : Nat} (hk : k < 27) : wst k + wlen k + 1 = wst (k + 1) ∧ wst (k + 1) ≤ 138 ∧ wdn (wst k + wlen k) = 32 ∧ 1 ≤ wlen k ∧ wlen k ≤ 8 ∧ ∀ u, u < wlen k → 97 ≤ wdn (wst k + u) ∧ wdn (wst k + u) ≤ 122 := by
  have h := List.all_eq_true.mp wd_a k (List.mem_range.mpr hk)
  rw [Bool.and_eq_true] at h
  obtain ⟨h1, h2, h3, h4, h5⟩ := of_decide_eq_true h.1
  exact ⟨h1, h2, h3, h4, h5, fun u hu => of_decide_eq_true (List.all_eq_true.mp h.2 u (List.mem_range.mpr hu))⟩
theorem m1_ne {a : Nat} (ha : a < 2147483648) : ¬ (-1 : Int32) = nI a := fun h => nI_pos ha (by rw [← h]; decide)
/-- a word that is lost already -/
theorem wf_c (h5 : σ.1 593 5 = nI e) (h4 : σ.1 593 4 = nI q) (he : e ≤ 300) {k : Nat} : ∀ r j n, j + r < 138 → (∀ u, u < r → wdn (j + u) ≠ 32) → wdn (j + r) = 32 → g_X7_scanWord_53 N (n + r + 1) 593 (nI k) (-1) (nI j) σ = g_X7_scanWord_53 N n 593 (nI (k + 1)) (nI q) (nI (j + r + 1)) σ := by
  intro r
  induction r with
  | zero =>
    intro j n hj hu hs
    obtain ⟨t1, t2⟩ := wd_t j (by omega)
    rw [Nat.add_zero] at hs
    rw [Nat.add_zero, g_X7_scanWord_53, wd_l, bnd, if_neg (nI_ge (by omega) (by omega)), t1, bnd, hs, show (32 : Int32) = nI 32 from rfl, if_pos rfl, h5, if_neg (m1_ne (by omega)), h4, k_1, nI_add, nI_add]
  | succ r ih =>
    intro j n hj hu hs
    obtain ⟨t1, t2⟩ := wd_t j (by omega)
    have hj0 : wdn j ≠ 32 := hu 0 (by omega)
    have e1 := ih (j + 1) n (by omega) (fun u h => by rw [show j + 1 + u = j + (u + 1) by omega]; exact hu (u + 1) (by omega)) (by rw [show j + 1 + r = j + (r + 1) by omega]; exact hs)
    rw [show n + (r + 1) + 1 = (n + r + 1) + 1 by omega, g_X7_scanWord_53, wd_l, bnd, if_neg (nI_ge (by omega) (by omega)), t1, bnd, show (32 : Int32) = nI 32 from rfl, if_neg (fun h => hj0 ((nI_eq (by omega) (by omega)).mp h)), if_pos (by decide), show nI j + 1 = nI (j + 1) by rw [k_1, nI_add], e1, show j + 1 + r + 1 = j + (r + 1) + 1 by omega]
/-- a word that has held so far -/
theorem wm_c (h : BT B L σ) (h5 : σ.1 593 5 = nI e) (h4 : σ.1 593 4 = nI q) (he : e ≤ L) {k : Nat} : ∀ r j n p, p ≤ e → j + r < 138 → (∀ u, u < r → wdn (j + u) ≠ 32) → wdn (j + r) = 32 → (((p + r = e ∧ ∀ u, u < r → B (p + u) = wdn (j + u)) ∧ g_X7_scanWord_53 N (n + r + 1) 593 (nI k) (nI p) (nI j) σ = some (setI σ 593 2 (nI k))) ∨ (¬ (p + r = e ∧ ∀ u, u < r → B (p + u) = wdn (j + u)) ∧ g_X7_scanWord_53 N (n + r + 1) 593 (nI k) (nI p) (nI j) σ = g_X7_scanWord_53 N n 593 (nI (k + 1)) (nI q) (nI (j + r + 1)) σ)) := by
  have h0 := h.1
  intro r
  induction r with
  | zero =>
    intro j n p hp hj hu hs
    obtain ⟨t1, t2⟩ := wd_t j (by omega)
    rw [Nat.add_zero] at hs
    by_cases c : p = e
    · left
      refine ⟨⟨by omega, fun u hu => absurd hu (by omega)⟩, ?_⟩
      rw [Nat.add_zero, g_X7_scanWord_53, wd_l, bnd, if_neg (nI_ge (by omega) (by omega)), t1, bnd, hs, show (32 : Int32) = nI 32 from rfl, if_pos rfl, h5, if_pos (by rw [c]), bnd]
    · right
      refine ⟨fun q => c (by omega), ?_⟩
      rw [Nat.add_zero, g_X7_scanWord_53, wd_l, bnd, if_neg (nI_ge (by omega) (by omega)), t1, bnd, hs, show (32 : Int32) = nI 32 from rfl, if_pos rfl, h5, if_neg (fun q => c ((nI_eq (by omega) (by omega)).mp q)), h4, k_1, nI_add, nI_add]
  | succ r ih =>
    intro j n p hp hj hu hs
    obtain ⟨t1, t2⟩ := wd_t j (by omega)
    have hj0 : wdn j ≠ 32 := hu 0 (by omega)
    have hu1 : ∀ u, u < r → wdn (j + 1 + u) ≠ 32 := fun u h => by rw [show j + 1 + u = j + (u + 1) by omega]; exact hu (u + 1) (by omega)
    have hs1 : wdn (j + 1 + r) = 32 := by rw [show j + 1 + r = j + (r + 1) by omega]; exact hs
    have nsp : ¬ nI (wdn j) = nI 32 := fun h => hj0 ((nI_eq (by omega) (by omega)).mp h)
    have lost := wf_c (N := N) h5 h4 (by omega) (k := k) r (j + 1) n (by omega) hu1 hs1
    rw [show j + 1 + r + 1 = j + (r + 1) + 1 by omega] at lost
    have st : g_X7_scanWord_53 N (n + (r + 1) + 1) 593 (nI k) (nI p) (nI j) σ = if nI e ≤ nI p then g_X7_scanWord_53 N (n + r + 1) 593 (nI k) (-1) (nI (j + 1)) σ else (g_X7_byteAt N 593 (nI p) σ).bind fun v4 => if v4 = nI (wdn j) then g_X7_scanWord_53 N (n + r + 1) 593 (nI k) (nI (p + 1)) (nI (j + 1)) σ else g_X7_scanWord_53 N (n + r + 1) 593 (nI k) (-1) (nI (j + 1)) σ := by
      rw [show n + (r + 1) + 1 = (n + r + 1) + 1 by omega, g_X7_scanWord_53, wd_l, bnd, if_neg (nI_ge (by omega) (by omega)), t1, bnd, show (32 : Int32) = nI 32 from rfl, if_neg nsp, show (0 : Int32) = nI 0 from rfl, if_neg (nI_nlt (by omega) (by omega)), h5, k_1, nI_add, nI_add]
    by_cases c : e ≤ p
    · right
      refine ⟨fun q => by omega, ?_⟩
      rw [st, if_pos (nI_le c (by omega)), lost]
    · have eb := ba_c (N := N) h (i := p) (by omega)
      rw [if_pos (by omega)] at eb
      have bb := (h.2.2 p (by omega)).2
      rw [st, if_neg (nI_ge (by omega) (by omega)), eb, bnd]
      by_cases c2 : B p = wdn j
      · rw [if_pos (by rw [c2])]
        have sh : ∀ u, B (p + 1 + u) = B (p + (u + 1)) ∧ wdn (j + 1 + u) = wdn (j + (u + 1)) := fun u => ⟨by rw [show p + 1 + u = p + (u + 1) by omega], by rw [show j + 1 + u = j + (u + 1) by omega]⟩
        rcases ih (j + 1) n (p + 1) (by omega) (by omega) hu1 hs1 with ⟨⟨m1, m2⟩, m3⟩ | ⟨m1, m3⟩
        · left
          refine ⟨⟨by omega, fun u hu => ?_⟩, m3⟩
          cases u with
          | zero => exact c2
          | succ u =>
            have := m2 u (by omega)
            rw [(sh u).1, (sh u).2] at this
            exact this
        · right
          refine ⟨fun q => m1 ⟨by omega, fun u hu => ?_⟩, ?_⟩
          · rw [(sh u).1, (sh u).2]
            exact q.2 (u + 1) (by omega)
          · rw [m3, show j + 1 + r + 1 = j + (r + 1) + 1 by omega]
      · right
        refine ⟨fun q => c2 (q.2 0 (by omega)), ?_⟩
        rw [if_neg (fun q => c2 ((nI_eq (by omega) (by omega)).mp q)), lost]
/-- the whole table -/
theorem wt_c (h : BT B L σ) (h5 : σ.1 593 5 = nI e) (h4 : σ.1 593 4 = nI q) (he : e ≤ L) (hq : q ≤ e) : ∀ d k n, k + d = 27 → 138 - wst k < n → (∃ j, k ≤ j ∧ j < 27 ∧ isW B q e j ∧ g_X7_scanWord_53 N n 593 (nI k) (nI q) (nI (wst k)) σ = some (setI σ 593 2 (nI j))) ∨ ((∀ j, k ≤ j → j < 27 → ¬ isW B q e j) ∧ g_X7_scanWord_53 N n 593 (nI k) (nI q) (nI (wst k)) σ = some σ) := by
  intro d
  induction d with
  | zero =>
    intro k n hk hn
    obtain ⟨n, rfl⟩ : ∃ x, n = x + 1 := ⟨n - 1, by omega⟩
    obtain rfl : k = 27 := by omega
    right
    refine ⟨fun j h1 h2 => absurd h1 (by omega), ?_⟩
    rw [g_X7_scanWord_53, wd_l, bnd, if_pos (by decide)]
  | succ d ih =>
    intro k n hk hn
    obtain ⟨w1, w2, w3, w4, w5, w6⟩ := wd_k (k := k) (by omega)
    obtain ⟨n, rfl⟩ : ∃ x, n = x + wlen k + 1 := ⟨n - wlen k - 1, by omega⟩
    rcases wm_c (N := N) h h5 h4 he (k := k) (wlen k) (wst k) n q hq (by omega) (fun u hu => by have := w6 u hu; omega) w3 with ⟨m1, m2⟩ | ⟨m1, m2⟩
    · exact Or.inl ⟨k, by omega, by omega, m1, m2⟩
    · rw [w1] at m2
      rcases ih (k + 1) n (by omega) (by omega) with ⟨j, j1, j2, j3, j4⟩ | ⟨j1, j2⟩
      · exact Or.inl ⟨j, by omega, j2, j3, m2.trans j4⟩
      · refine Or.inr ⟨fun j q1 q2 => ?_, m2.trans j2⟩
        by_cases c : j = k
        · rw [c]
          exact m1
        · exact j1 j (by omega) q2
/-- the letters of a word -/
theorem le_c (h : BT B L σ) : ∀ d p n, p + d = L → d < n → g_X7_scanWord_0 N n 593 (setI σ 593 5 (nI p)) = g_X7_scanWord_38 N 593 (setI σ 593 5 (nI (spn bA B d p))) := by
  have h0 := h.1
  intro d
  induction d with
  | zero =>
    intro p n hp hn
    obtain ⟨n, rfl⟩ : ∃ x, n = x + 1 := ⟨n - 1, by omega⟩
    have e1 : (setI σ 593 5 (nI p)).1 593 1 = nI L := (I_ne (by omega)).trans h.2.1
    have e4 : (setI σ 593 5 (nI p)).1 593 5 = nI p := I_same rfl rfl
    rw [g_X7_scanWord_0, e1, e4, if_pos (nI_le (by omega) (by omega))]
    rfl
  | succ d ih =>
    intro p n hp hn
    obtain ⟨n, rfl⟩ : ∃ x, n = x + 1 := ⟨n - 1, by omega⟩
    have e1 : (setI σ 593 5 (nI p)).1 593 1 = nI L := (I_ne (by omega)).trans h.2.1
    have e4 : (setI σ 593 5 (nI p)).1 593 5 = nI p := I_same rfl rfl
    have eb := ba_c (N := N) (h.s (k := 5) (v := nI p) (by omega)) (i := p) (by omega)
    rw [if_pos (by omega)] at eb
    have bb := (h.2.2 p (by omega)).2
    rw [g_X7_scanWord_0, e1, e4, if_neg (nI_ge (by omega) (by omega)), eb, bnd, (ch_t _ (by omega)).1, bnd]
    unfold spn
    by_cases c : bA (B p) = true
    · rw [c, if_neg (by decide), if_pos rfl, bnd, k_1, nI_add, I_tw]
      exact ih (p + 1) n (by omega) (by omega)
    · have c' : bA (B p) = false := by
        cases q : bA (B p) with
        | true => exact absurd q c
        | false => rfl
      rw [c', if_pos rfl, if_neg (by decide)]
theorem wo_c (h : BT B L σ) (h4 : σ.1 593 4 = nI q) {p d : Nat} (hp : p + d = L) (hq : q ≤ p) : ∃ τ k, g_X7_scanWord N 593 (setI σ 593 5 (nI p)) = some τ ∧ τ.1 593 2 = nI k ∧ ((k < 27 ∧ isW B q (spn bA B d p) k) ∨ (k = 42 ∧ ∀ j, j < 27 → ¬ isW B q (spn bA B d p) j)) ∧ τ.1 593 5 = nI (spn bA B d p) ∧ (∀ a i, ¬ (a = 593 ∧ (i = 2 ∨ i = 5)) → τ.1 a i = σ.1 a i) ∧ τ.2 = σ.2 := by
  have h0 := h.1
  have sb := spn_b bA B d p
  have h1 : BT B L (setI (setI σ 593 5 (nI (spn bA B d p))) 593 2 (nI 42)) := (h.s (by omega)).s (by omega)
  have e5 : (setI (setI σ 593 5 (nI (spn bA B d p))) 593 2 (nI 42)).1 593 5 = nI (spn bA B d p) := (I_ne (by omega)).trans (I_same rfl rfl)
  have e4 : (setI (setI σ 593 5 (nI (spn bA B d p))) 593 2 (nI 42)).1 593 4 = nI q := (I_ne (by omega)).trans ((I_ne (by omega)).trans h4)
  have st : g_X7_scanWord N 593 (setI σ 593 5 (nI p)) = g_X7_scanWord_53 N fu 593 (nI 0) (nI q) (nI (wst 0)) (setI (setI σ 593 5 (nI (spn bA B d p))) 593 2 (nI 42)) := by
    unfold g_X7_scanWord
    rw [le_c h d p fu hp (by unfold fu; omega)]
    unfold g_X7_scanWord_38
    rw [show (42 : Int32) = nI 42 from rfl, bnd, e4]
    rfl
  rcases wt_c (N := N) h1 e5 e4 (by omega) (by omega) 27 0 fu (by omega) (by unfold fu; omega) with ⟨j, j1, j2, j3, j4⟩ | ⟨j1, j2⟩
  · refine ⟨_, j, st.trans j4, I_same rfl rfl, Or.inl ⟨j2, j3⟩, (I_ne (by omega)).trans e5, fun a i q => ?_, rfl⟩
    rw [I_ne (by omega), I_ne (by omega), I_ne (by omega)]
  · refine ⟨_, 42, st.trans j2, I_same rfl rfl, Or.inr ⟨rfl, fun j q => j1 j (by omega) q⟩, e5, fun a i q => ?_, rfl⟩
    rw [I_ne (by omega), I_ne (by omega)]
end WRD
