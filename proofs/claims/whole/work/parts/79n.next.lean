/-! the reference's next token -/
def sgS (c : Nat) : Bool := decide (c = 35 ∨ (40 ≤ c ∧ c ≤ 43) ∨ c = 45 ∨ c = 47 ∨ (58 ≤ c ∧ c ≤ 62))
def rkK (B : Nat → Nat) (L q : Nat) : Nat := if L ≤ q then 0 else if bA (B q) = true then 2 else if bD (B q) = true then 1 else if sg2 B L q = true then (if B q = 60 then 4 else 5) else if sgS (B q) = true then B q else 3
noncomputable def tk1 (N : Mem) (σ : ST) : Option ST :=
    (some (setI σ 642 8 (σ.1 642 7))).bind fun r19 =>
    (g_X11_byteAt N 642 (r19.1 642 7) r19).bind fun v20 =>
    if 0 ≤ v20 then
    ((f_X11_isFigure v20).bind fun v21 =>
    if v21 = false then
    ((f_X11_isLetterByte v20).bind fun v22 =>
    if v22 = false then
    ((f_X11_isSign v20).bind fun v23 =>
    if v23 = false then
    (g_X11_nextToken_247 N 642 v20 3 642 r19)
    else
    (g_X11_nextToken_247 N 642 v20 v20 642 r19))
    else
    ((some (setI r19 642 9 2)).bind fun r24 =>
    (some (setL r24 642 11 0)).bind fun r25 =>
    g_X11_nextToken_168 N fu 642 r25))
    else
    ((some (setI r19 642 9 1)).bind fun r26 =>
    (some (setI r26 642 10 0)).bind fun r27 =>
    g_X11_nextToken_85 N fu 642 r27))
    else
    ((some (setI r19 642 9 0)).bind fun r28 =>
    some r28)
section NXT
variable {N : Mem} {σ τ υ : ST} {B : Nat → Nat} {L q e : Nat}
theorem sS_t : ∀ c, c < 256 → f_X11_isSign (nI c) = some (sgS c) := by decide +kernel
theorem AD_t : ∀ c, c < 256 → bD c = true → bA c = false := by decide +kernel
/-- the reference passes over blanks -/
theorem sk_r (h : BR B L σ) : ∀ d p n, p + d = L → d < n → g_X11_nextToken_0 N n 642 (setI σ 642 7 (nI p)) = tk1 N (setI σ 642 7 (nI (spn bB B d p))) := by
  have h0 := h.1
  intro d
  induction d with
  | zero =>
    intro p n hp hn
    obtain ⟨n, rfl⟩ : ∃ x, n = x + 1 := ⟨n - 1, by omega⟩
    have e4 : (setI σ 642 7 (nI p)).1 642 7 = nI p := I_same rfl rfl
    have eb := ba_r (N := N) (h.s (k := 7) (v := nI p) (by omega)) (i := p) (by omega)
    rw [if_neg (by omega)] at eb
    rw [g_X11_nextToken_0, e4, eb, bnd, if_neg (by decide), bnd, if_neg (by decide)]
    unfold tk1 spn
    rw [e4]
  | succ d ih =>
    intro p n hp hn
    obtain ⟨n, rfl⟩ : ∃ x, n = x + 1 := ⟨n - 1, by omega⟩
    have e4 : (setI σ 642 7 (nI p)).1 642 7 = nI p := I_same rfl rfl
    have eb := ba_r (N := N) (h.s (k := 7) (v := nI p) (by omega)) (i := p) (by omega)
    rw [if_pos (by omega)] at eb
    have bb := (h.2.2 p (by omega)).2
    have go : g_X11_nextToken_26 N (g_X11_nextToken_0 N n) 642 (setI σ 642 7 (nI p)) = tk1 N (setI σ 642 7 (nI (spn bB B d (p + 1)))) := by
      unfold g_X11_nextToken_26
      rw [e4, bnd, k_1, nI_add, I_tw]
      exact ih (p + 1) n (by omega) (by omega)
    have ne : ∀ a, a < 256 → B p ≠ a → ¬ nI (B p) = nI a := fun a ha q e => q ((nI_eq (by omega) (by omega)).mp e)
    rw [g_X11_nextToken_0, e4, eb, bnd]
    unfold spn
    by_cases c : B p = 32
    · rw [if_pos (by rw [c]; rfl), if_pos (by unfold bB; exact decide_eq_true (Or.inl c))]
      exact go
    · rw [show (32 : Int32) = nI 32 from rfl, if_neg (ne 32 (by omega) c), bnd]
      by_cases c2 : B p = 10
      · rw [if_pos (by rw [c2]; rfl), if_pos (by unfold bB; exact decide_eq_true (Or.inr c2))]
        exact go
      · rw [show (10 : Int32) = nI 10 from rfl, if_neg (ne 10 (by omega) c2), if_neg (by unfold bB; intro q; have := of_decide_eq_true q; omega)]
        unfold tk1
        rw [e4]
/-- the reference packs a word -/
theorem le_r : ∀ d p n v σ, BR B L σ → p + d = L → d < n → v ≤ 1152921504606846976 → σ.1 642 7 = nI p → σ.2.1 642 11 = lN v → ∃ τ, g_X11_nextToken_168 N n 642 σ = some τ ∧ τ.1 642 7 = nI (spn bA B d p) ∧ τ.2.1 642 11 = lN (pkr B d p v) ∧ (∀ a i, ¬ (a = 642 ∧ i = 7) → τ.1 a i = σ.1 a i) ∧ (∀ a i, ¬ (a = 642 ∧ i = 11) → τ.2.1 a i = σ.2.1 a i) ∧ τ.2.2 = σ.2.2 := by
  intro d
  induction d with
  | zero =>
    intro p n v σ h hp hn hv h5 h3
    obtain ⟨n, rfl⟩ : ∃ x, n = x + 1 := ⟨n - 1, by omega⟩
    have h0 := h.1
    have eb := ba_r (N := N) h (i := p) (by omega)
    rw [if_neg (by omega)] at eb
    refine ⟨σ, ?_, h5, h3, fun _ _ _ => rfl, fun _ _ _ => rfl, rfl⟩
    rw [g_X11_nextToken_168, h5, eb, bnd, ch_n.2.2.1, bnd, if_pos rfl]
  | succ d ih =>
    intro p n v σ h hp hn hv h5 h3
    obtain ⟨n, rfl⟩ : ∃ x, n = x + 1 := ⟨n - 1, by omega⟩
    have h0 := h.1
    have eb := ba_r (N := N) h (i := p) (by omega)
    rw [if_pos (by omega)] at eb
    have bb := (h.2.2 p (by omega)).2
    unfold spn pkr
    by_cases c : bA (B p) = true
    · have cd := of_decide_eq_true c
      have go : ∀ w, w ≤ 1152921504606846976 → ∃ τ, g_X11_nextToken_218 N (g_X11_nextToken_168 N n) 642 (lN w) 642 σ = some τ ∧ τ.1 642 7 = nI (spn bA B d (p + 1)) ∧ τ.2.1 642 11 = lN (pkr B d (p + 1) w) ∧ (∀ a i, ¬ (a = 642 ∧ i = 7) → τ.1 a i = σ.1 a i) ∧ (∀ a i, ¬ (a = 642 ∧ i = 11) → τ.2.1 a i = σ.2.1 a i) ∧ τ.2.2 = σ.2.2 := by
        intro w hw
        have e3 : (setL σ 642 11 (lN w)).1 642 7 = nI p := h5
        have hB : BR B L (setI (setL σ 642 11 (lN w)) 642 7 (nI (p + 1))) := (h.l (a := 642) (k := 11) (v := lN w)).s (by omega)
        obtain ⟨τ, t1, t2, t3, t4, t5, t6⟩ := ih (p + 1) n w (setI (setL σ 642 11 (lN w)) 642 7 (nI (p + 1))) hB (by omega) (by omega) hw (I_same rfl rfl) (LL_same rfl rfl)
        refine ⟨τ, ?_, t2, t3, fun a i q => ?_, fun a i q => ?_, t6⟩
        · unfold g_X11_nextToken_218
          rw [bnd, e3, k_1, nI_add, bnd]
          exact t1
        · rw [t4 a i q, I_ne (by omega)]
          rfl
        · rw [t5 a i q]
          exact if_neg q
      rw [if_pos c, if_pos c]
      have st : g_X11_nextToken_168 N (n + 1) 642 σ = if lg_cmp (jshrL (lN v) 48) 0 = 0 then g_X11_nextToken_218 N (g_X11_nextToken_168 N n) 642 (jshlL (lN v) 8 ||| (nI (B p)).toInt64) 642 σ else g_X11_nextToken_218 N (g_X11_nextToken_168 N n) 642 (lN 1152921504606846976) 642 σ := by
        rw [g_X11_nextToken_168, h5, eb, bnd, (ch_t _ (by omega)).2.2.1, bnd, c, if_neg (by decide), bnd, h3]
        rfl
      rw [st]
      by_cases c2 : v < 281474976710656
      · rw [if_pos ((pk48 hv).mpr c2), if_pos c2, pk8 c2 (by omega)]
        exact go _ (by omega)
      · rw [if_neg (fun q => c2 ((pk48 hv).mp q)), if_neg c2]
        exact go _ (by omega)
    · refine ⟨σ, ?_, by rw [if_neg c]; exact h5, by rw [if_neg c]; exact h3, fun _ _ _ => rfl, fun _ _ _ => rfl, rfl⟩
      rw [g_X11_nextToken_168, h5, eb, bnd, (ch_t _ (by omega)).2.2.1, bnd, if_pos (by cases q : bA (B p) with | true => exact absurd q c | false => rfl)]
theorem sy_r (h : BR B L σ) (hq : q < L) (h7 : σ.1 642 7 = nI q) (w : Nat) : ∃ τ, g_X11_nextToken_247 N 642 (nI (B q)) (nI w) 642 σ = some τ ∧ τ.1 642 9 = nI (if sg2 B L q = true then (if B q = 60 then 4 else 5) else w) ∧ τ.1 642 7 = nI (if sg2 B L q = true then q + 2 else q + 1) ∧ (∀ a i, ¬ (a = 642 ∧ (i = 7 ∨ i = 9)) → τ.1 a i = σ.1 a i) ∧ τ.2 = σ.2 := by
  have h0 := h.1
  have bb := (h.2.2 q hq).2
  have ne : ∀ a, a < 256 → B q ≠ a → ¬ nI (B q) = nI a := fun a ha h1 h2 => h1 ((nI_eq (by omega) (by omega)).mp h2)
  have e7 : (setI σ 642 9 (nI w)).1 642 7 = nI q := (I_ne (by omega)).trans h7
  have hT : BR B L (setI (setI σ 642 9 (nI w)) 642 7 (nI (q + 1))) := (h.s (by omega)).s (by omega)
  have f7 : (setI (setI σ 642 9 (nI w)) 642 7 (nI (q + 1))).1 642 7 = nI (q + 1) := I_same rfl rfl
  have f9 : (setI (setI σ 642 9 (nI w)) 642 7 (nI (q + 1))).1 642 9 = nI w := (I_ne (by omega)).trans (I_same rfl rfl)
  have fr : ∀ a i, ¬ (a = 642 ∧ (i = 7 ∨ i = 9)) → (setI (setI σ 642 9 (nI w)) 642 7 (nI (q + 1))).1 a i = σ.1 a i := fun a i hq => (I_ne (by omega)).trans (I_ne (by omega))
  have st : g_X11_nextToken_247 N 642 (nI (B q)) (nI w) 642 σ = if nI (B q) = nI 60 then g_X11_nextToken_272 N 642 (nI (B q)) (setI (setI σ 642 9 (nI w)) 642 7 (nI (q + 1))) else if nI (B q) = nI 62 then g_X11_nextToken_272 N 642 (nI (B q)) (setI (setI σ 642 9 (nI w)) 642 7 (nI (q + 1))) else some (setI (setI σ 642 9 (nI w)) 642 7 (nI (q + 1))) := by
    unfold g_X11_nextToken_247
    rw [bnd, e7, k_1, nI_add, bnd]
    rfl
  have plain : sg2 B L q = false → g_X11_nextToken_247 N 642 (nI (B q)) (nI w) 642 σ = some (setI (setI σ 642 9 (nI w)) 642 7 (nI (q + 1))) → ∃ τ, g_X11_nextToken_247 N 642 (nI (B q)) (nI w) 642 σ = some τ ∧ τ.1 642 9 = nI (if sg2 B L q = true then (if B q = 60 then 4 else 5) else w) ∧ τ.1 642 7 = nI (if sg2 B L q = true then q + 2 else q + 1) ∧ (∀ a i, ¬ (a = 642 ∧ (i = 7 ∨ i = 9)) → τ.1 a i = σ.1 a i) ∧ τ.2 = σ.2 := by
    intro c h1
    refine ⟨_, h1, ?_, ?_, fr, rfl⟩
    · rw [c, if_neg (by decide)]; exact f9
    · rw [c, if_neg (by decide)]; exact f7
  by_cases c : B q = 60 ∨ B q = 62
  · have s72 : g_X11_nextToken_247 N 642 (nI (B q)) (nI w) 642 σ = g_X11_nextToken_272 N 642 (nI (B q)) (setI (setI σ 642 9 (nI w)) 642 7 (nI (q + 1))) := by
      rw [st]
      by_cases c0 : B q = 60
      · rw [if_pos (by rw [c0])]
      · rw [if_neg (ne 60 (by omega) c0), if_pos (by rw [c.resolve_left c0])]
    have eb := ba_r (N := N) hT (i := q + 1) (by omega)
    by_cases c1 : q + 1 < L ∧ B (q + 1) = 61
    · rw [if_pos c1.1] at eb
      have cs : sg2 B L q = true := decide_eq_true ⟨c, c1.1, c1.2⟩
      have go : ∀ k : Nat, g_X11_nextToken_297 N 642 (nI k) 642 (setI (setI σ 642 9 (nI w)) 642 7 (nI (q + 1))) = some (setI (setI (setI (setI σ 642 9 (nI w)) 642 7 (nI (q + 1))) 642 9 (nI k)) 642 7 (nI (q + 2))) := by
        intro k
        unfold g_X11_nextToken_297
        have e : (setI (setI (setI σ 642 9 (nI w)) 642 7 (nI (q + 1))) 642 9 (nI k)).1 642 7 = nI (q + 1) := (I_ne (by omega)).trans f7
        rw [bnd, e, k_1, nI_add, bnd]
      have pre : g_X11_nextToken_247 N 642 (nI (B q)) (nI w) 642 σ = if nI (B q) = nI 60 then g_X11_nextToken_297 N 642 (nI 4) 642 (setI (setI σ 642 9 (nI w)) 642 7 (nI (q + 1))) else g_X11_nextToken_297 N 642 (nI 5) 642 (setI (setI σ 642 9 (nI w)) 642 7 (nI (q + 1))) := by
        rw [s72]
        unfold g_X11_nextToken_272
        rw [f7, eb, bnd, if_pos (by rw [c1.2]; rfl)]
        rfl
      have ff : ∀ k : Nat, ∀ a i, ¬ (a = 642 ∧ (i = 7 ∨ i = 9)) → (setI (setI (setI (setI σ 642 9 (nI w)) 642 7 (nI (q + 1))) 642 9 (nI k)) 642 7 (nI (q + 2))).1 a i = σ.1 a i := fun k a i hq => (I_ne (by omega)).trans ((I_ne (by omega)).trans (fr a i hq))
      by_cases c0 : B q = 60
      · refine ⟨_, by rw [pre, if_pos (by rw [c0]), go], ?_, ?_, ff _, rfl⟩
        · rw [cs, if_pos rfl, if_pos c0, I_ne (by omega)]; exact I_same rfl rfl
        · rw [cs, if_pos rfl]; exact I_same rfl rfl
      · refine ⟨_, by rw [pre, if_neg (ne 60 (by omega) c0), go], ?_, ?_, ff _, rfl⟩
        · rw [cs, if_pos rfl, if_neg c0, I_ne (by omega)]; exact I_same rfl rfl
        · rw [cs, if_pos rfl]; exact I_same rfl rfl
    · refine plain (decide_eq_false (fun q => c1 q.2)) ?_
      rw [s72]
      unfold g_X11_nextToken_272
      rw [f7, eb, bnd]
      by_cases c2 : q + 1 < L
      · have b1 := (h.2.2 (q + 1) c2).2
        rw [if_pos c2, show (61 : Int32) = nI 61 from rfl, if_neg (fun x => c1 ⟨c2, (nI_eq (by omega) (by omega)).mp x⟩)]
      · rw [if_neg c2, if_neg (by decide)]
  · refine plain (decide_eq_false (fun q => c q.1)) ?_
    rw [st, if_neg (ne 60 (by omega) (fun x => c (Or.inl x))), if_neg (ne 62 (by omega) (fun x => c (Or.inr x)))]
end NXT
