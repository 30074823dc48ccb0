/-! the class's next token -/
def sgk (c : Nat) : Nat := if c = 60 then 28 else if c = 62 then 29 else if c = 61 then 30 else if c = 35 then 31 else if c = 43 then 32 else if c = 45 then 33 else if c = 42 then 34 else if c = 47 then 35 else if c = 40 then 36 else if c = 41 then 37 else if c = 59 then 38 else 42
def sg2 (B : Nat → Nat) (L q : Nat) : Bool := decide ((B q = 60 ∨ B q = 62) ∧ q + 1 < L ∧ B (q + 1) = 61)
def tkE (B : Nat → Nat) (L q : Nat) : Nat := if L ≤ q then L else if bA (B q) = true then spn bA B (L - (q + 1)) (q + 1) else if bD (B q) = true then spn bD B (L - (q + 1)) (q + 1) else if sg2 B L q = true then q + 2 else q + 1
def tkK (B : Nat → Nat) (L q k : Nat) : Prop := (L ≤ q ∧ k = 41) ∨ (q < L ∧ bA (B q) = true ∧ ((k < 27 ∧ isW B q (tkE B L q) k) ∨ (k = 42 ∧ ∀ j, j < 27 → ¬ isW B q (tkE B L q) j))) ∨ (q < L ∧ bA (B q) = false ∧ bD (B q) = true ∧ k = 27) ∨ (q < L ∧ bA (B q) = false ∧ bD (B q) = false ∧ k = if sg2 B L q = true then (if B q = 60 then 39 else 40) else sgk (B q))
section ADV
variable {N : Mem} {σ τ υ : ST} {B : Nat → Nat} {L q e : Nat}
theorem sg_t : ∀ c, c < 256 → f_J0_indexOf_0f7a4 1 (nI c) = some (if sgk c = 42 then -1 else nI (sgk c - 28)) ∧ (Int32.toUInt32 (nI c) % 65536).toInt32 = nI c := by decide +kernel
theorem sg_b (c : Nat) : 28 ≤ sgk c ∧ sgk c ≤ 42 ∧ (sgk c = 28 ↔ c = 60) ∧ (sgk c = 29 ↔ c = 62) := by
  unfold sgk
  repeat' split
  all_goals omega
theorem sy_c (h : BT B L σ) (hq : q < L) (h5 : σ.1 593 5 = nI (q + 1)) : ∃ τ, g_X7_scanSymbol N 593 (nI (B q)) σ = some τ ∧ τ.1 593 2 = nI (if sg2 B L q = true then (if B q = 60 then 39 else 40) else sgk (B q)) ∧ τ.1 593 5 = nI (if sg2 B L q = true then q + 2 else q + 1) ∧ (∀ a i, ¬ (a = 593 ∧ (i = 2 ∨ i = 5)) → τ.1 a i = σ.1 a i) ∧ τ.2 = σ.2 := by
  have h0 := h.1
  have bb := (h.2.2 q hq).2
  obtain ⟨s1, s2, s3, s4⟩ := sg_b (B q)
  have st : g_X7_scanSymbol N 593 (nI (B q)) σ = g_X7_scanSymbol_21 N 593 (nI (sgk (B q))) 593 σ := by
    unfold g_X7_scanSymbol g_X7_scanSymbol_0
    rw [(sg_t _ (by omega)).1, bnd]
    by_cases c : sgk (B q) = 42
    · rw [if_pos c, if_neg (by decide), c]
      rfl
    · rw [if_neg c, show (0 : Int32) = nI 0 from rfl, if_pos (nI_le (by omega) (by omega)), show (28 : Int32) = nI 28 from rfl, nI_add, show 28 + (sgk (B q) - 28) = sgk (B q) by omega]
  have ne : ∀ a, a < 100 → sgk (B q) ≠ a → ¬ nI (sgk (B q)) = nI a := fun a ha h1 h2 => h1 ((nI_eq (by omega) (by omega)).mp h2)
  have hT : BT B L (setI σ 593 2 (nI (sgk (B q)))) := h.s (by omega)
  have e5 : (setI σ 593 2 (nI (sgk (B q)))).1 593 5 = nI (q + 1) := (I_ne (by omega)).trans h5
  have e2 : (setI σ 593 2 (nI (sgk (B q)))).1 593 2 = nI (sgk (B q)) := I_same rfl rfl
  have fr : ∀ a i, ¬ (a = 593 ∧ (i = 2 ∨ i = 5)) → (setI σ 593 2 (nI (sgk (B q)))).1 a i = σ.1 a i := fun a i hq => I_ne (by omega)
  have plain : sg2 B L q = false → g_X7_scanSymbol N 593 (nI (B q)) σ = some (setI σ 593 2 (nI (sgk (B q)))) → ∃ τ, g_X7_scanSymbol N 593 (nI (B q)) σ = some τ ∧ τ.1 593 2 = nI (if sg2 B L q = true then (if B q = 60 then 39 else 40) else sgk (B q)) ∧ τ.1 593 5 = nI (if sg2 B L q = true then q + 2 else q + 1) ∧ (∀ a i, ¬ (a = 593 ∧ (i = 2 ∨ i = 5)) → τ.1 a i = σ.1 a i) ∧ τ.2 = σ.2 := by
    intro c h1
    refine ⟨_, h1, ?_, ?_, fr, rfl⟩
    · rw [c, if_neg (by decide)]; exact e2
    · rw [c, if_neg (by decide)]; exact e5
  by_cases c : B q = 60 ∨ B q = 62
  · have s42 : g_X7_scanSymbol N 593 (nI (B q)) σ = g_X7_scanSymbol_42 N 593 (setI σ 593 2 (nI (sgk (B q)))) := by
      rw [st]
      unfold g_X7_scanSymbol_21
      rw [bnd, e2, show (28 : Int32) = nI 28 from rfl, show (29 : Int32) = nI 29 from rfl]
      by_cases c0 : B q = 60
      · rw [if_pos (by rw [s3.mpr c0])]
      · rw [if_neg (ne 28 (by omega) (fun q => c0 (s3.mp q))), if_pos (by rw [s4.mpr (c.resolve_left c0)])]
    by_cases c1 : q + 1 < L
    · have eb := ba_c (N := N) hT (i := q + 1) (by omega)
      rw [if_pos c1] at eb
      have b1 := (h.2.2 (q + 1) c1).2
      by_cases c2 : B (q + 1) = 61
      · have cs : sg2 B L q = true := decide_eq_true ⟨c, c1, c2⟩
        have go : ∀ k : Nat, g_X7_scanSymbol_83 N 593 (nI k) 593 (setI σ 593 2 (nI (sgk (B q)))) = some (setI (setI (setI σ 593 2 (nI (sgk (B q)))) 593 2 (nI k)) 593 5 (nI (q + 2))) := by
          intro k
          unfold g_X7_scanSymbol_83
          have e : (setI (setI σ 593 2 (nI (sgk (B q)))) 593 2 (nI k)).1 593 5 = nI (q + 1) := (I_ne (by omega)).trans e5
          rw [bnd, e, k_1, nI_add, bnd]
        have pre : g_X7_scanSymbol N 593 (nI (B q)) σ = if nI (sgk (B q)) = nI 28 then g_X7_scanSymbol_83 N 593 (nI 39) 593 (setI σ 593 2 (nI (sgk (B q)))) else g_X7_scanSymbol_83 N 593 (nI 40) 593 (setI σ 593 2 (nI (sgk (B q)))) := by
          rw [s42]
          unfold g_X7_scanSymbol_42
          rw [hT.2.1, e5, if_neg (nI_ge (by omega) (by omega)), eb, bnd, if_pos (by rw [c2]; rfl), e2]
          rfl
        have fin : ∀ k : Nat, (setI (setI (setI σ 593 2 (nI (sgk (B q)))) 593 2 (nI k)) 593 5 (nI (q + 2))).1 593 2 = nI k := fun k => (I_ne (by omega)).trans (I_same rfl rfl)
        have ff : ∀ k : Nat, ∀ a i, ¬ (a = 593 ∧ (i = 2 ∨ i = 5)) → (setI (setI (setI σ 593 2 (nI (sgk (B q)))) 593 2 (nI k)) 593 5 (nI (q + 2))).1 a i = σ.1 a i := fun k a i hq => (I_ne (by omega)).trans ((I_ne (by omega)).trans (fr a i hq))
        by_cases c0 : B q = 60
        · refine ⟨_, by rw [pre, if_pos (by rw [s3.mpr c0]), go], ?_, ?_, ff _, rfl⟩
          · rw [cs, if_pos rfl, if_pos c0]; exact fin 39
          · rw [cs, if_pos rfl]; exact I_same rfl rfl
        · refine ⟨_, by rw [pre, if_neg (ne 28 (by omega) (fun q => c0 (s3.mp q))), go], ?_, ?_, ff _, rfl⟩
          · rw [cs, if_pos rfl, if_neg c0]; exact fin 40
          · rw [cs, if_pos rfl]; exact I_same rfl rfl
      · refine plain (decide_eq_false (fun q => c2 q.2.2)) ?_
        rw [s42]
        unfold g_X7_scanSymbol_42
        rw [hT.2.1, e5, if_neg (nI_ge (by omega) (by omega)), eb, bnd, show (61 : Int32) = nI 61 from rfl, if_neg (fun q => c2 ((nI_eq (by omega) (by omega)).mp q))]
    · refine plain (decide_eq_false (fun q => c1 q.2.1)) ?_
      rw [s42]
      unfold g_X7_scanSymbol_42
      rw [hT.2.1, e5, if_pos (nI_le (by omega) (by omega))]
  · refine plain (decide_eq_false (fun q => c q.1)) ?_
    rw [st]
    unfold g_X7_scanSymbol_21
    rw [bnd, e2, show (28 : Int32) = nI 28 from rfl, show (29 : Int32) = nI 29 from rfl, if_neg (ne 28 (by omega) (fun q => c (Or.inl (s3.mp q)))), if_neg (ne 29 (by omega) (fun q => c (Or.inr (s4.mp q))))]
theorem adv_c (h : BT B L σ) {p : Nat} (hp : p ≤ L) (h5 : σ.1 593 5 = nI p) : ∃ τ k, g_X7_advance N 593 σ = some τ ∧ τ.1 593 4 = nI (spn bB B (L - p) p) ∧ τ.1 593 5 = nI (tkE B L (spn bB B (L - p) p)) ∧ τ.1 593 2 = nI k ∧ tkK B L (spn bB B (L - p) p) k ∧ (k = 27 → τ.1 593 3 = nI (nmc B (L - (spn bB B (L - p) p + 1)) (spn bB B (L - p) p + 1) (B (spn bB B (L - p) p) - 48))) ∧ (∀ a i, ¬ (a = 593 ∧ 2 ≤ i ∧ i ≤ 5) → τ.1 a i = σ.1 a i) ∧ τ.2 = σ.2 := by
  have h0 := h.1
  have sb := spn_b bB B (L - p) p
  have st : g_X7_advance N 593 σ = g_X7_advance_58 N 593 (setI σ 593 4 (nI (spn bB B (L - p) p))) := by
    unfold g_X7_advance g_X7_advance_0
    rw [h5, bnd]
    exact sk_c h (L - p) p fu (by omega) (by unfold fu; omega)
  generalize spn bB B (L - p) p = q at *
  have e4 : (setI σ 593 4 (nI q)).1 593 4 = nI q := I_same rfl rfl
  have hT : BT B L (setI (setI σ 593 4 (nI q)) 593 5 (nI (q + 1))) := (h.s (by omega)).s (by omega)
  have f4 : (setI (setI σ 593 4 (nI q)) 593 5 (nI (q + 1))).1 593 4 = nI q := (I_ne (by omega)).trans e4
  have eb := ba_c (N := N) hT (i := q) (by omega)
  have fr : ∀ a i, ¬ (a = 593 ∧ 2 ≤ i ∧ i ≤ 5) → (setI (setI σ 593 4 (nI q)) 593 5 (nI (q + 1))).1 a i = σ.1 a i := fun a i hq => (I_ne (by omega)).trans (I_ne (by omega))
  have s58 : g_X7_advance N 593 σ = if nI q < nI L then (f_X7_isLetter (if q < L then nI (B q) else -1)).bind fun v4 => if v4 = false then (f_X7_isDigit (if q < L then nI (B q) else -1)).bind fun v5 => if v5 = false then (g_X7_scanSymbol N 593 ((Int32.toUInt32 (if q < L then nI (B q) else -1) % 65536).toInt32) (setI (setI σ 593 4 (nI q)) 593 5 (nI (q + 1)))).bind fun r6 => some r6 else (g_X7_scanNumber N 593 (setI (setI σ 593 4 (nI q)) 593 5 (nI (q + 1)))).bind fun r7 => some r7 else (g_X7_scanWord N 593 (setI (setI σ 593 4 (nI q)) 593 5 (nI (q + 1)))).bind fun r8 => some r8 else some (setI (setI (setI (setI σ 593 4 (nI q)) 593 5 (nI (q + 1))) 593 5 (nI L)) 593 2 (nI 41)) := by
    rw [st]
    unfold g_X7_advance_58
    rw [e4, bnd, k_1, nI_add, f4, eb, bnd, hT.2.1]
    rfl
  by_cases c : q < L
  · rw [if_pos (nI_lt c (by omega)), if_pos c] at s58
    have bb := (h.2.2 q c).2
    obtain ⟨t1, t2, t3, t4⟩ := ch_t (B q) (by omega)
    rw [t1, bnd, t2, bnd, (sg_t _ (by omega)).2] at s58
    cases ca : bA (B q) with
    | true =>
      obtain ⟨τ, k, w1, w2, w3, w4, w5, w6⟩ := wo_c (N := N) (h.s (k := 4) (v := nI q) (by omega)) e4 (p := q + 1) (d := L - (q + 1)) (by omega) (by omega)
      have eE : tkE B L q = spn bA B (L - (q + 1)) (q + 1) := by
        unfold tkE
        rw [if_neg (by omega), if_pos ca]
      refine ⟨τ, k, ?_, ?_, ?_, w2, Or.inr (Or.inl ⟨c, ca, by rw [eE]; exact w3⟩), fun hk => ?_, fun a i hq => ?_, w6⟩
      · rw [s58, ca, if_neg (by decide), w1, bnd]
      · rw [w5 _ _ (by omega)]; exact e4
      · rw [eE]; exact w4
      · exfalso
        rcases w3 with q1 | q1
        · omega
        · omega
      · rw [w5 a i (by omega)]
        exact I_ne (by omega)
    | false =>
      cases cd : bD (B q) with
      | true =>
        have cd' := of_decide_eq_true cd
        have eE : tkE B L q = spn bD B (L - (q + 1)) (q + 1) := by
          unfold tkE
          rw [if_neg (by omega), if_neg (by rw [ca]; decide), if_pos cd]
        obtain ⟨τ, w1, w2, w3, w4, w5⟩ := nu_c (N := N) (L - (q + 1)) (q + 1) fu (B q - 48) (setI (setI (setI (setI σ 593 4 (nI q)) 593 5 (nI (q + 1))) 593 2 (nI 27)) 593 3 (nI (B q - 48))) ((hT.s (by omega)).s (by omega)) (by omega) (by unfold fu; omega) (by omega) ((I_ne (by omega)).trans ((I_ne (by omega)).trans (I_same rfl rfl))) (I_same rfl rfl)
        refine ⟨τ, 27, ?_, ?_, ?_, ?_, Or.inr (Or.inr (Or.inl ⟨c, ca, cd, rfl⟩)), fun _ => w3, fun a i hq => ?_, w5⟩
        · rw [s58, ca, if_pos rfl, cd, if_neg (by decide)]
          unfold g_X7_scanNumber g_X7_scanNumber_0
          have f4' : (setI (setI (setI σ 593 4 (nI q)) 593 5 (nI (q + 1))) 593 2 (nI 27)).1 593 4 = nI q := (I_ne (by omega)).trans f4
          have eb' := ba_c (N := N) (hT.s (k := 2) (v := nI 27) (by omega)) (i := q) (by omega)
          rw [if_pos c] at eb'
          rw [show (27 : Int32) = nI 27 from rfl, bnd, f4', eb', bnd, show (48 : Int32) = nI 48 from rfl, pk_sub (by omega), bnd, w1, bnd]
        · rw [w4 _ _ (by omega), I_ne (by omega), I_ne (by omega)]; exact f4
        · rw [eE]; exact w2
        · rw [w4 _ _ (by omega), I_ne (by omega)]; exact I_same rfl rfl
        · rw [w4 a i (by omega), I_ne (by omega), I_ne (by omega)]; exact fr a i hq
      | false =>
        obtain ⟨τ, w1, w2, w3, w4, w5⟩ := sy_c (N := N) hT c (I_same rfl rfl)
        have eE : tkE B L q = if sg2 B L q = true then q + 2 else q + 1 := by
          unfold tkE
          rw [if_neg (by omega), if_neg (by rw [ca]; decide), if_neg (by rw [cd]; decide)]
        refine ⟨τ, _, ?_, ?_, ?_, w2, Or.inr (Or.inr (Or.inr ⟨c, ca, cd, rfl⟩)), fun hk => ?_, fun a i hq => ?_, w5⟩
        · rw [s58, ca, if_pos rfl, cd, if_pos rfl, w1, bnd]
        · rw [w4 _ _ (by omega)]; exact f4
        · rw [eE]; exact w3
        · exfalso
          have := sg_b (B q)
          by_cases x1 : sg2 B L q = true
          · rw [if_pos x1] at hk
            by_cases x2 : B q = 60
            · rw [if_pos x2] at hk; omega
            · rw [if_neg x2] at hk; omega
          · rw [if_neg x1] at hk; omega
        · rw [w4 a i (by omega)]; exact fr a i hq
  · rw [if_neg (nI_nlt (by omega) (by omega))] at s58
    have eE : tkE B L q = L := if_pos (by omega)
    refine ⟨_, 41, s58, ?_, ?_, I_same rfl rfl, Or.inl ⟨by omega, rfl⟩, fun hk => absurd hk (by omega), fun a i hq => ?_, rfl⟩
    · rw [I_ne (by omega), I_ne (by omega)]; exact f4
    · rw [I_ne (by omega), eE]; exact I_same rfl rfl
    · rw [I_ne (by omega), I_ne (by omega)]; exact fr a i hq
end ADV
