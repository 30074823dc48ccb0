section BTH
variable {N : Mem} {σ τ υ : ST} {B : Nat → Nat} {L q e : Nat}
theorem I_id {a k : Nat} {v : Int32} (h : σ.1 a k = v) : setI σ a k v = σ := by
  refine Prod.ext (funext fun b => funext fun j => ?_) rfl
  by_cases c : b = a ∧ j = k
  · rw [I_same c.1 c.2, c.1, c.2, h]
  · exact if_neg c
theorem spn_1 {P : Nat → Bool} (hq : q < L) (h : P (B q) = true) : spn P B (L - q) q = spn P B (L - (q + 1)) (q + 1) := by
  rw [show L - q = (L - (q + 1)) + 1 by omega, spn, if_pos h]
theorem adv_r (h : BR B L σ) {p : Nat} (hp : p ≤ L) (h7 : σ.1 642 7 = nI p) : ∃ τ, g_X11_nextToken N 642 σ = some τ ∧ τ.1 642 8 = nI (spn bB B (L - p) p) ∧ τ.1 642 7 = nI (tkE B L (spn bB B (L - p) p)) ∧ τ.1 642 9 = nI (rkK B L (spn bB B (L - p) p)) ∧ (spn bB B (L - p) p < L → bD (B (spn bB B (L - p) p)) = true → τ.1 642 10 = nI (nmr B (L - (spn bB B (L - p) p + 1)) (spn bB B (L - p) p + 1) (B (spn bB B (L - p) p) - 48))) ∧ (spn bB B (L - p) p < L → bA (B (spn bB B (L - p) p)) = true → τ.2.1 642 11 = lN (pkr B (L - (spn bB B (L - p) p + 1)) (spn bB B (L - p) p + 1) (B (spn bB B (L - p) p)))) ∧ (∀ a i, ¬ (a = 642 ∧ 7 ≤ i ∧ i ≤ 10) → τ.1 a i = σ.1 a i) ∧ (∀ a i, ¬ (a = 642 ∧ i = 11) → τ.2.1 a i = σ.2.1 a i) ∧ τ.2.2 = σ.2.2 := by
  have h0 := h.1
  have sb := spn_b bB B (L - p) p
  have st : g_X11_nextToken N 642 σ = tk1 N (setI σ 642 7 (nI (spn bB B (L - p) p))) := by
    unfold g_X11_nextToken
    have := sk_r (N := N) h (L - p) p fu (by omega) (by unfold fu; omega)
    rw [I_id h7] at this
    exact this
  generalize spn bB B (L - p) p = q at *
  have e7 : (setI σ 642 7 (nI q)).1 642 7 = nI q := I_same rfl rfl
  have hT : BR B L (setI (setI σ 642 7 (nI q)) 642 8 (nI q)) := (h.s (by omega)).s (by omega)
  have f7 : (setI (setI σ 642 7 (nI q)) 642 8 (nI q)).1 642 7 = nI q := (I_ne (by omega)).trans e7
  have f8 : (setI (setI σ 642 7 (nI q)) 642 8 (nI q)).1 642 8 = nI q := I_same rfl rfl
  have eb := ba_r (N := N) hT (i := q) (by omega)
  have fr : ∀ a i, ¬ (a = 642 ∧ 7 ≤ i ∧ i ≤ 10) → (setI (setI σ 642 7 (nI q)) 642 8 (nI q)).1 a i = σ.1 a i := fun a i hq => (I_ne (by omega)).trans (I_ne (by omega))
  generalize hρ : setI (setI σ 642 7 (nI q)) 642 8 (nI q) = ρ at *
  have ρ2 : ρ.2 = σ.2 := by rw [← hρ]; rfl
  have s1 : g_X11_nextToken N 642 σ = if 0 ≤ (if q < L then nI (B q) else -1) then (f_X11_isFigure (if q < L then nI (B q) else -1)).bind fun v21 => if v21 = false then (f_X11_isLetterByte (if q < L then nI (B q) else -1)).bind fun v22 => if v22 = false then (f_X11_isSign (if q < L then nI (B q) else -1)).bind fun v23 => if v23 = false then g_X11_nextToken_247 N 642 (if q < L then nI (B q) else -1) (nI 3) 642 ρ else g_X11_nextToken_247 N 642 (if q < L then nI (B q) else -1) (if q < L then nI (B q) else -1) 642 ρ else g_X11_nextToken_168 N fu 642 (setL (setI ρ 642 9 (nI 2)) 642 11 (lN 0)) else g_X11_nextToken_85 N fu 642 (setI (setI ρ 642 9 (nI 1)) 642 10 (nI 0)) else some (setI ρ 642 9 (nI 0)) := by
    rw [st]
    unfold tk1
    rw [e7, bnd, hρ, f7, eb, bnd]
    rfl
  by_cases c : q < L
  · have bb := (h.2.2 q c).2
    obtain ⟨t1, t2, t3, t4⟩ := ch_t (B q) (by omega)
    rw [if_pos c, if_pos (show (0 : Int32) ≤ nI (B q) from nI_le (a := 0) (by omega) (by omega)), t4, bnd, t3, bnd, sS_t _ (by omega), bnd] at s1
    cases cd : bD (B q) with
    | true =>
      have ca := AD_t (B q) (by omega) cd
      have cd' := of_decide_eq_true cd
      have eE : tkE B L q = spn bD B (L - q) q := by
        unfold tkE
        rw [if_neg (by omega), if_neg (by rw [ca]; decide), if_pos cd, spn_1 c cd]
      have eK : rkK B L q = 1 := by
        unfold rkK
        rw [if_neg (by omega), if_neg (by rw [ca]; decide), if_pos cd]
      have eN : nmr B (L - q) q 0 = nmr B (L - (q + 1)) (q + 1) (B q - 48) := by
        rw [show L - q = (L - (q + 1)) + 1 by omega, nmr, if_pos cd, if_pos (by omega), show 10 * 0 + (B q - 48) = B q - 48 by omega]
      obtain ⟨τ, w1, w2, w3, w4, w5⟩ := nu_r (N := N) (L - q) q fu 0 (setI (setI ρ 642 9 (nI 1)) 642 10 (nI 0)) ((hT.s (by omega)).s (by omega)) (by omega) (by unfold fu; omega) (by omega) ((I_ne (by omega)).trans ((I_ne (by omega)).trans f7)) (I_same rfl rfl)
      refine ⟨τ, ?_, ?_, ?_, ?_, fun _ _ => ?_, fun _ x => ?_, fun a i hq => ?_, fun a i hq => ?_, ?_⟩
      · rw [s1, cd, if_neg (by decide)]; exact w1
      · rw [w4 _ _ (by omega), I_ne (by omega), I_ne (by omega)]; exact f8
      · rw [eE]; exact w2
      · rw [eK, w4 _ _ (by omega), I_ne (by omega)]; exact I_same rfl rfl
      · rw [← eN]; exact w3
      · rw [ca] at x
        exact absurd x (by decide)
      · rw [w4 a i (by omega), I_ne (by omega), I_ne (by omega)]; exact fr a i hq
      · rw [w5]
        show ρ.2.1 a i = _
        rw [ρ2]
      · rw [w5]
        show ρ.2.2 = _
        rw [ρ2]
    | false =>
      cases ca : bA (B q) with
      | true =>
        have ca' := of_decide_eq_true ca
        have eE : tkE B L q = spn bA B (L - q) q := by
          unfold tkE
          rw [if_neg (by omega), if_pos ca, spn_1 c ca]
        have eK : rkK B L q = 2 := by
          unfold rkK
          rw [if_neg (by omega), if_pos ca]
        have eN : pkr B (L - q) q 0 = pkr B (L - (q + 1)) (q + 1) (B q) := by
          rw [show L - q = (L - (q + 1)) + 1 by omega, pkr, if_pos ca, if_pos (by omega), show 0 * 256 + B q = B q by omega]
        have hB : BR B L (setL (setI ρ 642 9 (nI 2)) 642 11 (lN 0)) := (hT.s (k := 9) (v := nI 2) (by omega)).l
        have g7 : (setL (setI ρ 642 9 (nI 2)) 642 11 (lN 0)).1 642 7 = nI q := by
          rw [L_1, I_ne (by omega)]
          exact f7
        obtain ⟨τ, w1, w2, w3, w4, w5, w6⟩ := le_r (N := N) (L - q) q fu 0 (setL (setI ρ 642 9 (nI 2)) 642 11 (lN 0)) hB (by omega) (by unfold fu; omega) (by omega) g7 (LL_same rfl rfl)
        refine ⟨τ, ?_, ?_, ?_, ?_, fun _ x => absurd x (by decide), fun _ _ => ?_, fun a i hq => ?_, fun a i hq => ?_, ?_⟩
        · rw [s1, cd, if_pos rfl, ca, if_neg (by decide)]; exact w1
        · rw [w4 _ _ (by omega), L_1, I_ne (by omega)]; exact f8
        · rw [eE]; exact w2
        · rw [eK, w4 _ _ (by omega), L_1]; exact I_same rfl rfl
        · rw [← eN]; exact w3
        · rw [w4 a i (by omega), L_1, I_ne (by omega)]; exact fr a i hq
        · rw [w5 a i hq]
          refine Eq.trans (if_neg hq) ?_
          show ρ.2.1 a i = _
          rw [ρ2]
        · rw [w6]
          show ρ.2.2 = _
          rw [ρ2]
      | false =>
        have eE : tkE B L q = if sg2 B L q = true then q + 2 else q + 1 := by
          unfold tkE
          rw [if_neg (by omega), if_neg (by rw [ca]; decide), if_neg (by rw [cd]; decide)]
        have eK : rkK B L q = if sg2 B L q = true then (if B q = 60 then 4 else 5) else if sgS (B q) = true then B q else 3 := by
          unfold rkK
          rw [if_neg (by omega), if_neg (by rw [ca]; decide), if_neg (by rw [cd]; decide)]
        obtain ⟨τ, w1, w2, w3, w4, w5⟩ := sy_r (N := N) hT c f7 (if sgS (B q) = true then B q else 3)
        refine ⟨τ, ?_, ?_, ?_, ?_, fun _ x => absurd x (by decide), fun _ x => absurd x (by decide), fun a i hq => ?_, fun a i hq => ?_, ?_⟩
        · rw [s1, cd, if_pos rfl, ca, if_pos rfl]
          rw [← w1]
          cases cs : sgS (B q) with
          | true => rw [if_neg (by decide), if_pos rfl]
          | false => rw [if_pos rfl, if_neg (by decide)]
        · rw [w4 _ _ (by omega)]; exact f8
        · rw [eE]; exact w3
        · rw [eK]; exact w2
        · rw [w4 a i (by omega)]; exact fr a i hq
        · rw [w5, ρ2]
        · rw [w5, ρ2]
  · rw [if_neg c, if_neg (by decide)] at s1
    have eE : tkE B L q = L := if_pos (by omega)
    have eK : rkK B L q = 0 := if_pos (by omega)
    refine ⟨_, s1, ?_, ?_, ?_, fun x => absurd x c, fun x => absurd x c, fun a i hq => ?_, fun a i hq => ?_, ?_⟩
    · rw [I_ne (by omega)]; exact f8
    · rw [eE, I_ne (by omega), f7, show q = L by omega]
    · rw [eK]; exact I_same rfl rfl
    · rw [I_ne (by omega)]; exact fr a i hq
    · show ρ.2.1 a i = _
      rw [ρ2]
    · show ρ.2.2 = _
      rw [ρ2]
end BTH
