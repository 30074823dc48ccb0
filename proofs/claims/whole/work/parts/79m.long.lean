/-! the reference's tokens: blanks, numbers, packed words -/
def pkr (B : Nat → Nat) (d p v : Nat) : Nat := match d with
  | 0 => v
  | d + 1 => if bA (B p) = true then pkr B d (p + 1) (if v < 281474976710656 then v * 256 + B p else 1152921504606846976) else v
section LNG
variable {N : Mem} {σ τ υ : ST} {B : Nat → Nat} {L q e : Nat}
theorem lN_t {n : Nat} (h : n < 18446744073709551616) : (lN n).toBitVec.toNat = n := by
  show (BitVec.ofNat 64 n).toNat = n
  rw [BitVec.toNat_ofNat]
  exact Nat.mod_eq_of_lt h
theorem lN_inj {a b : Nat} (ha : a < 18446744073709551616) (hb : b < 18446744073709551616) : lN a = lN b ↔ a = b := by
  constructor
  · intro h
    have this : (lN a).toBitVec.toNat = (lN b).toBitVec.toNat := by rw [h]
    rw [lN_t ha, lN_t hb] at this
    exact this
  · intro h
    rw [h]
theorem lgc (x y : Int64) : lg_cmp x y = 0 ↔ x = y := by
  unfold lg_cmp
  by_cases h : x > y
  · rw [if_pos h]
    constructor
    · intro q
      exact absurd q (by decide)
    · intro q
      rw [q] at h
      exact absurd h (Int64.lt_irrefl)
  · rw [if_neg h]
    by_cases h2 : x = y
    · rw [if_pos h2]
      exact ⟨fun _ => h2, fun _ => rfl⟩
    · rw [if_neg h2]
      exact ⟨fun q => absurd q (by decide), fun q => absurd q h2⟩
theorem nL_t : ∀ c, c < 256 → (nI c).toInt64 = lN c := by decide +kernel
theorem shl8 (x : Int64) : (jshlL x 8).toBitVec = x.toBitVec <<< 8 := rfl
theorem shr48 (x : Int64) : (jshrL x 48).toBitVec = x.toBitVec.sshiftRight 48 := rfl
theorem pk8 {v c : Nat} (hv : v < 281474976710656) (hc : c < 256) : jshlL (lN v) 8 ||| (nI c).toInt64 = lN (v * 256 + c) := by
  rw [nL_t c hc]
  apply Int64.toBitVec_inj.mp
  apply BitVec.eq_of_toNat_eq
  rw [Int64.toBitVec_or, BitVec.toNat_or, shl8, BitVec.toNat_shiftLeft, lN_t (by omega), lN_t (by omega), lN_t (by omega)]
  have e : v <<< 8 = v * 256 := Nat.shiftLeft_eq v 8
  have e2 : v <<< 8 + c = v <<< 8 ||| c := Nat.shiftLeft_add_eq_or_of_lt (i := 8) (by omega) v
  rw [Nat.mod_eq_of_lt (by omega), ← e2, e]
theorem pk48 {v : Nat} (hv : v ≤ 1152921504606846976) : lg_cmp (jshrL (lN v) 48) 0 = 0 ↔ v < 281474976710656 := by
  rw [lgc]
  have e : (jshrL (lN v) 48).toBitVec.toNat = v / 281474976710656 := by
    rw [shr48, BitVec.sshiftRight_eq_of_msb_false (by rw [BitVec.msb_eq_false_iff_two_mul_lt, lN_t (by omega)]; omega), BitVec.toNat_ushiftRight, lN_t (by omega), Nat.shiftRight_eq_div_pow]
  constructor
  · intro h
    rw [h] at e
    have e0 : (0 : Int64).toBitVec.toNat = 0 := rfl
    rw [e0] at e
    omega
  · intro h
    apply Int64.toBitVec_inj.mp
    apply BitVec.eq_of_toNat_eq
    rw [e, Nat.div_eq_of_lt h]
    rfl
theorem pkr_b (B : Nat → Nat) : ∀ d p w, w ≤ 1152921504606846976 → pkr B d p w ≤ 1152921504606846976 := by
  intro d
  induction d with
  | zero => intro p w h; exact h
  | succ d ih =>
    intro p w h
    unfold pkr
    by_cases c : bA (B p) = true
    · rw [if_pos c]
      refine ih _ _ ?_
      have := of_decide_eq_true c
      by_cases c2 : w < 281474976710656
      · rw [if_pos c2]
        omega
      · rw [if_neg c2]
        omega
    · rw [if_neg c]
      exact h
theorem BR.f (h : BR B L σ) (hf : ∀ i, τ.1 646 i = σ.1 646 i) (h1 : τ.1 642 4 = σ.1 642 4) : BR B L τ := ⟨h.1, h1.trans h.2.1, fun i hi => by rw [hf]; exact h.2.2 i hi⟩
theorem BR.s (h : BR B L σ) {k : Nat} {v : Int32} (hk : k ≠ 4) : BR B L (setI σ 642 k v) := h.f (fun i => I_row (by omega)) (if_neg (fun q => hk q.2.symm))
theorem BR.l (h : BR B L σ) {a k : Nat} {v : Int64} : BR B L (setL σ a k v) := h
/-- the reference reads a number on -/
theorem nu_r : ∀ d p n v σ, BR B L σ → p + d = L → d < n → v ≤ 1000000 → σ.1 642 7 = nI p → σ.1 642 10 = nI v → ∃ τ, g_X11_nextToken_85 N n 642 σ = some τ ∧ τ.1 642 7 = nI (spn bD B d p) ∧ τ.1 642 10 = nI (nmr B d p v) ∧ (∀ a i, ¬ (a = 642 ∧ (i = 7 ∨ i = 10)) → τ.1 a i = σ.1 a i) ∧ τ.2 = σ.2 := by
  intro d
  induction d with
  | zero =>
    intro p n v σ h hp hn hv h5 h3
    obtain ⟨n, rfl⟩ : ∃ x, n = x + 1 := ⟨n - 1, by omega⟩
    have h0 := h.1
    have eb := ba_r (N := N) h (i := p) (by omega)
    rw [if_neg (by omega)] at eb
    refine ⟨σ, ?_, h5, h3, fun _ _ _ => rfl, rfl⟩
    rw [g_X11_nextToken_85, h5, eb, bnd, ch_n.2.2.2, bnd, if_pos rfl]
  | succ d ih =>
    intro p n v σ h hp hn hv h5 h3
    obtain ⟨n, rfl⟩ : ∃ x, n = x + 1 := ⟨n - 1, by omega⟩
    have h0 := h.1
    have eb := ba_r (N := N) h (i := p) (by omega)
    rw [if_pos (by omega)] at eb
    have bb := (h.2.2 p (by omega)).2
    unfold spn nmr
    by_cases c : bD (B p) = true
    · have cd := of_decide_eq_true c
      have go : ∀ w, w ≤ 1000000 → ∃ τ, g_X11_nextToken_135 N (g_X11_nextToken_85 N n) 642 (nI w) 642 σ = some τ ∧ τ.1 642 7 = nI (spn bD B d (p + 1)) ∧ τ.1 642 10 = nI (nmr B d (p + 1) w) ∧ (∀ a i, ¬ (a = 642 ∧ (i = 7 ∨ i = 10)) → τ.1 a i = σ.1 a i) ∧ τ.2 = σ.2 := by
        intro w hw
        have e3 : (setI σ 642 10 (nI w)).1 642 7 = nI p := (I_ne (by omega)).trans h5
        obtain ⟨τ, t1, t2, t3, t4, t5⟩ := ih (p + 1) n w (setI (setI σ 642 10 (nI w)) 642 7 (nI (p + 1))) ((h.s (by omega)).s (by omega)) (by omega) (by omega) hw (I_same rfl rfl) ((I_ne (by omega)).trans (I_same rfl rfl))
        refine ⟨τ, ?_, t2, t3, fun a i q => ?_, t5⟩
        · unfold g_X11_nextToken_135
          rw [bnd, e3, k_1, nI_add, bnd]
          exact t1
        · rw [t4 a i q, I_ne (by omega), I_ne (by omega)]
      rw [if_pos c, if_pos c]
      have st : g_X11_nextToken_85 N (n + 1) 642 σ = if nI v ≤ nI 99999 then g_X11_nextToken_135 N (g_X11_nextToken_85 N n) 642 (10 * nI v + nI (B p) - 48) 642 σ else g_X11_nextToken_135 N (g_X11_nextToken_85 N n) 642 (nI v) 642 σ := by
        rw [g_X11_nextToken_85, h5, eb, bnd, (ch_t _ (by omega)).2.2.2, bnd, c, if_neg (by decide), bnd, h3]
        rfl
      rw [st]
      by_cases c2 : v ≤ 99999
      · rw [if_pos (nI_le c2 (by omega)), if_pos c2, show (10 : Int32) = nI 10 from rfl, pk_mul, nI_add, show (48 : Int32) = nI 48 from rfl, pk_sub (by omega), show 10 * v + B p - 48 = 10 * v + (B p - 48) by omega]
        exact go _ (by omega)
      · rw [if_neg (nI_ge (by omega) (by omega)), if_neg c2]
        exact go _ hv
    · refine ⟨σ, ?_, by rw [if_neg c]; exact h5, by rw [if_neg c]; exact h3, fun _ _ _ => rfl, rfl⟩
      rw [g_X11_nextToken_85, h5, eb, bnd, (ch_t _ (by omega)).2.2.2, bnd, if_pos (by cases q : bD (B p) with | true => exact absurd q c | false => rfl)]
end LNG
