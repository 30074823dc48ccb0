/-! the two readers: what they must come to -/
def cO (σ : ST) (j : Nat) : Nat := (σ.1 596 j).toNatClampNeg
def cP (σ : ST) (j : Nat) : Nat := (σ.1 597 j).toNatClampNeg
def rC (t : Nat) (υ : ST) (j : Nat) : Nat := (υ.1 645 (705 * t + (97 + 2 * j))).toNatClampNeg
def rD (t : Nat) (υ : ST) (j : Nat) : Nat := (υ.1 645 (705 * t + (97 + (2 * j + 1)))).toNatClampNeg
def OB (σ : ST) (i j : Nat) : Prop := ∀ q, i ≤ q → q < j → ∃ a b, σ.1 596 q = nI a ∧ σ.1 597 q = nI b ∧ a ≤ 43 ∧ b ≤ 9999
def RB (t : Nat) (υ : ST) (k l : Nat) : Prop := ∀ q, k ≤ q → q < l → ∃ a b, υ.1 645 (705 * t + (97 + 2 * q)) = nI a ∧ υ.1 645 (705 * t + (97 + (2 * q + 1))) = nI b ∧ a ≤ 22 ∧ b ≤ 9999 ∧ (a = 1 → b < 8)
/-- what was read between: a sum (false), what is asked (true) -/
def SG (vb : Bool) (t : Nat) (σ υ : ST) (i j k l : Nat) : Prop := (vb = false → VL (cO σ) (cP σ) (rC t υ) (rD t υ) i j k l) ∧ (vb = true → VB (cO σ) (cP σ) (rC t υ) (rD t υ) i j k l) ∧ i ≤ j ∧ k ≤ l ∧ OB σ i j ∧ RB t υ k l
def S2 (B : Nat → Nat) (L t lw : Nat) (σ υ : ST) (q kc o oc i k : Nat) (p : List Nat) (b : Bool) : Prop := TKN B L σ υ q kc ∧ RDc σ lw oc i ∧ RDr υ t lw o k p b ∧ i + p.length ≤ q ∧ k + p.length ≤ q
def BAD (N : Mem) (L t : Nat) (σ υ : ST) (q k : Nat) (σ' : ST) : Prop := FCz σ σ' ∧ ∃ f υe m, 1 ≤ f ∧ f ≤ 6 ∧ m ≤ L + 1 - q ∧ (∀ n, g_X11_summed_15 N (n + m) 642 υ = some (nI f, υe)) ∧ σ'.1 595 1 = nI f ∧ σ'.1 595 2 = υe.1 642 8 ∧ FRr t k υ υe
def RES (a kc : Nat) : Prop := (a ≤ 6 → kc ≠ 34 ∧ kc ≠ 35) ∧ (a ≤ 5 → kc ≠ 32 ∧ kc ≠ 33) ∧ (a ≤ 2 → kc ≠ 25) ∧ (a ≤ 1 → kc ≠ 24)
def OKL (N : Mem) (B : Nat → Nat) (L t lw a o : Nat) (vb : Bool) (σ υ : ST) (q i k : Nat) (p : List Nat) (σ' : ST) (q' kc' : Nat) : Prop := FCc i σ σ' ∧ ∃ υ' υ2 j l pend o1 l1, q < q' ∧ Go N (q' - q) υ υ' ∧ RDr υ' t lw o1 l1 (pend ++ p) true ∧ (∀ x, x ∈ pend → a ≤ rkO x) ∧ (pend ++ p).length ≤ 70 ∧ Pp N pend.length a υ' υ2 ∧ TKN B L σ' υ' q' kc' ∧ FRr t k υ υ' ∧ S2 B L t lw σ' υ2 q' kc' o o j l p true ∧ SG vb t σ' υ2 i j k l ∧ FRr t k υ υ2 ∧ (vb = true → cmpd (pend ++ p) = true)
def OKA (N : Mem) (B : Nat → Nat) (L t lw a o : Nat) (vb : Bool) (σ υ : ST) (q i k : Nat) (p : List Nat) (σ' : ST) : Prop := ∃ q' kc', OKL N B L t lw a o vb σ υ q i k p σ' q' kc' ∧ RES a kc'
def OK7 (N : Mem) (B : Nat → Nat) (L t lw o oc : Nat) (σ υ : ST) (q i k : Nat) (p : List Nat) (σ' : ST) : Prop := FCc i σ σ' ∧ ∃ υ2 q' kc' j l, q < q' ∧ S2 B L t lw σ' υ2 q' kc' o oc j l p true ∧ SG false t σ' υ2 i j k l ∧ FRr t k υ υ2 ∧ ∀ d υ3, d ≤ p.length + 1 → (∀ n, g_X11_settle_0 N (n + d) 642 (nI 7) υ2 = some υ3) → Go N (q' - q) υ υ3
def CT (r : Option (Bool × ST)) (G E : ST → Prop) : Prop := ∃ σ', (r = some (true, σ') ∧ G σ') ∨ (r = some (false, σ') ∧ E σ')
section CTR
variable {N : Mem} {σ σ' σ1 σ2 τ υ υ' υ1 υ2 υ'' : ST} {B : Nat → Nat} {L q q1 kc kc1 t lw o oc o1 j l l1 k k1 k' i i1 i' x v w a m m' d d' c c0 f : Nat} {p pend : List Nat} {b vb : Bool}
theorem SG.cc (h : SG vb t σ υ i j k l) (h1 : ∀ q, i ≤ q → q < j → σ'.1 596 q = σ.1 596 q ∧ σ'.1 597 q = σ.1 597 q) (h2 : ∀ q, k ≤ q → q < l → υ'.1 645 (705 * t + (97 + 2 * q)) = υ.1 645 (705 * t + (97 + 2 * q)) ∧ υ'.1 645 (705 * t + (97 + (2 * q + 1))) = υ.1 645 (705 * t + (97 + (2 * q + 1)))) : SG vb t σ' υ' i j k l := by
  obtain ⟨a1, a2, a3, a4, a5, a6⟩ := h
  have e1 : ∀ q, i ≤ q → q < j → cO σ' q = cO σ q ∧ cP σ' q = cP σ q := fun q q1 q2 => by
    obtain ⟨x1, x2⟩ := h1 q q1 q2
    unfold cO cP
    rw [x1, x2]
    exact ⟨rfl, rfl⟩
  have e2 : ∀ q, k ≤ q → q < l → rC t υ' q = rC t υ q ∧ rD t υ' q = rD t υ q := fun q q1 q2 => by
    obtain ⟨x1, x2⟩ := h2 q q1 q2
    unfold rC rD
    rw [x1, x2]
    exact ⟨rfl, rfl⟩
  refine ⟨fun e => VL_c (a1 e) e1 e2, fun e => VB_c (a2 e) e1 e2, a3, a4, fun q q1 q2 => ?_, fun q q1 q2 => ?_⟩
  · obtain ⟨x1, x2⟩ := h1 q q1 q2
    rw [x1, x2]
    exact a5 q q1 q2
  · obtain ⟨x1, x2⟩ := h2 q q1 q2
    rw [x1, x2]
    exact a6 q q1 q2
/-- what was read stays, whatever is read behind it -/
theorem SG.fr (h : SG vb t σ υ i j k l) (h1 : FCc j σ σ') (h2 : FRr t l υ υ') : SG vb t σ' υ' i j k l :=
  h.cc (fun q q1 q2 => ⟨h1.1 _ _ (by omega) (by omega) (by omega), h1.1 _ _ (by omega) (by omega) (by omega)⟩) (fun q q1 q2 => ⟨h2.1 _ _ (by omega) (by omega) (by omega), h2.1 _ _ (by omega) (by omega) (by omega)⟩)
theorem OB.tr (h1 : OB σ i j) (h2 : OB σ j m) : OB σ i m := fun q q1 q2 => by
  by_cases c : q < j
  · exact h1 q q1 c
  · exact h2 q (by omega) q2
theorem RB.tr (h1 : RB t υ i j) (h2 : RB t υ j m) : RB t υ i m := fun q q1 q2 => by
  by_cases c : q < j
  · exact h1 q q1 c
  · exact h2 q (by omega) q2
theorem OB.on (h1 : σ.1 596 i = nI x) (h2 : σ.1 597 i = nI v) (hx : x ≤ 43) (hv : v ≤ 9999) : OB σ i (i + 1) := fun q q1 q2 => by
  obtain rfl : q = i := by omega
  exact ⟨x, v, h1, h2, hx, hv⟩
theorem RB.on (h : EM t υ k x v) (hx : x ≤ 22) (hv : v ≤ 9999) (h8 : x = 1 → v < 8) : RB t υ k (k + 1) := fun q q1 q2 => by
  obtain rfl : q = k := by omega
  exact ⟨x, v, h.1, h.2, hx, hv, h8⟩
theorem EM.cc (h : EM t υ k x v) (hx : x < 2147483648) (hv : v < 2147483648) : rC t υ k = x ∧ rD t υ k = v := by
  unfold rC rD
  rw [h.1, h.2, nI_clamp hx, nI_clamp hv]
  exact ⟨rfl, rfl⟩
/-- the class's order -/
def ordS (i x v : Nat) (σ : ST) : ST := setI (setI (setI σ 596 i (nI x)) 597 i (nI v)) 595 5 (nI (i + 1))
theorem ord_e (h : σ.1 595 5 = nI i) (hi : i < 300) : g_X2_order N 595 (nI x) (nI v) σ = some (nI i, ordS i x v σ) := by
  have e1 : (setI σ (595 + 1) i (nI x)).1 595 5 = nI i := (I_row (by omega)).trans h
  have e2 : (setI (setI σ (595 + 1) i (nI x)) (595 + 2) i (nI v)).1 595 5 = nI i := (I_row (by omega)).trans e1
  have e3 : (setI (setI (setI σ (595 + 1) i (nI x)) (595 + 2) i (nI v)) 595 5 (nI (i + 1))).1 595 5 = nI (i + 1) := I_same rfl rfl
  unfold g_X2_order g_X2_order_0 ordS
  rw [h, show (0 : Int32) = nI 0 from rfl, show (299 : Int32) = nI 299 from rfl, wi10, in_t (by omega) (by omega) (by omega), bnd, if_pos rfl, yI_n (by omega) (by omega), bnd, e1, yI_n (by omega) (by omega), bnd, bnd, e2, nI_1, e3, nI_pred]
theorem ord_f : FCc i σ (ordS i x v σ) := by
  refine ⟨fun a j q1 q2 q3 => ?_, rfl⟩
  unfold ordS
  exact Eq.trans (if_neg (by omega)) (Eq.trans (if_neg (by omega)) (if_neg (by omega)))
theorem ord_r (h : RDc σ lw o i) : RDc (ordS i x v σ) lw o (i + 1) ∧ (ordS i x v σ).1 596 i = nI x ∧ (ordS i x v σ).1 597 i = nI v := by
  obtain ⟨h1, h2, h3⟩ := h
  refine ⟨⟨?_, ?_, I_same rfl rfl⟩, ?_, ?_⟩
  all_goals unfold ordS
  all_goals simp (disch := omega) only [I_same, I_row, I_col]
  all_goals assumption
theorem ord_t (h : TKN B L σ υ q kc) : TKN B L (ordS i x v σ) υ q kc := h.cc (fun j => by unfold ordS; simp (disch := omega) only [I_row]) (fun j => by unfold ordS; simp (disch := omega) only [I_row])
theorem ord_any (x y : Int32) (σ : ST) : ∃ v σ', g_X2_order N 595 x y σ = some (v, σ') ∧ FCz σ σ' ∧ σ'.1 595 1 = σ.1 595 1 ∧ σ'.1 595 2 = σ.1 595 2 := by
  unfold g_X2_order g_X2_order_0
  rw [show (0 : Int32) = nI 0 from rfl, show (299 : Int32) = nI 299 from rfl, wi10, bnd]
  rcases argn (σ.1 595 5) (n := 299) (by omega) with h | ⟨i, hi, h⟩
  · rw [in_f h, if_neg (by first | decide | exact tnf | exact fnt)]
    exact ⟨_, σ, rfl, FCz.rfl, rfl, rfl⟩
  · have e1 : (setI σ (595 + 1) i x).1 595 5 = nI i := (I_row (by omega)).trans h
    rw [h, in_t (by omega) hi (by omega), if_pos rfl, yI_n (by omega) (by omega), bnd, e1, yI_n (by omega) (by omega), bnd, bnd]
    refine ⟨_, _, rfl, ⟨fun a j q1 q2 q3 => ?_, rfl⟩, ?_, ?_⟩
    · exact Eq.trans (if_neg (by omega)) (Eq.trans (if_neg (by omega)) (if_neg (by omega)))
    all_goals simp (disch := omega) only [I_row, I_col]
def rfS (x : Nat) (σ : ST) : ST := setI (setI σ 595 1 (nI x)) 595 2 (σ.1 593 4)
theorem rf_e : g_X2_refuse N 595 (nI x) σ = some (false, rfS x σ) := by
  unfold g_X2_refuse g_X2_refuse_0 rfS
  rw [bnd, bnd, I_row (by omega)]
theorem rf_f : FCz σ (rfS x σ) := by
  refine ⟨fun a j q1 q2 q3 => ?_, rfl⟩
  unfold rfS
  exact Eq.trans (if_neg (by omega)) (if_neg (by omega))
theorem rf_v : (rfS x σ).1 595 1 = nI x ∧ (rfS x σ).1 595 2 = σ.1 593 4 := by
  unfold rfS
  exact ⟨(I_col (by omega)).trans (I_same rfl rfl), I_same rfl rfl⟩
/-- both refuse here, with the same number -/
theorem BAD.r (h : TKN B L σ υ q kc) (h1 : 1 ≤ f) (h2 : f ≤ 6) (hs : ∀ n, g_X11_summed_15 N (n + 1) 642 υ = some (nI f, υ)) : BAD N L t σ υ q k (rfS f σ) := by
  have hq := tk_le h
  exact ⟨rf_f, f, υ, 1, h1, h2, by omega, hs, rf_v.1, rf_v.2.trans (h.2.1.1.trans h.2.2.1.1.symm), FRr.rfl⟩
theorem BAD.pre (h : BAD N L t σ1 υ1 q1 k1 σ') (hg : Go N (q1 - q) υ υ1) (hq : q ≤ q1) (hL : q1 ≤ L) (hr : FRr t k υ υ1) (hk : k ≤ k1) (hc : FCc i σ σ1) : BAD N L t σ υ q k σ' := by
  obtain ⟨a1, f, υe, m, a2, a3, a4, a5, a6, a7, a8⟩ := h
  obtain ⟨m', b1, b2⟩ := hg
  refine ⟨hc.z.tr a1, f, υe, m + m', a2, a3, by omega, fun n => ?_, a6, a7, hr.tr a8 hk⟩
  rw [← Nat.add_assoc, b2, a5]
theorem BAD.post (h : BAD N L t σ υ q k σ1) (hc : FCz σ1 σ') (h1 : σ'.1 595 1 = σ1.1 595 1) (h2 : σ'.1 595 2 = σ1.1 595 2) : BAD N L t σ υ q k σ' := by
  obtain ⟨a1, f, υe, m, a2, a3, a4, a5, a6, a7, a8⟩ := h
  exact ⟨a1.tr hc, f, υe, m, a2, a3, a4, a5, h1.trans a6, h2.trans a7, a8⟩
theorem RDc.fr (h : RDc σ lw o i) (hc : ADV σ τ) : RDc τ lw o i := by
  obtain ⟨h1, h2, h3⟩ := h
  exact ⟨(hc.1 _ _ (by omega)).trans h1, (hc.1 _ _ (by omega)).trans h2, (hc.1 _ _ (by omega)).trans h3⟩
theorem ex_e (h : TKN B L σ υ q kc) (hx : x ≤ 41) : g_X2_expect N 595 (nI x) σ = if kc = x then ((g_X7_advance N 593 σ).bind fun r => some (true, r)) else some (false, rfS 1 σ) := by
  have c3 := h.2.1.2.2.1
  have kb : kc ≤ 42 := by
    obtain ⟨-, ⟨-, -, -, c4⟩, -⟩ := h
    rcases c4 with x | x | x | x
    · omega
    · omega
    · omega
    · have y := x.2.2.2
      have z := sg_b (B q)
      by_cases x1 : sg2 B L q = true
      · rw [if_pos x1] at y
        by_cases x2 : B q = 60
        · rw [if_pos x2] at y; omega
        · rw [if_neg x2] at y; omega
      · rw [if_neg x1] at y; omega
  unfold g_X2_expect g_X2_expect_0
  rw [c3]
  by_cases c : kc = x
  · rw [if_pos (by rw [c]), if_pos c]
  · rw [if_neg (fun y => c ((nI_eq (by omega) (by omega)).mp y)), if_neg c, show (1 : Int32) = nI 1 from rfl, rf_e, bnd]
end CTR
