/-! clauses that are no laws -/
def FB1 (n i c : Nat) (σ σ' : ST) : Prop := (∀ a j, ¬ (a = 593 ∧ 2 ≤ j ∧ j ≤ 5) → ¬ (a = 595 ∧ 3 ≤ j ∧ j ≤ 5) → ¬ ((a = 596 ∨ a = 597) ∧ i ≤ j) → ¬ (a = 600 ∧ 3 * n + 1 ≤ j) → ¬ ((a = 598 ∨ a = 599) ∧ j = c) → σ'.1 a j = σ.1 a j) ∧ σ'.2 = σ.2
def FB2 (t n k : Nat) (υ υ' : ST) : Prop := (∀ a j, ¬ (a = 642 ∧ ((7 ≤ j ∧ j ≤ 10) ∨ j = 13 ∨ (16 ≤ j ∧ j ≤ 18))) → a ≠ 647 → ¬ (a = 645 ∧ ((705 * t + (97 + 2 * k) ≤ j ∧ j < 705 * t + 705) ∨ (705 * t + (1 + (4 * n + 1)) ≤ j ∧ j ≤ 705 * t + (1 + (4 * n + 3))))) → υ'.1 a j = υ.1 a j) ∧ (∀ a j, ¬ (a = 642 ∧ j = 11) → υ'.2.1 a j = υ.2.1 a j) ∧ υ'.2.2 = υ.2.2
def FX (σ σ' : ST) : Prop := (∀ a j, ¬ (a = 593 ∧ 2 ≤ j ∧ j ≤ 5) → ¬ (a = 595 ∧ 1 ≤ j ∧ j ≤ 6) → ¬ (596 ≤ a ∧ a ≤ 600) → σ'.1 a j = σ.1 a j) ∧ σ'.2 = σ.2
def FY (t : Nat) (υ υ' : ST) : Prop := (∀ a j, ¬ (a = 642 ∧ 7 ≤ j ∧ j ≤ 19) → a ≠ 647 → ¬ (a = 645 ∧ 705 * t ≤ j ∧ j < 705 * t + 705) → υ'.1 a j = υ.1 a j) ∧ (∀ a j, ¬ (a = 642 ∧ j = 11) → υ'.2.1 a j = υ.2.1 a j) ∧ υ'.2.2 = υ.2.2
def FL2 (σ' υe : ST) : Prop := ∃ f, 1 ≤ f ∧ f ≤ 6 ∧ σ'.1 595 1 = nI f ∧ σ'.1 595 2 = υe.1 642 8
section PRT
variable {N : Mem} {σ σ' σ1 σ2 τ υ υ' υ1 υ2 υ3 υe : ST} {B : Nat → Nat} {L q q1 q2 q3 kc kc1 kc2 t lw o j l k i x v w a m d c c0 f e n lo hi lo2 hi2 wd pt : Nat} {p : List Nat} {b : Bool}
theorem FB1.rfl : FB1 n i c σ σ := ⟨fun _ _ _ _ _ _ _ => Eq.refl _, Eq.refl _⟩
theorem FB1.tr (h1 : FB1 n i c σ σ1) (h2 : FB1 n i c σ1 σ2) : FB1 n i c σ σ2 := ⟨fun a j q1 q2 q3 q4 q5 => (h2.1 a j q1 q2 q3 q4 q5).trans (h1.1 a j q1 q2 q3 q4 q5), h2.2.trans h1.2⟩
theorem FX.rfl : FX σ σ := ⟨fun _ _ _ _ _ => Eq.refl _, Eq.refl _⟩
theorem FX.tr (h1 : FX σ σ1) (h2 : FX σ1 σ2) : FX σ σ2 := ⟨fun a j q1 q2 q3 => (h2.1 a j q1 q2 q3).trans (h1.1 a j q1 q2 q3), h2.2.trans h1.2⟩
theorem FY.rfl : FY t υ υ := ⟨fun _ _ _ _ _ => Eq.refl _, fun _ _ _ => Eq.refl _, Eq.refl _⟩
theorem FY.tr (h1 : FY t υ υ1) (h2 : FY t υ1 υ2) : FY t υ υ2 := ⟨fun a j q1 q2 q3 => (h2.1 a j q1 q2 q3).trans (h1.1 a j q1 q2 q3), fun a j q1 => (h2.2.1 a j q1).trans (h1.2.1 a j q1), h2.2.2.trans h1.2.2⟩
theorem FB1.z (h : FB1 n i c σ σ') : FX σ σ' := ⟨fun a j q1 q2 q3 => h.1 a j q1 (by omega) (by omega) (by omega) (by omega), h.2⟩
theorem FCz.z (h : FCz σ σ') : FX σ σ' := ⟨fun a j q1 q2 q3 => h.1 a j q1 (by omega) (by omega), h.2⟩
theorem FB2.z (h : FB2 t n k υ υ') (hn : n < 24) : FY t υ υ' := ⟨fun a j q1 q2 q3 => h.1 a j (by omega) q2 (by omega), h.2⟩
theorem FB2.rfl : FB2 t n k υ υ := ⟨fun _ _ _ _ _ => Eq.refl _, fun _ _ _ => Eq.refl _, Eq.refl _⟩
theorem FB2.tr (h1 : FB2 t n k υ υ1) (h2 : FB2 t n k υ1 υ2) : FB2 t n k υ υ2 := ⟨fun a j q1 q2 q3 => (h2.1 a j q1 q2 q3).trans (h1.1 a j q1 q2 q3), fun a j q1 => (h2.2.1 a j q1).trans (h1.2.1 a j q1), h2.2.2.trans h1.2.2⟩
theorem FCc.bb (h : FCc i σ σ') : FB1 n i c σ σ' := ⟨fun a j q1 q2 q3 q4 q5 => h.1 a j q1 (by omega) q3, h.2⟩
theorem ADV.bb (h : ADV σ σ') : FB1 n i c σ σ' := ⟨fun a j q1 q2 q3 q4 q5 => h.1 a j q1, h.2⟩
theorem FRr.bb (h : FRr t k υ υ') : FB2 t n k υ υ' := ⟨fun a j q1 q2 q3 => h.1 a j q1 q2 (by omega), h.2⟩
theorem rf_b : FX σ (rfS x σ) := rf_f.z
theorem rf_2 (h : TKN B L σ υ q kc) (h1 : 1 ≤ f) (h2 : f ≤ 6) : FL2 (rfS f σ) υ := ⟨f, h1, h2, rf_v.1, rf_v.2.trans (h.2.1.1.trans h.2.2.1.1.symm)⟩
theorem TKN.p2 (h : TKN B L σ υ q kc) (e : ∀ j, j ≤ 10 → υ'.1 642 j = υ.1 642 j) (e2 : ∀ j, υ'.1 646 j = υ.1 646 j) (e3 : υ'.2 = υ.2) : TKN B L σ υ' q kc := by
  obtain ⟨⟨hB, b1, b2, hq⟩, h1, ⟨r1, r2, r3⟩, r4, r5⟩ := h
  refine ⟨⟨hB, b1, b2.f e2 (e 4 (by omega)), hq⟩, h1, ⟨?_, ?_, ?_⟩, fun hk => ?_, fun a1 a2 => ?_⟩
  · rw [e 8 (by omega)]; exact r1
  · rw [e 7 (by omega)]; exact r2
  · rw [e 9 (by omega)]; exact r3
  · rw [e 10 (by omega)]; exact r4 hk
  · rw [e3]; exact r5 a1 a2
/-- both go on, only tokens change -/
theorem tk_go3 (h : TKN B L σ υ q kc) (hk : kc ≠ 41) : ∃ τ υ' q' kc', g_X7_advance N 593 σ = some τ ∧ g_X11_nextToken N 642 υ = some υ' ∧ TKN B L τ υ' q' kc' ∧ q < q' ∧ ADV σ τ ∧ (∀ a j, ¬ (a = 642 ∧ 7 ≤ j ∧ j ≤ 10) → υ'.1 a j = υ.1 a j) ∧ (∀ a j, ¬ (a = 642 ∧ j = 11) → υ'.2.1 a j = υ.2.1 a j) ∧ υ'.2.2 = υ.2.2 := by
  obtain ⟨τ, υ', q', kc', g1, g2, g3, g4, g5, g6, g7, g8, g9, g10⟩ := tk_go (N := N) h
  exact ⟨τ, υ', q', kc', g1, g2, g3, g5 (tk_lt h hk), ⟨g6, g7⟩, g8, g9, g10⟩
/-- a number: told on both sides, or the same fault -/
theorem fig_e (h : TKN B L σ υ q kc) (hn : σ.1 595 6 = nI n) (h24 : n < 24) (ht : t < 4) (hp : pt = 1 ∨ pt = 2) (hh : hi ≤ 9999) (hlo : lo ≤ 1) : (∃ f, 1 ≤ f ∧ f ≤ 6 ∧ g_X2_readPart N 595 (nI pt) (nI lo) (nI hi) σ = some (false, rfS f σ) ∧ g_X11_figure N 642 (nI (705 * t + (1 + (4 * n + pt)))) (nI lo) (nI hi) υ = some (nI f, υ)) ∨ ∃ v τ υ' q' kc', lo ≤ v ∧ v ≤ hi ∧ g_X2_readPart N 595 (nI pt) (nI lo) (nI hi) σ = some (true, τ) ∧ g_X11_figure N 642 (nI (705 * t + (1 + (4 * n + pt)))) (nI lo) (nI hi) υ = some (0, υ') ∧ TKN B L τ υ' q' kc' ∧ q < q' ∧ ADV (setI σ 600 (3 * n + pt) (nI v)) τ ∧ (∀ a j, ¬ (a = 642 ∧ 7 ≤ j ∧ j ≤ 10) → υ'.1 a j = (setI υ 645 (705 * t + (1 + (4 * n + pt))) (nI v)).1 a j) ∧ (∀ a j, ¬ (a = 642 ∧ j = 11) → υ'.2.1 a j = υ.2.1 a j) ∧ υ'.2.2 = υ.2.2 := by
  have hkb := kd_b h
  have t27 := tk_27 h
  unfold g_X2_readPart g_X2_readPart_0 g_X11_figure g_X11_figure_0
  rw [h.2.1.2.2.1, show (27 : Int32) = nI 27 from rfl]
  have k27 := keq hkb 27 (by omega)
  by_cases c27 : kc = 27
  · rw [if_pos (k27.mpr c27), if_pos (t27.mpr c27)]
    obtain ⟨v, v1, v2, v3⟩ := h.2.2.2.1 c27
    rw [v3, v2, wi10, wi11, bnd, bnd]
    by_cases c : lo ≤ v ∧ v ≤ hi
    · rw [show min v 10000 = v by omega, in_t c.1 c.2 (by omega), if_pos rfl, if_pos rfl, hn, show (3 : Int32) = nI 3 from rfl, pk_mul, nI_add, yI_n (by omega) (by omega), bnd, yI_n (by omega) (by omega), bnd, Nat.mul_comm n 3]
      have T1 : TKN B L (setI σ (595 + 5) (3 * n + pt) (nI v)) (setI υ (642 + 3) (705 * t + (1 + (4 * n + pt))) (nI v)) q kc := by
        exact (TKN.cc h (fun j => I_row (by omega)) (fun j => I_row (by omega))).p2 (fun j _ => I_row (by omega)) (fun j => I_row (by omega)) rfl
      obtain ⟨τ, υ', q', kc', g1, g2, g3, g4, g5, g6⟩ := tk_go3 (N := N) T1 (by omega)
      rw [g1, bnd, g2, bnd]
      exact Or.inr ⟨v, τ, υ', q', kc', c.1, c.2, rfl, rfl, g3, g4, g5, g6⟩
    · rw [in_f (a := nI lo) (x := nI (min v 10000)) (b := nI hi) (fun y => c ⟨by have := (nI_leI (by omega) (by omega)).mp y.1; omega, by have := (nI_leI (by omega) (by omega)).mp y.2; omega⟩), in_f (a := nI lo) (x := nI v) (b := nI hi) (fun y => c ⟨(nI_leI (by omega) (by omega)).mp y.1, (nI_leI (by omega) (by omega)).mp y.2⟩), if_neg (by first | decide | exact tnf | exact fnt), if_neg (by first | decide | exact tnf | exact fnt), show (2 : Int32) = nI 2 from rfl, rf_e, bnd]
      exact Or.inl ⟨2, by omega, by omega, rfl, rfl⟩
  · rw [if_neg (fun y => c27 (k27.mp y)), if_neg (fun y => c27 (t27.mp y)), show (1 : Int32) = nI 1 from rfl, rf_e, bnd]
    exact Or.inl ⟨1, by omega, by omega, rfl, rfl⟩
/-- the outcome of a clause's body: the same fault, or both have told the same -/
def BOK (N : Mem) (B : Nat → Nat) (L t n i k c : Nat) (σ υ : ST) (q : Nat) (σ' υ' : ST) (q' kc' i' k' : Nat) : Prop := TKN B L σ' υ' q' kc' ∧ (q ≤ q' ∧ i' ≤ q' ∧ k' ≤ q' ∧ i ≤ i' ∧ k ≤ k') ∧ (σ'.1 595 4 = nI 0 ∧ σ'.1 595 5 = nI i' ∧ υ'.1 642 13 = nI k') ∧ OB σ' i i' ∧ (c < 3 → σ'.1 598 c = nI i ∧ σ'.1 599 c = nI i' ∧ υ'.1 645 (705 * t + (1 + (4 * n + 1))) = nI k ∧ υ'.1 645 (705 * t + (1 + (4 * n + 2))) = nI k' ∧ SG false t σ' υ' i i' k k') ∧ (3 ≤ c → ∃ v, v ≤ 9999 ∧ σ'.1 600 (3 * n + 1) = nI v ∧ υ'.1 645 (705 * t + (1 + (4 * n + 1))) = nI v ∧ (c = 9 → 1 ≤ v ∧ v ≤ 60)) ∧ (3 ≤ c → c ≠ 7 → c ≠ 9 → ∃ v, v ≤ 9999 ∧ σ'.1 600 (3 * n + 2) = nI v ∧ υ'.1 645 (705 * t + (1 + (4 * n + 2))) = nI v)
def BRS (N : Mem) (B : Nat → Nat) (L t n i k c : Nat) (σ υ : ST) (q : Nat) (r : Option (Bool × ST)) (s : Option (Int32 × ST)) : Prop := ∃ σ' υ', FB2 t n k υ υ' ∧ ((r = some (false, σ') ∧ FX σ σ' ∧ ∃ f, 1 ≤ f ∧ f ≤ 6 ∧ s = some (nI f, υ') ∧ σ'.1 595 1 = nI f ∧ σ'.1 595 2 = υ'.1 642 8) ∨ (r = some (true, σ') ∧ s = some (0, υ') ∧ FB1 n i c σ σ' ∧ ∃ q' kc' i' k', BOK N B L t n i k c σ υ q σ' υ' q' kc' i' k'))
theorem f_600 : FB1 n i c σ (setI σ 600 (3 * n + 1 + e) (nI v)) := ⟨fun a j q1 q2 q3 q4 q5 => if_neg (by omega), rfl⟩
theorem f_645 (h : e ≤ 2) : FB2 t n k υ (setI υ 645 (705 * t + (1 + (4 * n + 1 + e))) (nI v)) := ⟨fun a j q1 q2 q3 => if_neg (by omega), fun _ _ _ => rfl, rfl⟩
theorem f_tok (h1 : ∀ a j, ¬ (a = 642 ∧ 7 ≤ j ∧ j ≤ 10) → υ'.1 a j = υ.1 a j) (h2 : ∀ a j, ¬ (a = 642 ∧ j = 11) → υ'.2.1 a j = υ.2.1 a j) (h3 : υ'.2.2 = υ.2.2) : FB2 t n k υ υ' := ⟨fun a j q1 q2 q3 => h1 a j (by omega), h2, h3⟩
/-- what is kept from before a clause's body -/
def HD (B : Nat → Nat) (L t n i k : Nat) (σ υ : ST) (q kc : Nat) : Prop := TKN B L σ υ q kc ∧ σ.1 595 6 = nI n ∧ n < 24 ∧ t < 4 ∧ i ≤ q ∧ k ≤ q ∧ σ.1 595 4 = nI 0 ∧ σ.1 595 5 = nI i ∧ υ.1 642 13 = nI k
theorem one_p (h : HD B L t n i k σ υ q kc) (hh : hi ≤ 9999) (hlo : lo ≤ 1) (hc : c = 7 ∨ (c = 9 ∧ lo = 1 ∧ hi = 60)) : BRS N B L t n i k c σ υ q (g_X2_readPart N 595 (nI 1) (nI lo) (nI hi) σ) (g_X11_figure N 642 (nI (705 * t + (1 + (4 * n + 1)))) (nI lo) (nI hi) υ) := by
  obtain ⟨T, h6, h24, ht, hi1, hk1, h4, h5, h13⟩ := h
  rcases fig_e (N := N) (pt := 1) (hi := hi) (lo := lo) T h6 h24 ht (Or.inl rfl) hh hlo with ⟨f, f1, f2, f3, f4⟩ | ⟨v, τ, υ', q', kc', v1, v2, a1, a2, a3, a4, a5, a6, a7, a8⟩
  · obtain ⟨z1, z2⟩ := rf_v (x := f) (σ := σ)
    exact ⟨rfS f σ, υ, FB2.rfl, Or.inl ⟨f3, rf_b, f, f1, f2, f4, z1, z2.trans (T.2.1.1.trans T.2.2.1.1.symm)⟩⟩
  · refine ⟨τ, υ', (f_645 (e := 0) (by omega)).tr (f_tok a6 a7 a8), Or.inr ⟨a1, a2, (f_600 (e := 0)).tr a5.bb, q', kc', i, k, a3, by omega, ⟨?_, ?_, ?_⟩, fun z z1 z2 => by omega, by omega, fun _ => ⟨v, by omega, ?_, ?_, by omega⟩, by omega⟩⟩
    · exact (a5.1 _ _ (by omega)).trans ((I_row (by omega)).trans h4)
    · exact (a5.1 _ _ (by omega)).trans ((I_row (by omega)).trans h5)
    · exact (a6 _ _ (by omega)).trans ((I_row (by omega)).trans h13)
    · exact (a5.1 _ _ (by omega)).trans (I_same rfl rfl)
    · exact (a6 _ _ (by omega)).trans (I_same rfl rfl)
theorem two_p (h : HD B L t n i k σ υ q kc) (h1 : hi ≤ 9999) (h2 : hi2 ≤ 9999) (hc : 3 ≤ c) (hc9 : c ≠ 9) (hw : wd < 27) (hw1 : wd ≠ 1) : BRS N B L t n i k c σ υ q ((g_X2_readPart N 595 1 0 (nI hi) σ).bind fun r1 => if r1.1 = false then some (false, r1.2) else ((g_X2_expect N 595 (nI wd) r1.2).bind fun r2 => if r2.1 = false then some (false, r2.2) else ((g_X2_readPart N 595 2 0 (nI hi2) r2.2).bind fun r3 => if r3.1 = false then some (false, r3.2) else some (true, r3.2)))) (g_X11_pair N 642 (nI (705 * t + (1 + 4 * n))) (nI hi) (lN (wpk wd)) (nI hi2) υ) := by
  obtain ⟨T, h6, h24, ht, hi1, hk1, h4, h5, h13⟩ := h
  unfold g_X11_pair g_X11_pair_0
  rw [show (1 : Int32) = nI 1 from rfl, show (2 : Int32) = nI 2 from rfl, show (0 : Int32) = nI 0 from rfl, nI_add, nI_add, show 705 * t + (1 + 4 * n) + 1 = 705 * t + (1 + (4 * n + 1)) by omega, show 705 * t + (1 + 4 * n) + 2 = 705 * t + (1 + (4 * n + 2)) by omega]
  rcases fig_e (N := N) (pt := 1) (hi := hi) (lo := 0) T h6 h24 ht (Or.inl rfl) h1 (by omega) with ⟨f, f1, f2, f3, f4⟩ | ⟨v, τ, υ', q', kc', v1, v2, a1, a2, a3, a4, a5, a6, a7, a8⟩
  · obtain ⟨z1, z2⟩ := rf_v (x := f) (σ := σ)
    refine ⟨rfS f σ, υ, FB2.rfl, Or.inl ⟨?_, rf_b, f, f1, f2, ?_, z1, z2.trans (T.2.1.1.trans T.2.2.1.1.symm)⟩⟩
    · rw [f3, bnd, if_pos rfl]
    · rw [f4, bnd, if_neg (fun y => by have := (nI_eq (by omega) (by omega)).mp y; omega)]
  · have F1 : FB1 n i c σ τ := (f_600 (e := 0)).tr a5.bb
    have F2 : FB2 t n k υ υ' := (f_645 (e := 0) (by omega)).tr (f_tok a6 a7 a8)
    rw [a1, bnd, if_neg (by first | decide | exact tnf | exact fnt), ex_e a3 (by omega), a2, bnd]
    have z0 : (0 : Int32) = nI 0 := rfl
    show BRS N B L t n i k c σ υ q _ (if (0 : Int32) = nI 0 then _ else _)
    rw [if_pos z0]
    dsimp only
    unfold g_X11_worded g_X11_worded_0
    rw [tk_w a3 hw hw1, bnd]
    by_cases cw : kc' = wd
    · rw [if_pos cw, decide_eq_true cw, if_pos rfl]
      obtain ⟨τ2, υ2, q2, kc2, g1, g2, g3, g4, g5, g6, g7, g8⟩ := tk_go3 (N := N) a3 (by omega)
      rw [g1, bnd, bnd, if_neg (by first | decide | exact tnf | exact fnt), g2, bnd]
      have F1' : FB1 n i c σ τ2 := F1.tr g5.bb
      have F2' : FB2 t n k υ υ2 := F2.tr (f_tok g6 g7 g8)
      have h6' : τ2.1 595 6 = nI n := (g5.1 _ _ (by omega)).trans ((a5.1 _ _ (by omega)).trans ((I_row (by omega)).trans h6))
      rcases fig_e (N := N) (pt := 2) (hi := hi2) (lo := 0) g3 h6' h24 ht (Or.inr rfl) h2 (by omega) with ⟨f, f1, f2, f3, f4⟩ | ⟨v', τ3, υ3, q3, kc3, u1, u2, b1, b2, b3, b4, b5, b6, b7, b8⟩
      · obtain ⟨z1, z2⟩ := rf_v (x := f) (σ := τ2)
        refine ⟨rfS f τ2, υ2, F2', Or.inl ⟨?_, F1'.z.tr rf_b, f, f1, f2, ?_, z1, z2.trans (g3.2.1.1.trans g3.2.2.1.1.symm)⟩⟩
        · rw [f3, bnd, if_pos rfl]
        · rw [show (0 : Int32) = nI 0 from rfl, f4, bnd, bnd]
      · refine ⟨τ3, υ3, (F2'.tr (f_645 (e := 1) (by omega))).tr (f_tok b6 b7 b8), Or.inr ⟨?_, ?_, (F1'.tr (f_600 (e := 1))).tr b5.bb, q3, kc3, i, k, b3, by omega, ⟨?_, ?_, ?_⟩, fun z z1 z2 => by omega, by omega, fun _ => ⟨v, by omega, ?_, ?_, by omega⟩, fun _ _ _ => ⟨v', by omega, ?_, ?_⟩⟩⟩
        · rw [b1, bnd, if_neg (by first | decide | exact tnf | exact fnt)]
        · show (((g_X11_figure N 642 (nI (705 * t + (1 + (4 * n + 2)))) (nI 0) (nI hi2) υ2).bind _).bind _) = _
          rw [b2, bnd, bnd]
        · exact (b5.1 _ _ (by omega)).trans ((I_row (by omega)).trans ((g5.1 _ _ (by omega)).trans ((a5.1 _ _ (by omega)).trans ((I_row (by omega)).trans h4))))
        · exact (b5.1 _ _ (by omega)).trans ((I_row (by omega)).trans ((g5.1 _ _ (by omega)).trans ((a5.1 _ _ (by omega)).trans ((I_row (by omega)).trans h5))))
        · exact (b6 _ _ (by omega)).trans ((I_row (by omega)).trans ((g6 _ _ (by omega)).trans ((a6 _ _ (by omega)).trans ((I_row (by omega)).trans h13))))
        · exact (b5.1 _ _ (by omega)).trans ((I_col (by omega)).trans ((g5.1 _ _ (by omega)).trans ((a5.1 _ _ (by omega)).trans (I_same rfl rfl))))
        · exact (b6 _ _ (by omega)).trans ((I_col (by omega)).trans ((g6 _ _ (by omega)).trans ((a6 _ _ (by omega)).trans (I_same rfl rfl))))
        · exact (b5.1 _ _ (by omega)).trans (I_same rfl rfl)
        · exact (b6 _ _ (by omega)).trans (I_same rfl rfl)
    · obtain ⟨z1, z2⟩ := rf_v (x := 1) (σ := τ)
      rw [if_neg cw, decide_eq_false cw, if_neg (by first | decide | exact tnf | exact fnt), bnd, if_pos rfl, bnd]
      exact ⟨rfS 1 τ, υ', F2, Or.inl ⟨rfl, F1.z.tr rf_b, 1, by omega, by omega, rfl, z1, z2.trans (a3.2.1.1.trans a3.2.2.1.1.symm)⟩⟩
/-- a clause that is no law -/
theorem order_e (h : HD B L t n i k σ υ q kc) (hc : 3 ≤ c) (hc9 : c ≤ 9) : BRS N B L t n i k c σ υ q (g_X2_readOrder N 595 (nI c) σ) (g_X11_body N 642 (nI (rk c)) (nI (705 * t + (1 + 4 * n))) υ) := by
  have ei : ∀ z : Option (Int32 × ST), (z.bind fun r => some (r.1, r.2)) = z := fun z => by cases z <;> rfl
  unfold g_X2_readOrder g_X2_readOrder_0 g_X11_body g_X11_body_0
  simp only [w_11, w_16, w_17, bnd, ei, et]
  obtain rfl | rfl | rfl | rfl | rfl | rfl | rfl : c = 3 ∨ c = 4 ∨ c = 5 ∨ c = 6 ∨ c = 7 ∨ c = 8 ∨ c = 9 := by omega
  · rw [if_pos (by decide), if_pos (by decide)]
    exact two_p (hi := 9) (hi2 := 99) (wd := 11) h (by omega) (by omega) (by omega) (by omega) (by omega) (by omega)
  · rw [if_neg (by first | decide | exact tnf | exact fnt), if_neg (by first | decide | exact tnf | exact fnt), if_neg (by first | decide | exact tnf | exact fnt), if_neg (by first | decide | exact tnf | exact fnt), if_neg (by first | decide | exact tnf | exact fnt), if_neg (by first | decide | exact tnf | exact fnt), if_pos (by decide)]
    exact two_p (hi := 9) (hi2 := 110) (wd := 16) h (by omega) (by omega) (by omega) (by omega) (by omega) (by omega)
  · rw [if_neg (by first | decide | exact tnf | exact fnt), if_neg (by first | decide | exact tnf | exact fnt), if_neg (by first | decide | exact tnf | exact fnt), if_neg (by first | decide | exact tnf | exact fnt), if_neg (by first | decide | exact tnf | exact fnt), if_neg (by first | decide | exact tnf | exact fnt), if_neg (by first | decide | exact tnf | exact fnt), if_pos (by decide)]
    exact two_p (hi := 9) (hi2 := 110) (wd := 16) h (by omega) (by omega) (by omega) (by omega) (by omega) (by omega)
  · rw [if_neg (by first | decide | exact tnf | exact fnt), if_pos (by decide), if_neg (by first | decide | exact tnf | exact fnt), if_neg (by first | decide | exact tnf | exact fnt), if_neg (by first | decide | exact tnf | exact fnt), if_pos (by decide)]
    exact two_p (hi := 9999) (hi2 := 4) (wd := 17) h (by omega) (by omega) (by omega) (by omega) (by omega) (by omega)
  · rw [if_neg (by first | decide | exact tnf | exact fnt), if_neg (by first | decide | exact tnf | exact fnt), if_pos (by decide), if_neg (by first | decide | exact tnf | exact fnt), if_neg (by first | decide | exact tnf | exact fnt), if_neg (by first | decide | exact tnf | exact fnt), if_neg (by first | decide | exact tnf | exact fnt), if_neg (by first | decide | exact tnf | exact fnt), if_pos (by decide), nI_1, show 705 * t + (1 + 4 * n) + 1 = 705 * t + (1 + (4 * n + 1)) by omega]
    exact one_p (hi := 4) (lo := 0) h (by omega) (by omega) (Or.inl rfl)
  · rw [if_neg (by first | decide | exact tnf | exact fnt), if_neg (by first | decide | exact tnf | exact fnt), if_neg (by first | decide | exact tnf | exact fnt), if_pos (by decide), if_neg (by first | decide | exact tnf | exact fnt), if_neg (by first | decide | exact tnf | exact fnt), if_neg (by first | decide | exact tnf | exact fnt), if_neg (by first | decide | exact tnf | exact fnt), if_pos (by decide)]
    exact two_p (hi := 4) (hi2 := 9) (wd := 17) h (by omega) (by omega) (by omega) (by omega) (by omega) (by omega)
  · rw [if_neg (by first | decide | exact tnf | exact fnt), if_neg (by first | decide | exact tnf | exact fnt), if_neg (by first | decide | exact tnf | exact fnt), if_neg (by first | decide | exact tnf | exact fnt), if_pos (by decide), if_neg (by first | decide | exact tnf | exact fnt), if_neg (by first | decide | exact tnf | exact fnt), if_neg (by first | decide | exact tnf | exact fnt), if_neg (by first | decide | exact tnf | exact fnt), if_neg (by first | decide | exact tnf | exact fnt), if_neg (by first | decide | exact tnf | exact fnt), if_pos (by decide), nI_1, show 705 * t + (1 + 4 * n) + 1 = 705 * t + (1 + (4 * n + 1)) by omega]
    exact one_p (hi := 60) (lo := 1) h (by omega) (by omega) (Or.inr ⟨rfl, rfl, rfl⟩)
end PRT
