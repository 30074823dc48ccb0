/-! a clause, whole -/
def CLK (t : Nat) (σ υ : ST) (c x : Nat) : Prop := x ≤ 9 ∧ υ.1 645 (705 * t + (1 + 4 * c)) = nI (rk x) ∧ σ.1 600 (3 * c) = nI x ∧ (3 ≤ x → ∃ v, v ≤ 9999 ∧ σ.1 600 (3 * c + 1) = nI v ∧ υ.1 645 (705 * t + (1 + (4 * c + 1))) = nI v ∧ (x = 9 → 1 ≤ v ∧ v ≤ 60)) ∧ (3 ≤ x → x ≠ 7 → x ≠ 9 → ∃ v, v ≤ 9999 ∧ σ.1 600 (3 * c + 2) = nI v ∧ υ.1 645 (705 * t + (1 + (4 * c + 2))) = nI v)
def LWK (t : Nat) (σ υ : ST) (n i k on : Nat) (ck : Nat → Nat) (l : Nat) : Prop := (Nat.testBit on l = false ∧ (∀ c, c < n → ck c ≠ l) ∧ σ.1 598 l = -1) ∨ (Nat.testBit on l = true ∧ ∃ c F T a b, c < n ∧ ck c = l ∧ (∀ d, d < c → ck d ≠ l) ∧ σ.1 598 l = nI F ∧ σ.1 599 l = nI T ∧ T ≤ i ∧ υ.1 645 (705 * t + (1 + (4 * c + 1))) = nI a ∧ υ.1 645 (705 * t + (1 + (4 * c + 2))) = nI b ∧ b ≤ k ∧ SG false t σ υ F T a b)
def CLI (B : Nat → Nat) (L t n i k : Nat) (σ υ : ST) (q kc on : Nat) (ck : Nat → Nat) : Prop := TKN B L σ υ q kc ∧ (σ.1 595 4 = nI 0 ∧ σ.1 595 5 = nI i ∧ σ.1 595 6 = nI n) ∧ (υ.1 642 12 = nI (705 * t) ∧ υ.1 642 13 = nI k ∧ υ.1 642 19 = nI on ∧ υ.1 645 (705 * t) = nI n) ∧ (n ≤ 24 ∧ i ≤ q ∧ k ≤ q ∧ on < 8) ∧ OB σ 0 i ∧ (∀ c, c < n → CLK t σ υ c (ck c)) ∧ ∀ l, l < 3 → LWK t σ υ n i k on ck l
def CF1 (n i c : Nat) (σ σ' : ST) : Prop := (∀ a j, ¬ (a = 593 ∧ 2 ≤ j ∧ j ≤ 5) → ¬ (a = 595 ∧ 3 ≤ j ∧ j ≤ 6) → ¬ ((a = 596 ∨ a = 597) ∧ i ≤ j) → ¬ (a = 600 ∧ 3 * n ≤ j) → ¬ ((a = 598 ∨ a = 599) ∧ j = c) → σ'.1 a j = σ.1 a j) ∧ σ'.2 = σ.2
def CF2 (t n k : Nat) (υ υ' : ST) : Prop := (∀ a j, ¬ (a = 642 ∧ 7 ≤ j ∧ j ≤ 19) → a ≠ 647 → ¬ (a = 645 ∧ ((705 * t + (97 + 2 * k) ≤ j ∧ j < 705 * t + 705) ∨ (705 * t + (1 + 4 * n) ≤ j ∧ j ≤ 705 * t + (1 + (4 * n + 3))) ∨ j = 705 * t)) → υ'.1 a j = υ.1 a j) ∧ (∀ a j, ¬ (a = 642 ∧ j = 11) → υ'.2.1 a j = υ.2.1 a j) ∧ υ'.2.2 = υ.2.2
section CLA
variable {N : Mem} {σ σ' σ1 σ2 τ υ υ' υ1 υ2 υ3 υe : ST} {B : Nat → Nat} {L q q1 q2 q3 kc kc1 kc2 t lw o j l k k1 i i1 x v w a m d c c0 f e n on on1 : Nat} {p : List Nat} {b : Bool} {ck : Nat → Nat}
theorem CF1.tr (h1 : CF1 n i c σ σ1) (h2 : CF1 n i c σ1 σ2) : CF1 n i c σ σ2 := ⟨fun a j q1 q2 q3 q4 q5 => (h2.1 a j q1 q2 q3 q4 q5).trans (h1.1 a j q1 q2 q3 q4 q5), h2.2.trans h1.2⟩
theorem CF2.tr (h1 : CF2 t n k υ υ1) (h2 : CF2 t n k υ1 υ2) : CF2 t n k υ υ2 := ⟨fun a j q1 q2 q3 => (h2.1 a j q1 q2 q3).trans (h1.1 a j q1 q2 q3), fun a j q1 => (h2.2.1 a j q1).trans (h1.2.1 a j q1), h2.2.2.trans h1.2.2⟩
theorem FB1.g (h : FB1 n i c σ σ') : CF1 n i c σ σ' := ⟨fun a j q1 q2 q3 q4 q5 => h.1 a j q1 (by omega) q3 (by omega) q5, h.2⟩
theorem FB2.g (h : FB2 t n k υ υ') : CF2 t n k υ υ' := ⟨fun a j q1 q2 q3 => h.1 a j (by omega) q2 (by omega), h.2⟩
theorem ADV.g (h : ADV σ σ') : CF1 n i c σ σ' := ⟨fun a j q1 _ _ _ _ => h.1 a j q1, h.2⟩
theorem f_tok2 (h1 : ∀ a j, ¬ (a = 642 ∧ 7 ≤ j ∧ j ≤ 10) → υ'.1 a j = υ.1 a j) (h2 : ∀ a j, ¬ (a = 642 ∧ j = 11) → υ'.2.1 a j = υ.2.1 a j) (h3 : υ'.2.2 = υ.2.2) : CF2 t n k υ υ' := ⟨fun a j q1 q2 q3 => h1 a j (by omega), h2, h3⟩
theorem CF1.z (h : CF1 n i c σ σ') : FX σ σ' := ⟨fun a j q1 q2 q3 => h.1 a j q1 (by omega) (by omega) (by omega) (by omega), h.2⟩
theorem CF2.z (h : CF2 t n k υ υ') (hn : n < 24) : FY t υ υ' := ⟨fun a j q1 q2 q3 => h.1 a j (by omega) q2 (by omega), h.2⟩
theorem bit_h : (List.range 8).all (fun on => (List.range 3).all (fun l => decide (f_X11_has (nI on) (nI l) = some (Nat.testBit on l)) && decide (nI on ||| jshl 1 (nI l) = nI (on ||| 2 ^ l)) && decide (on ||| 2 ^ l < 8) && (List.range 3).all (fun m => decide (Nat.testBit (on ||| 2 ^ l) m = (Nat.testBit on m || decide (m = l)))))) = true := by decide +kernel
theorem bit_e (h : on < 8) (hl : l < 3) : f_X11_has (nI on) (nI l) = some (Nat.testBit on l) ∧ nI on ||| jshl 1 (nI l) = nI (on ||| 2 ^ l) ∧ on ||| 2 ^ l < 8 ∧ ∀ m, m < 3 → Nat.testBit (on ||| 2 ^ l) m = (Nat.testBit on m || decide (m = l)) := by
  have h1 := List.all_eq_true.mp (List.all_eq_true.mp bit_h on (List.mem_range.mpr h)) l (List.mem_range.mpr hl)
  rw [Bool.and_eq_true, Bool.and_eq_true, Bool.and_eq_true] at h1
  obtain ⟨⟨⟨a1, a2⟩, a3⟩, a4⟩ := h1
  exact ⟨of_decide_eq_true a1, of_decide_eq_true a2, of_decide_eq_true a3, fun m hm => of_decide_eq_true (List.all_eq_true.mp a4 m (List.mem_range.mpr hm))⟩
theorem CLK.kk (h : CLK t σ υ c x) (h1 : ∀ j, 3 * c ≤ j → j ≤ 3 * c + 2 → σ'.1 600 j = σ.1 600 j) (h2 : ∀ j, 705 * t + (1 + 4 * c) ≤ j → j ≤ 705 * t + (1 + (4 * c + 2)) → υ'.1 645 j = υ.1 645 j) : CLK t σ' υ' c x := by
  obtain ⟨a1, a2, a3, a4, a5⟩ := h
  refine ⟨a1, (h2 _ (by omega) (by omega)).trans a2, (h1 _ (by omega) (by omega)).trans a3, fun y => ?_, fun y1 y2 y3 => ?_⟩
  · obtain ⟨v, v1, v2, v3, v4⟩ := a4 y
    exact ⟨v, v1, (h1 _ (by omega) (by omega)).trans v2, (h2 _ (by omega) (by omega)).trans v3, v4⟩
  · obtain ⟨v, v1, v2, v3⟩ := a5 y1 y2 y3
    exact ⟨v, v1, (h1 _ (by omega) (by omega)).trans v2, (h2 _ (by omega) (by omega)).trans v3⟩
/-- what stood before a clause stands behind it -/
theorem CLI.next (h : CLI B L t n i k σ υ q kc on ck) (hn : n < 24) (h9 : kc ≤ 9) (hb : kc < 3 → Nat.testBit on kc = false) (F1 : CF1 n i kc σ σ') (F2 : CF2 t n k υ υ') (T : TKN B L σ' υ' q1 kc1) (hq : i1 ≤ q1 ∧ k1 ≤ q1 ∧ i ≤ i1 ∧ k ≤ k1) (c1 : σ'.1 595 4 = nI 0 ∧ σ'.1 595 5 = nI i1 ∧ σ'.1 595 6 = nI (n + 1)) (c2 : υ'.1 642 12 = nI (705 * t) ∧ υ'.1 642 13 = nI k1 ∧ υ'.1 642 19 = nI (if kc < 3 then on ||| 2 ^ kc else on) ∧ υ'.1 645 (705 * t) = nI (n + 1)) (hO : OB σ' i i1) (hK : CLK t σ' υ' n kc) (hL : kc < 3 → σ'.1 598 kc = nI i ∧ σ'.1 599 kc = nI i1 ∧ υ'.1 645 (705 * t + (1 + (4 * n + 1))) = nI k ∧ υ'.1 645 (705 * t + (1 + (4 * n + 2))) = nI k1 ∧ SG false t σ' υ' i i1 k k1) : CLI B L t (n + 1) i1 k1 σ' υ' q1 kc1 (if kc < 3 then on ||| 2 ^ kc else on) (fun c => if c = n then kc else ck c) := by
  obtain ⟨a1, ⟨a2, a3, a4⟩, ⟨a5, a6, a7, a8⟩, ⟨a9, a10, a11, a12⟩, a13, a14, a15⟩ := h
  obtain ⟨hq1, hq2, hq3, hq4⟩ := hq
  have hL0 := tk_le a1
  refine ⟨T, c1, c2, ⟨by omega, by omega, by omega, ?_⟩, ?_, fun c hc => ?_, fun l hl => ?_⟩
  · by_cases c : kc < 3
    · rw [if_pos c]
      exact (bit_e a12 c).2.2.1
    · rw [if_neg c]
      exact a12
  · refine OB.tr (j := i) (fun z z1 z2 => ?_) hO
    rw [F1.1 _ _ (by omega) (by omega) (by omega) (by omega) (by omega), F1.1 _ _ (by omega) (by omega) (by omega) (by omega) (by omega)]
    exact a13 z z1 z2
  · dsimp only
    by_cases e : c = n
    · rw [if_pos e, e]
      exact hK
    · rw [if_neg e]
      exact (a14 c (by omega)).kk (fun j _ _ => F1.1 _ _ (by omega) (by omega) (by omega) (by omega) (by omega)) (fun j _ _ => F2.1 _ _ (by omega) (by omega) (by omega))
  · have tb : Nat.testBit (if kc < 3 then on ||| 2 ^ kc else on) l = (Nat.testBit on l || decide (l = kc)) := by
      by_cases c : kc < 3
      · rw [if_pos c]
        exact (bit_e a12 c).2.2.2 l hl
      · rw [if_neg c, decide_eq_false (by omega), Bool.or_false]
    by_cases e : l = kc
    · right
      subst e
      obtain ⟨y1, y2, y3, y4, y5⟩ := hL hl
      refine ⟨by rw [tb, decide_eq_true rfl, Bool.or_true], n, i, i1, k, k1, by omega, if_pos rfl, fun d hd => ?_, y1, y2, Nat.le_refl _, y3, y4, Nat.le_refl _, y5⟩
      dsimp only
      rw [if_neg (by omega)]
      rcases a15 l hl with ⟨_, z2, _⟩ | ⟨z1, _⟩
      · exact z2 d hd
      · rw [hb hl] at z1
        cases z1
    · rw [decide_eq_false e, Bool.or_false] at tb
      rcases a15 l hl with ⟨z1, z2, z3⟩ | ⟨z1, c, F, T, a, b, z2, z3, z4, z5, z6, z7, z8, z9, z10, z11⟩
      · left
        refine ⟨tb.trans z1, fun c hc => ?_, (F1.1 _ _ (by omega) (by omega) (by omega) (by omega) (by omega)).trans z3⟩
        dsimp only
        by_cases e2 : c = n
        · rw [if_pos e2]
          omega
        · rw [if_neg e2]
          exact z2 c (by omega)
      · right
        refine ⟨tb.trans z1, c, F, T, a, b, by omega, ?_, fun d hd => ?_, (F1.1 _ _ (by omega) (by omega) (by omega) (by omega) (by omega)).trans z5, (F1.1 _ _ (by omega) (by omega) (by omega) (by omega) (by omega)).trans z6, by omega, (F2.1 _ _ (by omega) (by omega) (by omega)).trans z8, (F2.1 _ _ (by omega) (by omega) (by omega)).trans z9, by omega, ?_⟩
        · dsimp only
          rw [if_neg (by omega)]
          exact z3
        · dsimp only
          rw [if_neg (by omega)]
          exact z4 d hd
        · exact z11.cc (fun z y1 y2 => ⟨F1.1 _ _ (by omega) (by omega) (by omega) (by omega) (by omega), F1.1 _ _ (by omega) (by omega) (by omega) (by omega) (by omega)⟩) (fun z y1 y2 => ⟨F2.1 _ _ (by omega) (by omega) (by omega), F2.1 _ _ (by omega) (by omega) (by omega)⟩)
def CRS (N : Mem) (B : Nat → Nat) (L t n i k : Nat) (σ υ : ST) (q : Nat) (r : Option (Bool × ST)) (s : Option (Int32 × ST)) : Prop := ∃ σ' υ', FX σ σ' ∧ FY t υ υ' ∧ ((r = some (false, σ') ∧ ∃ f, 1 ≤ f ∧ f ≤ 6 ∧ s = some (nI f, υ') ∧ σ'.1 595 1 = nI f ∧ σ'.1 595 2 = υ'.1 642 8) ∨ (r = some (true, σ') ∧ s = some (0, υ') ∧ (σ'.1 595 1 = σ.1 595 1 ∧ σ'.1 595 2 = σ.1 595 2) ∧ ∃ q' kc' i' k' on' ck', q < q' ∧ CLI B L t (n + 1) i' k' σ' υ' q' kc' on' ck'))
theorem crs_f (T : TKN B L σ υ q kc) (h1 : 1 ≤ f) (h2 : f ≤ 6) : CRS N B L t n i k σ υ q (some (false, rfS f σ)) (some (nI f, υ)) := by
  obtain ⟨z1, z2⟩ := rf_v (x := f) (σ := σ)
  exact ⟨rfS f σ, υ, rf_b, FY.rfl, Or.inl ⟨rfl, f, h1, h2, rfl, z1, z2.trans (T.2.1.1.trans T.2.2.1.1.symm)⟩⟩
/-- from the clause's first token on, when it is not refused -/
theorem cl_40 (h : CLI B L t n i k σ υ q kc on ck) (ht : t < 4) (h9 : kc ≤ 9) (hb : kc < 3 → Nat.testBit on kc = false) : CRS N B L t n i k σ υ q (g_X2_readClause_40 N 595 (nI kc) σ) (g_X11_clause_29 N 642 (nI (rk kc)) υ) := by
  have hC := h
  obtain ⟨T, ⟨a2, a3, a4⟩, ⟨a5, a6, a7, a8⟩, ⟨a9, a10, a11, a12⟩, a13, a14, a15⟩ := h
  have hL := tk_le T
  have rk9 : rk kc ≤ 9 := by
    unfold rk
    repeat' split
    all_goals omega
  have rk3 : kc < 3 → rk kc = kc := fun y => by
    unfold rk
    rw [if_neg (by omega), if_neg (by omega)]
  have rk4 : ¬ kc < 3 → 2 < rk kc := fun y => by
    unfold rk
    repeat' split
    all_goals omega
  rw [rc40]
  unfold g_X11_clause_29
  have x12 : xI 2820 υ (642 + 3) (υ.1 642 12) = some (nI n) := by
    rw [a5, xI_n (by omega) (by omega)]
    exact congrArg some a8
  rw [a4, x12, bnd, show (24 : Int32) = nI 24 from rfl]
  by_cases c24 : n = 24
  · rw [c24, if_neg (by first | decide | exact tnf | exact fnt), if_pos rfl, show (6 : Int32) = nI 6 from rfl, rf_e, bnd]
    exact crs_f T (by omega) (by omega)
  · have hn : n < 24 := by omega
    rw [if_pos (nI_lt hn (by omega)), if_neg (fun y => c24 ((nI_eq (by omega) (by omega)).mp y))]
    -- the reference's head
    obtain ⟨υa, ha1, ha2⟩ : ∃ υa, (if 2 < nI (rk kc) then g_X11_clause_65 N 642 (nI (rk kc)) (nI n) υ else ((some (setI υ 642 19 (υ.1 642 19 ||| jshl 1 (nI (rk kc))))).bind fun r9 => g_X11_clause_65 N 642 (nI (rk kc)) (nI n) r9)) = g_X11_clause_65 N 642 (nI (rk kc)) (nI n) υa ∧ υa = setI υ 642 19 (nI (if kc < 3 then on ||| 2 ^ kc else on)) := by
      by_cases c3 : kc < 3
      · refine ⟨_, ?_, rfl⟩
        rw [rk3 c3, show (2 : Int32) = nI 2 from rfl, if_neg (nI_nlt (by omega) (by omega)), bnd, a7, (bit_e a12 c3).2.1, if_pos c3]
      · refine ⟨_, ?_, rfl⟩
        have e : setI υ 642 19 (nI (if kc < 3 then on ||| 2 ^ kc else on)) = υ := by
          rw [if_neg c3, ← a7]
          refine Prod.ext (funext fun a => funext fun j => ?_) rfl
          show (if a = 642 ∧ j = 19 then υ.1 642 19 else υ.1 a j) = υ.1 a j
          by_cases e : a = 642 ∧ j = 19
          · rw [if_pos e, e.1, e.2]
          · rw [if_neg e]
        rw [e, show (2 : Int32) = nI 2 from rfl, if_pos (nI_lt (rk4 c3) (by omega))]
    rw [ha1]
    generalize hon : (if kc < 3 then on ||| 2 ^ kc else on) = on1 at *
    have Fa : CF2 t n k υ υa := by
      rw [ha2]
      exact ⟨fun a j q1 q2 q3 => if_neg (by omega), fun _ _ _ => rfl, rfl⟩
    have Fb : CF2 t n k υa (setI υa 642 14 (nI (rk kc))) := ⟨fun a j q1 q2 q3 => if_neg (by omega), fun _ _ _ => rfl, rfl⟩
    have Ta : TKN B L σ (setI υa 642 14 (nI (rk kc))) q kc := by
      refine T.p2 (fun j hj => ?_) (fun j => ?_) ?_
      · rw [ha2]
        exact (I_col (by omega)).trans (I_col (by omega))
      · rw [ha2]
        exact (I_row (by omega)).trans (I_row (by omega))
      · rw [ha2]
        rfl
    obtain ⟨τ, υb, q1, kc1, g1, g2, g3, g4, g5, g6, g7, g8⟩ := tk_go3 (N := N) Ta (by omega)
    have Fc : CF2 t n k υ υb := (Fa.tr Fb).tr (f_tok2 g6 g7 g8)
    have b12 : υb.1 642 12 = nI (705 * t) := by
      rw [g6 _ _ (by omega), ha2]
      exact (I_col (by omega)).trans ((I_col (by omega)).trans a5)
    have b13 : υb.1 642 13 = nI k := by
      rw [g6 _ _ (by omega), ha2]
      exact (I_col (by omega)).trans ((I_col (by omega)).trans a6)
    have b14 : υb.1 642 14 = nI (rk kc) := by
      rw [g6 _ _ (by omega)]
      exact I_same rfl rfl
    have b19 : υb.1 642 19 = nI on1 := by
      rw [g6 _ _ (by omega), ha2]
      exact (I_col (by omega)).trans (I_same rfl rfl)
    have b45 : υb.1 645 (705 * t) = nI n := by
      rw [g6 645 (705 * t) (by omega), ha2]
      exact (I_row (by omega)).trans ((I_row (by omega)).trans a8)
    have t6 : τ.1 595 6 = nI n := (g5.1 _ _ (by omega)).trans a4
    unfold g_X11_clause_65
    rw [g1, bnd, t6, show (3 : Int32) = nI 3 from rfl, pk_mul, yI_n (by omega) (by omega), bnd, bnd, g2, bnd, b12, nI_1, show (4 : Int32) = nI 4 from rfl, pk_mul, nI_add, show 705 * t + 1 + 4 * n = 705 * t + (1 + 4 * n) by omega, yI_n (by omega) (by omega), bnd, Nat.mul_comm n 3]
    generalize hσ1 : setI τ (595 + 5) (3 * n) (nI kc) = σ1
    generalize hυ1 : setI υb (642 + 3) (705 * t + (1 + 4 * n)) (nI (rk kc)) = υ1
    have Fσ : CF1 n i kc σ σ1 := by
      rw [← hσ1]
      exact g5.g.tr ⟨fun a j q1 q2 q3 q4 q5 => if_neg (by omega), rfl⟩
    have Fυ : CF2 t n k υ υ1 := by
      rw [← hυ1]
      exact Fc.tr ⟨fun a j q1 q2 q3 => if_neg (by omega), fun _ _ _ => rfl, rfl⟩
    have s595 : ∀ j, ¬ (2 ≤ j ∧ j ≤ 2) ∨ True → σ1.1 595 j = σ.1 595 j := fun j _ => by
      rw [← hσ1]
      exact (I_row (by omega)).trans (g5.1 _ _ (by omega))
    have u642 : ∀ j, υ1.1 642 j = υb.1 642 j := fun j => by
      rw [← hυ1]
      exact I_row (by omega)
    have HDD : HD B L t n i k σ1 υ1 q1 kc1 := by
      refine ⟨?_, ?_, hn, ht, by omega, by omega, ?_, ?_, ?_⟩
      · rw [← hσ1, ← hυ1]
        exact (TKN.cc g3 (fun j => I_row (by omega)) (fun j => I_row (by omega))).p2 (fun j _ => I_row (by omega)) (fun j => I_row (by omega)) rfl
      · exact (s595 6 (Or.inr trivial)).trans a4
      · exact (s595 4 (Or.inr trivial)).trans a2
      · exact (s595 5 (Or.inr trivial)).trans a3
      · exact (u642 13).trans b13
    have hbr : ∀ z : Option (Bool × ST), (if (3 : Int32) ≤ nI kc then ((g_X2_readOrder N 595 (nI kc) σ1).bind fun r5 => g_X2_readClause_119 N 595 r5.1 r5.2) else ((gx_law N 595 (nI kc) σ1).bind fun r6 => g_X2_readClause_119 N 595 r6.1 r6.2)) = ((if 3 ≤ kc then g_X2_readOrder N 595 (nI kc) σ1 else gx_law N 595 (nI kc) σ1).bind fun r5 => g_X2_readClause_119 N 595 r5.1 r5.2) := by
      intro _
      by_cases c3 : 3 ≤ kc
      · rw [show (3 : Int32) = nI 3 from rfl, if_pos (nI_le c3 (by omega)), if_pos c3]
      · rw [show (3 : Int32) = nI 3 from rfl, if_neg (nI_ge (by omega) (by omega)), if_neg c3]
    have BR : BRS N B L t n i k kc σ1 υ1 q1 (if 3 ≤ kc then g_X2_readOrder N 595 (nI kc) σ1 else gx_law N 595 (nI kc) σ1) (g_X11_body N 642 (nI (rk kc)) (nI (705 * t + (1 + 4 * n))) υ1) := by
      by_cases c3 : 3 ≤ kc
      · rw [if_pos c3]
        exact order_e HDD c3 h9
      · rw [if_neg c3]
        refine lw_e HDD (by omega) ((u642 12).trans b12) ?_
        rw [u642 14, b14, rk3 (by omega)]
    rw [show nI 3 = (3 : Int32) from rfl, hbr none]
    obtain ⟨σ2, υ2, F2, ⟨e1, e2, f, f1, f2, f3, f4, f5⟩ | ⟨e1, e2, e3, q2, kc2, i2, k2, ⟨y1, ⟨y2, y3, y4, y5, y6⟩, ⟨y7, y8, y9⟩, y10, y11, y12, y13⟩⟩⟩ := BR
    · rw [e1, f3, bnd, bnd]
      refine ⟨setI σ2 595 6 (σ2.1 595 6 + 1), υ2, (Fσ.z.tr e2).tr ⟨fun a j q1 q2 q3 => if_neg (by omega), rfl⟩, (Fυ.z hn).tr (F2.z hn), Or.inl ⟨?_, f, f1, f2, ?_, (I_col (by omega)).trans f4, (I_col (by omega)).trans f5⟩⟩
      · unfold g_X2_readClause_119
        rw [bnd, if_pos rfl]
      · dsimp only
        rw [if_neg (nI_ne0 (by omega) (by omega))]
    · have hL2 := tk_le y1
      rw [e1, e2, bnd, bnd]
      unfold g_X2_readClause_119
      have v6 : σ2.1 595 6 = nI n := (e3.1 _ _ (by omega) (by omega) (by omega) (by omega) (by omega)).trans ((s595 6 (Or.inr trivial)).trans a4)
      have w12 : υ2.1 642 12 = nI (705 * t) := (F2.1 _ _ (by omega) (by omega) (by omega)).trans ((u642 12).trans b12)
      have w45 : υ2.1 645 (705 * t) = nI n := by
        rw [F2.1 _ _ (by omega) (by omega) (by omega), ← hυ1]
        exact (I_col (by omega)).trans b45
      have x45 : xI 2820 υ2 (642 + 3) (nI (705 * t)) = some (nI n) := by
        rw [xI_n (by omega) (by omega)]
        exact congrArg some w45
      show CRS N B L t n i k σ υ q ((some (setI σ2 595 6 (σ2.1 595 6 + 1))).bind _) (if (0 : Int32) = 0 then ((xI 2820 υ2 (642 + 3) (υ2.1 642 12)).bind _) else _)
      rw [if_pos rfl, w12, x45, bnd, bnd]
      dsimp only
      rw [yI_n (by omega) (by omega), bnd, v6, if_neg (by first | decide | exact tnf | exact fnt), nI_1]
      generalize hσ3 : setI σ2 595 6 (nI (n + 1)) = σ3
      generalize hυ3 : setI υ2 (642 + 3) (705 * t) (nI (n + 1)) = υ3
      have F3 : CF1 n i kc σ σ3 := by
        rw [← hσ3]
        exact (Fσ.tr e3.g).tr ⟨fun a j q1 q2 q3 q4 q5 => if_neg (by omega), rfl⟩
      have F4 : CF2 t n k υ υ3 := by
        rw [← hυ3]
        exact (Fυ.tr F2.g).tr ⟨fun a j q1 q2 q3 => if_neg (by omega), fun _ _ _ => rfl, rfl⟩
      have T3 : TKN B L σ3 υ3 q2 kc2 := by
        rw [← hσ3, ← hυ3]
        exact (TKN.cc y1 (fun j => I_row (by omega)) (fun j => I_row (by omega))).p2 (fun j _ => I_row (by omega)) (fun j => I_row (by omega)) rfl
      have r3 : ∀ a j, ¬ (a = 595 ∧ j = 6) → σ3.1 a j = σ2.1 a j := fun a j z => by
        rw [← hσ3]
        exact if_neg z
      have r4 : ∀ a j, ¬ (a = 645 ∧ j = 705 * t) → υ3.1 a j = υ2.1 a j := fun a j z => by
        rw [← hυ3]
        exact if_neg z
      have t59 : υ3.1 642 9 = 59 ↔ kc2 = 38 := tk_s T3 (k := 38) (by omega) (by omega)
      rw [show (38 : Int32) = nI 38 from rfl, ex_e T3 (by omega)]
      have fl : σ3.1 595 1 = σ.1 595 1 ∧ σ3.1 595 2 = σ.1 595 2 := ⟨F3.1 _ _ (by omega) (by omega) (by omega) (by omega) (by omega), F3.1 _ _ (by omega) (by omega) (by omega) (by omega) (by omega)⟩
      by_cases c38 : kc2 = 38
      · rw [if_pos c38, if_pos (t59.mpr c38)]
        obtain ⟨τ4, υ4, q4, kc4, p1, p2, p3, p4, p5, p6, p7, p8⟩ := tk_go3 (N := N) T3 (by omega)
        rw [p1, bnd, bnd, if_neg (by first | decide | exact tnf | exact fnt), p2, bnd]
        have F5 : CF1 n i kc σ τ4 := F3.tr p5.g
        have F6 : CF2 t n k υ υ4 := F4.tr (f_tok2 p6 p7 p8)
        have j1 : ∀ a j, ¬ (a = 593 ∧ 2 ≤ j ∧ j ≤ 5) → ¬ (a = 595 ∧ j = 6) → τ4.1 a j = σ2.1 a j := fun a j z1 z2 => (p5.1 a j z1).trans (r3 a j z2)
        have j2 : ∀ a j, ¬ (a = 642 ∧ 7 ≤ j ∧ j ≤ 10) → ¬ (a = 645 ∧ j = 705 * t) → υ4.1 a j = υ2.1 a j := fun a j z1 z2 => (p6 a j z1).trans (r4 a j z2)
        refine ⟨τ4, υ4, F5.z, F6.z hn, Or.inr ⟨rfl, rfl, ⟨(p5.1 _ _ (by omega)).trans fl.1, (p5.1 _ _ (by omega)).trans fl.2⟩, q4, kc4, i2, k2, on1, fun c => if c = n then kc else ck c, by omega, ?_⟩⟩
        have := hC.next (q1 := q4) (kc1 := kc4) (i1 := i2) (k1 := k2) hn h9 hb F5 F6 p3 ⟨by omega, by omega, by omega, by omega⟩
        rw [hon] at this
        refine this ⟨(j1 _ _ (by omega) (by omega)).trans y7, (j1 _ _ (by omega) (by omega)).trans y8, ?_⟩ ⟨(j2 _ _ (by omega) (by omega)).trans w12, (j2 _ _ (by omega) (by omega)).trans y9, ?_, ?_⟩ ?_ ?_ ?_
        · rw [p5.1 _ _ (by omega), ← hσ3]
          exact I_same rfl rfl
        · rw [j2 _ _ (by omega) (by omega), F2.1 _ _ (by omega) (by omega) (by omega), u642]
          exact b19
        · rw [p6 _ _ (by omega), ← hυ3]
          exact I_same rfl rfl
        · intro z z1 z2
          rw [j1 _ _ (by omega) (by omega), j1 _ _ (by omega) (by omega)]
          exact y10 z z1 z2
        · refine ⟨h9, ?_, ?_, fun z => ?_, fun z1 z2 z3 => ?_⟩
          · rw [j2 _ _ (by omega) (by omega), F2.1 _ _ (by omega) (by omega) (by omega), ← hυ1]
            exact I_same rfl rfl
          · rw [j1 _ _ (by omega) (by omega), e3.1 _ _ (by omega) (by omega) (by omega) (by omega) (by omega), ← hσ1]
            exact I_same rfl rfl
          · obtain ⟨v, v1, v2, v3, v4⟩ := y12 z
            exact ⟨v, v1, (j1 _ _ (by omega) (by omega)).trans v2, (j2 _ _ (by omega) (by omega)).trans v3, v4⟩
          · obtain ⟨v, v1, v2, v3⟩ := y13 z1 z2 z3
            exact ⟨v, v1, (j1 _ _ (by omega) (by omega)).trans v2, (j2 _ _ (by omega) (by omega)).trans v3⟩
        · intro z
          obtain ⟨v1, v2, v3, v4, v5⟩ := y11 z
          exact ⟨(j1 _ _ (by omega) (by omega)).trans v1, (j1 _ _ (by omega) (by omega)).trans v2, (j2 _ _ (by omega) (by omega)).trans v3, (j2 _ _ (by omega) (by omega)).trans v4, v5.cc (fun w _ _ => ⟨j1 _ _ (by omega) (by omega), j1 _ _ (by omega) (by omega)⟩) (fun w _ _ => ⟨j2 _ _ (by omega) (by omega), j2 _ _ (by omega) (by omega)⟩)⟩
      · rw [if_neg c38, if_neg (fun z => c38 (t59.mp z)), bnd, if_pos rfl]
        obtain ⟨z1, z2⟩ := rf_v (x := 1) (σ := σ3)
        exact ⟨rfS 1 σ3, υ3, F3.z.tr rf_b, F4.z hn, Or.inl ⟨rfl, 1, by omega, by omega, rfl, z1, z2.trans (T3.2.1.1.trans T3.2.2.1.1.symm)⟩⟩
theorem cl_e (h : CLI B L t n i k σ υ q kc on ck) (ht : t < 4) : CRS N B L t n i k σ υ q (g_X2_readClause N 595 σ) (g_X11_clause N 642 υ) := by
  have hC := h
  obtain ⟨T, ⟨a2, a3, a4⟩, ⟨a5, a6, a7, a8⟩, ⟨a9, a10, a11, a12⟩, a13, a14, a15⟩ := h
  have hL := tk_le T
  have hkb := kd_b T
  unfold g_X2_readClause g_X2_readClause_0 g_X11_clause g_X11_clause_0
  rw [tk_so T, bnd, T.2.1.2.2.1, show (9 : Int32) = nI 9 from rfl]
  by_cases c9 : kc ≤ 9
  · have rk9 : rk kc ≤ 9 := by
      unfold rk
      repeat' split
      all_goals omega
    rw [if_pos (nI_le c9 (by omega)), if_pos c9, if_pos (nI_pos' (by omega)), show (3 : Int32) = nI 3 from rfl, show (2 : Int32) = nI 2 from rfl]
    by_cases c3 : 3 ≤ kc
    · have rk4 : 2 < rk kc := by
        unfold rk
        repeat' split
        all_goals omega
      rw [if_pos (nI_le c3 (by omega)), if_pos (nI_lt rk4 (by omega))]
      exact cl_40 hC ht c9 (by omega)
    · have rk3 : rk kc = kc := by
        unfold rk
        rw [if_neg (by omega), if_neg (by omega)]
      rw [if_neg (nI_ge (by omega) (by omega)), rk3, if_neg (nI_nlt (by omega) (by omega)), a7, (bit_e a12 (by omega)).1, bnd, xI_n (by omega) (by omega), bnd]
      rcases a15 kc (by omega) with ⟨z1, z2, z3⟩ | ⟨z1, c, F, T', a, b, z2, z3, z4, z5, z6, z7, z8, z9, z10, z11⟩
      · have z3 : σ.1 (595 + 3) kc = -1 := z3
        rw [z3, if_pos (by decide), z1, if_pos rfl]
        have := cl_40 (N := N) hC ht c9 (fun _ => z1)
        rw [rk3] at this
        exact this
      · have z5 : σ.1 (595 + 3) kc = nI F := z5
        have := z11.2.2.1
        rw [z5, if_neg (nI_pos (by omega)), z1, if_neg (by first | decide | exact tnf | exact fnt), show (4 : Int32) = nI 4 from rfl, rf_e, bnd]
        exact crs_f T (by omega) (by omega)
  · rw [if_neg (nI_ge (by omega) (by omega)), if_neg c9, if_neg (by first | decide | exact tnf | exact fnt), show (1 : Int32) = nI 1 from rfl, rf_e, bnd]
    exact crs_f T (by omega) (by omega)
end CLA
