/-! text: both sides, and what stays -/
section TXK
variable {N N' : Mem} {σ τ υ υ' : ST} {s z s' : SS} {B : Nat}
theorem tape_b (h : TP σ) : ∃ Bt L, (∀ i, Bt i < 256) ∧ BT Bt L σ ∧ BR Bt L σ := by
  obtain ⟨L, l1, l2, l3, l4⟩ := h
  have hb : ∀ i, i < L → σ.1 594 i = nI (σ.1 594 i).toNatClampNeg ∧ (σ.1 594 i).toNatClampNeg ≤ 255 := by
    intro i hi
    obtain ⟨_, b, b1, b2⟩ := l4 i hi
    rw [b2, nI_clamp (by omega)]
    exact ⟨rfl, b1⟩
  refine ⟨fun i => if i < L then (σ.1 594 i).toNatClampNeg else 0, L, fun i => ?_, ⟨l1, l2, fun i hi => ?_⟩, ⟨l1, l3, fun i hi => ?_⟩⟩
  · dsimp only
    by_cases c : i < L
    · rw [if_pos c]
      have := (hb i c).2
      omega
    · rw [if_neg c]
      omega
  · dsimp only
    rw [if_pos hi]
    exact hb i hi
  · dsimp only
    rw [if_pos hi, (l4 i hi).1]
    exact hb i hi
theorem inv_tx {v : Nat} (h : Inv N σ s z) (hE : Ext N N') (c1 : ∀ a j, 1 ≤ a → a < 593 → ¬ (a = 1 ∧ j = 5) → υ.1 a j = σ.1 a j) (c5 : υ.1 1 5 = nI v) (hv : v = s 0 5 ∨ (v = s 0 5 + 1 ∧ v ≤ 4)) (c43 : υ.1 643 1 = nI v ∧ ∀ j, j ≠ 1 → υ.1 643 j = σ.1 643 j) (c44 : ∀ j, υ.1 644 j = σ.1 644 j) (cD : ∀ a j, 633 ≤ a → a < 642 → υ.1 a j = σ.1 a j) (cT : υ.1 593 1 = nI 0 ∧ υ.1 642 4 = nI 0) (cF : FL υ) (c23 : υ.1 642 23 = σ.1 642 23) (c45 : ∀ j, j < 705 * s 0 5 → υ.1 645 j = σ.1 645 j) (q12 : ∀ j, j ≠ s 0 5 → υ.2.2 12 j = σ.2.2 12 j) (q308 : ∀ j, υ.2.2 308 j = σ.2.2 308 j) (qn : ∀ w, s 0 5 < 4 → υ.2.2 12 (s 0 5) = some w → isOb N' 8 w = true) (hT : v = s 0 5 + 1 → ∃ w, υ.2.2 12 (s 0 5) = some w ∧ TR N' w (fun i => υ.1 645 (705 * s 0 5 + i))) : Inv N' υ (us s 0 5 v) z := by
  obtain ⟨⟨h1, h2, h3⟩, ⟨h4, h5, h6⟩, ⟨_, _, t3, t4⟩, q1, q2, q3, q4, q5⟩ := h
  have s4 : s 0 5 ≤ 4 := h2.2.2.2.2.1
  have e44 : υ.1 644 = σ.1 644 := funext c44
  refine ⟨⟨⟨fun c j hc hj => ?_, ?_⟩, wf_05 h2 (by omega) (by omega), rr_05 h2 h3 c43.1 c43.2⟩, ⟨h4.frame (fun a i p1 p2 => c1 a i (by omega) (by omega) (by omega)), h5, by rw [e44]; exact h6⟩, ⟨⟨0, by omega, cT.1, cT.2, fun i hi => by omega⟩, cF, c23.trans t3, t4.f cD⟩, fun t w ht hw => ?_, fun t w ht hw => ?_, ?_, fun t ht => ?_, fun t ht => ?_⟩
  · by_cases c0 : c = 0 ∧ j = 5
    · obtain ⟨rfl, rfl⟩ := c0
      rw [us_same rfl rfl]
      exact c5
    · have e : us s 0 5 v c j = s c j := if_neg c0
      rw [e, c1 _ _ (by omega) (by omega) (by omega)]
      exact h1.1 c j hc hj
  · rw [us_col (by omega), c1 _ _ (by omega) (by omega) (by omega)]
    exact h1.2
  · by_cases c : t = s 0 5
    · subst c
      exact qn w ht hw
    · rw [q12 t c] at hw
      exact hE.ob (q1 t w ht hw)
  · rw [q308] at hw
    exact hE.ob (q2 t w ht hw)
  · rw [us_same rfl rfl]
    omega
  · rw [q308, q12 t (by omega)]
    exact q4 t ht
  · rw [us_same rfl rfl] at ht
    by_cases c : t = s 0 5
    · subst c
      exact hT (by omega)
    · obtain ⟨w, w1, w2⟩ := q5 t (by omega)
      refine ⟨w, (q12 t c).trans w1, hE.tx w2 (fun i hi => c45 _ ?_)⟩
      have : 705 * t + 705 ≤ 705 * s 0 5 := by omega
      omega
theorem Ext.rfl : Ext N N := fun _ _ h => h
/-- the reference's text, behind its reading -/
theorem tx_r {t f : Nat} {υ1 : ST} (h1 : τ.1 643 1 = nI t) (ht : t < 4) (hr : g_X11_readText N 642 τ = some (nI f, υ1)) (hf : f ≤ 6) (h2 : υ1.1 643 1 = nI t) : g_X11_text N 642 τ = if f = 0 then some (nI t, setI (setI (setI (setI υ1 642 5 (nI 0)) 642 6 (-1)) 642 4 (nI 0)) 643 1 (nI (t + 1))) else some (-1, setI (setI (setI υ1 642 5 (nI f)) 642 6 (υ1.1 642 8)) 642 4 (nI 0)) := by
  have x1 : xI 4607 τ (642 + 1) (nI 1) = some (nI t) := by
    rw [xI_n (by omega) (by omega)]
    exact congrArg some h1
  unfold g_X11_text g_X11_text_0 g_X11_text_36
  rw [show (1 : Int32) = nI 1 from rfl, show (0 : Int32) = nI 0 from rfl, x1, bnd, show (4 : Int32) = nI 4 from rfl, if_neg (fun y => by have := (nI_eq (by omega) (by omega)).mp y; omega), hr, bnd, bnd]
  dsimp only
  have e5 : (setI υ1 642 5 (nI f)).1 642 5 = nI f := I_same rfl rfl
  have e8 : (setI υ1 642 5 (nI f)).1 642 8 = υ1.1 642 8 := I_col (by omega)
  rw [e5, e8]
  by_cases c : f = 0
  · subst c
    rw [if_pos rfl, if_pos rfl, bnd, bnd]
    have e5' : (setI (setI (setI υ1 642 5 (nI 0)) 642 6 (-nI 1)) 642 4 (nI 0)).1 642 5 = nI 0 := (I_col (by omega)).trans ((I_col (by omega)).trans e5)
    have x2 : xI 4607 (setI (setI (setI υ1 642 5 (nI 0)) 642 6 (-nI 1)) 642 4 (nI 0)) (642 + 1) (nI 1) = some (nI t) := by
      rw [xI_n (by omega) (by omega)]
      exact congrArg some ((I_row (by omega)).trans ((I_row (by omega)).trans ((I_row (by omega)).trans h2)))
    have x3 : xI 4607 (setI (setI (setI (setI υ1 642 5 (nI 0)) 642 6 (-nI 1)) 642 4 (nI 0)) (642 + 1) 1 (nI (t + 1))) (642 + 1) (nI 1) = some (nI (t + 1)) := by
      rw [xI_n (by omega) (by omega)]
      exact congrArg some (I_same rfl rfl)
    rw [e5', if_pos rfl, x2, bnd, nI_add, yI_n (by omega) (by omega), bnd, x3, bnd, pk_sub (by omega), Nat.add_sub_cancel]
  · rw [if_neg (fun y => c ((nI_eq (by omega) (by omega)).mp y)), if_neg c, bnd, bnd]
    have e5' : (setI (setI (setI υ1 642 5 (nI f)) 642 6 (υ1.1 642 8)) 642 4 (nI 0)).1 642 5 = nI f := (I_col (by omega)).trans ((I_col (by omega)).trans e5)
    rw [e5', if_neg (fun y => c ((nI_eq (by omega) (by omega)).mp y))]
theorem text_ok (h : Inv N σ s z) (hN : HN N B) (hF : FN N B) : ∃ r N' τ υ s', f_X10_text (B + 0) (put N B σ) = some (r, put N' B τ) ∧ f_X11_text (B + 642) (put N' B τ) = some (r, put N' B υ) ∧ Inv N' υ s' z ∧ HN N' B ∧ FN N' B ∧ (N'.1 ≤ N.1 + 6 ∧ N'.2.1 ≤ N.2.1 + 684) := by
  have hI := h
  obtain ⟨⟨h1, h2, h3⟩, ⟨h4, h5, h6⟩, ⟨tp, fl, t3, t4⟩, q1, q2, q3, q4, q5⟩ := h
  have s4 : s 0 5 ≤ 4 := h2.2.2.2.2.1
  have C10 := isC_10_at
  have C4 := sh_10_0 C10
  have g0 : ∀ (M : Mem) (ρ : ST), gR (put M B ρ) 10 (B + 0) 0 = some (B + (0 + 1)) := fun M ρ => gR_10_0 C10
  have g5 : ∀ (M : Mem) (ρ : ST), gI (put M B ρ) 4 (B + (0 + 1)) 5 = some (ρ.1 1 5) := fun M ρ => gI_4_5 C4
  have c5 : σ.1 1 5 = nI (s 0 5) := c_0_5 h1
  have r1 : σ.1 643 1 = nI (s 0 5) := r_1 h3
  unfold f_X10_text f_X10_text_0
  rw [if_pos (isOb_put C10), g0, bnd, g5, bnd, c5, show (4 : Int32) = nI 4 from rfl]
  by_cases c : s 0 5 < 4
  · rw [if_pos (nI_lt c (by omega)), gR_10_3 C10, bnd, l_X2_read hN (sh_10_3 C10)]
    obtain ⟨Bt, L, tb1, tb2, tb3⟩ := tape_b tp
    obtain ⟨σ1, υ0, F1, F2, R0⟩ := read_e (N := N) tb1 tb2 tb3 c r1
    have fx : ∀ a j, a < 593 ∨ (601 ≤ a) → σ1.1 a j = σ.1 a j := fun a j ha => F1.1 a j (by omega) (by omega) (by omega)
    have l1 : L ≤ 300 := tb2.1
    rcases R0 with ⟨e1, f, f1, f2, f3, f4, f5⟩ | ⟨e1, e2, ⟨e3, e4⟩, n, i, k, q, kc, on, ck, e5⟩
    · -- a fault
      rw [show g_X2_read N (0 + 595) σ = some (false, σ1) from e1, bnd, bnd]
      dsimp only
      rw [gR_10_2 C10, bnd, pF_7_1 (sh_10_2 C10), bnd, if_neg fnt]
      have T2 : BR Bt L (setI σ1 593 1 0) := tb3.f (fun j => (I_row (by omega)).trans (fx _ _ (by omega))) ((I_row (by omega)).trans (fx _ _ (by omega)))
      have r1' : (setI σ1 593 1 0).1 643 1 = nI (s 0 5) := (I_row (by omega)).trans ((fx _ _ (by omega)).trans r1)
      obtain ⟨σ2, υ2, G1, G2, ⟨y1, f', y2, y3, y4, y5, y6⟩ | ⟨y1, _⟩⟩ := read_e (N := N) tb1 tb2 T2 c r1'
      · have eσ : σ2 = σ1 := by
          rw [e1] at y1
          exact (congrArg Prod.snd (Option.some.inj y1)).symm
        rw [eσ] at y5 y6
        have ur : ∀ a j, ¬ (a = 642 ∧ 7 ≤ j ∧ j ≤ 19) → a ≠ 647 → a ≠ 645 → υ2.1 a j = (setI σ1 593 1 0).1 a j := fun a j p1 p2 p3 => G2.1 a j p1 p2 (by omega)
        have tr := tx_r (N := N) r1' c y4 y3 ((ur _ _ (by omega) (by omega) (by omega)).trans r1')
        rw [if_neg (by omega)] at tr
        generalize hυ : setI (setI (setI υ2 642 5 (nI f')) 642 6 (υ2.1 642 8)) 642 4 (nI 0) = υ at tr
        have uu : ∀ a j, ¬ (a = 642 ∧ (j = 4 ∨ j = 5 ∨ j = 6)) → υ.1 a j = υ2.1 a j := fun a j p => by
          rw [← hυ]
          exact (if_neg (by omega)).trans ((if_neg (by omega)).trans (if_neg (by omega)))
        have us1 : ∀ a j, a < 593 ∨ (601 ≤ a ∧ a ≠ 642 ∧ a ≠ 645 ∧ a ≠ 647) → υ.1 a j = σ.1 a j := fun a j p => (uu a j (by omega)).trans ((ur a j (by omega) (by omega) (by omega)).trans ((I_row (by omega)).trans (fx a j (by omega))))
        have uq : υ.2.2 = σ.2.2 := by
          rw [← hυ]
          exact G2.2.2.trans (congrArg Prod.snd F1.2)
        refine ⟨-1, N, setI σ1 593 1 0, υ, us s 0 5 (s 0 5), rfl, ?_, ?_, hN, hF, by omega, by omega⟩
        · rw [l_X11_text hN isC_11_at, tr, bnd]
        · refine inv_tx hI Ext.rfl (fun a j p1 p2 p3 => us1 a j (by omega)) ((us1 _ _ (by omega)).trans c5) (Or.inl rfl) ⟨(us1 _ _ (by omega)).trans r1, fun j _ => us1 _ _ (by omega)⟩ (fun j => us1 _ _ (by omega)) (fun a j p1 p2 => us1 _ _ (by omega)) ⟨?_, ?_⟩ ⟨?_, ?_⟩ ?_ (fun j hj => ?_) (fun j _ => by rw [uq]) (fun j => by rw [uq]) (fun w p hw => q1 _ w p (by rw [← uq]; exact hw)) (fun y => by omega)
          · rw [uu _ _ (by omega), ur _ _ (by omega) (by omega) (by omega)]
            exact I_same rfl rfl
          · rw [← hυ]
            exact I_same rfl rfl
          · rw [uu _ _ (by omega), ur _ _ (by omega) (by omega) (by omega), I_row (by omega), y5, ← hυ]
            exact ((I_col (by omega)).trans ((I_col (by omega)).trans (I_same rfl rfl))).symm
          · rw [uu _ _ (by omega), ur _ _ (by omega) (by omega) (by omega), I_row (by omega), y6, ← hυ]
            exact ((I_col (by omega)).trans (I_same rfl rfl)).symm
          · rw [uu _ _ (by omega), ur _ _ (by omega) (by omega) (by omega), I_row (by omega), fx _ _ (by omega)]
          · rw [uu _ _ (by omega), G2.1 _ _ (by omega) (by omega) (by omega), I_row (by omega), fx _ _ (by omega)]
      · rw [e1] at y1
        exact absurd (congrArg Prod.fst (Option.some.inj y1)) fnt
    · -- a text
      rw [show g_X2_read N (0 + 595) σ = some (true, σ1) from e1, bnd, bnd]
      dsimp only
      rw [gR_10_2 C10, bnd, pF_7_1 (sh_10_2 C10), bnd, if_pos rfl, g0, bnd, gR_4_4 C4, bnd, bnd, g5, bnd, gR_10_3 C10, bnd]
      have hL := tk_le e5.1
      have i3 : i ≤ 300 := by
        have := e5.2.2.2.1.2.1
        omega
      obtain ⟨N', g1, g2, g5', m1, m2, m3, m4, m5, m6, m7, m8, m9, m10, m11, m12, m13⟩ := cmpl_e (N := N) (B := B) (σ := setI σ1 593 1 0) (i := i) (n := n) hF.1 ((I_row (by omega)).trans e5.2.1.2.1) i3 ((I_row (by omega)).trans e5.2.1.2.2) e5.2.2.2.1.1
      have ob : isOb N' 8 N.1 = true := by
        unfold isOb
        rw [m6]
        rfl
      have ext : Ext N N' := by
        intro p x hx
        by_cases hp : p < N.1
        · rw [m4 p hp]
          exact hx
        · rw [hF.2 p (by omega)] at hx
          cases hx
      have hN' : HN N' B := by
        refine ⟨fun p p1 p2 => by rw [m4 p (by have := hF.1; omega)]; exact hN.1 p p1 p2, fun t k u hu => ?_⟩
        have hf1 := hF.1
        by_cases hp : t < N.1
        · refine hN.2 t k u (gR_g.mpr ?_)
          have hu := gR_g.mp hu
          unfold gF at hu ⊢
          rw [m4 t hp] at hu
          exact hu
        · by_cases hp2 : t = N.1
          · subst hp2
            have hu := gR_g.mp hu
            unfold gF at hu
            rw [m6] at hu
            have hu : ([.ref (N.1 + 1), .ref (N.1 + 2), .ref (N.1 + 3), .ref (N.1 + 4), .ref (N.1 + 5), .int (nI n)] : List Value)[k]? = some (.ref u) := hu
            match k, hu with
            | 0, hu => injection Option.some.inj hu with hu; have e : N.1 + 1 = u := hu; omega
            | 1, hu => injection Option.some.inj hu with hu; have e : N.1 + 2 = u := hu; omega
            | 2, hu => injection Option.some.inj hu with hu; have e : N.1 + 3 = u := hu; omega
            | 3, hu => injection Option.some.inj hu with hu; have e : N.1 + 4 = u := hu; omega
            | 4, hu => injection Option.some.inj hu with hu; have e : N.1 + 5 = u := hu; omega
            | 5, hu => cases hu
            | k + 6, hu => cases hu
          · exfalso
            have hu := gR_g.mp hu
            unfold gF at hu
            by_cases hp3 : N.1 + 6 ≤ t
            · rw [m5 t hp3, hF.2 t (by omega)] at hu
              cases hu
            · have : t = N.1 + 1 ∨ t = N.1 + 2 ∨ t = N.1 + 3 ∨ t = N.1 + 4 ∨ t = N.1 + 5 := by omega
              rcases this with rfl | rfl | rfl | rfl | rfl
              · rw [m7] at hu; cases hu
              · rw [m8] at hu; cases hu
              · rw [m9] at hu; cases hu
              · rw [m10] at hu; cases hu
              · rw [m11] at hu; cases hu
      have hF' : FN N' B := ⟨by have := hF.1; omega, fun p hp => by rw [m5 p (by omega)]; exact hF.2 p (by omega)⟩
      have m1' : f_X2_compiled (B + (0 + 595)) (put N B (setI σ1 (0 + 593) 1 0)) = some (some N.1, put N' B (setI σ1 593 1 0)) := m1
      rw [m1', bnd]
      have v5 : (setI σ1 593 1 0).1 1 5 = nI (s 0 5) := (I_row (by omega)).trans ((fx _ _ (by omega)).trans c5)
      have wq : wQ 3 8 (put N' B (setI σ1 593 1 0)) (B + (0 + 1 + 11)) (nI (s 0 5)) (some N.1) = some (put N' B (setQ (setI σ1 593 1 0) 12 (s 0 5) (some N.1))) := by
        rw [wQ_put hN' (sh_4_4 C4)]
        unfold yQ
        rw [if_neg (fun y => y.elim (nI_in c (by omega)) (fun y => y (fun v hv => by obtain rfl := Option.some.inj hv; exact ob))), nI_clamp (by omega)]
        rfl
      dsimp only
      rw [v5, wq, bnd, g0, bnd, g5, bnd]
      have v5' : (setQ (setI σ1 593 1 0) 12 (s 0 5) (some N.1)).1 1 5 = nI (s 0 5) := v5
      rw [v5', nI_1, pF_4_5 C4, bnd, g0, bnd, g5, bnd]
      generalize hτ : setI (setQ (setI σ1 593 1 0) 12 (s 0 5) (some N.1)) (0 + 1) 5 (nI (s 0 5 + 1)) = τ
      have tt : ∀ a j, ¬ (a = 593 ∧ j = 1) → ¬ (a = 1 ∧ j = 5) → τ.1 a j = σ1.1 a j := fun a j p1 p2 => by
        rw [← hτ]
        exact (if_neg (by omega)).trans (if_neg p1)
      have t5 : τ.1 1 5 = nI (s 0 5 + 1) := by
        rw [← hτ]
        exact I_same rfl rfl
      have t593 : τ.1 593 1 = nI 0 := by
        rw [← hτ]
        exact (I_row (by omega)).trans (show (setI σ1 593 1 0).1 593 1 = nI 0 from I_same rfl rfl)
      have tq : τ.2.2 = (setQ σ1 12 (s 0 5) (some N.1)).2.2 := by
        rw [← hτ]
        rfl
      rw [t5, show (1 : Int32) = nI 1 from rfl, pk_sub (by omega), Nat.add_sub_cancel]
      have T2 : BR Bt L τ := tb3.f (fun j => (tt _ _ (by omega) (by omega)).trans (fx _ _ (by omega))) ((tt _ _ (by omega) (by omega)).trans (fx _ _ (by omega)))
      have r1' : τ.1 643 1 = nI (s 0 5) := (tt _ _ (by omega) (by omega)).trans ((fx _ _ (by omega)).trans r1)
      obtain ⟨σ2, υ2, G1, G2, ⟨y1, _⟩ | ⟨y1, y2, _, n2, i2, k2, q2', kc2, on2, ck2, y5⟩⟩ := read_e (N := N') tb1 tb2 T2 c r1'
      · rw [← ni_g_X2_read (N := N) (N' := N'), e1] at y1
        exact absurd (congrArg Prod.fst (Option.some.inj y1)) tnf
      · have eσ : σ2 = σ1 := by
          rw [← ni_g_X2_read (N := N) (N' := N'), e1] at y1
          exact (congrArg Prod.snd (Option.some.inj y1)).symm
        rw [eσ] at y5
        have hL2 := tk_le y5.1
        have ei : i2 = i := by
          have b1 := y5.2.2.2.1.2.1
          exact (nI_eq (by omega) (by omega)).mp (y5.2.1.2.1.symm.trans e5.2.1.2.1)
        have en : n2 = n := by
          have b1 := y5.2.2.2.1.1
          have b2 := e5.2.2.2.1.1
          exact (nI_eq (by omega) (by omega)).mp (y5.2.1.2.2.symm.trans e5.2.1.2.2)
        rw [ei, en] at y5
        have ur : ∀ a j, ¬ (a = 642 ∧ 7 ≤ j ∧ j ≤ 19) → a ≠ 647 → a ≠ 645 → υ2.1 a j = τ.1 a j := fun a j p1 p2 p3 => G2.1 a j p1 p2 (by omega)
        have tr := tx_r (N := N') (f := 0) r1' c y2 (by omega) ((ur _ _ (by omega) (by omega) (by omega)).trans r1')
        rw [if_pos rfl] at tr
        generalize hυ : setI (setI (setI (setI υ2 642 5 (nI 0)) 642 6 (-1)) 642 4 (nI 0)) 643 1 (nI (s 0 5 + 1)) = υ at tr
        have uu : ∀ a j, ¬ (a = 642 ∧ (j = 4 ∨ j = 5 ∨ j = 6)) → ¬ (a = 643 ∧ j = 1) → υ.1 a j = υ2.1 a j := fun a j p p2 => by
          rw [← hυ]
          exact (if_neg (by omega)).trans ((if_neg (by omega)).trans ((if_neg (by omega)).trans (if_neg (by omega))))
        have us1 : ∀ a j, a < 593 ∨ (601 ≤ a ∧ a ≠ 642 ∧ a ≠ 645 ∧ a ≠ 647) → ¬ (a = 1 ∧ j = 5) → ¬ (a = 643 ∧ j = 1) → υ.1 a j = σ.1 a j := fun a j p p1 p2 => (uu a j (by omega) p2).trans ((ur a j (by omega) (by omega) (by omega)).trans ((tt a j (by omega) p1).trans (fx a j (by omega))))
        have uq : υ.2.2 = (setQ σ1 12 (s 0 5) (some N.1)).2.2 := by
          rw [← hυ]
          exact G2.2.2.trans tq
        have sq : σ1.2.2 = σ.2.2 := congrArg Prod.snd F1.2
        have u12 : υ.2.2 12 (s 0 5) = some N.1 := by
          rw [uq]
          exact if_pos ⟨rfl, rfl⟩
        refine ⟨nI (s 0 5), N', τ, υ, us s 0 5 (s 0 5 + 1), rfl, ?_, ?_, hN', hF', by omega, ?_⟩
        · rw [l_X11_text hN' isC_11_at, tr, bnd]
        · refine inv_tx hI ext (fun a j p1 p2 p3 => us1 a j (by omega) p3 (by omega)) ?_ (Or.inr ⟨rfl, by omega⟩) ⟨?_, fun j hj => us1 _ _ (by omega) (by omega) (by omega)⟩ (fun j => us1 _ _ (by omega) (by omega) (by omega)) (fun a j p1 p2 => us1 _ _ (by omega) (by omega) (by omega)) ⟨?_, ?_⟩ ⟨?_, ?_⟩ ?_ (fun j hj => ?_) (fun j hj => ?_) (fun j => ?_) (fun w p hw => ?_) (fun _ => ⟨N.1, u12, ?_⟩)
          · rw [uu _ _ (by omega) (by omega), ur _ _ (by omega) (by omega) (by omega)]
            exact t5
          · rw [← hυ]
            exact I_same rfl rfl
          · rw [uu _ _ (by omega) (by omega), ur _ _ (by omega) (by omega) (by omega)]
            exact t593
          · rw [← hυ]
            exact (I_row (by omega)).trans (I_same rfl rfl)
          · rw [uu _ _ (by omega) (by omega), ur _ _ (by omega) (by omega) (by omega), tt _ _ (by omega) (by omega), e3, ← hυ]
            exact ((I_row (by omega)).trans ((I_col (by omega)).trans ((I_col (by omega)).trans (I_same rfl rfl)))).symm
          · rw [uu _ _ (by omega) (by omega), ur _ _ (by omega) (by omega) (by omega), tt _ _ (by omega) (by omega), e4, ← hυ]
            exact ((I_row (by omega)).trans ((I_col (by omega)).trans (I_same rfl rfl))).symm
          · rw [uu _ _ (by omega) (by omega), ur _ _ (by omega) (by omega) (by omega), tt _ _ (by omega) (by omega), fx _ _ (by omega)]
          · rw [uu _ _ (by omega) (by omega), G2.1 _ _ (by omega) (by omega) (by omega), tt _ _ (by omega) (by omega), fx _ _ (by omega)]
          · rw [uq, ← sq]
            exact if_neg (fun y : 12 = 12 ∧ j = s 0 5 => hj y.2)
          · rw [uq, ← sq]
            show (if 308 = 12 ∧ j = s 0 5 then some N.1 else σ1.2.2 308 j) = _
            rw [if_neg (by omega)]
          · rw [u12] at hw
            obtain rfl := Option.some.inj hw
            exact ob
          · have e645 : (fun i => υ.1 645 (705 * s 0 5 + i)) = fun i => υ2.1 645 (705 * s 0 5 + i) := funext fun i => uu _ _ (by omega) (by omega)
            rw [e645]
            have e598 : (setI σ1 593 1 0).1 598 = σ1.1 598 := funext fun j => I_row (by omega)
            have e599 : (setI σ1 593 1 0).1 599 = σ1.1 599 := funext fun j => I_row (by omega)
            rw [e598] at m9
            rw [e599] at m10
            exact made y5 m6 m7 m8 m9 m10 m11 (fun q hq => ⟨(m12 q hq).1.trans (I_row (by omega)), (m12 q hq).2.trans (I_row (by omega))⟩) (fun q hq => (m13 q hq).trans (I_row (by omega)))
        · have b2 := e5.2.2.2.1.1
          omega
  · have c4 : s 0 5 = 4 := by omega
    rw [if_neg (nI_nlt (by omega) (by omega))]
    refine ⟨-1, N, σ, σ, s, rfl, ?_, hI, hN, hF, by omega, by omega⟩
    rw [l_X11_text hN isC_11_at]
    have x1 : xI 4607 σ (642 + 1) (nI 1) = some (nI 4) := by
      rw [xI_n (by omega) (by omega), ← c4]
      exact congrArg some r1
    unfold g_X11_text g_X11_text_0
    rw [show (1 : Int32) = nI 1 from rfl, x1, bnd, show (4 : Int32) = nI 4 from rfl, if_pos rfl, bnd]
end TXK
