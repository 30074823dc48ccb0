/-! comparisons, not; all readers together -/
section ASK2
variable {N : Mem} {σ σ' σ1 σ2 τ υ υ' υ1 υ2 υ3 υ'' : ST} {B : Nat → Nat} {L q q1 q2 q3 kc kc1 kc2 kx t lw o oc o1 j j2 l l1 l2 k k1 k' i i1 i' x v w a a' m m' d d' c c0 f e : Nat} {p pend : List Nat} {b vb : Bool} {rec : RCX}
theorem cmo_b (h : cmo kc = some c) : 10 ≤ c ∧ c ≤ 15 ∧ kmo c = kc ∧ kc ≤ 40 := by
  unfold cmo at h
  repeat' split at h
  all_goals first | (cases h; done) | (obtain rfl := Option.some.inj h; refine ⟨by omega, by omega, ?_, by omega⟩; subst kc; rfl)
theorem cmo_n : cmo kc = none ↔ ¬ ((28 ≤ kc ∧ kc ≤ 31) ∨ kc = 39 ∨ kc = 40) := by
  unfold cmo
  constructor
  · intro h
    repeat' split at h
    all_goals first | (cases h; done) | omega
  · intro h
    rw [if_neg (by omega), if_neg (by omega), if_neg (by omega), if_neg (by omega), if_neg (by omega), if_neg (by omega)]
theorem cmp_0 (h : topr p ≤ 3) : cmpd p = false := by
  cases p with
  | nil => rfl
  | cons x p =>
    have h : rkO x ≤ 3 := h
    unfold cmpd
    rw [if_pos (by omega), decide_eq_false (by omega)]
theorem rk_c (h1 : 10 ≤ c) (h2 : c ≤ 15) : rkO c = 4 ∧ srO c = 5 := by
  have : rkO c = 4 := by
    unfold rkO
    rw [if_neg (by omega), if_neg (by omega), if_neg (by omega), if_neg (by omega), if_pos h1]
  refine ⟨this, ?_⟩
  unfold srO
  rw [if_pos this]
theorem comp_e (h8 : K8 N rec o) (h : PRE B L t lw σ υ q kc o i k p 2) (hk : kc ≠ 26) (ho41 : opn p = some 41) (htop : topr p ≤ 3) : CT (gb_X2_readComparison_0 N rec 595 σ) (OKA N B L t lw 4 o true σ υ q i k p) (BAD N L t σ υ q k) := by
  obtain ⟨hS, ht, hlw, ho, hl⟩ := h
  unfold gb_X2_readComparison_0
  obtain ⟨σ', ⟨e1, q', kc', hO, hR⟩ | ⟨e1, e2⟩⟩ := h8 B L t lw σ υ q kc i k p ⟨hS, ht, hlw, ho, by omega⟩ (fun y => absurd y hk) (by omega)
  · rw [e1, bnd, if_pos rfl]
    have hOO := hO
    obtain ⟨f1, υ', υ2, j, l, pend, o1, l1, g1, g2, g3, g4, g5, g6, g7, g8, ⟨s1, s2, s3, s4, s5⟩, g9, g10, g11⟩ := hO
    have hkb := kd_b g7
    have hL := tk_le g7
    have c3 : σ'.1 593 2 = nI kc' := g7.2.1.2.2.1
    have hrn := hR.n (by omega)
    have bwc : ∀ pend, (∀ x, x ∈ pend → 5 ≤ rkO x) → bwo kc' (pend ++ p) = cmo kc' := by
      intro pend h3
      unfold bwo
      rw [if_neg (by omega), if_neg (by omega), if_neg (by omega), if_neg (by omega), opn_a (rk_5 h3 (by omega)), if_pos ho41, cmp_a h3, cmp_0 htop, if_neg (by first | decide | exact tnf | exact fnt)]
    cases hc : cmo kc' with
    | some c =>
      obtain ⟨c1, c2, c4, c5⟩ := cmo_b hc
      obtain ⟨rk4, sr5⟩ := rk_c c1 c2
      have e46 : (f_X10_within (σ'.1 593 2) 28 31).bind (fun v5 => if v5 = true then gb_X2_readComparison_46 N rec 595 (σ'.1 593 2) σ' else if (σ'.1 593 2) = 39 then gb_X2_readComparison_46 N rec 595 (σ'.1 593 2) σ' else if (σ'.1 593 2) = 40 then gb_X2_readComparison_46 N rec 595 (σ'.1 593 2) σ' else (g_X2_refuse N 595 1 σ').bind fun r6 => some (r6.1, r6.2)) = gb_X2_readComparison_46 N rec 595 (nI kc') σ' := by
        rw [c3, wi10, bnd]
        have hn : ¬ cmo kc' = none := by rw [hc]; exact fun y => by cases y
        rw [cmo_n] at hn
        by_cases d1 : 28 ≤ kc' ∧ kc' ≤ 31
        · rw [show (28 : Int32) = nI 28 from rfl, show (31 : Int32) = nI 31 from rfl, in_t d1.1 d1.2 (by omega), if_pos rfl]
        · rw [show (28 : Int32) = nI 28 from rfl, show (31 : Int32) = nI 31 from rfl, in_f (fun y => d1 ⟨(nI_leI (by omega) (by omega)).mp y.1, (nI_leI (by omega) (by omega)).mp y.2⟩), if_neg (by first | decide | exact tnf | exact fnt), show (39 : Int32) = nI 39 from rfl, show (40 : Int32) = nI 40 from rfl]
          by_cases d2 : kc' = 39
          · rw [if_pos (by rw [d2])]
          · have d3 : kc' = 40 := by
              apply Decidable.byContradiction
              intro y
              exact hn (by omega)
            rw [if_neg (fun y => d2 ((nI_eq (by omega) (by omega)).mp y)), if_pos (by rw [d3])]
      refine Eq.mpr (congrArg (fun z => CT z (OKA N B L t lw 4 o true σ υ q i k p) (BAD N L t σ υ q k)) e46) ?_
      unfold gb_X2_readComparison_46
      have lc : (c :: p).length = p.length + 1 := rfl
      obtain ⟨τ, b1, ⟨σ2, b2, b3⟩ | ⟨σ2, v, σ3, q2, kc2, b2, b3, b4, b5, b6, b7⟩⟩ := bin_step (rr := rec 8 595 0) (x := kc') (c := c) (vc := true) (a2 := 4) (a' := 5) hOO ht (fun pend h3 _ => (bwc pend h3).trans hc) (by omega) rk4 (by omega) (by omega) (by omega) (by omega) (by omega) (fun O P C D i j k l j' l' v1 v2 y1 y2 => ⟨fun y => (by cases y), fun _ => VB.cmp (v1.1 rfl) (v2.1 rfl) c1 c2 (by rw [c4]; exact y1) y2⟩) (fun _ pend h3 _ => by rw [cmp_a h3]; unfold cmpd; rw [if_pos (by omega), decide_eq_true rk4]) (fun τ υ3 q3 kc3 j l S3 => h8 B L t lw τ υ3 q3 kc3 j l (c :: p) ⟨S3, ht, hlw, ho, by omega⟩ (fun _ y => by have : rkO c ≤ 3 := y.2; omega) (by show rkO c < 5; omega))
      · obtain ⟨v, σ3, o1, o2, o3, o4⟩ := ord_any (N := N) (nI kc') (nI 0) σ2
        refine ⟨σ3, Or.inr ⟨?_, b3.post o2 o3 o4⟩⟩
        rw [b1, bnd, b2, bnd]
        show ((g_X2_order N 595 (nI kc') (nI 0) σ2).bind _) = _
        rw [o1, bnd]
      · refine ⟨σ3, Or.inl ⟨?_, q2, kc2, b4, fun _ => b5.1 (by omega), fun _ => b5.2.1 (by omega), by omega, by omega⟩⟩
        rw [b1, bnd, b2, bnd]
        show ((g_X2_order N 595 (nI kc') (nI 0) σ2).bind _) = _
        rw [b3, bnd]
    | none =>
      have hn := cmo_n.mp hc
      refine ⟨rfS 1 σ', Or.inr ⟨?_, (BAD.r (t := t) (k := k) g7 (by omega) (by omega) (bh_1 g7 g3 (by omega) ((bwc pend g4).trans hc) ?_ ?_)).pre g2 (by omega) (by omega) g8 (Nat.le_refl _) f1⟩⟩
      · rw [c3, wi10, bnd, show (28 : Int32) = nI 28 from rfl, show (31 : Int32) = nI 31 from rfl, in_f (fun y => hn (Or.inl ⟨(nI_leI (by omega) (by omega)).mp y.1, (nI_leI (by omega) (by omega)).mp y.2⟩)), if_neg (by first | decide | exact tnf | exact fnt), show (39 : Int32) = nI 39 from rfl, show (40 : Int32) = nI 40 from rfl, if_neg (fun y => by have := (nI_eq (by omega) (by omega)).mp y; omega), if_neg (fun y => by have := (nI_eq (by omega) (by omega)).mp y; omega), show (1 : Int32) = nI 1 from rfl, rf_e, bnd]
      · unfold pto
        rw [opn_a (rk_5 g4 (by omega)), ho41, if_neg (by first | decide | exact tnf | exact fnt), if_pos rfl, if_neg (fun y => by have := y.2; rw [cmp_a g4, cmp_0 htop] at this; cases this)]
      · rw [opn_a (rk_5 g4 (by omega)), ho41]
        exact fun y => by cases y
  · rw [e1, bnd, if_neg (by first | decide | exact tnf | exact fnt)]
    exact ⟨σ', Or.inr ⟨rfl, e2⟩⟩
theorem ask2_e (h3 : K3 N rec o) (h0 : o < 8 → K0 N rec (o + 1)) (h : PRE B L t lw σ υ q kc o i k p 2) (ho41 : opn p = some 41) (htop : topr p ≤ 3) : CT (gb_X2_readAsk_0 N rec 595 σ) (OKA N B L t lw 3 o true σ υ q i k p) (BAD N L t σ υ q k) := by
  have hP := h
  obtain ⟨⟨T, C, R, b1, b2⟩, ht, hlw, ho, hl⟩ := h
  have hL := tk_le T
  have hkb := kd_b T
  unfold gb_X2_readAsk_0
  rw [T.2.1.2.2.1, C.2.1, show (26 : Int32) = nI 26 from rfl]
  have k26 := keq hkb 26 (by omega)
  by_cases c26 : kc = 26
  · rw [if_pos (k26.mpr c26)]
    have hq := tk_lt T (by omega)
    have hbg := bg_oth (N := N) T (by omega) (by omega)
    obtain ⟨dd, x1, x2⟩ := ask_e (N := N) R (by omega)
    have hd : dd = true := x2.mpr ⟨ho41, htop⟩
    rw [if_neg (by omega), if_pos c26, x1, bnd, hd, if_neg (by first | decide | exact tnf | exact fnt)] at hbg
    rw [show (8 : Int32) = nI 8 from rfl]
    by_cases c : o < 8
    · rw [if_pos (nI_lt c (by omega)), bnd, nI_1]
      obtain ⟨O1, O2, O3⟩ := op_e (N := N) (c := 20) R c (by omega) (by omega)
      obtain ⟨τ, υ', q', kc', g1, g2, g3, g4, g5, g6, g7⟩ := tk_go2 (N := N) (setO_t (o := o + 1) (T.pp O3)) O2 (by omega)
      rw [g2, bnd] at O1
      rw [O1] at hbg
      have go : Go N 1 υ υ' := be_g R.2.2.2.2.2.1 hbg
      have fr : FRr t k υ υ' := O3.r.tr g7 (by omega)
      have hL' := tk_le g3
      have lc : (20 :: p).length = p.length + 1 := rfl
      rw [g1, bnd]
      have S' : S2 B L t lw τ υ' q' kc' (o + 1) (o + 1) i k (20 :: p) false := ⟨g3, (setO_r C).fr g5, g6, by omega, by omega⟩
      have fc : FCc i σ τ := setO_f.tr g5.cc (Nat.le_refl _)
      obtain ⟨σ', ⟨e1, q2, kc2, e2, e3⟩ | ⟨e1, e2⟩⟩ := h0 c B L t lw τ υ' q' kc' i k (20 :: p) ⟨S', ht, hlw, by omega, by omega⟩ ho41 (by show rkO 20 ≤ 3; decide)
      · obtain ⟨υ4, υb, j2, l2, pend2, o2, l3, y1, y2, y3, y4, y5, y6, y7, y8, y9, y10, y11, y12, y13, y14, y15, y16, y17, y18, y19⟩ := okl_pop (a := 3) e2 (Nat.le_refl _) (by decide) (by omega) ht (by omega)
        have hL2 := tk_le y8
        rw [if_pos (Or.inr rfl)] at y11
        have R1 : RDc (setI σ' 595 4 (nI o)) lw o j2 := setO_r y10
        obtain ⟨r1, r2, r3⟩ := ord_r (x := 26) (v := 0) R1
        have EC := y13.cc (by omega) (by omega)
        have hj := y12.2.2.1
        have hll := y12.2.2.2.1
        have seg : SG true t (ordS j2 26 0 (setI σ' 595 4 (nI o))) υb i j2 k l2 := y12.fr (setO_f.tr ord_f (Nat.le_refl _)) FRr.rfl
        refine ⟨ordS j2 26 0 (setI σ' 595 4 (nI o)), Or.inl ⟨?_, q2, kc2, ⟨((fc.tr y1 (Nat.le_refl _)).tr setO_f (Nat.le_refl _)).tr ord_f hj, υ4, υb, j2 + 1, l2 + 1, pend2 ++ [20], o2, l3, by omega, (go.tr y3).wk (by omega), y4, y5, y6, y7, ord_t (setO_t y8), fr.tr y15 (Nat.le_refl _), ⟨ord_t (setO_t y9), r1, y11, by omega, by omega⟩, ⟨fun y => (by cases y), fun _ => VB.not (seg.2.1 rfl) ?_ EC.1, by omega, by omega, seg.2.2.2.2.1.tr (OB.on r2 r3 (by omega) (by omega)), seg.2.2.2.2.2.tr (RB.on y13 (by omega) (by omega) (by omega))⟩, fr.tr y14 (Nat.le_refl _), y16⟩, e3⟩⟩
        · rw [e1, bnd, bnd]
          show ((g_X2_order N 595 (nI 26) (nI 0) (setI σ' 595 4 (σ'.1 595 4 - 1))).bind _) = _
          rw [y10.2.1, nI_pred, ord_e R1.2.2 (by omega), bnd]
        · unfold cO
          rw [r2, nI_clamp (by omega)]
      · obtain ⟨v, σ3, o1, o2, o3, o4⟩ := ord_any (N := N) (nI 26) (nI 0) (setI σ' 595 4 (σ'.1 595 4 - 1))
        refine ⟨σ3, Or.inr ⟨?_, ((e2.pre (go.wk (by omega)) (by omega) (by omega) fr (Nat.le_refl _) fc).post (σ' := setI σ' 595 4 (σ'.1 595 4 - 1)) ⟨fun a j q1 q2 q3 => if_neg (by omega), rfl⟩ (I_col (by omega)) (I_col (by omega))).post o2 o3 o4⟩⟩
        rw [e1, bnd, bnd]
        show ((g_X2_order N 595 (nI 26) (nI 0) (setI σ' 595 4 (σ'.1 595 4 - 1))).bind _) = _
        rw [o1, bnd]
    · obtain rfl : o = 8 := by omega
      rw [if_neg (by first | decide | exact tnf | exact fnt), show (3 : Int32) = nI 3 from rfl, rf_e, bnd]
      refine ⟨_, Or.inr ⟨rfl, BAD.r T (by omega) (by omega) (be_f R.2.2.2.2.2.1 ?_ (by omega) (by omega))⟩⟩
      rw [hbg, op_8 R.2.2.2.2.1]
  · rw [if_neg (fun y => c26 (k26.mp y)), et]
    obtain ⟨σ', ⟨e1, q2, kc2, e2, e3⟩ | ⟨e1, e2⟩⟩ := h3 B L t lw σ υ q kc i k p hP c26 ho41 htop
    · exact ⟨σ', Or.inl ⟨e1, q2, kc2, okl_d e2 (by omega), fun _ => e3.1 (by omega), fun _ => e3.2.1 (by omega), by omega, by omega⟩⟩
    · exact ⟨σ', Or.inr ⟨e1, e2⟩⟩
theorem rd_all (N : Mem) : ∀ g o, o ≤ 8 → (9 * (8 - o) + 1 ≤ g → K5 N (grd N g) o) ∧ (9 * (8 - o) + 2 ≤ g → K7 N (grd N g) o) ∧ (9 * (8 - o) + 3 ≤ g → K8 N (grd N g) o) ∧ (9 * (8 - o) + 4 ≤ g → K3 N (grd N g) o) ∧ (9 * (8 - o) + 5 ≤ g → K0 N (grd N g) o) ∧ (9 * (8 - o) + 6 ≤ g → K1 N (grd N g) o) ∧ (9 * (8 - o) + 7 ≤ g → K4 N (grd N g) o) ∧ (o < 8 → 9 * (8 - o) ≤ g → K6 N (grd N g) o) ∧ (o < 8 → 9 * (8 - o) ≤ g + 1 → K2 N (grd N g) o) := by
  intro g
  induction g with
  | zero =>
    intro o ho
    refine ⟨?_, ?_, ?_, ?_, ?_, ?_, ?_, ?_, ?_⟩
    all_goals intros
    all_goals omega
  | succ g ih =>
    intro o ho
    have I := ih o ho
    refine ⟨fun h => ?_, fun h => ?_, fun h => ?_, fun h => ?_, fun h => ?_, fun h => ?_, fun h => ?_, fun h1 h => ?_, fun h1 h => ?_⟩
    · intro B L t lw σ υ q kc i k p hP hk
      exact one_e (rec := grd N g) (fun h8 => I.2.2.2.2.2.2.2.1 h8 (by omega)) hP hk
    · intro B L t lw σ υ q kc i k p hP hk ht
      exact prod_e (rec := grd N g) (I.1 (by omega)) hP hk ht
    · intro B L t lw σ υ q kc i k p hP hk ht
      exact sum_e (rec := grd N g) (I.2.1 (by omega)) hP hk ht
    · intro B L t lw σ υ q kc i k p hP hk ho41 ht
      exact comp_e (rec := grd N g) (I.2.2.1 (by omega)) hP hk ho41 ht
    · intro B L t lw σ υ q kc i k p hP ho41 ht
      exact ask2_e (rec := grd N g) (I.2.2.2.1 (by omega)) (fun h8 => (ih (o + 1) (by omega)).2.2.2.2.1 (by omega)) hP ho41 ht
    · intro B L t lw σ υ q kc i k p hP ho41 ht
      exact both_e (rec := grd N g) (I.2.2.2.2.1 (by omega)) hP ho41 ht
    · intro B L t lw σ υ q kc i k p hP ho41 ht
      exact eith_e (rec := grd N g) (I.2.2.2.2.2.1 (by omega)) hP ho41 ht
    · intro B L t lw σ υ q kc i k p kx hS ht hlw ho8 hl hk
      exact opd_e (rec := grd N g) ((ih (o + 1) (by omega)).2.2.1 (by omega)) (I.2.2.2.2.2.2.2.2 h1 (by omega)) ((ih (o + 1) (by omega)).1 (by omega)) hS ht hlw ho8 hl hk
    · intro B L t lw σ υ q kc i k p hS ht hlw ho8 hl
      exact cho_e (rec := grd N g) ((ih (o + 1) (by omega)).2.2.2.2.2.2.1 (by omega)) ((ih (o + 1) (by omega)).2.2.1 (by omega)) hS ht hlw ho8 hl
end ASK2
