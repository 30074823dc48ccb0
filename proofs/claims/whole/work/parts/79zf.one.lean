/-! one -/
abbrev RCX : Type := Nat → Nat → Int32 → ST → Option (Bool × ST)
def PRE (B : Nat → Nat) (L t lw : Nat) (σ υ : ST) (q kc o i k : Nat) (p : List Nat) (c : Nat) : Prop := S2 B L t lw σ υ q kc o o i k p false ∧ t < 4 ∧ lw < 3 ∧ o ≤ 8 ∧ p.length ≤ 7 * o + c
def K5 (N : Mem) (rec : RCX) (o : Nat) : Prop := ∀ B L t lw σ υ q kc i k p, PRE B L t lw σ υ q kc o i k p 5 → (kc = 26 → ¬ askA p) → CT (rec 5 595 0 σ) (OK7 N B L t lw o o σ υ q i k p) (BAD N L t σ υ q k)
def K7 (N : Mem) (rec : RCX) (o : Nat) : Prop := ∀ B L t lw σ υ q kc i k p, PRE B L t lw σ υ q kc o i k p 4 → (kc = 26 → ¬ askA p) → topr p < 6 → CT (rec 7 595 0 σ) (OKA N B L t lw 6 o false σ υ q i k p) (BAD N L t σ υ q k)
def K8 (N : Mem) (rec : RCX) (o : Nat) : Prop := ∀ B L t lw σ υ q kc i k p, PRE B L t lw σ υ q kc o i k p 3 → (kc = 26 → ¬ askA p) → topr p < 5 → CT (rec 8 595 0 σ) (OKA N B L t lw 5 o false σ υ q i k p) (BAD N L t σ υ q k)
def K3 (N : Mem) (rec : RCX) (o : Nat) : Prop := ∀ B L t lw σ υ q kc i k p, PRE B L t lw σ υ q kc o i k p 2 → kc ≠ 26 → opn p = some 41 → topr p ≤ 3 → CT (rec 3 595 0 σ) (OKA N B L t lw 4 o true σ υ q i k p) (BAD N L t σ υ q k)
def K0 (N : Mem) (rec : RCX) (o : Nat) : Prop := ∀ B L t lw σ υ q kc i k p, PRE B L t lw σ υ q kc o i k p 2 → opn p = some 41 → topr p ≤ 3 → CT (rec 0 595 0 σ) (OKA N B L t lw 3 o true σ υ q i k p) (BAD N L t σ υ q k)
def K1 (N : Mem) (rec : RCX) (o : Nat) : Prop := ∀ B L t lw σ υ q kc i k p, PRE B L t lw σ υ q kc o i k p 1 → opn p = some 41 → topr p < 2 → CT (rec 1 595 0 σ) (OKA N B L t lw 2 o true σ υ q i k p) (BAD N L t σ υ q k)
def K4 (N : Mem) (rec : RCX) (o : Nat) : Prop := ∀ B L t lw σ υ q kc i k p, PRE B L t lw σ υ q kc o i k p 0 → opn p = some 41 → topr p < 1 → CT (rec 4 595 0 σ) (OKA N B L t lw 1 o true σ υ q i k p) (BAD N L t σ υ q k)
def K6 (N : Mem) (rec : RCX) (o : Nat) : Prop := ∀ B L t lw σ υ q kc i k p kx, S2 B L t lw σ υ q kc (o + 1) (o + 1) i k (opc kx :: p) false → t < 4 → lw < 3 → o < 8 → p.length ≤ 7 * o + 5 → (kx = 36 ∨ kx = 33 ∨ kx = 18 ∨ kx = 19 ∨ kx = 20) → CT (rec 6 595 (nI kx) σ) (OK7 N B L t lw o (o + 1) σ υ q i k p) (BAD N L t σ υ q k)
def K2 (N : Mem) (rec : RCX) (o : Nat) : Prop := ∀ B L t lw σ υ q kc i k p, S2 B L t lw σ υ q kc (o + 1) (o + 1) i k (41 :: p) false → t < 4 → lw < 3 → o < 8 → p.length ≤ 7 * o + 5 → CT (rec 2 595 0 σ) (OK7 N B L t lw o (o + 1) σ υ q i k p) (BAD N L t σ υ q k)
section ONE
variable {N : Mem} {σ σ' σ1 σ2 τ υ υ' υ1 υ2 υ3 υ'' : ST} {B : Nat → Nat} {L q q1 q2 q3 kc kc1 kc2 t lw o oc o1 j j2 l l1 l2 k k1 k' i i1 i' x v w a a' m m' d d' c c0 f : Nat} {p pend : List Nat} {b vb : Bool} {rec : RCX}
theorem st_7 (h : ∀ n, g_X11_settle_0 N (n + d) 642 (nI 7) υ2 = some υ3) (hd : d ≤ 200) : g_X11_settle N 642 7 υ2 = some υ3 := by
  unfold g_X11_settle
  obtain ⟨z, hz⟩ : ∃ z, fu = z + d := ⟨1000000 - d, by unfold fu; omega⟩
  rw [hz]
  exact h z
theorem wh_r (h : RDr υ t lw o k p b) (b' : Bool) : RDr (setI υ 642 18 (jz b')) t lw o k p b' ∧ FRp t k' υ (setI υ 642 18 (jz b')) := by
  obtain ⟨h1, h2, h3, h4, h5, h6, h7⟩ := h
  refine ⟨⟨?_, ?_, ?_, ?_, ?_, I_same rfl rfl, h7.fr (fun j _ => I_row (by omega))⟩, ⟨fun a j q1 q2 q3 => if_neg (by omega), rfl⟩⟩
  all_goals simp (disch := omega) only [I_col]
  all_goals assumption
theorem leaf (h : S2 B L t lw σ υ q kc o oc i k p false) (ht : t < 4) (hl : p.length ≤ 70) (hk : kc ≠ 41) (hx : x ≤ 43) (hw : w ≤ 9999) (hc : c = 0 ∨ c = 1) (hv : v ≤ 9999) (h8 : c = 1 → v < 8) (hV : ∀ O P C D : Nat → Nat, O i = x → P i = w → C k = c → D k = v → VL O P C D i (i + 1) k (k + 1)) (hb : g_X11_beginOne N 642 υ = g_X11_beginOne_81 N 642 (nI v) (decide (c = 1)) 642 υ) : ∃ τ, g_X2_order N 595 (nI x) (nI w) σ = some (nI i, ordS i x w σ) ∧ g_X7_advance N 593 (ordS i x w σ) = some τ ∧ OK7 N B L t lw o oc σ υ q i k p τ := by
  obtain ⟨T, C, R, b1, b2⟩ := h
  have hq := tk_lt T hk
  have hL := tk_le T
  have E1 := em_r (x := c) (v := v) R
  have F1 : FRp t k υ (emS t k c v υ) := em_f (by omega)
  have O1 := ord_r (x := x) (v := w) C
  obtain ⟨τ, υ', q', kc', g1, g2, g3, g4, g5, g6, g7⟩ := tk_go2 (N := N) (ord_t (i := i) (x := x) (v := w) (T.pp F1)) E1.1 hk
  obtain ⟨R2, F2⟩ := wh_r (k' := k) g6 true
  have fr : FRr t k υ (setI υ' 642 18 (jz true)) := (F1.r.tr g7 (by omega)).tr F2.r (Nat.le_refl _)
  have EM2 : EM t (setI υ' 642 18 (jz true)) k c v := by
    have E := E1.2 (by omega)
    refine ⟨(I_row (by omega)).trans ((g7.1 _ _ (by omega) (by omega) (by omega)).trans E.1), (I_row (by omega)).trans ((g7.1 _ _ (by omega) (by omega) (by omega)).trans E.2)⟩
  have t1 : τ.1 596 i = nI x := (g5.1 _ _ (by omega)).trans O1.2.1
  have t2 : τ.1 597 i = nI w := (g5.1 _ _ (by omega)).trans O1.2.2
  have EC := EM2.cc (by omega) (by omega)
  refine ⟨τ, ord_e C.2.2 (by omega), g1, ord_f.tr g5.cc (Nat.le_refl _), setI υ' 642 18 (jz true), q', kc', i + 1, k + 1, g4, ⟨g3.pp F2, O1.1.fr g5, R2, by omega, by omega⟩, ⟨fun _ => hV _ _ _ _ ?_ ?_ EC.1 EC.2, fun y => (by cases y), by omega, by omega, OB.on t1 t2 hx hw, RB.on EM2 (by omega) hv h8⟩, fr, fun d υ3 hd hs => (be_g R.2.2.2.2.2.1 ?_).wk (by omega)⟩
  · unfold cO
    rw [t1, nI_clamp (by omega)]
  · unfold cP
    rw [t2, nI_clamp (by omega)]
  · have st := st_7 hs (by omega)
    have ec : jz (decide (c = 1)) = nI c := by
      rcases hc with rfl | rfl
      · rfl
      · rfl
    rw [hb]
    unfold g_X11_beginOne_81
    rw [ec, em_e R.1 R.2.1 ht (by omega), bnd, g2, bnd, bnd, st, bnd]
theorem setO_f : FCc i σ (setI σ 595 4 (nI o)) := ⟨fun a j q1 q2 q3 => if_neg (by omega), rfl⟩
theorem setO_r (h : RDc σ lw oc i) : RDc (setI σ 595 4 (nI o)) lw o i := ⟨(I_col (by omega)).trans h.1, I_same rfl rfl, (I_col (by omega)).trans h.2.2⟩
theorem setO_t (h : TKN B L σ υ q kc) : TKN B L (setI σ 595 4 (nI o)) υ q kc := h.cc (fun j => I_row (by omega)) (fun j => I_row (by omega))
theorem SG.on (h : SG vb t σ υ i j k l) : SG vb t (setI σ 595 4 (nI o)) υ i j k l := h.cc (fun q _ _ => ⟨I_row (by omega), I_row (by omega)⟩) (fun q _ _ => ⟨rfl, rfl⟩)
theorem et (z : Option (Bool × ST)) : (z.bind fun r => some (r.1, r.2)) = z := by cases z <;> rfl
theorem kd_b (h : TKN B L σ υ q kc) : kc ≤ 42 := by
  obtain ⟨-, ⟨-, -, -, c4⟩, -⟩ := h
  rcases c4 with x | x | x | x
  · omega
  · omega
  · omega
  · have y := x.2.2.2
    have z := sg_b (B q)
    by_cases x1 : sg2 B L q = true
    · rw [if_pos x1] at y
      by_cases x2 : B q = 60
      · rw [if_pos x2] at y; omega
      · rw [if_neg x2] at y; omega
    · rw [if_neg x1] at y; omega
/-- what opens -/
theorem one_op (h6 : o < 8 → K6 N rec o) (h : PRE B L t lw σ υ q kc o i k p 5) (hk : kc = 36 ∨ kc = 33 ∨ kc = 18 ∨ kc = 19 ∨ kc = 20) : CT (gb_X2_readOne_72 N rec 595 (nI kc) σ) (OK7 N B L t lw o o σ υ q i k p) (BAD N L t σ υ q k) := by
  obtain ⟨⟨T, C, R, b1, b2⟩, ht, hlw, ho, hl⟩ := h
  have hL := tk_le T
  have hq := tk_lt T (by omega)
  have hbg := bg_oth (N := N) T (by omega) (by omega)
  rw [if_pos hk] at hbg
  unfold gb_X2_readOne_72
  rw [C.2.1, show (8 : Int32) = nI 8 from rfl]
  by_cases c : o < 8
  · rw [if_pos (nI_lt c (by omega)), bnd, nI_1]
    have oc43 : opc kc ≤ 43 := by
      unfold opc
      repeat' split
      all_goals omega
    obtain ⟨O1, O2, O3⟩ := op_e (N := N) (c := opc kc) R c (by omega) oc43
    obtain ⟨τ, υ', q', kc', g1, g2, g3, g4, g5, g6, g7⟩ := tk_go2 (N := N) (setO_t (o := o + 1) (T.pp O3)) O2 (by omega)
    rw [g2, bnd] at O1
    rw [O1] at hbg
    have go : Go N 1 υ υ' := be_g R.2.2.2.2.2.1 hbg
    have fr : FRr t k υ υ' := O3.r.tr g7 (by omega)
    have hL' := tk_le g3
    rw [g1, bnd]
    have S' : S2 B L t lw τ υ' q' kc' (o + 1) (o + 1) i k (opc kc :: p) false := ⟨g3, (setO_r C).fr g5, g6, by show i + (p.length + 1) ≤ q'; omega, by show k + (p.length + 1) ≤ q'; omega⟩
    have fc : FCc i σ τ := setO_f.tr g5.cc (Nat.le_refl _)
    obtain ⟨σ', ⟨e1, f1, υ2, q2, kc2, j, l, s1, ⟨s2, s3, s4, s5, s6⟩, s7, s8, s9⟩ | ⟨e1, e2⟩⟩ := h6 c B L t lw τ υ' q' kc' i k p kc S' ht hlw c (by omega) hk
    · refine ⟨setI σ' 595 4 (nI o), Or.inl ⟨?_, (fc.tr f1 (Nat.le_refl _)).tr setO_f (Nat.le_refl _), υ2, q2, kc2, j, l, by omega, ⟨setO_t s2, setO_r s3, s4, s5, s6⟩, s7.on, fr.tr s8 (Nat.le_refl _), fun d υ3 hd hs => (go.tr (s9 d υ3 hd hs)).wk (by omega)⟩⟩
      rw [e1, bnd, bnd]
      show some (true, setI σ' 595 4 (σ'.1 595 4 - 1)) = _
      rw [s3.2.1, nI_pred]
    · refine ⟨setI σ' 595 4 (σ'.1 595 4 - 1), Or.inr ⟨?_, ?_⟩⟩
      · rw [e1, bnd, bnd]
      · refine (e2.pre (go.wk (by omega)) (by omega) (by omega) fr (Nat.le_refl _) fc).post ⟨fun a j q1 q2 q3 => if_neg (by omega), rfl⟩ ?_ ?_
        all_goals exact I_col (by omega)
  · obtain rfl : o = 8 := by omega
    rw [if_neg (by first | decide | exact tnf | exact fnt), show (3 : Int32) = nI 3 from rfl, rf_e, bnd]
    refine ⟨_, Or.inr ⟨rfl, BAD.r T (by omega) (by omega) (be_f R.2.2.2.2.2.1 ?_ (by omega) (by omega))⟩⟩
    rw [hbg, op_8 R.2.2.2.2.1]
theorem one_e (h6 : o < 8 → K6 N rec o) (h : PRE B L t lw σ υ q kc o i k p 5) (hk : kc = 26 → ¬ askA p) : CT (gb_X2_readOne_0 N rec 595 σ) (OK7 N B L t lw o o σ υ q i k p) (BAD N L t σ υ q k) := by
  have hP := h
  obtain ⟨⟨T, C, R, b1, b2⟩, ht, hlw, ho, hl⟩ := h
  have hS : S2 B L t lw σ υ q kc o o i k p false := ⟨T, C, R, b1, b2⟩
  have hkb := kd_b T
  have c3 := T.2.1.2.2.1
  have keq : ∀ z, z ≤ 42 → (nI kc = nI z ↔ kc = z) := fun z hz => nI_eq (by omega) (by omega)
  unfold gb_X2_readOne_0
  rw [c3, show (27 : Int32) = nI 27 from rfl, show (8 : Int32) = nI 8 from rfl, show (15 : Int32) = nI 15 from rfl, show (36 : Int32) = nI 36 from rfl, show (33 : Int32) = nI 33 from rfl, show (18 : Int32) = nI 18 from rfl, show (19 : Int32) = nI 19 from rfl, show (20 : Int32) = nI 20 from rfl]
  by_cases c27 : kc = 27
  · rw [if_pos ((keq 27 (by omega)).mpr c27), et]
    obtain ⟨v, v1, v2, v3⟩ := T.2.2.2.1 c27
    unfold g_X2_readNumber g_X2_readNumber_0
    rw [v3, show (9999 : Int32) = nI 9999 from rfl]
    by_cases cv : v ≤ 9999
    · rw [show min v 10000 = v by omega, if_pos (nI_le cv (by omega))]
      obtain ⟨τ, l1, l2, l3⟩ := leaf (N := N) (x := 27) (w := v) (c := 0) (v := v) hS ht (by omega) (by omega) (by omega) cv (Or.inl rfl) cv (by omega) (fun O P C D e1 e2 e3 e4 => VL.num cv e1 e2 e3 e4) (bg_num T c27 v2 cv)
      refine ⟨τ, Or.inl ⟨?_, l3⟩⟩
      rw [show (27 : Int32) = nI 27 from rfl, l1, bnd, l2, bnd]
    · rw [show min v 10000 = 10000 by omega, if_neg (by first | decide | exact tnf | exact fnt), show (2 : Int32) = nI 2 from rfl, rf_e, bnd]
      exact ⟨_, Or.inr ⟨rfl, BAD.r T (by omega) (by omega) (be_f R.2.2.2.2.2.1 (bg_num2 T c27 v2 (by omega) v1) (by omega) (by omega))⟩⟩
  · rw [if_neg (fun y => c27 ((keq 27 (by omega)).mp y)), wi10, bnd]
    by_cases c8 : 8 ≤ kc ∧ kc ≤ 15
    · rw [in_t c8.1 c8.2 (by omega), if_neg (by first | decide | exact tnf | exact fnt), et]
      obtain ⟨n1, n2⟩ := bg_nam (N := N) T c8.1 c8.2 R.2.2.1 hlw
      have nb := nmI_b kc
      have cl : ∀ z, z ≤ 42 → (nI lw = nI z ↔ lw = z) := fun z hz => nI_eq (by omega) (by omega)
      have own : ownN kc lw → CT (g_X2_readName_33 N 595 (nI kc) σ) (OK7 N B L t lw o o σ υ q i k p) (BAD N L t σ υ q k) := by
        intro hown
        obtain ⟨τ, l1, l2, l3⟩ := leaf (N := N) (x := kc) (w := 0) (c := 1) (v := nmI kc) hS ht (by omega) (by omega) (by omega) (by omega) (Or.inr rfl) (by omega) (by omega) (fun O P C D e1 e2 e3 e4 => VL.nam c8.1 c8.2 e1 e3 e4) (n1 hown)
        refine ⟨τ, Or.inl ⟨?_, l3⟩⟩
        unfold g_X2_readName_33
        rw [show (0 : Int32) = nI 0 from rfl, l1, bnd, l2, bnd]
      have bad : ¬ ownN kc lw → CT ((g_X2_refuse N 595 5 σ).bind fun r => some (r.1, r.2)) (OK7 N B L t lw o o σ υ q i k p) (BAD N L t σ υ q k) := by
        intro hown
        rw [show (5 : Int32) = nI 5 from rfl, rf_e, bnd]
        exact ⟨_, Or.inr ⟨rfl, BAD.r T (by omega) (by omega) (be_f R.2.2.2.2.2.1 (n2 hown) (by omega) (by omega))⟩⟩
      unfold g_X2_readName g_X2_readName_0 g_X2_readName_13
      rw [C.1, show (14 : Int32) = nI 14 from rfl, show (15 : Int32) = nI 15 from rfl, show (0 : Int32) = nI 0 from rfl, show (1 : Int32) = nI 1 from rfl]
      by_cases c14 : kc = 14
      · rw [if_pos ((keq 14 (by omega)).mpr c14)]
        by_cases l0 : lw = 0
        · rw [if_pos ((cl 0 (by omega)).mpr l0)]
          exact bad (fun y => y.1 c14 l0)
        · rw [if_neg (fun y => l0 ((cl 0 (by omega)).mp y)), if_neg (fun y => by have := (keq 15 (by omega)).mp y; omega)]
          exact own ⟨fun _ => l0, by omega⟩
      · rw [if_neg (fun y => c14 ((keq 14 (by omega)).mp y))]
        by_cases c15 : kc = 15
        · rw [if_pos ((keq 15 (by omega)).mpr c15)]
          by_cases l1 : lw = 1
          · rw [if_pos ((cl 1 (by omega)).mpr l1)]
            exact own ⟨by omega, fun _ => l1⟩
          · rw [if_neg (fun y => l1 ((cl 1 (by omega)).mp y))]
            exact bad (fun y => l1 (y.2 c15))
        · rw [if_neg (fun y => c15 ((keq 15 (by omega)).mp y))]
          exact own ⟨by omega, by omega⟩
    · rw [in_f (fun y => c8 ⟨(nI_leI (by omega) (by omega)).mp y.1, (nI_leI (by omega) (by omega)).mp y.2⟩), if_pos rfl]
      by_cases d1 : kc = 36
      · rw [if_pos ((keq 36 (by omega)).mpr d1)]
        exact one_op h6 hP (by omega)
      rw [if_neg (fun y => d1 ((keq 36 (by omega)).mp y))]
      by_cases d2 : kc = 33
      · rw [if_pos ((keq 33 (by omega)).mpr d2)]
        exact one_op h6 hP (by omega)
      rw [if_neg (fun y => d2 ((keq 33 (by omega)).mp y))]
      by_cases d3 : kc = 18
      · rw [if_pos ((keq 18 (by omega)).mpr d3)]
        exact one_op h6 hP (by omega)
      rw [if_neg (fun y => d3 ((keq 18 (by omega)).mp y))]
      by_cases d4 : kc = 19
      · rw [if_pos ((keq 19 (by omega)).mpr d4)]
        exact one_op h6 hP (by omega)
      rw [if_neg (fun y => d4 ((keq 19 (by omega)).mp y))]
      by_cases d5 : kc = 20
      · rw [if_pos ((keq 20 (by omega)).mpr d5)]
        exact one_op h6 hP (by omega)
      rw [if_neg (fun y => d5 ((keq 20 (by omega)).mp y)), show (1 : Int32) = nI 1 from rfl, rf_e, bnd]
      refine ⟨_, Or.inr ⟨rfl, BAD.r T (by omega) (by omega) (be_f R.2.2.2.2.2.1 ?_ (by omega) (by omega))⟩⟩
      rw [bg_oth T c27 c8, if_neg (by omega)]
      by_cases d6 : kc = 26
      · obtain ⟨d, x1, x2⟩ := ask_e (N := N) R (by omega)
        rw [if_pos d6, x1, bnd, if_pos (Bool.eq_false_iff.mpr (fun y => hk d6 (x2.mp y)))]
        rfl
      · rw [if_neg d6]
        rfl
end ONE
