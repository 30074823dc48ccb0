/-! what stands behind one -/
def cmo (kc : Nat) : Option Nat := if kc = 28 then some 10 else if kc = 39 then some 11 else if kc = 29 then some 12 else if kc = 40 then some 13 else if kc = 30 then some 14 else if kc = 31 then some 15 else none
def bwo (kc : Nat) (p : List Nat) : Option Nat := if kc = 32 then some 6 else if kc = 33 then some 7 else if kc = 34 then some 8 else if kc = 35 then some 9 else if opn p = some 41 then (if cmpd p = true then (if kc = 25 then some 21 else if kc = 24 then some 22 else none) else cmo kc) else none
def pto (kc : Nat) (p : List Nat) : Option Nat := if opn p = some 40 then (if kc = 37 then some 0 else none) else if opn p = some 41 then (if kc = 21 ∧ cmpd p = true then some 42 else none) else if opn p = some 42 then (if kc = 22 then some 43 else none) else if opn p = some 43 then (if kc = 23 then some 0 else none) else none
def srO (c : Nat) : Nat := if rkO c = 4 then 5 else rkO c
def pS (c : Nat) (p : List Nat) (υ : ST) : ST := setI (setI (setI υ 647 p.length (nI c)) 642 16 (nI (p.length + 1))) 642 18 (jz false)
def ADV (σ τ : ST) : Prop := (∀ a i, ¬ (a = 593 ∧ 2 ≤ i ∧ i ≤ 5) → τ.1 a i = σ.1 a i) ∧ τ.2 = σ.2
section BEH
variable {N : Mem} {σ τ υ υ' υ2 υ'' : ST} {B : Nat → Nat} {L q kc t lw o o1 l l1 k k' i i' x v a m m' d d' c c0 f : Nat} {p pend : List Nat} {b : Bool}
theorem FRr.dn (h : FRr t k υ υ') (hk : k' ≤ k) : FRr t k' υ υ' := ⟨fun a j q1 q2 q3 => h.1 a j q1 q2 (by omega), h.2⟩
theorem FRp.dn (h : FRp t k υ υ') (hk : k' ≤ k) : FRp t k' υ υ' := ⟨fun a j q1 q2 q3 => h.1 a j q1 q2 (by omega), h.2⟩
theorem ADV.cc (h : ADV σ τ) : FCc i σ τ := ⟨fun a j q1 _ _ => h.1 a j q1, h.2⟩
theorem tk_lt (h : TKN B L σ υ q kc) (hk : kc ≠ 41) : q < L := by
  obtain ⟨-, ⟨-, -, -, c4⟩, -⟩ := h
  rcases c4 with x | x | x | x
  · omega
  · exact x.1
  · exact x.1
  · exact x.1
theorem tk_le (h : TKN B L σ υ q kc) : q ≤ L ∧ L ≤ 300 := ⟨h.1.2.2.2, h.1.2.1.1⟩
theorem tk_go2 (h : TKN B L σ υ q kc) (hr : RDr υ t lw o k p b) (hk : kc ≠ 41) : ∃ τ υ' q' kc', g_X7_advance N 593 σ = some τ ∧ g_X11_nextToken N 642 υ = some υ' ∧ TKN B L τ υ' q' kc' ∧ q < q' ∧ ADV σ τ ∧ RDr υ' t lw o k p b ∧ FRr t 304 υ υ' := by
  obtain ⟨τ, υ', q', kc', g1, g2, g3, g4, g5, g6, g7, g8, g9, g10⟩ := tk_go (N := N) h
  obtain ⟨h1, h2, h3, h4, h5, h6, h7⟩ := hr
  have e : ∀ j, 11 ≤ j → υ'.1 642 j = υ.1 642 j := fun j _ => g8 _ _ (by omega)
  refine ⟨τ, υ', q', kc', g1, g2, g3, g5 (tk_lt h hk), ⟨g6, g7⟩, ⟨?_, ?_, ?_, ?_, ?_, ?_, h7.fr (fun j _ => g8 _ _ (by omega))⟩, ⟨fun a j q1 q2 q3 => g8 a j (by omega), g9, g10⟩⟩
  · rw [e _ (by omega)]; exact h1
  · rw [e _ (by omega)]; exact h2
  · rw [e _ (by omega)]; exact h3
  · rw [e _ (by omega)]; exact h4
  · rw [e _ (by omega)]; exact h5
  · rw [e _ (by omega)]; exact h6
theorem co_e (h : TKN B L σ υ q kc) : g_X11_compareOf N 642 υ = some (onv (cmo kc)) := by
  have t28 : υ.1 642 9 = 60 ↔ kc = 28 := tk_s h (k := 28) (by omega) (by omega)
  have t39 : υ.1 642 9 = 4 ↔ kc = 39 := tk_s h (k := 39) (by omega) (by omega)
  have t29 : υ.1 642 9 = 62 ↔ kc = 29 := tk_s h (k := 29) (by omega) (by omega)
  have t40 : υ.1 642 9 = 5 ↔ kc = 40 := tk_s h (k := 40) (by omega) (by omega)
  have t30 : υ.1 642 9 = 61 ↔ kc = 30 := tk_s h (k := 30) (by omega) (by omega)
  have t31 : υ.1 642 9 = 35 ↔ kc = 31 := tk_s h (k := 31) (by omega) (by omega)
  unfold g_X11_compareOf g_X11_compareOf_0 cmo
  simp only [t28, t39, t29, t40, t30, t31]
  repeat' split
  all_goals rfl
theorem bw_e (h : TKN B L σ υ q kc) (hr : RDr υ t lw o k p b) (hl : p.length ≤ 160) : g_X11_betweenOf N 642 υ = some (onv (bwo kc p)) := by
  have t32 : υ.1 642 9 = 43 ↔ kc = 32 := tk_s h (k := 32) (by omega) (by omega)
  have t33 : υ.1 642 9 = 45 ↔ kc = 33 := tk_s h (k := 33) (by omega) (by omega)
  have t34 : υ.1 642 9 = 42 ↔ kc = 34 := tk_s h (k := 34) (by omega) (by omega)
  have t35 : υ.1 642 9 = 47 ↔ kc = 35 := tk_s h (k := 35) (by omega) (by omega)
  have h41 := onv_41 hr.2.2.2.2.2.2
  unfold g_X11_betweenOf g_X11_betweenOf_0 bwo
  rw [opn_e hr hl, bnd, cmp_e hr hl, bnd, w_25, bnd, tk_w h (by omega) (by omega), bnd, w_24, bnd, tk_w h (by omega) (by omega), bnd, co_e h, bnd]
  simp only [t32, t33, t34, t35, h41]
  by_cases c1 : kc = 32
  · rw [if_pos c1, if_pos c1]; rfl
  rw [if_neg c1, if_neg c1]
  by_cases c2 : kc = 33
  · rw [if_pos c2, if_pos c2]; rfl
  rw [if_neg c2, if_neg c2]
  by_cases c3 : kc = 34
  · rw [if_pos c3, if_pos c3]; rfl
  rw [if_neg c3, if_neg c3]
  by_cases c4 : kc = 35
  · rw [if_pos c4, if_pos c4]; rfl
  rw [if_neg c4, if_neg c4]
  by_cases c5 : opn p = some 41
  · rw [if_pos c5, if_pos c5]
    by_cases c6 : cmpd p = true
    · rw [if_pos c6, if_pos c6]
      by_cases c7 : kc = 25
      · rw [decide_eq_true c7, if_neg (by first | decide | exact tnf | exact fnt), if_pos c7]; rfl
      · rw [decide_eq_false c7, if_pos rfl, if_neg c7]
        by_cases c8 : kc = 24
        · rw [decide_eq_true c8, if_neg (by first | decide | exact tnf | exact fnt), if_pos c8]; rfl
        · rw [decide_eq_false c8, if_pos rfl, if_neg c8]; rfl
    · rw [if_neg c6, if_neg c6]
  · rw [if_neg c5, if_neg c5]; rfl
theorem onv_o (h : PLs υ p) {y : Nat} (h1 : y ≤ 43) : onv (opn p) = nI y ↔ opn p = some y := by
  rcases opA_n h with ⟨_, h2⟩ | ⟨x, _, h2, _, h4, h5⟩
  · rw [h2]
    refine ⟨fun z => ?_, fun z => by cases z⟩
    have : (-nI 1 : Int32) = nI y := z
    rw [w_me (by omega) (by omega) (by omega)] at this
    exact this.elim
  · rw [h2]
    show nI x = nI y ↔ _
    rw [nI_eq (by omega) (by omega)]
    exact ⟨fun z => by rw [z], fun z => Option.some.inj z⟩
theorem pt_e (h : TKN B L σ υ q kc) (hr : RDr υ t lw o k p b) (hl : p.length ≤ 160) : g_X11_partOf N 642 (onv (opn p)) υ = some (onv (pto kc p)) := by
  have t37 : υ.1 642 9 = 41 ↔ kc = 37 := tk_s h (k := 37) (by omega) (by omega)
  have P := hr.2.2.2.2.2.2
  unfold g_X11_partOf g_X11_partOf_0 pto
  rw [w_21, bnd, tk_w h (by omega) (by omega), bnd, cmp_e hr hl, bnd, w_22, bnd, tk_w h (by omega) (by omega), bnd, w_23, bnd, tk_w h (by omega) (by omega), bnd]
  rw [show (40 : Int32) = nI 40 from rfl, show (42 : Int32) = nI 42 from rfl, show (43 : Int32) = nI 43 from rfl]
  have e41 : onv (opn p) = 41 ↔ opn p = some 41 := onv_41 P
  simp only [t37, e41, onv_o P (y := 40) (by omega), onv_o P (y := 42) (by omega), onv_o P (y := 43) (by omega)]
  by_cases c1 : opn p = some 40
  · rw [if_pos c1, if_pos c1]
    by_cases c2 : kc = 37
    · rw [if_pos c2, if_pos c2]; rfl
    · rw [if_neg c2, if_neg c2]; rfl
  rw [if_neg c1, if_neg c1]
  by_cases c3 : opn p = some 41
  · rw [if_pos c3, if_pos c3]
    by_cases c4 : kc = 21
    · rw [decide_eq_true c4, if_neg (by first | decide | exact tnf | exact fnt)]
      by_cases c5 : cmpd p = true
      · rw [c5, if_neg (by first | decide | exact tnf | exact fnt), if_pos ⟨c4, rfl⟩]; rfl
      · rw [Bool.eq_false_iff.mpr c5, if_pos rfl, if_neg (fun y => absurd y.2 (by decide))]; rfl
    · rw [decide_eq_false c4, if_pos rfl, if_neg (fun y => c4 y.1)]; rfl
  rw [if_neg c3, if_neg c3]
  by_cases c6 : opn p = some 42
  · rw [if_pos c6, if_pos c6]
    by_cases c4 : kc = 22
    · rw [decide_eq_true c4, if_neg (by first | decide | exact tnf | exact fnt), if_pos c4]; rfl
    · rw [decide_eq_false c4, if_pos rfl, if_neg c4]; rfl
  rw [if_neg c6, if_neg c6]
  by_cases c7 : opn p = some 43
  · rw [if_pos c7, if_pos c7]
    by_cases c4 : kc = 23
    · rw [decide_eq_true c4, if_neg (by first | decide | exact tnf | exact fnt), if_pos c4]; rfl
    · rw [decide_eq_false c4, if_pos rfl, if_neg c4]; rfl
  · rw [if_neg c7, if_neg c7]; rfl
theorem bwo_b (h : bwo kc p = some c) : 6 ≤ c ∧ c ≤ 22 ∧ kc ≠ 41 := by
  unfold bwo cmo at h
  repeat' split at h
  all_goals first | (cases h; done) | (obtain rfl := Option.some.inj h; omega)
theorem srO_b (h : 6 ≤ c) (h2 : c ≤ 22) : 1 ≤ srO c ∧ srO c ≤ 7 := by
  unfold srO rkO
  repeat' split
  all_goals omega
/-- an operator between two -/
theorem bh_op (hT : TKN B L σ υ q kc) (hT2 : TKN B L σ υ2 q kc) (hr : RDr υ t lw o1 l1 (pend ++ p) true) (hP : Pp N pend.length a υ υ2) (hr2 : RDr υ2 t lw o l p true) (hl : (pend ++ p).length < 160) (hb : bwo kc (pend ++ p) = some c) (ha : srO c ≤ a) (ht : topr p < srO c) (hl3 : l ≤ 303) : ∃ τ υ3 q3 kc3, g_X7_advance N 593 σ = some τ ∧ Go N 1 υ υ3 ∧ TKN B L τ υ3 q3 kc3 ∧ q < q3 ∧ RDr υ3 t lw o l (c :: p) false ∧ FRr t l υ2 υ3 ∧ ADV σ τ := by
  have hll : (pend ++ p).length = pend.length + p.length := List.length_append
  obtain ⟨b1, b2, b3⟩ := bwo_b hb
  obtain ⟨s1, s2⟩ := srO_b b1 b2
  have R3 : RDr (pS c p υ2) t lw o l (c :: p) false := by
    obtain ⟨h1, h2, h3, h4, h5, h6, h7⟩ := hr2
    refine ⟨?_, ?_, ?_, ?_, ?_, I_same rfl rfl, ?_, by omega, h7.fr (fun j hj => ?_)⟩
    all_goals unfold pS
    all_goals simp (disch := omega) only [I_same, I_row, I_col]
    all_goals (try assumption)
    rfl
  have F3 : FRp t l υ2 (pS c p υ2) := by
    refine ⟨fun a j q1 q2 q3 => ?_, rfl⟩
    unfold pS
    exact Eq.trans (if_neg (by omega)) (Eq.trans (if_neg (by omega)) (if_neg (by omega)))
  obtain ⟨τ, υ3, q3, kc3, g1, g2, g3, g4, g5, g6, g7⟩ := tk_go2 (N := N) (hT2.pp F3) R3 b3
  refine ⟨τ, υ3, q3, kc3, g1, bh_g hr.2.2.2.2.2.1 ?_, g3, g4, g6, ?_, g5⟩
  · have st : g_X11_settle N 642 (nI (srO c)) υ = some υ2 := st_fu hP (by omega) hr2 (by omega) ht ha s2
    have h16 : υ2.1 642 16 = nI p.length := hr2.2.2.2.1
    have h26 : g_X11_behindOne_26 N 642 (nI c) (nI (srO c)) 642 υ = some (true, υ3) := by
      unfold g_X11_behindOne_26
      have e16 : (setI υ2 (642 + 5) p.length (nI c)).1 642 16 = nI p.length := (I_row (by omega)).trans h16
      rw [st, bnd, h16, yI_n (by omega) (by omega), bnd, bnd, bnd, e16, show (1 : Int32) = nI 1 from rfl, nI_add]
      show (g_X11_nextToken N 642 (pS c p υ2)).bind _ = _
      rw [g2, bnd]
    unfold g_X11_behindOne g_X11_behindOne_0
    rw [bw_e hT hr (by omega), hb, bnd]
    show (if nI c < 0 then _ else _) = _
    have rb := rkO_b (x := c)
    rw [if_neg (nI_pos (by omega)), show onv (some c) = nI c from rfl, rank_e (by omega), bnd, bnd, show (4 : Int32) = nI 4 from rfl]
    unfold srO at h26
    by_cases r4 : rkO c = 4
    · rw [if_pos (by rw [r4])]
      rw [if_pos r4] at h26
      exact h26
    · rw [if_neg (fun y => r4 ((nI_eq (by omega) (by omega)).mp y))]
      rw [if_neg r4] at h26
      exact h26
  · exact F3.r.tr g7 (by omega)
end BEH
