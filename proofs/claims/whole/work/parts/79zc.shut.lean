/-! what is open is shut, or goes on to its next part -/
def shS (o : Nat) (p : List Nat) (υ : ST) : ST := setI (setI υ 642 17 (nI (o - 1))) 642 16 (nI p.length)
def paS (v : Nat) (p : List Nat) (υ : ST) : ST := setI (setI υ 647 p.length (nI v)) 642 18 (jz false)
theorem onl : onv none < 0 := by decide
theorem on0 : (0 : Int32) ≤ onv (some 0) := by decide
theorem onn : ¬ (0 : Int32) ≤ onv none := by decide
section SHU
variable {N : Mem} {σ τ υ υ' υ2 υ'' : ST} {B : Nat → Nat} {L q kc t lw o o1 l l1 k k' i i' x v a m m' d d' c c0 f : Nat} {p pend : List Nat} {b : Bool}
theorem opn_a (h : ∀ x, x ∈ pend → x < 40) : opn (pend ++ p) = opn p := by
  induction pend with
  | nil => rfl
  | cons x pend ih =>
    have hx := h x (List.mem_cons_self)
    show (if 40 ≤ x then some x else opn (pend ++ p)) = opn p
    rw [if_neg (by omega)]
    exact ih (fun y hy => h y (List.mem_cons_of_mem _ hy))
theorem cmp_a (h : ∀ x, x ∈ pend → 5 ≤ rkO x) : cmpd (pend ++ p) = cmpd p := by
  induction pend with
  | nil => rfl
  | cons x pend ih =>
    have hx := h x (List.mem_cons_self)
    show (if rkO x ≤ 4 then decide (rkO x = 4) else cmpd (pend ++ p)) = cmpd p
    rw [if_neg (by omega)]
    exact ih (fun y hy => h y (List.mem_cons_of_mem _ hy))
theorem rk_40 (h : 1 ≤ rkO x) : x < 40 := by
  have := rkO_0 (x := x)
  omega
theorem bh_shut (hT : TKN B L σ υ q kc) (hT2 : TKN B L σ υ2 q kc) (hr : RDr υ t lw o1 l1 (pend ++ c0 :: p) true) (hP : Pp N pend.length a υ υ2) (h1a : 1 ≤ a) (hr2 : RDr υ2 t lw o l (c0 :: p) true) (hl : (pend ++ c0 :: p).length < 160) (hb : bwo kc (pend ++ c0 :: p) = none) (hp : ∀ x, x ∈ pend → x < 40) (hc : (c0 = 40 ∧ kc = 37) ∨ (c0 = 43 ∧ kc = 23)) (ho : 1 ≤ o) (hl3 : l ≤ 303) (ht : t < 4) : ∃ τ υ4 q3 kc3, g_X7_advance N 593 σ = some τ ∧ TKN B L τ υ4 q3 kc3 ∧ q < q3 ∧ RDr υ4 t lw (o - 1) (if c0 = 43 then l + 1 else l) p true ∧ FRr t l υ2 υ4 ∧ (c0 = 43 → EM t υ4 l 4 0) ∧ ADV σ τ ∧ ∀ υ5, g_X11_settle N 642 7 υ4 = some υ5 → Go N 1 υ υ5 := by
  have hll : (pend ++ c0 :: p).length = pend.length + (p.length + 1) := List.length_append
  have hO : opn (pend ++ c0 :: p) = some c0 := by
    rw [opn_a hp]
    unfold opn
    rw [if_pos (by omega)]
  have hpt : pto kc (pend ++ c0 :: p) = some 0 := by
    unfold pto
    rw [hO]
    rcases hc with ⟨e1, e2⟩ | ⟨e1, e2⟩
    · rw [e1, e2, if_pos rfl, if_pos rfl]
    · rw [e1, e2, if_neg (by first | decide | exact tnf | exact fnt), if_neg (by first | decide | exact tnf | exact fnt), if_neg (by first | decide | exact tnf | exact fnt), if_pos rfl, if_pos rfl]
  obtain ⟨τ, υ3, q3, kc3, g1, g2, g3, g4, g5, g6, g7⟩ := tk_go2 (N := N) hT2 hr2 (by omega)
  have R4 : RDr (shS o p υ3) t lw (o - 1) l p true := by
    obtain ⟨h1, h2, h3, h4, h5, h6, h7, h8, h9⟩ := g6
    refine ⟨?_, ?_, ?_, ?_, ?_, ?_, h9.fr (fun j hj => ?_)⟩
    all_goals unfold shS
    all_goals simp (disch := omega) only [I_same, I_row, I_col]
    all_goals assumption
  have F4 : FRp t l υ3 (shS o p υ3) := by
    refine ⟨fun a j q1 q2 q3 => ?_, rfl⟩
    unfold shS
    exact Eq.trans (if_neg (by omega)) (if_neg (by omega))
  have st : g_X11_settle N 642 (nI 1) υ = some υ2 := st_fu (c := 1) hP (by omega) hr2 (by show p.length + 1 ≤ 160; omega) (by show rkO c0 < 1; have := rkO_0 (x := c0); omega) h1a (by omega)
  have e17 : υ3.1 642 17 - 1 = nI (o - 1) := by
    rw [g6.2.2.2.2.1, show (1 : Int32) = nI 1 from rfl, pk_sub ho]
  have e16 : (setI υ3 642 17 (nI (o - 1))).1 642 16 - 1 = nI p.length := by
    rw [I_col (by omega), g6.2.2.2.1, show nI (c0 :: p).length - 1 = nI p.length from nI_pred _]
  have beg : g_X11_behindOne N 642 υ = if nI c0 = 43 then ((g_X11_emit N 642 4 0 (shS o p υ3)).bind fun r14 => (g_X11_settle N 642 7 r14).bind fun r15 => some (true, r15)) else ((g_X11_settle N 642 7 (shS o p υ3)).bind fun r13 => some (true, r13)) := by
    unfold g_X11_behindOne g_X11_behindOne_0
    have e41 := pt_e (N := N) hT hr (by omega)
    rw [hpt, hO] at e41
    rw [bw_e hT hr (by omega), hb, bnd, if_pos onl, opn_e hr (by omega), hO, bnd, e41, bnd, if_pos on0, show (1 : Int32) = nI 1 from rfl, st, bnd, g2, bnd, if_pos (by decide), bnd, bnd, show nI 1 = (1 : Int32) from rfl, e17, e16]
    rfl
  rcases hc with ⟨e1, e2⟩ | ⟨e1, e2⟩
  · rw [if_neg (by omega)]
    refine ⟨τ, shS o p υ3, q3, kc3, g1, g3.pp F4, g4, R4, ?_, fun y => by omega, g5, fun υ5 h5 => bh_g hr.2.2.2.2.2.1 ?_⟩
    · exact (g7.dn (k' := l) (by omega)).tr F4.r (Nat.le_refl _)
    · rw [beg, e1, if_neg (by first | decide | exact tnf | exact fnt), h5, bnd]
  · rw [if_pos e1]
    have E := em_r (x := 4) (v := 0) R4
    have F5 : FRp t l (shS o p υ3) (emS t l 4 0 (shS o p υ3)) := em_f hl3
    refine ⟨τ, emS t l 4 0 (shS o p υ3), q3, kc3, g1, (g3.pp F4).pp F5, g4, E.1, ?_, fun _ => E.2 hl3, g5, fun υ5 h5 => bh_g hr.2.2.2.2.2.1 ?_⟩
    · exact ((g7.dn (k' := l) (by omega)).tr F4.r (Nat.le_refl _)).tr F5.r (Nat.le_refl _)
    · have em : g_X11_emit N 642 4 0 (shS o p υ3) = some (emS t l 4 0 (shS o p υ3)) := em_e (x := 4) (v := 0) R4.1 R4.2.1 ht hl3
      rw [beg, e1, if_pos (by decide), em, bnd, h5, bnd]
theorem bh_part (hT : TKN B L σ υ q kc) (hT2 : TKN B L σ υ2 q kc) (hr : RDr υ t lw o1 l1 (pend ++ c0 :: p) true) (hP : Pp N pend.length a υ υ2) (h1a : 1 ≤ a) (hr2 : RDr υ2 t lw o l (c0 :: p) true) (hl : (pend ++ c0 :: p).length < 160) (hb : bwo kc (pend ++ c0 :: p) = none) (hp : ∀ x, x ∈ pend → x < 40) (hc : (c0 = 41 ∧ kc = 21 ∧ cmpd (pend ++ c0 :: p) = true) ∨ (c0 = 42 ∧ kc = 22)) (hl3 : l ≤ 303) : ∃ τ υ3 q3 kc3, g_X7_advance N 593 σ = some τ ∧ Go N 1 υ υ3 ∧ TKN B L τ υ3 q3 kc3 ∧ q < q3 ∧ RDr υ3 t lw o l ((c0 + 1) :: p) false ∧ FRr t l υ2 υ3 ∧ ADV σ τ := by
  have hll : (pend ++ c0 :: p).length = pend.length + (p.length + 1) := List.length_append
  have hO : opn (pend ++ c0 :: p) = some c0 := by
    rw [opn_a hp]
    unfold opn
    rw [if_pos (by omega)]
  have hpt : pto kc (pend ++ c0 :: p) = some (c0 + 1) := by
    unfold pto
    rw [hO]
    rcases hc with ⟨e1, e2, e3⟩ | ⟨e1, e2⟩
    · rw [e1, if_neg (by first | decide | exact tnf | exact fnt), if_pos rfl, if_pos ⟨e2, by rw [← e1]; exact e3⟩]
    · rw [e1, e2, if_neg (by first | decide | exact tnf | exact fnt), if_neg (by first | decide | exact tnf | exact fnt), if_pos rfl, if_pos rfl]
  obtain ⟨τ, υ3, q3, kc3, g1, g2, g3, g4, g5, g6, g7⟩ := tk_go2 (N := N) hT2 hr2 (by omega)
  have R4 : RDr (paS (c0 + 1) p υ3) t lw o l ((c0 + 1) :: p) false := by
    obtain ⟨h1, h2, h3, h4, h5, h6, h7, h8, h9⟩ := g6
    refine ⟨?_, ?_, ?_, ?_, ?_, I_same rfl rfl, ?_, by omega, h9.fr (fun j hj => ?_)⟩
    all_goals unfold paS
    all_goals simp (disch := omega) only [I_same, I_row, I_col]
    all_goals assumption
  have F4 : FRp t l υ3 (paS (c0 + 1) p υ3) := by
    refine ⟨fun a j q1 q2 q3 => ?_, rfl⟩
    unfold paS
    exact Eq.trans (if_neg (by omega)) (if_neg (by omega))
  have st : g_X11_settle N 642 (nI 1) υ = some υ2 := st_fu (c := 1) hP (by omega) hr2 (by show p.length + 1 ≤ 160; omega) (by show rkO c0 < 1; have := rkO_0 (x := c0); omega) h1a (by omega)
  refine ⟨τ, paS (c0 + 1) p υ3, q3, kc3, g1, bh_g hr.2.2.2.2.2.1 ?_, g3.pp F4, g4, R4, (g7.dn (k' := l) (by omega)).tr F4.r (Nat.le_refl _), g5⟩
  unfold g_X11_behindOne g_X11_behindOne_0
  have e41 := pt_e (N := N) hT hr (by omega)
  rw [hpt, hO] at e41
  have oA := oAt_e (N := N) g6 (by show p.length + 1 ≤ 160; omega)
  have eA : nI (opA (c0 :: p)) - 1 = nI p.length := by
    unfold opA
    rw [if_pos (by omega), nI_pred]
  rw [eA] at oA
  rw [bw_e hT hr (by omega), hb, bnd, if_pos onl, opn_e hr (by omega), hO, bnd, e41, bnd]
  show (if (0 : Int32) ≤ nI (c0 + 1) then _ else _) = _
  rw [show onv (some (c0 + 1)) = nI (c0 + 1) from rfl, if_pos (nI_pos' (by omega)), show (1 : Int32) = nI 1 from rfl, st, bnd, g2, bnd, if_neg (nI_nle (by omega) (by omega)), oA, bnd, yI_n (by omega) (by omega), bnd, bnd]
  rfl
/-- nothing can stand here -/
theorem bh_1 (hT : TKN B L σ υ q kc) (hr : RDr υ t lw o k p true) (hl : p.length ≤ 160) (hb : bwo kc p = none) (hp : pto kc p = none) (ho : opn p ≠ none) (n : Nat) : g_X11_summed_15 N (n + 1) 642 υ = some (nI 1, υ) := by
  have hbo : g_X11_behindOne N 642 υ = some (false, υ) := by
    unfold g_X11_behindOne g_X11_behindOne_0
    rw [bw_e hT hr hl, hb, bnd, if_pos onl, opn_e hr hl, bnd, pt_e hT hr hl, hp, bnd, if_neg onn]
  rcases opA_n hr.2.2.2.2.2.2 with ⟨_, h2⟩ | ⟨x, _, h2, _, h4, h5⟩
  · exact absurd h2 ho
  · rw [g_X11_summed_15, hr.2.2.2.2.2.1, zb_j, bnd, if_neg (by first | decide | exact tnf | exact fnt), hbo, bnd, if_pos rfl, opn_e hr hl, bnd, h2]
    show (if nI x < 0 then _ else _) = _
    rw [if_neg (nI_pos (by omega))]
    rfl
theorem bh_0 (hT : TKN B L σ υ q kc) (hr : RDr υ t lw o1 l1 (pend ++ []) true) (hP : Pp N pend.length a υ υ2) (h1a : 1 ≤ a) (hr2 : RDr υ2 t lw o l [] true) (hl : pend.length < 160) (hp : ∀ x, x ∈ pend → x < 40) (hk : ¬ (32 ≤ kc ∧ kc ≤ 35)) (n : Nat) : g_X11_summed_15 N (n + 1) 642 υ = some (0, υ2) := by
  have hll : (pend ++ []).length = pend.length + 0 := List.length_append
  have hO : opn (pend ++ []) = none := by
    rw [opn_a hp]
    rfl
  have hb : bwo kc (pend ++ []) = none := by
    unfold bwo
    rw [if_neg (by omega), if_neg (by omega), if_neg (by omega), if_neg (by omega), hO, if_neg (by first | decide | exact tnf | exact fnt)]
  have hpt : pto kc (pend ++ []) = none := by
    unfold pto
    rw [hO, if_neg (by first | decide | exact tnf | exact fnt), if_neg (by first | decide | exact tnf | exact fnt), if_neg (by first | decide | exact tnf | exact fnt), if_neg (by first | decide | exact tnf | exact fnt)]
  have hbo : g_X11_behindOne N 642 υ = some (false, υ) := by
    unfold g_X11_behindOne g_X11_behindOne_0
    rw [bw_e hT hr (by omega), hb, bnd, if_pos onl, opn_e hr (by omega), bnd, pt_e hT hr (by omega), hpt, bnd, if_neg onn]
  have st : g_X11_settle N 642 (nI 1) υ = some υ2 := st_fu (c := 1) hP (by omega) hr2 (by show 0 ≤ 160; omega) (by show 0 < 1; omega) h1a (by omega)
  rw [g_X11_summed_15, hr.2.2.2.2.2.1, zb_j, bnd, if_neg (by first | decide | exact tnf | exact fnt), hbo, bnd, if_pos rfl, opn_e hr (by omega), bnd, hO, if_pos onl, show (1 : Int32) = nI 1 from rfl, st, bnd]
end SHU
