/-! if, then, else, end -/
section CHO
variable {N : Mem} {σ σ' σ1 σ2 τ υ υ' υ1 υ2 υ3 υ'' : ST} {B : Nat → Nat} {L q q1 q2 q3 kc kc1 kc2 kx t lw o oc o1 j j2 l l1 l2 k k1 k' i i1 i' x v w a a' m m' d d' c c0 f e : Nat} {p pend : List Nat} {b vb : Bool} {rec : RCX}
/-- from the token else on -/
theorem cho_3 (h8 : K8 N rec (o + 1)) (hS : S2 B L t lw σ υ q kc (o + 1) (o + 1) (m + 1) l (43 :: p) false) (ht : t < 4) (hlw : lw < 3) (ho : o < 8) (hl : p.length ≤ 7 * o + 5) : CT ((rec 8 595 0 σ).bind fun r8 => if r8.1 = false then some (false, r8.2) else ((g_X2_expect N 595 23 r8.2).bind fun r9 => if r9.1 = true then ((g_X2_aim N 595 (nI m) r9.2).bind fun r10 => some (true, r10)) else some (false, r9.2))) (fun σ' => ∃ σ6 τ6 υ4 q3 kc3 e l3, σ' = aiS m e τ6 ∧ ADV σ6 τ6 ∧ FCc (m + 1) σ σ6 ∧ q < q3 ∧ S2 B L t lw σ' υ4 q3 kc3 o (o + 1) e (l3 + 1) p true ∧ SG false t σ6 υ4 (m + 1) e l l3 ∧ EM t υ4 l3 4 0 ∧ FRr t l υ υ4 ∧ ∀ d υ3, d ≤ p.length + 1 → (∀ n, g_X11_settle_0 N (n + d) 642 (nI 7) υ4 = some υ3) → Go N (q3 - q) υ υ3) (BAD N L t σ υ q l) := by
  have lc : ∀ c, (c :: p).length = p.length + 1 := fun _ => rfl
  have l43 := lc 43
  have o43 : opn (43 :: p) = some 43 := rfl
  have hm := hS.2.2.2.1
  obtain ⟨σ', ⟨e1, q', kc', ⟨f1, υ', υ2, j, l3, pend, o1, l1, g1, g2, g3, g4, g5, g6, g7, g8, ⟨s1, s2, s3, s4, s5⟩, g9, g10, g11⟩, hR⟩ | ⟨e1, e2⟩⟩ := h8 B L t lw σ υ q kc (m + 1) l (43 :: p) ⟨hS, ht, hlw, by omega, by omega⟩ (fun _ y => by have := y.1; rw [o43] at this; exact absurd this (by decide)) (by show (0 : Nat) < 5; omega)
  · rw [e1, bnd, if_neg (by first | decide | exact tnf | exact fnt), show (23 : Int32) = nI 23 from rfl, ex_e g7 (by omega)]
    have hL := tk_le s1
    have hp40 := rk_5 g4 (by omega)
    have hO : opn (pend ++ 43 :: p) = some 43 := by rw [opn_a hp40]; rfl
    have hbw : bwo kc' (pend ++ 43 :: p) = none := bw_no (by rw [hO]; decide) (hR.n (by omega))
    by_cases c : kc' = 23
    · obtain ⟨τ, υ4, q3, kc3, a1, a2, a3, a4, a5, a6, a7, a8⟩ := bh_shut g7 s1 g3 g6 (by omega) s3 (by omega) hbw hp40 (Or.inr ⟨rfl, c⟩) (by omega) (by omega) ht
      rw [if_pos rfl] at a4
      have hL3 := tk_le a2
      have R6 := s2.fr a7
      refine ⟨aiS m j τ, Or.inl ⟨?_, σ', τ, υ4, q3, kc3, j, l3, rfl, a7, f1, by omega, ⟨ai_t a2, ai_r R6, a4, by omega, by omega⟩, g9.fr FCc.rfl a5, a6 rfl, g10.tr a5 g9.2.2.2.1, fun d υ3 hd hs => (g2.tr (a8 υ3 (st_7 hs (by omega)))).wk (by omega)⟩⟩
      rw [if_pos c, a1, bnd, bnd, if_pos rfl, ai_e R6.2.2 (by omega), bnd]
    · rw [if_neg c, bnd, if_neg (by first | decide | exact tnf | exact fnt)]
      refine ⟨_, Or.inr ⟨rfl, (BAD.r (t := t) (k := l) g7 (by omega) (by omega) (bh_1 g7 g3 (by omega) hbw ?_ (by rw [hO]; decide))).pre g2 (by omega) (by omega) g8 (Nat.le_refl _) f1⟩⟩
      unfold pto
      rw [hO, if_neg (by first | decide | exact tnf | exact fnt), if_neg (by first | decide | exact tnf | exact fnt), if_neg (by first | decide | exact tnf | exact fnt), if_pos rfl, if_neg c]
  · rw [e1, bnd, if_pos rfl]
    exact ⟨σ', Or.inr ⟨rfl, e2⟩⟩
/-- from the token then on: j1 is where then stands -/
theorem cho_2 (h8 : K8 N rec (o + 1)) (hS : S2 B L t lw σ υ q kc (o + 1) (o + 1) (j + 1) l (42 :: p) false) (ht : t < 4) (hlw : lw < 3) (ho : o < 8) (hl : p.length ≤ 7 * o + 5) (hT : σ.1 596 j = nI 21) : CT ((rec 8 595 0 σ).bind fun r4 => if r4.1 = false then some (false, r4.2) else ((g_X2_expect N 595 22 r4.2).bind fun r5 => if r5.1 = true then ((g_X2_order N 595 (nI 22) (nI 0) r5.2).bind fun r6 => (g_X2_aim N 595 (nI j) r6.2).bind fun r7 => (rec 8 595 0 r7).bind fun r8 => if r8.1 = false then some (false, r8.2) else ((g_X2_expect N 595 23 r8.2).bind fun r9 => if r9.1 = true then ((g_X2_aim N 595 r6.1 r9.2).bind fun r10 => some (true, r10)) else some (false, r9.2))) else some (false, r5.2))) (fun σ' => ∃ υ4 q3 kc3 m e l2 l3, FCc j σ σ' ∧ q < q3 ∧ S2 B L t lw σ' υ4 q3 kc3 o (o + 1) e (l3 + 1) p true ∧ σ'.1 596 j = nI 21 ∧ σ'.1 597 j = nI (m + 1) ∧ σ'.1 596 m = nI 22 ∧ σ'.1 597 m = nI e ∧ SG false t σ' υ4 (j + 1) m l l2 ∧ SG false t σ' υ4 (m + 1) e l2 l3 ∧ EM t υ4 l3 4 0 ∧ FRr t l υ υ4 ∧ ∀ d υ3, d ≤ p.length + 1 → (∀ n, g_X11_settle_0 N (n + d) 642 (nI 7) υ4 = some υ3) → Go N (q3 - q) υ υ3) (BAD N L t σ υ q l) := by
  have lc : ∀ c, (c :: p).length = p.length + 1 := fun _ => rfl
  have l42 := lc 42
  have l43 := lc 43
  have o42 : opn (42 :: p) = some 42 := rfl
  obtain ⟨σ', ⟨e1, q', kc', ⟨f1, υ', υ2, m, l2, pend, o1, l1, g1, g2, g3, g4, g5, g6, g7, g8, ⟨s1, s2, s3, s4, s5⟩, g9, g10, g11⟩, hR⟩ | ⟨e1, e2⟩⟩ := h8 B L t lw σ υ q kc (j + 1) l (42 :: p) ⟨hS, ht, hlw, by omega, by omega⟩ (fun _ y => by have := y.1; rw [o42] at this; exact absurd this (by decide)) (by show (0 : Nat) < 5; omega)
  · rw [e1, bnd, if_neg (by first | decide | exact tnf | exact fnt), show (22 : Int32) = nI 22 from rfl, ex_e g7 (by omega)]
    have hL := tk_le s1
    have hp40 := rk_5 g4 (by omega)
    have hO : opn (pend ++ 42 :: p) = some 42 := by rw [opn_a hp40]; rfl
    have hbw : bwo kc' (pend ++ 42 :: p) = none := bw_no (by rw [hO]; decide) (hR.n (by omega))
    by_cases c : kc' = 22
    · obtain ⟨τ, υ3, q3, kc3, a1, a2, a3, a4, a5, a6, a7⟩ := bh_part g7 s1 g3 g6 (by omega) s3 (by omega) hbw hp40 (Or.inr ⟨rfl, c⟩) (by omega)
      have hL3 := tk_le a3
      have Rτ := s2.fr a7
      obtain ⟨r1, r2, r3⟩ := ord_r (x := 22) (v := 0) Rτ
      have hjm : j + 1 ≤ m := g9.2.2.1
      have S5 : S2 B L t lw (aiS j (m + 1) (ordS m 22 0 τ)) υ3 q3 kc3 (o + 1) (o + 1) (m + 1) l2 (43 :: p) false := ⟨ai_t (ord_t a3), ai_r r1, a5, by omega, by omega⟩
      have C3 := cho_3 h8 S5 ht hlw ho hl
      rw [if_pos c, a1, bnd, bnd, if_pos rfl, ord_e Rτ.2.2 (by omega), bnd, ai_e r1.2.2 (by omega), bnd]
      have fcτ : FCc (j + 1) σ τ := f1.tr a7.cc (Nat.le_refl _)
      have fc5 : FCc j σ (aiS j (m + 1) (ordS m 22 0 τ)) := ((fcτ.dn (by omega)).tr ord_f (by omega)).tr (ai_f (Nat.le_refl _)) (Nat.le_refl _)
      obtain ⟨σ', ⟨x1, σ6, τ6, υ4, q6, kc6, e, l3, x2, x3, x4, x5, x6, x7, x8, x9, x10⟩ | ⟨x1, x2⟩⟩ := C3
      · have hL6 := tk_le x6.1
        have hme : m + 1 ≤ e := x7.2.2.1
        have n6 : ∀ a b, (a = 596 ∨ a = 597) → b < m + 1 → τ6.1 a b = (aiS j (m + 1) (ordS m 22 0 τ)).1 a b := fun a b h1 h2 => (x3.1 a b (by omega)).trans (x4.1 a b (by omega) (by omega) (by omega))
        have u596 : ∀ b, b < m + 1 → σ'.1 596 b = (ordS m 22 0 τ).1 596 b := fun b hb => by
          rw [x2]
          exact (I_row (by omega)).trans ((n6 596 b (by omega) hb).trans (I_row (by omega)))
        refine ⟨σ', Or.inl ⟨x1, υ4, q6, kc6, m, e, l2, l3, ?_, by omega, x6, ?_, ?_, ?_, ?_, ?_, ?_, x8, (g10.tr a6 g9.2.2.2.1).tr x9 g9.2.2.2.1, fun d υ3 hd hs => ((g2.tr a2).tr (x10 d υ3 hd hs)).wk (by omega)⟩⟩
        · rw [x2]
          exact ((fc5.tr x4 (by omega)).tr x3.cc (Nat.le_refl _)).tr (ai_f (by omega)) (Nat.le_refl _)
        · rw [u596 j (by omega)]
          unfold ordS
          simp (disch := omega) only [I_row, I_col]
          exact (a7.1 _ _ (by omega)).trans ((f1.1 _ _ (by omega) (by omega) (by omega)).trans hT)
        · rw [x2]
          exact (I_col (by omega)).trans ((n6 597 j (by omega) (by omega)).trans (I_same rfl rfl))
        · rw [u596 m (by omega)]
          exact r2
        · rw [x2]
          exact I_same rfl rfl
        · refine g9.cc (fun b b1 b2 => ⟨?_, ?_⟩) (fun b b1 b2 => ⟨?_, ?_⟩)
          · rw [u596 b (by omega)]
            unfold ordS
            simp (disch := omega) only [I_row, I_col]
            exact a7.1 _ _ (by omega)
          · rw [x2]
            refine (I_col (by omega)).trans ((n6 597 b (by omega) (by omega)).trans ((I_col (by omega)).trans ?_))
            unfold ordS
            simp (disch := omega) only [I_row, I_col]
            exact a7.1 _ _ (by omega)
          · exact (x9.1 _ _ (by omega) (by omega) (by omega)).trans (a6.1 _ _ (by omega) (by omega) (by omega))
          · exact (x9.1 _ _ (by omega) (by omega) (by omega)).trans (a6.1 _ _ (by omega) (by omega) (by omega))
        · refine x7.cc (fun b b1 b2 => ⟨?_, ?_⟩) (fun b b1 b2 => ⟨rfl, rfl⟩)
          · rw [x2]
            exact (I_row (by omega)).trans (x3.1 _ _ (by omega))
          · rw [x2]
            exact (I_col (by omega)).trans (x3.1 _ _ (by omega))
      · exact ⟨σ', Or.inr ⟨x1, x2.pre ((g2.tr a2).wk (by omega)) (by omega) (by omega) (g10.tr a6 g9.2.2.2.1) g9.2.2.2.1 fc5⟩⟩
    · rw [if_neg c, bnd, if_neg (by first | decide | exact tnf | exact fnt)]
      refine ⟨_, Or.inr ⟨rfl, (BAD.r (t := t) (k := l) g7 (by omega) (by omega) (bh_1 g7 g3 (by omega) hbw ?_ (by rw [hO]; decide))).pre g2 (by omega) (by omega) g8 (Nat.le_refl _) f1⟩⟩
      unfold pto
      rw [hO, if_neg (by first | decide | exact tnf | exact fnt), if_neg (by first | decide | exact tnf | exact fnt), if_pos rfl, if_neg c]
  · rw [e1, bnd, if_pos rfl]
    exact ⟨σ', Or.inr ⟨rfl, e2⟩⟩
theorem cho_e (h4 : K4 N rec (o + 1)) (h8 : K8 N rec (o + 1)) (hS : S2 B L t lw σ υ q kc (o + 1) (o + 1) i k (41 :: p) false) (ht : t < 4) (hlw : lw < 3) (ho : o < 8) (hl : p.length ≤ 7 * o + 5) : CT (gb_X2_readChoice_0 N rec 595 σ) (OK7 N B L t lw o (o + 1) σ υ q i k p) (BAD N L t σ υ q k) := by
  have lc : ∀ c, (c :: p).length = p.length + 1 := fun _ => rfl
  have l41 := lc 41
  have l42 := lc 42
  have o41 : opn (41 :: p) = some 41 := rfl
  unfold gb_X2_readChoice_0
  obtain ⟨σ', ⟨e1, q', kc', ⟨f1, υ', υ2, j, l, pend, o1, l1, g1, g2, g3, g4, g5, g6, g7, g8, ⟨s1, s2, s3, s4, s5⟩, g9, g10, g11⟩, hR⟩ | ⟨e1, e2⟩⟩ := h4 B L t lw σ υ q kc i k (41 :: p) ⟨hS, ht, hlw, by omega, by omega⟩ o41 (by show (0 : Nat) < 1; omega)
  · rw [e1, bnd, if_neg (by first | decide | exact tnf | exact fnt), show (21 : Int32) = nI 21 from rfl, show (22 : Int32) = nI 22 from rfl, show (0 : Int32) = nI 0 from rfl, ex_e g7 (by omega)]
    have hL := tk_le s1
    have hp40 := rk_5 g4 (by omega)
    have hO : opn (pend ++ 41 :: p) = some 41 := by rw [opn_a hp40]; rfl
    have hcm := g11 rfl
    have hbw : bwo kc' (pend ++ 41 :: p) = none := by
      have r1 := hR.n (by omega)
      have r2 := hR.2.2.1 (by omega)
      have r3 := hR.2.2.2 (by omega)
      unfold bwo
      rw [if_neg (by omega), if_neg (by omega), if_neg (by omega), if_neg (by omega), if_pos hO, if_pos hcm, if_neg r2, if_neg r3]
    by_cases c : kc' = 21
    · obtain ⟨τ, υ3, q3, kc3, a1, a2, a3, a4, a5, a6, a7⟩ := bh_part g7 s1 g3 g6 (by omega) s3 (by omega) hbw hp40 (Or.inl ⟨rfl, c, hcm⟩) (by omega)
      have hL3 := tk_le a3
      have Rτ := s2.fr a7
      obtain ⟨r1, r2, r3⟩ := ord_r (x := 21) (v := 0) Rτ
      have S3 : S2 B L t lw (ordS j 21 0 τ) υ3 q3 kc3 (o + 1) (o + 1) (j + 1) l (42 :: p) false := ⟨ord_t a3, r1, a5, by omega, by omega⟩
      have C2 := cho_2 h8 S3 ht hlw ho hl r2
      rw [if_pos c, a1, bnd, bnd, if_pos rfl, ord_e Rτ.2.2 (by omega), bnd]
      have fc3 : FCc j σ' (ordS j 21 0 τ) := a7.cc.tr ord_f (Nat.le_refl _)
      have hij := g9.2.2.1
      have hkl := g9.2.2.2.1
      obtain ⟨σ5, ⟨x1, υ4, q6, kc6, m, e, l2, l3, x2, x3, x4, x5, x6, x7, x8, x9, x10, x11, x12, x13⟩ | ⟨x1, x2⟩⟩ := C2
      · have hL6 := tk_le x4.1
        have hjm := x9.2.2.1
        have hme := x10.2.2.1
        have h42 := x9.2.2.2.1
        have h23 := x10.2.2.2.1
        have EC := x11.cc (by omega) (by omega)
        have seg : SG true t σ5 υ4 i j k l := g9.fr (fc3.tr x2 (Nat.le_refl _)) (a6.tr x12 (Nat.le_refl _))
        have lo := x4.2.2.2.1
        refine ⟨σ5, Or.inl ⟨x1, (f1.tr fc3 hij).tr x2 hij, υ4, q6, kc6, e, l3 + 1, by omega, x4, ⟨fun _ => VL.ite (seg.2.1 rfl) ?_ ?_ (x9.1 rfl) ?_ ?_ (x10.1 rfl) EC.1 (by omega) (by omega), fun y => (by cases y), by omega, by omega, ?_, ?_⟩, (g10.tr a6 hkl).tr x12 hkl, fun d υ3 hd hs => ((g2.tr a2).tr (x13 d υ3 hd hs)).wk (by omega)⟩⟩
        · unfold cO
          rw [x5, nI_clamp (by omega)]
        · unfold cP
          rw [x6, nI_clamp (by omega)]
        · unfold cO
          rw [x7, nI_clamp (by omega)]
        · unfold cP
          rw [x8, nI_clamp (by omega)]
        · exact (((seg.2.2.2.2.1.tr (OB.on x5 x6 (by omega) (by omega))).tr x9.2.2.2.2.1).tr (OB.on x7 x8 (by omega) (by omega))).tr x10.2.2.2.2.1
        · exact ((seg.2.2.2.2.2.tr x9.2.2.2.2.2).tr x10.2.2.2.2.2).tr (RB.on x11 (by omega) (by omega) (by omega))
      · exact ⟨σ5, Or.inr ⟨x1, x2.pre ((g2.tr a2).wk (by omega)) (by omega) (by omega) (g10.tr a6 hkl) hkl (f1.tr fc3 hij)⟩⟩
    · rw [if_neg c, bnd, if_neg (by first | decide | exact tnf | exact fnt)]
      refine ⟨_, Or.inr ⟨rfl, (BAD.r (t := t) (k := k) g7 (by omega) (by omega) (bh_1 g7 g3 (by omega) hbw ?_ (by rw [hO]; decide))).pre g2 (by omega) (by omega) g8 (Nat.le_refl _) f1⟩⟩
      unfold pto
      rw [hO, if_neg (by first | decide | exact tnf | exact fnt), if_pos rfl, if_neg (fun y => c y.1)]
  · rw [e1, bnd, if_pos rfl]
    exact ⟨σ', Or.inr ⟨rfl, e2⟩⟩
end CHO
