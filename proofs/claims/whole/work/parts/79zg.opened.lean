/-! what stands behind what opens -/
def aiS (j e : Nat) (σ : ST) : ST := setI σ 597 j (nI e)
section OPD
variable {N : Mem} {σ σ' σ1 σ2 τ υ υ' υ1 υ2 υ3 υ'' : ST} {B : Nat → Nat} {L q q1 q2 q3 kc kc1 kc2 kx t lw o oc o1 j j2 l l1 l2 k k1 k' i i1 i' x v w a a' m m' d d' c c0 f e : Nat} {p pend : List Nat} {b vb : Bool} {rec : RCX}
theorem rk_5 (h : ∀ x, x ∈ pend → a ≤ rkO x) (ha : 1 ≤ a) : ∀ x, x ∈ pend → x < 40 := fun x hx => rk_40 (by have := h x hx; omega)
theorem bw_no (h : opn p ≠ some 41) (hk : ¬ (32 ≤ kc ∧ kc ≤ 35)) : bwo kc p = none := by
  unfold bwo
  rw [if_neg (by omega), if_neg (by omega), if_neg (by omega), if_neg (by omega), if_neg h]
theorem RES.n (h : RES a kc) (ha : a ≤ 5) : ¬ (32 ≤ kc ∧ kc ≤ 35) := by
  have h1 := h.1 (by omega)
  have h2 := h.2.1 (by omega)
  omega
theorem ai_e (h : σ.1 595 5 = nI e) (hj : j < 300) : g_X2_aim N 595 (nI j) σ = some (aiS j e σ) := by
  unfold g_X2_aim g_X2_aim_0 aiS
  rw [h, show (0 : Int32) = nI 0 from rfl, show (299 : Int32) = nI 299 from rfl, wi10, in_t (by omega) (by omega) (by omega), bnd, if_neg (by first | decide | exact tnf | exact fnt), yI_n (by omega) (by omega), bnd]
theorem ai_f (hi : i ≤ j) : FCc i σ (aiS j e σ) := ⟨fun a m q1 q2 q3 => if_neg (by omega), rfl⟩
theorem ai_t (h : TKN B L σ υ q kc) : TKN B L (aiS j e σ) υ q kc := h.cc (fun j => I_row (by omega)) (fun j => I_row (by omega))
theorem ai_r (h : RDc σ lw o i) : RDc (aiS j e σ) lw o i := ⟨(I_row (by omega)).trans h.1, (I_row (by omega)).trans h.2.1, (I_row (by omega)).trans h.2.2⟩
/-- a sum in parentheses -/
theorem opd_p (h8 : K8 N rec (o + 1)) (hS : S2 B L t lw σ υ q kc (o + 1) (o + 1) i k (40 :: p) false) (ht : t < 4) (hlw : lw < 3) (ho : o < 8) (hl : p.length ≤ 7 * o + 5) : CT ((rec 8 595 0 σ).bind fun r5 => if r5.1 = false then some (false, r5.2) else ((g_X2_expect N 595 37 r5.2).bind fun r6 => if r6.1 = false then some (false, r6.2) else some (true, r6.2))) (OK7 N B L t lw o (o + 1) σ υ q i k p) (BAD N L t σ υ q k) := by
  have lc : ∀ c, (c :: p).length = p.length + 1 := fun _ => rfl
  have o40 : opn (40 :: p) = some 40 := rfl
  obtain ⟨σ', ⟨e1, q', kc', ⟨f1, υ', υ2, j, l, pend, o1, l1, g1, g2, g3, g4, g5, g6, g7, g8, ⟨s1, s2, s3, s4, s5⟩, g9, g10, g11⟩, hR⟩ | ⟨e1, e2⟩⟩ := h8 B L t lw σ υ q kc i k (40 :: p) ⟨hS, ht, hlw, by omega, by have := lc 40; omega⟩ (fun _ y => by have := y.1; rw [o40] at this; exact absurd this (by decide)) (by show (0 : Nat) < 5; omega)
  · rw [e1, bnd, if_neg (by first | decide | exact tnf | exact fnt), show (37 : Int32) = nI 37 from rfl, ex_e g7 (by omega)]
    have hL := tk_le s1
    have l40 := lc 40
    have hp40 := rk_5 g4 (by omega)
    have hO : opn (pend ++ 40 :: p) = some 40 := by rw [opn_a hp40]; rfl
    have hbw : bwo kc' (pend ++ 40 :: p) = none := bw_no (by rw [hO]; decide) (hR.n (by omega))
    by_cases c : kc' = 37
    · obtain ⟨τ, υ4, q3, kc3, a1, a2, a3, a4, a5, a6, a7, a8⟩ := bh_shut g7 s1 g3 g6 (by omega) s3 (by omega) hbw hp40 (Or.inl ⟨rfl, c⟩) (by omega) (by omega) ht
      rw [if_neg (by first | decide | exact tnf | exact fnt)] at a4
      have hL3 := tk_le a2
      refine ⟨τ, Or.inl ⟨?_, f1.tr a7.cc (Nat.le_refl _), υ4, q3, kc3, j, l, by omega, ⟨a2, s2.fr a7, a4, by omega, by omega⟩, g9.fr a7.cc a5, g10.tr a5 g9.2.2.2.1, fun d υ3 hd hs => (g2.tr (a8 υ3 (st_7 hs (by omega)))).wk (by omega)⟩⟩
      rw [if_pos c, a1, bnd, bnd, if_neg (by first | decide | exact tnf | exact fnt)]
    · rw [if_neg c, bnd, if_pos rfl]
      refine ⟨_, Or.inr ⟨rfl, (BAD.r (t := t) (k := k) g7 (by omega) (by omega) (bh_1 g7 g3 (by omega) hbw ?_ (by rw [hO]; decide))).pre g2 (by omega) (by omega) g8 (Nat.le_refl _) f1⟩⟩
      unfold pto
      rw [hO, if_pos rfl, if_neg c]
  · rw [e1, bnd, if_pos rfl]
    exact ⟨σ', Or.inr ⟨rfl, e2⟩⟩
/-- minus, digits, sums -/
theorem opd_u (h5 : K5 N rec (o + 1)) (hS : S2 B L t lw σ υ q kc (o + 1) (o + 1) i k (c :: p) false) (ht : t < 4) (hlw : lw < 3) (ho : o < 8) (hl : p.length ≤ 7 * o + 5) (hc : rkO c = 7) (hc2 : c ≤ 22) (hc1 : c ≠ 1) (hx : x ≤ 43) (hV : ∀ (O P C D : Nat → Nat) (i j k l : Nat), VL O P C D i j k l → O j = x → C l = c → VL O P C D i (j + 1) k (l + 1)) : CT ((rec 5 595 0 σ).bind fun r1 => (g_X2_order N 595 (nI x) (nI 0) r1.2).bind fun r3 => some (r1.1, r3.2)) (OK7 N B L t lw o (o + 1) σ υ q i k p) (BAD N L t σ υ q k) := by
  have lc : (c :: p).length = p.length + 1 := rfl
  obtain ⟨σ', ⟨e1, f1, υ2, q', kc', j, l, g1, ⟨s1, s2, s3, s4, s5⟩, g9, g10, g11⟩ | ⟨e1, e2⟩⟩ := h5 B L t lw σ υ q kc i k (c :: p) ⟨hS, ht, hlw, by omega, by omega⟩ (fun _ y => by have : rkO c ≤ 3 := y.2; omega)
  · have hL := tk_le s1
    obtain ⟨υb, b1, b2, b3, b4⟩ := pop_e (N := N) s3 ht (by omega) (by omega) (by omega) (by omega)
    rw [if_pos (Or.inl hc)] at b2
    obtain ⟨r1, r2, r3⟩ := ord_r (x := x) (v := 0) s2
    have EC := b4.cc (by omega) (by omega)
    have seg : SG false t (ordS j x 0 σ') υb i j k l := g9.fr ord_f b3.r
    refine ⟨ordS j x 0 σ', Or.inl ⟨?_, f1.tr ord_f g9.2.2.1, υb, q', kc', j + 1, l + 1, g1, ⟨ord_t (s1.pp b3), r1, b2, by omega, by omega⟩, ⟨fun y => hV _ _ _ _ _ _ _ _ (seg.1 y) ?_ EC.1, fun y => (by cases y), ?_, ?_, seg.2.2.2.2.1.tr (OB.on r2 r3 hx (by omega)), seg.2.2.2.2.2.tr (RB.on b4 hc2 (by omega) (by omega))⟩, g10.tr b3.r g9.2.2.2.1, fun d υ3 hd hs => g11 (d + 1) υ3 (by omega) (fun n => ?_)⟩⟩
    · rw [e1, bnd, ord_e s2.2.2 (by omega), bnd]
    · unfold cO
      rw [r2, nI_clamp (by omega)]
    · have := g9.2.2.1
      omega
    · have := g9.2.2.2.1
      omega
    · rw [← Nat.add_assoc, b1 7 _ (by omega) (by omega)]
      exact hs n
  · rw [e1, bnd]
    obtain ⟨v, σ3, o1, o2, o3, o4⟩ := ord_any (N := N) (nI x) (nI 0) σ'
    exact ⟨σ3, Or.inr ⟨by rw [o1, bnd], e2.post o2 o3 o4⟩⟩
theorem opd_e (h8 : K8 N rec (o + 1)) (h2 : K2 N rec o) (h5 : K5 N rec (o + 1)) (hS : S2 B L t lw σ υ q kc (o + 1) (o + 1) i k (opc kx :: p) false) (ht : t < 4) (hlw : lw < 3) (ho : o < 8) (hl : p.length ≤ 7 * o + 5) (hk : kx = 36 ∨ kx = 33 ∨ kx = 18 ∨ kx = 19 ∨ kx = 20) : CT (gb_X2_readOpened_0 N rec 595 (nI kx) σ) (OK7 N B L t lw o (o + 1) σ υ q i k p) (BAD N L t σ υ q k) := by
  unfold gb_X2_readOpened_0
  rcases hk with rfl | rfl | rfl | rfl | rfl
  · rw [if_pos (by decide)]
    exact opd_p h8 hS ht hlw ho hl
  · rw [if_neg (by first | decide | exact tnf | exact fnt), if_neg (by first | decide | exact tnf | exact fnt)]
    have := opd_u (x := 43) (c := 5) h5 hS ht hlw ho hl (by decide) (by omega) (by omega) (by omega) (fun O P C D i j k l h e1 e2 => VL.neg h e1 e2)
    exact this
  · rw [if_neg (by first | decide | exact tnf | exact fnt), if_neg (by first | decide | exact tnf | exact fnt)]
    have := opd_u (x := 18) (c := 2) h5 hS ht hlw ho hl (by decide) (by omega) (by omega) (by omega) (fun O P C D i j k l h e1 e2 => VL.dig h e1 e2)
    exact this
  · rw [if_neg (by first | decide | exact tnf | exact fnt), if_neg (by first | decide | exact tnf | exact fnt)]
    have := opd_u (x := 19) (c := 3) h5 hS ht hlw ho hl (by decide) (by omega) (by omega) (by omega) (fun O P C D i j k l h e1 e2 => VL.sum h e1 e2)
    exact this
  · rw [if_neg (by first | decide | exact tnf | exact fnt), if_pos (by decide), et]
    exact h2 B L t lw σ υ q kc i k p hS ht hlw ho hl
end OPD
