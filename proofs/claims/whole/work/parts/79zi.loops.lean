/-! products, sums, what is asked -/
section LPS
variable {N : Mem} {σ σ' σ1 σ2 τ υ υ' υ1 υ2 υ3 υ'' : ST} {B : Nat → Nat} {L q q1 q2 q3 kc kc1 kc2 kx t lw o oc o1 j j2 l l1 l2 k k1 k' i i1 i' x v w a a' m m' d d' c c0 f e : Nat} {p pend : List Nat} {b vb : Bool} {rec : RCX}
theorem bin_loop {F : Nat → Bool → Int32 → ST → Option (Bool × ST)} {rr : ST → Option (Bool × ST)} {isop : Nat → Prop} {cof : Nat → Nat}
    (hF0 : ∀ n x σ, F (n + 1) false x σ = some (false, σ))
    (hF1 : ∀ n x σ kc, x < 300 → kc ≤ 42 → σ.1 593 2 = nI kc → ¬ isop kc → F (n + 1) true (nI x) σ = some (true, σ))
    (hF2 : ∀ n x σ kc, x < 300 → kc ≤ 42 → σ.1 593 2 = nI kc → isop kc → F (n + 1) true (nI x) σ = (g_X7_advance N 593 σ).bind fun r1 => (rr r1).bind fun r2 => (g_X2_order N 595 (nI kc) (nI 0) r2.2).bind fun r3 => F n r2.1 (nI (x + 1)) r3.2)
    (ht : t < 4) (htop : topr p < a) (ha : a < 7) (haa : a ≤ a')
    (hop : ∀ kc, isop kc → kc ≤ 40 ∧ srO (cof kc) = a ∧ rkO (cof kc) = a ∧ cof kc ≠ 20 ∧ (∀ pend, (∀ x, x ∈ pend → a ≤ rkO x) → (vb = true → cmpd (pend ++ p) = true) → bwo kc (pend ++ p) = some (cof kc)) ∧ ∀ (O P C D : Nat → Nat) (i j k l j' l' : Nat), (vb = false → VL O P C D i j k l) ∧ (vb = true → VB O P C D i j k l) → (vb = false → VL O P C D j j' l l') ∧ (vb = true → VB O P C D j j' l l') → O j' = kc → C l' = cof kc → (vb = false → VL O P C D i (j' + 1) k (l' + 1)) ∧ (vb = true → VB O P C D i (j' + 1) k (l' + 1)))
    (hr : ∀ kc, isop kc → ∀ τ υ3 q3 kc3 j l, S2 B L t lw τ υ3 q3 kc3 o o j l (cof kc :: p) false → CT (rr τ) (fun σ2 => ∃ q2 kc2, OKL N B L t lw a' o vb τ υ3 q3 j l (cof kc :: p) σ2 q2 kc2 ∧ RES a' kc2) (BAD N L t τ υ3 q3 l))
    (hres : ∀ kc, RES a' kc → ¬ isop kc → RES a kc) :
    ∀ n x σ1 q1 kc1, OKL N B L t lw a o vb σ υ q i k p σ1 q1 kc1 → RES a' kc1 → x < q1 → L < n + q1 → CT (F n true (nI x) σ1) (OKA N B L t lw a o vb σ υ q i k p) (BAD N L t σ υ q k) := by
  intro n
  induction n with
  | zero =>
    intro x σ1 q1 kc1 h _ _ h2
    obtain ⟨_, υ', υ2, j, l, pend, o1, l1, g1, g2, g3, g4, g5, g6, g7, _⟩ := h
    have := tk_le g7
    omega
  | succ n ih =>
    intro x σ1 q1 kc1 h hR h1 h2
    have hT : ∃ υ', TKN B L σ1 υ' q1 kc1 := by
      obtain ⟨_, υ', υ2, j, l, pend, o1, l1, g1, g2, g3, g4, g5, g6, g7, _⟩ := h
      exact ⟨υ', g7⟩
    obtain ⟨υ', hT⟩ := hT
    have hL := tk_le hT
    have hkb := kd_b hT
    have c3 := hT.2.1.2.2.1
    by_cases c : isop kc1
    · obtain ⟨p1, p2, p3, p4, p5, p6⟩ := hop kc1 c
      have hq := tk_lt hT (by omega)
      rw [hF2 n x σ1 kc1 (by omega) hkb c3 c]
      obtain ⟨τ, b1, ⟨σ2, b2, b3⟩ | ⟨σ2, v, σ3, q2, kc2, b2, b3, b4, b5, b6, b7⟩⟩ := bin_step (rr := rr) (x := kc1) (vc := vb) (a2 := a) h ht p5 (by omega) p3 (by omega) p4 (by omega) (by omega) haa p6 (fun _ _ _ y => y (by assumption)) (hr kc1 c)
      · rw [b1, bnd, b2, bnd]
        obtain ⟨v, σ3, o1, o2, o3, o4⟩ := ord_any (N := N) (nI kc1) (nI 0) σ2
        obtain ⟨n', rfl⟩ : ∃ n', n = n' + 1 := ⟨n - 1, by omega⟩
        refine ⟨σ3, Or.inr ⟨?_, b3.post o2 o3 o4⟩⟩
        show ((g_X2_order N 595 (nI kc1) (nI 0) σ2).bind _) = _
        rw [o1, bnd]
        exact hF0 _ _ _
      · rw [b1, bnd, b2, bnd]
        show CT ((g_X2_order N 595 (nI kc1) (nI 0) σ2).bind _) _ _
        rw [b3, bnd]
        exact ih (x + 1) σ3 q2 kc2 b4 b5 (by omega) (by omega)
    · rw [hF1 n x σ1 kc1 (by omega) hkb c3 c]
      exact ⟨σ1, Or.inl ⟨rfl, q1, kc1, h, hres kc1 hR c⟩⟩
theorem okl_d (h : OKL N B L t lw a' o vb σ υ q i k p σ1 q1 kc1) (ha : a ≤ a') : OKL N B L t lw a o vb σ υ q i k p σ1 q1 kc1 := by
  obtain ⟨f1, υ', υ2, j, l, pend, o1, l1, g1, g2, g3, g4, g5, g6, g7⟩ := h
  exact ⟨f1, υ', υ2, j, l, pend, o1, l1, g1, g2, g3, fun x hx => by have := g4 x hx; omega, g5, g6.dn ha, g7⟩
theorem ok7_l (h : OK7 N B L t lw o o σ υ q i k p σ') (ht : topr p < 7) (hl : p.length ≤ 70) : ∃ q' kc', OKL N B L t lw 7 o false σ υ q i k p σ' q' kc' ∧ RES 7 kc' := by
  obtain ⟨f1, υ2, q', kc', j, l, g1, g2, g9, g10, g11⟩ := h
  refine ⟨q', kc', ⟨f1, υ2, υ2, j, l, [], o, l, g1, g11 1 υ2 (by omega) (fun n => st_end g2.2.2.1 (by omega) ht (Nat.le_refl _) n), g2.2.2.1, fun x hx => (by cases hx), hl, Pp.rfl, g2.1, g10, g2, g9, g10, fun y => by cases y⟩, ?_⟩
  exact ⟨by omega, by omega, by omega, by omega⟩
/-- the first one, and then the loop -/
theorem bin_e {F : Nat → Bool → Int32 → ST → Option (Bool × ST)} {r0 : Option (Bool × ST)} (hF0 : ∀ n x σ, F (n + 1) false x σ = some (false, σ)) (haa : a ≤ a')
    (h0 : CT r0 (fun σ2 => ∃ q2 kc2, OKL N B L t lw a' o vb σ υ q i k p σ2 q2 kc2 ∧ RES a' kc2) (BAD N L t σ υ q k))
    (hl : ∀ n x σ1 q1 kc1, OKL N B L t lw a o vb σ υ q i k p σ1 q1 kc1 → RES a' kc1 → x < q1 → L < n + q1 → CT (F n true (nI x) σ1) (OKA N B L t lw a o vb σ υ q i k p) (BAD N L t σ υ q k)) (hL : L ≤ 300) :
    CT (r0.bind fun r4 => F fu r4.1 0 r4.2) (OKA N B L t lw a o vb σ υ q i k p) (BAD N L t σ υ q k) := by
  obtain ⟨σ', ⟨e1, q2, kc2, e2, e3⟩ | ⟨e1, e2⟩⟩ := h0
  · rw [e1, bnd]
    have := e2.2
    obtain ⟨_, _, _, _, _, _, _, g1, _⟩ := this
    exact hl fu 0 σ' q2 kc2 (okl_d e2 haa) e3 (by omega) (by unfold fu; omega)
  · rw [e1, bnd]
    obtain ⟨z, hz⟩ : ∃ z, fu = z + 1 := ⟨999999, rfl⟩
    refine ⟨σ', Or.inr ⟨?_, e2⟩⟩
    rw [hz]
    exact hF0 _ _ _
theorem keq (h : kc ≤ 42) (z : Nat) (hz : z ≤ 42) : (nI kc = nI z) = (kc = z) := propext (nI_eq (by omega) (by omega))
theorem prod_e (h5 : K5 N rec o) (h : PRE B L t lw σ υ q kc o i k p 4) (hk : kc = 26 → ¬ askA p) (htop : topr p < 6) : CT (gb_X2_readProduct_0 N rec 595 σ) (OKA N B L t lw 6 o false σ υ q i k p) (BAD N L t σ υ q k) := by
  obtain ⟨hS, ht, hlw, ho, hl⟩ := h
  unfold gb_X2_readProduct_0
  have hF0 : ∀ n x σ, gb_X2_readProduct_7 N rec (n + 1) 595 false x σ = some (false, σ) := by
    intro n x σ
    rw [gb_X2_readProduct_7, if_pos rfl, ite_self]
  refine bin_e (a' := 7) (F := fun n b x σ => gb_X2_readProduct_7 N rec n 595 b x σ) hF0 (by omega) ?_ (bin_loop (rr := rec 5 595 0) (isop := fun kc => kc = 34 ∨ kc = 35) (cof := fun kc => kc - 26) hF0 ?_ ?_ ht htop (by omega) (by omega) ?_ ?_ ?_) (tk_le hS.1).2
  · obtain ⟨σ', ⟨e1, e2⟩ | ⟨e1, e2⟩⟩ := h5 B L t lw σ υ q kc i k p ⟨hS, ht, hlw, ho, by omega⟩ hk
    · exact ⟨σ', Or.inl ⟨e1, ok7_l e2 (by omega) (by omega)⟩⟩
    · exact ⟨σ', Or.inr ⟨e1, e2⟩⟩
  · intro n x σ kc hx hkb h1 h2
    rw [gb_X2_readProduct_7, show (300 : Int32) = nI 300 from rfl, if_neg (nI_ge hx (by omega)), if_neg (by first | decide | exact tnf | exact fnt), h1, show (34 : Int32) = nI 34 from rfl, show (35 : Int32) = nI 35 from rfl]
    simp only [keq hkb 34 (by omega), keq hkb 35 (by omega)]
    rw [if_neg (by omega), if_neg (by omega)]
  · intro n x σ kc hx hkb h1 h2
    rw [gb_X2_readProduct_7, show (300 : Int32) = nI 300 from rfl, if_neg (nI_ge hx (by omega)), if_neg (by first | decide | exact tnf | exact fnt)]
    have e42 : gb_X2_readProduct_42 N rec (gb_X2_readProduct_7 N rec n) 595 (nI x) σ = (g_X7_advance N 593 σ).bind fun r1 => (rec 5 595 0 r1).bind fun r2 => (g_X2_order N 595 (nI kc) (nI 0) r2.2).bind fun r3 => gb_X2_readProduct_7 N rec n 595 r2.1 (nI (x + 1)) r3.2 := by
      unfold gb_X2_readProduct_42
      rw [h1, nI_1]
      rfl
    rw [e42, h1, show (34 : Int32) = nI 34 from rfl, show (35 : Int32) = nI 35 from rfl]
    simp only [keq hkb 34 (by omega), keq hkb 35 (by omega)]
    rcases h2 with e | e
    · rw [if_pos e]
    · rw [if_neg (by omega), if_pos e]
  · intro kc h2
    refine ⟨by omega, ?_, ?_, by omega, fun pend _ _ => ?_, fun O P C D i j k l j' l' v1 v2 e1 e2 => ⟨fun y => VL.two (o := kc) (c := kc - 26) (v1.1 y) (v2.1 y) (by omega) (by omega) (by omega) e1 e2, fun y => by cases y⟩⟩
    · rcases h2 with rfl | rfl <;> rfl
    · rcases h2 with rfl | rfl <;> rfl
    · unfold bwo
      rcases h2 with rfl | rfl <;> rfl
  · intro kc h2 τ υ3 q3 kc3 j l S3
    have lc : ((kc - 26) :: p).length = p.length + 1 := rfl
    have r6 : rkO (kc - 26) = 6 := by rcases h2 with rfl | rfl <;> rfl
    obtain ⟨σ', ⟨e1, e2⟩ | ⟨e1, e2⟩⟩ := h5 B L t lw τ υ3 q3 kc3 j l ((kc - 26) :: p) ⟨S3, ht, hlw, ho, by omega⟩ (fun _ y => by have : rkO (kc - 26) ≤ 3 := y.2; omega)
    · exact ⟨σ', Or.inl ⟨e1, ok7_l e2 (by show rkO (kc - 26) < 7; omega) (by omega)⟩⟩
    · exact ⟨σ', Or.inr ⟨e1, e2⟩⟩
  · intro kc h1 h2
    exact ⟨fun _ => by omega, by omega, by omega, by omega⟩
theorem sum_e (h7 : K7 N rec o) (h : PRE B L t lw σ υ q kc o i k p 3) (hk : kc = 26 → ¬ askA p) (htop : topr p < 5) : CT (gb_X2_readSum_0 N rec 595 σ) (OKA N B L t lw 5 o false σ υ q i k p) (BAD N L t σ υ q k) := by
  obtain ⟨hS, ht, hlw, ho, hl⟩ := h
  unfold gb_X2_readSum_0
  have hF0 : ∀ n x σ, gb_X2_readSum_7 N rec (n + 1) 595 false x σ = some (false, σ) := by
    intro n x σ
    rw [gb_X2_readSum_7, if_pos rfl, ite_self]
  refine bin_e (a' := 6) (F := fun n b x σ => gb_X2_readSum_7 N rec n 595 b x σ) hF0 (by omega) ?_ (bin_loop (rr := rec 7 595 0) (isop := fun kc => kc = 32 ∨ kc = 33) (cof := fun kc => kc - 26) hF0 ?_ ?_ ht htop (by omega) (by omega) ?_ ?_ ?_) (tk_le hS.1).2
  · exact h7 B L t lw σ υ q kc i k p ⟨hS, ht, hlw, ho, by omega⟩ hk (by omega)
  · intro n x σ kc hx hkb h1 h2
    rw [gb_X2_readSum_7, show (300 : Int32) = nI 300 from rfl, if_neg (nI_ge hx (by omega)), if_neg (by first | decide | exact tnf | exact fnt), h1, show (32 : Int32) = nI 32 from rfl, show (33 : Int32) = nI 33 from rfl]
    simp only [keq hkb 32 (by omega), keq hkb 33 (by omega)]
    rw [if_neg (by omega), if_neg (by omega)]
  · intro n x σ kc hx hkb h1 h2
    rw [gb_X2_readSum_7, show (300 : Int32) = nI 300 from rfl, if_neg (nI_ge hx (by omega)), if_neg (by first | decide | exact tnf | exact fnt)]
    have e42 : gb_X2_readSum_42 N rec (gb_X2_readSum_7 N rec n) 595 (nI x) σ = (g_X7_advance N 593 σ).bind fun r1 => (rec 7 595 0 r1).bind fun r2 => (g_X2_order N 595 (nI kc) (nI 0) r2.2).bind fun r3 => gb_X2_readSum_7 N rec n 595 r2.1 (nI (x + 1)) r3.2 := by
      unfold gb_X2_readSum_42
      rw [h1, nI_1]
      rfl
    rw [e42, h1, show (32 : Int32) = nI 32 from rfl, show (33 : Int32) = nI 33 from rfl]
    simp only [keq hkb 32 (by omega), keq hkb 33 (by omega)]
    rcases h2 with e | e
    · rw [if_pos e]
    · rw [if_neg (by omega), if_pos e]
  · intro kc h2
    refine ⟨by omega, ?_, ?_, by omega, fun pend _ _ => ?_, fun O P C D i j k l j' l' v1 v2 e1 e2 => ⟨fun y => VL.two (o := kc) (c := kc - 26) (v1.1 y) (v2.1 y) (by omega) (by omega) (by omega) e1 e2, fun y => by cases y⟩⟩
    · rcases h2 with rfl | rfl <;> rfl
    · rcases h2 with rfl | rfl <;> rfl
    · unfold bwo
      rcases h2 with rfl | rfl <;> rfl
  · intro kc h2 τ υ3 q3 kc3 j l S3
    have lc : ((kc - 26) :: p).length = p.length + 1 := rfl
    have r5 : rkO (kc - 26) = 5 := by rcases h2 with rfl | rfl <;> rfl
    exact h7 B L t lw τ υ3 q3 kc3 j l ((kc - 26) :: p) ⟨S3, ht, hlw, ho, by omega⟩ (fun _ y => by have : rkO (kc - 26) ≤ 3 := y.2; omega) (by show rkO (kc - 26) < 6; omega)
  · intro kc h1 h2
    exact ⟨fun _ => h1.1 (by omega), fun _ => by omega, by omega, by omega⟩
theorem both_e (h0 : K0 N rec o) (h : PRE B L t lw σ υ q kc o i k p 1) (ho41 : opn p = some 41) (htop : topr p < 2) : CT (gb_X2_readBoth_0 N rec 595 σ) (OKA N B L t lw 2 o true σ υ q i k p) (BAD N L t σ υ q k) := by
  obtain ⟨hS, ht, hlw, ho, hl⟩ := h
  unfold gb_X2_readBoth_0
  have hF0 : ∀ n x σ, gb_X2_readBoth_7 N rec (n + 1) 595 false x σ = some (false, σ) := by
    intro n x σ
    rw [gb_X2_readBoth_7, if_pos rfl, ite_self]
  refine bin_e (a' := 3) (F := fun n b x σ => gb_X2_readBoth_7 N rec n 595 b x σ) hF0 (by omega) ?_ (bin_loop (rr := rec 0 595 0) (isop := fun kc => kc = 25) (cof := fun _ => 21) hF0 ?_ ?_ ht htop (by omega) (by omega) ?_ ?_ ?_) (tk_le hS.1).2
  · exact h0 B L t lw σ υ q kc i k p ⟨hS, ht, hlw, ho, by omega⟩ ho41 (by omega)
  · intro n x σ kc hx hkb h1 h2
    rw [gb_X2_readBoth_7, show (300 : Int32) = nI 300 from rfl, if_neg (nI_ge hx (by omega)), if_neg (by first | decide | exact tnf | exact fnt), h1, show (25 : Int32) = nI 25 from rfl, if_neg (fun y => h2 ((keq hkb 25 (by omega)).mp y))]
  · intro n x σ kc hx hkb h1 h2
    rw [gb_X2_readBoth_7, show (300 : Int32) = nI 300 from rfl, if_neg (nI_ge hx (by omega)), if_neg (by first | decide | exact tnf | exact fnt), h1, show (25 : Int32) = nI 25 from rfl, if_pos ((keq hkb 25 (by omega)).mpr h2), nI_1]
    obtain rfl : kc = 25 := h2
    rfl
  · intro kc h2
    obtain rfl : kc = 25 := h2
    refine ⟨by omega, rfl, rfl, by omega, fun pend h3 h4 => ?_, fun O P C D i j k l j' l' v1 v2 e1 e2 => ⟨fun y => (by cases y), fun y => VB.and (v1.2 y) (v2.2 y) e1 e2⟩⟩
    unfold bwo
    rw [if_neg (by omega), if_neg (by omega), if_neg (by omega), if_neg (by omega), opn_a (rk_5 h3 (by omega)), if_pos ho41, if_pos (h4 rfl), if_pos rfl]
  · intro kc h2 τ υ3 q3 kc3 j l S3
    have lc : (21 :: p).length = p.length + 1 := rfl
    exact h0 B L t lw τ υ3 q3 kc3 j l (21 :: p) ⟨S3, ht, hlw, ho, by omega⟩ ho41 (by show rkO 21 ≤ 3; decide)
  · intro kc h1 h2
    exact ⟨fun _ => h1.1 (by omega), fun _ => h1.2.1 (by omega), fun _ => h2, by omega⟩
theorem eith_e (h1 : K1 N rec o) (h : PRE B L t lw σ υ q kc o i k p 0) (ho41 : opn p = some 41) (htop : topr p < 1) : CT (gb_X2_readEither_0 N rec 595 σ) (OKA N B L t lw 1 o true σ υ q i k p) (BAD N L t σ υ q k) := by
  obtain ⟨hS, ht, hlw, ho, hl⟩ := h
  unfold gb_X2_readEither_0
  have hF0 : ∀ n x σ, gb_X2_readEither_7 N rec (n + 1) 595 false x σ = some (false, σ) := by
    intro n x σ
    rw [gb_X2_readEither_7, if_pos rfl, ite_self]
  refine bin_e (a' := 2) (F := fun n b x σ => gb_X2_readEither_7 N rec n 595 b x σ) hF0 (by omega) ?_ (bin_loop (rr := rec 1 595 0) (isop := fun kc => kc = 24) (cof := fun _ => 22) hF0 ?_ ?_ ht htop (by omega) (by omega) ?_ ?_ ?_) (tk_le hS.1).2
  · exact h1 B L t lw σ υ q kc i k p ⟨hS, ht, hlw, ho, by omega⟩ ho41 (by omega)
  · intro n x σ kc hx hkb h1 h2
    rw [gb_X2_readEither_7, show (300 : Int32) = nI 300 from rfl, if_neg (nI_ge hx (by omega)), if_neg (by first | decide | exact tnf | exact fnt), h1, show (24 : Int32) = nI 24 from rfl, if_neg (fun y => h2 ((keq hkb 24 (by omega)).mp y))]
  · intro n x σ kc hx hkb h1 h2
    rw [gb_X2_readEither_7, show (300 : Int32) = nI 300 from rfl, if_neg (nI_ge hx (by omega)), if_neg (by first | decide | exact tnf | exact fnt), h1, show (24 : Int32) = nI 24 from rfl, if_pos ((keq hkb 24 (by omega)).mpr h2), nI_1]
    obtain rfl : kc = 24 := h2
    rfl
  · intro kc h2
    obtain rfl : kc = 24 := h2
    refine ⟨by omega, rfl, rfl, by omega, fun pend h3 h4 => ?_, fun O P C D i j k l j' l' v1 v2 e1 e2 => ⟨fun y => (by cases y), fun y => VB.or (v1.2 y) (v2.2 y) e1 e2⟩⟩
    unfold bwo
    rw [if_neg (by omega), if_neg (by omega), if_neg (by omega), if_neg (by omega), opn_a (rk_5 h3 (by omega)), if_pos ho41, if_pos (h4 rfl), if_neg (by omega), if_pos rfl]
  · intro kc h2 τ υ3 q3 kc3 j l S3
    have lc : (22 :: p).length = p.length + 1 := rfl
    exact h1 B L t lw τ υ3 q3 kc3 j l (22 :: p) ⟨S3, ht, hlw, ho, by omega⟩ ho41 (by show rkO 22 < 2; decide)
  · intro kc h1 h2
    exact ⟨fun _ => h1.1 (by omega), fun _ => h1.2.1 (by omega), fun _ => h1.2.2.1 (by omega), fun _ => h2⟩
end LPS
