/-! an operand is read, its operator settled -/
section PO2
variable {N : Mem} {σ σ' σ1 σ2 τ υ υ' υ1 υ2 υ3 υ'' : ST} {B : Nat → Nat} {L q q1 q2 q3 kc kc1 kc2 t lw o oc o1 j j2 l l1 l2 k k1 k' i i1 i' x v w a a' m m' d d' c c0 f : Nat} {p pend : List Nat} {b vb : Bool}
theorem okl_pop (h : OKL N B L t lw a' o vb τ υ3 q3 j l (c :: p) σ2 q2 kc2) (ha : a ≤ a') (hc : a ≤ rkO c) (h1 : 1 ≤ a) (ht : t < 4) (ho : rkO c = 7 ∨ c = 20 → 1 ≤ o) : ∃ υ' υb j2 l2 pend o1 l1, FCc j τ σ2 ∧ q3 < q2 ∧ Go N (q2 - q3) υ3 υ' ∧ RDr υ' t lw o1 l1 ((pend ++ [c]) ++ p) true ∧ (∀ x, x ∈ pend ++ [c] → a ≤ rkO x) ∧ ((pend ++ [c]) ++ p).length ≤ 70 ∧ Pp N (pend ++ [c]).length a υ' υb ∧ TKN B L σ2 υ' q2 kc2 ∧ TKN B L σ2 υb q2 kc2 ∧ RDc σ2 lw o j2 ∧ RDr υb t lw (if rkO c = 7 ∨ c = 20 then o - 1 else o) (l2 + 1) p true ∧ SG vb t σ2 υb j j2 l l2 ∧ EM t υb l2 c 0 ∧ FRr t l υ3 υb ∧ FRr t l υ3 υ' ∧ (vb = true → cmpd ((pend ++ [c]) ++ p) = true) ∧ j2 + p.length + 1 ≤ q2 ∧ l2 + p.length + 1 ≤ q2 ∧ (∀ x, x ∈ pend → a' ≤ rkO x) := by
  obtain ⟨f1, υ', υ2, j2, l2, pend, o1, l1, g1, g2, g3, g4, g5, g6, g7, g8, ⟨s1, s2, s3, s4, s5⟩, g9, g10, g11⟩ := h
  have hlen : (c :: p).length = p.length + 1 := rfl
  have happ : (pend ++ [c]) ++ p = pend ++ c :: p := by rw [List.append_assoc]; rfl
  have hla : (pend ++ c :: p).length = pend.length + (p.length + 1) := List.length_append
  have hL := tk_le s1
  obtain ⟨υb, b1, b2, b3, b4⟩ := pop_e (N := N) s3 ht (by omega) (by omega) (by omega) ho
  refine ⟨υ', υb, j2, l2, pend, o1, l1, f1, g1, g2, by rw [happ]; exact g3, fun x hx => ?_, by rw [happ]; exact g5, ?_, g7, s1.pp b3, s2, b2, g9.fr FCc.rfl b3.r, b4, g10.tr b3.r g9.2.2.2.1, g8, by rw [happ]; exact g11, by omega, by omega, g4⟩
  · rcases List.mem_append.mp hx with y | y
    · have := g4 x y
      omega
    · obtain rfl := List.mem_singleton.mp y
      exact hc
  · have e : (pend ++ [c]).length = 1 + pend.length := by rw [List.length_append, Nat.add_comm]; rfl
    rw [e]
    exact (g6.dn ha).tr (b1.dn hc)
/-- an operator between two -/
theorem bin_step {rr : ST → Option (Bool × ST)} {vc : Bool} {a2 : Nat} (h : OKL N B L t lw a o vb σ υ q i k p σ1 q1 kc1) (ht : t < 4) (hb : ∀ pend, (∀ x, x ∈ pend → a ≤ rkO x) → (vb = true → cmpd (pend ++ p) = true) → bwo kc1 (pend ++ p) = some c) (hs : srO c ≤ a) (hrc : rkO c = a2) (hc7 : a2 < 7) (hc20 : c ≠ 20) (htop : topr p < srO c) (hx : x ≤ 43) (haa : a2 ≤ a')
    (hV : ∀ (O P C D : Nat → Nat) (i j k l j' l' : Nat), (vb = false → VL O P C D i j k l) ∧ (vb = true → VB O P C D i j k l) → (vb = false → VL O P C D j j' l l') ∧ (vb = true → VB O P C D j j' l l') → O j' = x → C l' = c → (vc = false → VL O P C D i (j' + 1) k (l' + 1)) ∧ (vc = true → VB O P C D i (j' + 1) k (l' + 1)))
    (hcm : vc = true → ∀ pend, (∀ x, x ∈ pend → a' ≤ rkO x) → (vb = true → cmpd (pend ++ c :: p) = true) → cmpd (pend ++ c :: p) = true)
    (hr : ∀ τ υ3 q3 kc3 j l, S2 B L t lw τ υ3 q3 kc3 o o j l (c :: p) false → CT (rr τ) (fun σ2 => ∃ q2 kc2, OKL N B L t lw a' o vb τ υ3 q3 j l (c :: p) σ2 q2 kc2 ∧ RES a' kc2) (BAD N L t τ υ3 q3 l)) :
    ∃ τ, g_X7_advance N 593 σ1 = some τ ∧ ((∃ σ2, rr τ = some (false, σ2) ∧ BAD N L t σ υ q k σ2) ∨ ∃ σ2 v σ3 q2 kc2, rr τ = some (true, σ2) ∧ g_X2_order N 595 (nI x) (nI 0) σ2 = some (v, σ3) ∧ OKL N B L t lw a2 o vc σ υ q i k p σ3 q2 kc2 ∧ RES a' kc2 ∧ q1 + 1 < q2 ∧ q2 ≤ L) := by
  obtain ⟨f1, υ', υ2, j, l, pend, o1, l1, g1, g2, g3, g4, g5, g6, g7, g8, ⟨s1, s2, s3, s4, s5⟩, g9, g10, g11⟩ := h
  have hb' := hb pend g4 g11
  have hL := tk_le s1
  obtain ⟨bb1, bb2, bb3⟩ := bwo_b hb'
  have sb := srO_b bb1 bb2
  have a21 : 1 ≤ a2 := by
    have := rkO_0 (x := c)
    omega
  obtain ⟨τ, υ3, q3, kc3, a1, a2', a3, a4, a5, a6, a7⟩ := bh_op g7 s1 g3 g6 s3 (by omega) hb' hs htop (by omega)
  have S3 : S2 B L t lw τ υ3 q3 kc3 o o j l (c :: p) false := ⟨a3, s2.fr a7, a5, by show j + (p.length + 1) ≤ q3; omega, by show l + (p.length + 1) ≤ q3; omega⟩
  have hL3 := tk_le a3
  have go3 : Go N (q3 - q) υ υ3 := (g2.tr a2').wk (by omega)
  have fr3 : FRr t k υ υ3 := g10.tr a6 g9.2.2.2.1
  have fc3 : FCc i σ τ := f1.tr a7.cc (Nat.le_refl _)
  refine ⟨τ, a1, ?_⟩
  obtain ⟨σ2, ⟨e1, q2, kc2, e2, e3⟩ | ⟨e1, e2⟩⟩ := hr τ υ3 q3 kc3 j l S3
  · right
    obtain ⟨υ4, υb, j2, l2, pend2, o2, l3, b1, b2, b3, b4, b5, b6, b7, b8, b9, b10, b11, b12, b13, b14, b15, b16, b17, b18, b19⟩ := okl_pop e2 haa (by omega) a21 ht (by omega)
    have hL2 := tk_le b8
    obtain ⟨r1, r2, r3⟩ := ord_r (x := x) (v := 0) b10
    rw [if_neg (by omega)] at b11
    have EMc := b13.cc (by omega) (by omega)
    have happ : (pend2 ++ [c]) ++ p = pend2 ++ c :: p := by rw [List.append_assoc]; rfl
    refine ⟨σ2, nI j2, ordS j2 x 0 σ2, q2, kc2, e1, ord_e b10.2.2 (by omega), ⟨(fc3.tr b1 g9.2.2.1).tr ord_f (by have := g9.2.2.1; have := b12.2.2.1; omega), υ4, υb, j2 + 1, l2 + 1, pend2 ++ [c], o2, l3, by omega, (go3.tr b3).wk (by omega), b4, b5, b6, b7, ord_t b8, fr3.tr b15 g9.2.2.2.1, ⟨ord_t b9, r1, b11, by omega, by omega⟩, ?_, fr3.tr b14 g9.2.2.2.1, fun y => by rw [happ] at b16 ⊢; exact hcm y pend2 b19 b16⟩, e3, by omega, by omega⟩
    have seg1 : SG vb t (ordS j2 x 0 σ2) υb i j k l := g9.fr ((a7.cc.tr b1 (Nat.le_refl _)).tr ord_f b12.2.2.1) (a6.tr b14 (Nat.le_refl _))
    have seg2 : SG vb t (ordS j2 x 0 σ2) υb j j2 l l2 := b12.fr ord_f FRr.rfl
    have cO2 : cO (ordS j2 x 0 σ2) j2 = x := by
      unfold cO
      rw [r2, nI_clamp (by omega)]
    have V := hV _ _ _ _ _ _ _ _ _ _ ⟨seg1.1, seg1.2.1⟩ ⟨seg2.1, seg2.2.1⟩ cO2 EMc.1
    refine ⟨V.1, V.2, ?_, ?_, (seg1.2.2.2.2.1.tr seg2.2.2.2.2.1).tr (OB.on r2 r3 hx (by omega)), (seg1.2.2.2.2.2.tr seg2.2.2.2.2.2).tr (RB.on b13 (by omega) (by omega) (by omega))⟩
    · have := seg1.2.2.1
      have := seg2.2.2.1
      omega
    · have := seg1.2.2.2.1
      have := seg2.2.2.2.1
      omega
  · left
    exact ⟨σ2, e1, e2.pre go3 (by omega) (by omega) fr3 g9.2.2.2.1 fc3⟩
end PO2
