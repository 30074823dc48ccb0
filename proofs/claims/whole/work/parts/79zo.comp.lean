/-! a Text is made: it goes beyond the block -/
def FN (N : Mem) (B : Nat) : Prop := B + 663 ≤ N.1 ∧ (∀ q, N.1 ≤ q → N.2.2 q = none)
section CMP
variable {N N' : Mem} {σ τ υ : ST} {B b i m n a k ci : Nat} {x y : ACell} {v : Value} {fs : List Value}
theorem put_new (h : B + 663 ≤ N.1) : mx_new (put N B σ) n x = put (mx_new N n x) B σ := by
  unfold mx_new put
  refine Prod.ext rfl (Prod.ext rfl (funext fun q => ?_))
  show (if q = N.1 then some x else if B ≤ q ∧ q < B + 663 then cellAt B σ (q - B) else N.2.2 q) = (if B ≤ q ∧ q < B + 663 then cellAt B σ (q - B) else if q = N.1 then some x else N.2.2 q)
  by_cases c : q = N.1
  · rw [if_pos c, if_neg (by omega), if_pos c]
  · rw [if_neg c, if_neg c]
theorem put_ste (h : B + 663 ≤ a) : mx_set (put N B σ) a x = put (mx_set N a x) B σ := by
  unfold mx_set put
  refine Prod.ext rfl (Prod.ext rfl (funext fun q => ?_))
  show (if q = a then some x else if B ≤ q ∧ q < B + 663 then cellAt B σ (q - B) else N.2.2 q) = (if B ≤ q ∧ q < B + 663 then cellAt B σ (q - B) else if q = a then some x else N.2.2 q)
  by_cases c : q = a
  · rw [if_pos c, if_neg (by omega), if_pos c]
  · rw [if_neg c, if_neg c]
theorem new_at : (mx_new N n x).2.2 N.1 = some x := if_pos rfl
theorem new_ne {q : Nat} (h : q ≠ N.1) : (mx_new N n x).2.2 q = N.2.2 q := if_neg h
theorem ste_at : (mx_set N a x).2.2 a = some x := if_pos rfl
theorem ste_ne {q : Nat} (h : q ≠ a) : (mx_set N a x).2.2 q = N.2.2 q := if_neg h
theorem ste_new : mx_set (mx_new N n x) N.1 y = mx_new N n y := by
  unfold mx_set mx_new
  refine Prod.ext rfl (Prod.ext rfl (funext fun q => ?_))
  show (if q = N.1 then some y else if q = N.1 then some x else N.2.2 q) = (if q = N.1 then some y else N.2.2 q)
  by_cases c : q = N.1
  · rw [if_pos c, if_pos c]
  · rw [if_neg c, if_neg c, if_neg c]
theorem pF_o (h : N.2.2 a = some (mx_ob ci fs)) (hk : k < fs.length) (hB : B + 663 ≤ a) : pF (put N B σ) ci a k v = some (put (mx_set N a (mx_ob ci (fs.set k v))) B σ) := by
  unfold pF
  rw [put_out hB, h]
  show (if ci = ci ∧ k < fs.length then some (mx_set (put N B σ) a (mx_ob ci (fs.set k v))) else none) = _
  rw [if_pos ⟨rfl, hk⟩, put_ste hB]
theorem cl_put (hA : isA m b) (hB : B + 663 ≤ N.1) : clI (put N B σ) (B + b) = some (put (mx_new N m (mx_ia m (σ.1 b))) B σ) := by
  unfold clI
  rw [aI_put hA]
  show some (mx_new (put N B σ) m (mx_ia m (σ.1 b))) = _
  rw [put_new hB]
theorem cpo_e (hA : isA m b) (hB : B + 663 ≤ N.1) (hi : i ≤ m) (hm : m ≤ 5000) : ∃ g, f_J7_copyOf_59c91 (B + b) (nI i) (put N B σ) = some (N.1, put (mx_new N i (mx_ia i g)) B σ) ∧ ∀ q, q < i → g q = σ.1 b q := by
  unfold f_J7_copyOf_59c91 f_J7_copyOf_59c91_0
  have e0 : Int32.ofNat m = nI m := rfl
  have e1 : (put N B σ).1 = N.1 := rfl
  rw [lnA_put hA, bnd, e0, e1]
  by_cases c : i = m
  · rw [if_pos (by rw [c]), cl_put hA hB, bnd, c]
    exact ⟨σ.1 b, rfl, fun _ _ => rfl⟩
  · rw [if_neg (fun y => c ((nI_eq (by omega) (by omega)).mp y))]
    have en : nwI (put N B σ) (nI i) = some (put (mx_new N i (mx_ia i (fun _ => 0))) B σ) := by
      unfold nwI
      rw [nI_clamp (by omega), if_neg (fun y => y.elim (fun z => nI_pos (by omega) z) (fun z => by omega)), put_new hB]
    rw [en, bnd, lnA_put hA, bnd, e0, jmin_n (by omega) (by omega), show min m i = i by omega]
    have ec : cpI (put (mx_new N i (mx_ia i (fun _ => 0))) B σ) (B + b) 0 N.1 0 (nI i) = some (put (mx_new N i (mx_ia i (va_cpy (σ.1 b) (fun _ => 0) 0 0 i))) B σ) := by
      have ea : aI (put (mx_new N i (mx_ia i (fun _ => 0))) B σ) N.1 = some (i, fun _ => 0) := by
        unfold aI
        rw [put_out hB, new_at]
        rfl
      unfold cpI
      rw [aI_put hA, ea]
      show (if (0 : Int32) < 0 ∨ (0 : Int32) < 0 ∨ nI i < 0 ∨ m < (0 : Int32).toNatClampNeg + (nI i).toNatClampNeg ∨ i < (0 : Int32).toNatClampNeg + (nI i).toNatClampNeg then none else some (mx_set (put (mx_new N i (mx_ia i (fun _ => 0))) B σ) N.1 (mx_ia i (va_cpy (σ.1 b) (fun _ => 0) (0 : Int32).toNatClampNeg (0 : Int32).toNatClampNeg (nI i).toNatClampNeg)))) = _
      have z0 : (0 : Int32).toNatClampNeg = 0 := by decide
      have zp : ¬ nI i < 0 := nI_pos (by omega)
      have z1 : ¬ (0 : Int32) < 0 := by decide
      rw [nI_clamp (by omega), z0, if_neg (fun y => by
        rcases y with y | y | y | y | y
        · exact z1 y
        · exact z1 y
        · exact zp y
        · omega
        · omega), put_ste hB, ste_new]
    rw [ec, bnd]
    refine ⟨_, rfl, fun q hq => ?_⟩
    rw [pk_cpy_in (by omega) (by omega), Nat.zero_add, Nat.sub_zero]
theorem dv_8 : (mx_dv 8 6).length = 6 := by decide +kernel
theorem cmpl_e (hB : B + 663 ≤ N.1) (hi : σ.1 595 5 = nI i) (h3 : i ≤ 300) (hn : σ.1 595 6 = nI n) (h24 : n ≤ 24) : ∃ N' g1 g2 g5, f_X2_compiled (B + 595) (put N B σ) = some (some N.1, put N' B σ) ∧ N'.1 = N.1 + 6 ∧ N'.2.1 = N.2.1 + (12 + 2 * i + 3 * n) ∧ (∀ q, q < N.1 → N'.2.2 q = N.2.2 q) ∧ (∀ q, N.1 + 6 ≤ q → N'.2.2 q = N.2.2 q) ∧ N'.2.2 N.1 = some (mx_ob 8 [.ref (N.1 + 1), .ref (N.1 + 2), .ref (N.1 + 3), .ref (N.1 + 4), .ref (N.1 + 5), .int (nI n)]) ∧ N'.2.2 (N.1 + 1) = some (mx_ia i g1) ∧ N'.2.2 (N.1 + 2) = some (mx_ia i g2) ∧ N'.2.2 (N.1 + 3) = some (mx_ia 3 (σ.1 598)) ∧ N'.2.2 (N.1 + 4) = some (mx_ia 3 (σ.1 599)) ∧ N'.2.2 (N.1 + 5) = some (mx_ia (3 * n) g5) ∧ (∀ q, q < i → g1 q = σ.1 596 q ∧ g2 q = σ.1 597 q) ∧ ∀ q, q < 3 * n → g5 q = σ.1 600 q := by
  have I2 := isC_2_at
  generalize hN1 : mx_new N 6 (mx_ob 8 (mx_dv 8 6)) = N1
  have a1 : N1.1 = N.1 + 1 := by rw [← hN1]; rfl
  obtain ⟨g1, c1, c2⟩ := cpo_e (N := N1) (σ := σ) (i := i) (sh_2_7 I2) (B := B) (by omega) h3 (by omega)
  generalize hN2 : mx_new N1 i (mx_ia i g1) = N2 at c1
  have a2 : N2.1 = N.1 + 2 := by rw [← hN2]; show N1.1 + 1 = _; omega
  obtain ⟨g2, c3, c4⟩ := cpo_e (N := N2) (σ := σ) (i := i) (sh_2_8 I2) (B := B) (by omega) h3 (by omega)
  generalize hN3 : mx_new N2 i (mx_ia i g2) = N3 at c3
  have a3 : N3.1 = N.1 + 3 := by rw [← hN3]; show N2.1 + 1 = _; omega
  have c5 := cl_put (N := N3) (σ := σ) (B := B) (sh_2_9 I2) (by omega)
  generalize hN4 : mx_new N3 3 (mx_ia 3 (σ.1 (595 + 3))) = N4 at c5
  have a4 : N4.1 = N.1 + 4 := by rw [← hN4]; show N3.1 + 1 = _; omega
  have c6 := cl_put (N := N4) (σ := σ) (B := B) (sh_2_10 I2) (by omega)
  generalize hN5 : mx_new N4 3 (mx_ia 3 (σ.1 (595 + 4))) = N5 at c6
  have a5 : N5.1 = N.1 + 5 := by rw [← hN5]; show N4.1 + 1 = _; omega
  obtain ⟨g5, c7, c8⟩ := cpo_e (N := N5) (σ := σ) (i := 3 * n) (sh_2_11 I2) (B := B) (by omega) (by omega) (by omega)
  generalize hN6 : mx_new N5 (3 * n) (mx_ia (3 * n) g5) = N6 at c7
  have a6 : N6.1 = N.1 + 6 := by rw [← hN6]; show N5.1 + 1 = _; omega
  -- what lies where
  have o6 : ∀ q, q ≠ N.1 + 5 → N6.2.2 q = N5.2.2 q := fun q hq => by rw [← hN6]; exact new_ne (by omega)
  have o5 : ∀ q, q ≠ N.1 + 4 → N5.2.2 q = N4.2.2 q := fun q hq => by rw [← hN5]; exact new_ne (by omega)
  have o4 : ∀ q, q ≠ N.1 + 3 → N4.2.2 q = N3.2.2 q := fun q hq => by rw [← hN4]; exact new_ne (by omega)
  have o3 : ∀ q, q ≠ N.1 + 2 → N3.2.2 q = N2.2.2 q := fun q hq => by rw [← hN3]; exact new_ne (by omega)
  have o2 : ∀ q, q ≠ N.1 + 1 → N2.2.2 q = N1.2.2 q := fun q hq => by rw [← hN2]; exact new_ne (by omega)
  have o1 : ∀ q, q ≠ N.1 → N1.2.2 q = N.2.2 q := fun q hq => by rw [← hN1]; exact new_ne (by omega)
  have t0 : N6.2.2 N.1 = some (mx_ob 8 (mx_dv 8 6)) := by
    rw [o6 _ (by omega), o5 _ (by omega), o4 _ (by omega), o3 _ (by omega), o2 _ (by omega), ← hN1]
    exact new_at
  have p0 := pF_o (σ := σ) (B := B) (k := 0) (v := .ref (N.1 + 1)) t0 (by rw [dv_8]; omega) (by omega)
  have t1 : (mx_set N6 N.1 (mx_ob 8 ((mx_dv 8 6).set 0 (.ref (N.1 + 1))))).2.2 N.1 = some _ := ste_at
  have p1 := pF_o (σ := σ) (B := B) (k := 1) (v := .ref (N.1 + 2)) t1 (by rw [List.length_set, dv_8]; omega) (by omega)
  have p2 := pF_o (σ := σ) (B := B) (k := 2) (v := .ref (N.1 + 3)) (ste_at (N := mx_set N6 N.1 (mx_ob 8 ((mx_dv 8 6).set 0 (.ref (N.1 + 1))))) (a := N.1) (x := mx_ob 8 (((mx_dv 8 6).set 0 (.ref (N.1 + 1))).set 1 (.ref (N.1 + 2))))) (by rw [List.length_set, List.length_set, dv_8]; omega) (by omega)
  have p3 := pF_o (σ := σ) (B := B) (k := 3) (v := .ref (N.1 + 4)) (ste_at (N := mx_set (mx_set N6 N.1 (mx_ob 8 ((mx_dv 8 6).set 0 (.ref (N.1 + 1))))) N.1 (mx_ob 8 (((mx_dv 8 6).set 0 (.ref (N.1 + 1))).set 1 (.ref (N.1 + 2))))) (a := N.1) (x := mx_ob 8 ((((mx_dv 8 6).set 0 (.ref (N.1 + 1))).set 1 (.ref (N.1 + 2))).set 2 (.ref (N.1 + 3))))) (by rw [List.length_set, List.length_set, List.length_set, dv_8]; omega) (by omega)
  generalize hF2 : ((((mx_dv 8 6).set 0 (.ref (N.1 + 1))).set 1 (.ref (N.1 + 2))).set 2 (.ref (N.1 + 3))) = F2 at p3 p2
  generalize hM3 : mx_set (mx_set (mx_set N6 N.1 (mx_ob 8 ((mx_dv 8 6).set 0 (.ref (N.1 + 1))))) N.1 (mx_ob 8 (((mx_dv 8 6).set 0 (.ref (N.1 + 1))).set 1 (.ref (N.1 + 2))))) N.1 (mx_ob 8 F2) = M3 at p3 p2
  have lF2 : F2.length = 6 := by rw [← hF2, List.length_set, List.length_set, List.length_set, dv_8]
  have p4 := pF_o (σ := σ) (B := B) (k := 4) (v := .ref (N.1 + 5)) (ste_at (N := M3) (a := N.1) (x := mx_ob 8 (F2.set 3 (.ref (N.1 + 4))))) (by rw [List.length_set, lF2]; omega) (by omega)
  have p5 := pF_o (σ := σ) (B := B) (k := 5) (v := .int (nI n)) (ste_at (N := mx_set M3 N.1 (mx_ob 8 (F2.set 3 (.ref (N.1 + 4))))) (a := N.1) (x := mx_ob 8 ((F2.set 3 (.ref (N.1 + 4))).set 4 (.ref (N.1 + 5))))) (by rw [List.length_set, List.length_set, lF2]; omega) (by omega)
  generalize hF5 : (((F2.set 3 (.ref (N.1 + 4))).set 4 (.ref (N.1 + 5))).set 5 (.int (nI n))) = F5 at p5
  generalize hM6 : mx_set (mx_set (mx_set M3 N.1 (mx_ob 8 (F2.set 3 (.ref (N.1 + 4))))) N.1 (mx_ob 8 ((F2.set 3 (.ref (N.1 + 4))).set 4 (.ref (N.1 + 5))))) N.1 (mx_ob 8 F5) = M6 at p5
  have eF5 : F5 = [.ref (N.1 + 1), .ref (N.1 + 2), .ref (N.1 + 3), .ref (N.1 + 4), .ref (N.1 + 5), .int (nI n)] := by
    rw [← hF5, ← hF2]
    rfl
  have oM : ∀ q, q ≠ N.1 → M6.2.2 q = N6.2.2 q := fun q hq => by
    rw [← hM6, ste_ne hq, ste_ne hq, ste_ne hq, ← hM3, ste_ne hq, ste_ne hq, ste_ne hq]
  have m1 : M6.1 = N6.1 ∧ M6.2.1 = N6.2.1 := by
    rw [← hM6, ← hM3]
    exact ⟨rfl, rfl⟩
  refine ⟨M6, g1, g2, g5, ?_, by omega, ?_, fun q hq => ?_, fun q hq => ?_, ?_, ?_, ?_, ?_, ?_, ?_, fun q hq => ⟨c2 q hq, c4 q hq⟩, c8⟩
  · unfold f_X2_compiled f_X2_compiled_0
    have e1 : nwO (put N B σ) 8 6 = put N1 B σ := by
      unfold nwO
      rw [put_new hB, hN1]
    have f1 : (put N1 B σ).1 = N.1 + 1 := a1
    have z1 : (put N B σ).1 = N.1 := rfl
    have z3 : (put N3 B σ).1 = N.1 + 3 := a3
    have z4 : (put N4 B σ).1 = N.1 + 4 := a4
    rw [if_pos (isOb_put I2), e1, bnd, gR_2_7 I2, bnd, gI_2_5 I2, bnd, hi, c1, bnd]
    dsimp only
    rw [gR_2_8 I2, bnd, gI_2_5 I2, bnd, hi, c3, bnd]
    dsimp only
    rw [gR_2_9 I2, bnd, c5, bnd, gR_2_10 I2, bnd, c6, bnd, gR_2_11 I2, bnd, gI_2_6 I2, bnd, hn, show (3 : Int32) = nI 3 from rfl, pk_mul, Nat.mul_comm n 3, c7, bnd]
    dsimp only
    rw [gI_2_6 I2, bnd, hn, z1, z3, z4, a1, a2, a5]
    unfold f_X8_init f_X8_init_0
    rw [p0, bnd, p1, bnd, p2, bnd, p3, bnd, p4, bnd, p5, bnd, bnd]
  · rw [m1.2, ← hN6]
    show N5.2.1 + 3 * n = _
    rw [← hN5]
    show N4.2.1 + 3 + 3 * n = _
    rw [← hN4]
    show N3.2.1 + 3 + 3 + 3 * n = _
    rw [← hN3]
    show N2.2.1 + i + 3 + 3 + 3 * n = _
    rw [← hN2]
    show N1.2.1 + i + i + 3 + 3 + 3 * n = _
    rw [← hN1]
    show N.2.1 + 6 + i + i + 3 + 3 + 3 * n = _
    omega
  · rw [oM _ (by omega), o6 _ (by omega), o5 _ (by omega), o4 _ (by omega), o3 _ (by omega), o2 _ (by omega), o1 _ (by omega)]
  · rw [oM _ (by omega), o6 _ (by omega), o5 _ (by omega), o4 _ (by omega), o3 _ (by omega), o2 _ (by omega), o1 _ (by omega)]
  · rw [← hM6, ste_at, eF5]
  · rw [oM _ (by omega), o6 _ (by omega), o5 _ (by omega), o4 _ (by omega), o3 _ (by omega), ← hN2, ← a1]
    exact new_at
  · rw [oM _ (by omega), o6 _ (by omega), o5 _ (by omega), o4 _ (by omega), ← hN3, ← a2]
    exact new_at
  · rw [oM _ (by omega), o6 _ (by omega), o5 _ (by omega), ← hN4, ← a3]
    exact new_at
  · rw [oM _ (by omega), o6 _ (by omega), ← hN5, ← a4]
    exact new_at
  · rw [oM _ (by omega), ← hN6, ← a5]
    exact new_at
end CMP
