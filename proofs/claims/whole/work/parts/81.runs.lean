/-! the law's body runs to its end with true -/
theorem law_runs : LawRuns := by
  intro X hL n0
  generalize hN : ((n0 + 663, 0 + 15973 + 13566, fun _ => none) : Mem) = N
  have n1 : N.1 = n0 + 663 := by rw [← hN]
  have n2 : N.2.1 = 29539 := by rw [← hN]
  have n3 : ∀ q, N.2.2 q = none := fun q => by rw [← hN]
  have hH : HN N n0 := by
    refine ⟨fun q _ _ => n3 q, fun t k u hu => ?_⟩
    have hu := gR_g.mp hu
    unfold gF at hu
    rw [n3] at hu
    cases hu
  have hF : FN N n0 := ⟨by omega, fun q _ => n3 q⟩
  obtain ⟨g, g1, g2⟩ := x11_e (N := N) (B := n0) hH
  obtain ⟨N', σ', e1, e2, e3⟩ := law_loop (B := n0) (X := X) hL 29539 fu 0 N (setR (stI 10) 644 g) s00 s00 (inv_0 g1) hH hF (by omega) (by unfold fu; omega) (by omega) (by omega)
  have e0 : f_L_law_0 X (n0, 0, fun _ => none) = some (true, put N' n0 σ') := by
    have a1 : (LM n0 0 []).1 = n0 + 0 := rfl
    have a2 : (LM n0 (0 + 15973) (T10 n0)).1 = n0 + 642 := by
      show n0 + (T10 n0).length = n0 + 642
      rw [T10_len]
    unfold f_L_law_0
    rw [lm_0, bnd, a1, i_X10, bnd, bnd, a2, i_X11 T10_len, lm_put, hN, g2, bnd, show (0 : Int32) = nI (6 * 0) from rfl]
    exact e1
  refine ⟨put N' n0 σ', ?_, ?_, ?_⟩
  · exact t_L_law_0 (X := X) (d := 199) (by omega) (n0, 0, fun _ => none) (true, put N' n0 σ') e0
  · show N'.1 - n0 ≤ 600000
    omega
  · show N'.2.1 ≤ 7302250
    omega
