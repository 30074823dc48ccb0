/-! loose, believes, wears -/
section THR
variable {N : Mem} {σ τ τ' υ υ' υ0 : ST} {w : SS} {o : Option Nat} {X : Int32}
theorem sneg (l : Nat) (Z Y : Int32) : g_X11_says N 642 (-nI 1) (nI l) Z Y υ = (f_X11_cut Z.toInt64 0 Y).bind fun v => some (v, υ) := by
  obtain ⟨z, hz⟩ : ∃ z, fu = z + 1 := ⟨999999, by unfold fu; omega⟩
  unfold g_X11_says g_X11_says_0
  rw [hz, g_X11_says_3, if_pos (show -nI 1 < 0 by decide)]
theorem loose_e (hT : TXO N υ o X) {b m : Nat} (hb : b + 9 ≤ 601 ∨ 603 ≤ b) (hw : WR τ b w) (hW : WFw w) (hA : RW0 (υ.1 643) w) (hm : m < w 0 0) : ∃ v τ' υ', v ≤ 10 ∧ g_X0_loose N 601 o b (nI m) τ = some (nI v, τ') ∧ g_X11_looseOf N 642 X (nI m) υ = some (nI v, υ') ∧ AF τ τ' ∧ BF υ υ' := by
  have hc : w 0 0 ≤ 5 := hW.1
  have hm5 : m < 5 := by omega
  obtain ⟨υ1, n1, n2, n3⟩ := name_r (N := N) hA hW hm
  obtain ⟨b1, b2, b3, b4, b5, b6⟩ := hW.fld m
  have e4 : xI 5 τ (b + 4) (nI m) = some (nI (w 4 m)) := by
    rw [xI_n hm5 (by omega)]
    exact congrArg some (hw 4 m (by omega))
  have e1 : xI 5 τ (b + 1) (nI m) = some (nI (w 1 m)) := by
    rw [xI_n hm5 (by omega)]
    exact congrArg some (hw 1 m (by omega))
  have q3 : xI 8 υ1 (642 + 6) (nI 3) = some (nI (w 4 m)) := by
    rw [xI_n (by omega) (by omega)]
    exact congrArg some (n2.1 3 (by omega))
  have q1 : xI 8 υ1 (642 + 6) (nI 1) = some (nI (w 1 m)) := by
    rw [xI_n (by omega) (by omega)]
    exact congrArg some (n2.1 1 (by omega))
  generalize hZ : nI (w 4 m) - nI (w 1 m) / nI 3 = Z
  obtain ⟨v, v1, v2, v3⟩ := cut_n Z (top := 10) (by omega)
  have hT1 := n3.tx hT
  rcases hT1 with ⟨rfl, rfl⟩ | ⟨t, j, rfl, rfl, hj, hR⟩
  · refine ⟨v, τ, υ1, v1, ?_, ?_, AF.rfl, n3⟩
    · unfold g_X0_loose g_X0_loose_0
      rw [e4, bnd, e1, bnd, if_pos rfl, k_3, k_10, hZ, v2]
    · unfold g_X11_looseOf g_X11_looseOf_0
      rw [n1, bnd, k_3, q3, bnd, k_1, q1, bnd, k_10, k_0, hZ, sneg, v3, bnd, bnd]
  · rcases law_e (N := N) (l := 0) hj hR (by omega) hb hw hW hm5 n2 with ⟨h1, h2⟩ | ⟨h1, x, τ', υ', h2, h3, h4, h5⟩
    · refine ⟨v, τ, υ1, v1, ?_, ?_, AF.rfl, n3⟩
      · unfold g_X0_loose g_X0_loose_0
        rw [e4, bnd, e1, bnd, if_neg (by intro q; cases q), bnd, k_3, k_10, k_0, h1, bnd, if_pos rfl, hZ]
        exact congrArg (fun q => some (q, τ)) v2
      · unfold g_X11_looseOf g_X11_looseOf_0
        rw [n1, bnd, k_3, q3, bnd, k_1, q1, bnd, k_10, k_0, hZ, h2, v3, bnd, bnd]
    · obtain ⟨v', v1', v2', v3'⟩ := cut_n x (top := 10) (by omega)
      refine ⟨v', τ', υ', v1', ?_, ?_, h3, n3.t h4⟩
      · unfold g_X0_loose g_X0_loose_0
        rw [e4, bnd, e1, bnd, if_neg (by intro q; cases q), bnd, k_3, k_10, k_0, h1, bnd, if_neg (by decide), h2, bnd]
        exact congrArg (fun q => some (q, τ')) v2'
      · unfold g_X11_looseOf g_X11_looseOf_0
        rw [n1, bnd, k_3, q3, bnd, k_1, q1, bnd, k_10, k_0, hZ, h5, v3', bnd, bnd]
theorem believes_e (hT : TXO N υ o X) (hX : υ.1 643 2 = X) {b m : Nat} (hb : b + 9 ≤ 601 ∨ 603 ≤ b) (hw : WR τ b w) (hW : WFw w) (hA : RW0 (υ.1 643) w) (hm : m < w 0 0) : ∃ v τ' υ', v ≤ 10 ∧ g_X0_believes N 601 o b (nI m) τ = some (nI v, τ') ∧ g_X11_believesOf N 642 (nI m) υ = some (nI v, υ') ∧ AF τ τ' ∧ BF υ υ' := by
  have hc : w 0 0 ≤ 5 := hW.1
  have hm5 : m < 5 := by omega
  obtain ⟨υ1, n1, n2, n3⟩ := name_r (N := N) hA hW hm
  have q2 : xI 4607 υ1 (642 + 1) (nI 2) = some X := by
    rw [xI_n (by omega) (by omega)]
    exact congrArg some ((n3.1 643 2 (by omega) (by omega)).trans hX)
  obtain ⟨v, v1, v2, v3⟩ := cut_n (nI 2) (top := 10) (by omega)
  have hT1 := n3.tx hT
  rcases hT1 with ⟨rfl, rfl⟩ | ⟨t, j, rfl, rfl, hj, hR⟩
  · refine ⟨v, τ, υ1, v1, ?_, ?_, AF.rfl, n3⟩
    · unfold g_X0_believes g_X0_believes_0
      rw [if_pos rfl, k_10, k_2, v2]
    · unfold g_X11_believesOf g_X11_believesOf_0
      rw [n1, bnd, k_2, q2, bnd, k_10, k_1, sneg, v3, bnd, bnd]
  · rcases law_e (N := N) (l := 1) hj hR (by omega) hb hw hW hm5 n2 with ⟨h1, h2⟩ | ⟨h1, x, τ', υ', h2, h3, h4, h5⟩
    · refine ⟨v, τ, υ1, v1, ?_, ?_, AF.rfl, n3⟩
      · unfold g_X0_believes g_X0_believes_0
        rw [if_neg (by intro q; cases q), bnd, k_2, k_10, k_1, h1, bnd, if_pos rfl, v2]
      · unfold g_X11_believesOf g_X11_believesOf_0
        rw [n1, bnd, k_2, q2, bnd, k_10, k_1, h2, v3, bnd, bnd]
    · obtain ⟨v', v1', v2', v3'⟩ := cut_n x (top := 10) (by omega)
      refine ⟨v', τ', υ', v1', ?_, ?_, h3, n3.t h4⟩
      · unfold g_X0_believes g_X0_believes_0
        rw [if_neg (by intro q; cases q), bnd, k_2, k_10, k_1, h1, bnd, if_neg (by decide), h2, bnd]
        exact congrArg (fun q => some (q, τ')) v2'
      · unfold g_X11_believesOf g_X11_believesOf_0
        rw [n1, bnd, k_2, q2, bnd, k_10, k_1, h5, v3', bnd, bnd]
theorem wears_e (hT : TXO N υ o X) (hX : υ.1 643 2 = X) {b m : Nat} (hb : b + 9 ≤ 601 ∨ 603 ≤ b) (hw : WR τ b w) (hW : WFw w) (hA : RW0 (υ.1 643) w) (hm : m < w 0 0) : ∃ v τ' υ', v ≤ 9 ∧ g_X0_wears N 601 o b (nI m) τ = some (nI v, τ') ∧ g_X11_wearsOf N 642 (nI m) υ = some (nI v, υ') ∧ AF τ τ' ∧ BF υ υ' := by
  have hc : w 0 0 ≤ 5 := hW.1
  have hm5 : m < 5 := by omega
  obtain ⟨υ1, n1, n2, n3⟩ := name_r (N := N) hA hW hm
  obtain ⟨b1, b2, b3, b4, b5, b6⟩ := hW.fld m
  have q2 : xI 4607 υ1 (642 + 1) (nI 2) = some X := by
    rw [xI_n (by omega) (by omega)]
    exact congrArg some ((n3.1 643 2 (by omega) (by omega)).trans hX)
  have e4 : xI 5 τ (b + 4) (nI m) = some (nI (w 4 m)) := by
    rw [xI_n hm5 (by omega)]
    exact congrArg some (hw 4 m (by omega))
  have q3 : xI 8 υ1 (642 + 6) (nI 3) = some (nI (w 4 m)) := by
    rw [xI_n (by omega) (by omega)]
    exact congrArg some (n2.1 3 (by omega))
  have cl : g_X0_wears N 601 o b (nI m) τ = g_X0_wears_14 N 601 o b (nI m) (decide (w 4 m = 0)) τ := by
    unfold g_X0_wears g_X0_wears_0
    rw [e4, bnd, k_0]
    by_cases c : w 4 m = 0
    · rw [if_pos (by rw [c]), decide_eq_true c]
    · rw [if_neg (fun q => c ((nI_eq (by omega) (by omega)).mp q)), decide_eq_false c]
  have rl : g_X11_wearsOf N 642 (nI m) υ = (g_X11_says N 642 X (nI 2) (jz (decide (w 4 m = 0))) (nI 9) υ1).bind fun r => some (r.1, r.2) := by
    unfold g_X11_wearsOf g_X11_wearsOf_0
    rw [n1, bnd, k_2, q2, bnd, k_3, q3, bnd, k_0, k_1, k_9]
    by_cases c : w 4 m = 0
    · rw [if_pos (by rw [c]), decide_eq_true c]
      rfl
    · rw [if_neg (fun q => c ((nI_eq (by omega) (by omega)).mp q)), decide_eq_false c]
      rfl
  rw [cl, rl]
  generalize decide (w 4 m = 0) = d
  obtain ⟨v, v1, v2, v3⟩ := cut_n (jz d) (top := 9) (by omega)
  have hT1 := n3.tx hT
  rcases hT1 with ⟨rfl, rfl⟩ | ⟨t, j, rfl, rfl, hj, hR⟩
  · refine ⟨v, τ, υ1, v1, ?_, ?_, AF.rfl, n3⟩
    · unfold g_X0_wears_14
      rw [if_pos rfl, k_9, v2]
    · rw [sneg, v3, bnd, bnd]
  · rcases law_e (N := N) (l := 2) hj hR (by omega) hb hw hW hm5 n2 with ⟨h1, h2⟩ | ⟨h1, x, τ', υ', h2, h3, h4, h5⟩
    · refine ⟨v, τ, υ1, v1, ?_, ?_, AF.rfl, n3⟩
      · unfold g_X0_wears_14
        rw [if_neg (by intro q; cases q), bnd, k_2, k_9, h1, bnd, if_pos rfl, v2]
      · rw [h2, v3, bnd, bnd]
    · obtain ⟨v', v1', v2', v3'⟩ := cut_n x (top := 9) (by omega)
      refine ⟨v', τ', υ', v1', ?_, ?_, h3, n3.t h4⟩
      · unfold g_X0_wears_14
        rw [if_neg (by intro q; cases q), bnd, k_2, k_9, h1, bnd, if_neg (by decide), h2, bnd]
        exact congrArg (fun q => some (q, τ')) v2'
      · rw [h5, v3', bnd, bnd]
end THR
