/-! which sort of clause -/
section SRT
variable {N : Mem} {σ τ υ : ST} {B : Nat → Nat} {L q kc : Nat}
theorem w_1a : f_X11_w4 98 101 108 105 = some (lN (((98 * 256 + 101) * 256 + 108) * 256 + 105)) := by decide +kernel
theorem w_1b : f_X11_w4 101 118 101 115 = some (lN (((101 * 256 + 118) * 256 + 101) * 256 + 115)) := by decide +kernel
theorem w_3a : f_X11_w4 109 97 99 104 = some (lN (((109 * 256 + 97) * 256 + 99) * 256 + 104)) := by decide +kernel
theorem w_3b : f_X11_w3 105 110 101 = some (lN ((105 * 256 + 110) * 256 + 101)) := by decide +kernel
theorem tk_so (h : TKN B L σ υ q kc) : g_X11_sortOf N 642 υ = some (if kc ≤ 9 then nI (rk kc) else -1) := by
  unfold g_X11_sortOf g_X11_sortOf_0
  rw [w_0, bnd, tk_w h (by omega) (by omega), bnd]
  by_cases c0 : kc = 0
  · rw [decide_eq_true c0, if_neg (by decide), c0]
    rfl
  rw [decide_eq_false c0, if_pos rfl]
  rw [w_1a, bnd, w_1b, bnd, tk_l8 h, bnd]
  by_cases c1 : kc = 1
  · rw [decide_eq_true c1, if_neg (by decide), c1]
    rfl
  rw [decide_eq_false c1, if_pos rfl]
  rw [w_2, bnd, tk_w h (by omega) (by omega), bnd]
  by_cases c2 : kc = 2
  · rw [decide_eq_true c2, if_neg (by decide), c2]
    rfl
  rw [decide_eq_false c2, if_pos rfl]
  rw [w_3a, bnd, w_3b, bnd, tk_l7 h, bnd]
  by_cases c3 : kc = 3
  · rw [decide_eq_true c3, if_neg (by decide), c3]
    rfl
  rw [decide_eq_false c3, if_pos rfl]
  rw [w_4, bnd, tk_w h (by omega) (by omega), bnd]
  by_cases c4 : kc = 4
  · rw [decide_eq_true c4, if_neg (by decide), c4]
    rfl
  rw [decide_eq_false c4, if_pos rfl]
  rw [w_5, bnd, tk_w h (by omega) (by omega), bnd]
  by_cases c5 : kc = 5
  · rw [decide_eq_true c5, if_neg (by decide), c5]
    rfl
  rw [decide_eq_false c5, if_pos rfl]
  rw [w_6, bnd, tk_w h (by omega) (by omega), bnd]
  by_cases c6 : kc = 6
  · rw [decide_eq_true c6, if_neg (by decide), c6]
    rfl
  rw [decide_eq_false c6, if_pos rfl]
  rw [w_8, bnd, tk_w h (by omega) (by omega), bnd]
  by_cases c8 : kc = 8
  · rw [decide_eq_true c8, if_neg (by decide), c8]
    rfl
  rw [decide_eq_false c8, if_pos rfl]
  rw [w_7, bnd, tk_w h (by omega) (by omega), bnd]
  by_cases c7 : kc = 7
  · rw [decide_eq_true c7, if_neg (by decide), c7]
    rfl
  rw [decide_eq_false c7, if_pos rfl]
  rw [w_9, bnd, tk_w h (by omega) (by omega), bnd]
  by_cases c9 : kc = 9
  · rw [decide_eq_true c9, if_neg (by decide), c9]
    rfl
  rw [decide_eq_false c9, if_pos rfl]
  rw [if_neg (by omega)]
end SRT
