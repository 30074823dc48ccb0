/-! the two long words -/
section LW
variable {N : Mem} {σ τ υ : ST} {B : Nat → Nat} {L q kc : Nat}
theorem w3_e {a b c : Nat} (ha : a < 256) (hb : b < 256) (hc : c < 256) : f_X11_w3 (nI a) (nI b) (nI c) = some (lN ((a * 256 + b) * 256 + c)) := by
  unfold f_X11_w3 f_X11_w3_0 f_X11_w2 f_X11_w2_0
  rw [bnd, nL_t a ha, pk8 (by omega) hb, pk8 (by omega) hc]
theorem w4_e {a b c d : Nat} (ha : a < 256) (hb : b < 256) (hc : c < 256) (hd : d < 256) : f_X11_w4 (nI a) (nI b) (nI c) (nI d) = some (lN (((a * 256 + b) * 256 + c) * 256 + d)) := by
  unfold f_X11_w4 f_X11_w4_0
  rw [w3_e ha hb hc, bnd, pk8 (by omega) hd]
end LW
