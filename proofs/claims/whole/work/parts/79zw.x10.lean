/-! the constructors: the class's other objects, and the reference's -/
def X0l (n0 k : Nat) : List ACell := [mx_ob 0 [.ref (n0 + (k + 1)), .int 0], z_I 300]
def X1l (n0 k : Nat) : List ACell := [mx_ob 1 [.ref (n0 + (k + 1)), .ref (n0 + (k + 2)), .ref (n0 + (k + 3))], z_I 5, z_I 5, z_I 5]
def X2l (n0 k u : Nat) : List ACell := [mx_ob 2 [.ref u, .int (-1), .int (-1), .int 0, .int 0, .int 0, .int 0, .ref (n0 + (k + 1)), .ref (n0 + (k + 2)), .ref (n0 + (k + 3)), .ref (n0 + (k + 4)), .ref (n0 + (k + 5))], z_I 300, z_I 300, z_I 3, z_I 3, z_I 72]
def X5l (n0 k : Nat) : List ACell := [mx_ob 5 [.ref (n0 + (k + 1)), .ref (n0 + (k + 2)), .ref (n0 + (k + 3))], z_I 9, z_I 8, z_I 8]
def G4 (n0 a : Nat) : ACell := mx_ra 4 13 (fun i => if i < 13 then some (n0 + (a + (1 + i))) else none)
def X6l (n0 k : Nat) : List ACell := mx_ob 6 [.ref (n0 + (k + 1)), .ref (n0 + (k + 3)), .ref (n0 + (k + 4)), .ref (n0 + (k + 5)), .ref (n0 + (k + 6)), .ref (n0 + (k + 20)), .ref (n0 + (k + 21))] :: (R3 n0 (k + 1) 12 ++ ([z_I 13, z_I 13, z_I 13, G4 n0 (k + 6)] ++ (List.replicate 13 (z_I 13) ++ [z_I 10, z_I 10])))
def X7l (n0 k : Nat) : List ACell := [mx_ob 7 [.ref (n0 + (k + 1)), .int 0, .int 0, .int 0, .int 0, .int 0], z_I 300]
section XTN
variable {n0 s k m b u : Nat} {cs l : List ACell} {h : ACell} {fs : List Value}
theorem lm_nwM : nwM (LM n0 s cs) 13 13 = some (LM n0 (s + 182) (cs ++ G4 n0 cs.length :: List.replicate 13 (z_I 13))) := by
  have e13 : (13 : Int32).toNatClampNeg = 13 := by decide
  unfold nwM
  rw [e13, if_neg (by decide)]
  refine congrArg some (Prod.ext ?_ (Prod.ext ?_ (funext fun q => ?_)))
  · show n0 + cs.length + 1 + 13 = n0 + (cs ++ G4 n0 cs.length :: List.replicate 13 (z_I 13)).length
    rw [List.length_append]
    show n0 + cs.length + 1 + 13 = n0 + (cs.length + 14)
    omega
  · show s + (13 + 13 * 13) = s + 182
    omega
  · show (if q = n0 + cs.length then some (mx_ra 4 13 (fun j => if j < 13 then some (n0 + cs.length + 1 + j) else none)) else if n0 + cs.length < q ∧ q < n0 + cs.length + 1 + 13 then some (z_I 13) else if n0 ≤ q then cs[q - n0]? else none) = (if n0 ≤ q then (cs ++ G4 n0 cs.length :: List.replicate 13 (z_I 13))[q - n0]? else none)
    by_cases c : q = n0 + cs.length
    · rw [if_pos c, if_pos (by omega), c, Nat.add_sub_cancel_left, List.getElem?_append_right (Nat.le_refl _), Nat.sub_self]
      show some _ = some (G4 n0 cs.length)
      unfold G4
      congr 2
      funext j
      by_cases cj : j < 13
      · rw [if_pos cj, if_pos cj]
        congr 1
        omega
      · rw [if_neg cj, if_neg cj]
    · rw [if_neg c]
      by_cases c2 : n0 + cs.length < q ∧ q < n0 + cs.length + 1 + 13
      · rw [if_pos c2, if_pos (by omega), List.getElem?_append_right (by omega)]
        obtain ⟨j, hj, e⟩ : ∃ j, j < 13 ∧ q - n0 - cs.length = j + 1 := ⟨q - n0 - cs.length - 1, by omega, by omega⟩
        rw [e]
        show _ = (List.replicate 13 (z_I 13))[j]?
        rw [List.getElem?_replicate, if_pos hj]
      · rw [if_neg c2]
        by_cases c3 : n0 ≤ q
        · rw [if_pos c3, if_pos c3]
          by_cases c4 : q - n0 < cs.length
          · rw [List.getElem?_append_left c4]
          · rw [List.getElem?_eq_none (by omega), List.getElem?_eq_none (by rw [List.length_append]; show cs.length + 14 ≤ _; omega)]
        · rw [if_neg c3, if_neg c3]
theorem q_nwM (hk : cs.length = k) : nwM (LQ n0 s cs h l) 13 13 = some (LQ n0 (s + 182) cs h (l ++ G4 n0 (k + (l.length + 1)) :: List.replicate 13 (z_I 13))) := by
  unfold LQ
  rw [lm_nwM, q_len hk, List.append_assoc]
  rfl
theorem i_X0 (hk : cs.length = k) : f_X0_init (n0 + k) (nwO (LM n0 s cs) 0 2) = some (LM n0 (s + 302) (cs ++ X0l n0 k)) := by
  rw [q_start hk]
  unfold f_X0_init f_X0_init_0
  rw [q_nwI (i := 300) (m := 300) rfl (by omega), bnd, q_1 hk, q_pF hk (by decide), bnd]
  exact congrArg some (lm_c (by omega) rfl)
theorem i_X1 (hk : cs.length = k) : f_X1_init (n0 + k) (nwO (LM n0 s cs) 1 3) = some (LM n0 (s + 18) (cs ++ X1l n0 k)) := by
  rw [q_start hk]
  unfold f_X1_init f_X1_init_0
  rw [q_nwI (i := 5) (m := 5) rfl (by omega), bnd, q_1 hk, q_pF hk (by decide), bnd, q_nwI (i := 5) (m := 5) rfl (by omega), bnd, q_1 hk, q_pF hk (by simp only [List.length_set]; decide), bnd, q_nwI (i := 5) (m := 5) rfl (by omega), bnd, q_1 hk, q_pF hk (by simp only [List.length_set]; decide), bnd]
  exact congrArg some (lm_c (by omega) rfl)
theorem i_X5 (hk : cs.length = k) : f_X5_init (n0 + k) (nwO (LM n0 s cs) 5 3) = some (LM n0 (s + 28) (cs ++ X5l n0 k)) := by
  rw [q_start hk]
  unfold f_X5_init f_X5_init_0
  rw [q_nwI (i := 9) (m := 9) rfl (by omega), bnd, q_1 hk, q_pF hk (by decide), bnd, q_nwI (i := 8) (m := 8) rfl (by omega), bnd, q_1 hk, q_pF hk (by simp only [List.length_set]; decide), bnd, q_nwI (i := 8) (m := 8) rfl (by omega), bnd, q_1 hk, q_pF hk (by simp only [List.length_set]; decide), bnd]
  exact congrArg some (lm_c (by omega) rfl)
theorem i_X7 (hk : cs.length = k) : f_X7_init (n0 + k) (nwO (LM n0 s cs) 7 6) = some (LM n0 (s + 306) (cs ++ X7l n0 k)) := by
  rw [q_start hk]
  unfold f_X7_init f_X7_init_0
  rw [q_nwI (i := 300) (m := 300) rfl (by omega), bnd, q_1 hk, q_pF hk (by decide), bnd]
  exact congrArg some (lm_c (by omega) rfl)
theorem i_X2 (hk : cs.length = k) : f_X2_init (n0 + k) u (nwO (LM n0 s cs) 2 12) = some (LM n0 (s + 690) (cs ++ X2l n0 k u)) := by
  rw [q_start hk]
  unfold f_X2_init f_X2_init_0
  rw [q_pF hk (by decide), bnd, q_pF hk (by simp only [List.length_set]; decide), bnd, q_nwI (i := 300) (m := 300) rfl (by omega), bnd, q_1 hk, q_pF hk (by simp only [List.length_set]; decide), bnd, q_nwI (i := 300) (m := 300) rfl (by omega), bnd, q_1 hk, q_pF hk (by simp only [List.length_set]; decide), bnd, q_nwI (i := 3) (m := 3) rfl (by omega), bnd, q_1 hk, q_pF hk (by simp only [List.length_set]; decide), bnd, q_nwI (i := 3) (m := 3) rfl (by omega), bnd, q_1 hk, q_pF hk (by simp only [List.length_set]; decide), bnd, q_nwI (i := 72) (m := 72) rfl (by omega), bnd, q_1 hk, q_pF hk (by simp only [List.length_set]; decide), bnd, q_pF hk (by simp only [List.length_set]; decide), bnd]
  exact congrArg some (lm_c (by omega) rfl)
theorem i_X6 (hk : cs.length = k) : f_X6_init (n0 + k) (nwO (LM n0 s cs) 6 7) = some (LM n0 (s + 262) (cs ++ X6l n0 k)) := by
  rw [q_start hk]
  unfold f_X6_init f_X6_init_0
  rw [bnd, q_3 hk (i := 12) (m := 12) rfl (by omega), bnd, q_1 hk, q_pF hk (by decide), bnd, q_nwI (i := 13) (m := 13) rfl (by omega), bnd, q_1 hk, q_pF hk (by simp only [List.length_set]; decide), bnd, q_nwI (i := 13) (m := 13) rfl (by omega), bnd, q_1 hk, q_pF hk (by simp only [List.length_set]; decide), bnd, q_nwI (i := 13) (m := 13) rfl (by omega), bnd, q_1 hk, q_pF hk (by simp only [List.length_set]; decide), bnd, q_nwM hk, bnd, q_1 hk, q_pF hk (by simp only [List.length_set]; decide), bnd, q_nwI (i := 10) (m := 10) rfl (by omega), bnd, q_1 hk, q_pF hk (by simp only [List.length_set]; decide), bnd, q_nwI (i := 10) (m := 10) rfl (by omega), bnd, q_1 hk, q_pF hk (by simp only [List.length_set]; decide), bnd]
  exact congrArg some (lm_c (by omega) rfl)
theorem j_X4 (hk : cs.length = k) (hb : k + (l.length + 1) = b) : f_X4_init (n0 + b) (nwO (LQ n0 s cs h l) 4 16) = some (LQ n0 (s + 7068) cs h (l ++ S4 n0 b)) := by
  have := i_X4 (n0 := n0) (s := s) (q_len (h := h) (l := l) hk)
  rw [hb, List.append_assoc] at this
  exact this
theorem j_X7 (hk : cs.length = k) (hb : k + (l.length + 1) = b) : f_X7_init (n0 + b) (nwO (LQ n0 s cs h l) 7 6) = some (LQ n0 (s + 306) cs h (l ++ X7l n0 b)) := by
  have := i_X7 (n0 := n0) (s := s) (q_len (h := h) (l := l) hk)
  rw [hb, List.append_assoc] at this
  exact this
theorem j_X0 (hk : cs.length = k) (hb : k + (l.length + 1) = b) : f_X0_init (n0 + b) (nwO (LQ n0 s cs h l) 0 2) = some (LQ n0 (s + 302) cs h (l ++ X0l n0 b)) := by
  have := i_X0 (n0 := n0) (s := s) (q_len (h := h) (l := l) hk)
  rw [hb, List.append_assoc] at this
  exact this
theorem j_X6 (hk : cs.length = k) (hb : k + (l.length + 1) = b) : f_X6_init (n0 + b) (nwO (LQ n0 s cs h l) 6 7) = some (LQ n0 (s + 262) cs h (l ++ X6l n0 b)) := by
  have := i_X6 (n0 := n0) (s := s) (q_len (h := h) (l := l) hk)
  rw [hb, List.append_assoc] at this
  exact this
theorem j_X1 (hk : cs.length = k) (hb : k + (l.length + 1) = b) : f_X1_init (n0 + b) (nwO (LQ n0 s cs h l) 1 3) = some (LQ n0 (s + 18) cs h (l ++ X1l n0 b)) := by
  have := i_X1 (n0 := n0) (s := s) (q_len (h := h) (l := l) hk)
  rw [hb, List.append_assoc] at this
  exact this
theorem j_X5 (hk : cs.length = k) (hb : k + (l.length + 1) = b) : f_X5_init (n0 + b) (nwO (LQ n0 s cs h l) 5 3) = some (LQ n0 (s + 28) cs h (l ++ X5l n0 b)) := by
  have := i_X5 (n0 := n0) (s := s) (q_len (h := h) (l := l) hk)
  rw [hb, List.append_assoc] at this
  exact this
theorem j_X9 (hk : cs.length = k) (hb : k + (l.length + 1) = b) : f_X9_init (n0 + b) (nwO (LQ n0 s cs h l) 9 12) = some (LQ n0 (s + 222) cs h (l ++ W9 n0 b)) := by
  have := i_X9 (n0 := n0) (s := s) (q_len (h := h) (l := l) hk)
  rw [hb, List.append_assoc] at this
  exact this
theorem j_X2 (hk : cs.length = k) (hb : k + (l.length + 1) = b) : f_X2_init (n0 + b) u (nwO (LQ n0 s cs h l) 2 12) = some (LQ n0 (s + 690) cs h (l ++ X2l n0 b u)) := by
  have := i_X2 (n0 := n0) (s := s) (u := u) (q_len (h := h) (l := l) hk)
  rw [hb, List.append_assoc] at this
  exact this
theorem j_1 (hk : cs.length = k) (hb : k + (l.length + 1) = b) : (LQ n0 s cs h l).1 = n0 + b := by
  rw [q_1 hk, hb]
theorem j_nwO {ci n : Nat} : nwO (LQ n0 s cs h l) ci n = LQ n0 (s + n) cs h (l ++ [mx_ob ci (mx_dv ci n)]) := by
  unfold nwO
  rw [q_new]
end XTN
