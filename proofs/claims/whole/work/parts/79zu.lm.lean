/-! the constructors: memory as a list of cells -/
def LM (n0 s : Nat) (cs : List ACell) : Mem := (n0 + cs.length, s, fun q => if n0 ≤ q then cs[q - n0]? else none)
def LQ (n0 s : Nat) (cs : List ACell) (h : ACell) (l : List ACell) : Mem := LM n0 s (cs ++ h :: l)
def z_I (n : Nat) : ACell := mx_ia n (fun _ => 0)
def W9 (n0 k : Nat) : List ACell := [mx_ob 9 [.int 0, .int 0, .int 193, .int 0, .ref (n0 + (k + 1)), .ref (n0 + (k + 2)), .ref (n0 + (k + 3)), .ref (n0 + (k + 4)), .ref (n0 + (k + 5)), .ref (n0 + (k + 6)), .ref (n0 + (k + 7)), .ref (n0 + (k + 8))], z_I 5, z_I 5, z_I 5, z_I 5, z_I 5, z_I 5, z_I 60, z_I 120]
def R3 (n0 k m : Nat) : List ACell := [mx_ob 3 [.ref (n0 + (k + 1)), .int 0], z_I m]
section LMM
variable {n0 s k m n ci f a : Nat} {cs l : List ACell} {h x y : ACell} {fs : List Value} {v : Value} {i w : Int32}
theorem lm_at : (LM n0 s cs).2.2 (n0 + k) = cs[k]? := by
  show (if n0 ≤ n0 + k then cs[n0 + k - n0]? else none) = _
  rw [if_pos (Nat.le_add_right _ _), Nat.add_sub_cancel_left]
theorem lm_c {s' : Nat} {cs' : List ACell} (h1 : s = s') (h2 : cs = cs') : LM n0 s cs = LM n0 s' cs' := by rw [h1, h2]
theorem lm_0 : (n0, 0, fun _ => none) = LM n0 0 [] := by
  unfold LM
  refine Prod.ext rfl (Prod.ext rfl (funext fun q => ?_))
  show none = (if n0 ≤ q then ([] : List ACell)[q - n0]? else none)
  by_cases c : n0 ≤ q
  · rw [if_pos c]; rfl
  · rw [if_neg c]
theorem lm_new : mx_new (LM n0 s cs) n x = LM n0 (s + n) (cs ++ [x]) := by
  unfold mx_new LM
  refine Prod.ext ?_ (Prod.ext rfl (funext fun q => ?_))
  · show n0 + cs.length + 1 = n0 + (cs ++ [x]).length
    rw [List.length_append]
    rfl
  · show (if q = n0 + cs.length then some x else if n0 ≤ q then cs[q - n0]? else none) = (if n0 ≤ q then (cs ++ [x])[q - n0]? else none)
    by_cases c : q = n0 + cs.length
    · rw [if_pos c, if_pos (by omega), c, Nat.add_sub_cancel_left, List.getElem?_append_right (Nat.le_refl _), Nat.sub_self]
      rfl
    · rw [if_neg c]
      by_cases c2 : n0 ≤ q
      · rw [if_pos c2, if_pos c2]
        by_cases c3 : q - n0 < cs.length
        · rw [List.getElem?_append_left c3]
        · rw [List.getElem?_eq_none (by omega), List.getElem?_eq_none (by rw [List.length_append]; show cs.length + 1 ≤ _; omega)]
      · rw [if_neg c2, if_neg c2]
theorem lm_set (hk : k < cs.length) : mx_set (LM n0 s cs) (n0 + k) x = LM n0 s (cs.set k x) := by
  unfold mx_set LM
  refine Prod.ext ?_ (Prod.ext rfl (funext fun q => ?_))
  · show n0 + cs.length = n0 + (cs.set k x).length
    rw [List.length_set]
  · show (if q = n0 + k then some x else if n0 ≤ q then cs[q - n0]? else none) = (if n0 ≤ q then (cs.set k x)[q - n0]? else none)
    by_cases c : q = n0 + k
    · rw [if_pos c, if_pos (by omega), c, Nat.add_sub_cancel_left, List.getElem?_set_self hk]
    · rw [if_neg c]
      by_cases c2 : n0 ≤ q
      · rw [if_pos c2, if_pos c2, List.getElem?_set_ne (by omega)]
      · rw [if_neg c2, if_neg c2]
theorem app_at (hk : cs.length = k) (j : Nat) : (cs ++ l)[k + j]? = l[j]? := by
  rw [List.getElem?_append_right (by omega)]
  congr 1
  omega
theorem app_set (hk : cs.length = k) (j : Nat) : (cs ++ l).set (k + j) x = cs ++ l.set j x := by
  rw [List.set_append_right _ _ (by omega)]
  congr 2
  omega
theorem q_1 (hk : cs.length = k) : (LQ n0 s cs h l).1 = n0 + (k + (l.length + 1)) := by
  show n0 + (cs ++ h :: l).length = _
  rw [List.length_append, hk]
  rfl
theorem q_new : mx_new (LQ n0 s cs h l) n x = LQ n0 (s + n) cs h (l ++ [x]) := by
  unfold LQ
  rw [lm_new, List.append_assoc]
  rfl
theorem q_nwI (hi : i = nI m) (hm : m ≤ 100000) : nwI (LQ n0 s cs h l) i = some (LQ n0 (s + m) cs h (l ++ [z_I m])) := by
  unfold nwI
  rw [hi, nI_clamp (by omega), if_neg (fun y => y.elim (fun z => nI_pos (by omega) z) (fun z => by omega)), q_new]
  rfl
theorem q_nwL (hi : i = nI m) (hm : m ≤ 100000) : nwL (LQ n0 s cs h l) i = some (LQ n0 (s + m) cs h (l ++ [mx_la m (fun _ => 0)])) := by
  unfold nwL
  rw [hi, nI_clamp (by omega), if_neg (fun y => y.elim (fun z => nI_pos (by omega) z) (fun z => by omega)), q_new]
theorem q_nwZ (hi : i = nI m) (hm : m ≤ 100000) : nwZ (LQ n0 s cs h l) i = some (LQ n0 (s + m) cs h (l ++ [mx_za m (fun _ => 0)])) := by
  unfold nwZ
  rw [hi, nI_clamp (by omega), if_neg (fun y => y.elim (fun z => nI_pos (by omega) z) (fun z => by omega)), q_new]
theorem q_nwQ {t : Nat} (hi : i = nI m) (hm : m ≤ 100000) : nwQ t (LQ n0 s cs h l) i = some (LQ n0 (s + m) cs h (l ++ [mx_ra t m (fun _ => none)])) := by
  unfold nwQ
  rw [hi, nI_clamp (by omega), if_neg (fun y => y.elim (fun z => nI_pos (by omega) z) (fun z => by omega)), q_new]
theorem q_pF (hk : cs.length = k) (hf : f < fs.length) : pF (LQ n0 s cs (mx_ob ci fs) l) ci (n0 + k) f v = some (LQ n0 s cs (mx_ob ci (fs.set f v)) l) := by
  unfold pF LQ
  have e : (cs ++ mx_ob ci fs :: l)[k]? = some (mx_ob ci fs) := app_at (j := 0) hk
  rw [lm_at, e]
  show (if ci = ci ∧ f < fs.length then some (mx_set (LM n0 s (cs ++ mx_ob ci fs :: l)) (n0 + k) (mx_ob ci (fs.set f v))) else none) = _
  rw [if_pos ⟨rfl, hf⟩, lm_set (by rw [List.length_append, hk]; show k < k + (l.length + 1); omega)]
  have e2 : (cs ++ mx_ob ci fs :: l).set k (mx_ob ci (fs.set f v)) = cs ++ mx_ob ci (fs.set f v) :: l := app_set (j := 0) hk
  rw [e2]
theorem q_gR {u : Nat} (hk : cs.length = k) (hf : fs[f]? = some (.ref u)) : gR (LQ n0 s cs (mx_ob ci fs) l) ci (n0 + k) f = some u := by
  refine gR_g.mpr ?_
  unfold gF LQ
  have e : (cs ++ mx_ob ci fs :: l)[k]? = some (mx_ob ci fs) := app_at (j := 0) hk
  rw [lm_at, e]
  show (if ci = ci then fs[f]? else none) = _
  rw [if_pos rfl, hf]
theorem q_start (hk : cs.length = k) : nwO (LM n0 s cs) ci n = LQ n0 (s + n) cs (mx_ob ci (mx_dv ci n)) [] := by
  unfold nwO
  rw [lm_new]
  rfl
/-- a world -/
theorem i_X9 (hk : cs.length = k) : f_X9_init (n0 + k) (nwO (LM n0 s cs) 9 12) = some (LM n0 (s + 222) (cs ++ W9 n0 k)) := by
  rw [q_start hk]
  unfold f_X9_init f_X9_init_0
  rw [q_pF hk (by decide), bnd, q_nwI (i := 5) (m := 5) rfl (by omega), bnd, q_1 hk, q_pF hk (by simp only [List.length_set]; decide), bnd, q_nwI (i := 5) (m := 5) rfl (by omega), bnd, q_1 hk, q_pF hk (by simp only [List.length_set]; decide), bnd, q_nwI (i := 5) (m := 5) rfl (by omega), bnd, q_1 hk, q_pF hk (by simp only [List.length_set]; decide), bnd, q_nwI (i := 5) (m := 5) rfl (by omega), bnd, q_1 hk, q_pF hk (by simp only [List.length_set]; decide), bnd, q_nwI (i := 5) (m := 5) rfl (by omega), bnd, q_1 hk, q_pF hk (by simp only [List.length_set]; decide), bnd, q_nwI (i := 5) (m := 5) rfl (by omega), bnd, q_1 hk, q_pF hk (by simp only [List.length_set]; decide), bnd, q_nwI (i := 60) (m := 60) rfl (by omega), bnd, q_1 hk, q_pF hk (by simp only [List.length_set]; decide), bnd, q_nwI (i := 120) (m := 120) rfl (by omega), bnd, q_1 hk, q_pF hk (by simp only [List.length_set]; decide), bnd]
  exact congrArg some (lm_c (by omega) rfl)
theorem i_X3 (hk : cs.length = k) (hi : i = nI m) (hm : m ≤ 100) : f_X3_init (n0 + k) i (nwO (LM n0 s cs) 3 2) = some (LM n0 (s + (2 + m)) (cs ++ R3 n0 k m)) := by
  rw [q_start hk]
  unfold f_X3_init f_X3_init_0
  have e : jmax i 0 = nI m := by
    rw [hi, show (0 : Int32) = nI 0 from rfl, jmax_n (by omega) (by omega)]
    congr 1
    omega
  rw [e, q_nwI (m := m) rfl (by omega), bnd, q_1 hk, q_pF hk (by decide), bnd]
  exact congrArg some (lm_c (by omega) rfl)
theorem q_len (hk : cs.length = k) : (cs ++ h :: l).length = k + (l.length + 1) := by
  rw [List.length_append, hk]
  rfl
theorem q_9 (hk : cs.length = k) : f_X9_init (LQ n0 s cs h l).1 (nwO (LQ n0 s cs h l) 9 12) = some (LQ n0 (s + 222) cs h (l ++ W9 n0 (k + (l.length + 1)))) := by
  rw [q_1 hk]
  have := i_X9 (n0 := n0) (s := s) (q_len (h := h) (l := l) hk)
  rw [List.append_assoc] at this
  exact this
theorem q_3 (hk : cs.length = k) (hi : i = nI m) (hm : m ≤ 100) : f_X3_init (LQ n0 s cs h l).1 i (nwO (LQ n0 s cs h l) 3 2) = some (LQ n0 (s + (2 + m)) cs h (l ++ R3 n0 (k + (l.length + 1)) m)) := by
  rw [q_1 hk]
  have := i_X3 (n0 := n0) (s := s) (q_len (h := h) (l := l) hk) hi hm
  rw [List.append_assoc] at this
  exact this
end LMM
