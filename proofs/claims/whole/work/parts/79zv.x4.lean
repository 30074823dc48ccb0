/-! the constructors: a State -/
def WS (n0 k i : Nat) : List ACell := match i with
  | 0 => []
  | i + 1 => WS n0 k i ++ W9 n0 (k + 9 * i)
def P2 (n0 k i : Nat) : Nat → Option Nat := match i with
  | 0 => fun _ => none
  | i + 1 => va_up (P2 n0 k i) i (some (n0 + (k + (26 + 9 * i))))
def rul (i : Nat) : Nat → Int32 := match i with
  | 0 => fun _ => 0
  | i + 1 => upd (upd (rul i) (i * 2) (nI (i + 1))) (i * 2 + 1) (nI (11 + i * 10 + i))
def F4 (n0 k : Nat) : List Value := [.ref (n0 + (k + 1)), .ref (n0 + (k + 10)), .int 0, .int 0, .ref (n0 + (k + 11)), .int 0, .int (-1), .ref (n0 + (k + 12)), .ref (n0 + (k + 13)), .ref (n0 + (k + 15)), .ref (n0 + (k + 17)), .ref (n0 + (k + 19)), .ref (n0 + (k + 21)), .ref (n0 + (k + 23)), .ref (n0 + (k + 24)), .ref (n0 + (k + 25))]
def LA (n0 k : Nat) (g : Nat → Option Nat) (r : Nat → Int32) (w : List ACell) : List ACell := W9 n0 (k + 1) ++ ([mx_ra 2 30 g, mx_ra 3 4 (fun _ => none), mx_ia 20 r] ++ (R3 n0 (k + 13) 12 ++ (R3 n0 (k + 15) 12 ++ (R3 n0 (k + 17) 8 ++ (R3 n0 (k + 19) 8 ++ (R3 n0 (k + 21) 8 ++ ([z_I 25, z_I 25, z_I 8] ++ w)))))))
def S4 (n0 k : Nat) : List ACell := mx_ob 4 (F4 n0 k) :: LA n0 k (P2 n0 k 30) (rul 10) (WS n0 (k + 26) 30)
section XIV
variable {n0 s k m b j : Nat} {cs l w : List ACell} {h : ACell} {g : Nat → Option Nat} {r f : Nat → Int32} {v : Int32}
theorem WS_len (i : Nat) : (WS n0 k i).length = 9 * i := by
  induction i with
  | zero => rfl
  | succ i ih =>
    show (WS n0 k i ++ W9 n0 (k + 9 * i)).length = _
    rw [List.length_append, ih]
    show 9 * i + 9 = _
    omega
theorem LA_len : (LA n0 k g r w).length = w.length + 25 := rfl
theorem q_wI (hk : cs.length = k) (hl : l[j]? = some (mx_ia m f)) {i : Nat} (hi : i < m) (hm : m ≤ 5000) : wI (LQ n0 s cs h l) (n0 + (k + (j + 1))) (nI i) v = some (LQ n0 s cs h (l.set j (mx_ia m (upd f i v)))) := by
  have hj : j < l.length := (List.getElem?_eq_some_iff.mp hl).1
  have e : (cs ++ h :: l)[k + (j + 1)]? = some (mx_ia m f) := (app_at hk _).trans hl
  have ea : aI (LQ n0 s cs h l) (n0 + (k + (j + 1))) = some (m, f) := by
    unfold aI LQ
    rw [lm_at, e]
    rfl
  unfold wI
  rw [ea]
  show (if nI i < 0 ∨ m ≤ (nI i).toNatClampNeg then none else some (mx_set (LQ n0 s cs h l) (n0 + (k + (j + 1))) (mx_ia m (upd f (nI i).toNatClampNeg v)))) = _
  rw [if_neg (nI_in hi (by omega)), nI_clamp (by omega)]
  unfold LQ
  rw [lm_set (by rw [List.length_append, hk]; show k + (j + 1) < k + (l.length + 1); omega), app_set hk]
  rfl
theorem q_wQ (hk : cs.length = k) (hl : l[9]? = some (mx_ra 2 30 g)) {i : Nat} (hi : i < 30) : wQ 2 9 (LQ n0 s cs h (l ++ W9 n0 b)) (n0 + (k + 10)) (nI i) (some (n0 + (k + (l.length + 1)))) = some (LQ n0 s cs h ((l ++ W9 n0 b).set 9 (mx_ra 2 30 (va_up g i (some (n0 + (k + (l.length + 1)))))))) := by
  have hj : 9 < l.length := (List.getElem?_eq_some_iff.mp hl).1
  have e : (cs ++ h :: (l ++ W9 n0 b))[k + 10]? = some (mx_ra 2 30 g) := (app_at hk _).trans ((List.getElem?_append_left hj).trans hl)
  have e2 : (cs ++ h :: (l ++ W9 n0 b))[k + (l.length + 1)]? = some _ := (app_at hk _).trans ((List.getElem?_append_right (Nat.le_refl _)).trans (by rw [Nat.sub_self]; rfl))
  have ea : aQ 2 (LQ n0 s cs h (l ++ W9 n0 b)) (n0 + (k + 10)) = some (30, g) := by
    unfold aQ LQ
    rw [lm_at, e]
    rfl
  have eo : isOb (LQ n0 s cs h (l ++ W9 n0 b)) 9 (n0 + (k + (l.length + 1))) = true := by
    unfold isOb LQ
    rw [lm_at, e2]
    rfl
  unfold wQ
  rw [ea]
  show (if (nI i < 0 ∨ 30 ≤ (nI i).toNatClampNeg) ∨ ¬ (∀ v, some (n0 + (k + (l.length + 1))) = some v → isOb (LQ n0 s cs h (l ++ W9 n0 b)) 9 v = true) then none else some (mx_set (LQ n0 s cs h (l ++ W9 n0 b)) (n0 + (k + 10)) (mx_ra 2 30 (va_up g (nI i).toNatClampNeg (some (n0 + (k + (l.length + 1)))))))) = _
  rw [if_neg (fun y => y.elim (nI_in hi (by omega)) (fun y => y (fun v hv => by obtain rfl := Option.some.inj hv; exact eo))), nI_clamp (by omega)]
  unfold LQ
  rw [lm_set (by rw [List.length_append, hk]; show k + 10 < k + ((l ++ W9 n0 b).length + 1); rw [List.length_append]; omega), app_set (j := 10) hk]
  rfl
theorem x4_r (hk : cs.length = k) : ∀ d i n, i + d = 10 → d < n → f_X4_init_163 n (n0 + k) (nI i) (LQ n0 s cs (mx_ob 4 (F4 n0 k)) (LA n0 k g (rul i) w)) = some (LQ n0 s cs (mx_ob 4 (F4 n0 k)) (LA n0 k g (rul 10) w)) := by
  intro d
  induction d with
  | zero =>
    intro i n h1 h2
    obtain ⟨n, rfl⟩ : ∃ e, n = e + 1 := ⟨n - 1, by omega⟩
    obtain rfl : i = 10 := by omega
    rw [f_X4_init_163, if_pos (by decide)]
  | succ d ih =>
    intro i n h1 h2
    obtain ⟨n, rfl⟩ : ∃ e, n = e + 1 := ⟨n - 1, by omega⟩
    have g7 : ∀ l, gR (LQ n0 s cs (mx_ob 4 (F4 n0 k)) l) 4 (n0 + k) 7 = some (n0 + (k + 12)) := fun l => q_gR hk rfl
    have w1 : wI (LQ n0 s cs (mx_ob 4 (F4 n0 k)) (LA n0 k g (rul i) w)) (n0 + (k + 12)) (nI (i * 2)) (nI (i + 1)) = some (LQ n0 s cs (mx_ob 4 (F4 n0 k)) (LA n0 k g (upd (rul i) (i * 2) (nI (i + 1))) w)) := q_wI (j := 11) (m := 20) (f := rul i) hk rfl (by omega) (by omega)
    have w2 : wI (LQ n0 s cs (mx_ob 4 (F4 n0 k)) (LA n0 k g (upd (rul i) (i * 2) (nI (i + 1))) w)) (n0 + (k + 12)) (nI (i * 2 + 1)) (nI (11 + i * 10 + i)) = some (LQ n0 s cs (mx_ob 4 (F4 n0 k)) (LA n0 k g (rul (i + 1)) w)) := q_wI (j := 11) (m := 20) (f := upd (rul i) (i * 2) (nI (i + 1))) hk rfl (by omega) (by omega)
    rw [f_X4_init_163, show (10 : Int32) = nI 10 from rfl, if_neg (nI_ge (by omega) (by omega)), g7, bnd, show (2 : Int32) = nI 2 from rfl, pk_mul, nI_1, nI_1, pk_mul, show (11 : Int32) = nI 11 from rfl, nI_add, nI_add, w1, bnd, g7, bnd, w2, bnd]
    exact ih (i + 1) n (by omega) (by omega)
theorem x4_w (hk : cs.length = k) (R : Option Mem) : ∀ d i n s, i + d = 30 → d < n → f_X4_init_163 fu (n0 + k) 0 (LQ n0 (s + 222 * d) cs (mx_ob 4 (F4 n0 k)) (LA n0 k (P2 n0 k 30) r (WS n0 (k + 26) 30))) = R → f_X4_init_136 n (n0 + k) (nI i) (LQ n0 s cs (mx_ob 4 (F4 n0 k)) (LA n0 k (P2 n0 k i) r (WS n0 (k + 26) i))) = R := by
  intro d
  induction d with
  | zero =>
    intro i n s h1 h2 hR
    obtain ⟨n, rfl⟩ : ∃ e, n = e + 1 := ⟨n - 1, by omega⟩
    obtain rfl : i = 30 := by omega
    have e0 : s + 222 * 0 = s := by omega
    rw [e0] at hR
    rw [f_X4_init_136, if_pos (by decide)]
    exact hR
  | succ d ih =>
    intro i n s h1 h2 hR
    obtain ⟨n, rfl⟩ : ∃ e, n = e + 1 := ⟨n - 1, by omega⟩
    have g1 : gR (LQ n0 s cs (mx_ob 4 (F4 n0 k)) (LA n0 k (P2 n0 k i) r (WS n0 (k + 26) i))) 4 (n0 + k) 1 = some (n0 + (k + 10)) := q_gR hk rfl
    have ln : (LA n0 k (P2 n0 k i) r (WS n0 (k + 26) i)).length + 1 = 26 + 9 * i := by
      rw [LA_len, WS_len]
      omega
    have a1 := q_1 (n0 := n0) (s := s) (h := mx_ob 4 (F4 n0 k)) (l := LA n0 k (P2 n0 k i) r (WS n0 (k + 26) i)) hk
    have q9 := q_9 (n0 := n0) (s := s) (h := mx_ob 4 (F4 n0 k)) (l := LA n0 k (P2 n0 k i) r (WS n0 (k + 26) i)) hk
    have wq := q_wQ (n0 := n0) (s := s + 222) (h := mx_ob 4 (F4 n0 k)) (l := LA n0 k (P2 n0 k i) r (WS n0 (k + 26) i)) (b := k + (26 + 9 * i)) (g := P2 n0 k i) hk rfl (i := i) (by omega)
    rw [ln] at a1 q9 wq
    have eL : (LA n0 k (P2 n0 k i) r (WS n0 (k + 26) i) ++ W9 n0 (k + (26 + 9 * i))).set 9 (mx_ra 2 30 (va_up (P2 n0 k i) i (some (n0 + (k + (26 + 9 * i)))))) = LA n0 k (P2 n0 k (i + 1)) r (WS n0 (k + 26) (i + 1)) := by
      have e2 : WS n0 (k + 26) (i + 1) = WS n0 (k + 26) i ++ W9 n0 (k + (26 + 9 * i)) := by
        show WS n0 (k + 26) i ++ W9 n0 (k + 26 + 9 * i) = _
        rw [Nat.add_assoc]
      rw [e2]
      rfl
    rw [eL] at wq
    rw [f_X4_init_136, show (30 : Int32) = nI 30 from rfl, if_neg (nI_ge (by omega) (by omega)), g1, bnd, bnd, q9, bnd, a1, wq, bnd, nI_1]
    refine ih (i + 1) n (s + 222) (by omega) (by omega) ?_
    rw [← hR, show s + 222 + 222 * d = s + 222 * (d + 1) by omega]
theorem i_X4 (hk : cs.length = k) : f_X4_init (n0 + k) (nwO (LM n0 s cs) 4 16) = some (LM n0 (s + 7068) (cs ++ S4 n0 k)) := by
  rw [q_start hk]
  unfold f_X4_init f_X4_init_0
  rw [bnd, q_9 hk, bnd, q_1 hk, q_pF hk (by decide), bnd, q_nwQ (i := 30) (m := 30) rfl (by omega), bnd, q_1 hk, q_pF hk (by simp only [List.length_set]; decide), bnd, q_nwQ (i := 4) (m := 4) rfl (by omega), bnd, q_1 hk, q_pF hk (by simp only [List.length_set]; decide), bnd, q_pF hk (by simp only [List.length_set]; decide), bnd, q_nwI (i := 20) (m := 20) rfl (by omega), bnd, q_1 hk, q_pF hk (by simp only [List.length_set]; decide), bnd, bnd, q_3 hk (i := 12) (m := 12) rfl (by omega), bnd, q_1 hk, q_pF hk (by simp only [List.length_set]; decide), bnd, bnd, q_3 hk (i := 12) (m := 12) rfl (by omega), bnd, q_1 hk, q_pF hk (by simp only [List.length_set]; decide), bnd, bnd, q_3 hk (i := 8) (m := 8) rfl (by omega), bnd, q_1 hk, q_pF hk (by simp only [List.length_set]; decide), bnd, bnd, q_3 hk (i := 8) (m := 8) rfl (by omega), bnd, q_1 hk, q_pF hk (by simp only [List.length_set]; decide), bnd, bnd, q_3 hk (i := 8) (m := 8) rfl (by omega), bnd, q_1 hk, q_pF hk (by simp only [List.length_set]; decide), bnd, q_nwI (i := 25) (m := 25) rfl (by omega), bnd, q_1 hk, q_pF hk (by simp only [List.length_set]; decide), bnd, q_nwI (i := 25) (m := 25) rfl (by omega), bnd, q_1 hk, q_pF hk (by simp only [List.length_set]; decide), bnd, q_nwI (i := 8) (m := 8) rfl (by omega), bnd, q_1 hk, q_pF hk (by simp only [List.length_set]; decide), bnd]
  refine (congrArg (f_X4_init_136 fu (n0 + k) 0) (?_ : _ = LQ n0 (s + 408) cs (mx_ob 4 (F4 n0 k)) (LA n0 k (P2 n0 k 0) (rul 0) (WS n0 (k + 26) 0)))).trans ?_
  · exact lm_c (by omega) rfl
  · rw [show (0 : Int32) = nI 0 from rfl]
    refine x4_w hk _ 30 0 fu (s + 408) (by omega) (by unfold fu; omega) ?_
    obtain ⟨z, hz⟩ : ∃ z, fu = z + 11 := ⟨999989, by unfold fu; omega⟩
    rw [show (0 : Int32) = nI 0 from rfl, hz]
    refine (x4_r hk 10 0 (z + 11) (by omega) (by omega)).trans ?_
    exact congrArg some (lm_c (by omega) rfl)
end XIV
