/-! the block as the constructors leave it -/
abbrev wldP (a : Nat) : Prop := a = 2 ∨ a = 298 ∨ a = 633 ∨ (27 ≤ a ∧ a < 297 ∧ (a - 27) % 9 = 0) ∨ (323 ≤ a ∧ a < 593 ∧ (a - 323) % 9 = 0)
def Ra (a j : Nat) : Int32 := if wldP a ∧ j = 2 then 193 else if (a = 1 ∨ a = 297) ∧ j = 6 then -1 else if a = 13 ∨ a = 309 then rul 10 j else if a = 595 ∧ (j = 1 ∨ j = 2) then -1 else if a = 642 ∧ (j = 5 ∨ j = 6) then -1 else if a = 642 ∧ j = 23 then 1 else 0
def σa : ST := (Ra, fun _ _ => 0, fun _ _ => none)
def CL (n0 : Nat) (l : List (Nat × Nat)) (a : Nat) : List ACell := match l with
  | [] => []
  | x :: l => (match cellOf (some x) n0 a (Ra a) (fun _ => 0) (fun _ => none) with | some c => c | none => z_I 0) :: CL n0 l (a + 1)
def sh_m : List (Nat × Nat) := [(2, 30), (3, 4), (0, 20), (103, 0), (0, 12), (103, 0), (0, 12), (103, 0), (0, 8), (103, 0), (0, 8), (103, 0), (0, 8), (0, 25), (0, 25), (0, 8)]
def sh_t : List (Nat × Nat) := [(107, 0), (0, 300), (102, 0), (0, 300), (0, 300), (0, 3), (0, 3), (0, 72), (100, 0), (0, 300), (106, 0), (103, 0), (0, 12), (0, 13), (0, 13), (0, 13), (4, 13), (0, 13), (0, 13), (0, 13), (0, 13), (0, 13), (0, 13), (0, 13), (0, 13), (0, 13), (0, 13), (0, 13), (0, 13), (0, 13), (0, 10), (0, 10), (101, 0), (0, 5), (0, 5), (0, 5), (105, 0), (0, 9), (0, 8), (0, 8)]
def sh_z : List (Nat × Nat) := [(111, 0), (0, 4607), (0, 4607), (0, 2820), (0, 300), (0, 160), (0, 8), (1, 330), (5, 330), (0, 101), (1, 13), (1, 13), (0, 13), (0, 12), (0, 169), (0, 10), (0, 10), (0, 5), (0, 5), (0, 8), (0, 8)]
section STA
variable {n0 k a j : Nat}
theorem shp_s : shp = (110, 0) :: (sh_S ++ (sh_S ++ (sh_t ++ (sh_W ++ sh_z)))) := by decide +kernel
theorem shS_s : sh_S = (104, 0) :: (sh_W ++ (sh_m ++ (List.replicate 30 sh_W).flatten)) := by decide +kernel
theorem shS_l : sh_S.length = 296 := by decide +kernel
theorem CL_app (l1 l2 : List (Nat × Nat)) : ∀ a, CL n0 (l1 ++ l2) a = CL n0 l1 a ++ CL n0 l2 (a + l1.length) := by
  induction l1 with
  | nil => intro a; rfl
  | cons x l1 ih =>
    intro a
    have e : CL n0 (x :: l1 ++ l2) a = (match cellOf (some x) n0 a (Ra a) (fun _ => 0) (fun _ => none) with | some c => c | none => z_I 0) :: CL n0 (l1 ++ l2) (a + 1) := rfl
    rw [e, ih (a + 1), show a + 1 + l1.length = a + (x :: l1).length by rw [List.length_cons]; omega]
    rfl
theorem cof (x : Nat × Nat) (ri : Nat → Int32) (rl : Nat → Int64) (rq : Nat → Option Nat) : ∃ c, cellOf (some x) n0 a ri rl rq = some c := by
  obtain ⟨x1, x2⟩ := x
  match x1 with
  | 0 => exact ⟨_, rfl⟩
  | 1 => exact ⟨_, rfl⟩
  | 2 => exact ⟨_, rfl⟩
  | 3 => exact ⟨_, rfl⟩
  | 4 => exact ⟨_, rfl⟩
  | 5 => exact ⟨_, rfl⟩
  | x + 6 => exact ⟨_, rfl⟩
theorem CL_at (l : List (Nat × Nat)) : ∀ a i, (CL n0 l a)[i]? = cellOf l[i]? n0 (a + i) (Ra (a + i)) (fun _ => 0) (fun _ => none) := by
  induction l with
  | nil => intro a i; rfl
  | cons x l ih =>
    intro a i
    cases i with
    | zero =>
      obtain ⟨c, hc⟩ := cof (n0 := n0) (a := a) x (Ra a) (fun _ => 0) (fun _ => none)
      show some (match cellOf (some x) n0 a (Ra a) (fun _ => 0) (fun _ => none) with | some c => c | none => z_I 0) = cellOf (some x) n0 a (Ra a) (fun _ => 0) (fun _ => none)
      rw [hc]
    | succ i =>
      show (CL n0 l (a + 1))[i]? = cellOf l[i]? n0 (a + (i + 1)) (Ra (a + (i + 1))) (fun _ => 0) (fun _ => none)
      rw [ih, show a + 1 + i = a + (i + 1) by omega]
theorem Ra_w (h : wldP a) (j : Nat) : Ra a j = if j = 2 then 193 else 0 := by
  unfold Ra
  by_cases c : j = 2
  · rw [if_pos ⟨h, c⟩, if_pos c]
  · rw [if_neg (fun y => c y.2), if_neg (by omega), if_neg (by omega), if_neg (by omega), if_neg (by omega), if_neg (by omega), if_neg c]
theorem Ra_z (h : ¬ wldP a) (h2 : a ≠ 1 ∧ a ≠ 297 ∧ a ≠ 13 ∧ a ≠ 309 ∧ a ≠ 595 ∧ a ≠ 642) : Ra a = fun _ => 0 := by
  funext j
  unfold Ra
  rw [if_neg (fun y => h y.1), if_neg (by omega), if_neg (by omega), if_neg (by omega), if_neg (by omega), if_neg (by omega)]
theorem cl_W (h : wldP a) : CL n0 sh_W a = W9 n0 a := by
  have z : ∀ i, 1 ≤ i → i ≤ 8 → Ra (a + i) = fun _ => 0 := fun i h1 h2 => Ra_z (by omega) (by omega)
  have e0 : Ra a 0 = 0 := (Ra_w h 0).trans rfl
  have e1 : Ra a 1 = 0 := (Ra_w h 1).trans rfl
  have e2 : Ra a 2 = 193 := (Ra_w h 2).trans rfl
  have e3 : Ra a 3 = 0 := (Ra_w h 3).trans rfl
  show [mx_ob 9 [.int (Ra a 0), .int (Ra a 1), .int (Ra a 2), .int (Ra a 3), .ref (n0 + (a + 1)), .ref (n0 + (a + 2)), .ref (n0 + (a + 3)), .ref (n0 + (a + 4)), .ref (n0 + (a + 5)), .ref (n0 + (a + 6)), .ref (n0 + (a + 7)), .ref (n0 + (a + 8))], mx_ia 5 (Ra (a + 1)), mx_ia 5 (Ra (a + 2)), mx_ia 5 (Ra (a + 3)), mx_ia 5 (Ra (a + 4)), mx_ia 5 (Ra (a + 5)), mx_ia 5 (Ra (a + 6)), mx_ia 60 (Ra (a + 7)), mx_ia 120 (Ra (a + 8))] = W9 n0 a
  rw [e0, e1, e2, e3, z 1 (by omega) (by omega), z 2 (by omega) (by omega), z 3 (by omega) (by omega), z 4 (by omega) (by omega), z 5 (by omega) (by omega), z 6 (by omega) (by omega), z 7 (by omega) (by omega), z 8 (by omega) (by omega)]
  rfl
theorem cl_WS (hk : k = 1 ∨ k = 297) : ∀ i, i ≤ 30 → CL n0 (List.replicate i sh_W).flatten (k + 26) = WS n0 (k + 26) i := by
  intro i
  induction i with
  | zero => intro _; rfl
  | succ i ih =>
    intro hi
    have e : (List.replicate (i + 1) sh_W).flatten = (List.replicate i sh_W).flatten ++ sh_W := by
      rw [List.replicate_succ', List.flatten_append]
      show _ ++ (sh_W ++ []) = _
      rw [List.append_nil]
    have el : (List.replicate i sh_W).flatten.length = 9 * i := by
      rw [List.length_flatten, List.map_replicate, List.sum_replicate_nat, Nat.mul_comm]
      rfl
    rw [e, CL_app, ih (by omega), el, cl_W (by omega)]
    rfl
theorem P2_e (i : Nat) : P2 n0 k i = fun j => if j < i then some (n0 + (k + (26 + 9 * j))) else none := by
  induction i with
  | zero =>
    funext j
    rw [if_neg (by omega)]
    rfl
  | succ i ih =>
    funext j
    show va_up (P2 n0 k i) i (some (n0 + (k + (26 + 9 * i)))) j = _
    rw [ih]
    show (if j = i then some (n0 + (k + (26 + 9 * i))) else if j < i then some (n0 + (k + (26 + 9 * j))) else none) = _
    by_cases c : j = i
    · rw [if_pos c, if_pos (by omega), c]
    · rw [if_neg c]
      by_cases c2 : j < i
      · rw [if_pos c2, if_pos (by omega)]
      · rw [if_neg c2, if_neg (by omega)]
theorem cl_m1 : CL n0 sh_m 11 = [mx_ra 2 30 (fun i => if i < 30 then some (n0 + (11 + (16 + 9 * i))) else none), mx_ra 3 4 (fun _ => none), mx_ia 20 (rul 10)] ++ (R3 n0 (1 + 13) 12 ++ (R3 n0 (1 + 15) 12 ++ (R3 n0 (1 + 17) 8 ++ (R3 n0 (1 + 19) 8 ++ (R3 n0 (1 + 21) 8 ++ [z_I 25, z_I 25, z_I 8]))))) := by rfl
theorem cl_m2 : CL n0 sh_m 307 = [mx_ra 2 30 (fun i => if i < 30 then some (n0 + (307 + (16 + 9 * i))) else none), mx_ra 3 4 (fun _ => none), mx_ia 20 (rul 10)] ++ (R3 n0 (297 + 13) 12 ++ (R3 n0 (297 + 15) 12 ++ (R3 n0 (297 + 17) 8 ++ (R3 n0 (297 + 19) 8 ++ (R3 n0 (297 + 21) 8 ++ [z_I 25, z_I 25, z_I 8]))))) := by rfl
theorem cl_S (hk : k = 1 ∨ k = 297) : CL n0 sh_S k = S4 n0 k := by
  have eP : (fun i => if i < 30 then some (n0 + (k + 10 + (16 + 9 * i))) else none) = P2 n0 k 30 := by
    rw [P2_e]
    funext j
    by_cases c : j < 30
    · rw [if_pos c, if_pos c, show k + 10 + (16 + 9 * j) = k + (26 + 9 * j) by omega]
    · rw [if_neg c, if_neg c]
  have e1 : CL n0 sh_S k = (match cellOf (some (104, 0)) n0 k (Ra k) (fun _ => 0) (fun _ => none) with | some c => c | none => z_I 0) :: CL n0 (sh_W ++ (sh_m ++ (List.replicate 30 sh_W).flatten)) (k + 1) := by
    rw [shS_s]
    rfl
  have lW : sh_W.length = 9 := rfl
  have lm : sh_m.length = 16 := rfl
  rw [e1, CL_app, CL_app, lW, lm, cl_W (by omega), show k + 1 + 9 + 16 = k + 26 by omega, cl_WS hk 30 (by omega)]
  unfold S4 LA
  rcases hk with rfl | rfl
  · rw [show 1 + 1 + 9 = 11 from rfl, cl_m1, ← eP]
    rfl
  · rw [show 297 + 1 + 9 = 307 from rfl, cl_m2, ← eP]
    rfl
theorem cl_t : CL n0 sh_t 593 = X7l n0 593 ++ (X2l n0 595 (n0 + 593) ++ (X0l n0 601 ++ (X6l n0 603 ++ (X1l n0 625 ++ X5l n0 629)))) := by rfl
theorem cl_u : CL n0 sh_z 642 = T11 n0 := by rfl
theorem cl_all : CL n0 shp 0 = T10 n0 ++ T11 n0 := by
  have e1 : CL n0 shp 0 = mx_ob 10 (F10 n0) :: CL n0 (sh_S ++ (sh_S ++ (sh_t ++ (sh_W ++ sh_z)))) (0 + 1) := by
    rw [shp_s]
    rfl
  have lt : sh_t.length = 40 := rfl
  have lW : sh_W.length = 9 := rfl
  rw [e1, CL_app, CL_app, CL_app, CL_app, shS_l, lt, lW, show 0 + 1 = 1 from rfl, cl_S (Or.inl rfl), show 1 + 296 = 297 from rfl, cl_S (Or.inr rfl), show 297 + 296 = 593 from rfl, cl_t, show 593 + 40 = 633 from rfl, cl_W (by omega), show 633 + 9 = 642 from rfl, cl_u]
  unfold T10
  simp only [List.append_assoc, List.cons_append, List.nil_append]
theorem lm_put (S : Nat) : LM n0 S (T10 n0 ++ T11 n0) = put (n0 + 663, S, fun _ => none) n0 σa := by
  rw [← cl_all]
  have len : (CL n0 shp 0).length = 663 := by
    rw [cl_all, List.length_append, T10_len]
    rfl
  unfold LM put
  refine Prod.ext ?_ (Prod.ext rfl (funext fun q => ?_))
  · show n0 + (CL n0 shp 0).length = n0 + 663
    rw [len]
  · show (if n0 ≤ q then (CL n0 shp 0)[q - n0]? else none) = (if n0 ≤ q ∧ q < n0 + 663 then cellAt n0 σa (q - n0) else none)
    by_cases c : n0 ≤ q
    · rw [if_pos c]
      by_cases c2 : q < n0 + 663
      · rw [if_pos ⟨c, c2⟩, CL_at, Nat.zero_add]
        rfl
      · rw [if_neg (fun y => c2 y.2), List.getElem?_eq_none (by rw [len]; omega)]
    · rw [if_neg c, if_neg (fun y => c y.1)]
end STA
