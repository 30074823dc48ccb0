/-! ONE BLOCK: the class's objects and the reference's, at B .. B + 662, of a fixed shape, over typed rows: ints, longs, references to Texts. What lies beyond is N. -/
abbrev ST : Type := (Nat → Nat → Int32) × (Nat → Nat → Int64) × (Nat → Nat → Option Nat)
def sh_W : List (Nat × Nat) := [(109, 0), (0, 5), (0, 5), (0, 5), (0, 5), (0, 5), (0, 5), (0, 60), (0, 120)]
def sh_R (n : Nat) : List (Nat × Nat) := [(103, 0), (0, n)]
def sh_S : List (Nat × Nat) := [(104, 0)] ++ sh_W ++ [(2, 30), (3, 4), (0, 20)] ++ sh_R 12 ++ sh_R 12 ++ sh_R 8 ++ sh_R 8 ++ sh_R 8 ++ [(0, 25), (0, 25), (0, 8)] ++ (List.replicate 30 sh_W).flatten
def shp : List (Nat × Nat) := [(110, 0)] ++ sh_S ++ sh_S ++ [(107, 0), (0, 300), (102, 0), (0, 300), (0, 300), (0, 3), (0, 3), (0, 72), (100, 0), (0, 300), (106, 0)] ++ sh_R 12 ++ [(0, 13), (0, 13), (0, 13), (4, 13)] ++ List.replicate 13 (0, 13) ++ [(0, 10), (0, 10), (101, 0), (0, 5), (0, 5), (0, 5), (105, 0), (0, 9), (0, 8), (0, 8)] ++ sh_W ++
  [(111, 0), (0, 4607), (0, 4607), (0, 2820), (0, 300), (0, 160), (0, 8), (1, 330), (5, 330), (0, 101), (1, 13), (1, 13), (0, 13), (0, 12), (0, 169), (0, 10), (0, 10), (0, 5), (0, 5), (0, 8), (0, 8)]
theorem shp_len : shp.length = 663 := by decide +kernel
def fdl (ci B a : Nat) (ri : Nat → Int32) (rl : Nat → Int64) : List Value := match ci with
  | 0 => [.ref (B + (a + 1)), .int (ri 1)]
  | 1 => [.ref (B + (a + 1)), .ref (B + (a + 2)), .ref (B + (a + 3))]
  | 2 => [.ref (B + (593)), .int (ri 1), .int (ri 2), .int (ri 3), .int (ri 4), .int (ri 5), .int (ri 6), .ref (B + (a + 1)), .ref (B + (a + 2)), .ref (B + (a + 3)), .ref (B + (a + 4)), .ref (B + (a + 5))]
  | 3 => [.ref (B + (a + 1)), .int (ri 1)]
  | 4 => [.ref (B + (a + 1)), .ref (B + (a + 10)), .int (ri 2), .int (ri 3), .ref (B + (a + 11)), .int (ri 5), .int (ri 6), .ref (B + (a + 12)), .ref (B + (a + 13)), .ref (B + (a + 15)), .ref (B + (a + 17)), .ref (B + (a + 19)), .ref (B + (a + 21)), .ref (B + (a + 23)), .ref (B + (a + 24)), .ref (B + (a + 25))]
  | 5 => [.ref (B + (a + 1)), .ref (B + (a + 2)), .ref (B + (a + 3))]
  | 6 => [.ref (B + (a + 1)), .ref (B + (a + 3)), .ref (B + (a + 4)), .ref (B + (a + 5)), .ref (B + (a + 6)), .ref (B + (a + 20)), .ref (B + (a + 21))]
  | 7 => [.ref (B + (a + 1)), .int (ri 1), .int (ri 2), .int (ri 3), .int (ri 4), .int (ri 5)]
  | 9 => [.int (ri 0), .int (ri 1), .int (ri 2), .int (ri 3), .ref (B + (a + 1)), .ref (B + (a + 2)), .ref (B + (a + 3)), .ref (B + (a + 4)), .ref (B + (a + 5)), .ref (B + (a + 6)), .ref (B + (a + 7)), .ref (B + (a + 8))]
  | 10 => [.ref (B + (a + 1)), .ref (B + (a + 297)), .ref (B + (a + 593)), .ref (B + (a + 595)), .ref (B + (a + 601)), .ref (B + (a + 603)), .ref (B + (a + 625)), .ref (B + (a + 629)), .ref (B + (a + 633))]
  | 11 => [.ref (B + (a + 1)), .ref (B + (a + 2)), .ref (B + (a + 3)), .ref (B + (a + 4)), .int (ri 4), .int (ri 5), .int (ri 6), .int (ri 7), .int (ri 8), .int (ri 9), .int (ri 10), .long (rl 11), .int (ri 12), .int (ri 13), .int (ri 14), .ref (B + (a + 5)), .int (ri 16), .int (ri 17), .int (ri 18), .int (ri 19), .ref (B + (a + 6)), .ref (B + (a + 7)), .ref (B + (a + 8)), .int (ri 23), .int (ri 24), .ref (B + (a + 9)), .ref (B + (a + 10)), .ref (B + (a + 11)), .ref (B + (a + 12)), .ref (B + (a + 13)), .ref (B + (a + 14)), .ref (B + (a + 15)), .ref (B + (a + 16)), .ref (B + (a + 17)), .ref (B + (a + 18)), .ref (B + (a + 19)), .ref (B + (a + 20))]
  | _ => []
def cellOf (s : Option (Nat × Nat)) (B a : Nat) (ri : Nat → Int32) (rl : Nat → Int64) (rq : Nat → Option Nat) : Option ACell := match s with
  | some (0, n) => some (mx_ia n ri)
  | some (1, n) => some (mx_la n rl)
  | some (2, n) => some (mx_ra 2 n (fun i => if i < 30 then some (B + (a + (16 + 9 * i))) else none))
  | some (3, n) => some (mx_ra 3 n rq)
  | some (4, n) => some (mx_ra 4 n (fun i => if i < 13 then some (B + (a + (1 + i))) else none))
  | some (5, n) => some (mx_za n ri)
  | some (c, _) => some (mx_ob (c - 100) (fdl (c - 100) B a ri rl))
  | none => none
def cellAt (B : Nat) (σ : ST) (a : Nat) : Option ACell := cellOf shp[a]? B a (σ.1 a) (σ.2.1 a) (σ.2.2 a)
def put (N : Mem) (B : Nat) (σ : ST) : Mem := (N.1, N.2.1, fun q => if B ≤ q ∧ q < B + 663 then cellAt B σ (q - B) else N.2.2 q)
def setI (σ : ST) (a k : Nat) (v : Int32) : ST := (fun b j => if b = a ∧ j = k then v else σ.1 b j, σ.2)
def setL (σ : ST) (a k : Nat) (v : Int64) : ST := (σ.1, fun b j => if b = a ∧ j = k then v else σ.2.1 b j, σ.2.2)
def setQ (σ : ST) (a k : Nat) (v : Option Nat) : ST := (σ.1, σ.2.1, fun b j => if b = a ∧ j = k then v else σ.2.2 b j)
/-- a whole row -/
def setR (σ : ST) (a : Nat) (f : Nat → Int32) : ST := (fun b j => if b = a then f j else σ.1 b j, σ.2)
def isC (ci a : Nat) : Prop := shp[a]? = some (100 + ci, 0)
def isA (n a : Nat) : Prop := shp[a]? = some (0, n)
def isL (n a : Nat) : Prop := shp[a]? = some (1, n)
def isZ (n a : Nat) : Prop := shp[a]? = some (5, n)
def isP (a : Nat) : Prop := shp[a]? = some (2, 30)
def isX (a : Nat) : Prop := shp[a]? = some (3, 4)
def isG (a : Nat) : Prop := shp[a]? = some (4, 13)
def shN (a : Nat) : Nat := (shp.getD a (0, 0)).2
theorem shp_lt {a : Nat} {s : Nat × Nat} (h : shp[a]? = some s) : a < 663 := by
  have := (List.getElem?_eq_some_iff.mp h).1
  rw [shp_len] at this
  exact this
section BLK
variable {N : Mem} {B : Nat} {σ : ST}
theorem put_at {a : Nat} (h : a < 663) : (put N B σ).2.2 (B + a) = cellAt B σ a := by
  show (if B ≤ B + a ∧ B + a < B + 663 then cellAt B σ (B + a - B) else N.2.2 (B + a)) = _
  rw [if_pos ⟨by omega, by omega⟩, Nat.add_sub_cancel_left]
theorem put_out {q : Nat} (h : B + 663 ≤ q) : (put N B σ).2.2 q = N.2.2 q := by
  show (if B ≤ q ∧ q < B + 663 then _ else N.2.2 q) = _
  rw [if_neg (by omega)]
theorem put_c {a : Nat} {s : Nat × Nat} (h : shp[a]? = some s) : (put N B σ).2.2 (B + a) = cellOf (some s) B a (σ.1 a) (σ.2.1 a) (σ.2.2 a) := by
  rw [put_at (shp_lt h)]
  unfold cellAt
  rw [h]
theorem put_C {ci a : Nat} (h : isC ci a) : (put N B σ).2.2 (B + a) = some (mx_ob ci (fdl ci B a (σ.1 a) (σ.2.1 a))) := by
  rw [put_c h]
  match ci with
  | 0 => rfl | 1 => rfl | 2 => rfl | 3 => rfl | 4 => rfl | 5 => rfl | 6 => rfl | 7 => rfl | 8 => rfl | 9 => rfl | 10 => rfl | 11 => rfl
  | ci + 12 =>
    show some (mx_ob (100 + (ci + 12) - 100) (fdl (100 + (ci + 12) - 100) B a (σ.1 a) (σ.2.1 a))) = _
    rw [Nat.add_sub_cancel_left]
theorem put_A {n a : Nat} (h : isA n a) : (put N B σ).2.2 (B + a) = some (mx_ia n (σ.1 a)) := put_c h
theorem put_L {n a : Nat} (h : isL n a) : (put N B σ).2.2 (B + a) = some (mx_la n (σ.2.1 a)) := put_c h
theorem put_Z {n a : Nat} (h : isZ n a) : (put N B σ).2.2 (B + a) = some (mx_za n (σ.1 a)) := put_c h
theorem put_P {a : Nat} (h : isP a) : (put N B σ).2.2 (B + a) = some (mx_ra 2 30 (fun i => if i < 30 then some (B + (a + (16 + 9 * i))) else none)) := put_c h
theorem put_X {a : Nat} (h : isX a) : (put N B σ).2.2 (B + a) = some (mx_ra 3 4 (σ.2.2 a)) := put_c h
theorem put_G {a : Nat} (h : isG a) : (put N B σ).2.2 (B + a) = some (mx_ra 4 13 (fun i => if i < 13 then some (B + (a + (1 + i))) else none)) := put_c h
/-- writing a cell of the block -/
theorem put_set {τ : ST} {a : Nat} {c : ACell} (ha : a < 663) (hc : cellAt B τ a = some c) (ho : ∀ b, b ≠ a → cellAt B τ b = cellAt B σ b) : mx_set (put N B σ) (B + a) c = put N B τ := by
  refine Prod.ext rfl (Prod.ext rfl (funext fun q => ?_))
  show (if q = B + a then some c else if B ≤ q ∧ q < B + 663 then cellAt B σ (q - B) else N.2.2 q) = (if B ≤ q ∧ q < B + 663 then cellAt B τ (q - B) else N.2.2 q)
  by_cases h : q = B + a
  · subst h
    rw [if_pos rfl, if_pos ⟨by omega, by omega⟩, Nat.add_sub_cancel_left, hc]
  · rw [if_neg h]
    by_cases h2 : B ≤ q ∧ q < B + 663
    · rw [if_pos h2, if_pos h2, ho (q - B) (by omega)]
    · rw [if_neg h2, if_neg h2]
theorem setI_1 (σ : ST) (a k : Nat) (v : Int32) : (setI σ a k v).1 a = upd (σ.1 a) k v := by
  funext j
  by_cases h : j = k
  · simp [setI, upd, h]
  · simp [setI, upd, h]
theorem setI_ne {a b k : Nat} {v : Int32} (h : b ≠ a) : (setI σ a k v).1 b = σ.1 b := by
  funext j
  simp [setI, h]
theorem cell_setI {a b k : Nat} {v : Int32} (h : b ≠ a) : cellAt B (setI σ a k v) b = cellAt B σ b := by
  unfold cellAt
  rw [setI_ne h]
  rfl
theorem setL_1 (σ : ST) (a k : Nat) (v : Int64) : (setL σ a k v).2.1 a = vp_updL (σ.2.1 a) k v := by
  funext j
  by_cases h : j = k
  · simp [setL, vp_updL, h]
  · simp [setL, vp_updL, h]
theorem cell_setL {a b k : Nat} {v : Int64} (h : b ≠ a) : cellAt B (setL σ a k v) b = cellAt B σ b := by
  unfold cellAt
  have : (setL σ a k v).2.1 b = σ.2.1 b := by
    funext j
    simp [setL, h]
  rw [this]
  rfl
theorem setQ_1 (σ : ST) (a k : Nat) (v : Option Nat) : (setQ σ a k v).2.2 a = va_up (σ.2.2 a) k v := by
  funext j
  by_cases h : j = k
  · simp [setQ, va_up, h]
  · simp [setQ, va_up, h]
theorem cell_setQ {a b k : Nat} {v : Option Nat} (h : b ≠ a) : cellAt B (setQ σ a k v) b = cellAt B σ b := by
  unfold cellAt
  have : (setQ σ a k v).2.2 b = σ.2.2 b := by
    funext j
    simp [setQ, h]
  rw [this]
  rfl
theorem setR_1 (σ : ST) (a : Nat) (f : Nat → Int32) : (setR σ a f).1 a = f := by
  funext j
  simp [setR]
theorem cell_setR {a b : Nat} {f : Nat → Int32} (h : b ≠ a) : cellAt B (setR σ a f) b = cellAt B σ b := by
  unfold cellAt
  have : (setR σ a f).1 b = σ.1 b := by
    funext j
    simp [setR, h]
  rw [this]
  rfl
theorem gF_put {ci a k : Nat} (h : isC ci a) : gF (put N B σ) ci (B + a) k = (fdl ci B a (σ.1 a) (σ.2.1 a))[k]? := by
  unfold gF
  rw [put_C h]
  exact if_pos rfl
theorem isOb_put {ci a : Nat} (h : isC ci a) : isOb (put N B σ) ci (B + a) = true := by
  unfold isOb
  rw [put_C h]
  simp [mx_ob]
theorem pF_put {ci a k : Nat} {v : Value} {τ : ST} (h : isC ci a) (hk : k < (fdl ci B a (σ.1 a) (σ.2.1 a)).length) (he : (fdl ci B a (σ.1 a) (σ.2.1 a)).set k v = fdl ci B a (τ.1 a) (τ.2.1 a)) (ho : ∀ b, b ≠ a → cellAt B τ b = cellAt B σ b) : pF (put N B σ) ci (B + a) k v = some (put N B τ) := by
  unfold pF
  rw [put_C h]
  show (if ci = ci ∧ k < (fdl ci B a (σ.1 a) (σ.2.1 a)).length then some (mx_set (put N B σ) (B + a) (mx_ob ci ((fdl ci B a (σ.1 a) (σ.2.1 a)).set k v))) else none) = _
  rw [if_pos ⟨rfl, hk⟩, he]
  congr 1
  refine put_set (shp_lt h) ?_ ho
  have h2 : (put N B τ).2.2 (B + a) = cellAt B τ a := put_at (shp_lt h)
  rw [← h2, put_C h]
/-- the typed operations -/
noncomputable def xI (n : Nat) (σ : ST) (b : Nat) (i : Int32) : Option Int32 := if i < 0 ∨ n ≤ i.toNatClampNeg then none else some (σ.1 b i.toNatClampNeg)
noncomputable def xL (n : Nat) (σ : ST) (b : Nat) (i : Int32) : Option Int64 := if i < 0 ∨ n ≤ i.toNatClampNeg then none else some (σ.2.1 b i.toNatClampNeg)
noncomputable def xQ (σ : ST) (b : Nat) (i : Int32) : Option (Option Nat) := if i < 0 ∨ 4 ≤ i.toNatClampNeg then none else some (σ.2.2 b i.toNatClampNeg)
def zb (x : Int32) : Option Bool := if x = 0 then some false else if x = 1 then some true else none
noncomputable def xZ (n : Nat) (σ : ST) (b : Nat) (i : Int32) : Option Bool := (xI n σ b i).bind zb
noncomputable def yI (n : Nat) (σ : ST) (b : Nat) (i v : Int32) : Option ST := if i < 0 ∨ n ≤ i.toNatClampNeg then none else some (setI σ b i.toNatClampNeg v)
noncomputable def yL (n : Nat) (σ : ST) (b : Nat) (i : Int32) (v : Int64) : Option ST := if i < 0 ∨ n ≤ i.toNatClampNeg then none else some (setL σ b i.toNatClampNeg v)
noncomputable def xP (b : Nat) (i : Int32) : Option Nat := if i < 0 ∨ 30 ≤ i.toNatClampNeg then none else some (b + (16 + 9 * i.toNatClampNeg))
noncomputable def xG (b : Nat) (i : Int32) : Option Nat := if i < 0 ∨ 13 ≤ i.toNatClampNeg then none else some (b + (1 + i.toNatClampNeg))
noncomputable def zC (n0 n1 : Nat) (σ : ST) (b0 : Nat) (sp : Int32) (b1 : Nat) (dp n : Int32) : Option ST := if sp < 0 ∨ dp < 0 ∨ n < 0 ∨ n0 < sp.toNatClampNeg + n.toNatClampNeg ∨ n1 < dp.toNatClampNeg + n.toNatClampNeg then none else some (setR σ b1 (va_cpy (σ.1 b0) (σ.1 b1) sp.toNatClampNeg dp.toNatClampNeg n.toNatClampNeg))
theorem aI_put {n b : Nat} (h : isA n b) : aI (put N B σ) (B + b) = some (n, σ.1 b) := by
  unfold aI
  rw [put_A h]
  rfl
theorem rI_put {n b : Nat} {i : Int32} (h : isA n b) : rI (put N B σ) (B + b) i = xI n σ b i := by
  unfold rI
  rw [aI_put h]
  rfl
theorem rL_put {n b : Nat} {i : Int32} (h : isL n b) : rL (put N B σ) (B + b) i = xL n σ b i := by
  unfold rL aL
  rw [put_L h]
  rfl
theorem rZb_put {n b : Nat} {i : Int32} (h : isZ n b) : rZb (put N B σ) (B + b) i = xZ n σ b i := by
  unfold rZb rZ aZ
  rw [put_Z h]
  rfl
theorem rQ_put {b : Nat} {i : Int32} (h : isX b) : rQ 3 (put N B σ) (B + b) i = xQ σ b i := by
  unfold rQ aQ
  rw [put_X h]
  rfl
theorem rP_put {b : Nat} {i : Int32} (h : isP b) : rR 2 (put N B σ) (B + b) i = (xP b i).map (fun a => B + a) := by
  unfold rR rQ aQ
  rw [put_P h]
  unfold xP
  by_cases hc : i < 0 ∨ 30 ≤ i.toNatClampNeg
  · rw [if_pos hc]
    show ((if i < 0 ∨ 30 ≤ i.toNatClampNeg then none else _ : Option (Option Nat)).bind fun o => o) = none
    rw [if_pos hc]
    rfl
  · rw [if_neg hc]
    show ((if i < 0 ∨ 30 ≤ i.toNatClampNeg then none else some (if i.toNatClampNeg < 30 then some (B + (b + (16 + 9 * i.toNatClampNeg))) else none) : Option (Option Nat)).bind fun o => o) = some (B + (b + (16 + 9 * i.toNatClampNeg)))
    rw [if_neg hc, if_pos (by omega)]
    rfl
theorem rG_put {b : Nat} {i : Int32} (h : isG b) : rR 4 (put N B σ) (B + b) i = (xG b i).map (fun a => B + a) := by
  unfold rR rQ aQ
  rw [put_G h]
  unfold xG
  by_cases hc : i < 0 ∨ 13 ≤ i.toNatClampNeg
  · rw [if_pos hc]
    show ((if i < 0 ∨ 13 ≤ i.toNatClampNeg then none else _ : Option (Option Nat)).bind fun o => o) = none
    rw [if_pos hc]
    rfl
  · rw [if_neg hc]
    show ((if i < 0 ∨ 13 ≤ i.toNatClampNeg then none else some (if i.toNatClampNeg < 13 then some (B + (b + (1 + i.toNatClampNeg))) else none) : Option (Option Nat)).bind fun o => o) = some (B + (b + (1 + i.toNatClampNeg)))
    rw [if_neg hc, if_pos (by omega)]
    rfl
theorem wI_put {n b : Nat} {i v : Int32} (h : isA n b) : wI (put N B σ) (B + b) i v = (yI n σ b i v).map (put N B) := by
  unfold wI
  rw [aI_put h]
  unfold yI
  by_cases hc : i < 0 ∨ n ≤ i.toNatClampNeg
  · simp only [if_pos hc]
    rfl
  · simp only [if_neg hc]
    show some _ = some _
    congr 1
    refine put_set (shp_lt h) ?_ (fun c hcb => cell_setI hcb)
    unfold cellAt
    rw [h, setI_1]
    rfl
theorem wZ_put {n b : Nat} {i : Int32} {v : Bool} (h : isZ n b) : wZ (put N B σ) (B + b) i (jz v) = (yI n σ b i (jz v)).map (put N B) := by
  unfold wZ aZ
  rw [put_Z h]
  unfold yI
  have hv : jz v = 0 ∨ jz v = 1 := by cases v <;> simp [jz]
  by_cases hc : i < 0 ∨ n ≤ i.toNatClampNeg
  · rw [if_pos hc]
    show (if (i < 0 ∨ n ≤ i.toNatClampNeg) ∨ ¬ (jz v = 0 ∨ jz v = 1) then none else _ : Option Mem) = none
    rw [if_pos (Or.inl hc)]
  · rw [if_neg hc]
    show (if (i < 0 ∨ n ≤ i.toNatClampNeg) ∨ ¬ (jz v = 0 ∨ jz v = 1) then none else some (mx_set (put N B σ) (B + b) (mx_za n (upd (σ.1 b) i.toNatClampNeg (jz v)))) : Option Mem) = some _
    rw [if_neg (fun q => q.elim hc (fun z => z hv))]
    congr 1
    refine put_set (shp_lt h) ?_ (fun c hcb => cell_setI hcb)
    unfold cellAt
    rw [h, setI_1]
    rfl
theorem wL_put {n b : Nat} {i : Int32} {v : Int64} (h : isL n b) : wL (put N B σ) (B + b) i v = (yL n σ b i v).map (put N B) := by
  unfold wL aL
  rw [put_L h]
  unfold yL
  by_cases hc : i < 0 ∨ n ≤ i.toNatClampNeg
  · rw [if_pos hc]
    show (if i < 0 ∨ n ≤ i.toNatClampNeg then none else _ : Option Mem) = none
    rw [if_pos hc]
  · rw [if_neg hc]
    show (if i < 0 ∨ n ≤ i.toNatClampNeg then none else some (mx_set (put N B σ) (B + b) (mx_la n (vp_updL (σ.2.1 b) i.toNatClampNeg v))) : Option Mem) = some _
    rw [if_neg hc]
    congr 1
    refine put_set (shp_lt h) ?_ (fun c hcb => cell_setL hcb)
    unfold cellAt
    rw [h, setL_1]
    rfl
theorem lnA_put {n b : Nat} (h : isA n b) : lnA (put N B σ) (B + b) = some (Int32.ofNat n) := by
  unfold lnA
  rw [put_A h]
  rfl
theorem cpI_put {n0 n1 b0 b1 : Nat} {sp dp n : Int32} (h0 : isA n0 b0) (h1 : isA n1 b1) : cpI (put N B σ) (B + b0) sp (B + b1) dp n = (zC n0 n1 σ b0 sp b1 dp n).map (put N B) := by
  unfold cpI
  rw [aI_put h0, aI_put h1]
  unfold zC
  by_cases hc : sp < 0 ∨ dp < 0 ∨ n < 0 ∨ n0 < sp.toNatClampNeg + n.toNatClampNeg ∨ n1 < dp.toNatClampNeg + n.toNatClampNeg
  · simp only [if_pos hc]
    rfl
  · simp only [if_neg hc]
    show some _ = some _
    congr 1
    refine put_set (shp_lt h1) ?_ (fun c hcb => cell_setR hcb)
    unfold cellAt
    rw [h1, setR_1]
    rfl
theorem gR_0_0 {a : Nat} (h : isC 0 a) : gR (put N B σ) 0 (B + a) 0 = some (B + (a + 1)) := by
  unfold gR
  rw [gF_put h]
  rfl
theorem gI_0_1 {a : Nat} (h : isC 0 a) : gI (put N B σ) 0 (B + a) 1 = some (σ.1 a 1) := by
  unfold gI
  rw [gF_put h]
  rfl
theorem pF_0_1 {a : Nat} {v : Int32} (h : isC 0 a) : pF (put N B σ) 0 (B + a) 1 (.int v) = some (put N B (setI σ a 1 v)) := pF_put h (Nat.le_of_ble_eq_true rfl) (by rw [setI_1]; rfl) (fun _ hb => cell_setI hb)
theorem gR_1_0 {a : Nat} (h : isC 1 a) : gR (put N B σ) 1 (B + a) 0 = some (B + (a + 1)) := by
  unfold gR
  rw [gF_put h]
  rfl
theorem gR_1_1 {a : Nat} (h : isC 1 a) : gR (put N B σ) 1 (B + a) 1 = some (B + (a + 2)) := by
  unfold gR
  rw [gF_put h]
  rfl
theorem gR_1_2 {a : Nat} (h : isC 1 a) : gR (put N B σ) 1 (B + a) 2 = some (B + (a + 3)) := by
  unfold gR
  rw [gF_put h]
  rfl
theorem gR_2_0 {a : Nat} (h : isC 2 a) : gR (put N B σ) 2 (B + a) 0 = some (B + (593)) := by
  unfold gR
  rw [gF_put h]
  rfl
theorem gI_2_1 {a : Nat} (h : isC 2 a) : gI (put N B σ) 2 (B + a) 1 = some (σ.1 a 1) := by
  unfold gI
  rw [gF_put h]
  rfl
theorem pF_2_1 {a : Nat} {v : Int32} (h : isC 2 a) : pF (put N B σ) 2 (B + a) 1 (.int v) = some (put N B (setI σ a 1 v)) := pF_put h (Nat.le_of_ble_eq_true rfl) (by rw [setI_1]; rfl) (fun _ hb => cell_setI hb)
theorem gI_2_2 {a : Nat} (h : isC 2 a) : gI (put N B σ) 2 (B + a) 2 = some (σ.1 a 2) := by
  unfold gI
  rw [gF_put h]
  rfl
theorem pF_2_2 {a : Nat} {v : Int32} (h : isC 2 a) : pF (put N B σ) 2 (B + a) 2 (.int v) = some (put N B (setI σ a 2 v)) := pF_put h (Nat.le_of_ble_eq_true rfl) (by rw [setI_1]; rfl) (fun _ hb => cell_setI hb)
theorem gI_2_3 {a : Nat} (h : isC 2 a) : gI (put N B σ) 2 (B + a) 3 = some (σ.1 a 3) := by
  unfold gI
  rw [gF_put h]
  rfl
theorem pF_2_3 {a : Nat} {v : Int32} (h : isC 2 a) : pF (put N B σ) 2 (B + a) 3 (.int v) = some (put N B (setI σ a 3 v)) := pF_put h (Nat.le_of_ble_eq_true rfl) (by rw [setI_1]; rfl) (fun _ hb => cell_setI hb)
theorem gI_2_4 {a : Nat} (h : isC 2 a) : gI (put N B σ) 2 (B + a) 4 = some (σ.1 a 4) := by
  unfold gI
  rw [gF_put h]
  rfl
theorem pF_2_4 {a : Nat} {v : Int32} (h : isC 2 a) : pF (put N B σ) 2 (B + a) 4 (.int v) = some (put N B (setI σ a 4 v)) := pF_put h (Nat.le_of_ble_eq_true rfl) (by rw [setI_1]; rfl) (fun _ hb => cell_setI hb)
theorem gI_2_5 {a : Nat} (h : isC 2 a) : gI (put N B σ) 2 (B + a) 5 = some (σ.1 a 5) := by
  unfold gI
  rw [gF_put h]
  rfl
theorem pF_2_5 {a : Nat} {v : Int32} (h : isC 2 a) : pF (put N B σ) 2 (B + a) 5 (.int v) = some (put N B (setI σ a 5 v)) := pF_put h (Nat.le_of_ble_eq_true rfl) (by rw [setI_1]; rfl) (fun _ hb => cell_setI hb)
theorem gI_2_6 {a : Nat} (h : isC 2 a) : gI (put N B σ) 2 (B + a) 6 = some (σ.1 a 6) := by
  unfold gI
  rw [gF_put h]
  rfl
theorem pF_2_6 {a : Nat} {v : Int32} (h : isC 2 a) : pF (put N B σ) 2 (B + a) 6 (.int v) = some (put N B (setI σ a 6 v)) := pF_put h (Nat.le_of_ble_eq_true rfl) (by rw [setI_1]; rfl) (fun _ hb => cell_setI hb)
theorem gR_2_7 {a : Nat} (h : isC 2 a) : gR (put N B σ) 2 (B + a) 7 = some (B + (a + 1)) := by
  unfold gR
  rw [gF_put h]
  rfl
theorem gR_2_8 {a : Nat} (h : isC 2 a) : gR (put N B σ) 2 (B + a) 8 = some (B + (a + 2)) := by
  unfold gR
  rw [gF_put h]
  rfl
theorem gR_2_9 {a : Nat} (h : isC 2 a) : gR (put N B σ) 2 (B + a) 9 = some (B + (a + 3)) := by
  unfold gR
  rw [gF_put h]
  rfl
theorem gR_2_10 {a : Nat} (h : isC 2 a) : gR (put N B σ) 2 (B + a) 10 = some (B + (a + 4)) := by
  unfold gR
  rw [gF_put h]
  rfl
theorem gR_2_11 {a : Nat} (h : isC 2 a) : gR (put N B σ) 2 (B + a) 11 = some (B + (a + 5)) := by
  unfold gR
  rw [gF_put h]
  rfl
theorem gR_3_0 {a : Nat} (h : isC 3 a) : gR (put N B σ) 3 (B + a) 0 = some (B + (a + 1)) := by
  unfold gR
  rw [gF_put h]
  rfl
theorem gI_3_1 {a : Nat} (h : isC 3 a) : gI (put N B σ) 3 (B + a) 1 = some (σ.1 a 1) := by
  unfold gI
  rw [gF_put h]
  rfl
theorem pF_3_1 {a : Nat} {v : Int32} (h : isC 3 a) : pF (put N B σ) 3 (B + a) 1 (.int v) = some (put N B (setI σ a 1 v)) := pF_put h (Nat.le_of_ble_eq_true rfl) (by rw [setI_1]; rfl) (fun _ hb => cell_setI hb)
theorem gR_4_0 {a : Nat} (h : isC 4 a) : gR (put N B σ) 4 (B + a) 0 = some (B + (a + 1)) := by
  unfold gR
  rw [gF_put h]
  rfl
theorem gR_4_1 {a : Nat} (h : isC 4 a) : gR (put N B σ) 4 (B + a) 1 = some (B + (a + 10)) := by
  unfold gR
  rw [gF_put h]
  rfl
theorem gI_4_2 {a : Nat} (h : isC 4 a) : gI (put N B σ) 4 (B + a) 2 = some (σ.1 a 2) := by
  unfold gI
  rw [gF_put h]
  rfl
theorem pF_4_2 {a : Nat} {v : Int32} (h : isC 4 a) : pF (put N B σ) 4 (B + a) 2 (.int v) = some (put N B (setI σ a 2 v)) := pF_put h (Nat.le_of_ble_eq_true rfl) (by rw [setI_1]; rfl) (fun _ hb => cell_setI hb)
theorem gI_4_3 {a : Nat} (h : isC 4 a) : gI (put N B σ) 4 (B + a) 3 = some (σ.1 a 3) := by
  unfold gI
  rw [gF_put h]
  rfl
theorem pF_4_3 {a : Nat} {v : Int32} (h : isC 4 a) : pF (put N B σ) 4 (B + a) 3 (.int v) = some (put N B (setI σ a 3 v)) := pF_put h (Nat.le_of_ble_eq_true rfl) (by rw [setI_1]; rfl) (fun _ hb => cell_setI hb)
theorem gR_4_4 {a : Nat} (h : isC 4 a) : gR (put N B σ) 4 (B + a) 4 = some (B + (a + 11)) := by
  unfold gR
  rw [gF_put h]
  rfl
theorem gI_4_5 {a : Nat} (h : isC 4 a) : gI (put N B σ) 4 (B + a) 5 = some (σ.1 a 5) := by
  unfold gI
  rw [gF_put h]
  rfl
theorem pF_4_5 {a : Nat} {v : Int32} (h : isC 4 a) : pF (put N B σ) 4 (B + a) 5 (.int v) = some (put N B (setI σ a 5 v)) := pF_put h (Nat.le_of_ble_eq_true rfl) (by rw [setI_1]; rfl) (fun _ hb => cell_setI hb)
theorem gI_4_6 {a : Nat} (h : isC 4 a) : gI (put N B σ) 4 (B + a) 6 = some (σ.1 a 6) := by
  unfold gI
  rw [gF_put h]
  rfl
theorem pF_4_6 {a : Nat} {v : Int32} (h : isC 4 a) : pF (put N B σ) 4 (B + a) 6 (.int v) = some (put N B (setI σ a 6 v)) := pF_put h (Nat.le_of_ble_eq_true rfl) (by rw [setI_1]; rfl) (fun _ hb => cell_setI hb)
theorem gR_4_7 {a : Nat} (h : isC 4 a) : gR (put N B σ) 4 (B + a) 7 = some (B + (a + 12)) := by
  unfold gR
  rw [gF_put h]
  rfl
theorem gR_4_8 {a : Nat} (h : isC 4 a) : gR (put N B σ) 4 (B + a) 8 = some (B + (a + 13)) := by
  unfold gR
  rw [gF_put h]
  rfl
theorem gR_4_9 {a : Nat} (h : isC 4 a) : gR (put N B σ) 4 (B + a) 9 = some (B + (a + 15)) := by
  unfold gR
  rw [gF_put h]
  rfl
theorem gR_4_10 {a : Nat} (h : isC 4 a) : gR (put N B σ) 4 (B + a) 10 = some (B + (a + 17)) := by
  unfold gR
  rw [gF_put h]
  rfl
theorem gR_4_11 {a : Nat} (h : isC 4 a) : gR (put N B σ) 4 (B + a) 11 = some (B + (a + 19)) := by
  unfold gR
  rw [gF_put h]
  rfl
theorem gR_4_12 {a : Nat} (h : isC 4 a) : gR (put N B σ) 4 (B + a) 12 = some (B + (a + 21)) := by
  unfold gR
  rw [gF_put h]
  rfl
theorem gR_4_13 {a : Nat} (h : isC 4 a) : gR (put N B σ) 4 (B + a) 13 = some (B + (a + 23)) := by
  unfold gR
  rw [gF_put h]
  rfl
theorem gR_4_14 {a : Nat} (h : isC 4 a) : gR (put N B σ) 4 (B + a) 14 = some (B + (a + 24)) := by
  unfold gR
  rw [gF_put h]
  rfl
theorem gR_4_15 {a : Nat} (h : isC 4 a) : gR (put N B σ) 4 (B + a) 15 = some (B + (a + 25)) := by
  unfold gR
  rw [gF_put h]
  rfl
theorem gR_5_0 {a : Nat} (h : isC 5 a) : gR (put N B σ) 5 (B + a) 0 = some (B + (a + 1)) := by
  unfold gR
  rw [gF_put h]
  rfl
theorem gR_5_1 {a : Nat} (h : isC 5 a) : gR (put N B σ) 5 (B + a) 1 = some (B + (a + 2)) := by
  unfold gR
  rw [gF_put h]
  rfl
theorem gR_5_2 {a : Nat} (h : isC 5 a) : gR (put N B σ) 5 (B + a) 2 = some (B + (a + 3)) := by
  unfold gR
  rw [gF_put h]
  rfl
theorem gR_6_0 {a : Nat} (h : isC 6 a) : gR (put N B σ) 6 (B + a) 0 = some (B + (a + 1)) := by
  unfold gR
  rw [gF_put h]
  rfl
theorem gR_6_1 {a : Nat} (h : isC 6 a) : gR (put N B σ) 6 (B + a) 1 = some (B + (a + 3)) := by
  unfold gR
  rw [gF_put h]
  rfl
theorem gR_6_2 {a : Nat} (h : isC 6 a) : gR (put N B σ) 6 (B + a) 2 = some (B + (a + 4)) := by
  unfold gR
  rw [gF_put h]
  rfl
theorem gR_6_3 {a : Nat} (h : isC 6 a) : gR (put N B σ) 6 (B + a) 3 = some (B + (a + 5)) := by
  unfold gR
  rw [gF_put h]
  rfl
theorem gR_6_4 {a : Nat} (h : isC 6 a) : gR (put N B σ) 6 (B + a) 4 = some (B + (a + 6)) := by
  unfold gR
  rw [gF_put h]
  rfl
theorem gR_6_5 {a : Nat} (h : isC 6 a) : gR (put N B σ) 6 (B + a) 5 = some (B + (a + 20)) := by
  unfold gR
  rw [gF_put h]
  rfl
theorem gR_6_6 {a : Nat} (h : isC 6 a) : gR (put N B σ) 6 (B + a) 6 = some (B + (a + 21)) := by
  unfold gR
  rw [gF_put h]
  rfl
theorem gR_7_0 {a : Nat} (h : isC 7 a) : gR (put N B σ) 7 (B + a) 0 = some (B + (a + 1)) := by
  unfold gR
  rw [gF_put h]
  rfl
theorem gI_7_1 {a : Nat} (h : isC 7 a) : gI (put N B σ) 7 (B + a) 1 = some (σ.1 a 1) := by
  unfold gI
  rw [gF_put h]
  rfl
theorem pF_7_1 {a : Nat} {v : Int32} (h : isC 7 a) : pF (put N B σ) 7 (B + a) 1 (.int v) = some (put N B (setI σ a 1 v)) := pF_put h (Nat.le_of_ble_eq_true rfl) (by rw [setI_1]; rfl) (fun _ hb => cell_setI hb)
theorem gI_7_2 {a : Nat} (h : isC 7 a) : gI (put N B σ) 7 (B + a) 2 = some (σ.1 a 2) := by
  unfold gI
  rw [gF_put h]
  rfl
theorem pF_7_2 {a : Nat} {v : Int32} (h : isC 7 a) : pF (put N B σ) 7 (B + a) 2 (.int v) = some (put N B (setI σ a 2 v)) := pF_put h (Nat.le_of_ble_eq_true rfl) (by rw [setI_1]; rfl) (fun _ hb => cell_setI hb)
theorem gI_7_3 {a : Nat} (h : isC 7 a) : gI (put N B σ) 7 (B + a) 3 = some (σ.1 a 3) := by
  unfold gI
  rw [gF_put h]
  rfl
theorem pF_7_3 {a : Nat} {v : Int32} (h : isC 7 a) : pF (put N B σ) 7 (B + a) 3 (.int v) = some (put N B (setI σ a 3 v)) := pF_put h (Nat.le_of_ble_eq_true rfl) (by rw [setI_1]; rfl) (fun _ hb => cell_setI hb)
theorem gI_7_4 {a : Nat} (h : isC 7 a) : gI (put N B σ) 7 (B + a) 4 = some (σ.1 a 4) := by
  unfold gI
  rw [gF_put h]
  rfl
theorem pF_7_4 {a : Nat} {v : Int32} (h : isC 7 a) : pF (put N B σ) 7 (B + a) 4 (.int v) = some (put N B (setI σ a 4 v)) := pF_put h (Nat.le_of_ble_eq_true rfl) (by rw [setI_1]; rfl) (fun _ hb => cell_setI hb)
theorem gI_7_5 {a : Nat} (h : isC 7 a) : gI (put N B σ) 7 (B + a) 5 = some (σ.1 a 5) := by
  unfold gI
  rw [gF_put h]
  rfl
theorem pF_7_5 {a : Nat} {v : Int32} (h : isC 7 a) : pF (put N B σ) 7 (B + a) 5 (.int v) = some (put N B (setI σ a 5 v)) := pF_put h (Nat.le_of_ble_eq_true rfl) (by rw [setI_1]; rfl) (fun _ hb => cell_setI hb)
theorem gI_9_0 {a : Nat} (h : isC 9 a) : gI (put N B σ) 9 (B + a) 0 = some (σ.1 a 0) := by
  unfold gI
  rw [gF_put h]
  rfl
theorem pF_9_0 {a : Nat} {v : Int32} (h : isC 9 a) : pF (put N B σ) 9 (B + a) 0 (.int v) = some (put N B (setI σ a 0 v)) := pF_put h (Nat.le_of_ble_eq_true rfl) (by rw [setI_1]; rfl) (fun _ hb => cell_setI hb)
theorem gI_9_1 {a : Nat} (h : isC 9 a) : gI (put N B σ) 9 (B + a) 1 = some (σ.1 a 1) := by
  unfold gI
  rw [gF_put h]
  rfl
theorem pF_9_1 {a : Nat} {v : Int32} (h : isC 9 a) : pF (put N B σ) 9 (B + a) 1 (.int v) = some (put N B (setI σ a 1 v)) := pF_put h (Nat.le_of_ble_eq_true rfl) (by rw [setI_1]; rfl) (fun _ hb => cell_setI hb)
theorem gI_9_2 {a : Nat} (h : isC 9 a) : gI (put N B σ) 9 (B + a) 2 = some (σ.1 a 2) := by
  unfold gI
  rw [gF_put h]
  rfl
theorem pF_9_2 {a : Nat} {v : Int32} (h : isC 9 a) : pF (put N B σ) 9 (B + a) 2 (.int v) = some (put N B (setI σ a 2 v)) := pF_put h (Nat.le_of_ble_eq_true rfl) (by rw [setI_1]; rfl) (fun _ hb => cell_setI hb)
theorem gI_9_3 {a : Nat} (h : isC 9 a) : gI (put N B σ) 9 (B + a) 3 = some (σ.1 a 3) := by
  unfold gI
  rw [gF_put h]
  rfl
theorem pF_9_3 {a : Nat} {v : Int32} (h : isC 9 a) : pF (put N B σ) 9 (B + a) 3 (.int v) = some (put N B (setI σ a 3 v)) := pF_put h (Nat.le_of_ble_eq_true rfl) (by rw [setI_1]; rfl) (fun _ hb => cell_setI hb)
theorem gR_9_4 {a : Nat} (h : isC 9 a) : gR (put N B σ) 9 (B + a) 4 = some (B + (a + 1)) := by
  unfold gR
  rw [gF_put h]
  rfl
theorem gR_9_5 {a : Nat} (h : isC 9 a) : gR (put N B σ) 9 (B + a) 5 = some (B + (a + 2)) := by
  unfold gR
  rw [gF_put h]
  rfl
theorem gR_9_6 {a : Nat} (h : isC 9 a) : gR (put N B σ) 9 (B + a) 6 = some (B + (a + 3)) := by
  unfold gR
  rw [gF_put h]
  rfl
theorem gR_9_7 {a : Nat} (h : isC 9 a) : gR (put N B σ) 9 (B + a) 7 = some (B + (a + 4)) := by
  unfold gR
  rw [gF_put h]
  rfl
theorem gR_9_8 {a : Nat} (h : isC 9 a) : gR (put N B σ) 9 (B + a) 8 = some (B + (a + 5)) := by
  unfold gR
  rw [gF_put h]
  rfl
theorem gR_9_9 {a : Nat} (h : isC 9 a) : gR (put N B σ) 9 (B + a) 9 = some (B + (a + 6)) := by
  unfold gR
  rw [gF_put h]
  rfl
theorem gR_9_10 {a : Nat} (h : isC 9 a) : gR (put N B σ) 9 (B + a) 10 = some (B + (a + 7)) := by
  unfold gR
  rw [gF_put h]
  rfl
theorem gR_9_11 {a : Nat} (h : isC 9 a) : gR (put N B σ) 9 (B + a) 11 = some (B + (a + 8)) := by
  unfold gR
  rw [gF_put h]
  rfl
theorem gR_10_0 {a : Nat} (h : isC 10 a) : gR (put N B σ) 10 (B + a) 0 = some (B + (a + 1)) := by
  unfold gR
  rw [gF_put h]
  rfl
theorem gR_10_1 {a : Nat} (h : isC 10 a) : gR (put N B σ) 10 (B + a) 1 = some (B + (a + 297)) := by
  unfold gR
  rw [gF_put h]
  rfl
theorem gR_10_2 {a : Nat} (h : isC 10 a) : gR (put N B σ) 10 (B + a) 2 = some (B + (a + 593)) := by
  unfold gR
  rw [gF_put h]
  rfl
theorem gR_10_3 {a : Nat} (h : isC 10 a) : gR (put N B σ) 10 (B + a) 3 = some (B + (a + 595)) := by
  unfold gR
  rw [gF_put h]
  rfl
theorem gR_10_4 {a : Nat} (h : isC 10 a) : gR (put N B σ) 10 (B + a) 4 = some (B + (a + 601)) := by
  unfold gR
  rw [gF_put h]
  rfl
theorem gR_10_5 {a : Nat} (h : isC 10 a) : gR (put N B σ) 10 (B + a) 5 = some (B + (a + 603)) := by
  unfold gR
  rw [gF_put h]
  rfl
theorem gR_10_6 {a : Nat} (h : isC 10 a) : gR (put N B σ) 10 (B + a) 6 = some (B + (a + 625)) := by
  unfold gR
  rw [gF_put h]
  rfl
theorem gR_10_7 {a : Nat} (h : isC 10 a) : gR (put N B σ) 10 (B + a) 7 = some (B + (a + 629)) := by
  unfold gR
  rw [gF_put h]
  rfl
theorem gR_10_8 {a : Nat} (h : isC 10 a) : gR (put N B σ) 10 (B + a) 8 = some (B + (a + 633)) := by
  unfold gR
  rw [gF_put h]
  rfl
theorem gR_11_0 {a : Nat} (h : isC 11 a) : gR (put N B σ) 11 (B + a) 0 = some (B + (a + 1)) := by
  unfold gR
  rw [gF_put h]
  rfl
theorem gR_11_1 {a : Nat} (h : isC 11 a) : gR (put N B σ) 11 (B + a) 1 = some (B + (a + 2)) := by
  unfold gR
  rw [gF_put h]
  rfl
theorem gR_11_2 {a : Nat} (h : isC 11 a) : gR (put N B σ) 11 (B + a) 2 = some (B + (a + 3)) := by
  unfold gR
  rw [gF_put h]
  rfl
theorem gR_11_3 {a : Nat} (h : isC 11 a) : gR (put N B σ) 11 (B + a) 3 = some (B + (a + 4)) := by
  unfold gR
  rw [gF_put h]
  rfl
theorem gI_11_4 {a : Nat} (h : isC 11 a) : gI (put N B σ) 11 (B + a) 4 = some (σ.1 a 4) := by
  unfold gI
  rw [gF_put h]
  rfl
theorem pF_11_4 {a : Nat} {v : Int32} (h : isC 11 a) : pF (put N B σ) 11 (B + a) 4 (.int v) = some (put N B (setI σ a 4 v)) := pF_put h (Nat.le_of_ble_eq_true rfl) (by rw [setI_1]; rfl) (fun _ hb => cell_setI hb)
theorem gI_11_5 {a : Nat} (h : isC 11 a) : gI (put N B σ) 11 (B + a) 5 = some (σ.1 a 5) := by
  unfold gI
  rw [gF_put h]
  rfl
theorem pF_11_5 {a : Nat} {v : Int32} (h : isC 11 a) : pF (put N B σ) 11 (B + a) 5 (.int v) = some (put N B (setI σ a 5 v)) := pF_put h (Nat.le_of_ble_eq_true rfl) (by rw [setI_1]; rfl) (fun _ hb => cell_setI hb)
theorem gI_11_6 {a : Nat} (h : isC 11 a) : gI (put N B σ) 11 (B + a) 6 = some (σ.1 a 6) := by
  unfold gI
  rw [gF_put h]
  rfl
theorem pF_11_6 {a : Nat} {v : Int32} (h : isC 11 a) : pF (put N B σ) 11 (B + a) 6 (.int v) = some (put N B (setI σ a 6 v)) := pF_put h (Nat.le_of_ble_eq_true rfl) (by rw [setI_1]; rfl) (fun _ hb => cell_setI hb)
theorem gI_11_7 {a : Nat} (h : isC 11 a) : gI (put N B σ) 11 (B + a) 7 = some (σ.1 a 7) := by
  unfold gI
  rw [gF_put h]
  rfl
theorem pF_11_7 {a : Nat} {v : Int32} (h : isC 11 a) : pF (put N B σ) 11 (B + a) 7 (.int v) = some (put N B (setI σ a 7 v)) := pF_put h (Nat.le_of_ble_eq_true rfl) (by rw [setI_1]; rfl) (fun _ hb => cell_setI hb)
theorem gI_11_8 {a : Nat} (h : isC 11 a) : gI (put N B σ) 11 (B + a) 8 = some (σ.1 a 8) := by
  unfold gI
  rw [gF_put h]
  rfl
theorem pF_11_8 {a : Nat} {v : Int32} (h : isC 11 a) : pF (put N B σ) 11 (B + a) 8 (.int v) = some (put N B (setI σ a 8 v)) := pF_put h (Nat.le_of_ble_eq_true rfl) (by rw [setI_1]; rfl) (fun _ hb => cell_setI hb)
theorem gI_11_9 {a : Nat} (h : isC 11 a) : gI (put N B σ) 11 (B + a) 9 = some (σ.1 a 9) := by
  unfold gI
  rw [gF_put h]
  rfl
theorem pF_11_9 {a : Nat} {v : Int32} (h : isC 11 a) : pF (put N B σ) 11 (B + a) 9 (.int v) = some (put N B (setI σ a 9 v)) := pF_put h (Nat.le_of_ble_eq_true rfl) (by rw [setI_1]; rfl) (fun _ hb => cell_setI hb)
theorem gI_11_10 {a : Nat} (h : isC 11 a) : gI (put N B σ) 11 (B + a) 10 = some (σ.1 a 10) := by
  unfold gI
  rw [gF_put h]
  rfl
theorem pF_11_10 {a : Nat} {v : Int32} (h : isC 11 a) : pF (put N B σ) 11 (B + a) 10 (.int v) = some (put N B (setI σ a 10 v)) := pF_put h (Nat.le_of_ble_eq_true rfl) (by rw [setI_1]; rfl) (fun _ hb => cell_setI hb)
theorem gL_11_11 {a : Nat} (h : isC 11 a) : gL (put N B σ) 11 (B + a) 11 = some (σ.2.1 a 11) := by
  unfold gL
  rw [gF_put h]
  rfl
theorem pF_11_11 {a : Nat} {v : Int64} (h : isC 11 a) : pF (put N B σ) 11 (B + a) 11 (.long v) = some (put N B (setL σ a 11 v)) := pF_put h (Nat.le_of_ble_eq_true rfl) (by rw [setL_1]; rfl) (fun _ hb => cell_setL hb)
theorem gI_11_12 {a : Nat} (h : isC 11 a) : gI (put N B σ) 11 (B + a) 12 = some (σ.1 a 12) := by
  unfold gI
  rw [gF_put h]
  rfl
theorem pF_11_12 {a : Nat} {v : Int32} (h : isC 11 a) : pF (put N B σ) 11 (B + a) 12 (.int v) = some (put N B (setI σ a 12 v)) := pF_put h (Nat.le_of_ble_eq_true rfl) (by rw [setI_1]; rfl) (fun _ hb => cell_setI hb)
theorem gI_11_13 {a : Nat} (h : isC 11 a) : gI (put N B σ) 11 (B + a) 13 = some (σ.1 a 13) := by
  unfold gI
  rw [gF_put h]
  rfl
theorem pF_11_13 {a : Nat} {v : Int32} (h : isC 11 a) : pF (put N B σ) 11 (B + a) 13 (.int v) = some (put N B (setI σ a 13 v)) := pF_put h (Nat.le_of_ble_eq_true rfl) (by rw [setI_1]; rfl) (fun _ hb => cell_setI hb)
theorem gI_11_14 {a : Nat} (h : isC 11 a) : gI (put N B σ) 11 (B + a) 14 = some (σ.1 a 14) := by
  unfold gI
  rw [gF_put h]
  rfl
theorem pF_11_14 {a : Nat} {v : Int32} (h : isC 11 a) : pF (put N B σ) 11 (B + a) 14 (.int v) = some (put N B (setI σ a 14 v)) := pF_put h (Nat.le_of_ble_eq_true rfl) (by rw [setI_1]; rfl) (fun _ hb => cell_setI hb)
theorem gR_11_15 {a : Nat} (h : isC 11 a) : gR (put N B σ) 11 (B + a) 15 = some (B + (a + 5)) := by
  unfold gR
  rw [gF_put h]
  rfl
theorem gI_11_16 {a : Nat} (h : isC 11 a) : gI (put N B σ) 11 (B + a) 16 = some (σ.1 a 16) := by
  unfold gI
  rw [gF_put h]
  rfl
theorem pF_11_16 {a : Nat} {v : Int32} (h : isC 11 a) : pF (put N B σ) 11 (B + a) 16 (.int v) = some (put N B (setI σ a 16 v)) := pF_put h (Nat.le_of_ble_eq_true rfl) (by rw [setI_1]; rfl) (fun _ hb => cell_setI hb)
theorem gI_11_17 {a : Nat} (h : isC 11 a) : gI (put N B σ) 11 (B + a) 17 = some (σ.1 a 17) := by
  unfold gI
  rw [gF_put h]
  rfl
theorem pF_11_17 {a : Nat} {v : Int32} (h : isC 11 a) : pF (put N B σ) 11 (B + a) 17 (.int v) = some (put N B (setI σ a 17 v)) := pF_put h (Nat.le_of_ble_eq_true rfl) (by rw [setI_1]; rfl) (fun _ hb => cell_setI hb)
theorem gZ_11_18 {a : Nat} (h : isC 11 a) : gZ (put N B σ) 11 (B + a) 18 = zb (σ.1 a 18) := by
  unfold gZ
  rw [gF_put h]
  rfl
theorem pF_11_18 {a : Nat} {v : Int32} (h : isC 11 a) : pF (put N B σ) 11 (B + a) 18 (.int v) = some (put N B (setI σ a 18 v)) := pF_put h (Nat.le_of_ble_eq_true rfl) (by rw [setI_1]; rfl) (fun _ hb => cell_setI hb)
theorem gI_11_19 {a : Nat} (h : isC 11 a) : gI (put N B σ) 11 (B + a) 19 = some (σ.1 a 19) := by
  unfold gI
  rw [gF_put h]
  rfl
theorem pF_11_19 {a : Nat} {v : Int32} (h : isC 11 a) : pF (put N B σ) 11 (B + a) 19 (.int v) = some (put N B (setI σ a 19 v)) := pF_put h (Nat.le_of_ble_eq_true rfl) (by rw [setI_1]; rfl) (fun _ hb => cell_setI hb)
theorem gR_11_20 {a : Nat} (h : isC 11 a) : gR (put N B σ) 11 (B + a) 20 = some (B + (a + 6)) := by
  unfold gR
  rw [gF_put h]
  rfl
theorem gR_11_21 {a : Nat} (h : isC 11 a) : gR (put N B σ) 11 (B + a) 21 = some (B + (a + 7)) := by
  unfold gR
  rw [gF_put h]
  rfl
theorem gR_11_22 {a : Nat} (h : isC 11 a) : gR (put N B σ) 11 (B + a) 22 = some (B + (a + 8)) := by
  unfold gR
  rw [gF_put h]
  rfl
theorem gZ_11_23 {a : Nat} (h : isC 11 a) : gZ (put N B σ) 11 (B + a) 23 = zb (σ.1 a 23) := by
  unfold gZ
  rw [gF_put h]
  rfl
theorem pF_11_23 {a : Nat} {v : Int32} (h : isC 11 a) : pF (put N B σ) 11 (B + a) 23 (.int v) = some (put N B (setI σ a 23 v)) := pF_put h (Nat.le_of_ble_eq_true rfl) (by rw [setI_1]; rfl) (fun _ hb => cell_setI hb)
theorem gI_11_24 {a : Nat} (h : isC 11 a) : gI (put N B σ) 11 (B + a) 24 = some (σ.1 a 24) := by
  unfold gI
  rw [gF_put h]
  rfl
theorem pF_11_24 {a : Nat} {v : Int32} (h : isC 11 a) : pF (put N B σ) 11 (B + a) 24 (.int v) = some (put N B (setI σ a 24 v)) := pF_put h (Nat.le_of_ble_eq_true rfl) (by rw [setI_1]; rfl) (fun _ hb => cell_setI hb)
theorem gR_11_25 {a : Nat} (h : isC 11 a) : gR (put N B σ) 11 (B + a) 25 = some (B + (a + 9)) := by
  unfold gR
  rw [gF_put h]
  rfl
theorem gR_11_26 {a : Nat} (h : isC 11 a) : gR (put N B σ) 11 (B + a) 26 = some (B + (a + 10)) := by
  unfold gR
  rw [gF_put h]
  rfl
theorem gR_11_27 {a : Nat} (h : isC 11 a) : gR (put N B σ) 11 (B + a) 27 = some (B + (a + 11)) := by
  unfold gR
  rw [gF_put h]
  rfl
theorem gR_11_28 {a : Nat} (h : isC 11 a) : gR (put N B σ) 11 (B + a) 28 = some (B + (a + 12)) := by
  unfold gR
  rw [gF_put h]
  rfl
theorem gR_11_29 {a : Nat} (h : isC 11 a) : gR (put N B σ) 11 (B + a) 29 = some (B + (a + 13)) := by
  unfold gR
  rw [gF_put h]
  rfl
theorem gR_11_30 {a : Nat} (h : isC 11 a) : gR (put N B σ) 11 (B + a) 30 = some (B + (a + 14)) := by
  unfold gR
  rw [gF_put h]
  rfl
theorem gR_11_31 {a : Nat} (h : isC 11 a) : gR (put N B σ) 11 (B + a) 31 = some (B + (a + 15)) := by
  unfold gR
  rw [gF_put h]
  rfl
theorem gR_11_32 {a : Nat} (h : isC 11 a) : gR (put N B σ) 11 (B + a) 32 = some (B + (a + 16)) := by
  unfold gR
  rw [gF_put h]
  rfl
theorem gR_11_33 {a : Nat} (h : isC 11 a) : gR (put N B σ) 11 (B + a) 33 = some (B + (a + 17)) := by
  unfold gR
  rw [gF_put h]
  rfl
theorem gR_11_34 {a : Nat} (h : isC 11 a) : gR (put N B σ) 11 (B + a) 34 = some (B + (a + 18)) := by
  unfold gR
  rw [gF_put h]
  rfl
theorem gR_11_35 {a : Nat} (h : isC 11 a) : gR (put N B σ) 11 (B + a) 35 = some (B + (a + 19)) := by
  unfold gR
  rw [gF_put h]
  rfl
theorem gR_11_36 {a : Nat} (h : isC 11 a) : gR (put N B σ) 11 (B + a) 36 = some (B + (a + 20)) := by
  unfold gR
  rw [gF_put h]
  rfl
end BLK
def sufOK (p : List (Nat × Nat) → Bool) : List (Nat × Nat) → Bool
  | [] => true
  | x :: l => p (x :: l) && sufOK p l
theorem suf_all {p : List (Nat × Nat) → Bool} : ∀ (L : List (Nat × Nat)), sufOK p L = true → ∀ a, a < L.length → p (L.drop a) = true
  | [], _, a, ha => absurd ha (Nat.not_lt_zero _)
  | x :: l, h, a, ha => by
    simp only [sufOK, Bool.and_eq_true] at h
    cases a with
    | zero => exact h.1
    | succ a => exact suf_all l h.2 a (by simpa using ha)
def idxOK (p : Nat → Nat × Nat → Bool) : Nat → List (Nat × Nat) → Bool
  | _, [] => true
  | i, x :: l => p i x && idxOK p (i + 1) l
theorem idx_all {p : Nat → Nat × Nat → Bool} : ∀ (L : List (Nat × Nat)) (i : Nat), idxOK p i L = true → ∀ (a : Nat) (x : Nat × Nat), L[a]? = some x → p (i + a) x = true
  | [], _, _, a, x, ha => by simp at ha
  | y :: l, i, h, a, x, ha => by
    simp only [idxOK, Bool.and_eq_true] at h
    cases a with
    | zero => cases ha; exact h.1
    | succ a =>
      have h3 := idx_all l (i + 1) h.2 a x (by simpa using ha)
      rw [show i + (a + 1) = i + 1 + a by omega]
      exact h3
def sh_u (i : Nat) (x : Nat × Nat) : Bool := (x != (110, 0) || i == 0) && (x != (107, 0) || i == 593) && (x != (102, 0) || i == 595) && (x != (100, 0) || i == 601) && (x != (106, 0) || i == 603) && (x != (101, 0) || i == 625) && (x != (105, 0) || i == 629) && (x != (111, 0) || i == 642)
theorem sh_u_ok : idxOK sh_u 0 shp = true := by decide +kernel
theorem sh_only {a : Nat} {x : Nat × Nat} (h : shp[a]? = some x) : sh_u a x = true := by
  have := idx_all shp 0 sh_u_ok a x h
  rwa [Nat.zero_add] at this
theorem isC_10_at : isC 10 0 := by unfold isC; decide +kernel
theorem isC_10_only {a : Nat} (h : isC 10 a) : a = 0 := by
  have h1 := sh_only h
  simp [sh_u] at h1
  omega
theorem isC_7_at : isC 7 593 := by unfold isC; decide +kernel
theorem isC_7_only {a : Nat} (h : isC 7 a) : a = 593 := by
  have h1 := sh_only h
  simp [sh_u] at h1
  omega
theorem isC_2_at : isC 2 595 := by unfold isC; decide +kernel
theorem isC_2_only {a : Nat} (h : isC 2 a) : a = 595 := by
  have h1 := sh_only h
  simp [sh_u] at h1
  omega
theorem isC_0_at : isC 0 601 := by unfold isC; decide +kernel
theorem isC_0_only {a : Nat} (h : isC 0 a) : a = 601 := by
  have h1 := sh_only h
  simp [sh_u] at h1
  omega
theorem isC_6_at : isC 6 603 := by unfold isC; decide +kernel
theorem isC_6_only {a : Nat} (h : isC 6 a) : a = 603 := by
  have h1 := sh_only h
  simp [sh_u] at h1
  omega
theorem isC_1_at : isC 1 625 := by unfold isC; decide +kernel
theorem isC_1_only {a : Nat} (h : isC 1 a) : a = 625 := by
  have h1 := sh_only h
  simp [sh_u] at h1
  omega
theorem isC_5_at : isC 5 629 := by unfold isC; decide +kernel
theorem isC_5_only {a : Nat} (h : isC 5 a) : a = 629 := by
  have h1 := sh_only h
  simp [sh_u] at h1
  omega
theorem isC_11_at : isC 11 642 := by unfold isC; decide +kernel
theorem isC_11_only {a : Nat} (h : isC 11 a) : a = 642 := by
  have h1 := sh_only h
  simp [sh_u] at h1
  omega
def shq_0 (l : List (Nat × Nat)) : Bool := l[0]? != some (100, 0) || (l[1]? == some (0, 300))
theorem shq_0_ok : sufOK shq_0 shp = true := by decide +kernel
theorem sh_0_all {a : Nat} (h : isC 0 a) : shp[a + 1]? = some (0, 300) := by
  have h1 := suf_all shp shq_0_ok a (by rw [shp_len]; exact shp_lt h)
  simp only [shq_0, List.getElem?_drop, Nat.add_zero] at h1
  unfold isC at h
  rw [h] at h1
  simp at h1
  (try simp only [and_assoc] at h1 ⊢)
  exact h1
theorem sh_0_0 {a : Nat} (h : isC 0 a) : isA 300 (a + 1) := (sh_0_all h)
def shq_1 (l : List (Nat × Nat)) : Bool := l[0]? != some (101, 0) || (l[1]? == some (0, 5) && l[2]? == some (0, 5) && l[3]? == some (0, 5))
theorem shq_1_ok : sufOK shq_1 shp = true := by decide +kernel
theorem sh_1_all {a : Nat} (h : isC 1 a) : shp[a + 1]? = some (0, 5) ∧ shp[a + 2]? = some (0, 5) ∧ shp[a + 3]? = some (0, 5) := by
  have h1 := suf_all shp shq_1_ok a (by rw [shp_len]; exact shp_lt h)
  simp only [shq_1, List.getElem?_drop, Nat.add_zero] at h1
  unfold isC at h
  rw [h] at h1
  simp at h1
  (try simp only [and_assoc] at h1 ⊢)
  exact h1
theorem sh_1_0 {a : Nat} (h : isC 1 a) : isA 5 (a + 1) := (sh_1_all h).1
theorem sh_1_1 {a : Nat} (h : isC 1 a) : isA 5 (a + 2) := (sh_1_all h).2.1
theorem sh_1_2 {a : Nat} (h : isC 1 a) : isA 5 (a + 3) := (sh_1_all h).2.2
def shq_2 (l : List (Nat × Nat)) : Bool := l[0]? != some (102, 0) || (l[1]? == some (0, 300) && l[2]? == some (0, 300) && l[3]? == some (0, 3) && l[4]? == some (0, 3) && l[5]? == some (0, 72))
theorem shq_2_ok : sufOK shq_2 shp = true := by decide +kernel
theorem sh_2_all {a : Nat} (h : isC 2 a) : shp[a + 1]? = some (0, 300) ∧ shp[a + 2]? = some (0, 300) ∧ shp[a + 3]? = some (0, 3) ∧ shp[a + 4]? = some (0, 3) ∧ shp[a + 5]? = some (0, 72) := by
  have h1 := suf_all shp shq_2_ok a (by rw [shp_len]; exact shp_lt h)
  simp only [shq_2, List.getElem?_drop, Nat.add_zero] at h1
  unfold isC at h
  rw [h] at h1
  simp at h1
  (try simp only [and_assoc] at h1 ⊢)
  exact h1
theorem sh_2_7 {a : Nat} (h : isC 2 a) : isA 300 (a + 1) := (sh_2_all h).1
theorem sh_2_8 {a : Nat} (h : isC 2 a) : isA 300 (a + 2) := (sh_2_all h).2.1
theorem sh_2_9 {a : Nat} (h : isC 2 a) : isA 3 (a + 3) := (sh_2_all h).2.2.1
theorem sh_2_10 {a : Nat} (h : isC 2 a) : isA 3 (a + 4) := (sh_2_all h).2.2.2.1
theorem sh_2_11 {a : Nat} (h : isC 2 a) : isA 72 (a + 5) := (sh_2_all h).2.2.2.2
def shq_4 (l : List (Nat × Nat)) : Bool := l[0]? != some (104, 0) || (l[1]? == some (109, 0) && l[10]? == some (2, 30) && l[11]? == some (3, 4) && l[12]? == some (0, 20) && l[13]? == some (103, 0) && l[15]? == some (103, 0) && l[17]? == some (103, 0) && l[19]? == some (103, 0) && l[21]? == some (103, 0) && l[23]? == some (0, 25) && l[24]? == some (0, 25) && l[25]? == some (0, 8))
theorem shq_4_ok : sufOK shq_4 shp = true := by decide +kernel
theorem sh_4_all {a : Nat} (h : isC 4 a) : shp[a + 1]? = some (109, 0) ∧ shp[a + 10]? = some (2, 30) ∧ shp[a + 11]? = some (3, 4) ∧ shp[a + 12]? = some (0, 20) ∧ shp[a + 13]? = some (103, 0) ∧ shp[a + 15]? = some (103, 0) ∧ shp[a + 17]? = some (103, 0) ∧ shp[a + 19]? = some (103, 0) ∧ shp[a + 21]? = some (103, 0) ∧ shp[a + 23]? = some (0, 25) ∧ shp[a + 24]? = some (0, 25) ∧ shp[a + 25]? = some (0, 8) := by
  have h1 := suf_all shp shq_4_ok a (by rw [shp_len]; exact shp_lt h)
  simp only [shq_4, List.getElem?_drop, Nat.add_zero] at h1
  unfold isC at h
  rw [h] at h1
  simp at h1
  (try simp only [and_assoc] at h1 ⊢)
  exact h1
theorem sh_4_0 {a : Nat} (h : isC 4 a) : isC 9 (a + 1) := (sh_4_all h).1
theorem sh_4_1 {a : Nat} (h : isC 4 a) : isP (a + 10) := (sh_4_all h).2.1
theorem sh_4_4 {a : Nat} (h : isC 4 a) : isX (a + 11) := (sh_4_all h).2.2.1
theorem sh_4_7 {a : Nat} (h : isC 4 a) : isA 20 (a + 12) := (sh_4_all h).2.2.2.1
theorem sh_4_8 {a : Nat} (h : isC 4 a) : isC 3 (a + 13) := (sh_4_all h).2.2.2.2.1
theorem sh_4_9 {a : Nat} (h : isC 4 a) : isC 3 (a + 15) := (sh_4_all h).2.2.2.2.2.1
theorem sh_4_10 {a : Nat} (h : isC 4 a) : isC 3 (a + 17) := (sh_4_all h).2.2.2.2.2.2.1
theorem sh_4_11 {a : Nat} (h : isC 4 a) : isC 3 (a + 19) := (sh_4_all h).2.2.2.2.2.2.2.1
theorem sh_4_12 {a : Nat} (h : isC 4 a) : isC 3 (a + 21) := (sh_4_all h).2.2.2.2.2.2.2.2.1
theorem sh_4_13 {a : Nat} (h : isC 4 a) : isA 25 (a + 23) := (sh_4_all h).2.2.2.2.2.2.2.2.2.1
theorem sh_4_14 {a : Nat} (h : isC 4 a) : isA 25 (a + 24) := (sh_4_all h).2.2.2.2.2.2.2.2.2.2.1
theorem sh_4_15 {a : Nat} (h : isC 4 a) : isA 8 (a + 25) := (sh_4_all h).2.2.2.2.2.2.2.2.2.2.2
def shq_5 (l : List (Nat × Nat)) : Bool := l[0]? != some (105, 0) || (l[1]? == some (0, 9) && l[2]? == some (0, 8) && l[3]? == some (0, 8))
theorem shq_5_ok : sufOK shq_5 shp = true := by decide +kernel
theorem sh_5_all {a : Nat} (h : isC 5 a) : shp[a + 1]? = some (0, 9) ∧ shp[a + 2]? = some (0, 8) ∧ shp[a + 3]? = some (0, 8) := by
  have h1 := suf_all shp shq_5_ok a (by rw [shp_len]; exact shp_lt h)
  simp only [shq_5, List.getElem?_drop, Nat.add_zero] at h1
  unfold isC at h
  rw [h] at h1
  simp at h1
  (try simp only [and_assoc] at h1 ⊢)
  exact h1
theorem sh_5_0 {a : Nat} (h : isC 5 a) : isA 9 (a + 1) := (sh_5_all h).1
theorem sh_5_1 {a : Nat} (h : isC 5 a) : isA 8 (a + 2) := (sh_5_all h).2.1
theorem sh_5_2 {a : Nat} (h : isC 5 a) : isA 8 (a + 3) := (sh_5_all h).2.2
def shq_6 (l : List (Nat × Nat)) : Bool := l[0]? != some (106, 0) || (l[1]? == some (103, 0) && l[3]? == some (0, 13) && l[4]? == some (0, 13) && l[5]? == some (0, 13) && l[6]? == some (4, 13) && l[20]? == some (0, 10) && l[21]? == some (0, 10))
theorem shq_6_ok : sufOK shq_6 shp = true := by decide +kernel
theorem sh_6_all {a : Nat} (h : isC 6 a) : shp[a + 1]? = some (103, 0) ∧ shp[a + 3]? = some (0, 13) ∧ shp[a + 4]? = some (0, 13) ∧ shp[a + 5]? = some (0, 13) ∧ shp[a + 6]? = some (4, 13) ∧ shp[a + 20]? = some (0, 10) ∧ shp[a + 21]? = some (0, 10) := by
  have h1 := suf_all shp shq_6_ok a (by rw [shp_len]; exact shp_lt h)
  simp only [shq_6, List.getElem?_drop, Nat.add_zero] at h1
  unfold isC at h
  rw [h] at h1
  simp at h1
  (try simp only [and_assoc] at h1 ⊢)
  exact h1
theorem sh_6_0 {a : Nat} (h : isC 6 a) : isC 3 (a + 1) := (sh_6_all h).1
theorem sh_6_1 {a : Nat} (h : isC 6 a) : isA 13 (a + 3) := (sh_6_all h).2.1
theorem sh_6_2 {a : Nat} (h : isC 6 a) : isA 13 (a + 4) := (sh_6_all h).2.2.1
theorem sh_6_3 {a : Nat} (h : isC 6 a) : isA 13 (a + 5) := (sh_6_all h).2.2.2.1
theorem sh_6_4 {a : Nat} (h : isC 6 a) : isG (a + 6) := (sh_6_all h).2.2.2.2.1
theorem sh_6_5 {a : Nat} (h : isC 6 a) : isA 10 (a + 20) := (sh_6_all h).2.2.2.2.2.1
theorem sh_6_6 {a : Nat} (h : isC 6 a) : isA 10 (a + 21) := (sh_6_all h).2.2.2.2.2.2
def shq_7 (l : List (Nat × Nat)) : Bool := l[0]? != some (107, 0) || (l[1]? == some (0, 300))
theorem shq_7_ok : sufOK shq_7 shp = true := by decide +kernel
theorem sh_7_all {a : Nat} (h : isC 7 a) : shp[a + 1]? = some (0, 300) := by
  have h1 := suf_all shp shq_7_ok a (by rw [shp_len]; exact shp_lt h)
  simp only [shq_7, List.getElem?_drop, Nat.add_zero] at h1
  unfold isC at h
  rw [h] at h1
  simp at h1
  (try simp only [and_assoc] at h1 ⊢)
  exact h1
theorem sh_7_0 {a : Nat} (h : isC 7 a) : isA 300 (a + 1) := (sh_7_all h)
def shq_9 (l : List (Nat × Nat)) : Bool := l[0]? != some (109, 0) || (l[1]? == some (0, 5) && l[2]? == some (0, 5) && l[3]? == some (0, 5) && l[4]? == some (0, 5) && l[5]? == some (0, 5) && l[6]? == some (0, 5) && l[7]? == some (0, 60) && l[8]? == some (0, 120))
theorem shq_9_ok : sufOK shq_9 shp = true := by decide +kernel
theorem sh_9_all {a : Nat} (h : isC 9 a) : shp[a + 1]? = some (0, 5) ∧ shp[a + 2]? = some (0, 5) ∧ shp[a + 3]? = some (0, 5) ∧ shp[a + 4]? = some (0, 5) ∧ shp[a + 5]? = some (0, 5) ∧ shp[a + 6]? = some (0, 5) ∧ shp[a + 7]? = some (0, 60) ∧ shp[a + 8]? = some (0, 120) := by
  have h1 := suf_all shp shq_9_ok a (by rw [shp_len]; exact shp_lt h)
  simp only [shq_9, List.getElem?_drop, Nat.add_zero] at h1
  unfold isC at h
  rw [h] at h1
  simp at h1
  (try simp only [and_assoc] at h1 ⊢)
  exact h1
theorem sh_9_4 {a : Nat} (h : isC 9 a) : isA 5 (a + 1) := (sh_9_all h).1
theorem sh_9_5 {a : Nat} (h : isC 9 a) : isA 5 (a + 2) := (sh_9_all h).2.1
theorem sh_9_6 {a : Nat} (h : isC 9 a) : isA 5 (a + 3) := (sh_9_all h).2.2.1
theorem sh_9_7 {a : Nat} (h : isC 9 a) : isA 5 (a + 4) := (sh_9_all h).2.2.2.1
theorem sh_9_8 {a : Nat} (h : isC 9 a) : isA 5 (a + 5) := (sh_9_all h).2.2.2.2.1
theorem sh_9_9 {a : Nat} (h : isC 9 a) : isA 5 (a + 6) := (sh_9_all h).2.2.2.2.2.1
theorem sh_9_10 {a : Nat} (h : isC 9 a) : isA 60 (a + 7) := (sh_9_all h).2.2.2.2.2.2.1
theorem sh_9_11 {a : Nat} (h : isC 9 a) : isA 120 (a + 8) := (sh_9_all h).2.2.2.2.2.2.2
def shq_10 (l : List (Nat × Nat)) : Bool := l[0]? != some (110, 0) || (l[1]? == some (104, 0) && l[297]? == some (104, 0) && l[593]? == some (107, 0) && l[595]? == some (102, 0) && l[601]? == some (100, 0) && l[603]? == some (106, 0) && l[625]? == some (101, 0) && l[629]? == some (105, 0) && l[633]? == some (109, 0))
theorem shq_10_ok : sufOK shq_10 shp = true := by decide +kernel
theorem sh_10_all {a : Nat} (h : isC 10 a) : shp[a + 1]? = some (104, 0) ∧ shp[a + 297]? = some (104, 0) ∧ shp[a + 593]? = some (107, 0) ∧ shp[a + 595]? = some (102, 0) ∧ shp[a + 601]? = some (100, 0) ∧ shp[a + 603]? = some (106, 0) ∧ shp[a + 625]? = some (101, 0) ∧ shp[a + 629]? = some (105, 0) ∧ shp[a + 633]? = some (109, 0) := by
  have h1 := suf_all shp shq_10_ok a (by rw [shp_len]; exact shp_lt h)
  simp only [shq_10, List.getElem?_drop, Nat.add_zero] at h1
  unfold isC at h
  rw [h] at h1
  simp at h1
  (try simp only [and_assoc] at h1 ⊢)
  exact h1
theorem sh_10_0 {a : Nat} (h : isC 10 a) : isC 4 (a + 1) := (sh_10_all h).1
theorem sh_10_1 {a : Nat} (h : isC 10 a) : isC 4 (a + 297) := (sh_10_all h).2.1
theorem sh_10_2 {a : Nat} (h : isC 10 a) : isC 7 (a + 593) := (sh_10_all h).2.2.1
theorem sh_10_3 {a : Nat} (h : isC 10 a) : isC 2 (a + 595) := (sh_10_all h).2.2.2.1
theorem sh_10_4 {a : Nat} (h : isC 10 a) : isC 0 (a + 601) := (sh_10_all h).2.2.2.2.1
theorem sh_10_5 {a : Nat} (h : isC 10 a) : isC 6 (a + 603) := (sh_10_all h).2.2.2.2.2.1
theorem sh_10_6 {a : Nat} (h : isC 10 a) : isC 1 (a + 625) := (sh_10_all h).2.2.2.2.2.2.1
theorem sh_10_7 {a : Nat} (h : isC 10 a) : isC 5 (a + 629) := (sh_10_all h).2.2.2.2.2.2.2.1
theorem sh_10_8 {a : Nat} (h : isC 10 a) : isC 9 (a + 633) := (sh_10_all h).2.2.2.2.2.2.2.2
def shq_11 (l : List (Nat × Nat)) : Bool := l[0]? != some (111, 0) || (l[1]? == some (0, 4607) && l[2]? == some (0, 4607) && l[3]? == some (0, 2820) && l[4]? == some (0, 300) && l[5]? == some (0, 160) && l[6]? == some (0, 8) && l[7]? == some (1, 330) && l[8]? == some (5, 330) && l[9]? == some (0, 101) && l[10]? == some (1, 13) && l[11]? == some (1, 13) && l[12]? == some (0, 13) && l[13]? == some (0, 12) && l[14]? == some (0, 169) && l[15]? == some (0, 10) && l[16]? == some (0, 10) && l[17]? == some (0, 5) && l[18]? == some (0, 5) && l[19]? == some (0, 8) && l[20]? == some (0, 8))
theorem shq_11_ok : sufOK shq_11 shp = true := by decide +kernel
theorem sh_11_all {a : Nat} (h : isC 11 a) : shp[a + 1]? = some (0, 4607) ∧ shp[a + 2]? = some (0, 4607) ∧ shp[a + 3]? = some (0, 2820) ∧ shp[a + 4]? = some (0, 300) ∧ shp[a + 5]? = some (0, 160) ∧ shp[a + 6]? = some (0, 8) ∧ shp[a + 7]? = some (1, 330) ∧ shp[a + 8]? = some (5, 330) ∧ shp[a + 9]? = some (0, 101) ∧ shp[a + 10]? = some (1, 13) ∧ shp[a + 11]? = some (1, 13) ∧ shp[a + 12]? = some (0, 13) ∧ shp[a + 13]? = some (0, 12) ∧ shp[a + 14]? = some (0, 169) ∧ shp[a + 15]? = some (0, 10) ∧ shp[a + 16]? = some (0, 10) ∧ shp[a + 17]? = some (0, 5) ∧ shp[a + 18]? = some (0, 5) ∧ shp[a + 19]? = some (0, 8) ∧ shp[a + 20]? = some (0, 8) := by
  have h1 := suf_all shp shq_11_ok a (by rw [shp_len]; exact shp_lt h)
  simp only [shq_11, List.getElem?_drop, Nat.add_zero] at h1
  unfold isC at h
  rw [h] at h1
  simp at h1
  (try simp only [and_assoc] at h1 ⊢)
  exact h1
theorem sh_11_0 {a : Nat} (h : isC 11 a) : isA 4607 (a + 1) := (sh_11_all h).1
theorem sh_11_1 {a : Nat} (h : isC 11 a) : isA 4607 (a + 2) := (sh_11_all h).2.1
theorem sh_11_2 {a : Nat} (h : isC 11 a) : isA 2820 (a + 3) := (sh_11_all h).2.2.1
theorem sh_11_3 {a : Nat} (h : isC 11 a) : isA 300 (a + 4) := (sh_11_all h).2.2.2.1
theorem sh_11_15 {a : Nat} (h : isC 11 a) : isA 160 (a + 5) := (sh_11_all h).2.2.2.2.1
theorem sh_11_20 {a : Nat} (h : isC 11 a) : isA 8 (a + 6) := (sh_11_all h).2.2.2.2.2.1
theorem sh_11_21 {a : Nat} (h : isC 11 a) : isL 330 (a + 7) := (sh_11_all h).2.2.2.2.2.2.1
theorem sh_11_22 {a : Nat} (h : isC 11 a) : isZ 330 (a + 8) := (sh_11_all h).2.2.2.2.2.2.2.1
theorem sh_11_25 {a : Nat} (h : isC 11 a) : isA 101 (a + 9) := (sh_11_all h).2.2.2.2.2.2.2.2.1
theorem sh_11_26 {a : Nat} (h : isC 11 a) : isL 13 (a + 10) := (sh_11_all h).2.2.2.2.2.2.2.2.2.1
theorem sh_11_27 {a : Nat} (h : isC 11 a) : isL 13 (a + 11) := (sh_11_all h).2.2.2.2.2.2.2.2.2.2.1
theorem sh_11_28 {a : Nat} (h : isC 11 a) : isA 13 (a + 12) := (sh_11_all h).2.2.2.2.2.2.2.2.2.2.2.1
theorem sh_11_29 {a : Nat} (h : isC 11 a) : isA 12 (a + 13) := (sh_11_all h).2.2.2.2.2.2.2.2.2.2.2.2.1
theorem sh_11_30 {a : Nat} (h : isC 11 a) : isA 169 (a + 14) := (sh_11_all h).2.2.2.2.2.2.2.2.2.2.2.2.2.1
theorem sh_11_31 {a : Nat} (h : isC 11 a) : isA 10 (a + 15) := (sh_11_all h).2.2.2.2.2.2.2.2.2.2.2.2.2.2.1
theorem sh_11_32 {a : Nat} (h : isC 11 a) : isA 10 (a + 16) := (sh_11_all h).2.2.2.2.2.2.2.2.2.2.2.2.2.2.2.1
theorem sh_11_33 {a : Nat} (h : isC 11 a) : isA 5 (a + 17) := (sh_11_all h).2.2.2.2.2.2.2.2.2.2.2.2.2.2.2.2.1
theorem sh_11_34 {a : Nat} (h : isC 11 a) : isA 5 (a + 18) := (sh_11_all h).2.2.2.2.2.2.2.2.2.2.2.2.2.2.2.2.2.1
theorem sh_11_35 {a : Nat} (h : isC 11 a) : isA 8 (a + 19) := (sh_11_all h).2.2.2.2.2.2.2.2.2.2.2.2.2.2.2.2.2.2.1
theorem sh_11_36 {a : Nat} (h : isC 11 a) : isA 8 (a + 20) := (sh_11_all h).2.2.2.2.2.2.2.2.2.2.2.2.2.2.2.2.2.2.2
theorem sh_2_0 {a : Nat} (_ : isC 2 a) : isC 7 593 := isC_7_at
def shq_3 (l : List (Nat × Nat)) : Bool := l[0]? != some (103, 0) || (match l[1]? with | some (0, _) => true | _ => false)
theorem shq_3_ok : sufOK shq_3 shp = true := by decide +kernel
theorem sh_3_0 {a : Nat} (h : isC 3 a) : isA (shN (a + 1)) (a + 1) := by
  have h1 := suf_all shp shq_3_ok a (by rw [shp_len]; exact shp_lt h)
  simp only [shq_3, List.getElem?_drop, Nat.add_zero] at h1
  unfold isC at h
  rw [h] at h1
  simp at h1
  unfold isA shN
  split at h1
  · rename_i n hn
    rw [List.getD_eq_getElem?_getD, hn]
    rfl
  · cases h1
def shq_P (l : List (Nat × Nat)) : Bool := l[0]? != some (2, 30) || (List.range 30).all (fun i => l[16 + 9 * i]? == some (109, 0))
theorem shq_P_ok : sufOK shq_P shp = true := by decide +kernel
theorem xP_C {b w : Nat} {i : Int32} (h : isP b) (hx : xP b i = some w) : isC 9 w := by
  unfold xP at hx
  split at hx
  · cases hx
  · rename_i hn
    cases hx
    have h1 := suf_all shp shq_P_ok b (by rw [shp_len]; exact shp_lt h)
    simp only [shq_P, List.getElem?_drop, Nat.add_zero] at h1
    unfold isP at h
    rw [h] at h1
    have h2 : (List.range 30).all (fun i => shp[b + (16 + 9 * i)]? == some (109, 0)) = true := by simpa using h1
    have h3 := List.all_eq_true.mp h2 i.toNatClampNeg (List.mem_range.mpr (by omega))
    exact eq_of_beq h3
def shq_G (l : List (Nat × Nat)) : Bool := l[0]? != some (4, 13) || (List.range 13).all (fun i => l[1 + i]? == some (0, 13))
theorem shq_G_ok : sufOK shq_G shp = true := by decide +kernel
theorem xG_A {b w : Nat} {i : Int32} (h : isG b) (hx : xG b i = some w) : isA 13 w := by
  unfold xG at hx
  split at hx
  · cases hx
  · rename_i hn
    cases hx
    have h1 := suf_all shp shq_G_ok b (by rw [shp_len]; exact shp_lt h)
    simp only [shq_G, List.getElem?_drop, Nat.add_zero] at h1
    unfold isG at h
    rw [h] at h1
    have h2 : (List.range 13).all (fun i => shp[b + (1 + i)]? == some (0, 13)) = true := by simpa using h1
    have h3 := List.all_eq_true.mp h2 i.toNatClampNeg (List.mem_range.mpr (by omega))
    exact eq_of_beq h3
