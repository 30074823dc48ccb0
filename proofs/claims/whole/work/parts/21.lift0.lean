/-! the lifts' own rules: a function over 'put' is its typed one -/
def HN (N : Mem) (B : Nat) : Prop := (∀ q, B ≤ q → q < B + 663 → N.2.2 q = none) ∧ ∀ t k u, gR N 8 t k = some u → B + 663 ≤ u
theorem lg {α β : Type} {o : Option α} {x : α} {f : α → Option β} {y : Option β} (h : o = some x) (H : f x = y) : o.bind f = y := by
  rw [h]
  exact H
theorem lb {α β γ : Type} {o o' : Option α} {f : α → Option β} {g : α → Option γ} {h : γ → Option β} (e : o = o') (H : ∀ x, f x = (g x).bind h) : o.bind f = (o'.bind g).bind h := by
  subst e
  cases o with
  | none => rfl
  | some x => exact H x
theorem lbe {α β γ : Type} {o o' : Option α} {f : α → Option β} {g : α → Option γ} {h : γ → Option β} (e : o = o') (H : ∀ x, o' = some x → f x = (g x).bind h) : o.bind f = (o'.bind g).bind h := by
  subst e
  cases o with
  | none => rfl
  | some x => exact H x rfl
theorem lm {β γ : Type} {p : ST → Mem} {o : Option Mem} {o' : Option ST} {f : Mem → Option β} {g : ST → Option γ} {h : γ → Option β} (e : o = o'.map p) (H : ∀ s, f (p s) = (g s).bind h) : o.bind f = (o'.bind g).bind h := by
  subst e
  cases o' with
  | none => rfl
  | some x => exact H x
theorem lp {β γ : Type} {p : ST → Mem} {o : Option Mem} {s : ST} {f : Mem → Option β} {g : ST → Option γ} {h : γ → Option β} (e : o = some (p s)) (H : ∀ s, f (p s) = (g s).bind h) : o.bind f = ((some s).bind g).bind h := by
  subst e
  exact H s
theorem lr {β γ : Type} {p : Nat → Nat} {o o' : Option Nat} {f : Nat → Option β} {g : Nat → Option γ} {h : γ → Option β} (e : o = o'.map p) (H : ∀ w, o' = some w → f (p w) = (g w).bind h) : o.bind f = (o'.bind g).bind h := by
  subst e
  cases o' with
  | none => rfl
  | some x => exact H x rfl
theorem lc {α β γ : Type} {p : ST → Mem} {o : Option (α × Mem)} {o' : Option (α × ST)} {f : α × Mem → Option β} {g : α × ST → Option γ} {h : γ → Option β} (e : o = o'.bind fun q => some (q.1, p q.2)) (H : ∀ q : α × ST, f (q.1, p q.2) = (g q).bind h) : o.bind f = (o'.bind g).bind h := by
  subst e
  cases o' with
  | none => rfl
  | some x => exact H x
theorem li {β γ : Type} {c : Prop} [Decidable c] {A B : Option β} {A' B' : Option γ} {h : γ → Option β} (ha : c → A = A'.bind h) (hb : ¬ c → B = B'.bind h) : (if c then A else B) = (if c then A' else B').bind h := by
  by_cases hc : c
  · rw [if_pos hc, if_pos hc]
    exact ha hc
  · rw [if_neg hc, if_neg hc]
    exact hb hc
theorem lmap {p : ST → Mem} {o : Option Mem} {o' : Option ST} (e : o = o'.bind fun q => some (p q)) : o = o'.map p := by
  rw [e]
  cases o' <;> rfl
theorem lsm {α : Type} {o o' : Option α} (e : o = o'.bind some) : o = o' := by
  rw [e]
  cases o' <;> rfl
def sh_v (_ : Nat) (x : Nat × Nat) : Bool := x.1 != 108 && (x.1 != 0 || Nat.ble x.2 5000)
theorem sh_v_ok : idxOK sh_v 0 shp = true := by decide +kernel
theorem sh_no {a : Nat} {x : Nat × Nat} (h : shp[a]? = some x) : x.1 ≠ 108 ∧ (x.1 = 0 → x.2 ≤ 5000) := by
  have h1 := idx_all shp 0 sh_v_ok a x h
  simp [sh_v] at h1
  exact ⟨h1.1, fun h0 => by rcases h1.2 with h2 | h2; exact absurd h0 h2; exact h2⟩
section LIFT
variable {N : Mem} {B : Nat} {σ : ST}
theorem noT {t : Nat} (hN : HN N B) (h : B ≤ t ∧ t < B + 663) : ∀ fs, (put N B σ).2.2 t ≠ some (mx_ob 8 fs) := by
  intro fs he
  have h1 : t = B + (t - B) := by omega
  rw [h1, put_at (by omega)] at he
  unfold cellAt at he
  cases hs : shp[t - B]? with
  | none =>
    rw [hs] at he
    cases he
  | some s =>
    rw [hs] at he
    obtain ⟨c, n⟩ := s
    have h2 := (sh_no hs).1
    match c, he, h2 with
    | 0, he, _ => cases he
    | 1, he, _ => cases he
    | 2, he, _ => cases he
    | 3, he, _ => cases he
    | 4, he, _ => cases he
    | 5, he, _ => cases he
    | c + 6, he, h2 =>
      have h3 : mx_ob (c + 6 - 100) (fdl (c + 6 - 100) B (t - B) (σ.1 (t - B)) (σ.2.1 (t - B))) = mx_ob 8 fs := Option.some.inj he
      have h4 : c + 6 - 100 = 8 := (Prod.mk.inj (Sum.inr.inj h3)).1
      exact h2 (by show c + 6 = 108; omega)
theorem gF8_none {M : Mem} {t k : Nat} (h : ∀ fs, M.2.2 t ≠ some (mx_ob 8 fs)) : gF M 8 t k = none := by
  unfold gF
  split
  · rename_i o ho
    split
    · rename_i hc
      obtain ⟨c, fs⟩ := o
      cases hc
      exact absurd ho (h fs)
    · rfl
  · rfl
theorem gF_out {t k : Nat} (hN : HN N B) : gF (put N B σ) 8 t k = gF N 8 t k := by
  by_cases h : B ≤ t ∧ t < B + 663
  · rw [gF8_none (noT hN h), gF8_none (fun fs he => by rw [hN.1 t h.1 h.2] at he; cases he)]
  · have h1 : (put N B σ).2.2 t = N.2.2 t := if_neg h
    unfold gF
    rw [h1]
theorem gR_out {t k : Nat} (hN : HN N B) : gR (put N B σ) 8 t k = gR N 8 t k := by
  unfold gR
  rw [gF_out hN]
theorem gI_out {t k : Nat} (hN : HN N B) : gI (put N B σ) 8 t k = gI N 8 t k := by
  unfold gI
  rw [gF_out hN]
theorem isOb_out {t : Nat} (hN : HN N B) : isOb (put N B σ) 8 t = isOb N 8 t := by
  by_cases h : B ≤ t ∧ t < B + 663
  · have h1 : isOb (put N B σ) 8 t = false := by
      cases hb : isOb (put N B σ) 8 t with
      | false => rfl
      | true =>
        obtain ⟨fs, hf⟩ := isOb_iff hb
        exact absurd hf (noT hN h fs)
    have h2 : isOb N 8 t = false := by
      unfold isOb
      rw [hN.1 t h.1 h.2]
    rw [h1, h2]
  · have h1 : (put N B σ).2.2 t = N.2.2 t := if_neg h
    unfold isOb
    rw [h1]
theorem rI_out {u : Nat} {i : Int32} (h : B + 663 ≤ u) : rI (put N B σ) u i = rI N u i := by
  unfold rI aI
  rw [put_out h]
theorem lnA_out {u : Nat} (h : B + 663 ≤ u) : lnA (put N B σ) u = lnA N u := by
  unfold lnA
  rw [put_out h]
noncomputable def yQ (N : Mem) (σ : ST) (b : Nat) (i : Int32) (o : Option Nat) : Option ST := if (i < 0 ∨ 4 ≤ i.toNatClampNeg) ∨ ¬ (∀ v, o = some v → isOb N 8 v = true) then none else some (setQ σ b i.toNatClampNeg o)
theorem wQ_put {b : Nat} {i : Int32} {o : Option Nat} (hN : HN N B) (h : isX b) : wQ 3 8 (put N B σ) (B + b) i o = (yQ N σ b i o).map (put N B) := by
  unfold wQ aQ
  rw [put_X h]
  unfold yQ
  have e1 : (∀ v, o = some v → isOb (put N B σ) 8 v = true) ↔ (∀ v, o = some v → isOb N 8 v = true) := by
    constructor
    · intro h1 v hv
      rw [← isOb_out (σ := σ) hN]
      exact h1 v hv
    · intro h1 v hv
      rw [isOb_out hN]
      exact h1 v hv
  by_cases hc : (i < 0 ∨ 4 ≤ i.toNatClampNeg) ∨ ¬ (∀ v, o = some v → isOb N 8 v = true)
  · rw [if_pos hc]
    have hc2 : (i < 0 ∨ 4 ≤ i.toNatClampNeg) ∨ ¬ (∀ v, o = some v → isOb (put N B σ) 8 v = true) := by rw [e1]; exact hc
    show (if (i < 0 ∨ 4 ≤ i.toNatClampNeg) ∨ ¬ (∀ v, o = some v → isOb (put N B σ) 8 v = true) then none else _ : Option Mem) = none
    rw [if_pos hc2]
  · rw [if_neg hc]
    have hc2 : ¬ ((i < 0 ∨ 4 ≤ i.toNatClampNeg) ∨ ¬ (∀ v, o = some v → isOb (put N B σ) 8 v = true)) := by rw [e1]; exact hc
    show (if (i < 0 ∨ 4 ≤ i.toNatClampNeg) ∨ ¬ (∀ v, o = some v → isOb (put N B σ) 8 v = true) then none else some (mx_set (put N B σ) (B + b) (mx_ra 3 4 (va_up (σ.2.2 b) i.toNatClampNeg o))) : Option Mem) = some _
    rw [if_neg hc2]
    congr 1
    refine put_set (shp_lt h) ?_ (fun c hcb => cell_setQ hcb)
    unfold cellAt
    rw [h, setQ_1]
    rfl
theorem l_X8_hasLaw {t : Nat} {x1 : Int32} (hN : HN N B) : f_X8_hasLaw t x1 (put N B σ) = f_X8_hasLaw t x1 N := by
  unfold f_X8_hasLaw
  rw [isOb_out hN]
  congr 1
  refine lsm ?_
  unfold f_X8_hasLaw_0
  refine li (fun _ => rfl) (fun _ => ?_)
  refine lbe (gR_out hN) (fun u eu => ?_)
  refine lb (lnA_out (hN.2 _ _ _ eu)) (fun v => ?_)
  refine li (fun _ => rfl) (fun _ => ?_)
  refine lbe (gR_out hN) (fun u2 eu2 => ?_)
  refine lb (rI_out (hN.2 _ _ _ eu2)) (fun v2 => ?_)
  exact li (fun _ => rfl) (fun _ => rfl)
theorem l_X8_clausePart {t : Nat} {x1 x2 : Int32} (hN : HN N B) : f_X8_clausePart t x1 x2 (put N B σ) = f_X8_clausePart t x1 x2 N := by
  unfold f_X8_clausePart
  rw [isOb_out hN]
  congr 1
  refine lsm ?_
  unfold f_X8_clausePart_0
  refine li (fun _ => rfl) (fun _ => ?_)
  refine lbe (gR_out hN) (fun u eu => ?_)
  refine lb (lnA_out (hN.2 _ _ _ eu)) (fun v => ?_)
  refine li (fun _ => rfl) (fun _ => ?_)
  refine lbe (gR_out hN) (fun u2 eu2 => ?_)
  refine lb (rI_out (hN.2 _ _ _ eu2)) (fun v2 => ?_)
  rfl
noncomputable def g_fill (n b : Nat) (v : Int32) (σ : ST) : Option ST := some (setR σ b (fun j => if j < n then v else σ.1 b j))
theorem fill_go {n b : Nat} {v : Int32} (h : isA n b) (hn : n ≤ 5000) : ∀ (k i m : Nat) (σ : ST), i + k = n → k < m → f_J7_fill_53178_5 m (B + b) v (nI i) (nI n) (put N B σ) = some (put N B (setR σ b (fun j => if i ≤ j ∧ j < n then v else σ.1 b j))) := by
  intro k
  induction k with
  | zero =>
    intro i m σ hi hm
    obtain ⟨m, rfl⟩ : ∃ e, m = e + 1 := ⟨m - 1, by omega⟩
    unfold f_J7_fill_53178_5
    have hin : i = n := by omega
    subst hin
    rw [if_pos (nI_le (Nat.le_refl _) (by omega))]
    congr 2
    have e1 : (fun j => if i ≤ j ∧ j < i then v else σ.1 b j) = σ.1 b := by
      funext j
      rw [if_neg (by omega)]
    rw [e1]
    unfold setR
    refine Prod.ext (funext fun c => funext fun j => ?_) rfl
    show σ.1 c j = if c = b then σ.1 b j else σ.1 c j
    by_cases hc : c = b
    · rw [if_pos hc, hc]
    · rw [if_neg hc]
  | succ k ih =>
    intro i m σ hi hm
    obtain ⟨m, rfl⟩ : ∃ e, m = e + 1 := ⟨m - 1, by omega⟩
    unfold f_J7_fill_53178_5
    rw [if_neg (nI_ge (by omega) (by omega)), wI_put h]
    have hx : yI n σ b (nI i) v = some (setI σ b i v) := by
      unfold yI
      rw [if_neg (nI_in (by omega) (by omega)), nI_clamp (by omega)]
    rw [hx]
    show f_J7_fill_53178_5 m (B + b) v (nI i + 1) (nI n) (put N B (setI σ b i v)) = _
    rw [nI_1, ih (i + 1) m (setI σ b i v) (by omega) (by omega)]
    congr 2
    unfold setR setI
    refine Prod.ext (funext fun c => funext fun j => ?_) rfl
    show (if c = b then (if i + 1 ≤ j ∧ j < n then v else if b = b ∧ j = i then v else σ.1 b j) else if c = b ∧ j = i then v else σ.1 c j) = (if c = b then (if i ≤ j ∧ j < n then v else σ.1 b j) else σ.1 c j)
    by_cases hc : c = b
    · rw [if_pos hc, if_pos hc]
      by_cases h1 : i + 1 ≤ j ∧ j < n
      · rw [if_pos h1, if_pos (by omega)]
      · rw [if_neg h1]
        by_cases h2 : j = i
        · rw [if_pos ⟨rfl, h2⟩, if_pos (by omega)]
        · rw [if_neg (by omega), if_neg (by omega)]
    · rw [if_neg hc, if_neg hc, if_neg (by omega)]
theorem l_fill {n b : Nat} {v : Int32} (h : isA n b) : f_J7_fill_53178 (B + b) v (put N B σ) = (g_fill n b v σ).map (put N B) := by
  have hn : n ≤ 5000 := (sh_no h).2 rfl
  unfold f_J7_fill_53178 f_J7_fill_53178_0 g_fill
  refine lg (lnA_put h) ?_
  have h1 := fill_go (N := N) (B := B) (v := v) h hn n 0 fu σ (by omega) (by unfold fu; omega)
  rw [nI_0] at h1
  have e0 : Int32.ofNat n = nI n := rfl
  rw [e0, h1]
  have e1 : (fun j => if 0 ≤ j ∧ j < n then v else σ.1 b j) = (fun j => if j < n then v else σ.1 b j) := by
    funext j
    by_cases hj : j < n
    · rw [if_pos ⟨Nat.zero_le _, hj⟩, if_pos hj]
    · rw [if_neg (by omega), if_neg hj]
  rw [e1]
  rfl
end LIFT
