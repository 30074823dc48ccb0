/-! what a law's code means, on both sides -/
def nmI (k : Nat) : Nat := if k = 8 then 3 else if k = 9 then 0 else if k = 10 then 1 else if k = 11 then 2 else if k = 12 then 4 else if k = 13 then 5 else if k = 14 then 6 else 7
noncomputable def c1S (k : Nat) (g : Int → Nat) (x : Int32) : Option Int32 := if k = 19 then some (nI (g x.toInt)) else if k = 26 then some (if x = 0 then 1 else 0) else if k = 43 then some (-x) else f_X0_crossSum (jabs x)
noncomputable def cS (O P : Nat → Nat) (f : Nat → Nat) (g : Int → Nat) (i : Nat) (st : List Int32) : Option (Nat × List Int32) :=
  if O i = 21 then (match st with
    | [] => none
    | c :: st => some (if c = 0 then max i (P i - 1) + 1 else i + 1, st))
  else if O i = 22 then some (max i (P i - 1) + 1, st)
  else if O i = 27 then some (i + 1, nI (P i) :: st)
  else if O i ≤ 15 then (if 8 ≤ O i then some (i + 1, nI (f (nmI (O i))) :: st) else none)
  else if O i = 18 ∨ O i = 19 ∨ O i = 26 ∨ O i = 43 then (match st with
    | [] => none
    | x :: st => (c1S (O i) g x).bind fun v => some (i + 1, v :: st))
  else (match st with
    | y :: x :: st => (f_X0_ofTwo (nI (O i)) x y).bind fun v => some (i + 1, v :: st)
    | _ => none)
noncomputable def rS (C D : Nat → Nat) (f : Nat → Nat) (g : Int → Nat) (k : Nat) (vs : List Int64) (ts : List Bool) : Option (List Int64 × List Bool) :=
  if C k = 0 then some (lN (D k) :: vs, ts)
  else if C k = 1 then some (lN (f (D k)) :: vs, ts)
  else if C k = 4 then (match vs, ts with
    | y :: x :: vs, t :: ts => some ((if t = true then x else y) :: vs, ts)
    | _, _ => none)
  else if C k = 5 then (match vs with
    | x :: vs => some (-x :: vs, ts)
    | _ => none)
  else if C k = 3 then (match vs with
    | x :: vs => some (lN (g x.toInt) :: vs, ts)
    | _ => none)
  else if C k = 2 then (match vs with
    | x :: vs => (f_X11_digitsOf x).bind fun v => some (v :: vs, ts)
    | _ => none)
  else if C k < 10 then (match vs with
    | y :: x :: vs => (f_X11_two (nI (C k)) x y).bind fun v => some (v :: vs, ts)
    | _ => none)
  else if C k < 20 then (match vs with
    | y :: x :: vs => (f_X11_isAsked (nI (C k)) x y).bind fun t => some (vs, t :: ts)
    | _ => none)
  else if C k = 20 then (match ts with
    | t :: ts => some (vs, (!t) :: ts)
    | _ => none)
  else (match ts with
    | u :: t :: ts => (f_X11_joined (nI (C k)) t u).bind fun w => some (vs, w :: ts)
    | _ => none)
def Cr (O P : Nat → Nat) (f : Nat → Nat) (g : Int → Nat) (n i : Nat) (st : List Int32) (j : Nat) (st' : List Int32) : Prop := match n with
  | 0 => i = j ∧ st = st'
  | n + 1 => ∃ a s, cS O P f g i st = some (a, s) ∧ i < a ∧ Cr O P f g n a s j st'
def Rr (C D : Nat → Nat) (f : Nat → Nat) (g : Int → Nat) (n k : Nat) (vs : List Int64) (ts : List Bool) (l : Nat) (vs' : List Int64) (ts' : List Bool) : Prop := match n with
  | 0 => k = l ∧ vs = vs' ∧ ts = ts'
  | n + 1 => ∃ v t, rS C D f g k vs ts = some (v, t) ∧ Rr C D f g n (k + 1) v t l vs' ts'
def Cq (O P f : Nat → Nat) (g : Int → Nat) (i : Nat) (st : List Int32) (j : Nat) (st' : List Int32) : Prop := ∃ n, Cr O P f g n i st j st'
def Rq (C D f : Nat → Nat) (g : Int → Nat) (k : Nat) (vs : List Int64) (ts : List Bool) (l : Nat) (vs' : List Int64) (ts' : List Bool) : Prop := ∃ n, Rr C D f g n k vs ts l vs' ts'
def Gd (f : Nat → Nat) (g : Int → Nat) : Prop := (∀ i, f i ≤ 9999) ∧ ∀ x, g x ≤ 9999
/-- a sum: both sides come to the same value -/
def VL (O P C D : Nat → Nat) (i j k l : Nat) : Prop := ∀ f g, Gd f g → ∃ x, Bd x ∧ (∀ st, Cq O P f g i st j (x :: st)) ∧ ∀ vs ts, Rq C D f g k vs ts l (x.toInt64 :: vs) ts
/-- what is asked: both sides come to the same truth -/
def VB (O P C D : Nat → Nat) (i j k l : Nat) : Prop := ∀ f g, Gd f g → ∃ b : Bool, (∀ st, Cq O P f g i st j (jz b :: st)) ∧ ∀ vs ts, Rq C D f g k vs ts l vs (b :: ts)
section SEM
variable {O P C D O' P' C' D' f : Nat → Nat} {g : Int → Nat}
theorem Cr_t : ∀ n m i st j st' k st'', Cr O P f g n i st j st' → Cr O P f g m j st' k st'' → Cr O P f g (n + m) i st k st'' := by
  intro n
  induction n with
  | zero =>
    rintro m i st j st' k st'' ⟨rfl, rfl⟩ h2
    rw [Nat.zero_add]
    exact h2
  | succ n ih =>
    rintro m i st j st' k st'' ⟨a, s, h1, h2, h3⟩ h4
    rw [show n + 1 + m = n + m + 1 by omega]
    exact ⟨a, s, h1, h2, ih m a s j st' k st'' h3 h4⟩
theorem Rr_t : ∀ n m i v t j v' t' k v'' t'', Rr C D f g n i v t j v' t' → Rr C D f g m j v' t' k v'' t'' → Rr C D f g (n + m) i v t k v'' t'' := by
  intro n
  induction n with
  | zero =>
    rintro m i v t j v' t' k v'' t'' ⟨rfl, rfl, rfl⟩ h2
    rw [Nat.zero_add]
    exact h2
  | succ n ih =>
    rintro m i v t j v' t' k v'' t'' ⟨a, s, h1, h3⟩ h4
    rw [show n + 1 + m = n + m + 1 by omega]
    exact ⟨a, s, h1, ih m (i + 1) a s j v' t' k v'' t'' h3 h4⟩
theorem Cq.t {i j k : Nat} {st st' st'' : List Int32} (h1 : Cq O P f g i st j st') (h2 : Cq O P f g j st' k st'') : Cq O P f g i st k st'' := by
  obtain ⟨n, h1⟩ := h1
  obtain ⟨m, h2⟩ := h2
  exact ⟨n + m, Cr_t _ _ _ _ _ _ _ _ h1 h2⟩
theorem Rq.t {i j k : Nat} {v v' v'' : List Int64} {t t' t'' : List Bool} (h1 : Rq C D f g i v t j v' t') (h2 : Rq C D f g j v' t' k v'' t'') : Rq C D f g i v t k v'' t'' := by
  obtain ⟨n, h1⟩ := h1
  obtain ⟨m, h2⟩ := h2
  exact ⟨n + m, Rr_t _ _ _ _ _ _ _ _ _ _ _ h1 h2⟩
theorem Cq.s {i a : Nat} {st s : List Int32} (h : cS O P f g i st = some (a, s)) (hi : i < a) : Cq O P f g i st a s := ⟨1, a, s, h, hi, rfl, rfl⟩
theorem Rq.s {k : Nat} {v v' : List Int64} {t t' : List Bool} (h : rS C D f g k v t = some (v', t')) : Rq C D f g k v t (k + 1) v' t' := ⟨1, v', t', h, rfl, rfl, rfl⟩
theorem Cr_le : ∀ n i st j st', Cr O P f g n i st j st' → i + n ≤ j := by
  intro n
  induction n with
  | zero => rintro i st j st' ⟨rfl, -⟩; omega
  | succ n ih =>
    rintro i st j st' ⟨a, s, -, h2, h3⟩
    have := ih a s j st' h3
    omega
theorem Cr_c : ∀ n i st j st', Cr O P f g n i st j st' → (∀ q, i ≤ q → q < j → O' q = O q ∧ P' q = P q) → Cr O' P' f g n i st j st' := by
  intro n
  induction n with
  | zero => intro i st j st' h _; exact h
  | succ n ih =>
    rintro i st j st' ⟨a, s, h1, h2, h3⟩ hc
    have hl := Cr_le _ _ _ _ _ h3
    refine ⟨a, s, ?_, h2, ih a s j st' h3 (fun q q1 q2 => hc q (by omega) q2)⟩
    obtain ⟨e1, e2⟩ := hc i (Nat.le_refl _) (by omega)
    rw [← h1]
    unfold cS
    rw [e1, e2]
theorem Rr_le : ∀ n i v t j v' t', Rr C D f g n i v t j v' t' → i + n = j := by
  intro n
  induction n with
  | zero => rintro i v t j v' t' ⟨rfl, -⟩; omega
  | succ n ih =>
    rintro i v t j v' t' ⟨a, s, -, h3⟩
    have := ih _ _ _ _ _ _ h3
    omega
theorem Rr_c : ∀ n i v t j v' t', Rr C D f g n i v t j v' t' → (∀ q, i ≤ q → q < j → C' q = C q ∧ D' q = D q) → Rr C' D' f g n i v t j v' t' := by
  intro n
  induction n with
  | zero => intro i v t j v' t' h _; exact h
  | succ n ih =>
    rintro i v t j v' t' ⟨a, s, h1, h3⟩ hc
    have hl := Rr_le _ _ _ _ _ _ _ h3
    refine ⟨a, s, ?_, ih _ _ _ _ _ _ h3 (fun q q1 q2 => hc q (by omega) q2)⟩
    obtain ⟨e1, e2⟩ := hc i (Nat.le_refl _) (by omega)
    rw [← h1]
    unfold rS
    rw [e1, e2]
theorem VL_c {i j k l : Nat} (h : VL O P C D i j k l) (h1 : ∀ q, i ≤ q → q < j → O' q = O q ∧ P' q = P q) (h2 : ∀ q, k ≤ q → q < l → C' q = C q ∧ D' q = D q) : VL O' P' C' D' i j k l := by
  intro f g hg
  obtain ⟨x, hb, hc, hr⟩ := h f g hg
  refine ⟨x, hb, fun st => ?_, fun vs ts => ?_⟩
  · obtain ⟨n, hn⟩ := hc st
    exact ⟨n, Cr_c _ _ _ _ _ hn h1⟩
  · obtain ⟨n, hn⟩ := hr vs ts
    exact ⟨n, Rr_c _ _ _ _ _ _ _ hn h2⟩
theorem VB_c {i j k l : Nat} (h : VB O P C D i j k l) (h1 : ∀ q, i ≤ q → q < j → O' q = O q ∧ P' q = P q) (h2 : ∀ q, k ≤ q → q < l → C' q = C q ∧ D' q = D q) : VB O' P' C' D' i j k l := by
  intro f g hg
  obtain ⟨x, hc, hr⟩ := h f g hg
  refine ⟨x, fun st => ?_, fun vs ts => ?_⟩
  · obtain ⟨n, hn⟩ := hc st
    exact ⟨n, Cr_c _ _ _ _ _ hn h1⟩
  · obtain ⟨n, hn⟩ := hr vs ts
    exact ⟨n, Rr_c _ _ _ _ _ _ _ hn h2⟩
theorem jz_L (b : Bool) : (jz b = 0) = (b = false) := by cases b <;> decide
theorem VL.num {i k v : Nat} (hv : v ≤ 9999) (h1 : O i = 27) (h2 : P i = v) (h3 : C k = 0) (h4 : D k = v) : VL O P C D i (i + 1) k (k + 1) := by
  intro f g hg
  refine ⟨nI v, Bd_n (by omega), fun st => Cq.s ?_ (by omega), fun vs ts => Rq.s ?_⟩
  · unfold cS
    rw [h1, h2, if_neg (by omega), if_neg (by omega), if_pos rfl]
  · unfold rS
    rw [if_pos h3, h4, nI_l (by omega)]
theorem VL.nam {i k v : Nat} (h1 : 8 ≤ v) (h2 : v ≤ 15) (h3 : O i = v) (h4 : C k = 1) (h5 : D k = nmI v) : VL O P C D i (i + 1) k (k + 1) := by
  intro f g hg
  have hf := hg.1 (nmI v)
  refine ⟨nI (f (nmI v)), Bd_n (by omega), fun st => Cq.s ?_ (by omega), fun vs ts => Rq.s ?_⟩
  · unfold cS
    rw [h3, if_neg (by omega), if_neg (by omega), if_neg (by omega), if_pos h2, if_pos h1]
  · unfold rS
    rw [if_neg (by omega), if_pos h4, h5, nI_l (by omega)]
theorem VL.neg {i j k l : Nat} (h : VL O P C D i j k l) (h1 : O j = 43) (h2 : C l = 5) : VL O P C D i (j + 1) k (l + 1) := by
  intro f g hg
  obtain ⟨x, hb, hc, hr⟩ := h f g hg
  obtain ⟨t1, t2⟩ := t_neg hb
  refine ⟨-x, t1, fun st => (hc st).t (Cq.s ?_ (by omega)), fun vs ts => (hr vs ts).t (Rq.s ?_)⟩
  · unfold cS c1S
    rw [h1, if_neg (by omega), if_neg (by omega), if_neg (by omega), if_neg (by omega), if_pos (by omega)]
    rfl
  · unfold rS
    rw [h2, if_neg (by omega), if_neg (by omega), if_neg (by omega), if_pos rfl, t2]
theorem VL.sum {i j k l : Nat} (h : VL O P C D i j k l) (h1 : O j = 19) (h2 : C l = 3) : VL O P C D i (j + 1) k (l + 1) := by
  intro f g hg
  obtain ⟨x, hb, hc, hr⟩ := h f g hg
  have hf := hg.2 x.toInt
  refine ⟨nI (g x.toInt), Bd_n (by omega), fun st => (hc st).t (Cq.s ?_ (by omega)), fun vs ts => (hr vs ts).t (Rq.s ?_)⟩
  · unfold cS c1S
    rw [h1, if_neg (by omega), if_neg (by omega), if_neg (by omega), if_neg (by omega), if_pos (by omega)]
    rfl
  · unfold rS
    rw [h2, if_neg (by omega), if_neg (by omega), if_neg (by omega), if_neg (by omega), if_pos rfl]
    dsimp only
    rw [wdL, nI_l (by omega)]
theorem VL.dig {i j k l : Nat} (h : VL O P C D i j k l) (h1 : O j = 18) (h2 : C l = 2) : VL O P C D i (j + 1) k (l + 1) := by
  intro f g hg
  obtain ⟨x, hb, hc, hr⟩ := h f g hg
  obtain ⟨n, t1, t2, t3⟩ := t_dig hb
  refine ⟨nI n, Bd_n t1, fun st => (hc st).t (Cq.s ?_ (by omega)), fun vs ts => (hr vs ts).t (Rq.s ?_)⟩
  · unfold cS c1S
    rw [h1, if_neg (by omega), if_neg (by omega), if_neg (by omega), if_neg (by omega), if_pos (by omega)]
    dsimp only
    rw [if_neg (by omega), if_neg (by omega), if_neg (by omega), t2, bnd]
  · unfold rS
    rw [h2, if_neg (by omega), if_neg (by omega), if_neg (by omega), if_neg (by omega), if_neg (by omega), if_pos rfl]
    dsimp only
    rw [t3, bnd, nI_l (by omega)]
theorem VL.two {i j k l j' l' o c : Nat} (h : VL O P C D i j k l) (h' : VL O P C D j j' l l') (ho : 32 ≤ o) (ho2 : o ≤ 35) (hc : c + 26 = o) (h1 : O j' = o) (h2 : C l' = c) : VL O P C D i (j' + 1) k (l' + 1) := by
  intro f g hg
  obtain ⟨x, hb, hx, hr⟩ := h f g hg
  obtain ⟨y, hb', hx', hr'⟩ := h' f g hg
  obtain ⟨z, z1, z2, z3⟩ : ∃ z, Bd z ∧ f_X0_ofTwo (nI o) x y = some z ∧ f_X11_two (nI c) x.toInt64 y.toInt64 = some z.toInt64 := by
    obtain rfl | rfl | rfl | rfl : c = 6 ∨ c = 7 ∨ c = 8 ∨ c = 9 := by omega
    · obtain rfl : o = 32 := by omega
      exact t_plus hb hb'
    · obtain rfl : o = 33 := by omega
      exact t_minus hb hb'
    · obtain rfl : o = 34 := by omega
      exact t_times x y
    · obtain rfl : o = 35 := by omega
      exact t_over hb
  refine ⟨z, z1, fun st => ((hx st).t (hx' _)).t (Cq.s ?_ (by omega)), fun vs ts => ((hr vs ts).t (hr' _ _)).t (Rq.s ?_)⟩
  · unfold cS
    rw [h1, if_neg (by omega), if_neg (by omega), if_neg (by omega), if_neg (by omega), if_neg (by omega)]
    dsimp only
    rw [z2, bnd]
  · unfold rS
    rw [h2, if_neg (by omega), if_neg (by omega), if_neg (by omega), if_neg (by omega), if_neg (by omega), if_neg (by omega), if_pos (by omega)]
    dsimp only
    rw [z3, bnd]
theorem VB.cmp {i j k l j' l' o : Nat} (h : VL O P C D i j k l) (h' : VL O P C D j j' l l') (ho : 10 ≤ o) (ho2 : o ≤ 15) (h1 : O j' = kmo o) (h2 : C l' = o) : VB O P C D i (j' + 1) k (l' + 1) := by
  intro f g hg
  obtain ⟨x, hb, hx, hr⟩ := h f g hg
  obtain ⟨y, hb', hx', hr'⟩ := h' f g hg
  obtain ⟨z2, z3⟩ := t_cmp ho ho2 x y
  have hk : kmo o = 28 ∨ kmo o = 29 ∨ kmo o = 30 ∨ kmo o = 31 ∨ kmo o = 39 ∨ kmo o = 40 := by
    unfold kmo
    repeat' split
    all_goals omega
  refine ⟨cmq o x y, fun st => ((hx st).t (hx' _)).t (Cq.s ?_ (by omega)), fun vs ts => ((hr vs ts).t (hr' _ _)).t (Rq.s ?_)⟩
  · unfold cS
    rw [h1, if_neg (by omega), if_neg (by omega), if_neg (by omega), if_neg (by omega), if_neg (by omega)]
    dsimp only
    rw [z2, bnd]
  · unfold rS
    rw [h2, if_neg (by omega), if_neg (by omega), if_neg (by omega), if_neg (by omega), if_neg (by omega), if_neg (by omega), if_neg (by omega), if_pos (by omega)]
    dsimp only
    rw [z3, bnd]
theorem VB.not {i j k l : Nat} (h : VB O P C D i j k l) (h1 : O j = 26) (h2 : C l = 20) : VB O P C D i (j + 1) k (l + 1) := by
  intro f g hg
  obtain ⟨b, hc, hr⟩ := h f g hg
  refine ⟨!b, fun st => (hc st).t (Cq.s ?_ (by omega)), fun vs ts => (hr vs ts).t (Rq.s ?_)⟩
  · unfold cS c1S
    rw [h1, if_neg (by omega), if_neg (by omega), if_neg (by omega), if_neg (by omega), if_pos (by omega)]
    cases b <;> rfl
  · unfold rS
    rw [h2, if_neg (by omega), if_neg (by omega), if_neg (by omega), if_neg (by omega), if_neg (by omega), if_neg (by omega), if_neg (by omega), if_neg (by omega), if_pos rfl]
theorem VB.and {i j k l j' l' : Nat} (h : VB O P C D i j k l) (h' : VB O P C D j j' l l') (h1 : O j' = 25) (h2 : C l' = 21) : VB O P C D i (j' + 1) k (l' + 1) := by
  intro f g hg
  obtain ⟨a, hx, hr⟩ := h f g hg
  obtain ⟨b, hx', hr'⟩ := h' f g hg
  obtain ⟨z2, z3⟩ := t_and a b
  refine ⟨a && b, fun st => ((hx st).t (hx' _)).t (Cq.s ?_ (by omega)), fun vs ts => ((hr vs ts).t (hr' _ _)).t (Rq.s ?_)⟩
  · unfold cS
    rw [h1, if_neg (by omega), if_neg (by omega), if_neg (by omega), if_neg (by omega), if_neg (by omega)]
    dsimp only
    rw [z2, bnd]
  · unfold rS
    rw [h2, if_neg (by omega), if_neg (by omega), if_neg (by omega), if_neg (by omega), if_neg (by omega), if_neg (by omega), if_neg (by omega), if_neg (by omega), if_neg (by omega)]
    dsimp only
    rw [z3, bnd]
theorem VB.or {i j k l j' l' : Nat} (h : VB O P C D i j k l) (h' : VB O P C D j j' l l') (h1 : O j' = 24) (h2 : C l' = 22) : VB O P C D i (j' + 1) k (l' + 1) := by
  intro f g hg
  obtain ⟨a, hx, hr⟩ := h f g hg
  obtain ⟨b, hx', hr'⟩ := h' f g hg
  obtain ⟨z2, z3⟩ := t_or a b
  refine ⟨a || b, fun st => ((hx st).t (hx' _)).t (Cq.s ?_ (by omega)), fun vs ts => ((hr vs ts).t (hr' _ _)).t (Rq.s ?_)⟩
  · unfold cS
    rw [h1, if_neg (by omega), if_neg (by omega), if_neg (by omega), if_neg (by omega), if_neg (by omega)]
    dsimp only
    rw [z2, bnd]
  · unfold rS
    rw [h2, if_neg (by omega), if_neg (by omega), if_neg (by omega), if_neg (by omega), if_neg (by omega), if_neg (by omega), if_neg (by omega), if_neg (by omega), if_neg (by omega)]
    dsimp only
    rw [z3, bnd]
/-- if: the class leaps, the reference looks at both and chooses -/
theorem VL.ite {i j k l m e l1 l2 : Nat} (h : VB O P C D i j k l) (hT : O j = 21) (pT : P j = m + 1) (h1 : VL O P C D (j + 1) m l l1) (hE : O m = 22) (pE : P m = e) (h2 : VL O P C D (m + 1) e l1 l2) (hS : C l2 = 4) (hjm : j < m) (hme : m < e) : VL O P C D i e k (l2 + 1) := by
  intro f g hg
  obtain ⟨b, hc, hr⟩ := h f g hg
  obtain ⟨x, hb, hx, hrx⟩ := h1 f g hg
  obtain ⟨y, hb', hy, hry⟩ := h2 f g hg
  have rs : ∀ vs ts, Rq C D f g k vs ts (l2 + 1) ((if b = true then x.toInt64 else y.toInt64) :: vs) ts := by
    intro vs ts
    refine (((hr vs ts).t (hrx _ _)).t (hry _ _)).t (Rq.s ?_)
    unfold rS
    rw [hS, if_neg (by omega), if_neg (by omega), if_pos rfl]
  cases b with
  | true =>
    refine ⟨x, hb, fun st => ?_, rs⟩
    refine (hc st).t ((Cq.s (a := j + 1) (s := st) ?_ (by omega)).t ((hx st).t (Cq.s (a := e) ?_ hme)))
    · unfold cS
      rw [hT, if_pos rfl]
      rfl
    · unfold cS
      rw [hE, if_neg (by omega), if_pos rfl, pE, show max m (e - 1) + 1 = e by omega]
  | false =>
    refine ⟨y, hb', fun st => ?_, rs⟩
    refine (hc st).t ((Cq.s (a := m + 1) (s := st) ?_ (by omega)).t (hy st))
    unfold cS
    rw [hT, if_pos rfl, pT]
    show some (max j (m + 1 - 1) + 1, st) = some (m + 1, st)
    rw [show max j (m + 1 - 1) + 1 = m + 1 by omega]
end SEM
