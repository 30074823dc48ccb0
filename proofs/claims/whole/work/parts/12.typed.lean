/-! memory by types: what a read gives, or none; the rules by them -/
def mx_inb (i : Int32) (n : Nat) : Prop := i < 0 ∨ n ≤ i.toNatClampNeg
def gF (M : Mem) (ci a k : Nat) : Option Value := match M.2.2 a with
  | some (.inr o) => if o.1 = ci then o.2[k]? else none
  | _ => none
def gI (M : Mem) (ci a k : Nat) : Option Int32 := match gF M ci a k with
  | some (.int x) => some x
  | _ => none
def gL (M : Mem) (ci a k : Nat) : Option Int64 := match gF M ci a k with
  | some (.long x) => some x
  | _ => none
def gR (M : Mem) (ci a k : Nat) : Option Nat := match gF M ci a k with
  | some (.ref x) => some x
  | _ => none
def pF (M : Mem) (ci a k : Nat) (v : Value) : Option Mem := match M.2.2 a with
  | some (.inr o) => if o.1 = ci ∧ k < o.2.length then some (mx_set M a (mx_ob ci (o.2.set k v))) else none
  | _ => none
/-- the ints of an int array -/
def aI (M : Mem) (a : Nat) : Option (Nat × (Nat → Int32)) := match M.2.2 a with
  | some (.inl (0, n, .inl f)) => some (n, f)
  | _ => none
def aZ (M : Mem) (a : Nat) : Option (Nat × (Nat → Int32)) := match M.2.2 a with
  | some (.inl (5, n, .inl f)) => some (n, f)
  | _ => none
def aL (M : Mem) (a : Nat) : Option (Nat × (Nat → Int64)) := match M.2.2 a with
  | some (.inl (1, n, .inr (.inl f))) => some (n, f)
  | _ => none
def aQ (t : Nat) (M : Mem) (a : Nat) : Option (Nat × (Nat → Option Nat)) := match M.2.2 a with
  | some (.inl (t', n, .inr (.inr (.inr (.inr f))))) => if t' = t then some (n, f) else none
  | _ => none
noncomputable def ixd {α : Type} (q : Option (Nat × (Nat → α))) (i : Int32) : Option α := match q with
  | some (n, f) => if i < 0 ∨ n ≤ i.toNatClampNeg then none else some (f i.toNatClampNeg)
  | none => none
noncomputable def rI (M : Mem) (a : Nat) (i : Int32) : Option Int32 := ixd (aI M a) i
noncomputable def rZ (M : Mem) (a : Nat) (i : Int32) : Option Int32 := ixd (aZ M a) i
noncomputable def rL (M : Mem) (a : Nat) (i : Int32) : Option Int64 := ixd (aL M a) i
noncomputable def rQ (t : Nat) (M : Mem) (a : Nat) (i : Int32) : Option (Option Nat) := ixd (aQ t M a) i
noncomputable def wI (M : Mem) (a : Nat) (i v : Int32) : Option Mem := match aI M a with
  | some (n, f) => if i < 0 ∨ n ≤ i.toNatClampNeg then none else some (mx_set M a (mx_ia n (upd f i.toNatClampNeg v)))
  | none => none
noncomputable def wZ (M : Mem) (a : Nat) (i v : Int32) : Option Mem := match aZ M a with
  | some (n, f) => if (i < 0 ∨ n ≤ i.toNatClampNeg) ∨ ¬ (v = 0 ∨ v = 1) then none else some (mx_set M a (mx_za n (upd f i.toNatClampNeg v)))
  | none => none
noncomputable def wL (M : Mem) (a : Nat) (i : Int32) (v : Int64) : Option Mem := match aL M a with
  | some (n, f) => if i < 0 ∨ n ≤ i.toNatClampNeg then none else some (mx_set M a (mx_la n (vp_updL f i.toNatClampNeg v)))
  | none => none
/-- is there an object of that class -/
def isO (M : Mem) (ci a : Nat) : Prop := ∃ vs, M.2.2 a = some (mx_ob ci vs)
def isOb (M : Mem) (ci a : Nat) : Bool := match M.2.2 a with
  | some (.inr o) => o.1 == ci
  | _ => false
noncomputable def wQ (t ci : Nat) (M : Mem) (a : Nat) (i : Int32) (o : Option Nat) : Option Mem := match aQ t M a with
  | some (n, f) => if (i < 0 ∨ n ≤ i.toNatClampNeg) ∨ ¬ (∀ v, o = some v → isOb M ci v = true) then none else some (mx_set M a (mx_ra t n (va_up f i.toNatClampNeg o)))
  | none => none
def lnA (M : Mem) (a : Nat) : Option Int32 := match M.2.2 a with
  | some (.inl (t, y)) => if t < 6 then some (Int32.ofNat y.1) else none
  | _ => none
noncomputable def cpI (M : Mem) (a0 : Nat) (sp : Int32) (a : Nat) (dp n : Int32) : Option Mem := match aI M a0, aI M a with
  | some (n0, f), some (n1, g) => if sp < 0 ∨ dp < 0 ∨ n < 0 ∨ n0 < sp.toNatClampNeg + n.toNatClampNeg ∨ n1 < dp.toNatClampNeg + n.toNatClampNeg then none else some (mx_set M a (mx_ia n1 (va_cpy f g sp.toNatClampNeg dp.toNatClampNeg n.toNatClampNeg)))
  | _, _ => none
noncomputable def nwI (M : Mem) (n : Int32) : Option Mem := if n < 0 ∨ 100000 < n.toNatClampNeg then none else some (mx_new M n.toNatClampNeg (mx_ia n.toNatClampNeg (fun _ => 0)))
noncomputable def nwL (M : Mem) (n : Int32) : Option Mem := if n < 0 ∨ 100000 < n.toNatClampNeg then none else some (mx_new M n.toNatClampNeg (mx_la n.toNatClampNeg (fun _ => 0)))
noncomputable def nwZ (M : Mem) (n : Int32) : Option Mem := if n < 0 ∨ 100000 < n.toNatClampNeg then none else some (mx_new M n.toNatClampNeg (mx_za n.toNatClampNeg (fun _ => 0)))
noncomputable def nwQ (t : Nat) (M : Mem) (n : Int32) : Option Mem := if n < 0 ∨ 100000 < n.toNatClampNeg then none else some (mx_new M n.toNatClampNeg (mx_ra t n.toNatClampNeg (fun _ => none)))
def nwO (M : Mem) (ci N : Nat) : Mem := mx_new M N (mx_ob ci (mx_dv ci N))
noncomputable def clI (M : Mem) (a : Nat) : Option Mem := match aI M a with
  | some (n, f) => some (mx_new M n (mx_ia n f))
  | none => none
theorem gF_some {M : Mem} {ci a k : Nat} {v : Value} (h : gF M ci a k = some v) : ∃ fs, M.2.2 a = some (mx_ob ci fs) ∧ fs[k]? = some v := by
  unfold gF at h
  split at h
  · rename_i o ho
    split at h
    · rename_i hc
      obtain ⟨c, fs⟩ := o
      cases hc
      exact ⟨fs, ho, h⟩
    · cases h
  · cases h
theorem gI_some {M : Mem} {ci a k : Nat} {x : Int32} (h : gI M ci a k = some x) : gF M ci a k = some (.int x) := by
  unfold gI at h
  split at h
  · rename_i y hy
    cases h
    exact hy
  · cases h
theorem gL_some {M : Mem} {ci a k : Nat} {x : Int64} (h : gL M ci a k = some x) : gF M ci a k = some (.long x) := by
  unfold gL at h
  split at h
  · rename_i y hy
    cases h
    exact hy
  · cases h
theorem gR_some {M : Mem} {ci a k : Nat} {x : Nat} (h : gR M ci a k = some x) : gF M ci a k = some (.ref x) := by
  unfold gR at h
  split at h
  · rename_i y hy
    cases h
    exact hy
  · cases h
theorem pF_some {M M1 : Mem} {ci a k : Nat} {v : Value} (h : pF M ci a k v = some M1) : ∃ fs, M.2.2 a = some (mx_ob ci fs) ∧ k < fs.length ∧ M1 = mx_set M a (mx_ob ci (fs.set k v)) := by
  unfold pF at h
  split at h
  · rename_i o ho
    split at h
    · rename_i hc
      obtain ⟨c, fs⟩ := o
      obtain ⟨hc, hl⟩ := hc
      cases hc
      exact ⟨fs, ho, hl, (Option.some.inj h).symm⟩
    · cases h
  · cases h
theorem aI_some {M : Mem} {a n : Nat} {f : Nat → Int32} (h : aI M a = some (n, f)) : M.2.2 a = some (mx_ia n f) := by
  unfold aI at h
  split at h
  · rename_i n' f' hh
    cases h
    exact hh
  · cases h
theorem aZ_some {M : Mem} {a n : Nat} {f : Nat → Int32} (h : aZ M a = some (n, f)) : M.2.2 a = some (mx_za n f) := by
  unfold aZ at h
  split at h
  · rename_i n' f' hh
    cases h
    exact hh
  · cases h
theorem aL_some {M : Mem} {a n : Nat} {f : Nat → Int64} (h : aL M a = some (n, f)) : M.2.2 a = some (mx_la n f) := by
  unfold aL at h
  split at h
  · rename_i n' f' hh
    cases h
    exact hh
  · cases h
theorem aQ_some {t : Nat} {M : Mem} {a n : Nat} {f : Nat → Option Nat} (h : aQ t M a = some (n, f)) : M.2.2 a = some (mx_ra t n f) := by
  unfold aQ at h
  split at h
  · rename_i t' n' f' hh
    split at h
    · rename_i ht
      subst ht
      cases h
      exact hh
    · cases h
  · cases h
theorem ixd_some {α : Type} {q : Option (Nat × (Nat → α))} {i : Int32} {x : α} (h : ixd q i = some x) : ∃ n f, q = some (n, f) ∧ vp_in i n ∧ x = f i.toNatClampNeg := by
  unfold ixd at h
  split at h
  · rename_i n f
    split at h
    · cases h
    · rename_i hin
      exact ⟨n, f, rfl, hin, (Option.some.inj h).symm⟩
  · cases h
theorem wI_some {M M1 : Mem} {a : Nat} {i v : Int32} (h : wI M a i v = some M1) : ∃ n f, M.2.2 a = some (mx_ia n f) ∧ vp_in i n ∧ M1 = mx_set M a (mx_ia n (upd f i.toNatClampNeg v)) := by
  unfold wI at h
  split at h
  · rename_i n f hq
    split at h
    · cases h
    · rename_i hin
      exact ⟨n, f, aI_some hq, hin, (Option.some.inj h).symm⟩
  · cases h
theorem wL_some {M M1 : Mem} {a : Nat} {i : Int32} {v : Int64} (h : wL M a i v = some M1) : ∃ n f, M.2.2 a = some (mx_la n f) ∧ vp_in i n ∧ M1 = mx_set M a (mx_la n (vp_updL f i.toNatClampNeg v)) := by
  unfold wL at h
  split at h
  · rename_i n f hq
    split at h
    · cases h
    · rename_i hin
      exact ⟨n, f, aL_some hq, hin, (Option.some.inj h).symm⟩
  · cases h
theorem wZ_some {M M1 : Mem} {a : Nat} {i v : Int32} (h : wZ M a i v = some M1) : ∃ n f, M.2.2 a = some (mx_za n f) ∧ vp_in i n ∧ (v = 0 ∨ v = 1) ∧ M1 = mx_set M a (mx_za n (upd f i.toNatClampNeg v)) := by
  unfold wZ at h
  split at h
  · rename_i n f hq
    split at h
    · cases h
    · rename_i hin
      refine ⟨n, f, aZ_some hq, fun q => hin (Or.inl q), ?_, (Option.some.inj h).symm⟩
      by_cases hv : v = 0 ∨ v = 1
      · exact hv
      · exact absurd (Or.inr hv) hin
  · cases h
theorem isOb_iff {M : Mem} {ci a : Nat} (h : isOb M ci a = true) : isO M ci a := by
  unfold isOb at h
  split at h
  · rename_i o ho
    obtain ⟨c, fs⟩ := o
    have : c = ci := by simpa using h
    subst this
    exact ⟨fs, ho⟩
  · cases h
theorem wQ_some {t ci : Nat} {M M1 : Mem} {a : Nat} {i : Int32} {o : Option Nat} (h : wQ t ci M a i o = some M1) : ∃ n f, M.2.2 a = some (mx_ra t n f) ∧ vp_in i n ∧ (∀ v, o = some v → isO M ci v) ∧ M1 = mx_set M a (mx_ra t n (va_up f i.toNatClampNeg o)) := by
  unfold wQ at h
  split at h
  · rename_i n f hq
    split at h
    · cases h
    · rename_i hin
      refine ⟨n, f, aQ_some hq, fun q => hin (Or.inl q), ?_, (Option.some.inj h).symm⟩
      by_cases hv : ∀ v, o = some v → isOb M ci v = true
      · exact fun v hh => isOb_iff (hv v hh)
      · exact absurd (Or.inr hv) hin
  · cases h
/-- remainder and shifts as the machine has them -/
def jrem (x y : Int32) : Int32 := x - x / y * y
def jremL (x y : Int64) : Int64 := x - x / y * y
def jshl (x y : Int32) : Int32 := x <<< (y &&& 31)
def jshr (x y : Int32) : Int32 := x >>> (y &&& 31)
def jushr (x y : Int32) : Int32 := (x.toUInt32 >>> (y.toUInt32 &&& Int32.toUInt32 31)).toInt32
def jshlL (x : Int64) (y : Int32) : Int64 := x <<< (y.toInt64 &&& 63)
def jshrL (x : Int64) (y : Int32) : Int64 := x >>> (y.toInt64 &&& 63)
def jmax (x y : Int32) : Int32 := if x < y then y else x
def jmin (x y : Int32) : Int32 := if y < x then y else x
def jabs (x : Int32) : Int32 := if 0 ≤ x then x else 0 - x
def dvI (x y : Int32) : Option Int32 := if y = 0 then none else some (x / y)
def rmI (x y : Int32) : Option Int32 := if y = 0 then none else some (jrem x y)
def dvL (x y : Int64) : Option Int64 := if y = 0 then none else some (x / y)
def rmL (x y : Int64) : Option Int64 := if y = 0 then none else some (jremL x y)
def jz (b : Bool) : Int32 := if b then 1 else 0
theorem ob_some {α β : Type} {o : Option α} {f : α → Option β} {y : β} (h : o.bind f = some y) : ∃ x, o = some x ∧ f x = some y := Option.bind_eq_some_iff.mp h
section MXR
variable {X : XV} {d : Nat} {i : MI} {pc : Nat} {lo : List (Nat × Value)} {st : List Value} {M M1 M2 : Mem} {r : Option Value}
theorem ex_gI {x ci k a : Nat} {v : Int32} (h : gI M ci a k = some v) (hd : decode (mi_c i) pc = .ok (.getfield x, 3)) (hF : mx_F (mi_y i).cls x ci k) (kk : Ex X d i (pc + 3) lo (.int v :: st) M r M2) : Ex X d i pc lo (.ref a :: st) M r M2 := by
  obtain ⟨fs, h1, h2⟩ := gF_some (gI_some h)
  exact ex_getf hd hF h1 h2 kk
theorem ex_gL {x ci k a : Nat} {v : Int64} (h : gL M ci a k = some v) (hd : decode (mi_c i) pc = .ok (.getfield x, 3)) (hF : mx_F (mi_y i).cls x ci k) (kk : Ex X d i (pc + 3) lo (.long v :: st) M r M2) : Ex X d i pc lo (.ref a :: st) M r M2 := by
  obtain ⟨fs, h1, h2⟩ := gF_some (gL_some h)
  exact ex_getf hd hF h1 h2 kk
theorem ex_gR {x ci k a : Nat} {v : Nat} (h : gR M ci a k = some v) (hd : decode (mi_c i) pc = .ok (.getfield x, 3)) (hF : mx_F (mi_y i).cls x ci k) (kk : Ex X d i (pc + 3) lo (.ref v :: st) M r M2) : Ex X d i pc lo (.ref a :: st) M r M2 := by
  obtain ⟨fs, h1, h2⟩ := gF_some (gR_some h)
  exact ex_getf hd hF h1 h2 kk
theorem ex_pF {x ci k a : Nat} {v : Value} (h : pF M ci a k v = some M1) (hd : decode (mi_c i) pc = .ok (.putfield x, 3)) (hF : mx_F (mi_y i).cls x ci k) (hn : narrow (mx_ty ci k) v = v) (hfit : fits (mx_ty ci k) v = true) (hfin : ∀ q, mx_cl[ci]? = some q → (q.2.1 k).2.2.2 = false) (kk : Ex X d i (pc + 3) lo st M1 r M2) : Ex X d i pc lo (v :: .ref a :: st) M r M2 := by
  obtain ⟨fs, h1, h2, rfl⟩ := pF_some h
  exact ex_putf hd hF h1 h2 hn hfit hfin kk
theorem ex_pFF {x ci k a : Nat} {v : Value} (h : pF M ci a k v = some M1) (hd : decode (mi_c i) pc = .ok (.putfield x, 3)) (hF : mx_F (mi_y i).cls x ci k) (hn : narrow (mx_ty ci k) v = v) (hfit : fits (mx_ty ci k) v = true) (hfin : ∀ q, mx_cl[ci]? = some q → (q.2.1 k).2.2.2 = true ∧ (q.2.1 k).1 = (mi_y i).cls) (hin : (mi_y i).name = "<init>") (kk : Ex X d i (pc + 3) lo st M1 r M2) : Ex X d i pc lo (v :: .ref a :: st) M r M2 := by
  obtain ⟨fs, h1, h2, rfl⟩ := pF_some h
  exact ex_putF hd hF h1 h2 hn hfit hfin hin kk
theorem ex_rI {a : Nat} {x v : Int32} (h : rI M a x = some v) (hd : decode (mi_c i) pc = .ok (.iaload, 1)) (kk : Ex X d i (pc + 1) lo (.int v :: st) M r M2) : Ex X d i pc lo (.int x :: .ref a :: st) M r M2 := by
  obtain ⟨n, f, h1, h2, rfl⟩ := ixd_some h
  exact ex_iald hd (aI_some h1) h2 kk
theorem ex_rZ {a : Nat} {x v : Int32} (h : rZ M a x = some v) (hd : decode (mi_c i) pc = .ok (.baload, 1)) (kk : Ex X d i (pc + 1) lo (.int v :: st) M r M2) : Ex X d i pc lo (.int x :: .ref a :: st) M r M2 := by
  obtain ⟨n, f, h1, h2, rfl⟩ := ixd_some h
  exact ex_zald hd (aZ_some h1) h2 kk
theorem ex_rL {a : Nat} {x : Int32} {v : Int64} (h : rL M a x = some v) (hd : decode (mi_c i) pc = .ok (.laload, 1)) (kk : Ex X d i (pc + 1) lo (.long v :: st) M r M2) : Ex X d i pc lo (.int x :: .ref a :: st) M r M2 := by
  obtain ⟨n, f, h1, h2, rfl⟩ := ixd_some h
  exact ex_lald hd (aL_some h1) h2 kk
theorem ex_rQ {a t : Nat} {x : Int32} {v : Option Nat} (h : rQ t M a x = some v) (ht : t = 2 ∨ t = 3 ∨ t = 4) (hd : decode (mi_c i) pc = .ok (.aaload, 1)) (kk : Ex X d i (pc + 1) lo (va_rf v :: st) M r M2) : Ex X d i pc lo (.int x :: .ref a :: st) M r M2 := by
  obtain ⟨n, f, h1, h2, rfl⟩ := ixd_some h
  exact ex_aald hd ht (aQ_some h1) h2 kk
theorem ex_wI {a : Nat} {x v : Int32} (h : wI M a x v = some M1) (hd : decode (mi_c i) pc = .ok (.iastore, 1)) (kk : Ex X d i (pc + 1) lo st M1 r M2) : Ex X d i pc lo (.int v :: .int x :: .ref a :: st) M r M2 := by
  obtain ⟨n, f, h1, h2, rfl⟩ := wI_some h
  exact ex_iast hd h1 h2 kk
theorem ex_wZ {a : Nat} {x v : Int32} (h : wZ M a x v = some M1) (hd : decode (mi_c i) pc = .ok (.bastore, 1)) (kk : Ex X d i (pc + 1) lo st M1 r M2) : Ex X d i pc lo (.int v :: .int x :: .ref a :: st) M r M2 := by
  obtain ⟨n, f, h1, h2, h3, rfl⟩ := wZ_some h
  exact ex_zast hd h1 h2 (by rcases h3 with rfl | rfl <;> rfl) kk
theorem ex_wL {a : Nat} {x : Int32} {v : Int64} (h : wL M a x v = some M1) (hd : decode (mi_c i) pc = .ok (.lastore, 1)) (kk : Ex X d i (pc + 1) lo st M1 r M2) : Ex X d i pc lo (.long v :: .int x :: .ref a :: st) M r M2 := by
  obtain ⟨n, f, h1, h2, rfl⟩ := wL_some h
  exact ex_last hd h1 h2 kk
theorem ex_wQ2 {a v : Nat} {x : Int32} (h : wQ 2 9 M a x (some v) = some M1) (hd : decode (mi_c i) pc = .ok (.aastore, 1)) (kk : Ex X d i (pc + 1) lo st M1 r M2) : Ex X d i pc lo (.ref v :: .int x :: .ref a :: st) M r M2 := by
  obtain ⟨n, f, h1, h2, h3, rfl⟩ := wQ_some h
  obtain ⟨vs, hvs⟩ := h3 v rfl
  exact ex_aast hd (Or.inl ⟨rfl, rfl⟩) h1 hvs h2 kk
theorem ex_wQ3 {a : Nat} {o : Option Nat} {x : Int32} (h : wQ 3 8 M a x o = some M1) (hd : decode (mi_c i) pc = .ok (.aastore, 1)) (kk : Ex X d i (pc + 1) lo st M1 r M2) : Ex X d i pc lo (va_rf o :: .int x :: .ref a :: st) M r M2 := by
  obtain ⟨n, f, h1, h2, h3, rfl⟩ := wQ_some h
  exact ex_aastq hd h1 (fun v hv => h3 v hv) h2 kk
theorem ex_ln {a : Nat} {v : Int32} (h : lnA M a = some v) (hd : decode (mi_c i) pc = .ok (.arraylength, 1)) (kk : Ex X d i (pc + 1) lo (.int v :: st) M r M2) : Ex X d i pc lo (.ref a :: st) M r M2 := by
  unfold lnA at h
  split at h
  · rename_i t y hy
    split at h
    · rename_i ht
      cases h
      exact ex_alen hd ht hy kk
    · cases h
  · cases h
theorem ex_cp {x a0 a : Nat} {sp dp n : Int32} (h : cpI M a0 sp a dp n = some M1) (hd : decode (mi_c i) pc = .ok (.invokestatic x, 3)) (hw : Cond.methodLink (mi_y i).cls x arraycopyName ∈ mx_g) (hd1 : 1 ≤ d) (hst : (st.map fun v => v.category).sum ≤ 8) (kk : Ex X d i (pc + 3) lo st M1 r M2) : Ex X d i pc lo (.int n :: .int dp :: .ref a :: .int sp :: .ref a0 :: st) M r M2 := by
  unfold cpI at h
  split at h
  · rename_i n0 f n1 g h0 h1
    split at h
    · cases h
    · rename_i hn
      cases h
      simp only [not_or] at hn
      obtain ⟨g1, g2, g3, g4, g5⟩ := hn
      exact ex_copy hd hw hd1 hst (aI_some h0) (aI_some h1) g1 g2 g3 (by omega) (by omega) kk
  · cases h
theorem ex_nwI {n : Int32} (h : nwI M n = some M1) (hd : decode (mi_c i) pc = .ok (.newarray .int, 2)) (kk : Ex X d i (pc + 2) lo (.ref M.1 :: st) M1 r M2) : Ex X d i pc lo (.int n :: st) M r M2 := by
  unfold nwI at h
  split at h
  · cases h
  · rename_i hn
    cases h
    simp only [not_or] at hn
    exact ex_newi hd hn.1 rfl (by omega) kk
theorem ex_nwL {n : Int32} (h : nwL M n = some M1) (hd : decode (mi_c i) pc = .ok (.newarray .long, 2)) (kk : Ex X d i (pc + 2) lo (.ref M.1 :: st) M1 r M2) : Ex X d i pc lo (.int n :: st) M r M2 := by
  unfold nwL at h
  split at h
  · cases h
  · rename_i hn
    cases h
    simp only [not_or] at hn
    exact ex_newl hd hn.1 rfl (by omega) kk
theorem ex_nwZ {n : Int32} (h : nwZ M n = some M1) (hd : decode (mi_c i) pc = .ok (.newarray .boolean, 2)) (kk : Ex X d i (pc + 2) lo (.ref M.1 :: st) M1 r M2) : Ex X d i pc lo (.int n :: st) M r M2 := by
  unfold nwZ at h
  split at h
  · cases h
  · rename_i hn
    cases h
    simp only [not_or] at hn
    exact ex_newz hd hn.1 rfl (by omega) kk
theorem ex_nwQ {x t : Nat} {C0 : String} {n : Int32} (h : nwQ t M n = some M1) (hd : decode (mi_c i) pc = .ok (.anewarray x, 3)) (ht : (t = 2 ∧ C0 = RX9) ∨ (t = 3 ∧ C0 = RX8)) (hw : Cond.classLink (mi_y i).cls x C0 ∈ mx_g) (kk : Ex X d i (pc + 3) lo (.ref M.1 :: st) M1 r M2) : Ex X d i pc lo (.int n :: st) M r M2 := by
  unfold nwQ at h
  split at h
  · cases h
  · rename_i hn
    cases h
    simp only [not_or] at hn
    exact ex_anew hd ht hw hn.1 rfl (by omega) kk
theorem ex_clI {x a : Nat} (h : clI M a = some M1) (hd : decode (mi_c i) pc = .ok (.invokevirtual x, 3)) (hw : Cond.methodLink (mi_y i).cls x ⟨"[I", "clone", "()Ljava/lang/Object;"⟩ ∈ mx_g) (hd1 : 1 ≤ d) (hst : (st.map fun v => v.category).sum ≤ 8) (kk : Ex X d i (pc + 3) lo (.ref M.1 :: st) M1 r M2) : Ex X d i pc lo (.ref a :: st) M r M2 := by
  unfold clI at h
  split at h
  · rename_i n f hq
    cases h
    exact ex_clone hd hw hd1 hst (aI_some hq) kk
  · cases h
end MXR
