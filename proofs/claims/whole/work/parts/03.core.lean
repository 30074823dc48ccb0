/-! THE PURE MACHINE. Memories are functions from addresses to cells; Ex is the judgement 'from here the method ends with r, and memory M'', over the machine itself; each row of this part is a rule of it. -/
/-- a cell: an array (its kind: 0 int, 1 long, 2 World, 3 Text, 4 int[], 5 boolean), or an object (its class's number in mx_cl, its fields) -/
abbrev ACell : Type := (Nat × vp_A) ⊕ (Nat × List Value)
/-- the next address, how many slots are used, the cells -/
abbrev Mem : Type := Nat × Nat × (Nat → Option ACell)
def mx_ia (n : Nat) (f : Nat → Int32) : ACell := .inl (0, n, .inl f)
def mx_za (n : Nat) (f : Nat → Int32) : ACell := .inl (5, n, .inl f)
def mx_la (n : Nat) (f : Nat → Int64) : ACell := .inl (1, n, .inr (.inl f))
def mx_ra (t n : Nat) (f : Nat → Option Nat) : ACell := .inl (t, n, .inr (.inr (.inr (.inr f))))
def mx_ob (ci : Nat) (fs : List Value) : ACell := .inr (ci, fs)
def mx_set (M : Mem) (a : Nat) (x : ACell) : Mem := (M.1, M.2.1, fun q => if q = a then some x else M.2.2 q)
def mx_new (M : Mem) (n : Nat) (x : ACell) : Mem := (M.1 + 1, M.2.1 + n, fun q => if q = M.1 then some x else M.2.2 q)
abbrev mx_cl : List vw_C := [(RX0, TX0, 2), (RX1, TX1, 3), (RX2, TX2, 12), (RX3, TX3, 2), (RX4, TX4, 16), (RX5, TX5, 3), (RX6, TX6, 7), (RX7, TX7, 6), (RX8, TX8, 6), (RX9, TX9, 12), (RX10, TX10, 9), (RX11, TX11, 37)]
/-- launch, classes' numbers and slots, array classes, first address, the script's address, length, ints; addresses outside: 0 POWERS, 2, 3 the String constants, 4, 5 their bytes -/
abbrev XV : Type := Nat × Nat × (Nat → Int32) × (Nat → Nat)
abbrev EV : Type := Launch × va_G × (Nat → ClassId) × Nat × XV
abbrev ev_l (E : EV) : Launch := E.1
abbrev ev_D (E : EV) : va_G := E.2.1
abbrev ev_A (E : EV) : Nat → ClassId := E.2.2.1
abbrev ev_b (E : EV) : Nat := E.2.2.2.1
abbrev ev_X (E : EV) : XV := E.2.2.2.2
abbrev ev_sc (E : EV) : Nat := E.2.2.2.2.1
abbrev ev_L (E : EV) : Nat := E.2.2.2.2.2.1
abbrev ev_xs (E : EV) : Nat → Int32 := E.2.2.2.2.2.2.1
abbrev ev_ex (E : EV) : Nat → Nat := E.2.2.2.2.2.2.2
/-- what the system may write -/
abbrev ev_W (E : EV) : Nat → Prop := fun q => ev_b E ≤ q
abbrev mx_tys (E : EV) : List (ClassId × FieldType) := [(ev_A E 0, .int), (ev_A E 1, .long), (ev_A E 2, .object RX9), (ev_A E 3, .object RX8), (ev_A E 4, .array .int), (ev_A E 5, .boolean)]
def mx_e (E : EV) : ACell → va_E
  | .inl x => .inl (ev_A E x.1, x.2)
  | .inr o => .inr o
def mx_isN : Cond → Bool
  | .methodLinkNest .. => true
  | _ => false
def mx_g : List Cond := lw_tbl.filter goodWord
def mx_n : List Cond := lw_tbl.filter mx_isN
def mx_pow (j : Nat) : Value := .int (if j = 0 then 1 else if j = 1 then 10 else if j = 2 then 100 else 1000)
def mx_len : List Nat := [138, 11]
def mx_wd : List Int32 := [108, 111, 111, 115, 101, 32, 98, 101, 108, 105, 101, 118, 101, 115, 32, 119, 101, 97, 114, 115, 32, 109, 97, 99, 104, 105, 110, 101, 32, 115, 116, 114, 105, 99, 116, 32, 115, 108, 97, 99, 107, 32, 99, 114, 97, 110, 107, 32, 108, 105, 102, 116, 32, 111, 105, 108, 32, 110, 105, 103, 104, 116, 32, 98, 114, 97, 115, 115, 32, 119, 101, 97, 114, 32, 115, 117, 109, 32, 119, 104, 111, 32, 108, 111, 110, 103, 32, 115, 97, 109, 101, 32, 116, 111, 32, 98, 121, 32, 100, 105, 103, 105, 116, 115, 32, 115, 117, 109, 115, 32, 105, 102, 32, 116, 104, 101, 110, 32, 101, 108, 115, 101, 32, 101, 110, 100, 32, 111, 114, 32, 97, 110, 100, 32, 110, 111, 116, 32]
def mx_sy : List Int32 := [60, 62, 61, 35, 43, 45, 42, 47, 40, 41, 59]
/-- what lies outside, and is only read -/
def mx_X (E : EV) (U : State) (H : Heap) : Prop :=
  va_X (ev_sc E) (ev_L E) (ev_xs E) U H ∧ (ev_sc E < H.size ∧ ¬ ev_W E (ev_sc E)) ∧
  va_Z "MachinesDream" "POWERS" "[I" (.ref (ev_ex E 0)) (ev_W E) U H ∧ va_T .int (ev_ex E 0) 4 mx_pow (ev_W E) U H ∧
  va_Z "java/lang/String" "COMPACT_STRINGS" "Z" (.int 1) (ev_W E) U H ∧
  va_Zq "jdk/internal/util/Preconditions" "SIOOBE_FORMATTER" "Ljava/util/function/BiFunction;" (ev_W E) U H ∧
  vk_S 2 mx_len [mx_wd, mx_sy] (fun i => ev_ex E (2 + i)) (fun i => ev_ex E (4 + i)) (ev_W E) U H
def mx_AOA (U : State) : Prop := (Cond.arrayOver (.array .int)).before #[] U = true
def mx_T (E : EV) (U : State) : Prop :=
  va_K (ev_D E) mx_cl (mx_tys E) U ∧ (∀ w ∈ mx_n, va_Nw w U) ∧ va_AO RX9 U ∧ va_AO RX8 U ∧ mx_AOA U ∧ va_Nw (.castable "[I" "java/lang/Cloneable") U ∧
  vk_R "MachinesDream$Tape" 56 "loose believes wears machine strict slack crank lift oil night brass wear sum who long same to by digits sums if then else end or and not " (ev_ex E 2) U ∧ vk_R "MachinesDream$Tape" 76 "<>=#+-*/();" (ev_ex E 3) U
/-- the heap holds the memory -/
def mx_H (E : EV) (M : Mem) (H : Heap) : Prop := H.size = M.1 ∧ ev_b E ≤ M.1 ∧ ∀ (a : Nat) (x : ACell), M.2.2 a = some x → ev_b E ≤ a ∧ a < M.1 ∧ va_at (ev_D E) mx_cl (a, mx_e E x) H

abbrev MI : Type := MethodName × ByteArray × Nat × Option FieldType
abbrev mi_y (i : MI) : MethodName := i.1
abbrev mi_c (i : MI) : ByteArray := i.2.1
abbrev mi_n (i : MI) : Nat := i.2.2.1
abbrev mi_r (i : MI) : Option FieldType := i.2.2.2
/-- the words of a method -/
def mx_ws (i : MI) : List Cond := Cond.code i.1 i.2.1 i.2.2.1 i.2.2.2 :: mx_g
def mx_rm (d k n : Nat) : Room := { frames := d, cells := k, slots := n, locals := 100 * d }
def mx_Pc (E : EV) (as : List Value) (M : Mem) : Array Value → State → Prop := fun v U => v = as.toArray ∧ mx_T E U ∧ mx_X E U U.heap ∧ mx_H E M U.heap
def mx_Qc (E : EV) (r : Option Value) (M : Mem) : Array Value → State → Outcome → State → Prop := fun _ st o t => o = .returned r ∧ mx_H E M t.heap ∧ ∀ q : Nat, q < st.heap.size → ¬ ev_W E q → t.heap[q]? = st.heap[q]?
/-- THE CALL: method i, called with as over the memory M, ends with r and the memory M2, d frames deep at most -/
def Mx (X : XV) (d : Nat) (i : MI) (as : List Value) (M : Mem) (r : Option Value) (M2 : Mem) : Prop :=
  M.1 ≤ M2.1 ∧ M.2.1 ≤ M2.2.1 ∧ ∀ E : EV, ev_X E = X → Met (ev_l E) (mi_y i) (mx_ws i) (mx_rm d (M2.1 - M.1) (M2.2.1 - M.2.1)) (mx_Pc E as M) (mx_Qc E r M2) (M2.1 - M.1) (M2.2.1 - M.2.1) (ev_W E)
/-- what holds all through a method's body -/
def mx_C (X : XV) (E : EV) (i : MI) (p : Program) (s : State) (m : MethodId) (args : Array Value) (meth : Method) (c : Code) : Prop :=
  p.tables.exec = Jvm.exec ∧ c.code = mi_c i ∧ c.maxLocals = mi_n i ∧ s.vm.findClass (mi_y i).cls = some m.cls ∧ (∀ w ∈ mx_g, w.before args s = true) ∧ mx_T E s ∧ mx_X E s s.heap ∧ meth.name = (mi_y i).name ∧ ev_b E ≤ s.heap.size ∧ ev_X E = X
/-- the instruction that ends with r -/
def mx_rt (i : MI) (pc : Nat) : Option Value → Prop
  | none => decode (mi_c i) pc = .ok (.return_, 1)
  | some (.int _) => decode (mi_c i) pc = .ok (.ireturn, 1)
  | some (.long _) => decode (mi_c i) pc = .ok (.lreturn, 1)
  | some (.ref _) => decode (mi_c i) pc = .ok (.areturn, 1)
  | some .null => decode (mi_c i) pc = .ok (.areturn, 1)
  | _ => False
/-- THE BODY: method i at pc, locals lo, stack st, memory M, ends with r and the memory M2 -/
def Ex (X : XV) (d : Nat) (i : MI) (pc : Nat) (lo : List (Nat × Value)) (st : List Value) (M : Mem) (r : Option Value) (M2 : Mem) : Prop :=
  M.1 ≤ M2.1 ∧ M.2.1 ≤ M2.2.1 ∧ ∀ (E : EV) (p : Program) (e : Env) (R : Room) (s : State) (m : MethodId) (args : Array Value) (below : List Frame) (meth : Method) (c : Code) (Q : State → Prop) (H : Heap) (locs : List Loc) (cells slots : Nat) (ls : Array Slot),
    mx_C X E i p s m args meth c → d ≤ R.frames → 100 * d ≤ R.locals → cells + (M2.1 - M.1) ≤ R.cells → slots + (M2.2.1 - M.2.1) ≤ R.slots → mx_H E M H → va_S (ev_W E) s.heap H locs → lv_has ls (mi_n i) lo →
    (∀ (pc' : Nat) (ls' : Array Slot) (H' : Heap) (locs' : List Loc), mx_rt i pc' r → mx_H E M2 H' → va_S (ev_W E) s.heap H' locs' → W p (ev_l E) e R s m args below meth c H' locs' (cells + (M2.1 - M.1)) (slots + (M2.2.1 - M.2.1)) Q (F0 m pc' ls' r.toList)) →
    W p (ev_l E) e R s m args below meth c H locs cells slots Q (F0 m pc ls st)
