/-! new int[n][k]: the machine's own loop over the rows -/
def mn_in (comp : ClassId) (K : Nat) : Cell := { cls := comp, slots := Array.replicate K (.int 0), vm := .none }
def mn_out (c : ClassId) (N h0 i : Nat) : Cell := arrV c N (fun j => va_rf (if j < i then some (h0 + 1 + j) else none))
/-- the state behind i rows -/
def mn_S (s : State) (c comp : ClassId) (N K : Nat) : Nat → State
  | 0 => s.pushCell (mn_out c N s.heap.size 0)
  | i + 1 => ((mn_S s c comp N K i).pushCell (mn_in comp K)).setCell s.heap.size (mn_out c N s.heap.size (i + 1))
theorem mn_out_0 (c : ClassId) (N h0 : Nat) : ({ cls := c, slots := Array.replicate N .null, vm := .none } : Cell) = mn_out c N h0 0 := by
  rw [arrV_new]
  unfold mn_out
  congr 1
theorem mn_out_s (c : ClassId) (N h0 i : Nat) : (mn_out c N h0 i).setSlot i (.ref (h0 + 1 + i)) = mn_out c N h0 (i + 1) := by
  unfold mn_out
  rw [arrV_store]
  congr 1
  funext j
  by_cases e : j = i
  · subst e
    simp [updV, va_rf]
  · by_cases h : j < i
    · simp [updV, e, h, Nat.lt_succ_of_lt h]
    · simp [updV, e, h, show ¬ j < i + 1 by omega]
theorem mn_out_z (c : ClassId) (N h0 i : Nat) : (mn_out c N h0 i).slots.size = N := arrV_size _ _ _
theorem mn_facts (s : State) (c comp : ClassId) (N K : Nat) : ∀ i, (mn_S s c comp N K i).heap.size = s.heap.size + 1 + i ∧ (mn_S s c comp N K i).heap[s.heap.size]? = some (mn_out c N s.heap.size i) ∧ (mn_S s c comp N K i).vm = s.vm ∧ (mn_S s c comp N K i).slotsUsed = s.slotsUsed + N + i * K ∧ (∀ a : Nat, a < s.heap.size → (mn_S s c comp N K i).heap[a]? = s.heap[a]?) ∧ ∀ j, j < i → (mn_S s c comp N K i).heap[s.heap.size + 1 + j]? = some (mn_in comp K)
  | 0 => by
    refine ⟨by simp [mn_S], by simp [mn_S], rfl, ?_, fun a ha => State.heap_pushCell_of_lt _ _ ha, fun j h => absurd h (Nat.not_lt_zero _)⟩
    have := mn_out_z c N s.heap.size 0
    simp [mn_S, this]
  | i + 1 => by
    obtain ⟨a, b, d, u, o, w⟩ := mn_facts s c comp N K i
    have hlt : s.heap.size < (mn_S s c comp N K i).heap.size := by omega
    have hb' : ((mn_S s c comp N K i).pushCell (mn_in comp K)).heap[s.heap.size]? = some (mn_out c N s.heap.size i) := by rw [State.heap_pushCell_of_lt (h := hlt)]; exact b
    refine ⟨?_, State.heap_setCell_self hb', by simp [mn_S, d], ?_, fun q hq => ?_, fun j hj => ?_⟩
    · simp [mn_S, State.setCell, a]; omega
    · simp [mn_S, u, mn_in, Nat.succ_mul]; omega
    · show (((mn_S s c comp N K i).pushCell (mn_in comp K)).setCell s.heap.size _).heap[q]? = _
      have hq2 : q < (mn_S s c comp N K i).heap.size := by omega
      rw [State.heap_setCell_other (Nat.ne_of_gt hq), State.heap_pushCell_of_lt (h := hq2)]
      exact o q hq
    · show (((mn_S s c comp N K i).pushCell (mn_in comp K)).setCell s.heap.size _).heap[s.heap.size + 1 + j]? = _
      rw [State.heap_setCell_other (show s.heap.size ≠ s.heap.size + 1 + j by omega)]
      by_cases hji : j < i
      · have hq2 : s.heap.size + 1 + j < (mn_S s c comp N K i).heap.size := by omega
        rw [State.heap_pushCell_of_lt (h := hq2)]
        exact w j hji
      · have e : j = i := by omega
        subst e
        rw [← a]
        exact State.heap_pushCell_size _ _
theorem mn_top (s : State) (f : JFrame) (c comp : ClassId) (N K : Nat) : ∀ i, mn_S (s.setTop f) c comp N K i = (mn_S s c comp N K i).setTop f
  | 0 => rfl
  | i + 1 => by simp only [mn_S, mn_top s f c comp N K i, State.heap_setTop, State.pushCell_setTop, State.setCell_setTop]
section MNW
variable {E : CtlPost} {e : Env} {d : Bool} {acts : List Action} {s : State}
theorem mn_newArray {c comp : ClassId} {k : Class} {type : FieldType} {len : Nat} {init : Value} (hk : s.vm.classes[c]? = some k) (hkind : k.kind = .array comp type)
    (hlimit : ¬ len > e.platform.arrayLengthLimit) (hheap : ¬ len * componentBytes type > e.platform.maxHeapBytes) (hfit : fits type init = true) (hdef : init.isDefault = true) {Q : Addr → Pre}
    (h1 : s.heap.size < e.platform.maxCells) (h2 : s.slotsUsed + len ≤ e.platform.maxSlots)
    (hq : Q s.heap.size d acts (s.pushCell { cls := c, slots := Array.replicate len init, vm := .none })) :
    wp (Jvm.newArray c len init) Q E e d acts s := by
  have hfits : ∀ i v, (Array.replicate len init)[i]? = some v → s.fitsSlot c .none i v = true := by
    intro i v hv
    simp only [Array.getElem?_replicate] at hv
    split at hv
    · cases hv
      simp [State.fitsSlot, State.slotType?, hk, hkind, hfit]
    · cases hv
  have hda : allocActs (Array.replicate len init) s.heap.size acts = acts := by
    have hall : ((Array.replicate len init).all (·.isDefault)) = true := by
      rw [Array.all_replicate]
      split <;> simp [hdef]
    unfold allocActs
    rw [if_pos hall]
  simp only [Jvm.newArray, Jvm.arrayFits, wp_bind', W.ask, W.ite, hlimit, if_false, wp_pure', W.theClass, hk, hkind, hheap, W.alloc, W.stop, Option.some.injEq, exists_eq_left', Array.size_replicate, hda]
  rw [if_neg (by omega)]
  exact ⟨h1, h2, hfits, hq⟩
theorem mn_row {comp cc : ClassId} {kc : Class} {m : Int32} (hkc : s.vm.classes[comp]? = some kc) (hkindc : kc.kind = .array cc .int) (hm : ¬ m < 0)
    (hl2 : ¬ m.toNatClampNeg > e.platform.arrayLengthLimit) (hh2 : ¬ m.toNatClampNeg * 4 > e.platform.maxHeapBytes)
    (h1 : s.heap.size < e.platform.maxCells) (h2 : s.slotsUsed + m.toNatClampNeg ≤ e.platform.maxSlots)
    {Q : Addr → Pre} (hq : Q s.heap.size d acts (s.pushCell (mn_in comp m.toNatClampNeg))) :
    wp (multianewarray.make comp [m]) Q E e d acts s := by
  rw [multianewarray.make]
  simp only [wp_bind', W.ite, hm, if_false, wp_pure', W.theClass, hkc, hkindc, Option.some.injEq, exists_eq_left']
  exact mn_newArray hkc hkindc hl2 hh2 rfl rfl h1 h2 hq
theorem mn_all {c comp cc : ClassId} {k kc : Class} {n m : Int32} (hk : s.vm.classes[c]? = some k) (hkind : k.kind = .array comp (.array .int))
    (hkc : s.vm.classes[comp]? = some kc) (hkindc : kc.kind = .array cc .int) (hn : ¬ n < 0) (hm : ¬ m < 0)
    (hl1 : ¬ n.toNatClampNeg > e.platform.arrayLengthLimit) (hh1 : ¬ n.toNatClampNeg * 4 > e.platform.maxHeapBytes)
    (hl2 : ¬ m.toNatClampNeg > e.platform.arrayLengthLimit) (hh2 : ¬ m.toNatClampNeg * 4 > e.platform.maxHeapBytes)
    (hc : s.heap.size + 1 + n.toNatClampNeg ≤ e.platform.maxCells) (hs : s.slotsUsed + n.toNatClampNeg + n.toNatClampNeg * m.toNatClampNeg ≤ e.platform.maxSlots)
    {Q : Addr → Pre} (hq : ∀ d' acts', Q s.heap.size d' acts' (mn_S s c comp n.toNatClampNeg m.toNatClampNeg n.toNatClampNeg)) :
    wp (multianewarray.make c [n, m]) Q E e d acts s := by
  have hfind : ([m].find? (· < 0)) = none := by simp [hm]
  rw [multianewarray.make]
  simp only [wp_bind', W.ite, hn, if_false, wp_pure', W.theClass, hk, hkind, Option.some.injEq, exists_eq_left']
  refine mn_newArray hk hkind hl1 hh1 rfl rfl (by omega) (by have := Nat.zero_le (n.toNatClampNeg * m.toNatClampNeg); omega) ?_
  rw [mn_out_0 c n.toNatClampNeg s.heap.size]
  simp only [hfind]
  rw [ite_self, wp_bind', Std.Legacy.Range.forIn_eq_forIn_range']
  have hsz : ([:n.toNatClampNeg] : Std.Legacy.Range).size = n.toNatClampNeg := by simp [Std.Legacy.Range.size]
  rw [hsz]
  show wp (forIn (List.range' 0 n.toNatClampNeg 1) PUnit.unit _) _ E e d acts _
  refine wp_forIn_inv (fun rest s' => ∃ i, i ≤ n.toNatClampNeg ∧ rest = List.range' i (n.toNatClampNeg - i) ∧ s' = mn_S s c comp n.toNatClampNeg m.toNatClampNeg i) _ _ ⟨0, Nat.zero_le _, rfl, rfl⟩ ?_ ?_
  · rintro x rest s' d' acts' Q' ⟨i, hi, hl, rfl⟩ hnext
    have hlt : i < n.toNatClampNeg := by
      rcases Nat.lt_or_ge i n.toNatClampNeg with h | h
      · exact h
      · rw [show n.toNatClampNeg - i = 0 from by omega] at hl; simp at hl
    obtain ⟨rfl, hrest⟩ : x = i ∧ rest = List.range' (i + 1) (n.toNatClampNeg - (i + 1)) := by
      rw [show n.toNatClampNeg - i = (n.toNatClampNeg - (i + 1)) + 1 from by omega, List.range'_succ] at hl
      exact ⟨(List.cons.inj hl).1, (List.cons.inj hl).2⟩
    obtain ⟨f1, f2, f3, f4, -, -⟩ := mn_facts s c comp n.toNatClampNeg m.toNatClampNeg x
    have hmul : x * m.toNatClampNeg + m.toNatClampNeg ≤ n.toNatClampNeg * m.toNatClampNeg := by
      have := Nat.mul_le_mul_right m.toNatClampNeg (show x + 1 ≤ n.toNatClampNeg from hlt)
      rw [Nat.succ_mul] at this
      exact this
    simp only [wp_bind']
    refine mn_row (by rw [f3]; exact hkc) hkindc hm hl2 hh2 (by rw [f1]; omega) (by rw [f4]; omega) ?_
    have hlt0 : s.heap.size < (mn_S s c comp n.toNatClampNeg m.toNatClampNeg x).heap.size := by rw [f1]; omega
    simp only [wp_bind', W.writeLoc, wp_pure']
    refine ⟨mn_out c n.toNatClampNeg s.heap.size x, ?_, ?_, ?_, ?_, hnext _ _ _ ⟨x + 1, hlt, hrest, ?_⟩⟩
    · rw [State.heap_pushCell_of_lt (h := hlt0)]; exact f2
    · simp [mn_out, arrV]
    · rw [mn_out_z]; exact hlt
    · show State.fitsSlot _ c .none x _ = true
      have hf : fits (.array .int) (.ref ((mn_S s c comp n.toNatClampNeg m.toNatClampNeg x).heap.size)) = true := rfl
      simp [State.fitsSlot, State.slotType?, f3, hk, hkind, hf]
    · rw [f1, mn_out_s]
      rfl
  · rintro s' d' acts' ⟨i, hi, hl, rfl⟩
    have hiN : i = n.toNatClampNeg := by
      rcases Nat.lt_or_ge i n.toNatClampNeg with h | h
      · rw [show n.toNatClampNeg - i = (n.toNatClampNeg - (i + 1)) + 1 from by omega, List.range'_succ] at hl; cases hl
      · omega
    subst hiN
    simp only [wp_pure']
    exact hq _ _
end MNW
section MNS
variable {p : Program} {l : Launch} {e : Env} {R : Room} {s : State} {m : MethodId} {args : Array Value} {below : List Frame} {meth : Method} {c : Code} {T : State} {locs : List Loc} {cells slots : Nat}
theorem mn_stand (X : Stand p l e R s m args below meth c T locs cells slots) (cA comp : ClassId) (N K : Nat) : ∀ i, Stand p l e R s m args below meth c (mn_S T cA comp N K i) (locs ++ (List.range i).map fun j => ⟨T.heap.size, j⟩) (cells + 1 + i) (slots + N + i * K)
  | 0 => by
    have h := X.pushed (mn_out cA N T.heap.size 0)
    rw [mn_out_z] at h
    simpa [mn_S] using h
  | i + 1 => by
    have Xi := mn_stand X cA comp N K i
    obtain ⟨f1, f2, f3, f4, -, -⟩ := mn_facts T cA comp N K i
    have hlt0 : T.heap.size < (mn_S T cA comp N K i).heap.size := by rw [f1]; omega
    have hcell : ((mn_S T cA comp N K i).pushCell (mn_in comp K)).heap[T.heap.size]? = some (mn_out cA N T.heap.size i) := by rw [State.heap_pushCell_of_lt (h := hlt0)]; exact f2
    have h := (Xi.pushed (mn_in comp K)).stored hcell i (.ref (T.heap.size + 1 + i))
    have e1 : (mn_in comp K).slots.size = K := by simp [mn_in]
    rw [e1, mn_out_s] at h
    have e2 : (locs ++ (List.range (i + 1)).map fun j => (⟨T.heap.size, j⟩ : Loc)) = (locs ++ (List.range i).map fun j => (⟨T.heap.size, j⟩ : Loc)) ++ [⟨T.heap.size, i⟩] := by simp [List.range_succ, List.append_assoc]
    have e3 : slots + N + (i + 1) * K = slots + N + i * K + K := by rw [Nat.succ_mul]; omega
    rw [e2, e3]
    exact h
theorem mn_over {U : State} {as : Array Value} (h : (Cond.arrayOver (.array .int)).before as U = true) :
    ∃ (comp cA : ClassId) (k : Class), U.vm.findClass "[I" = some comp ∧ U.vm.classes[cA]? = some k ∧ k.kind = .array comp (.array .int) ∧ U.vm.findClass "[[I" = some cA := by
  have h : (Cond.arrayOver (.array .int)).holds as U none U [] = true := h
  simp only [Cond.holds, Cond.value, beq_iff_eq] at h
  cases hc : U.vm.findClass (FieldType.array .int).toString with
  | none => simp [hc] at h
  | some comp =>
    simp only [hc, Option.bind_some, Option.bind_eq_some_iff, Option.map_eq_some_iff] at h
    obtain ⟨cA, hi, k, hk, hb⟩ := h
    obtain ⟨hlt, hp, -⟩ := Array.findIdx?_eq_some_iff_getElem.mp hi
    have hkk : U.vm.classes[cA] = k := (Array.getElem?_eq_some_iff.mp hk).2
    rw [hkk] at hp
    cases hkind : k.kind with
    | array component ty =>
      rw [hkind] at hb hp
      simp at hb hp
      exact ⟨comp, cA, k, hc, hk, by rw [hkind, hp, hb.1], hb.2⟩
    | _ => rw [hkind] at hb; simp at hb
theorem mn_step (X : Stand p l e R s m args below meth c T locs cells slots) (hexec : p.tables.exec = Jvm.exec) {own : String} {index : Nat}
    (hown : s.vm.findClass own = some m.cls) (hclink : (Cond.classLink own index "[[I").before args s = true)
    (hover : (Cond.arrayOver (.array .int)).before args s = true) (harr : (Cond.arrayClass .int).before args s = true)
    {g : JFrame} (hg : g.method = m) (hdg : decode c.code g.pc = .ok (.multianewarray index 2, 4)) {n k : Int32} {rest : List Value} (hstack : g.stack = .int k :: .int n :: rest)
    (hn : ¬ n < 0) (hk : ¬ k < 0) (hb1 : n.toNatClampNeg ≤ 1000) (hb2 : k.toNatClampNeg ≤ 1000)
    (hcells : cells + (1 + n.toNatClampNeg) ≤ R.cells) (hslots : slots + (n.toNatClampNeg + n.toNatClampNeg * k.toNatClampNeg) ≤ R.slots) :
    ∃ (vm₁ : Vm) (cA comp : ClassId), s.WarmedH vm₁ ∧ s.vm.findClass "[[I" = some cA ∧ s.vm.findClass "[I" = some comp ∧
      Stand p l e R s m args below meth c (mn_S (T.setVm vm₁) cA comp n.toNatClampNeg k.toNatClampNeg n.toNatClampNeg) (locs ++ (List.range n.toNatClampNeg).map fun j => ⟨T.heap.size, j⟩) (cells + 1 + n.toNatClampNeg) (slots + n.toNatClampNeg + n.toNatClampNeg * k.toNatClampNeg) ∧
      ∀ target, Steps p.tables e below ((mn_S (T.setVm vm₁) cA comp n.toNatClampNeg k.toNatClampNeg n.toNatClampNeg).setTop { g with pc := g.pc + 4, stack := .ref T.heap.size :: rest }) target →
        Steps p.tables e below (T.setTop g) target := by
  subst hg
  have hpl : e.platform.magicAccessors = ({} : Platform).magicAccessors := by rw [X.admits.platform]
  obtain ⟨comp, cA, kA, hcomp, hkA, hkindA, hnameA⟩ := mn_over hover
  obtain ⟨comp', kC, cc, hcomp', hkC, hkindC⟩ := Cond.arrayClass_spec (show (Cond.arrayClass .int).holds args s none s [] = true from harr)
  have ecomp : comp' = comp := Option.some.inj (hcomp'.symm.trans hcomp)
  subst ecomp
  obtain ⟨c0, hfc0, hcl⟩ := Cond.classLink_spec hown hclink e.platform hpl
  cases hnameA.symm.trans hfc0
  obtain ⟨hg₁, hwarm₁, hready₁⟩ := State.classEntry (e := e) X.warmed hcl
  generalize T.vm.noted g.method.cls index (.cls cA) = vm₁ at hg₁ hwarm₁ hready₁
  have hal : s.vm.Alike vm₁ := hwarm₁.alike
  obtain ⟨kA₁, hkA₁, heA⟩ := hal.2.2 _ _ hkA
  obtain ⟨kC₁, hkC₁, heC⟩ := hal.2.2 _ _ hkC
  have hkindA₁ : kA₁.kind = .array comp' (.array .int) := by rw [heA]; exact hkindA
  have hkindC₁ : kC₁.kind = .array cc .int := by rw [heC]; exact hkindC
  have X₁ := X.noted hwarm₁
  obtain ⟨hr1, hr2⟩ := X.roomAbove hcells hslots
  refine ⟨vm₁, cA, comp', hwarm₁, hnameA, hcomp, mn_stand X₁ cA comp' _ _ _, fun target hrest => ?_⟩
  have hl1 : ¬ n.toNatClampNeg > e.platform.arrayLengthLimit := by rw [Launch.admits_arrayLengthLimit X.admits]; omega
  have hh1 : ¬ n.toNatClampNeg * 4 > e.platform.maxHeapBytes := by rw [Launch.admits_maxHeapBytes X.admits]; omega
  have hl2 : ¬ k.toNatClampNeg > e.platform.arrayLengthLimit := by rw [Launch.admits_arrayLengthLimit X.admits]; omega
  have hh2 : ¬ k.toNatClampNeg * 4 > e.platform.maxHeapBytes := by rw [Launch.admits_maxHeapBytes X.admits]; omega
  jvm_step X.here [hexec, hdg]
  simp only [multianewarray.sem, wp_bind', W.resolveClassAt_links (State.method?_setTop g X.here.top) hg₁]
  rw [W.popN, if_neg (by decide)]
  refine ⟨g, State.topJava?_setTop' (s := T.setVm vm₁) g X.here.top, [.int n, .int k], rest, rfl, hstack, ?_⟩
  simp only [List.mapM_cons, List.mapM_nil, wp_bind', wp_pure']
  refine mn_all (k := kA₁) (kc := kC₁) (comp := comp') (cc := cc) hkA₁ hkindA₁ hkC₁ hkindC₁ hn hk hl1 hh1 hl2 hh2 (by show T.heap.size + 1 + _ ≤ _; omega) (by show T.slotsUsed + _ + _ ≤ _; omega) (fun d' acts' => ?_)
  have XF := mn_stand X₁ cA comp' n.toNatClampNeg k.toNatClampNeg n.toNatClampNeg
  have eS : ((T.setTop g).setVm vm₁).setTop { g with stack := rest } = (T.setVm vm₁).setTop { g with stack := rest } := by
    show ((T.setVm vm₁).setTop g).setTop _ = _
    rw [State.setTop_setTop]
  rw [eS, mn_top]
  simp only [wp_bind', W.mark, W.pushRef, State.topJava?_setTop' _ XF.here.top, Option.some.injEq, exists_eq_left', State.setTop_setTop, State.heap_setTop]
  intro acts
  simp [jvm, XF.here.top]
  exact hrest
end MNS
noncomputable def nwM (M : Mem) (n k : Int32) : Option Mem := if n < 0 ∨ k < 0 ∨ 1000 < n.toNatClampNeg ∨ 1000 < k.toNatClampNeg then none else some (M.1 + 1 + n.toNatClampNeg, M.2.1 + (n.toNatClampNeg + n.toNatClampNeg * k.toNatClampNeg), fun q => if q = M.1 then some (mx_ra 4 n.toNatClampNeg (fun j => if j < n.toNatClampNeg then some (M.1 + 1 + j) else none)) else if M.1 < q ∧ q < M.1 + 1 + n.toNatClampNeg then some (mx_ia k.toNatClampNeg (fun _ => 0)) else M.2.2 q)
theorem ex_nwM {X : XV} {d : Nat} {i : MI} {pc : Nat} {lo : List (Nat × Value)} {st : List Value} {M M1 M2 : Mem} {r : Option Value} {x : Nat} {n k : Int32} (h : nwM M n k = some M1) (hd : decode (mi_c i) pc = .ok (.multianewarray x 2, 4)) (hw : Cond.classLink (mi_y i).cls x "[[I" ∈ mx_g) (kk : Ex X d i (pc + 4) lo (.ref M.1 :: st) M1 r M2) : Ex X d i pc lo (.int k :: .int n :: st) M r M2 := by
  unfold nwM at h
  split at h
  · cases h
  rename_i hn
  simp only [not_or] at hn
  obtain ⟨hn0, hk0, hn1, hk1⟩ := hn
  have hM1 := (Option.some.inj h).symm
  obtain ⟨k1, k2, k3⟩ := kk
  have q1 : M1.1 = M.1 + 1 + n.toNatClampNeg := by rw [hM1]
  have q2 : M1.2.1 = M.2.1 + (n.toNatClampNeg + n.toNatClampNeg * k.toNatClampNeg) := by rw [hM1]
  rw [q1] at k1
  rw [q2] at k2
  refine ⟨by omega, by omega, ?_⟩
  intro E p e R s m args below meth c Q H locs cells slots ls C h1 h2 h3 h4 hH hS hlv hr
  obtain ⟨hx, hb, hml, hown, hts, hT, hX, hnm, hbs, hXE⟩ := id C
  intro T hT' Xs
  obtain ⟨vm₁, cA, comp, hW, fA, fC, XF, step⟩ := mn_step Xs hx hown (hts _ hw) (hT.2.2.2.2.1) (hts (.arrayClass .int) (mx_mem (by decide +kernel) rfl)) (g := F0 m pc ls (.int k :: .int n :: st)) rfl (by rw [hb]; exact hd) rfl hn0 hk0 (by omega) (by omega) (by omega) (by omega)
  have hA4 : cA = ev_A E 4 := Option.some.inj (fA.symm.trans (hT.1.2 4 _ (mx_t4 E)).2)
  have hA0 : comp = ev_A E 0 := Option.some.inj (fC.symm.trans (hT.1.2 0 _ (mx_t0 E)).2)
  subst hA4
  subst hA0
  obtain ⟨g1, g2, g3, g4, g5, g6⟩ := mn_facts (T.setVm vm₁) (ev_A E 4) (ev_A E 0) n.toNatClampNeg k.toNatClampNeg n.toNatClampNeg
  have hTh : (T.setVm vm₁).heap = H := hT'
  rw [hTh] at g1 g2 g5 g6
  generalize hF : mn_S (T.setVm vm₁) (ev_A E 4) (ev_A E 0) n.toNatClampNeg k.toNatClampNeg n.toNatClampNeg = F at XF step g1 g2 g3 g4 g5 g6
  have hHn : mx_H E M1 F.heap := by
    obtain ⟨z1, z2, z3⟩ := hH
    refine ⟨by rw [q1, g1, z1], by rw [q1]; omega, fun a y hy => ?_⟩
    rw [hM1] at hy
    have hy : (if a = M.1 then some (mx_ra 4 n.toNatClampNeg (fun j => if j < n.toNatClampNeg then some (M.1 + 1 + j) else none)) else if M.1 < a ∧ a < M.1 + 1 + n.toNatClampNeg then some (mx_ia k.toNatClampNeg (fun _ => 0)) else M.2.2 a) = some y := hy
    by_cases e1 : a = M.1
    · rw [if_pos e1] at hy
      cases hy
      refine ⟨by omega, by rw [q1]; omega, ?_⟩
      show F.heap[a]? = some (vp_cell _ _)
      rw [e1, ← z1, g2]
      rfl
    · rw [if_neg e1] at hy
      by_cases e2 : M.1 < a ∧ a < M.1 + 1 + n.toNatClampNeg
      · rw [if_pos e2] at hy
        cases hy
        refine ⟨by omega, by rw [q1]; omega, ?_⟩
        show F.heap[a]? = some (vp_cell _ _)
        have e3 : a = H.size + 1 + (a - M.1 - 1) := by omega
        rw [e3, g6 _ (by omega)]
        show some (mn_in (ev_A E 0) _) = some (vp_cell (ev_A E 0) (k.toNatClampNeg, .inl fun _ => 0))
        rw [vp_cell_i, ← arrV_new]
        rfl
      · rw [if_neg e2] at hy
        obtain ⟨w1, w2, w3⟩ := z3 a y hy
        exact ⟨w1, by rw [q1]; omega, w3.kept (g5 a (by show a < H.size; omega))⟩
  have hbase : ev_b E ≤ H.size := by rw [hH.1]; exact hH.2.1
  obtain ⟨t, a1, b1⟩ := k3 E p e R s m args below meth c Q F.heap _ (cells + 1 + n.toNatClampNeg) (slots + n.toNatClampNeg + n.toNatClampNeg * k.toNatClampNeg) ls C h1 h2 (by rw [q1]; omega) (by rw [q2]; omega) hHn ⟨by rw [g1]; have := hS.1; omega, fun q c1 c2 => (g5 q (Nat.lt_of_lt_of_le c1 hS.1)).trans (hS.2.1 q c1 c2), fun q hq => by
      rcases List.mem_append.mp hq with h9 | h9
      · exact hS.2.2 q h9
      · obtain ⟨j, -, hj⟩ := List.mem_map.mp h9
        rw [← hj]
        show ev_b E ≤ T.heap.size
        rw [hT']
        exact hbase⟩ hlv (by
      intro pc' ls' H' locs' c1 c2 c3
      refine W.cs ?_ ?_ (hr pc' ls' H' locs' c1 c2 c3)
      · rw [q1]; omega
      · rw [q2]; omega) F rfl XF
  refine ⟨t, step t ?_, b1⟩
  have e9 : T.heap.size = M.1 := by rw [hT']; exact hH.1
  rw [e9]
  exact a1
