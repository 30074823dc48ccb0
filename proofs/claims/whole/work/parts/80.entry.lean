/-! the law's entry: out of the Statement's start the world of the pure machine -/
def en_tm (i : Nat) : Term := if i = 0 then .string "MachinesDream$Tape" 56 else .string "MachinesDream$Tape" 76
theorem en_e0 : ∀ j, j < 138 → (flatC (Jvm.Cond.and given_1 narrow_1))[44 + j]? = some (Cond.eq (.elem (.field (.string "MachinesDream$Tape" 56) "java/lang/String" "value" "[B") (.int (Int32.ofNat j))) (.int (mx_wd.getD j 0))) := by decide +kernel
theorem en_e1 : ∀ j, j < 11 → (flatC (Jvm.Cond.and given_1 narrow_1))[186 + j]? = some (Cond.eq (.elem (.field (.string "MachinesDream$Tape" 76) "java/lang/String" "value" "[B") (.int (Int32.ofNat j))) (.int (mx_sy.getD j 0))) := by decide +kernel
theorem en_el : ∀ i, i < 2 → ∀ j, j < mx_len.getD i 0 → Cond.eq (.elem (.field (en_tm i) "java/lang/String" "value" "[B") (.int (Int32.ofNat j))) (.int (([mx_wd, mx_sy].getD i []).getD j 0)) ∈ flatC (Jvm.Cond.and given_1 narrow_1) := by
  intro i hi j hj
  have h1 : i = 0 ∨ i = 1 := by omega
  rcases h1 with rfl | rfl
  · exact List.mem_of_getElem? (en_e0 j hj)
  · exact List.mem_of_getElem? (en_e1 j hj)
theorem en_ex : ∀ i, i < 2 → Cond.exactly (en_tm i) "java/lang/String" ∈ flatC (Jvm.Cond.and given_1 narrow_1) := by decide +kernel
theorem en_co : ∀ i, i < 2 → Cond.eq (.field (en_tm i) "java/lang/String" "coder" "B") (.int 0) ∈ flatC (Jvm.Cond.and given_1 narrow_1) := by decide +kernel
theorem en_ar : ∀ i, i < 2 → Cond.arrayOf (.field (en_tm i) "java/lang/String" "value" "[B") .byte ∈ flatC (Jvm.Cond.and given_1 narrow_1) := by decide +kernel
theorem en_le : ∀ i, i < 2 → Cond.eq (.length (.field (en_tm i) "java/lang/String" "value" "[B")) (.int (Int32.ofNat (mx_len.getD i 0))) ∈ flatC (Jvm.Cond.and given_1 narrow_1) := by decide +kernel
theorem en_ne : Cond.not (Cond.eq (en_tm 0) (en_tm 1)) ∈ flatC (Jvm.Cond.and given_1 narrow_1) := by decide +kernel
theorem en_pw : ∀ j, j < 4 → Cond.eq (.elem (.static "MachinesDream" "POWERS" "[I") (.int (Int32.ofNat j))) (.int (powV j)) ∈ flatC (Jvm.Cond.and given_1 narrow_1) := by decide +kernel
theorem en_over {s : State} {args : Array Value} (h : (Cond.arrayOver (.array .int)).before args s = true) :
    ∃ (comp c : ClassId) (k : Class), s.vm.findClass "[I" = some comp ∧ s.vm.classes[c]? = some k ∧ k.kind = .array comp (.array .int) ∧ s.vm.findClass ("[" ++ (FieldType.array .int).toString) = some c := by
  have h : (Cond.arrayOver (.array .int)).holds args s none s [] = true := h
  simp only [Cond.holds, Cond.value, beq_iff_eq] at h
  cases hc : s.vm.findClass (FieldType.array .int).toString with
  | none => simp [hc] at h
  | some comp =>
    simp only [hc, Option.bind_some, Option.bind_eq_some_iff, Option.map_eq_some_iff] at h
    obtain ⟨c, hi, k, hk, hb⟩ := h
    obtain ⟨hlt, hp, -⟩ := Array.findIdx?_eq_some_iff_getElem.mp hi
    have hkk : s.vm.classes[c] = k := (Array.getElem?_eq_some_iff.mp hk).2
    rw [hkk] at hp
    cases hkind : k.kind with
    | array component ty =>
      rw [hkind] at hb hp
      simp at hb hp
      exact ⟨comp, c, k, hc, hk, by rw [hkind, hp, hb.1], hb.2⟩
    | _ => rw [hkind] at hb; simp at hb
theorem en_prim {s : State} {args : Array Value} {ty : FieldType} (hty : ty = .int ∨ ty = .long ∨ ty = .boolean) (h : (Cond.arrayClass ty).before args s = true) : ∃ cA : ClassId, ArrOfT s cA ty ∧ va_RA s cA ty := by
  obtain ⟨c, k, comp, h1, h2, h3⟩ := Cond.arrayClass_spec (show (Cond.arrayClass ty).holds args s none s [] = true from h)
  refine ⟨c, fun n z => ⟨fun k h => (by cases h), k, h2, comp, h3⟩, ?_⟩
  rcases hty with rfl | rfl | rfl <;> exact h1
theorem en_obj {s : State} {args : Array Value} {C : String} (h : (Cond.arrayOver (.object C)).before args s = true) : ∃ cA : ClassId, ArrOfT s cA (.object C) ∧ va_RA s cA (.object C) := by
  obtain ⟨comp, c, k, h1, h2, h3, h4, h5⟩ := Cond.arrayOver_spec (show (Cond.arrayOver (.object C)).holds args s none s [] = true from h)
  exact ⟨c, fun n z => ⟨fun k h => (by cases h), k, h3, comp, h4⟩, k, comp, h3, h4, h1, h5⟩
theorem en_arr {s : State} {args : Array Value} (h : (Cond.arrayOver (.array .int)).before args s = true) : ∃ cA : ClassId, ArrOfT s cA (.array .int) ∧ va_RA s cA (.array .int) := by
  obtain ⟨comp, c, k, h1, h2, h3, h4⟩ := en_over h
  exact ⟨c, fun n z => ⟨fun k h => (by cases h), k, h2, comp, h3⟩, h4⟩
theorem en_kn {s : State} {args : Array Value} (hts : ∀ w ∈ mx_g, w.before args s = true) {ci : Nat} {C : String} {T : u_T} {N : Nat} (hc : mx_cl[ci]? = some (C, T, N)) (hi : Cond.instantiable C N ∈ mx_g) : ∃ (cC : ClassId) (iS : Nat → Nat), u_Kn s C T N cC iS :=
  u_known hts (mx_cls hc).1 (hts _ hi)
theorem en_in (ci : Nat) (C : String) (T : u_T) (N : Nat) (hc : mx_cl[ci]? = some (C, T, N)) : Cond.instantiable C N ∈ mx_g := by
  match ci, hc with
  | 0, h => cases h; exact mx_mem (by decide +kernel) rfl
  | 1, h => cases h; exact mx_mem (by decide +kernel) rfl
  | 2, h => cases h; exact mx_mem (by decide +kernel) rfl
  | 3, h => cases h; exact mx_mem (by decide +kernel) rfl
  | 4, h => cases h; exact mx_mem (by decide +kernel) rfl
  | 5, h => cases h; exact mx_mem (by decide +kernel) rfl
  | 6, h => cases h; exact mx_mem (by decide +kernel) rfl
  | 7, h => cases h; exact mx_mem (by decide +kernel) rfl
  | 8, h => cases h; exact mx_mem (by decide +kernel) rfl
  | 9, h => cases h; exact mx_mem (by decide +kernel) rfl
  | 10, h => cases h; exact mx_mem (by decide +kernel) rfl
  | 11, h => cases h; exact mx_mem (by decide +kernel) rfl
  | n + 12, h => simp [mx_cl] at h
theorem en_D {s : State} {args : Array Value} (hts : ∀ w ∈ mx_g, w.before args s = true) : ∃ D : va_G, ∀ (k : Nat) (q : vw_C), mx_cl[k]? = some q → u_Kn s q.1 q.2.1 q.2.2 (D.1 k) (D.2 k) := by
  have h : ∀ k : Nat, ∃ z : ClassId × (Nat → Nat), ∀ q : vw_C, mx_cl[k]? = some q → u_Kn s q.1 q.2.1 q.2.2 z.1 z.2 := by
    intro k
    cases hq : mx_cl[k]? with
    | none => exact ⟨(0, fun _ => 0), fun q h => by cases h⟩
    | some q =>
      obtain ⟨C, T, N⟩ := q
      obtain ⟨cC, iS, hk⟩ := en_kn hts hq (en_in k C T N hq)
      exact ⟨(cC, iS), fun q h => by cases h; exact hk⟩
  obtain ⟨z, hz⟩ := Classical.axiomOfChoice h
  exact ⟨(fun k => (z k).1, fun k => (z k).2), fun k q hq => hz k q hq⟩
/-- WHAT IS LEFT TO SHOW: the law's body, in the pure machine -/
def LawRuns : Prop := ∀ X : XV, X.2.1 ≤ 3072 → ∀ n0 : Nat, ∃ M2 : Mem, Ex X 200 mL_law 0 [(0, .ref X.1)] [] (n0, 0, fun _ => none) (some (.int 1)) M2 ∧ M2.1 - n0 ≤ 600000 ∧ M2.2.1 ≤ 7302250
theorem en_start (HL : LawRuns) {p : Program} {e : Env} {s : State} {m : MethodId} {below : List Frame} {meth : Method} {c : Code} (l : Launch) {b L : Nat} {xs : Nat → Int32} (hL : L ≤ 3072) (hnm : meth.name = "law") (hx : p.tables.exec = Jvm.exec) (hb : c.code = code) (hr : meth.sig.returnType = ret) (hml : c.maxLocals = 4) (hown : s.vm.findClass "MachinesDreamLaw" = some m.cls) (hts0 : ∀ w ∈ lw_tbl, w.before #[Value.ref b] s = true) (hX : va_X b L xs s s.heap) (hbl : b < s.heap.size) (hlocks : meth.locks = false) (hgv : (Jvm.Cond.and given_1 narrow_1).before #[Value.ref b] s = true)
    (Q : State → Prop) (hQ : ∀ (pc : Nat) (ls : Array Slot) (H : Heap), decode code pc = .ok (.ireturn, 1) → W p l e room_1 s m #[Value.ref b] below meth c H [] 600000 7302250 Q (F0 m pc ls [.int 1])) :
    W p l e room_1 s m #[Value.ref b] below meth c s.heap [] 0 0 Q (entryFrame m ([Value.ref b] : List Value).toArray 4) := by
  have hs := flat_of_before _ hgv
  have hA : ∀ a : Nat, a < s.heap.size → ¬ s.heap.size ≤ a := fun a h => Nat.not_le.mpr h
  have hts : ∀ w ∈ mx_g, w.before #[Value.ref b] s = true := fun w hw => hts0 w (List.mem_filter.mp hw).1
  obtain ⟨D, hD⟩ := en_D hts
  obtain ⟨A0, hA0⟩ := en_prim (Or.inl rfl) (hts0 (.arrayClass .int) (by decide +kernel))
  obtain ⟨A1, hA1⟩ := en_prim (Or.inr (Or.inl rfl)) (hts0 (.arrayClass .long) (by decide +kernel))
  obtain ⟨A5, hA5⟩ := en_prim (Or.inr (Or.inr rfl)) (hts0 (.arrayClass .boolean) (by decide +kernel))
  have hov9 : (Cond.arrayOver (.object RX9)).before #[Value.ref b] s = true := hts0 _ (by decide +kernel)
  have hov8 : (Cond.arrayOver (.object RX8)).before #[Value.ref b] s = true := hts0 _ (by decide +kernel)
  have hovA : (Cond.arrayOver (.array .int)).before #[Value.ref b] s = true := hts0 _ (by decide +kernel)
  obtain ⟨A2, hA2⟩ := en_obj hov9
  obtain ⟨A3, hA3⟩ := en_obj hov8
  obtain ⟨A4, hA4⟩ := en_arr hovA
  obtain ⟨adK, adV, hS2, hev⟩ := vk_Sof (args := #[Value.ref b]) (s := s) (N := 2) (tm := en_tm) (len := mx_len) (byt := [mx_wd, mx_sy]) (A := fun q => s.heap.size ≤ q) (by decide +kernel) (fun i hi => hs _ (en_ex i hi)) (fun i hi => hs _ (en_co i hi)) (fun i hi => hs _ (en_ar i hi)) (fun i hi => hs _ (en_le i hi)) (fun i hi j hj => hs _ (en_el i hi j hj))
    (fun i j hi hj hij => by
      have h1 : i = 0 ∨ i = 1 := by omega
      have h2 : j = 0 ∨ j = 1 := by omega
      rcases h1 with rfl | rfl <;> rcases h2 with rfl | rfl
      · exact absurd rfl hij
      · exact Or.inl (hs _ en_ne)
      · exact Or.inr (hs _ en_ne)
      · exact absurd rfl hij) hA
  obtain ⟨tP, hPe, hPT⟩ := va_Tof (args := #[Value.ref b]) (s := s) (tm := .static "MachinesDream" "POWERS" "[I") (ty := .int) (N := 4) (f := mx_pow) (A := fun q => s.heap.size ≤ q) (by decide) (hs _ (by decide +kernel)) (va_eqt (hs (.eq (.length (.static "MachinesDream" "POWERS" "[I")) (.int 4)) (by decide +kernel))) (fun j hj => va_eqt (hs _ (en_pw j hj))) hA
  obtain ⟨ex, hex⟩ : ∃ ex : Nat → Nat, ex 0 = tP ∧ (∀ i, ex (2 + i) = if i = 0 then adK 0 else if i = 1 then adK 1 else if i = 2 then adV 0 else adV 1) := ⟨fun k => if k = 0 then tP else if k = 2 then adK 0 else if k = 3 then adK 1 else if k = 4 then adV 0 else adV 1, rfl, fun i => by
    by_cases h0 : i = 0
    · subst h0; rfl
    · by_cases h1 : i = 1
      · subst h1; rfl
      · by_cases h2 : i = 2
        · subst h2; rfl
        · show (if 2 + i = 0 then tP else if 2 + i = 2 then adK 0 else if 2 + i = 3 then adK 1 else if 2 + i = 4 then adV 0 else adV 1) = _
          rw [if_neg (by omega), if_neg (by omega), if_neg (by omega), if_neg (by omega), if_neg h0, if_neg h1, if_neg h2]⟩
  let X : XV := (b, L, xs, ex)
  let E : EV := (l, D, (fun k => if k = 0 then A0 else if k = 1 then A1 else if k = 2 then A2 else if k = 3 then A3 else if k = 4 then A4 else A5), s.heap.size, X)
  have hT : mx_T E s := by
    refine ⟨⟨hD, fun k q hq => ?_⟩, fun w hw => ?_, va_AO.of hov9, va_AO.of hov8, ?_, ?_, ?_, ?_⟩
    · match k, hq with
      | 0, hq => cases hq; exact hA0
      | 1, hq => cases hq; exact hA1
      | 2, hq => cases hq; exact hA2
      | 3, hq => cases hq; exact hA3
      | 4, hq => cases hq; exact hA4
      | 5, hq => cases hq; exact hA5
      | k + 6, hq => simp [mx_tys] at hq
    · have h1 := hts0 w (List.mem_filter.mp hw).1
      obtain ⟨a, k, x, b', rfl⟩ := mx_n_nest hw
      exact va_Nw.of rfl h1
    · exact hovA
    · exact va_Nw.of rfl (hts0 (.castable "[I" "java/lang/Cloneable") (by decide +kernel))
    · refine vk_R.of (A := #[Value.ref b]) (hts0 _ (by decide +kernel)) ?_
      have h1 := hev 0 (by decide)
      have h2 : ev_ex E 2 = adK 0 := hex.2 0
      rw [h2]
      exact h1
    · refine vk_R.of (A := #[Value.ref b]) (hts0 _ (by decide +kernel)) ?_
      have h1 := hev 1 (by decide)
      have h2 : ev_ex E 3 = adK 1 := hex.2 1
      rw [h2]
      exact h1
  have hXX : mx_X E s s.heap := by
    refine ⟨hX, ⟨hbl, hA b hbl⟩, ?_, ?_, ?_, ?_, ?_⟩
    · have h2 : ev_ex E 0 = tP := hex.1
      rw [h2]
      exact va_Zref (hts0 (.laysStatic "MachinesDream" "POWERS" "[I") (by decide +kernel)) (hts0 (.initialized "MachinesDream") (by decide +kernel)) hPe hA
    · have h2 : ev_ex E 0 = tP := hex.1
      rw [h2]
      exact hPT
    · exact va_Zof (hts0 (.laysStatic "java/lang/String" "COMPACT_STRINGS" "Z") (by decide +kernel)) (hts0 (.initialized "java/lang/String") (by decide +kernel)) (va_eqt (hs (.eq (.static "java/lang/String" "COMPACT_STRINGS" "Z") (.int 1)) (by decide +kernel))) hA
    · exact va_Zqof (hts0 (.laysStatic "jdk/internal/util/Preconditions" "SIOOBE_FORMATTER" "Ljava/util/function/BiFunction;") (by decide +kernel)) (hts0 (.initialized "jdk/internal/util/Preconditions") (by decide +kernel)) (hs (.isRef (.static "jdk/internal/util/Preconditions" "SIOOBE_FORMATTER" "Ljava/util/function/BiFunction;")) (by decide +kernel)) hA
    · have k0 : ∀ i, i < 2 → ev_ex E (2 + i) = adK i ∧ ev_ex E (4 + i) = adV i := by
        intro i hi
        have h1 : i = 0 ∨ i = 1 := by omega
        rcases h1 with rfl | rfl
        · exact ⟨hex.2 0, hex.2 2⟩
        · exact ⟨hex.2 1, hex.2 3⟩
      refine ⟨fun i hi => ?_, fun i j hi hj h => ?_⟩
      · obtain ⟨q1, q2⟩ := k0 i hi
        show va_O "java/lang/String" (ev_ex E (2 + i)) _ s s.heap ∧ va_OF _ _ _ _ (ev_ex E (2 + i)) _ s s.heap ∧ va_OF _ _ _ (.ref (ev_ex E (4 + i))) (ev_ex E (2 + i)) _ s s.heap ∧ va_T _ (ev_ex E (4 + i)) _ _ _ s s.heap
        rw [q1, q2]
        exact hS2.1 i hi
      · have h : ev_ex E (2 + i) = ev_ex E (2 + j) := h
        rw [(k0 i hi).1, (k0 j hj).1] at h
        exact hS2.2 i j hi hj h
  obtain ⟨M2, hE, hc1, hc2⟩ := HL X hL s.heap.size
  have hH : mx_H E (s.heap.size, 0, fun _ => none) s.heap := ⟨rfl, Nat.le_refl _, fun a x h => by cases h⟩
  have hl := lv_entry ([.ref b]) (n := 4) (Nat.le_of_ble_eq_true rfl)
  rw [lg_entry_eq]
  generalize (lg_sl ([.ref b]) ++ List.replicate (4 - (lg_sl ([.ref b])).length) Slot.unset).toArray = ls at hl ⊢
  have hl : lv_has ls 4 [(0, .ref b)] := hl
  have C : mx_C X E mL_law p s m #[Value.ref b] meth c := ⟨hx, hb, hml, hown, hts, hT, hXX, hnm, Nat.le_refl _, rfl⟩
  refine hE.2.2 E p e room_1 s m _ below meth c Q s.heap [] 0 0 ls C (by decide) (by decide) (by show 0 + (M2.1 - s.heap.size) ≤ 600000; omega) (by show 0 + (M2.2.1 - 0) ≤ 7302250; omega) hH va_S.rf hl ?_
  intro pc' ls' H' locs' g1 g2 g3
  refine va_forget (fun q hq => g3.2.2 q hq) ?_
  refine W.widen (k := 600000) (n := 7302250) (by show 0 + (M2.1 - s.heap.size) ≤ 600000; omega) (by show 0 + (M2.2.1 - 0) ≤ 7302250; omega) ?_
  exact hQ pc' ls' H' g1
