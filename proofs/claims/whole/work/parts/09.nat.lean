/-! the JDK's own: arraycopy, clone, Math; casts; what lies outside -/
theorem mx_mem {w : Cond} (h : w ∈ lw_tbl) (g : goodWord w = true) : w ∈ mx_g := List.mem_filter.mpr ⟨h, g⟩
theorem mx_nn (z : Int32) (hz : ¬ z < 0) : z.toInt = (z.toNatClampNeg : Int) := by
  have hz0 : (0 : Int) ≤ z.toInt := by
    have := Int32.not_lt.mp hz
    simpa using Int32.le_iff_toInt_le.mp this
  show z.toInt = ((z.toInt.toNat : Nat) : Int)
  omega
section MXR
variable {X : XV} {d : Nat} {i : MI} {pc : Nat} {lo : List (Nat × Value)} {st : List Value} {M M2 : Mem} {r : Option Value}
theorem ex_copy {x a0 a n0 n1 : Nat} {f g : Nat → Int32} {sp dp n : Int32} (hd : decode (mi_c i) pc = .ok (.invokestatic x, 3)) (hw : Cond.methodLink (mi_y i).cls x arraycopyName ∈ mx_g) (hd1 : 1 ≤ d) (hst : (st.map fun v => v.category).sum ≤ 8)
    (ha0 : M.2.2 a0 = some (mx_ia n0 f)) (ha : M.2.2 a = some (mx_ia n1 g)) (g1 : ¬ sp < 0) (g2 : ¬ dp < 0) (g3 : ¬ n < 0) (g4 : sp.toNatClampNeg + n.toNatClampNeg ≤ n0) (g5 : dp.toNatClampNeg + n.toNatClampNeg ≤ n1)
    (kk : Ex X d i (pc + 3) lo st (mx_set M a (mx_ia n1 (va_cpy f g sp.toNatClampNeg dp.toNatClampNeg n.toNatClampNeg))) r M2) : Ex X d i pc lo (.int n :: .int dp :: .ref a :: .int sp :: .ref a0 :: st) M r M2 := by
  refine ⟨kk.1, kk.2.1, ?_⟩
  intro E p e R s m args below meth c Q H locs cells slots ls C h1 h2 h3 h4 hH hS hlv hr
  obtain ⟨hx, hb, hml, hown, hts, hT, hX, hnm, hbs, hXE⟩ := id C
  have hfw : nativeFrameWords "java/lang/System" "arraycopy" 5 + 11 ≤ 80 := by decide
  have hc0 : H[a0]? = some (vp_cell (ev_A E 0) (n0, .inl f)) := mx_at hH ha0
  have hc1 : H[a]? = some (vp_cell (ev_A E 0) (n1, .inl g)) := mx_at hH ha
  obtain ⟨-, k0, hk0, cm0, hkk0⟩ := (hT.1.2 0 _ (mx_t0 E)).1 n0 (fun j => .int (f j))
  obtain ⟨-, k1, hk1, cm1, hkk1⟩ := (hT.1.2 0 _ (mx_t0 E)).1 n1 (fun j => .int (g j))
  intro T hT' X
  obtain ⟨vm', X', step⟩ := X.arraycopy hx hown (hts _ hw) (hts (.native arraycopyName) (mx_mem (by decide +kernel) (by decide +kernel))) (hts (.static arraycopyName) (mx_mem (by decide +kernel) (by decide +kernel))) (hts (.initialized "java/lang/System") (mx_mem (by decide +kernel) (by decide +kernel))) (src := a0) (dst := a) (cs := vp_cell (ev_A E 0) (n0, .inl f)) (cd := vp_cell (ev_A E 0) (n1, .inl g)) (srcPos := sp) (destPos := dp) (n := n) (by rw [hT']; exact hc0) (by rw [hT']; exact hc1)
    (fun _ h => by cases h) (fun _ h => by cases h) (fun h => by cases h) (fun h => by cases h) hk0 hk1 hkk0 hkk1 (by simp [refKind]) g1 g2 g3
    (by rw [mx_nn sp g1, mx_nn n g3]; show ¬ _ > ((arrV (ev_A E 0) n0 (fun j => .int (f j))).slots.size : Int); rw [arrV_size]; omega)
    (by rw [mx_nn dp g2, mx_nn n g3]; show ¬ _ > ((arrV (ev_A E 0) n1 (fun j => .int (g j))).slots.size : Int); rw [arrV_size]; omega)
    (fun vm₁ _ j hj => by
      have e9 : (vp_cell (ev_A E 0) (n0, .inl f)).slots.getD (sp.toNatClampNeg + j) .null = .int (f (sp.toNatClampNeg + j)) := by
        show (arrV (ev_A E 0) n0 (fun j => .int (f j))).slots.getD _ _ = _
        rw [Array.getD_eq_getD_getElem?, arrV_read _ _ (by omega)]
        rfl
      refine ⟨?_, ?_⟩
      · rw [e9]
        rfl
      · rw [e9]
        exact trivial)
    (g := F0 m pc ls (.int n :: .int dp :: .ref a :: .int sp :: .ref a0 :: st)) rfl (by rw [hml]; exact hlv.1) (rest := st) rfl (by rw [hb]; exact hd) (by omega) (by show 2 * 0 + _ + _ ≤ _; omega)
  have e1 : copied (vp_cell (ev_A E 0) (n0, .inl f)) (vp_cell (ev_A E 0) (n1, .inl g)) sp dp n = vp_cell (ev_A E 0) (n1, .inl (va_cpy f g sp.toNatClampNeg dp.toNatClampNeg n.toNatClampNeg)) := va_copied (fun z => .int z) (ev_A E 0) (ev_A E 0) f g g4
  rw [e1] at X' step
  have hl : a < H.size := (Array.getElem?_eq_some_iff.mp hc1).1
  generalize hH1 : H.setIfInBounds a (vp_cell (ev_A E 0) (n1, .inl (va_cpy f g sp.toNatClampNeg dp.toNatClampNeg n.toNatClampNeg))) = H1
  have hheap : ((T.setVm vm').setCell a (vp_cell (ev_A E 0) (n1, .inl (va_cpy f g sp.toNatClampNeg dp.toNatClampNeg n.toNatClampNeg)))).heap = H1 := by rw [← hH1, ← hT']; rfl
  have oq : ∀ q : Nat, q ≠ a → H1[q]? = H[q]? := fun q hq => by rw [← hH1]; simp [Array.getElem?_setIfInBounds, Ne.symm hq]
  have z : H1.size = H.size := by rw [← hH1]; simp
  have hself : H1[a]? = some (vp_cell (ev_A E 0) (n1, .inl (va_cpy f g sp.toNatClampNeg dp.toNatClampNeg n.toNatClampNeg))) := by rw [← hH1]; simp [Array.getElem?_setIfInBounds, hl]
  have hA := (hH.2.2 a _ ha).1
  obtain ⟨t, a1, b1⟩ := kk.2.2 E p e R s m args below meth c Q H1 _ cells slots ls C h1 h2 h3 h4 (mx_wr hH ha z oq hself) ⟨by rw [z]; exact hS.1, fun q q1 q2 => by
      rw [oq q (fun e9 => q2 (by rw [e9]; exact hA))]
      exact hS.2.1 q q1 q2, fun q hq => by
      rcases List.mem_append.mp hq with h | h
      · exact hS.2.2 q h
      · obtain ⟨z9, -, hz⟩ := List.mem_map.mp h
        rw [← hz]
        exact hA⟩ hlv hr _ hheap X'
  exact ⟨t, step t a1, b1⟩
/-- clone of an int array -/
theorem ex_clone {x a n : Nat} {f : Nat → Int32} (hd : decode (mi_c i) pc = .ok (.invokevirtual x, 3)) (hw : Cond.methodLink (mi_y i).cls x ⟨"[I", "clone", "()Ljava/lang/Object;"⟩ ∈ mx_g) (hd1 : 1 ≤ d) (hst : (st.map fun v => v.category).sum ≤ 8) (ha : M.2.2 a = some (mx_ia n f))
    (kk : Ex X d i (pc + 3) lo (.ref M.1 :: st) (mx_new M n (mx_ia n f)) r M2) : Ex X d i pc lo (.ref a :: st) M r M2 := by
  obtain ⟨k1, k2, k3⟩ := kk
  have k1 : M.1 + 1 ≤ M2.1 := k1
  have k2 : M.2.1 + n ≤ M2.2.1 := k2
  refine ⟨by omega, by omega, ?_⟩
  intro E p e R s m args below meth c Q H locs cells slots ls C h1 h2 h3 h4 hH hS hlv hr
  obtain ⟨hx, hb, hml, hown, hts, hT, hX, hnm, hbs, hXE⟩ := id C
  have hty := hT.1.2 0 _ (mx_t0 E)
  have hnm2 : s.vm.findClass "[I" = some (ev_A E 0) := hty.2
  obtain ⟨c0, t0', f1, f2, f3⟩ := Cond.castable_spec (va_Nw.use (A := args) rfl hT.2.2.2.2.2.1)
  cases hnm2.symm.trans f1
  intro T hT' X
  have hcellT : T.heap[a]? = some (vp_cell (ev_A E 0) (n, .inl f)) := by rw [hT']; exact mx_at hH ha
  have hsz : (vp_cell (ev_A E 0) (n, .inl f)).slots.size = n := arrV_size _ _ _
  have hcellE : ({ cls := (vp_cell (ev_A E 0) (n, .inl f)).cls, slots := (vp_cell (ev_A E 0) (n, .inl f)).slots } : Cell) = vp_cell (ev_A E 0) (n, .inl f) := rfl
  obtain ⟨-, kA, hkA, comp, hkind⟩ := State.isArrayOf_alike X.warmed.alike (hty.1 0 (fun _ => .null))
  obtain ⟨-, kS, hkS, compS, hkindS⟩ := hty.1 0 (fun _ => .null)
  obtain ⟨vm', X', step⟩ := X.cloneArray hx hown (hts _ hw) (hts (.sameMethod "[I" "java/lang/Object" "clone" "()Ljava/lang/Object;") (mx_mem (by decide +kernel) (by decide +kernel))) (hts (.native ⟨"java/lang/Object", "clone", "()Ljava/lang/Object;"⟩) (mx_mem (by decide +kernel) (by decide +kernel))) (hts (.instanceMethod ⟨"java/lang/Object", "clone", "()Ljava/lang/Object;"⟩) (mx_mem (by decide +kernel) (by decide +kernel))) (hts (.selects "[I" ⟨"[I", "clone", "()Ljava/lang/Object;"⟩ ⟨"java/lang/Object", "clone", "()Ljava/lang/Object;"⟩) (mx_mem (by decide +kernel) (by decide +kernel))) (a := a) (cell := vp_cell (ev_A E 0) (n, .inl f)) hcellT (fun k h => by cases h) (fun h => by cases h) hnm2 f2 f3
    (fun j v hv => by
      have hk' : T.vm.classes[ev_A E 0]? = some kA := hkA
      have hj : j < n := by
        have := (Array.getElem?_eq_some_iff.mp hv).1
        rw [hsz] at this
        exact this
      have hv2 : v = .int (f j) := by
        have h9 : (arrV (ev_A E 0) n (fun j => .int (f j))).slots[j]? = some v := hv
        rw [arrV_read _ _ hj] at h9
        exact (Option.some.inj h9).symm
      subst hv2
      show T.fitsSlot (ev_A E 0) _ j _ = true
      simp [State.fitsSlot, State.slotType?, hk', hkind]
      rfl)
    (g := F0 m pc ls (.ref a :: st)) rfl (by rw [hml]; exact hlv.1) rfl (by rw [hb]; exact hd) (by omega) (by show 2 * 0 + _ + 14 ≤ _; omega) (by omega) (by rw [hsz]; omega) (hloader := Vm.clonesLoader_of_array hkS hkindS)
  rw [hcellE, hsz] at X'
  generalize hH1 : H.push (vp_cell (ev_A E 0) (n, .inl f)) = H1
  have z1 : H1.size = H.size + 1 := by rw [← hH1, Array.size_push]
  have e1 : H1[H.size]? = some (vp_cell (ev_A E 0) (n, .inl f)) := by rw [← hH1, Array.getElem?_push_size]
  have o4 : ∀ q : Nat, q < H.size → H1[q]? = H[q]? := fun q hq => by rw [← hH1, Array.getElem?_push, if_neg (Nat.ne_of_lt hq)]
  have hheap : ((T.setVm vm').pushCell (vp_cell (ev_A E 0) (n, .inl f))).heap = H1 := by rw [← hH1, ← hT']; rfl
  have hnew : mx_H E (mx_new M n (mx_ia n f)) H1 := mx_nw hH z1 o4 e1
  obtain ⟨t, a1, b1⟩ := k3 E p e R s m args below meth c Q H1 locs (cells + 1) (slots + n) ls C h1 h2 (by show cells + 1 + (M2.1 - (M.1 + 1)) ≤ _; omega) (by show slots + n + (M2.2.1 - (M.2.1 + n)) ≤ _; omega) hnew (mx_Sn hS z1 o4) hlv (by
    intro pc' ls' H' locs' g1 g2 g3
    refine W.cs ?_ ?_ (hr pc' ls' H' locs' g1 g2 g3)
    · show cells + 1 + (M2.1 - (M.1 + 1)) = _; omega
    · show slots + n + (M2.2.1 - (M.2.1 + n)) = _; omega) _ hheap X'
  have hsz0 : T.heap.size = M.1 := by rw [hT']; exact hH.1
  refine ⟨t, step t ?_, b1⟩
  rw [← hcellE] at a1
  rw [hsz0]
  exact a1
theorem ex_cast {x a : Nat} {y : vp_A} (hd : decode (mi_c i) pc = .ok (.checkcast x, 3)) (hw : Cond.classLink (mi_y i).cls x "[I" ∈ mx_g) (ha : M.2.2 a = some (.inl (0, y))) (kk : Ex X d i (pc + 3) lo (.ref a :: st) M r M2) : Ex X d i pc lo (.ref a :: st) M r M2 := by
  refine ⟨kk.1, kk.2.1, ?_⟩
  intro E p e R s m args below meth c Q H locs cells slots ls C h1 h2 h3 h4 hH hS hlv hr
  obtain ⟨hx, hb, hml, hown, hts, hT, hX, hnm, hbs, hXE⟩ := id C
  exact va_castA hx hb hown (hts _ hw) (mx_P1 hH ha) 0 rfl (hT.1.2 0 _ (mx_t0 E)).2 hd (kk.2.2 E p e R s m args below meth c Q H locs cells slots ls C h1 h2 h3 h4 hH hS hlv hr)
theorem ex_mmax {x : Nat} {u v : Int32} (hd : decode (mi_c i) pc = .ok (.invokestatic x, 3)) (hw : Cond.methodLink (mi_y i).cls x Lib.Math.max.name ∈ mx_g) (hd1 : 1 ≤ d) (hst : (st.map fun v => v.category).sum ≤ 8) (kk : Ex X d i (pc + 3) lo (.int (if u < v then v else u) :: st) M r M2) : Ex X d i pc lo (.int v :: .int u :: st) M r M2 := by
  refine ⟨kk.1, kk.2.1, ?_⟩
  intro E p e R s m args below meth c Q H locs cells slots ls C h1 h2 h3 h4 hH hS hlv hr
  obtain ⟨hx, hb, hml, hown, hts, hT, hX, hnm, hbs, hXE⟩ := id C
  exact va_mmax hx hb (hml.trans hlv.1.symm) hown (hts _ hw) (hts (.static Lib.Math.max.name) (mx_mem (by decide +kernel) (by decide +kernel))) (hts (.initialized "java/lang/Math") (mx_mem (by decide +kernel) (by decide +kernel))) (hts (.code Lib.Math.max.name Lib.Math.max.code 2 (some .int)) (mx_mem (by decide +kernel) (by decide +kernel))) (by omega) (by omega) (by omega) (by omega) hd (kk.2.2 E p e R s m args below meth c Q H locs cells slots ls C h1 h2 h3 h4 hH hS hlv hr)
theorem ex_mmin {x : Nat} {u v : Int32} (hd : decode (mi_c i) pc = .ok (.invokestatic x, 3)) (hw : Cond.methodLink (mi_y i).cls x Lib.Math.min.name ∈ mx_g) (hd1 : 1 ≤ d) (hst : (st.map fun v => v.category).sum ≤ 8) (kk : Ex X d i (pc + 3) lo (.int (if v < u then v else u) :: st) M r M2) : Ex X d i pc lo (.int v :: .int u :: st) M r M2 := by
  refine ⟨kk.1, kk.2.1, ?_⟩
  intro E p e R s m args below meth c Q H locs cells slots ls C h1 h2 h3 h4 hH hS hlv hr
  obtain ⟨hx, hb, hml, hown, hts, hT, hX, hnm, hbs, hXE⟩ := id C
  exact va_mmin hx hb (hml.trans hlv.1.symm) hown (hts _ hw) (hts (.static Lib.Math.min.name) (mx_mem (by decide +kernel) (by decide +kernel))) (hts (.initialized "java/lang/Math") (mx_mem (by decide +kernel) (by decide +kernel))) (hts (.code Lib.Math.min.name Lib.Math.min.code 2 (some .int)) (mx_mem (by decide +kernel) (by decide +kernel))) (by omega) (by omega) (by omega) (by omega) hd (kk.2.2 E p e R s m args below meth c Q H locs cells slots ls C h1 h2 h3 h4 hH hS hlv hr)
theorem ex_mabs {x : Nat} {u : Int32} (hd : decode (mi_c i) pc = .ok (.invokestatic x, 3)) (hw : Cond.methodLink (mi_y i).cls x Lib.Math.abs.name ∈ mx_g) (hd1 : 1 ≤ d) (hst : (st.map fun v => v.category).sum ≤ 8) (kk : Ex X d i (pc + 3) lo (.int (if 0 ≤ u then u else 0 - u) :: st) M r M2) : Ex X d i pc lo (.int u :: st) M r M2 := by
  refine ⟨kk.1, kk.2.1, ?_⟩
  intro E p e R s m args below meth c Q H locs cells slots ls C h1 h2 h3 h4 hH hS hlv hr
  obtain ⟨hx, hb, hml, hown, hts, hT, hX, hnm, hbs, hXE⟩ := id C
  exact va_mabs hx hb (hml.trans hlv.1.symm) hown (hts _ hw) (hts (.static Lib.Math.abs.name) (mx_mem (by decide +kernel) (by decide +kernel))) (hts (.initialized "java/lang/Math") (mx_mem (by decide +kernel) (by decide +kernel))) (hts (.code Lib.Math.abs.name Lib.Math.abs.code 1 (some .int)) (mx_mem (by decide +kernel) (by decide +kernel))) (by omega) (by omega) (by omega) (by omega) hd (kk.2.2 E p e R s m args below meth c Q H locs cells slots ls C h1 h2 h3 h4 hH hS hlv hr)
/-- Object's own constructor -/
theorem ex_obj {x a : Nat} (hd : decode (mi_c i) pc = .ok (.invokespecial x, 3)) (hw : Cond.methodLink (mi_y i).cls x Lib.objectInit ∈ mx_g) (hd1 : 1 ≤ d) (hst : (st.map fun v => v.category).sum ≤ 8) (kk : Ex X d i (pc + 3) lo st M r M2) : Ex X d i pc lo (.ref a :: st) M r M2 := by
  refine ⟨kk.1, kk.2.1, ?_⟩
  intro E p e R s m args below meth c Q H locs cells slots ls C h1 h2 h3 h4 hH hS hlv hr
  obtain ⟨hx, hb, hml, hown, hts, hT, hX, hnm, hbs, hXE⟩ := id C
  exact W.objInit hx hb hown (hts _ hw) (hts (.instanceMethod Lib.objectInit) (mx_mem (by decide +kernel) (by decide +kernel))) (hts (.code Lib.objectInit ⟨#[0xb1]⟩ 1 none) (mx_mem (by decide +kernel) (by decide +kernel))) rfl (by rw [hml]; exact hlv.1) rfl hd (by omega) (by show 2 * 0 + _ + 12 ≤ _; omega) (kk.2.2 E p e R s m args below meth c Q H locs cells slots ls C h1 h2 h3 h4 hH hS hlv hr)
end MXR
