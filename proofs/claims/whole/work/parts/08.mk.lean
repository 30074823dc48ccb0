/-! the rules that make cells -/
def mx_dv (ci : Nat) (N : Nat) : List Value := (List.range N).map (fun k => defaultValue (mx_ty ci k))
theorem mx_dv_at {ci N j : Nat} (h : j < N) : vp_V (mx_dv ci N) j = defaultValue (mx_ty ci j) := by
  simp [vp_V, mx_dv, h]
def mx_N (own : String) (x ci N : Nat) : Prop := ∃ (C : String) (T : u_T), mx_cl[ci]? = some (C, T, N) ∧ Cond.classLink own x C ∈ mx_g ∧ Cond.instantiable C N ∈ mx_g ∧ Cond.initialized C ∈ mx_g
section MXR
variable {X : XV} {d : Nat} {i : MI} {pc : Nat} {lo : List (Nat × Value)} {st : List Value} {M M2 : Mem} {r : Option Value}
theorem ex_new {x ci N : Nat} (hd : decode (mi_c i) pc = .ok (.new x, 3)) (hN : mx_N (mi_y i).cls x ci N) (kk : Ex X d i (pc + 3) lo (.ref M.1 :: st) (mx_new M N (mx_ob ci (mx_dv ci N))) r M2) : Ex X d i pc lo st M r M2 := by
  obtain ⟨k1, k2, k3⟩ := kk
  have k1 : M.1 + 1 ≤ M2.1 := k1
  have k2 : M.2.1 + N ≤ M2.2.1 := k2
  refine ⟨by omega, by omega, ?_⟩
  intro E p e R s m args below meth c Q H locs cells slots ls C h1 h2 h3 h4 hH hS hlv hr
  obtain ⟨CC, T, hc, w1, w2, w3⟩ := hN
  obtain ⟨o1, o2, o3⟩ := mx_cls hc
  obtain ⟨hx, hb, hml, hown, hts, hT, hX, hnm, hbs, hXE⟩ := id C
  have hKn := hT.1.1 ci _ hc
  refine W.newcK hx hb hown (hts _ w1) (hts _ w2) (hts _ w3) rfl hd (by omega) (by omega) hKn.2.1 hH.1 fun H1 kC hkC e1 z1 o4 => ?_
  rw [← hH.1] at e1 z1 o4
  have hnew : mx_H E (mx_new M N (mx_ob ci (mx_dv ci N))) H1 := mx_nw hH z1 o4 ⟨_, hc, (u_born (mx_ty ci) hts o1 hKn hkC e1 o2).to (fun j hj => (mx_dv_at hj).symm)⟩
  refine k3 E p e R s m args below meth c Q H1 locs (cells + 1) (slots + N) ls C h1 h2 (by show cells + 1 + (M2.1 - (M.1 + 1)) ≤ _; omega) (by show slots + N + (M2.2.1 - (M.2.1 + N)) ≤ _; omega) hnew (mx_Sn hS z1 o4) hlv ?_
  intro pc' ls' H' locs' g1 g2 g3
  refine W.cs ?_ ?_ (hr pc' ls' H' locs' g1 g2 g3)
  · show cells + 1 + (M2.1 - (M.1 + 1)) = _; omega
  · show slots + N + (M2.2.1 - (M.2.1 + N)) = _; omega
theorem ex_newi {n : Int32} {N : Nat} (hd : decode (mi_c i) pc = .ok (.newarray .int, 2)) (hn : ¬ n < 0) (hN : n.toNatClampNeg = N) (hb : N ≤ 100000) (kk : Ex X d i (pc + 2) lo (.ref M.1 :: st) (mx_new M N (mx_ia N (fun _ => 0))) r M2) : Ex X d i pc lo (.int n :: st) M r M2 := by
  obtain ⟨k1, k2, k3⟩ := kk
  have k1 : M.1 + 1 ≤ M2.1 := k1
  have k2 : M.2.1 + N ≤ M2.2.1 := k2
  have hbb : N * 4 ≤ 536870912 := by omega
  refine ⟨by omega, by omega, ?_⟩
  intro E p e R s m args below meth c Q H locs cells slots ls C h1 h2 h3 h4 hH hS hlv hr
  obtain ⟨hx, hcb, hml, hown, hts, hT, hX, hnm, hbs, hXE⟩ := id C
  refine va_newaK (atype := .int) hx hcb (hts (.arrayClass .int) (List.mem_filter.mpr ⟨by decide +kernel, rfl⟩)) rfl hd rfl hn hN hbb (by omega) (by omega) hH.1 fun H1 cA e1 z1 o4 hAr hfc => ?_
  rw [← hH.1] at e1 z1 o4
  have hA : cA = ev_A E 0 := Option.some.inj (hfc.symm.trans (hT.1.2 0 _ (mx_t0 E)).2)
  subst hA
  have hnew : mx_H E (mx_new M N (mx_ia N (fun _ => 0))) H1 := mx_nw hH z1 o4 e1
  refine k3 E p e R s m args below meth c Q H1 locs (cells + 1) (slots + N) ls C h1 h2 (by show cells + 1 + (M2.1 - (M.1 + 1)) ≤ _; omega) (by show slots + N + (M2.2.1 - (M.2.1 + N)) ≤ _; omega) hnew (mx_Sn hS z1 o4) hlv ?_
  intro pc' ls' H' locs' g1 g2 g3
  refine W.cs ?_ ?_ (hr pc' ls' H' locs' g1 g2 g3)
  · show cells + 1 + (M2.1 - (M.1 + 1)) = _; omega
  · show slots + N + (M2.2.1 - (M.2.1 + N)) = _; omega
theorem ex_newl {n : Int32} {N : Nat} (hd : decode (mi_c i) pc = .ok (.newarray .long, 2)) (hn : ¬ n < 0) (hN : n.toNatClampNeg = N) (hb : N ≤ 100000) (kk : Ex X d i (pc + 2) lo (.ref M.1 :: st) (mx_new M N (mx_la N (fun _ => 0))) r M2) : Ex X d i pc lo (.int n :: st) M r M2 := by
  obtain ⟨k1, k2, k3⟩ := kk
  have k1 : M.1 + 1 ≤ M2.1 := k1
  have k2 : M.2.1 + N ≤ M2.2.1 := k2
  have hbb : N * 8 ≤ 536870912 := by omega
  refine ⟨by omega, by omega, ?_⟩
  intro E p e R s m args below meth c Q H locs cells slots ls C h1 h2 h3 h4 hH hS hlv hr
  obtain ⟨hx, hcb, hml, hown, hts, hT, hX, hnm, hbs, hXE⟩ := id C
  refine va_newaK (atype := .long) hx hcb (hts (.arrayClass .long) (List.mem_filter.mpr ⟨by decide +kernel, rfl⟩)) rfl hd rfl hn hN hbb (by omega) (by omega) hH.1 fun H1 cA e1 z1 o4 hAr hfc => ?_
  rw [← hH.1] at e1 z1 o4
  have hA : cA = ev_A E 1 := Option.some.inj (hfc.symm.trans (hT.1.2 1 _ (mx_t1 E)).2)
  subst hA
  have hnew : mx_H E (mx_new M N (mx_la N (fun _ => 0))) H1 := mx_nw hH z1 o4 e1
  refine k3 E p e R s m args below meth c Q H1 locs (cells + 1) (slots + N) ls C h1 h2 (by show cells + 1 + (M2.1 - (M.1 + 1)) ≤ _; omega) (by show slots + N + (M2.2.1 - (M.2.1 + N)) ≤ _; omega) hnew (mx_Sn hS z1 o4) hlv ?_
  intro pc' ls' H' locs' g1 g2 g3
  refine W.cs ?_ ?_ (hr pc' ls' H' locs' g1 g2 g3)
  · show cells + 1 + (M2.1 - (M.1 + 1)) = _; omega
  · show slots + N + (M2.2.1 - (M.2.1 + N)) = _; omega
theorem ex_newz {n : Int32} {N : Nat} (hd : decode (mi_c i) pc = .ok (.newarray .boolean, 2)) (hn : ¬ n < 0) (hN : n.toNatClampNeg = N) (hb : N ≤ 100000) (kk : Ex X d i (pc + 2) lo (.ref M.1 :: st) (mx_new M N (mx_za N (fun _ => 0))) r M2) : Ex X d i pc lo (.int n :: st) M r M2 := by
  obtain ⟨k1, k2, k3⟩ := kk
  have k1 : M.1 + 1 ≤ M2.1 := k1
  have k2 : M.2.1 + N ≤ M2.2.1 := k2
  have hbb : N * 1 ≤ 536870912 := by omega
  refine ⟨by omega, by omega, ?_⟩
  intro E p e R s m args below meth c Q H locs cells slots ls C h1 h2 h3 h4 hH hS hlv hr
  obtain ⟨hx, hcb, hml, hown, hts, hT, hX, hnm, hbs, hXE⟩ := id C
  refine va_newaK (atype := .boolean) hx hcb (hts (.arrayClass .boolean) (List.mem_filter.mpr ⟨by decide +kernel, rfl⟩)) rfl hd rfl hn hN hbb (by omega) (by omega) hH.1 fun H1 cA e1 z1 o4 hAr hfc => ?_
  rw [← hH.1] at e1 z1 o4
  have hA : cA = ev_A E 5 := Option.some.inj (hfc.symm.trans (hT.1.2 5 _ (mx_t5 E)).2)
  subst hA
  have hnew : mx_H E (mx_new M N (mx_za N (fun _ => 0))) H1 := mx_nw hH z1 o4 e1
  refine k3 E p e R s m args below meth c Q H1 locs (cells + 1) (slots + N) ls C h1 h2 (by show cells + 1 + (M2.1 - (M.1 + 1)) ≤ _; omega) (by show slots + N + (M2.2.1 - (M.2.1 + N)) ≤ _; omega) hnew (mx_Sn hS z1 o4) hlv ?_
  intro pc' ls' H' locs' g1 g2 g3
  refine W.cs ?_ ?_ (hr pc' ls' H' locs' g1 g2 g3)
  · show cells + 1 + (M2.1 - (M.1 + 1)) = _; omega
  · show slots + N + (M2.2.1 - (M.2.1 + N)) = _; omega
/-- a row of Worlds (2) or Texts (3) -/
theorem ex_anew {x t : Nat} {C0 : String} {n : Int32} {N : Nat} (hd : decode (mi_c i) pc = .ok (.anewarray x, 3)) (ht : (t = 2 ∧ C0 = RX9) ∨ (t = 3 ∧ C0 = RX8)) (hw : Cond.classLink (mi_y i).cls x C0 ∈ mx_g) (hn : ¬ n < 0) (hN : n.toNatClampNeg = N) (hb : N ≤ 100000) (kk : Ex X d i (pc + 3) lo (.ref M.1 :: st) (mx_new M N (mx_ra t N (fun _ => none))) r M2) : Ex X d i pc lo (.int n :: st) M r M2 := by
  obtain ⟨k1, k2, k3⟩ := kk
  have k1 : M.1 + 1 ≤ M2.1 := k1
  have k2 : M.2.1 + N ≤ M2.2.1 := k2
  subst hN
  refine ⟨by omega, by omega, ?_⟩
  intro E p e R s m args below meth c Q H locs cells slots ls C h1 h2 h3 h4 hH hS hlv hr
  obtain ⟨hx, hcb, hml, hown, hts, hT, hX, hnm, hbs, hXE⟩ := id C
  obtain ⟨hty, hov⟩ : (mx_tys E)[t]? = some (ev_A E t, .object C0) ∧ va_AO C0 s := by
    rcases ht with ⟨rfl, rfl⟩ | ⟨rfl, rfl⟩
    · exact ⟨rfl, hT.2.2.1⟩
    · exact ⟨rfl, hT.2.2.2.1⟩
  refine W.anew hx hcb hown (hts _ hw) (va_AO.use hov) rfl hd rfl hn (by omega) (by omega) (by omega) fun cA kA comp f1 f2 f3 f4 => ?_
  generalize hH1 : H.push ({ cls := cA, slots := Array.replicate n.toNatClampNeg .null, vm := .none } : Cell) = H1
  have z1 : H1.size = H.size + 1 := by rw [← hH1, Array.size_push]
  have e1 : H1[H.size]? = some (arrV cA n.toNatClampNeg (fun _ => .null)) := by rw [← hH1, Array.getElem?_push_size, ← arrV_new]
  have o4 : ∀ q : Nat, q < H.size → H1[q]? = H[q]? := fun q hq => by rw [← hH1, Array.getElem?_push, if_neg (Nat.ne_of_lt hq)]
  obtain ⟨kA2, comp2, k1', k2', k3', k4'⟩ := (hT.1.2 t _ hty).2
  have hA : cA = ev_A E t := Option.some.inj (f1.symm.trans k4')
  subst hA
  have hnew : mx_H E (mx_new M n.toNatClampNeg (mx_ra t n.toNatClampNeg (fun _ => none))) H1 := mx_nw hH z1 o4 e1
  rw [hH.1]
  refine k3 E p e R s m args below meth c Q H1 locs (cells + 1) (slots + n.toNatClampNeg) ls C h1 h2 (by show cells + 1 + (M2.1 - (M.1 + 1)) ≤ _; omega) (by show slots + n.toNatClampNeg + (M2.2.1 - (M.2.1 + n.toNatClampNeg)) ≤ _; omega) hnew (mx_Sn hS z1 o4) hlv ?_
  intro pc' ls' H' locs' g1 g2 g3
  refine W.cs ?_ ?_ (hr pc' ls' H' locs' g1 g2 g3)
  · show cells + 1 + (M2.1 - (M.1 + 1)) = _; omega
  · show slots + n.toNatClampNeg + (M2.2.1 - (M.2.1 + n.toNatClampNeg)) = _; omega
end MXR
