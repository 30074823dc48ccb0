/-! calls: a method's body gives its contract, a contract a rule of the body that calls it -/
theorem mx_AOA.same {u U : State} (h : U.vm = u.vm) (g : mx_AOA u) : mx_AOA U := by
  unfold mx_AOA at g ⊢
  simp only [Cond.before, Cond.holds, Cond.value, h] at g ⊢
  exact g
theorem mx_AOA.moved {u U : State} (h : u.vm.Alike U.vm) (g : mx_AOA u) : mx_AOA U := by
  have h1 : mx_AOA (u.setVm U.vm) := by
    unfold mx_AOA
    rw [Cond.arrayOver_setVmC h]
    exact g
  exact mx_AOA.same (u := u.setVm U.vm) rfl h1
theorem mx_n_nest {w : Cond} (h : w ∈ mx_n) : ∃ (a : String) (k : Nat) (x : MethodName) (b : String), w = .methodLinkNest a k x b := by
  have h2 := (List.mem_filter.mp h).2
  cases w <;> first | exact ⟨_, _, _, _, rfl⟩ | cases h2
theorem mx_T.same {E : EV} {u U : State} (hv : U.vm = u.vm) (h : mx_T E u) : mx_T E U := by
  obtain ⟨h1, h2, h3, h4, h5, h6, h7, h8⟩ := h
  have ha : u.vm.Alike U.vm := by rw [hv]; exact Vm.Alike.refl _
  exact ⟨h1.moved ha, fun w hw => by
    obtain ⟨a, k, x, b, rfl⟩ := mx_n_nest hw
    exact va_Nw.same rfl hv.symm (h2 _ hw), h3.moved ha, h4.moved ha, h5.same hv, va_Nw.same rfl hv.symm h6, h7.same hv, h8.same hv⟩
theorem mx_T.warm {E : EV} {s U : State} (hW : s.WarmedH U.vm) (h : mx_T E s) : mx_T E U := by
  obtain ⟨h1, h2, h3, h4, h5, h6, h7, h8⟩ := h
  exact ⟨h1.moved hW.alike, fun w hw => by
    obtain ⟨a, k, x, b, rfl⟩ := mx_n_nest hw
    exact va_Nw.warmM hW (h2 _ hw), h3.moved hW.alike, h4.moved hW.alike, h5.moved hW.alike, va_Nw.warmC hW h6, h7.warm hW, h8.warm hW⟩
theorem mx_X.moved {E : EV} {u U : State} {H : Heap} (hv : u.vm.Alike U.vm) (h : mx_X E u H) : mx_X E U H := by
  obtain ⟨h1, h2, h3, h4, h5, h6, h7⟩ := h
  exact ⟨h1.moved hv, h2, h3.moved hv, h4.moved hv, h5.moved hv, h6.moved hv, h7.moved hv⟩
theorem mx_X.kept {E : EV} {U : State} {H H1 : Heap} (h : mx_X E U H) (hz : H.size ≤ H1.size) (hq : ∀ a : Nat, a < H.size → ¬ ev_W E a → H1[a]? = H[a]?) : mx_X E U H1 := by
  obtain ⟨h1, ⟨g1, g2⟩, h3, h4, h5, h6, h7⟩ := h
  exact ⟨h1.kept (hq _ g1 g2), ⟨Nat.lt_of_lt_of_le g1 hz, g2⟩, h3.kept hq, h4.kept hq, h5.kept hq, h6.kept hq, h7.kept hq⟩
theorem mx_blind (E : EV) (as : List Value) (M : Mem) : FrameBlind (mx_Pc E as M) := by
  intro a U g mk h
  obtain ⟨h1, h2, h3, h4⟩ := h
  exact ⟨h1, mx_T.same (u := U) (U := U.calling g mk a) rfl h2, mx_X.moved (u := U) (U := U.calling g mk a) (Vm.Alike.refl U.vm) h3, h4⟩
theorem mx_goodIn {j : MI} (h : Cond.code j.1 j.2.1 j.2.2.1 j.2.2.2 ∈ mx_g) : GoodIn mx_g (mx_ws j) := by
  intro w hw
  rcases List.mem_cons.mp hw with rfl | hw
  · exact ⟨h, mx_g_good _ h⟩
  · exact ⟨hw, mx_g_good _ hw⟩
/-- what a return type asks of the answer -/
def mx_rok (i : MI) : Option Value → Prop
  | none => mi_r i = none
  | some (.int v) => ∃ ty, mi_r i = some ty ∧ narrow ty (.int v) = .int v
  | some (.long _) => mi_r i = some .long
  | some (.ref _) => ∃ rt, mi_r i = some rt ∧ ((∃ n, rt = .object n) ∨ ∃ t, rt = .array t)
  | some .null => ∃ rt, mi_r i = some rt ∧ ((∃ n, rt = .object n) ∨ ∃ t, rt = .array t)
  | _ => False
theorem Mx.of {X : XV} {d : Nat} {i : MI} {as : List Value} {M M2 : Mem} {r : Option Value} (hy : plainName (mi_y i).cls = true) (hn : (lg_sl as).length ≤ mi_n i) (hr : mx_rok i r) (k : Ex X d i 0 (lv_args 0 as) [] M r M2) : Mx X d i as M r M2 := by
  refine ⟨k.1, k.2.1, fun E hXE => ?_⟩
  refine Met.ofW (cc := mi_c i) (maxL := mi_n i) (ret := mi_r i) hy rfl ?_
  intro p e s m args below meth c s₁ B hml hv
  obtain ⟨rfl, hT, hX, hH⟩ := hv
  have hts := atoms_spec (ws := mx_ws i) B.pre
  have C : mx_C X E i p s m as.toArray meth c := ⟨B.exec, B.bytes, hml, findClass_of_methodNamed B.named, fun w hw => hts w (List.mem_cons_of_mem _ hw), hT, hX, (name_of_methodNamed B.named B.method).1, by rw [hH.1]; exact hH.2.1, hXE⟩
  have hl := lv_entry as (n := mi_n i) hn
  rw [lg_entry_eq]
  generalize (lg_sl as ++ List.replicate (mi_n i - (lg_sl as).length) Slot.unset).toArray = ls at hl ⊢
  have hlocks := B.notSynchronized
  have hret := B.returns
  refine k.2.2 E p e _ s m _ below meth c _ s.heap [] 0 0 ls C (Nat.le_refl d) (Nat.le_refl _) (by show 0 + (M2.1 - M.1) ≤ M2.1 - M.1; omega) (by show 0 + (M2.2.1 - M.2.1) ≤ M2.2.1 - M.2.1; omega) hH va_S.rf hl ?_
  intro pc' ls' H' locs' g1 g2 g3
  refine W.cs (Nat.zero_add _) (Nat.zero_add _) ?_
  have hq : ∀ t : State, t.heap = H' → s.WarmedH t.vm → mx_Qc E r M2 as.toArray s (.returned r) t := fun t ht _ => ⟨rfl, by rw [ht]; exact g2, fun q h1 h2 => by rw [ht]; exact g3.2.1 q h1 h2⟩
  match r, hr, g1, hq with
  | none, hr, g1, hq => exact W.vret B.exec B.bytes (hret.trans hr) hq g3.2.2 g1
  | some (.int v), ⟨ty, hr, hn⟩, g1, hq => exact W.zret B.exec B.bytes (hret.trans hr) hn hq g3.2.2 g1
  | some (.long v), hr, g1, hq => exact W.lret B.exec B.bytes (hret.trans hr) hq g3.2.2 g1
  | some (.ref v), ⟨rt, hr, hrt⟩, g1, hq => exact W.aret B.exec B.bytes (hret.trans hr) hrt (Or.inr ⟨v, rfl⟩) hq g3.2.2 g1
  | some .null, ⟨rt, hr, hrt⟩, g1, hq => exact W.aret B.exec B.bytes (hret.trans hr) hrt (Or.inl rfl) hq g3.2.2 g1
/-- what every call needs of its callee -/
def mx_J (j : MI) (n : Nat) : Prop := Cond.code j.1 j.2.1 j.2.2.1 j.2.2.2 ∈ mx_g ∧ Cond.initialized (mi_y j).cls ∈ mx_g ∧ ((mi_y j).cls ≠ "java/lang/invoke/MethodHandle" ∧ (mi_y j).cls ≠ "java/lang/invoke/VarHandle" ∧ (parseMethodDescriptor (mi_y j).desc).map (fun d => d.parameters.length) = some n) ∧ mi_n j ≤ 80
section MXR
variable {X : XV} {d : Nat} {i : MI} {pc : Nat} {lo : List (Nat × Value)} {st : List Value} {M M1 M2 : Mem} {r v : Option Value} {j : MI} {n : Nat} {As : List Value} {x : Nat}
/-- behind a call -/
theorem mx_cont {E : EV} {p : Program} {e : Env} {R : Room} {s : State} {m : MethodId} {args : Array Value} {below : List Frame} {meth : Method} {c : Code} {Q : State → Prop} {H : Heap} {locs : List Loc} {cells slots : Nat} {ls : Array Slot} {av : Array Value} {st0 : List Value}
    (C : mx_C X E i p s m args meth c) (h1 : d + 1 ≤ R.frames) (h2 : 100 * (d + 1) ≤ R.locals) (h3 : cells + (M2.1 - M.1) ≤ R.cells) (h4 : slots + (M2.2.1 - M.2.1) ≤ R.slots) (hH : mx_H E M H) (hS : va_S (ev_W E) s.heap H locs) (hlv : lv_has ls (mi_n i) lo)
    (hr : ∀ (pc' : Nat) (ls' : Array Slot) (H' : Heap) (locs' : List Loc), mx_rt i pc' r → mx_H E M2 H' → va_S (ev_W E) s.heap H' locs' → W p (ev_l E) e R s m args below meth c H' locs' (cells + (M2.1 - M.1)) (slots + (M2.2.1 - M.2.1)) Q (F0 m pc' ls' r.toList))
    (c1 : M.1 ≤ M1.1) (c2 : M.2.1 ≤ M1.2.1) (kk : Ex X (d + 1) i (pc + 3) lo (v.toList ++ st) M1 r M2)
    (run : va_Run p (ev_l E) e R s m args below meth c H locs cells slots (M1.1 - M.1) (M1.2.1 - M.2.1) (F0 m pc ls st0) st (mx_Qc E v M1 av) (ev_W E)) : W p (ev_l E) e R s m args below meth c H locs cells slots Q (F0 m pc ls st0) := by
  obtain ⟨k1, k2, k3⟩ := kk
  intro T hT X
  obtain ⟨w, st₀, t, T', L, g0, X', hL, e1, e2, ⟨hv, hM1, hfr⟩, step⟩ := run T hT X
  cases hv
  rw [g0] at hfr
  have hz : H.size ≤ T'.heap.size := by rw [e1, hH.1, hM1.1]; exact c1
  obtain ⟨t2, a1, b1⟩ := k3 E p e R s m args below meth c Q T'.heap (locs ++ L) (cells + (M1.1 - M.1)) (slots + (M1.2.1 - M.2.1)) ls C h1 h2 (by omega) (by omega) (by rw [e1]; exact hM1)
    ⟨Nat.le_trans hS.1 hz, fun q q1 q2 => by rw [e1, hfr q (Nat.lt_of_lt_of_le q1 hS.1) q2]; exact hS.2.1 q q1 q2, fun q hq => by
      rcases List.mem_append.mp hq with h | h
      · exact hS.2.2 q h
      · exact hL q h⟩ hlv (by
      intro pc' ls' H' locs' q1 q2 q3
      refine W.cs ?_ ?_ (hr pc' ls' H' locs' q1 q2 q3)
      · omega
      · omega) T' rfl X'
  exact ⟨t2, step t2 a1, b1⟩
/-- the callee's start, out of the caller's world -/
theorem mx_pre {E : EV} {p : Program} {s : State} {m : MethodId} {args : Array Value} {meth : Method} {c : Code} {H : Heap} {locs : List Loc} (C : mx_C X E i p s m args meth c) (hH : mx_H E M H) (hS : va_S (ev_W E) s.heap H locs) (U : State) (hU : U.heap = H) (hW : s.WarmedH U.vm) : mx_Pc E As M As.toArray U := by
  obtain ⟨hx, hb, hml, hown, hts, hT, hX, hnm, hbs, hXE⟩ := C
  refine ⟨rfl, hT.warm hW, ?_, by rw [hU]; exact hH⟩
  rw [hU]
  exact (hX.moved hW.alike).kept hS.1 hS.2.1
theorem ex_callS (hd : decode (mi_c i) pc = .ok (.invokestatic x, 3)) (hJ : mx_J j n) (hw : Cond.methodLink (mi_y i).cls x (mi_y j) ∈ mx_g) (hs : Cond.static (mi_y j) ∈ mx_g) (hn : As.length = n) (hst : (st.map fun v => v.category).sum ≤ 8)
    (hM : Mx X d j As M v M1) (kk : Ex X (d + 1) i (pc + 3) lo (v.toList ++ st) M1 r M2) : Ex X (d + 1) i pc lo (As.reverse ++ st) M r M2 := by
  obtain ⟨c1, c2, hm⟩ := hM
  refine ⟨Nat.le_trans c1 kk.1, Nat.le_trans c2 kk.2.1, ?_⟩
  intro E p e R s m args below meth c Q H locs cells slots ls C h1 h2 h3 h4 hH hS hlv hr
  obtain ⟨hx, hb, hml, hown, hts, hT, hX, hnm, hbs, hXE⟩ := id C
  obtain ⟨j1, j2, j3, j4⟩ := hJ
  have k1 := kk.1
  have k2 := kk.2.1
  exact mx_cont C h1 h2 h3 h4 hH hS hlv hr c1 c2 kk (va_runS (Ts := mx_g) ⟨hx, hb, hml, hown, hts⟩ (hm E hXE) ⟨callB_of (Ts := mx_g) n hts (mx_goodIn j1) rfl rfl rfl (hts _ j2) (hts _ hw) j3 ⟨h1, by show 8 + (mi_n j + 11) + 100 * d ≤ R.locals; omega⟩, hts _ hs⟩ ⟨mx_blind E As M, fun U hU hW => mx_pre C hH hS U hU hW⟩ rfl hn hlv.1 rfl (lv_room hst) hd ⟨by omega, by omega⟩)
theorem ex_callSN {host : String} (hd : decode (mi_c i) pc = .ok (.invokestatic x, 3)) (hJ : mx_J j n) (hw : Cond.methodLinkNest (mi_y i).cls x (mi_y j) host ∈ mx_n) (hs : Cond.static (mi_y j) ∈ mx_g) (hn : As.length = n) (hst : (st.map fun v => v.category).sum ≤ 8)
    (hM : Mx X d j As M v M1) (kk : Ex X (d + 1) i (pc + 3) lo (v.toList ++ st) M1 r M2) : Ex X (d + 1) i pc lo (As.reverse ++ st) M r M2 := by
  obtain ⟨c1, c2, hm⟩ := hM
  refine ⟨Nat.le_trans c1 kk.1, Nat.le_trans c2 kk.2.1, ?_⟩
  intro E p e R s m args below meth c Q H locs cells slots ls C h1 h2 h3 h4 hH hS hlv hr
  obtain ⟨hx, hb, hml, hown, hts, hT, hX, hnm, hbs, hXE⟩ := id C
  obtain ⟨j1, j2, j3, j4⟩ := hJ
  have k1 := kk.1
  have k2 := kk.2.1
  exact mx_cont C h1 h2 h3 h4 hH hS hlv hr c1 c2 kk (va_runSN (Ts := mx_g) (host := host) ⟨hx, hb, hml, hown, hts⟩ (hm E hXE) ⟨va_cnB (Ts := mx_g) n hts (mx_goodIn j1) rfl rfl rfl (hT.2.1 _ hw) (hts _ j2) j3 ⟨h1, by show 8 + (mi_n j + 11) + 100 * d ≤ R.locals; omega⟩, hts _ hs, trivial⟩ ⟨mx_blind E As M, fun U hU hW => mx_pre C hH hS U hU hW⟩ rfl hn hlv.1 rfl (lv_room hst) hd ⟨by omega, by omega⟩)
theorem ex_callV {b ci : Nat} {fs : List Value} {T : u_T} {N : Nat} (hd : decode (mi_c i) pc = .ok (.invokevirtual x, 3)) (hJ : mx_J j n) (hw : Cond.methodLink (mi_y i).cls x (mi_y j) ∈ mx_g) (hi : Cond.instanceMethod (mi_y j) ∈ mx_g) (hs : Cond.selects (mi_y j).cls (mi_y j) (mi_y j) ∈ mx_g) (hc : mx_cl[ci]? = some ((mi_y j).cls, T, N)) (hb : M.2.2 b = some (mx_ob ci fs)) (hn : As.length = n) (hst : (st.map fun v => v.category).sum ≤ 8)
    (hM : Mx X d j (.ref b :: As) M v M1) (kk : Ex X (d + 1) i (pc + 3) lo (v.toList ++ st) M1 r M2) : Ex X (d + 1) i pc lo (As.reverse ++ .ref b :: st) M r M2 := by
  obtain ⟨c1, c2, hm⟩ := hM
  refine ⟨Nat.le_trans c1 kk.1, Nat.le_trans c2 kk.2.1, ?_⟩
  intro E p e R s m args below meth c Q H locs cells slots ls C h1 h2 h3 h4 hH hS hlv hr
  obtain ⟨hx, hcb, hml, hown, hts, hT, hX, hnm, hbs, hXE⟩ := id C
  obtain ⟨j1, j2, j3, j4⟩ := hJ
  have k1 := kk.1
  have k2 := kk.2.1
  exact mx_cont C h1 h2 h3 h4 hH hS hlv hr c1 c2 kk (va_runV (Ts := mx_g) ⟨hx, hcb, hml, hown, hts⟩ (hm E hXE) ⟨callB_of (Ts := mx_g) n hts (mx_goodIn j1) rfl rfl rfl (hts _ j2) (hts _ hw) j3 ⟨h1, by show 8 + (mi_n j + 11) + 100 * d ≤ R.locals; omega⟩, hts _ hi, hts _ hs⟩ ⟨mx_blind E (.ref b :: As) M, va_recv hT.1 (mx_P1 hH hb) hc (q0 := 0) rfl, fun U hU hW => mx_pre C hH hS U hU hW⟩ rfl hn hlv.1 rfl (lv_room hst) hd ⟨by omega, by omega⟩)
theorem ex_callVN {b ci : Nat} {fs : List Value} {T : u_T} {N : Nat} {host : String} (hd : decode (mi_c i) pc = .ok (.invokevirtual x, 3)) (hJ : mx_J j n) (hw : Cond.methodLinkNest (mi_y i).cls x (mi_y j) host ∈ mx_n) (hi : Cond.instanceMethod (mi_y j) ∈ mx_g) (hs : Cond.selects (mi_y j).cls (mi_y j) (mi_y j) ∈ mx_g) (hc : mx_cl[ci]? = some ((mi_y j).cls, T, N)) (hb : M.2.2 b = some (mx_ob ci fs)) (hn : As.length = n) (hst : (st.map fun v => v.category).sum ≤ 8)
    (hM : Mx X d j (.ref b :: As) M v M1) (kk : Ex X (d + 1) i (pc + 3) lo (v.toList ++ st) M1 r M2) : Ex X (d + 1) i pc lo (As.reverse ++ .ref b :: st) M r M2 := by
  obtain ⟨c1, c2, hm⟩ := hM
  refine ⟨Nat.le_trans c1 kk.1, Nat.le_trans c2 kk.2.1, ?_⟩
  intro E p e R s m args below meth c Q H locs cells slots ls C h1 h2 h3 h4 hH hS hlv hr
  obtain ⟨hx, hcb, hml, hown, hts, hT, hX, hnm, hbs, hXE⟩ := id C
  obtain ⟨j1, j2, j3, j4⟩ := hJ
  have k1 := kk.1
  have k2 := kk.2.1
  exact mx_cont C h1 h2 h3 h4 hH hS hlv hr c1 c2 kk (va_runVN (Ts := mx_g) (host := host) ⟨hx, hcb, hml, hown, hts⟩ (hm E hXE) ⟨va_cnB (Ts := mx_g) n hts (mx_goodIn j1) rfl rfl rfl (hT.2.1 _ hw) (hts _ j2) j3 ⟨h1, by show 8 + (mi_n j + 11) + 100 * d ≤ R.locals; omega⟩, hts _ hi, hts _ hs⟩ ⟨mx_blind E (.ref b :: As) M, va_recv hT.1 (mx_P1 hH hb) hc (q0 := 0) rfl, fun U hU hW => mx_pre C hH hS U hU hW⟩ rfl hn hlv.1 rfl (lv_room hst) hd ⟨by omega, by omega⟩)
/-- a constructor -/
theorem ex_callI {b : Nat} (hd : decode (mi_c i) pc = .ok (.invokespecial x, 3)) (hJ : mx_J j n) (hw : Cond.methodLink (mi_y i).cls x (mi_y j) ∈ mx_g) (hi : Cond.instanceMethod (mi_y j) ∈ mx_g) (hr0 : mi_r j = none) (hnm : (mi_y j).name = "<init>") (hn : As.length = n) (hst : (st.map fun v => v.category).sum ≤ 8)
    (hM : Mx X d j (.ref b :: As) M v M1) (kk : Ex X (d + 1) i (pc + 3) lo (v.toList ++ st) M1 r M2) : Ex X (d + 1) i pc lo (As.reverse ++ .ref b :: st) M r M2 := by
  obtain ⟨c1, c2, hm⟩ := hM
  refine ⟨Nat.le_trans c1 kk.1, Nat.le_trans c2 kk.2.1, ?_⟩
  intro E p e R s m args below meth c Q H locs cells slots ls C h1 h2 h3 h4 hH hS hlv hr
  obtain ⟨hx, hcb, hml, hown, hts, hT, hX, -, hbs, hXE⟩ := id C
  obtain ⟨j1, j2, j3, j4⟩ := hJ
  have k1 := kk.1
  have k2 := kk.2.1
  exact mx_cont C h1 h2 h3 h4 hH hS hlv hr c1 c2 kk (va_runI (Ts := mx_g) (bytes := mi_c j) (maxL := mi_n j) ⟨hx, hcb, hml, hown, hts⟩ (hm E hXE) ⟨callB_of (Ts := mx_g) (ws' := mx_g) n hts (mx_goodIn j1) (by unfold mx_ws; rw [← hr0]) rfl rfl (hts _ j2) (hts _ hw) j3 ⟨h1, by show 8 + (mi_n j + 11) + 100 * d ≤ R.locals; omega⟩, hnm, hts _ hi⟩ ⟨mx_blind E (.ref b :: As) M, fun U hU hW => mx_pre C hH hS U hU hW⟩ rfl hn hlv.1 rfl (lv_room hst) hd ⟨by omega, by omega⟩)
theorem ex_callIN {b : Nat} {host : String} (hd : decode (mi_c i) pc = .ok (.invokespecial x, 3)) (hJ : mx_J j n) (hw : Cond.methodLinkNest (mi_y i).cls x (mi_y j) host ∈ mx_n) (hi : Cond.instanceMethod (mi_y j) ∈ mx_g) (hr0 : mi_r j = none) (hnm : (mi_y j).name = "<init>") (hn : As.length = n) (hst : (st.map fun v => v.category).sum ≤ 8)
    (hM : Mx X d j (.ref b :: As) M v M1) (kk : Ex X (d + 1) i (pc + 3) lo (v.toList ++ st) M1 r M2) : Ex X (d + 1) i pc lo (As.reverse ++ .ref b :: st) M r M2 := by
  obtain ⟨c1, c2, hm⟩ := hM
  refine ⟨Nat.le_trans c1 kk.1, Nat.le_trans c2 kk.2.1, ?_⟩
  intro E p e R s m args below meth c Q H locs cells slots ls C h1 h2 h3 h4 hH hS hlv hr
  obtain ⟨hx, hcb, hml, hown, hts, hT, hX, -, hbs, hXE⟩ := id C
  obtain ⟨j1, j2, j3, j4⟩ := hJ
  have k1 := kk.1
  have k2 := kk.2.1
  exact mx_cont C h1 h2 h3 h4 hH hS hlv hr c1 c2 kk (va_runIN (Ts := mx_g) (host := host) (bytes := mi_c j) (maxL := mi_n j) ⟨hx, hcb, hml, hown, hts⟩ (hm E hXE) ⟨va_cnB (Ts := mx_g) (ws' := mx_g) n hts (mx_goodIn j1) (by unfold mx_ws; rw [← hr0]) rfl rfl (hT.2.1 _ hw) (hts _ j2) j3 ⟨h1, by show 8 + (mi_n j + 11) + 100 * d ≤ R.locals; omega⟩, hnm, hts _ hi⟩ ⟨mx_blind E (.ref b :: As) M, fun U hU hW => mx_pre C hH hS U hU hW⟩ rfl hn hlv.1 rfl (lv_room hst) hd ⟨by omega, by omega⟩)
end MXR
