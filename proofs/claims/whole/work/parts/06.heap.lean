/-! the rules that read and write the memory -/
def mx_F (own : String) (x ci k : Nat) : Prop := ∃ (C : String) (T : u_T) (N : Nat), mx_cl[ci]? = some (C, T, N) ∧ k < N ∧ Cond.fieldLink own x (T k).1 (T k).2.1 (T k).2.2.1 ∈ mx_g
theorem mx_at {E : EV} {M : Mem} {H : Heap} {a : Nat} {x : ACell} (h : mx_H E M H) (ha : M.2.2 a = some x) : va_at (ev_D E) mx_cl (a, mx_e E x) H := (h.2.2 a x ha).2.2
theorem mx_P1 {E : EV} {M : Mem} {H : Heap} {a : Nat} {x : ACell} (h : mx_H E M H) (ha : M.2.2 a = some x) : va_P (ev_D E) mx_cl [(a, mx_e E x)] H := by
  intro k q hq
  have hz : k < 1 := (List.getElem?_eq_some_iff.mp hq).1
  rw [show k = 0 by omega] at hq
  cases hq
  exact mx_at h ha
theorem mx_wr {E : EV} {M : Mem} {H H1 : Heap} {a : Nat} {x y : ACell} (h : mx_H E M H) (ha : M.2.2 a = some x) (z : H1.size = H.size) (oq : ∀ q : Nat, q ≠ a → H1[q]? = H[q]?) (hy : va_at (ev_D E) mx_cl (a, mx_e E y) H1) : mx_H E (mx_set M a y) H1 := by
  refine ⟨z.trans h.1, h.2.1, fun b w hb => ?_⟩
  by_cases hab : b = a
  · subst hab
    have hw : (if b = b then some y else M.2.2 b) = some w := hb
    rw [if_pos rfl] at hw
    cases hw
    obtain ⟨h1, h2, -⟩ := h.2.2 b x ha
    exact ⟨h1, h2, hy⟩
  · have hw : (if b = a then some y else M.2.2 b) = some w := hb
    rw [if_neg hab] at hw
    obtain ⟨h1, h2, h3⟩ := h.2.2 b w hw
    exact ⟨h1, h2, h3.kept (oq b hab)⟩
theorem mx_nw {E : EV} {M : Mem} {H H1 : Heap} {y : ACell} {n : Nat} (h : mx_H E M H) (z : H1.size = H.size + 1) (oq : ∀ q : Nat, q < H.size → H1[q]? = H[q]?) (hy : va_at (ev_D E) mx_cl (H.size, mx_e E y) H1) : mx_H E (mx_new M n y) H1 := by
  obtain ⟨e, hb, hc⟩ := h
  refine ⟨by show H1.size = M.1 + 1; omega, by show ev_b E ≤ M.1 + 1; omega, fun b w hw => ?_⟩
  have hw : (if b = M.1 then some y else M.2.2 b) = some w := hw
  by_cases hab : b = M.1
  · subst hab
    rw [if_pos rfl] at hw
    cases hw
    refine ⟨hb, Nat.lt_succ_self _, ?_⟩
    rw [e] at hy
    exact hy
  · rw [if_neg hab] at hw
    obtain ⟨h1, h2, h3⟩ := hc b w hw
    exact ⟨h1, Nat.lt_succ_of_lt h2, h3.kept (oq b (by show b < H.size; omega))⟩
theorem mx_Sn {E : EV} {s : State} {H H1 : Heap} {locs : List Loc} (hS : va_S (ev_W E) s.heap H locs) (z : H1.size = H.size + 1) (oq : ∀ q : Nat, q < H.size → H1[q]? = H[q]?) : va_S (ev_W E) s.heap H1 locs :=
  ⟨Nat.le_trans hS.1 (by omega), fun q h1 h2 => (oq q (Nat.lt_of_lt_of_le h1 hS.1)).trans (hS.2.1 q h1 h2), hS.2.2⟩
section MXR
variable {X : XV} {d : Nat} {i : MI} {pc : Nat} {lo : List (Nat × Value)} {st : List Value} {M M2 : Mem} {r : Option Value}
theorem ex_getf {x ci k a : Nat} {fs : List Value} {v : Value} (hd : decode (mi_c i) pc = .ok (.getfield x, 3)) (hF : mx_F (mi_y i).cls x ci k) (ha : M.2.2 a = some (mx_ob ci fs)) (hv : fs[k]? = some v) (kk : Ex X d i (pc + 3) lo (v :: st) M r M2) : Ex X d i pc lo (.ref a :: st) M r M2 := by
  refine ⟨kk.1, kk.2.1, ?_⟩
  intro E p e R s m args below meth c Q H locs cells slots ls C h1 h2 h3 h4 hH hS hl hr
  obtain ⟨CC, T, N, hc, hk, hw⟩ := hF
  obtain ⟨o1, o2, o3⟩ := mx_cls hc
  obtain ⟨hx, hb, hml, hown, hts, hT, hX, hnm, hbs, hXE⟩ := id C
  exact va_get (D := ev_D E) (cl := mx_cl) (ci := ci) (C := CC) (T := T) (N := N) hx hb hts o1 hown hT.1 (mx_P1 hH ha) 0 rfl hc k hk (hts _ hw) (fun _ h9 => h9) hv hd (kk.2.2 E p e R s m args below meth c Q H locs cells slots ls C h1 h2 h3 h4 hH hS hl hr)
theorem ex_putf {x ci k a : Nat} {fs : List Value} {v : Value} (hd : decode (mi_c i) pc = .ok (.putfield x, 3)) (hF : mx_F (mi_y i).cls x ci k) (ha : M.2.2 a = some (mx_ob ci fs)) (hl : k < fs.length) (hn : narrow (mx_ty ci k) v = v) (hfit : fits (mx_ty ci k) v = true) (hfin : ∀ q, mx_cl[ci]? = some q → (q.2.1 k).2.2.2 = false) (kk : Ex X d i (pc + 3) lo st (mx_set M a (mx_ob ci (fs.set k v))) r M2) : Ex X d i pc lo (v :: .ref a :: st) M r M2 := by
  refine ⟨kk.1, kk.2.1, ?_⟩
  intro E p e R s m args below meth c Q H locs cells slots ls C h1 h2 h3 h4 hH hS hlv hr
  obtain ⟨CC, T, N, hc, hk, hw⟩ := hF
  obtain ⟨o1, o2, o3⟩ := mx_cls hc
  have hfin := hfin _ hc
  obtain ⟨hx, hb, hml, hown, hts, hT, hX, hnm, hbs, hXE⟩ := id C
  have hap := va_apart (own := (mi_y i).cls) hts o1 (mx_ty ci) o2 o3 hT.1 hc
  obtain ⟨q, g1, cell, q1, q2, q3, q4⟩ := mx_at hH ha
  have hq : q = (CC, T, N) := Option.some.inj (g1.symm.trans hc)
  subst hq
  obtain ⟨hSl, hfc, kC, hkC, hkind⟩ := hT.1.1 ci _ hc
  obtain ⟨cf, kf, fi, f, hi, hsl⟩ := hSl k hk
  have hlay := hts _ (o1 _ (u_in_lay hk))
  unfold u_lay at hlay
  rw [if_neg (by rw [hfin]; decide)] at hlay
  have hst := (u_facts hfc hkC (u_lays hts o1 hk) hi).1
  have h6 := u_store hfc hkC hkind hlay hi (o2 k hk) hn hfit
  refine W.putK hx hb (f := f) ⟨hown, hts _ hw, ⟨_, _, _, hi⟩, hst⟩ (by rw [q2]; exact h6) q1 q3 (by rw [hsl]; exact k2_hasslot (q4 k hk)) rfl rfl hd fun H' e1 e2 e3 => ?_
  rw [hsl] at e1 ⊢
  exact kk.2.2 E p e R s m args below meth c Q H' _ cells slots ls C h1 h2 h3 h4 (mx_wr hH ha e2 e3 ⟨_, hc, t_OB.to (V := updV (vp_V fs) k v) ⟨_, e1, q2, q3, t_set q4 hap hk v⟩ (fun j _ => vp_updV_set hl v j)⟩) (hS.put e2 e3 (hH.2.2 a _ ha).1) hlv hr
end MXR
