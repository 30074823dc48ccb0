theorem mx_t0 (E : EV) : (mx_tys E)[0]? = some (ev_A E 0, .int) := rfl
theorem mx_t1 (E : EV) : (mx_tys E)[1]? = some (ev_A E 1, .long) := rfl
theorem mx_t2 (E : EV) : (mx_tys E)[2]? = some (ev_A E 2, .object RX9) := rfl
theorem mx_t3 (E : EV) : (mx_tys E)[3]? = some (ev_A E 3, .object RX8) := rfl
theorem mx_t4 (E : EV) : (mx_tys E)[4]? = some (ev_A E 4, .array .int) := rfl
theorem mx_t5 (E : EV) : (mx_tys E)[5]? = some (ev_A E 5, .boolean) := rfl
section MXR
variable {X : XV} {d : Nat} {i : MI} {pc : Nat} {lo : List (Nat × Value)} {st : List Value} {M M2 : Mem} {r : Option Value}
/-- a final field, in its constructor -/
theorem ex_putF {x ci k a : Nat} {fs : List Value} {v : Value} (hd : decode (mi_c i) pc = .ok (.putfield x, 3)) (hF : mx_F (mi_y i).cls x ci k) (ha : M.2.2 a = some (mx_ob ci fs)) (hl : k < fs.length) (hn : narrow (mx_ty ci k) v = v) (hfit : fits (mx_ty ci k) v = true) (hfin : ∀ q, mx_cl[ci]? = some q → (q.2.1 k).2.2.2 = true ∧ (q.2.1 k).1 = (mi_y i).cls) (hin : (mi_y i).name = "<init>") (kk : Ex X d i (pc + 3) lo st (mx_set M a (mx_ob ci (fs.set k v))) r M2) : Ex X d i pc lo (v :: .ref a :: st) M r M2 := by
  refine ⟨kk.1, kk.2.1, ?_⟩
  intro E p e R s m args below meth c Q H locs cells slots ls C h1 h2 h3 h4 hH hS hlv hr
  obtain ⟨CC, T, N, hc, hk, hw⟩ := hF
  obtain ⟨o1, o2, o3⟩ := mx_cls hc
  obtain ⟨hfin, hdecl⟩ := hfin _ hc
  dsimp only at hfin hdecl
  obtain ⟨hx, hb, hml, hown, hts, hT, hX, hnm, hbs, hXE⟩ := id C
  have hap := va_apart (own := (mi_y i).cls) hts o1 (mx_ty ci) o2 o3 hT.1 hc
  obtain ⟨q, g1, cell, q1, q2, q3, q4⟩ := mx_at hH ha
  have hq : q = (CC, T, N) := Option.some.inj (g1.symm.trans hc)
  subst hq
  obtain ⟨hSl, hfc, kC, hkC, hkind⟩ := hT.1.1 ci _ hc
  obtain ⟨cf, kf, fi, f, hi, hsl⟩ := hSl k hk
  have hlay := hts _ (o1 _ (u_in_lay hk))
  unfold u_lay at hlay
  rw [if_pos hfin] at hlay
  have hst := (u_facts hfc hkC (u_lays hts o1 hk) hi).1
  have hcf : m.cls = cf := by
    obtain ⟨_, _, c', _, _, _, -, -, hf', -, -, -, hown2, -⟩ := Cond.laysFinal_spec hlay
    have e1 : c' = cf := by have := hi.symm.trans hf'; simp at this; exact this.1.symm
    rw [hdecl] at hown2
    rw [← e1]; exact Option.some.inj (hown.symm.trans hown2)
  have h6 := u_fits hfc hkC hkind (Or.inr hlay) hi (o2 k hk) hn hfit
  refine W.putFinK hx hb hown (hts _ hw) hi hst hcf (hnm.trans hin) (by rw [q2]; exact h6) q1 q3 (by rw [hsl]; exact k2_hasslot (q4 k hk)) rfl rfl hd fun H' e1 e2 e3 => ?_
  rw [hsl] at e1 ⊢
  exact kk.2.2 E p e R s m args below meth c Q H' _ cells slots ls C h1 h2 h3 h4 (mx_wr hH ha e2 e3 ⟨_, hc, t_OB.to (V := updV (vp_V fs) k v) ⟨_, e1, q2, q3, t_set q4 hap hk v⟩ (fun j _ => vp_updV_set hl v j)⟩) (hS.put e2 e3 (hH.2.2 a _ ha).1) hlv hr
theorem ex_iald {a n : Nat} {f : Nat → Int32} {x : Int32} (hd : decode (mi_c i) pc = .ok (.iaload, 1)) (ha : M.2.2 a = some (mx_ia n f)) (hin : vp_in x n) (kk : Ex X d i (pc + 1) lo (.int (f x.toNatClampNeg) :: st) M r M2) : Ex X d i pc lo (.int x :: .ref a :: st) M r M2 := by
  refine ⟨kk.1, kk.2.1, ?_⟩
  intro E p e R s m args below meth c Q H locs cells slots ls C h1 h2 h3 h4 hH hS hlv hr
  obtain ⟨hx, hb, hml, hown, hts, hT, hX, hnm, hbs, hXE⟩ := id C
  exact va_iald hx hb hT.1 (mx_P1 hH ha) 0 0 (n := n) (f := f) rfl rfl hin hd (kk.2.2 E p e R s m args below meth c Q H locs cells slots ls C h1 h2 h3 h4 hH hS hlv hr)
theorem ex_lald {a n : Nat} {f : Nat → Int64} {x : Int32} (hd : decode (mi_c i) pc = .ok (.laload, 1)) (ha : M.2.2 a = some (mx_la n f)) (hin : vp_in x n) (kk : Ex X d i (pc + 1) lo (.long (f x.toNatClampNeg) :: st) M r M2) : Ex X d i pc lo (.int x :: .ref a :: st) M r M2 := by
  refine ⟨kk.1, kk.2.1, ?_⟩
  intro E p e R s m args below meth c Q H locs cells slots ls C h1 h2 h3 h4 hH hS hlv hr
  obtain ⟨hx, hb, hml, hown, hts, hT, hX, hnm, hbs, hXE⟩ := id C
  exact va_lald hx hb hT.1 (mx_P1 hH ha) 0 1 (n := n) (f := f) rfl rfl hin hd (kk.2.2 E p e R s m args below meth c Q H locs cells slots ls C h1 h2 h3 h4 hH hS hlv hr)
theorem ex_alen {a t : Nat} {y : vp_A} (hd : decode (mi_c i) pc = .ok (.arraylength, 1)) (ht : t < 6) (ha : M.2.2 a = some (.inl (t, y))) (kk : Ex X d i (pc + 1) lo (.int (Int32.ofNat y.1) :: st) M r M2) : Ex X d i pc lo (.ref a :: st) M r M2 := by
  refine ⟨kk.1, kk.2.1, ?_⟩
  intro E p e R s m args below meth c Q H locs cells slots ls C h1 h2 h3 h4 hH hS hlv hr
  obtain ⟨hx, hb, hml, hown, hts, hT, hX, hnm, hbs, hXE⟩ := id C
  obtain ⟨ty, hty⟩ : ∃ ty, (mx_tys E)[t]? = some (ev_A E t, ty) := by
    match t, ht with
    | 0, _ => exact ⟨_, rfl⟩
    | 1, _ => exact ⟨_, rfl⟩
    | 2, _ => exact ⟨_, rfl⟩
    | 3, _ => exact ⟨_, rfl⟩
    | 4, _ => exact ⟨_, rfl⟩
    | 5, _ => exact ⟨_, rfl⟩
  exact va_alen hx hb hT.1 (mx_P1 hH ha) 0 t (x := y) rfl hty rfl hd (kk.2.2 E p e R s m args below meth c Q H locs cells slots ls C h1 h2 h3 h4 hH hS hlv hr)
theorem ex_aald {a t n : Nat} {f : Nat → Option Nat} {x : Int32} (hd : decode (mi_c i) pc = .ok (.aaload, 1)) (ht : t = 2 ∨ t = 3 ∨ t = 4) (ha : M.2.2 a = some (mx_ra t n f)) (hin : vp_in x n) (kk : Ex X d i (pc + 1) lo (va_rf (f x.toNatClampNeg) :: st) M r M2) : Ex X d i pc lo (.int x :: .ref a :: st) M r M2 := by
  refine ⟨kk.1, kk.2.1, ?_⟩
  intro E p e R s m args below meth c Q H locs cells slots ls C h1 h2 h3 h4 hH hS hlv hr
  obtain ⟨hx, hb, hml, hown, hts, hT, hX, hnm, hbs, hXE⟩ := id C
  obtain ⟨ty, hty, hrf⟩ : ∃ ty, (mx_tys E)[t]? = some (ev_A E t, ty) ∧ ty.isReference = true := by
    rcases ht with rfl | rfl | rfl
    · exact ⟨_, rfl, rfl⟩
    · exact ⟨_, rfl, rfl⟩
    · exact ⟨_, rfl, rfl⟩
  have hlt : x.toNatClampNeg < n := Nat.not_le.mp fun q => hin (Or.inr q)
  exact W.aald (v := va_rf (f x.toNatClampNeg)) (ty := ty) hx hb (mx_at hH ha) ((hT.1.2 t _ hty).1 n (fun j => va_rf (f j))) hrf (fun q => by cases q) (by show ¬ (x < 0 ∨ (arrV _ _ _).slots.size ≤ _); rw [arrV_size]; exact hin) (by show (arrV _ _ _).slots[_]? = _; rw [arrV_read _ _ hlt]) rfl rfl hd (kk.2.2 E p e R s m args below meth c Q H locs cells slots ls C h1 h2 h3 h4 hH hS hlv hr)
theorem ex_zald {a n : Nat} {f : Nat → Int32} {x : Int32} (hd : decode (mi_c i) pc = .ok (.baload, 1)) (ha : M.2.2 a = some (mx_za n f)) (hin : vp_in x n) (kk : Ex X d i (pc + 1) lo (.int (f x.toNatClampNeg) :: st) M r M2) : Ex X d i pc lo (.int x :: .ref a :: st) M r M2 := by
  refine ⟨kk.1, kk.2.1, ?_⟩
  intro E p e R s m args below meth c Q H locs cells slots ls C h1 h2 h3 h4 hH hS hlv hr
  obtain ⟨hx, hb, hml, hown, hts, hT, hX, hnm, hbs, hXE⟩ := id C
  exact va_zald hx hb hT.1 (mx_P1 hH ha) 0 5 (n := n) (f := f) rfl rfl hin hd (kk.2.2 E p e R s m args below meth c Q H locs cells slots ls C h1 h2 h3 h4 hH hS hlv hr)
theorem ex_zast {a n : Nat} {f : Nat → Int32} {x y : Int32} (hd : decode (mi_c i) pc = .ok (.bastore, 1)) (ha : M.2.2 a = some (mx_za n f)) (hin : vp_in x n) (hy : narrow .boolean (.int y) = .int y) (kk : Ex X d i (pc + 1) lo st (mx_set M a (mx_za n (upd f x.toNatClampNeg y))) r M2) : Ex X d i pc lo (.int y :: .int x :: .ref a :: st) M r M2 := by
  refine ⟨kk.1, kk.2.1, ?_⟩
  intro E p e R s m args below meth c Q H locs cells slots ls C h1 h2 h3 h4 hH hS hlv hr
  obtain ⟨hx, hb, hml, hown, hts, hT, hX, hnm, hbs, hXE⟩ := id C
  refine W.zast hx hb (mx_at hH ha) ((hT.1.2 5 _ (mx_t5 E)).1 n (fun j => .int (f j))) (fun q => by cases q) (by show ¬ (x < 0 ∨ (arrV _ _ _).slots.size ≤ _); rw [arrV_size]; exact hin) rfl rfl hd fun H1 e1 z oq => ?_
  refine kk.2.2 E p e R s m args below meth c Q H1 _ cells slots ls C h1 h2 h3 h4 (mx_wr hH ha z oq ?_) (hS.put z oq (hH.2.2 a _ ha).1) hlv hr
  show H1[a]? = some (vp_cell _ _)
  rw [e1, hy]
  show some ((vp_cell _ (n, .inl f)).setSlot _ _) = some (vp_cell _ (n, .inl _))
  rw [vp_cell_i, vp_cell_i, arrV_store]
  congr 2
  funext q
  by_cases hq : q = x.toNatClampNeg
  · subst hq
    simp [updV, upd]
  · simp [updV, upd, hq]
theorem ex_iast {a n : Nat} {f : Nat → Int32} {x y : Int32} (hd : decode (mi_c i) pc = .ok (.iastore, 1)) (ha : M.2.2 a = some (mx_ia n f)) (hin : vp_in x n) (kk : Ex X d i (pc + 1) lo st (mx_set M a (mx_ia n (upd f x.toNatClampNeg y))) r M2) : Ex X d i pc lo (.int y :: .int x :: .ref a :: st) M r M2 := by
  refine ⟨kk.1, kk.2.1, ?_⟩
  intro E p e R s m args below meth c Q H locs cells slots ls C h1 h2 h3 h4 hH hS hlv hr
  obtain ⟨hx, hb, hml, hown, hts, hT, hX, hnm, hbs, hXE⟩ := id C
  refine W.iast hx hb (mx_at hH ha) ((hT.1.2 0 _ (mx_t0 E)).1 n (fun j => .int (f j))) (fun q => by cases q) (by show ¬ (x < 0 ∨ (arrV _ _ _).slots.size ≤ _); rw [arrV_size]; exact hin) rfl rfl hd fun H1 e1 z oq => ?_
  refine kk.2.2 E p e R s m args below meth c Q H1 _ cells slots ls C h1 h2 h3 h4 (mx_wr hH ha z oq ?_) (hS.put z oq (hH.2.2 a _ ha).1) hlv hr
  show H1[a]? = some (vp_cell _ _)
  rw [e1]
  show some ((vp_cell _ (n, .inl f)).setSlot _ _) = some (vp_cell _ (n, .inl _))
  rw [vp_cell_i, vp_cell_i, arrV_store]
  congr 2
  funext q
  by_cases hq : q = x.toNatClampNeg
  · subst hq
    simp [updV, upd]
  · simp [updV, upd, hq]
theorem ex_last {a n : Nat} {f : Nat → Int64} {x : Int32} {y : Int64} (hd : decode (mi_c i) pc = .ok (.lastore, 1)) (ha : M.2.2 a = some (mx_la n f)) (hin : vp_in x n) (kk : Ex X d i (pc + 1) lo st (mx_set M a (mx_la n (vp_updL f x.toNatClampNeg y))) r M2) : Ex X d i pc lo (.long y :: .int x :: .ref a :: st) M r M2 := by
  refine ⟨kk.1, kk.2.1, ?_⟩
  intro E p e R s m args below meth c Q H locs cells slots ls C h1 h2 h3 h4 hH hS hlv hr
  obtain ⟨hx, hb, hml, hown, hts, hT, hX, hnm, hbs, hXE⟩ := id C
  refine W.last hx hb (mx_at hH ha) ((hT.1.2 1 _ (mx_t1 E)).1 n (fun j => .long (f j))) (fun q => by cases q) (by show ¬ (x < 0 ∨ (arrV _ _ _).slots.size ≤ _); rw [arrV_size]; exact hin) rfl rfl hd fun H1 e1 z oq => ?_
  refine kk.2.2 E p e R s m args below meth c Q H1 _ cells slots ls C h1 h2 h3 h4 (mx_wr hH ha z oq ?_) (hS.put z oq (hH.2.2 a _ ha).1) hlv hr
  show H1[a]? = some (vp_cell _ _)
  rw [e1]
  show some ((vp_cell _ (n, .inr (.inl f))).setSlot _ _) = some (vp_cell _ (n, .inr (.inl _)))
  rw [vp_cell_l, vp_cell_l, arrV_store]
  congr 2
  funext q
  by_cases hq : q = x.toNatClampNeg
  · subst hq
    simp [updV, vp_updL]
  · simp [updV, vp_updL, hq]
/-- a World or a Text laid into a row of them -/
theorem ex_aast {a t n v ci : Nat} {vs : List Value} {f : Nat → Option Nat} {x : Int32} (hd : decode (mi_c i) pc = .ok (.aastore, 1)) (ht : (t = 2 ∧ ci = 9) ∨ (t = 3 ∧ ci = 8)) (ha : M.2.2 a = some (mx_ra t n f)) (hv : M.2.2 v = some (mx_ob ci vs)) (hin : vp_in x n) (kk : Ex X d i (pc + 1) lo st (mx_set M a (mx_ra t n (va_up f x.toNatClampNeg (some v)))) r M2) : Ex X d i pc lo (.ref v :: .int x :: .ref a :: st) M r M2 := by
  refine ⟨kk.1, kk.2.1, ?_⟩
  intro E p e R s m args below meth c Q H locs cells slots ls C h1 h2 h3 h4 hH hS hlv hr
  obtain ⟨hx, hb, hml, hown, hts, hT, hX, hnm, hbs, hXE⟩ := id C
  obtain ⟨rc, hty, hci⟩ : ∃ rc : vw_C, (mx_tys E)[t]? = some (ev_A E t, .object rc.1) ∧ mx_cl[ci]? = some rc := by
    rcases ht with ⟨rfl, rfl⟩ | ⟨rfl, rfl⟩
    · exact ⟨(RX9, TX9, 12), rfl, rfl⟩
    · exact ⟨(RX8, TX8, 6), rfl, rfl⟩
  have hlt : x.toNatClampNeg < n := Nat.not_le.mp fun q => hin (Or.inr q)
  have h0 : ¬ x < 0 := fun q => hin (Or.inl q)
  obtain ⟨r', hr', cellV, g1, g2, g3, -⟩ := mx_at hH hv
  have hcls := (hT.1.1 ci rc hci).2
  obtain ⟨kA, comp, k1, k2, k3, -⟩ := (hT.1.2 t _ hty).2
  have hcomp : comp = (ev_D E).1 ci := Option.some.inj (k3.symm.trans hcls.1)
  subst hcomp
  obtain ⟨kC, hkC, -⟩ := hcls.2
  refine W.aast hx hb (mx_at hH ha) (fun q h => by cases h) (fun h => by cases h) k1 k2 rfl hkC ⟨h0, by show _ < (arrV _ _ _).slots.size; rw [arrV_size]; exact hlt⟩ g1 (fun q h => by rw [g3] at h; cases h) (by rw [g2]; exact hkC) (by rw [g2]; exact va_assign hcls) rfl rfl hd fun H1 e1 z oq => ?_
  refine kk.2.2 E p e R s m args below meth c Q H1 _ cells slots ls C h1 h2 h3 h4 (mx_wr hH ha z oq ?_) (hS.put z oq (hH.2.2 a _ ha).1) hlv hr
  show H1[a]? = some (vp_cell _ _)
  rw [e1]
  show some ((vp_cell _ (n, .inr (.inr (.inr (.inr f))))).setSlot _ _) = some (vp_cell _ (n, .inr (.inr (.inr (.inr _)))))
  rw [vp_cell_q, vp_cell_q, arrV_store]
  congr 2
  funext q
  by_cases hq : q = x.toNatClampNeg
  · subst hq
    simp [updV, va_up, va_rf]
  · simp [updV, va_up, hq]
theorem ex_aastN {a t n : Nat} {f : Nat → Option Nat} {x : Int32} (hd : decode (mi_c i) pc = .ok (.aastore, 1)) (ht : t = 2 ∨ t = 3) (ha : M.2.2 a = some (mx_ra t n f)) (hin : vp_in x n) (kk : Ex X d i (pc + 1) lo st (mx_set M a (mx_ra t n (va_up f x.toNatClampNeg none))) r M2) : Ex X d i pc lo (.null :: .int x :: .ref a :: st) M r M2 := by
  refine ⟨kk.1, kk.2.1, ?_⟩
  intro E p e R s m args below meth c Q H locs cells slots ls C h1 h2 h3 h4 hH hS hlv hr
  obtain ⟨hx, hb, hml, hown, hts, hT, hX, hnm, hbs, hXE⟩ := id C
  obtain ⟨rc, hty⟩ : ∃ rc : String, (mx_tys E)[t]? = some (ev_A E t, .object rc) := by
    rcases ht with rfl | rfl
    · exact ⟨_, rfl⟩
    · exact ⟨_, rfl⟩
  refine va_WaastN (C := rc) hx hb (mx_at hH ha) ((hT.1.2 t _ hty).1 n (fun j => va_rf (f j))) (fun h => by cases h) (by show ¬ (x < 0 ∨ (arrV _ _ _).slots.size ≤ _); rw [arrV_size]; exact hin) rfl rfl hd fun H1 e1 z oq => ?_
  refine kk.2.2 E p e R s m args below meth c Q H1 _ cells slots ls C h1 h2 h3 h4 (mx_wr hH ha z oq ?_) (hS.put z oq (hH.2.2 a _ ha).1) hlv hr
  show H1[a]? = some (vp_cell _ _)
  rw [e1]
  show some ((vp_cell _ (n, .inr (.inr (.inr (.inr f))))).setSlot _ _) = some (vp_cell _ (n, .inr (.inr (.inr (.inr _)))))
  rw [vp_cell_q, vp_cell_q, arrV_store]
  congr 2
  funext q
  by_cases hq : q = x.toNatClampNeg
  · subst hq
    simp [updV, va_up, va_rf]
  · simp [updV, va_up, hq]
end MXR
