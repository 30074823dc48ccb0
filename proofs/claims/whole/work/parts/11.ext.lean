/-! what lies outside: the script, POWERS, the String constants; and references that may be null -/
section MXR
variable {X : XV} {d : Nat} {i : MI} {pc : Nat} {lo : List (Nat × Value)} {st : List Value} {M M2 : Mem} {r : Option Value}
theorem ex_sld {x : Int32} (hd : decode (mi_c i) pc = .ok (.iaload, 1)) (hin : vp_in x X.2.1) (kk : Ex X d i (pc + 1) lo (.int (X.2.2.1 x.toNatClampNeg) :: st) M r M2) : Ex X d i pc lo (.int x :: .ref X.1 :: st) M r M2 := by
  refine ⟨kk.1, kk.2.1, ?_⟩
  intro E p e R s m args below meth c Q H locs cells slots ls C h1 h2 h3 h4 hH hS hlv hr
  obtain ⟨hx, hb, hml, hown, hts, hT, hX, hnm, hbs, rfl⟩ := id C
  exact va_sld hx hb hX.1 hX.2.1.1 hX.2.1.2 hS hin hd (kk.2.2 E p e R s m args below meth c Q H locs cells slots ls C h1 h2 h3 h4 hH hS hlv hr)
theorem ex_slen (hd : decode (mi_c i) pc = .ok (.arraylength, 1)) (kk : Ex X d i (pc + 1) lo (.int (Int32.ofNat X.2.1) :: st) M r M2) : Ex X d i pc lo (.ref X.1 :: st) M r M2 := by
  refine ⟨kk.1, kk.2.1, ?_⟩
  intro E p e R s m args below meth c Q H locs cells slots ls C h1 h2 h3 h4 hH hS hlv hr
  obtain ⟨hx, hb, hml, hown, hts, hT, hX, hnm, hbs, rfl⟩ := id C
  exact va_slen hx hb hX.1 hX.2.1.1 hX.2.1.2 hS hd (kk.2.2 E p e R s m args below meth c Q H locs cells slots ls C h1 h2 h3 h4 hH hS hlv hr)
theorem ex_pows {x : Nat} (hd : decode (mi_c i) pc = .ok (.getstatic x, 3)) (hw : Cond.fieldLink (mi_y i).cls x "MachinesDream" "POWERS" "[I" ∈ mx_g) (kk : Ex X d i (pc + 3) lo (.ref (X.2.2.2 0) :: st) M r M2) : Ex X d i pc lo st M r M2 := by
  refine ⟨kk.1, kk.2.1, ?_⟩
  intro E p e R s m args below meth c Q H locs cells slots ls C h1 h2 h3 h4 hH hS hlv hr
  obtain ⟨hx, hb, hml, hown, hts, hT, hX, hnm, hbs, rfl⟩ := id C
  exact va_gets hx hb hX.2.2.1 hS hown (hts _ hw) (fun _ h9 => h9) hd (kk.2.2 E p e R s m args below meth c Q H locs cells slots ls C h1 h2 h3 h4 hH hS hlv hr)
theorem ex_powld {x : Int32} (hd : decode (mi_c i) pc = .ok (.iaload, 1)) (hin : vp_in x 4) (kk : Ex X d i (pc + 1) lo (mx_pow x.toNatClampNeg :: st) M r M2) : Ex X d i pc lo (.int x :: .ref (X.2.2.2 0) :: st) M r M2 := by
  refine ⟨kk.1, kk.2.1, ?_⟩
  intro E p e R s m args below meth c Q H locs cells slots ls C h1 h2 h3 h4 hH hS hlv hr
  obtain ⟨hx, hb, hml, hown, hts, hT, hX, hnm, hbs, rfl⟩ := id C
  exact va_ti hx hb hX.2.2.2.1 hS hin rfl hd (kk.2.2 E p e R s m args below meth c Q H locs cells slots ls C h1 h2 h3 h4 hH hS hlv hr)
theorem ex_powlen (hd : decode (mi_c i) pc = .ok (.arraylength, 1)) (kk : Ex X d i (pc + 1) lo (.int 4 :: st) M r M2) : Ex X d i pc lo (.ref (X.2.2.2 0) :: st) M r M2 := by
  refine ⟨kk.1, kk.2.1, ?_⟩
  intro E p e R s m args below meth c Q H locs cells slots ls C h1 h2 h3 h4 hH hS hlv hr
  obtain ⟨hx, hb, hml, hown, hts, hT, hX, hnm, hbs, rfl⟩ := id C
  exact va_tlen hx hb hX.2.2.2.1 hS rfl hd (kk.2.2 E p e R s m args below meth c Q H locs cells slots ls C h1 h2 h3 h4 hH hS hlv hr)
theorem ex_comp {x : Nat} (hd : decode (mi_c i) pc = .ok (.getstatic x, 3)) (hw : Cond.fieldLink (mi_y i).cls x "java/lang/String" "COMPACT_STRINGS" "Z" ∈ mx_g) (kk : Ex X d i (pc + 3) lo (.int 1 :: st) M r M2) : Ex X d i pc lo st M r M2 := by
  refine ⟨kk.1, kk.2.1, ?_⟩
  intro E p e R s m args below meth c Q H locs cells slots ls C h1 h2 h3 h4 hH hS hlv hr
  obtain ⟨hx, hb, hml, hown, hts, hT, hX, hnm, hbs, rfl⟩ := id C
  exact va_gets hx hb hX.2.2.2.2.1 hS hown (hts _ hw) (fun _ h9 => h9) hd (kk.2.2 E p e R s m args below meth c Q H locs cells slots ls C h1 h2 h3 h4 hH hS hlv hr)
theorem ex_fmt {x : Nat} (hd : decode (mi_c i) pc = .ok (.getstatic x, 3)) (hw : Cond.fieldLink (mi_y i).cls x "jdk/internal/util/Preconditions" "SIOOBE_FORMATTER" "Ljava/util/function/BiFunction;" ∈ mx_g) (kk : ∀ o : Option Nat, Ex X d i (pc + 3) lo (va_rf o :: st) M r M2) : Ex X d i pc lo st M r M2 := by
  refine ⟨(kk none).1, (kk none).2.1, ?_⟩
  intro E p e R s m args below meth c Q H locs cells slots ls C h1 h2 h3 h4 hH hS hlv hr
  obtain ⟨hx, hb, hml, hown, hts, hT, hX, hnm, hbs, rfl⟩ := id C
  rcases hX.2.2.2.2.2.1 with h | ⟨t, h⟩
  · exact va_gets hx hb h hS hown (hts _ hw) (fun _ h9 => h9) hd ((kk none).2.2 E p e R s m args below meth c Q H locs cells slots ls C h1 h2 h3 h4 hH hS hlv hr)
  · exact va_gets hx hb h hS hown (hts _ hw) (fun _ h9 => h9) hd ((kk (some t)).2.2 E p e R s m args below meth c Q H locs cells slots ls C h1 h2 h3 h4 hH hS hlv hr)
/-- a String constant: WORDS (0), SYMBOLS (1) -/
theorem ex_ldcS {x q : Nat} (hd : decode (mi_c i) pc = .ok (.ldc x, 2)) (hi : (mi_y i).cls = "MachinesDream$Tape") (hq : (x = 56 ∧ q = 0) ∨ (x = 76 ∧ q = 1)) (kk : Ex X d i (pc + 2) lo (.ref (X.2.2.2 (2 + q)) :: st) M r M2) : Ex X d i pc lo st M r M2 := by
  refine ⟨kk.1, kk.2.1, ?_⟩
  intro E p e R s m args below meth c Q H locs cells slots ls C h1 h2 h3 h4 hH hS hlv hr
  obtain ⟨hx, hb, hml, hown, hts, hT, hX, hnm, hbs, rfl⟩ := id C
  rw [hi] at hown
  rcases hq with ⟨rfl, rfl⟩ | ⟨rfl, rfl⟩
  · exact va_ldcS hx hb hown hT.2.2.2.2.2.2.1 hd (kk.2.2 E p e R s m args below meth c Q H locs cells slots ls C h1 h2 h3 h4 hH hS hlv hr)
  · exact va_ldcS hx hb hown hT.2.2.2.2.2.2.2 hd (kk.2.2 E p e R s m args below meth c Q H locs cells slots ls C h1 h2 h3 h4 hH hS hlv hr)
theorem ex_sval {x q : Nat} (hd : decode (mi_c i) pc = .ok (.getfield x, 3)) (hq : q < 2) (hw : Cond.fieldLink (mi_y i).cls x "java/lang/String" "value" "[B" ∈ mx_g) (kk : Ex X d i (pc + 3) lo (.ref (X.2.2.2 (4 + q)) :: st) M r M2) : Ex X d i pc lo (.ref (X.2.2.2 (2 + q)) :: st) M r M2 := by
  refine ⟨kk.1, kk.2.1, ?_⟩
  intro E p e R s m args below meth c Q H locs cells slots ls C h1 h2 h3 h4 hH hS hlv hr
  obtain ⟨hx, hb, hml, hown, hts, hT, hX, hnm, hbs, rfl⟩ := id C
  exact vk_getf hx hb (hX.2.2.2.2.2.2.1 q hq).2.2.1 hS hown (hts _ hw) (fun _ h9 => h9) hd (kk.2.2 E p e R s m args below meth c Q H locs cells slots ls C h1 h2 h3 h4 hH hS hlv hr)
theorem ex_scod {x q : Nat} (hd : decode (mi_c i) pc = .ok (.getfield x, 3)) (hq : q < 2) (hw : Cond.fieldLink (mi_y i).cls x "java/lang/String" "coder" "B" ∈ mx_g) (kk : Ex X d i (pc + 3) lo (.int 0 :: st) M r M2) : Ex X d i pc lo (.ref (X.2.2.2 (2 + q)) :: st) M r M2 := by
  refine ⟨kk.1, kk.2.1, ?_⟩
  intro E p e R s m args below meth c Q H locs cells slots ls C h1 h2 h3 h4 hH hS hlv hr
  obtain ⟨hx, hb, hml, hown, hts, hT, hX, hnm, hbs, rfl⟩ := id C
  exact vk_getf hx hb (hX.2.2.2.2.2.2.1 q hq).2.1 hS hown (hts _ hw) (fun _ h9 => h9) hd (kk.2.2 E p e R s m args below meth c Q H locs cells slots ls C h1 h2 h3 h4 hH hS hlv hr)
theorem ex_sbyt {q : Nat} {x : Int32} (hd : decode (mi_c i) pc = .ok (.baload, 1)) (hq : q < 2) (hin : vp_in x (mx_len.getD q 0)) (kk : Ex X d i (pc + 1) lo (.int (([mx_wd, mx_sy].getD q []).getD x.toNatClampNeg 0) :: st) M r M2) : Ex X d i pc lo (.int x :: .ref (X.2.2.2 (4 + q)) :: st) M r M2 := by
  refine ⟨kk.1, kk.2.1, ?_⟩
  intro E p e R s m args below meth c Q H locs cells slots ls C h1 h2 h3 h4 hH hS hlv hr
  obtain ⟨hx, hb, hml, hown, hts, hT, hX, hnm, hbs, rfl⟩ := id C
  exact va_tb hx hb (hX.2.2.2.2.2.2.1 q hq).2.2.2 hS hin rfl hd (kk.2.2 E p e R s m args below meth c Q H locs cells slots ls C h1 h2 h3 h4 hH hS hlv hr)
theorem ex_sbln {q : Nat} (hd : decode (mi_c i) pc = .ok (.arraylength, 1)) (hq : q < 2) (kk : Ex X d i (pc + 1) lo (.int (Int32.ofNat (mx_len.getD q 0)) :: st) M r M2) : Ex X d i pc lo (.ref (X.2.2.2 (4 + q)) :: st) M r M2 := by
  refine ⟨kk.1, kk.2.1, ?_⟩
  intro E p e R s m args below meth c Q H locs cells slots ls C h1 h2 h3 h4 hH hS hlv hr
  obtain ⟨hx, hb, hml, hown, hts, hT, hX, hnm, hbs, rfl⟩ := id C
  exact va_tlen hx hb (hX.2.2.2.2.2.2.1 q hq).2.2.2 hS rfl hd (kk.2.2 E p e R s m args below meth c Q H locs cells slots ls C h1 h2 h3 h4 hH hS hlv hr)
/-- a call on a String constant -/
theorem ex_callVS {x n q : Nat} {j : MI} {As : List Value} {M1 : Mem} {v : Option Value} (hd : decode (mi_c i) pc = .ok (.invokevirtual x, 3)) (hJ : mx_J j n) (hw : Cond.methodLink (mi_y i).cls x (mi_y j) ∈ mx_g) (hi : Cond.instanceMethod (mi_y j) ∈ mx_g) (hs : Cond.selects "java/lang/String" (mi_y j) (mi_y j) ∈ mx_g) (hq : q < 2) (hn : As.length = n) (hst : (st.map fun v => v.category).sum ≤ 8)
    (hM : Mx X d j (.ref (X.2.2.2 (2 + q)) :: As) M v M1) (kk : Ex X (d + 1) i (pc + 3) lo (v.toList ++ st) M1 r M2) : Ex X (d + 1) i pc lo (As.reverse ++ .ref (X.2.2.2 (2 + q)) :: st) M r M2 := by
  obtain ⟨c1, c2, hm⟩ := hM
  refine ⟨Nat.le_trans c1 kk.1, Nat.le_trans c2 kk.2.1, ?_⟩
  intro E p e R s m args below meth c Q H locs cells slots ls C h1 h2 h3 h4 hH hS hlv hr
  obtain ⟨hx, hcb, hml, hown, hts, hT, hX, hnm, hbs, hXE⟩ := id C
  obtain ⟨j1, j2, j3, j4⟩ := hJ
  have k1 := kk.1
  have k2 := kk.2.1
  have hrc := vk_recv (i := q) hX.2.2.2.2.2.2 hq hS
  rw [← hXE] at hm ⊢
  rw [← hXE] at C kk
  exact mx_cont C h1 h2 h3 h4 hH hS hlv hr c1 c2 kk (va_runV (Ts := mx_g) (C := "java/lang/String") ⟨hx, hcb, hml, hown, hts⟩ (hm E rfl) ⟨callB_of (Ts := mx_g) n hts (mx_goodIn j1) rfl rfl rfl (hts _ j2) (hts _ hw) j3 ⟨h1, by show 8 + (mi_n j + 11) + 100 * d ≤ R.locals; omega⟩, hts _ hi, hts _ hs⟩ ⟨mx_blind E _ M, hrc, fun U hU hW => mx_pre C hH hS U hU hW⟩ rfl hn hlv.1 rfl (lv_room hst) hd ⟨by omega, by omega⟩)
/-- references that may be null -/
theorem ex_aloadq_n {n : Fin 4} {q : Nat} {o : Option Nat} (j : Nat) (hd : decode (mi_c i) pc = .ok (.aload_n n, 1)) (hq : (n : Nat) = q) (hj : lo[j]? = some (q, va_rf o)) (kk : Ex X d i (pc + 1) lo (va_rf o :: st) M r M2) : Ex X d i pc lo st M r M2 := by
  cases o with
  | none => exact ex_go (fun p l e R s m args below meth c Q H locs cells slots ls hx hb hl hown hts k9 => lv_aload_nN hx hb hd hq (lv_at hl j hj) k9) kk
  | some x => exact ex_aload_n j hd hq hj kk
theorem ex_aloadq {q : Nat} {o : Option Nat} (j : Nat) (hd : decode (mi_c i) pc = .ok (.aload q, 2)) (hj : lo[j]? = some (q, va_rf o)) (kk : Ex X d i (pc + 2) lo (va_rf o :: st) M r M2) : Ex X d i pc lo st M r M2 := by
  cases o with
  | none => exact ex_go (fun p l e R s m args below meth c Q H locs cells slots ls hx hb hl hown hts k9 => lv_aloadN hx hb hd (lv_at hl j hj) k9) kk
  | some x => exact ex_aload j hd hj kk
theorem ex_astoreq_n {n : Fin 4} {w : Nat} {o : Option Nat} (lo' : List (Nat × Value)) (hd : decode (mi_c i) pc = .ok (.astore_n n, 1)) (hq : (n : Nat) = w) (hn : w < mi_n i) (hl' : (w, va_rf o) :: lo.filter (fun q => !(q.1 == w) && !(q.1 + 1 == w && q.2.category == 2)) = lo') (kk : Ex X d i (pc + 1) lo' st M r M2) : Ex X d i pc lo (va_rf o :: st) M r M2 := by
  cases o with
  | none => exact ex_lc (fun p l e R s m args below meth c Q H locs cells slots ls hx hb hl k9 => lv_astore_nN hx hb hd hq hl hn hl' k9) kk
  | some x => exact ex_astore_n lo' hd hq hn hl' kk
theorem ex_ifnullq_t {o : Option Nat} {off : Int} (tgt : Nat) (hd : decode (mi_c i) pc = .ok (.ifnull off, 3)) (ht : (pc : Int) + off = (tgt : Int)) (h : o = none) (kk : Ex X d i tgt lo st M r M2) : Ex X d i pc lo (va_rf o :: st) M r M2 := by
  subst h
  exact ex_ifnull_n tgt hd ht kk
theorem ex_ifnullq_f {o : Option Nat} {off : Int} {a : Nat} (hd : decode (mi_c i) pc = .ok (.ifnull off, 3)) (h : o = some a) (kk : Ex X d i (pc + 3) lo st M r M2) : Ex X d i pc lo (va_rf o :: st) M r M2 := by
  subst h
  exact ex_ifnull_r hd kk
theorem ex_ifnonnullq_t {o : Option Nat} {off : Int} {a : Nat} (tgt : Nat) (hd : decode (mi_c i) pc = .ok (.ifnonnull off, 3)) (ht : (pc : Int) + off = (tgt : Int)) (h : o = some a) (kk : Ex X d i tgt lo st M r M2) : Ex X d i pc lo (va_rf o :: st) M r M2 := by
  subst h
  exact ex_ifnonnull_r tgt hd ht kk
theorem ex_ifnonnullq_f {o : Option Nat} {off : Int} (hd : decode (mi_c i) pc = .ok (.ifnonnull off, 3)) (h : o = none) (kk : Ex X d i (pc + 3) lo st M r M2) : Ex X d i pc lo (va_rf o :: st) M r M2 := by
  subst h
  exact ex_ifnonnull_n hd kk
theorem ex_areturnq {o : Option Nat} (hd : decode (mi_c i) pc = .ok (.areturn, 1)) : Ex X d i pc lo [va_rf o] M (some (va_rf o)) M := by
  cases o with
  | none => exact ex_areturnN hd
  | some x => exact ex_areturn hd
/-- a Text, or none, laid into a row of them -/
theorem ex_aastq {a n : Nat} {f : Nat → Option Nat} {o : Option Nat} {x : Int32} (hd : decode (mi_c i) pc = .ok (.aastore, 1)) (ha : M.2.2 a = some (mx_ra 3 n f)) (hv : ∀ v, o = some v → ∃ vs, M.2.2 v = some (mx_ob 8 vs)) (hin : vp_in x n) (kk : Ex X d i (pc + 1) lo st (mx_set M a (mx_ra 3 n (va_up f x.toNatClampNeg o))) r M2) : Ex X d i pc lo (va_rf o :: .int x :: .ref a :: st) M r M2 := by
  cases o with
  | none => exact ex_aastN hd (Or.inr rfl) ha hin kk
  | some v =>
    obtain ⟨vs, hvs⟩ := hv v rfl
    exact ex_aast hd (Or.inr ⟨rfl, rfl⟩) ha hvs hin kk
end MXR
