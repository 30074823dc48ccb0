/-! more rules: calls by the number of arguments, booleans, divisions -/
def fu : Nat := 1000000
theorem jz_eq_t {b : Bool} (h : b = false) : jz b = 0 := by subst h; rfl
theorem jz_eq_f {b : Bool} (h : ¬ b = false) : ¬ jz b = 0 := by cases b <;> simp_all [jz]
theorem jz_ne_t {b : Bool} (h : b = true) : ¬ jz b = 0 := by subst h; decide
theorem jz_ne_f {b : Bool} (h : ¬ b = true) : jz b = 0 := by cases b <;> simp_all [jz]
theorem jz_nar (b : Bool) : narrow .boolean (.int (jz b)) = .int (jz b) := by cases b <;> rfl
theorem jz_fit (b : Bool) : fits .boolean (.int (jz b)) = true := by cases b <;> rfl
theorem i32_of {x y : Int32} {q : Int} (e : x.toInt = q) (h : y.toInt = q) : x = y := Int32.toInt_inj.mp (e.trans h.symm)
theorem mx_rok_q {i : MI} {o : Option Nat} (h : ∃ rt, mi_r i = some rt ∧ ((∃ n, rt = .object n) ∨ ∃ t, rt = .array t)) : mx_rok i (some (va_rf o)) := by cases o <;> exact h
def powV (j : Nat) : Int32 := if j = 0 then 1 else if j = 1 then 10 else if j = 2 then 100 else 1000
noncomputable def powR (x : Int32) : Option Int32 := if x < 0 ∨ 4 ≤ x.toNatClampNeg then none else some (powV x.toNatClampNeg)
noncomputable def scR (X : XV) (x : Int32) : Option Int32 := if x < 0 ∨ X.2.1 ≤ x.toNatClampNeg then none else some (X.2.2.1 x.toNatClampNeg)
def gZ (M : Mem) (ci a k : Nat) : Option Bool := match gF M ci a k with
  | some (.int x) => if x = 0 then some false else if x = 1 then some true else none
  | _ => none
noncomputable def rZb (M : Mem) (a : Nat) (i : Int32) : Option Bool := (rZ M a i).bind fun x => if x = 0 then some false else if x = 1 then some true else none
noncomputable def rR (t : Nat) (M : Mem) (a : Nat) (i : Int32) : Option Nat := (rQ t M a i).bind fun o => o
theorem gZ_some {M : Mem} {ci a k : Nat} {b : Bool} (h : gZ M ci a k = some b) : gF M ci a k = some (.int (jz b)) := by
  unfold gZ at h
  split at h
  · rename_i y hy
    split at h
    · rename_i h0
      cases h
      rw [hy, h0]; rfl
    · split at h
      · rename_i h1
        cases h
        rw [hy, h1]; rfl
      · cases h
  · cases h
theorem rZb_some {M : Mem} {a : Nat} {i : Int32} {b : Bool} (h : rZb M a i = some b) : rZ M a i = some (jz b) := by
  obtain ⟨x, hx, h⟩ := ob_some h
  split at h
  · rename_i h0
    cases h
    rw [hx, h0]; rfl
  · split at h
    · rename_i h1
      cases h
      rw [hx, h1]; rfl
    · cases h
theorem clI_kind {M M1 : Mem} {a : Nat} (h : clI M a = some M1) : ∃ y, M1.2.2 M.1 = some (.inl (0, y)) := by
  unfold clI at h
  split at h
  · cases h
    exact ⟨_, if_pos rfl⟩
  · cases h
noncomputable def sbR (q : Nat) (i : Int32) : Option Int32 := if i < 0 ∨ mx_len.getD q 0 ≤ i.toNatClampNeg then none else some (([mx_wd, mx_sy].getD q []).getD i.toNatClampNeg 0)
def ckC (x : Int32) : Option Int32 := if x = (x.toUInt32 % 65536).toInt32 then some x else none
def ckB (x : Int32) : Option Int32 := if x = x.toInt8.toInt32 then some x else none
theorem ckC_some {x y : Int32} (h : ckC x = some y) : x = y ∧ narrow .char (.int y) = .int y := by
  unfold ckC at h
  split at h
  · rename_i hx
    cases h
    have h1 := pk_nc x
    rw [← hx] at h1
    exact ⟨rfl, h1⟩
  · cases h
theorem ckB_some {x y : Int32} (h : ckB x = some y) : x = y ∧ narrow .byte (.int y) = .int y := by
  unfold ckB at h
  split at h
  · rename_i hx
    cases h
    have h1 := pk_nb x
    rw [← hx] at h1
    exact ⟨rfl, h1⟩
  · cases h
section MXR
variable {X : XV} {d : Nat} {i : MI} {pc : Nat} {lo : List (Nat × Value)} {st : List Value} {M M1 M2 : Mem} {r : Option Value}
theorem ex_gZ {x ci k a : Nat} {v : Bool} (h : gZ M ci a k = some v) (hd : decode (mi_c i) pc = .ok (.getfield x, 3)) (hF : mx_F (mi_y i).cls x ci k) (kk : Ex X d i (pc + 3) lo (.int (jz v) :: st) M r M2) : Ex X d i pc lo (.ref a :: st) M r M2 := by
  obtain ⟨fs, h1, h2⟩ := gF_some (gZ_some h)
  exact ex_getf hd hF h1 h2 kk
theorem ex_rZb {a : Nat} {x : Int32} {v : Bool} (h : rZb M a x = some v) (hd : decode (mi_c i) pc = .ok (.baload, 1)) (kk : Ex X d i (pc + 1) lo (.int (jz v) :: st) M r M2) : Ex X d i pc lo (.int x :: .ref a :: st) M r M2 := ex_rZ (rZb_some h) hd kk
theorem ex_rR {a t v : Nat} {x : Int32} (h : rR t M a x = some v) (ht : t = 2 ∨ t = 3 ∨ t = 4) (hd : decode (mi_c i) pc = .ok (.aaload, 1)) (kk : Ex X d i (pc + 1) lo (.ref v :: st) M r M2) : Ex X d i pc lo (.int x :: .ref a :: st) M r M2 := by
  obtain ⟨o, h1, h2⟩ := ob_some h
  subst h2
  exact ex_rQ h1 ht hd kk
theorem ex_powR {x v : Int32} (h : powR x = some v) (hd : decode (mi_c i) pc = .ok (.iaload, 1)) (kk : Ex X d i (pc + 1) lo (.int v :: st) M r M2) : Ex X d i pc lo (.int x :: .ref (X.2.2.2 0) :: st) M r M2 := by
  unfold powR at h
  split at h
  · cases h
  · rename_i hn
    cases h
    exact ex_powld hd hn kk
theorem ex_sbR {q : Nat} {x v : Int32} (hq : q < 2) (h : sbR q x = some v) (hd : decode (mi_c i) pc = .ok (.baload, 1)) (kk : Ex X d i (pc + 1) lo (.int v :: st) M r M2) : Ex X d i pc lo (.int x :: .ref (X.2.2.2 (4 + q)) :: st) M r M2 := by
  unfold sbR at h
  split at h
  · cases h
  · rename_i hn
    cases h
    exact ex_sbyt hd hq hn kk
theorem ex_scR {x v : Int32} (h : scR X x = some v) (hd : decode (mi_c i) pc = .ok (.iaload, 1)) (kk : Ex X d i (pc + 1) lo (.int v :: st) M r M2) : Ex X d i pc lo (.int x :: .ref X.1 :: st) M r M2 := by
  unfold scR at h
  split at h
  · cases h
  · rename_i hn
    cases h
    exact ex_sld hd hn kk
theorem ex_idivq {x y v : Int32} (h : dvI x y = some v) (hd : decode (mi_c i) pc = .ok (.idiv, 1)) (kk : Ex X d i (pc + 1) lo (.int v :: st) M r M2) : Ex X d i pc lo (.int y :: .int x :: st) M r M2 := by
  unfold dvI at h
  split at h
  · cases h
  · rename_i hn
    cases h
    exact ex_idiv hd hn kk
theorem ex_iremq {x y v : Int32} (h : rmI x y = some v) (hd : decode (mi_c i) pc = .ok (.irem, 1)) (kk : Ex X d i (pc + 1) lo (.int v :: st) M r M2) : Ex X d i pc lo (.int y :: .int x :: st) M r M2 := by
  unfold rmI at h
  split at h
  · cases h
  · rename_i hn
    cases h
    exact ex_irem hd hn kk
theorem ex_ldivq {x y v : Int64} (h : dvL x y = some v) (hd : decode (mi_c i) pc = .ok (.ldiv, 1)) (kk : Ex X d i (pc + 1) lo (.long v :: st) M r M2) : Ex X d i pc lo (.long y :: .long x :: st) M r M2 := by
  unfold dvL at h
  split at h
  · cases h
  · rename_i hn
    cases h
    exact ex_ldiv hd hn kk
theorem ex_lremq {x y v : Int64} (h : rmL x y = some v) (hd : decode (mi_c i) pc = .ok (.lrem, 1)) (kk : Ex X d i (pc + 1) lo (.long v :: st) M r M2) : Ex X d i pc lo (.long y :: .long x :: st) M r M2 := by
  unfold rmL at h
  split at h
  · cases h
  · rename_i hn
    cases h
    exact ex_lrem hd hn kk
theorem ex_nwO {x ci N : Nat} (h : some (nwO M ci N) = some M1) (hd : decode (mi_c i) pc = .ok (.new x, 3)) (hN : mx_N (mi_y i).cls x ci N) (kk : Ex X d i (pc + 3) lo (.ref M.1 :: st) M1 r M2) : Ex X d i pc lo st M r M2 := by
  cases h
  exact ex_new hd hN kk
theorem ex_castI {x a : Nat} (ha : ∃ y, M.2.2 a = some (.inl (0, y))) (hd : decode (mi_c i) pc = .ok (.checkcast x, 3)) (hw : Cond.classLink (mi_y i).cls x "[I" ∈ mx_g) (kk : Ex X d i (pc + 3) lo (.ref a :: st) M r M2) : Ex X d i pc lo (.ref a :: st) M r M2 := by
  obtain ⟨y, hy⟩ := ha
  exact ex_cast hd hw hy kk
theorem ex_callS0v {j : MI} {x : Nat} (hd : decode (mi_c i) pc = .ok (.invokestatic x, 3)) (hJ : mx_J j 0) (hw : Cond.methodLink (mi_y i).cls x (mi_y j) ∈ mx_g) (hs : Cond.static (mi_y j) ∈ mx_g) (hst : (st.map fun v => v.category).sum ≤ 8) (hM : Mx X d j [] M none M1) (kk : Ex X (d + 1) i (pc + 3) lo st M1 r M2) : Ex X (d + 1) i pc lo (st) M r M2 := ex_callS (As := []) hd hJ hw hs rfl hst hM kk
theorem ex_callSN0v {j : MI} {x : Nat} {host : String} (hd : decode (mi_c i) pc = .ok (.invokestatic x, 3)) (hJ : mx_J j 0) (hw : Cond.methodLinkNest (mi_y i).cls x (mi_y j) host ∈ mx_n) (hs : Cond.static (mi_y j) ∈ mx_g) (hst : (st.map fun v => v.category).sum ≤ 8) (hM : Mx X d j [] M none M1) (kk : Ex X (d + 1) i (pc + 3) lo st M1 r M2) : Ex X (d + 1) i pc lo (st) M r M2 := ex_callSN (As := []) hd hJ hw hs rfl hst hM kk
theorem ex_callV0v {j : MI} {x : Nat} {b ci N : Nat} {T : u_T} (hd : decode (mi_c i) pc = .ok (.invokevirtual x, 3)) (hJ : mx_J j 0) (hw : Cond.methodLink (mi_y i).cls x (mi_y j) ∈ mx_g) (hi : Cond.instanceMethod (mi_y j) ∈ mx_g) (hs : Cond.selects (mi_y j).cls (mi_y j) (mi_y j) ∈ mx_g) (ho : isO M ci b) (hc : mx_cl[ci]? = some ((mi_y j).cls, T, N)) (hst : (st.map fun v => v.category).sum ≤ 8) (hM : Mx X d j [.ref b] M none M1) (kk : Ex X (d + 1) i (pc + 3) lo st M1 r M2) : Ex X (d + 1) i pc lo (.ref b :: st) M r M2 := by
  obtain ⟨fs, hf⟩ := ho
  exact ex_callV (As := []) hd hJ hw hi hs hc hf rfl hst hM kk
theorem ex_callVN0v {j : MI} {x : Nat} {b ci N : Nat} {T : u_T} {host : String} (hd : decode (mi_c i) pc = .ok (.invokevirtual x, 3)) (hJ : mx_J j 0) (hw : Cond.methodLinkNest (mi_y i).cls x (mi_y j) host ∈ mx_n) (hi : Cond.instanceMethod (mi_y j) ∈ mx_g) (hs : Cond.selects (mi_y j).cls (mi_y j) (mi_y j) ∈ mx_g) (ho : isO M ci b) (hc : mx_cl[ci]? = some ((mi_y j).cls, T, N)) (hst : (st.map fun v => v.category).sum ≤ 8) (hM : Mx X d j [.ref b] M none M1) (kk : Ex X (d + 1) i (pc + 3) lo st M1 r M2) : Ex X (d + 1) i pc lo (.ref b :: st) M r M2 := by
  obtain ⟨fs, hf⟩ := ho
  exact ex_callVN (As := []) hd hJ hw hi hs hc hf rfl hst hM kk
theorem ex_callI0v {j : MI} {x : Nat} {b : Nat} (hd : decode (mi_c i) pc = .ok (.invokespecial x, 3)) (hJ : mx_J j 0) (hw : Cond.methodLink (mi_y i).cls x (mi_y j) ∈ mx_g) (hi : Cond.instanceMethod (mi_y j) ∈ mx_g) (hr0 : mi_r j = none) (hnm : (mi_y j).name = "<init>") (hst : (st.map fun v => v.category).sum ≤ 8) (hM : Mx X d j [.ref b] M none M1) (kk : Ex X (d + 1) i (pc + 3) lo st M1 r M2) : Ex X (d + 1) i pc lo (.ref b :: st) M r M2 := ex_callI (As := []) hd hJ hw hi hr0 hnm rfl hst hM kk
theorem ex_callIN0v {j : MI} {x : Nat} {b : Nat} {host : String} (hd : decode (mi_c i) pc = .ok (.invokespecial x, 3)) (hJ : mx_J j 0) (hw : Cond.methodLinkNest (mi_y i).cls x (mi_y j) host ∈ mx_n) (hi : Cond.instanceMethod (mi_y j) ∈ mx_g) (hr0 : mi_r j = none) (hnm : (mi_y j).name = "<init>") (hst : (st.map fun v => v.category).sum ≤ 8) (hM : Mx X d j [.ref b] M none M1) (kk : Ex X (d + 1) i (pc + 3) lo st M1 r M2) : Ex X (d + 1) i pc lo (.ref b :: st) M r M2 := ex_callIN (As := []) hd hJ hw hi hr0 hnm rfl hst hM kk
theorem ex_callS0r {j : MI} {x : Nat} {w : Value} (hd : decode (mi_c i) pc = .ok (.invokestatic x, 3)) (hJ : mx_J j 0) (hw : Cond.methodLink (mi_y i).cls x (mi_y j) ∈ mx_g) (hs : Cond.static (mi_y j) ∈ mx_g) (hst : (st.map fun v => v.category).sum ≤ 8) (hM : Mx X d j [] M (some w) M1) (kk : Ex X (d + 1) i (pc + 3) lo (w :: st) M1 r M2) : Ex X (d + 1) i pc lo (st) M r M2 := ex_callS (As := []) hd hJ hw hs rfl hst hM kk
theorem ex_callSN0r {j : MI} {x : Nat} {w : Value} {host : String} (hd : decode (mi_c i) pc = .ok (.invokestatic x, 3)) (hJ : mx_J j 0) (hw : Cond.methodLinkNest (mi_y i).cls x (mi_y j) host ∈ mx_n) (hs : Cond.static (mi_y j) ∈ mx_g) (hst : (st.map fun v => v.category).sum ≤ 8) (hM : Mx X d j [] M (some w) M1) (kk : Ex X (d + 1) i (pc + 3) lo (w :: st) M1 r M2) : Ex X (d + 1) i pc lo (st) M r M2 := ex_callSN (As := []) hd hJ hw hs rfl hst hM kk
theorem ex_callV0r {j : MI} {x : Nat} {w : Value} {b ci N : Nat} {T : u_T} (hd : decode (mi_c i) pc = .ok (.invokevirtual x, 3)) (hJ : mx_J j 0) (hw : Cond.methodLink (mi_y i).cls x (mi_y j) ∈ mx_g) (hi : Cond.instanceMethod (mi_y j) ∈ mx_g) (hs : Cond.selects (mi_y j).cls (mi_y j) (mi_y j) ∈ mx_g) (ho : isO M ci b) (hc : mx_cl[ci]? = some ((mi_y j).cls, T, N)) (hst : (st.map fun v => v.category).sum ≤ 8) (hM : Mx X d j [.ref b] M (some w) M1) (kk : Ex X (d + 1) i (pc + 3) lo (w :: st) M1 r M2) : Ex X (d + 1) i pc lo (.ref b :: st) M r M2 := by
  obtain ⟨fs, hf⟩ := ho
  exact ex_callV (As := []) hd hJ hw hi hs hc hf rfl hst hM kk
theorem ex_callVN0r {j : MI} {x : Nat} {w : Value} {b ci N : Nat} {T : u_T} {host : String} (hd : decode (mi_c i) pc = .ok (.invokevirtual x, 3)) (hJ : mx_J j 0) (hw : Cond.methodLinkNest (mi_y i).cls x (mi_y j) host ∈ mx_n) (hi : Cond.instanceMethod (mi_y j) ∈ mx_g) (hs : Cond.selects (mi_y j).cls (mi_y j) (mi_y j) ∈ mx_g) (ho : isO M ci b) (hc : mx_cl[ci]? = some ((mi_y j).cls, T, N)) (hst : (st.map fun v => v.category).sum ≤ 8) (hM : Mx X d j [.ref b] M (some w) M1) (kk : Ex X (d + 1) i (pc + 3) lo (w :: st) M1 r M2) : Ex X (d + 1) i pc lo (.ref b :: st) M r M2 := by
  obtain ⟨fs, hf⟩ := ho
  exact ex_callVN (As := []) hd hJ hw hi hs hc hf rfl hst hM kk
theorem ex_callVS0r {j : MI} {x : Nat} {w : Value} {q : Nat} (hd : decode (mi_c i) pc = .ok (.invokevirtual x, 3)) (hJ : mx_J j 0) (hw : Cond.methodLink (mi_y i).cls x (mi_y j) ∈ mx_g) (hi : Cond.instanceMethod (mi_y j) ∈ mx_g) (hs : Cond.selects "java/lang/String" (mi_y j) (mi_y j) ∈ mx_g) (hq : q < 2) (hst : (st.map fun v => v.category).sum ≤ 8) (hM : Mx X d j [.ref (X.2.2.2 (2 + q))] M (some w) M1) (kk : Ex X (d + 1) i (pc + 3) lo (w :: st) M1 r M2) : Ex X (d + 1) i pc lo (.ref (X.2.2.2 (2 + q)) :: st) M r M2 := ex_callVS (As := []) hd hJ hw hi hs hq rfl hst hM kk
theorem ex_callS1v {j : MI} {x : Nat} {a1 : Value} (hd : decode (mi_c i) pc = .ok (.invokestatic x, 3)) (hJ : mx_J j 1) (hw : Cond.methodLink (mi_y i).cls x (mi_y j) ∈ mx_g) (hs : Cond.static (mi_y j) ∈ mx_g) (hst : (st.map fun v => v.category).sum ≤ 8) (hM : Mx X d j [a1] M none M1) (kk : Ex X (d + 1) i (pc + 3) lo st M1 r M2) : Ex X (d + 1) i pc lo (a1 :: st) M r M2 := ex_callS (As := [a1]) hd hJ hw hs rfl hst hM kk
theorem ex_callSN1v {j : MI} {x : Nat} {a1 : Value} {host : String} (hd : decode (mi_c i) pc = .ok (.invokestatic x, 3)) (hJ : mx_J j 1) (hw : Cond.methodLinkNest (mi_y i).cls x (mi_y j) host ∈ mx_n) (hs : Cond.static (mi_y j) ∈ mx_g) (hst : (st.map fun v => v.category).sum ≤ 8) (hM : Mx X d j [a1] M none M1) (kk : Ex X (d + 1) i (pc + 3) lo st M1 r M2) : Ex X (d + 1) i pc lo (a1 :: st) M r M2 := ex_callSN (As := [a1]) hd hJ hw hs rfl hst hM kk
theorem ex_callV1v {j : MI} {x : Nat} {a1 : Value} {b ci N : Nat} {T : u_T} (hd : decode (mi_c i) pc = .ok (.invokevirtual x, 3)) (hJ : mx_J j 1) (hw : Cond.methodLink (mi_y i).cls x (mi_y j) ∈ mx_g) (hi : Cond.instanceMethod (mi_y j) ∈ mx_g) (hs : Cond.selects (mi_y j).cls (mi_y j) (mi_y j) ∈ mx_g) (ho : isO M ci b) (hc : mx_cl[ci]? = some ((mi_y j).cls, T, N)) (hst : (st.map fun v => v.category).sum ≤ 8) (hM : Mx X d j [.ref b, a1] M none M1) (kk : Ex X (d + 1) i (pc + 3) lo st M1 r M2) : Ex X (d + 1) i pc lo (a1 :: .ref b :: st) M r M2 := by
  obtain ⟨fs, hf⟩ := ho
  exact ex_callV (As := [a1]) hd hJ hw hi hs hc hf rfl hst hM kk
theorem ex_callVN1v {j : MI} {x : Nat} {a1 : Value} {b ci N : Nat} {T : u_T} {host : String} (hd : decode (mi_c i) pc = .ok (.invokevirtual x, 3)) (hJ : mx_J j 1) (hw : Cond.methodLinkNest (mi_y i).cls x (mi_y j) host ∈ mx_n) (hi : Cond.instanceMethod (mi_y j) ∈ mx_g) (hs : Cond.selects (mi_y j).cls (mi_y j) (mi_y j) ∈ mx_g) (ho : isO M ci b) (hc : mx_cl[ci]? = some ((mi_y j).cls, T, N)) (hst : (st.map fun v => v.category).sum ≤ 8) (hM : Mx X d j [.ref b, a1] M none M1) (kk : Ex X (d + 1) i (pc + 3) lo st M1 r M2) : Ex X (d + 1) i pc lo (a1 :: .ref b :: st) M r M2 := by
  obtain ⟨fs, hf⟩ := ho
  exact ex_callVN (As := [a1]) hd hJ hw hi hs hc hf rfl hst hM kk
theorem ex_callI1v {j : MI} {x : Nat} {a1 : Value} {b : Nat} (hd : decode (mi_c i) pc = .ok (.invokespecial x, 3)) (hJ : mx_J j 1) (hw : Cond.methodLink (mi_y i).cls x (mi_y j) ∈ mx_g) (hi : Cond.instanceMethod (mi_y j) ∈ mx_g) (hr0 : mi_r j = none) (hnm : (mi_y j).name = "<init>") (hst : (st.map fun v => v.category).sum ≤ 8) (hM : Mx X d j [.ref b, a1] M none M1) (kk : Ex X (d + 1) i (pc + 3) lo st M1 r M2) : Ex X (d + 1) i pc lo (a1 :: .ref b :: st) M r M2 := ex_callI (As := [a1]) hd hJ hw hi hr0 hnm rfl hst hM kk
theorem ex_callIN1v {j : MI} {x : Nat} {a1 : Value} {b : Nat} {host : String} (hd : decode (mi_c i) pc = .ok (.invokespecial x, 3)) (hJ : mx_J j 1) (hw : Cond.methodLinkNest (mi_y i).cls x (mi_y j) host ∈ mx_n) (hi : Cond.instanceMethod (mi_y j) ∈ mx_g) (hr0 : mi_r j = none) (hnm : (mi_y j).name = "<init>") (hst : (st.map fun v => v.category).sum ≤ 8) (hM : Mx X d j [.ref b, a1] M none M1) (kk : Ex X (d + 1) i (pc + 3) lo st M1 r M2) : Ex X (d + 1) i pc lo (a1 :: .ref b :: st) M r M2 := ex_callIN (As := [a1]) hd hJ hw hi hr0 hnm rfl hst hM kk
theorem ex_callS1r {j : MI} {x : Nat} {a1 : Value} {w : Value} (hd : decode (mi_c i) pc = .ok (.invokestatic x, 3)) (hJ : mx_J j 1) (hw : Cond.methodLink (mi_y i).cls x (mi_y j) ∈ mx_g) (hs : Cond.static (mi_y j) ∈ mx_g) (hst : (st.map fun v => v.category).sum ≤ 8) (hM : Mx X d j [a1] M (some w) M1) (kk : Ex X (d + 1) i (pc + 3) lo (w :: st) M1 r M2) : Ex X (d + 1) i pc lo (a1 :: st) M r M2 := ex_callS (As := [a1]) hd hJ hw hs rfl hst hM kk
theorem ex_callSN1r {j : MI} {x : Nat} {a1 : Value} {w : Value} {host : String} (hd : decode (mi_c i) pc = .ok (.invokestatic x, 3)) (hJ : mx_J j 1) (hw : Cond.methodLinkNest (mi_y i).cls x (mi_y j) host ∈ mx_n) (hs : Cond.static (mi_y j) ∈ mx_g) (hst : (st.map fun v => v.category).sum ≤ 8) (hM : Mx X d j [a1] M (some w) M1) (kk : Ex X (d + 1) i (pc + 3) lo (w :: st) M1 r M2) : Ex X (d + 1) i pc lo (a1 :: st) M r M2 := ex_callSN (As := [a1]) hd hJ hw hs rfl hst hM kk
theorem ex_callV1r {j : MI} {x : Nat} {a1 : Value} {w : Value} {b ci N : Nat} {T : u_T} (hd : decode (mi_c i) pc = .ok (.invokevirtual x, 3)) (hJ : mx_J j 1) (hw : Cond.methodLink (mi_y i).cls x (mi_y j) ∈ mx_g) (hi : Cond.instanceMethod (mi_y j) ∈ mx_g) (hs : Cond.selects (mi_y j).cls (mi_y j) (mi_y j) ∈ mx_g) (ho : isO M ci b) (hc : mx_cl[ci]? = some ((mi_y j).cls, T, N)) (hst : (st.map fun v => v.category).sum ≤ 8) (hM : Mx X d j [.ref b, a1] M (some w) M1) (kk : Ex X (d + 1) i (pc + 3) lo (w :: st) M1 r M2) : Ex X (d + 1) i pc lo (a1 :: .ref b :: st) M r M2 := by
  obtain ⟨fs, hf⟩ := ho
  exact ex_callV (As := [a1]) hd hJ hw hi hs hc hf rfl hst hM kk
theorem ex_callVN1r {j : MI} {x : Nat} {a1 : Value} {w : Value} {b ci N : Nat} {T : u_T} {host : String} (hd : decode (mi_c i) pc = .ok (.invokevirtual x, 3)) (hJ : mx_J j 1) (hw : Cond.methodLinkNest (mi_y i).cls x (mi_y j) host ∈ mx_n) (hi : Cond.instanceMethod (mi_y j) ∈ mx_g) (hs : Cond.selects (mi_y j).cls (mi_y j) (mi_y j) ∈ mx_g) (ho : isO M ci b) (hc : mx_cl[ci]? = some ((mi_y j).cls, T, N)) (hst : (st.map fun v => v.category).sum ≤ 8) (hM : Mx X d j [.ref b, a1] M (some w) M1) (kk : Ex X (d + 1) i (pc + 3) lo (w :: st) M1 r M2) : Ex X (d + 1) i pc lo (a1 :: .ref b :: st) M r M2 := by
  obtain ⟨fs, hf⟩ := ho
  exact ex_callVN (As := [a1]) hd hJ hw hi hs hc hf rfl hst hM kk
theorem ex_callVS1r {j : MI} {x : Nat} {a1 : Value} {w : Value} {q : Nat} (hd : decode (mi_c i) pc = .ok (.invokevirtual x, 3)) (hJ : mx_J j 1) (hw : Cond.methodLink (mi_y i).cls x (mi_y j) ∈ mx_g) (hi : Cond.instanceMethod (mi_y j) ∈ mx_g) (hs : Cond.selects "java/lang/String" (mi_y j) (mi_y j) ∈ mx_g) (hq : q < 2) (hst : (st.map fun v => v.category).sum ≤ 8) (hM : Mx X d j [.ref (X.2.2.2 (2 + q)), a1] M (some w) M1) (kk : Ex X (d + 1) i (pc + 3) lo (w :: st) M1 r M2) : Ex X (d + 1) i pc lo (a1 :: .ref (X.2.2.2 (2 + q)) :: st) M r M2 := ex_callVS (As := [a1]) hd hJ hw hi hs hq rfl hst hM kk
theorem ex_callS2v {j : MI} {x : Nat} {a1 a2 : Value} (hd : decode (mi_c i) pc = .ok (.invokestatic x, 3)) (hJ : mx_J j 2) (hw : Cond.methodLink (mi_y i).cls x (mi_y j) ∈ mx_g) (hs : Cond.static (mi_y j) ∈ mx_g) (hst : (st.map fun v => v.category).sum ≤ 8) (hM : Mx X d j [a1, a2] M none M1) (kk : Ex X (d + 1) i (pc + 3) lo st M1 r M2) : Ex X (d + 1) i pc lo (a2 :: a1 :: st) M r M2 := ex_callS (As := [a1, a2]) hd hJ hw hs rfl hst hM kk
theorem ex_callSN2v {j : MI} {x : Nat} {a1 a2 : Value} {host : String} (hd : decode (mi_c i) pc = .ok (.invokestatic x, 3)) (hJ : mx_J j 2) (hw : Cond.methodLinkNest (mi_y i).cls x (mi_y j) host ∈ mx_n) (hs : Cond.static (mi_y j) ∈ mx_g) (hst : (st.map fun v => v.category).sum ≤ 8) (hM : Mx X d j [a1, a2] M none M1) (kk : Ex X (d + 1) i (pc + 3) lo st M1 r M2) : Ex X (d + 1) i pc lo (a2 :: a1 :: st) M r M2 := ex_callSN (As := [a1, a2]) hd hJ hw hs rfl hst hM kk
theorem ex_callV2v {j : MI} {x : Nat} {a1 a2 : Value} {b ci N : Nat} {T : u_T} (hd : decode (mi_c i) pc = .ok (.invokevirtual x, 3)) (hJ : mx_J j 2) (hw : Cond.methodLink (mi_y i).cls x (mi_y j) ∈ mx_g) (hi : Cond.instanceMethod (mi_y j) ∈ mx_g) (hs : Cond.selects (mi_y j).cls (mi_y j) (mi_y j) ∈ mx_g) (ho : isO M ci b) (hc : mx_cl[ci]? = some ((mi_y j).cls, T, N)) (hst : (st.map fun v => v.category).sum ≤ 8) (hM : Mx X d j [.ref b, a1, a2] M none M1) (kk : Ex X (d + 1) i (pc + 3) lo st M1 r M2) : Ex X (d + 1) i pc lo (a2 :: a1 :: .ref b :: st) M r M2 := by
  obtain ⟨fs, hf⟩ := ho
  exact ex_callV (As := [a1, a2]) hd hJ hw hi hs hc hf rfl hst hM kk
theorem ex_callVN2v {j : MI} {x : Nat} {a1 a2 : Value} {b ci N : Nat} {T : u_T} {host : String} (hd : decode (mi_c i) pc = .ok (.invokevirtual x, 3)) (hJ : mx_J j 2) (hw : Cond.methodLinkNest (mi_y i).cls x (mi_y j) host ∈ mx_n) (hi : Cond.instanceMethod (mi_y j) ∈ mx_g) (hs : Cond.selects (mi_y j).cls (mi_y j) (mi_y j) ∈ mx_g) (ho : isO M ci b) (hc : mx_cl[ci]? = some ((mi_y j).cls, T, N)) (hst : (st.map fun v => v.category).sum ≤ 8) (hM : Mx X d j [.ref b, a1, a2] M none M1) (kk : Ex X (d + 1) i (pc + 3) lo st M1 r M2) : Ex X (d + 1) i pc lo (a2 :: a1 :: .ref b :: st) M r M2 := by
  obtain ⟨fs, hf⟩ := ho
  exact ex_callVN (As := [a1, a2]) hd hJ hw hi hs hc hf rfl hst hM kk
theorem ex_callI2v {j : MI} {x : Nat} {a1 a2 : Value} {b : Nat} (hd : decode (mi_c i) pc = .ok (.invokespecial x, 3)) (hJ : mx_J j 2) (hw : Cond.methodLink (mi_y i).cls x (mi_y j) ∈ mx_g) (hi : Cond.instanceMethod (mi_y j) ∈ mx_g) (hr0 : mi_r j = none) (hnm : (mi_y j).name = "<init>") (hst : (st.map fun v => v.category).sum ≤ 8) (hM : Mx X d j [.ref b, a1, a2] M none M1) (kk : Ex X (d + 1) i (pc + 3) lo st M1 r M2) : Ex X (d + 1) i pc lo (a2 :: a1 :: .ref b :: st) M r M2 := ex_callI (As := [a1, a2]) hd hJ hw hi hr0 hnm rfl hst hM kk
theorem ex_callIN2v {j : MI} {x : Nat} {a1 a2 : Value} {b : Nat} {host : String} (hd : decode (mi_c i) pc = .ok (.invokespecial x, 3)) (hJ : mx_J j 2) (hw : Cond.methodLinkNest (mi_y i).cls x (mi_y j) host ∈ mx_n) (hi : Cond.instanceMethod (mi_y j) ∈ mx_g) (hr0 : mi_r j = none) (hnm : (mi_y j).name = "<init>") (hst : (st.map fun v => v.category).sum ≤ 8) (hM : Mx X d j [.ref b, a1, a2] M none M1) (kk : Ex X (d + 1) i (pc + 3) lo st M1 r M2) : Ex X (d + 1) i pc lo (a2 :: a1 :: .ref b :: st) M r M2 := ex_callIN (As := [a1, a2]) hd hJ hw hi hr0 hnm rfl hst hM kk
theorem ex_callS2r {j : MI} {x : Nat} {a1 a2 : Value} {w : Value} (hd : decode (mi_c i) pc = .ok (.invokestatic x, 3)) (hJ : mx_J j 2) (hw : Cond.methodLink (mi_y i).cls x (mi_y j) ∈ mx_g) (hs : Cond.static (mi_y j) ∈ mx_g) (hst : (st.map fun v => v.category).sum ≤ 8) (hM : Mx X d j [a1, a2] M (some w) M1) (kk : Ex X (d + 1) i (pc + 3) lo (w :: st) M1 r M2) : Ex X (d + 1) i pc lo (a2 :: a1 :: st) M r M2 := ex_callS (As := [a1, a2]) hd hJ hw hs rfl hst hM kk
theorem ex_callSN2r {j : MI} {x : Nat} {a1 a2 : Value} {w : Value} {host : String} (hd : decode (mi_c i) pc = .ok (.invokestatic x, 3)) (hJ : mx_J j 2) (hw : Cond.methodLinkNest (mi_y i).cls x (mi_y j) host ∈ mx_n) (hs : Cond.static (mi_y j) ∈ mx_g) (hst : (st.map fun v => v.category).sum ≤ 8) (hM : Mx X d j [a1, a2] M (some w) M1) (kk : Ex X (d + 1) i (pc + 3) lo (w :: st) M1 r M2) : Ex X (d + 1) i pc lo (a2 :: a1 :: st) M r M2 := ex_callSN (As := [a1, a2]) hd hJ hw hs rfl hst hM kk
theorem ex_callV2r {j : MI} {x : Nat} {a1 a2 : Value} {w : Value} {b ci N : Nat} {T : u_T} (hd : decode (mi_c i) pc = .ok (.invokevirtual x, 3)) (hJ : mx_J j 2) (hw : Cond.methodLink (mi_y i).cls x (mi_y j) ∈ mx_g) (hi : Cond.instanceMethod (mi_y j) ∈ mx_g) (hs : Cond.selects (mi_y j).cls (mi_y j) (mi_y j) ∈ mx_g) (ho : isO M ci b) (hc : mx_cl[ci]? = some ((mi_y j).cls, T, N)) (hst : (st.map fun v => v.category).sum ≤ 8) (hM : Mx X d j [.ref b, a1, a2] M (some w) M1) (kk : Ex X (d + 1) i (pc + 3) lo (w :: st) M1 r M2) : Ex X (d + 1) i pc lo (a2 :: a1 :: .ref b :: st) M r M2 := by
  obtain ⟨fs, hf⟩ := ho
  exact ex_callV (As := [a1, a2]) hd hJ hw hi hs hc hf rfl hst hM kk
theorem ex_callVN2r {j : MI} {x : Nat} {a1 a2 : Value} {w : Value} {b ci N : Nat} {T : u_T} {host : String} (hd : decode (mi_c i) pc = .ok (.invokevirtual x, 3)) (hJ : mx_J j 2) (hw : Cond.methodLinkNest (mi_y i).cls x (mi_y j) host ∈ mx_n) (hi : Cond.instanceMethod (mi_y j) ∈ mx_g) (hs : Cond.selects (mi_y j).cls (mi_y j) (mi_y j) ∈ mx_g) (ho : isO M ci b) (hc : mx_cl[ci]? = some ((mi_y j).cls, T, N)) (hst : (st.map fun v => v.category).sum ≤ 8) (hM : Mx X d j [.ref b, a1, a2] M (some w) M1) (kk : Ex X (d + 1) i (pc + 3) lo (w :: st) M1 r M2) : Ex X (d + 1) i pc lo (a2 :: a1 :: .ref b :: st) M r M2 := by
  obtain ⟨fs, hf⟩ := ho
  exact ex_callVN (As := [a1, a2]) hd hJ hw hi hs hc hf rfl hst hM kk
theorem ex_callVS2r {j : MI} {x : Nat} {a1 a2 : Value} {w : Value} {q : Nat} (hd : decode (mi_c i) pc = .ok (.invokevirtual x, 3)) (hJ : mx_J j 2) (hw : Cond.methodLink (mi_y i).cls x (mi_y j) ∈ mx_g) (hi : Cond.instanceMethod (mi_y j) ∈ mx_g) (hs : Cond.selects "java/lang/String" (mi_y j) (mi_y j) ∈ mx_g) (hq : q < 2) (hst : (st.map fun v => v.category).sum ≤ 8) (hM : Mx X d j [.ref (X.2.2.2 (2 + q)), a1, a2] M (some w) M1) (kk : Ex X (d + 1) i (pc + 3) lo (w :: st) M1 r M2) : Ex X (d + 1) i pc lo (a2 :: a1 :: .ref (X.2.2.2 (2 + q)) :: st) M r M2 := ex_callVS (As := [a1, a2]) hd hJ hw hi hs hq rfl hst hM kk
theorem ex_callS3v {j : MI} {x : Nat} {a1 a2 a3 : Value} (hd : decode (mi_c i) pc = .ok (.invokestatic x, 3)) (hJ : mx_J j 3) (hw : Cond.methodLink (mi_y i).cls x (mi_y j) ∈ mx_g) (hs : Cond.static (mi_y j) ∈ mx_g) (hst : (st.map fun v => v.category).sum ≤ 8) (hM : Mx X d j [a1, a2, a3] M none M1) (kk : Ex X (d + 1) i (pc + 3) lo st M1 r M2) : Ex X (d + 1) i pc lo (a3 :: a2 :: a1 :: st) M r M2 := ex_callS (As := [a1, a2, a3]) hd hJ hw hs rfl hst hM kk
theorem ex_callSN3v {j : MI} {x : Nat} {a1 a2 a3 : Value} {host : String} (hd : decode (mi_c i) pc = .ok (.invokestatic x, 3)) (hJ : mx_J j 3) (hw : Cond.methodLinkNest (mi_y i).cls x (mi_y j) host ∈ mx_n) (hs : Cond.static (mi_y j) ∈ mx_g) (hst : (st.map fun v => v.category).sum ≤ 8) (hM : Mx X d j [a1, a2, a3] M none M1) (kk : Ex X (d + 1) i (pc + 3) lo st M1 r M2) : Ex X (d + 1) i pc lo (a3 :: a2 :: a1 :: st) M r M2 := ex_callSN (As := [a1, a2, a3]) hd hJ hw hs rfl hst hM kk
theorem ex_callV3v {j : MI} {x : Nat} {a1 a2 a3 : Value} {b ci N : Nat} {T : u_T} (hd : decode (mi_c i) pc = .ok (.invokevirtual x, 3)) (hJ : mx_J j 3) (hw : Cond.methodLink (mi_y i).cls x (mi_y j) ∈ mx_g) (hi : Cond.instanceMethod (mi_y j) ∈ mx_g) (hs : Cond.selects (mi_y j).cls (mi_y j) (mi_y j) ∈ mx_g) (ho : isO M ci b) (hc : mx_cl[ci]? = some ((mi_y j).cls, T, N)) (hst : (st.map fun v => v.category).sum ≤ 8) (hM : Mx X d j [.ref b, a1, a2, a3] M none M1) (kk : Ex X (d + 1) i (pc + 3) lo st M1 r M2) : Ex X (d + 1) i pc lo (a3 :: a2 :: a1 :: .ref b :: st) M r M2 := by
  obtain ⟨fs, hf⟩ := ho
  exact ex_callV (As := [a1, a2, a3]) hd hJ hw hi hs hc hf rfl hst hM kk
theorem ex_callVN3v {j : MI} {x : Nat} {a1 a2 a3 : Value} {b ci N : Nat} {T : u_T} {host : String} (hd : decode (mi_c i) pc = .ok (.invokevirtual x, 3)) (hJ : mx_J j 3) (hw : Cond.methodLinkNest (mi_y i).cls x (mi_y j) host ∈ mx_n) (hi : Cond.instanceMethod (mi_y j) ∈ mx_g) (hs : Cond.selects (mi_y j).cls (mi_y j) (mi_y j) ∈ mx_g) (ho : isO M ci b) (hc : mx_cl[ci]? = some ((mi_y j).cls, T, N)) (hst : (st.map fun v => v.category).sum ≤ 8) (hM : Mx X d j [.ref b, a1, a2, a3] M none M1) (kk : Ex X (d + 1) i (pc + 3) lo st M1 r M2) : Ex X (d + 1) i pc lo (a3 :: a2 :: a1 :: .ref b :: st) M r M2 := by
  obtain ⟨fs, hf⟩ := ho
  exact ex_callVN (As := [a1, a2, a3]) hd hJ hw hi hs hc hf rfl hst hM kk
theorem ex_callI3v {j : MI} {x : Nat} {a1 a2 a3 : Value} {b : Nat} (hd : decode (mi_c i) pc = .ok (.invokespecial x, 3)) (hJ : mx_J j 3) (hw : Cond.methodLink (mi_y i).cls x (mi_y j) ∈ mx_g) (hi : Cond.instanceMethod (mi_y j) ∈ mx_g) (hr0 : mi_r j = none) (hnm : (mi_y j).name = "<init>") (hst : (st.map fun v => v.category).sum ≤ 8) (hM : Mx X d j [.ref b, a1, a2, a3] M none M1) (kk : Ex X (d + 1) i (pc + 3) lo st M1 r M2) : Ex X (d + 1) i pc lo (a3 :: a2 :: a1 :: .ref b :: st) M r M2 := ex_callI (As := [a1, a2, a3]) hd hJ hw hi hr0 hnm rfl hst hM kk
theorem ex_callIN3v {j : MI} {x : Nat} {a1 a2 a3 : Value} {b : Nat} {host : String} (hd : decode (mi_c i) pc = .ok (.invokespecial x, 3)) (hJ : mx_J j 3) (hw : Cond.methodLinkNest (mi_y i).cls x (mi_y j) host ∈ mx_n) (hi : Cond.instanceMethod (mi_y j) ∈ mx_g) (hr0 : mi_r j = none) (hnm : (mi_y j).name = "<init>") (hst : (st.map fun v => v.category).sum ≤ 8) (hM : Mx X d j [.ref b, a1, a2, a3] M none M1) (kk : Ex X (d + 1) i (pc + 3) lo st M1 r M2) : Ex X (d + 1) i pc lo (a3 :: a2 :: a1 :: .ref b :: st) M r M2 := ex_callIN (As := [a1, a2, a3]) hd hJ hw hi hr0 hnm rfl hst hM kk
theorem ex_callS3r {j : MI} {x : Nat} {a1 a2 a3 : Value} {w : Value} (hd : decode (mi_c i) pc = .ok (.invokestatic x, 3)) (hJ : mx_J j 3) (hw : Cond.methodLink (mi_y i).cls x (mi_y j) ∈ mx_g) (hs : Cond.static (mi_y j) ∈ mx_g) (hst : (st.map fun v => v.category).sum ≤ 8) (hM : Mx X d j [a1, a2, a3] M (some w) M1) (kk : Ex X (d + 1) i (pc + 3) lo (w :: st) M1 r M2) : Ex X (d + 1) i pc lo (a3 :: a2 :: a1 :: st) M r M2 := ex_callS (As := [a1, a2, a3]) hd hJ hw hs rfl hst hM kk
theorem ex_callSN3r {j : MI} {x : Nat} {a1 a2 a3 : Value} {w : Value} {host : String} (hd : decode (mi_c i) pc = .ok (.invokestatic x, 3)) (hJ : mx_J j 3) (hw : Cond.methodLinkNest (mi_y i).cls x (mi_y j) host ∈ mx_n) (hs : Cond.static (mi_y j) ∈ mx_g) (hst : (st.map fun v => v.category).sum ≤ 8) (hM : Mx X d j [a1, a2, a3] M (some w) M1) (kk : Ex X (d + 1) i (pc + 3) lo (w :: st) M1 r M2) : Ex X (d + 1) i pc lo (a3 :: a2 :: a1 :: st) M r M2 := ex_callSN (As := [a1, a2, a3]) hd hJ hw hs rfl hst hM kk
theorem ex_callV3r {j : MI} {x : Nat} {a1 a2 a3 : Value} {w : Value} {b ci N : Nat} {T : u_T} (hd : decode (mi_c i) pc = .ok (.invokevirtual x, 3)) (hJ : mx_J j 3) (hw : Cond.methodLink (mi_y i).cls x (mi_y j) ∈ mx_g) (hi : Cond.instanceMethod (mi_y j) ∈ mx_g) (hs : Cond.selects (mi_y j).cls (mi_y j) (mi_y j) ∈ mx_g) (ho : isO M ci b) (hc : mx_cl[ci]? = some ((mi_y j).cls, T, N)) (hst : (st.map fun v => v.category).sum ≤ 8) (hM : Mx X d j [.ref b, a1, a2, a3] M (some w) M1) (kk : Ex X (d + 1) i (pc + 3) lo (w :: st) M1 r M2) : Ex X (d + 1) i pc lo (a3 :: a2 :: a1 :: .ref b :: st) M r M2 := by
  obtain ⟨fs, hf⟩ := ho
  exact ex_callV (As := [a1, a2, a3]) hd hJ hw hi hs hc hf rfl hst hM kk
theorem ex_callVN3r {j : MI} {x : Nat} {a1 a2 a3 : Value} {w : Value} {b ci N : Nat} {T : u_T} {host : String} (hd : decode (mi_c i) pc = .ok (.invokevirtual x, 3)) (hJ : mx_J j 3) (hw : Cond.methodLinkNest (mi_y i).cls x (mi_y j) host ∈ mx_n) (hi : Cond.instanceMethod (mi_y j) ∈ mx_g) (hs : Cond.selects (mi_y j).cls (mi_y j) (mi_y j) ∈ mx_g) (ho : isO M ci b) (hc : mx_cl[ci]? = some ((mi_y j).cls, T, N)) (hst : (st.map fun v => v.category).sum ≤ 8) (hM : Mx X d j [.ref b, a1, a2, a3] M (some w) M1) (kk : Ex X (d + 1) i (pc + 3) lo (w :: st) M1 r M2) : Ex X (d + 1) i pc lo (a3 :: a2 :: a1 :: .ref b :: st) M r M2 := by
  obtain ⟨fs, hf⟩ := ho
  exact ex_callVN (As := [a1, a2, a3]) hd hJ hw hi hs hc hf rfl hst hM kk
theorem ex_callS4v {j : MI} {x : Nat} {a1 a2 a3 a4 : Value} (hd : decode (mi_c i) pc = .ok (.invokestatic x, 3)) (hJ : mx_J j 4) (hw : Cond.methodLink (mi_y i).cls x (mi_y j) ∈ mx_g) (hs : Cond.static (mi_y j) ∈ mx_g) (hst : (st.map fun v => v.category).sum ≤ 8) (hM : Mx X d j [a1, a2, a3, a4] M none M1) (kk : Ex X (d + 1) i (pc + 3) lo st M1 r M2) : Ex X (d + 1) i pc lo (a4 :: a3 :: a2 :: a1 :: st) M r M2 := ex_callS (As := [a1, a2, a3, a4]) hd hJ hw hs rfl hst hM kk
theorem ex_callSN4v {j : MI} {x : Nat} {a1 a2 a3 a4 : Value} {host : String} (hd : decode (mi_c i) pc = .ok (.invokestatic x, 3)) (hJ : mx_J j 4) (hw : Cond.methodLinkNest (mi_y i).cls x (mi_y j) host ∈ mx_n) (hs : Cond.static (mi_y j) ∈ mx_g) (hst : (st.map fun v => v.category).sum ≤ 8) (hM : Mx X d j [a1, a2, a3, a4] M none M1) (kk : Ex X (d + 1) i (pc + 3) lo st M1 r M2) : Ex X (d + 1) i pc lo (a4 :: a3 :: a2 :: a1 :: st) M r M2 := ex_callSN (As := [a1, a2, a3, a4]) hd hJ hw hs rfl hst hM kk
theorem ex_callV4v {j : MI} {x : Nat} {a1 a2 a3 a4 : Value} {b ci N : Nat} {T : u_T} (hd : decode (mi_c i) pc = .ok (.invokevirtual x, 3)) (hJ : mx_J j 4) (hw : Cond.methodLink (mi_y i).cls x (mi_y j) ∈ mx_g) (hi : Cond.instanceMethod (mi_y j) ∈ mx_g) (hs : Cond.selects (mi_y j).cls (mi_y j) (mi_y j) ∈ mx_g) (ho : isO M ci b) (hc : mx_cl[ci]? = some ((mi_y j).cls, T, N)) (hst : (st.map fun v => v.category).sum ≤ 8) (hM : Mx X d j [.ref b, a1, a2, a3, a4] M none M1) (kk : Ex X (d + 1) i (pc + 3) lo st M1 r M2) : Ex X (d + 1) i pc lo (a4 :: a3 :: a2 :: a1 :: .ref b :: st) M r M2 := by
  obtain ⟨fs, hf⟩ := ho
  exact ex_callV (As := [a1, a2, a3, a4]) hd hJ hw hi hs hc hf rfl hst hM kk
theorem ex_callVN4v {j : MI} {x : Nat} {a1 a2 a3 a4 : Value} {b ci N : Nat} {T : u_T} {host : String} (hd : decode (mi_c i) pc = .ok (.invokevirtual x, 3)) (hJ : mx_J j 4) (hw : Cond.methodLinkNest (mi_y i).cls x (mi_y j) host ∈ mx_n) (hi : Cond.instanceMethod (mi_y j) ∈ mx_g) (hs : Cond.selects (mi_y j).cls (mi_y j) (mi_y j) ∈ mx_g) (ho : isO M ci b) (hc : mx_cl[ci]? = some ((mi_y j).cls, T, N)) (hst : (st.map fun v => v.category).sum ≤ 8) (hM : Mx X d j [.ref b, a1, a2, a3, a4] M none M1) (kk : Ex X (d + 1) i (pc + 3) lo st M1 r M2) : Ex X (d + 1) i pc lo (a4 :: a3 :: a2 :: a1 :: .ref b :: st) M r M2 := by
  obtain ⟨fs, hf⟩ := ho
  exact ex_callVN (As := [a1, a2, a3, a4]) hd hJ hw hi hs hc hf rfl hst hM kk
theorem ex_callI4v {j : MI} {x : Nat} {a1 a2 a3 a4 : Value} {b : Nat} (hd : decode (mi_c i) pc = .ok (.invokespecial x, 3)) (hJ : mx_J j 4) (hw : Cond.methodLink (mi_y i).cls x (mi_y j) ∈ mx_g) (hi : Cond.instanceMethod (mi_y j) ∈ mx_g) (hr0 : mi_r j = none) (hnm : (mi_y j).name = "<init>") (hst : (st.map fun v => v.category).sum ≤ 8) (hM : Mx X d j [.ref b, a1, a2, a3, a4] M none M1) (kk : Ex X (d + 1) i (pc + 3) lo st M1 r M2) : Ex X (d + 1) i pc lo (a4 :: a3 :: a2 :: a1 :: .ref b :: st) M r M2 := ex_callI (As := [a1, a2, a3, a4]) hd hJ hw hi hr0 hnm rfl hst hM kk
theorem ex_callIN4v {j : MI} {x : Nat} {a1 a2 a3 a4 : Value} {b : Nat} {host : String} (hd : decode (mi_c i) pc = .ok (.invokespecial x, 3)) (hJ : mx_J j 4) (hw : Cond.methodLinkNest (mi_y i).cls x (mi_y j) host ∈ mx_n) (hi : Cond.instanceMethod (mi_y j) ∈ mx_g) (hr0 : mi_r j = none) (hnm : (mi_y j).name = "<init>") (hst : (st.map fun v => v.category).sum ≤ 8) (hM : Mx X d j [.ref b, a1, a2, a3, a4] M none M1) (kk : Ex X (d + 1) i (pc + 3) lo st M1 r M2) : Ex X (d + 1) i pc lo (a4 :: a3 :: a2 :: a1 :: .ref b :: st) M r M2 := ex_callIN (As := [a1, a2, a3, a4]) hd hJ hw hi hr0 hnm rfl hst hM kk
theorem ex_callS4r {j : MI} {x : Nat} {a1 a2 a3 a4 : Value} {w : Value} (hd : decode (mi_c i) pc = .ok (.invokestatic x, 3)) (hJ : mx_J j 4) (hw : Cond.methodLink (mi_y i).cls x (mi_y j) ∈ mx_g) (hs : Cond.static (mi_y j) ∈ mx_g) (hst : (st.map fun v => v.category).sum ≤ 8) (hM : Mx X d j [a1, a2, a3, a4] M (some w) M1) (kk : Ex X (d + 1) i (pc + 3) lo (w :: st) M1 r M2) : Ex X (d + 1) i pc lo (a4 :: a3 :: a2 :: a1 :: st) M r M2 := ex_callS (As := [a1, a2, a3, a4]) hd hJ hw hs rfl hst hM kk
theorem ex_callSN4r {j : MI} {x : Nat} {a1 a2 a3 a4 : Value} {w : Value} {host : String} (hd : decode (mi_c i) pc = .ok (.invokestatic x, 3)) (hJ : mx_J j 4) (hw : Cond.methodLinkNest (mi_y i).cls x (mi_y j) host ∈ mx_n) (hs : Cond.static (mi_y j) ∈ mx_g) (hst : (st.map fun v => v.category).sum ≤ 8) (hM : Mx X d j [a1, a2, a3, a4] M (some w) M1) (kk : Ex X (d + 1) i (pc + 3) lo (w :: st) M1 r M2) : Ex X (d + 1) i pc lo (a4 :: a3 :: a2 :: a1 :: st) M r M2 := ex_callSN (As := [a1, a2, a3, a4]) hd hJ hw hs rfl hst hM kk
theorem ex_callV4r {j : MI} {x : Nat} {a1 a2 a3 a4 : Value} {w : Value} {b ci N : Nat} {T : u_T} (hd : decode (mi_c i) pc = .ok (.invokevirtual x, 3)) (hJ : mx_J j 4) (hw : Cond.methodLink (mi_y i).cls x (mi_y j) ∈ mx_g) (hi : Cond.instanceMethod (mi_y j) ∈ mx_g) (hs : Cond.selects (mi_y j).cls (mi_y j) (mi_y j) ∈ mx_g) (ho : isO M ci b) (hc : mx_cl[ci]? = some ((mi_y j).cls, T, N)) (hst : (st.map fun v => v.category).sum ≤ 8) (hM : Mx X d j [.ref b, a1, a2, a3, a4] M (some w) M1) (kk : Ex X (d + 1) i (pc + 3) lo (w :: st) M1 r M2) : Ex X (d + 1) i pc lo (a4 :: a3 :: a2 :: a1 :: .ref b :: st) M r M2 := by
  obtain ⟨fs, hf⟩ := ho
  exact ex_callV (As := [a1, a2, a3, a4]) hd hJ hw hi hs hc hf rfl hst hM kk
theorem ex_callVN4r {j : MI} {x : Nat} {a1 a2 a3 a4 : Value} {w : Value} {b ci N : Nat} {T : u_T} {host : String} (hd : decode (mi_c i) pc = .ok (.invokevirtual x, 3)) (hJ : mx_J j 4) (hw : Cond.methodLinkNest (mi_y i).cls x (mi_y j) host ∈ mx_n) (hi : Cond.instanceMethod (mi_y j) ∈ mx_g) (hs : Cond.selects (mi_y j).cls (mi_y j) (mi_y j) ∈ mx_g) (ho : isO M ci b) (hc : mx_cl[ci]? = some ((mi_y j).cls, T, N)) (hst : (st.map fun v => v.category).sum ≤ 8) (hM : Mx X d j [.ref b, a1, a2, a3, a4] M (some w) M1) (kk : Ex X (d + 1) i (pc + 3) lo (w :: st) M1 r M2) : Ex X (d + 1) i pc lo (a4 :: a3 :: a2 :: a1 :: .ref b :: st) M r M2 := by
  obtain ⟨fs, hf⟩ := ho
  exact ex_callVN (As := [a1, a2, a3, a4]) hd hJ hw hi hs hc hf rfl hst hM kk
theorem ex_callS5v {j : MI} {x : Nat} {a1 a2 a3 a4 a5 : Value} (hd : decode (mi_c i) pc = .ok (.invokestatic x, 3)) (hJ : mx_J j 5) (hw : Cond.methodLink (mi_y i).cls x (mi_y j) ∈ mx_g) (hs : Cond.static (mi_y j) ∈ mx_g) (hst : (st.map fun v => v.category).sum ≤ 8) (hM : Mx X d j [a1, a2, a3, a4, a5] M none M1) (kk : Ex X (d + 1) i (pc + 3) lo st M1 r M2) : Ex X (d + 1) i pc lo (a5 :: a4 :: a3 :: a2 :: a1 :: st) M r M2 := ex_callS (As := [a1, a2, a3, a4, a5]) hd hJ hw hs rfl hst hM kk
theorem ex_callSN5v {j : MI} {x : Nat} {a1 a2 a3 a4 a5 : Value} {host : String} (hd : decode (mi_c i) pc = .ok (.invokestatic x, 3)) (hJ : mx_J j 5) (hw : Cond.methodLinkNest (mi_y i).cls x (mi_y j) host ∈ mx_n) (hs : Cond.static (mi_y j) ∈ mx_g) (hst : (st.map fun v => v.category).sum ≤ 8) (hM : Mx X d j [a1, a2, a3, a4, a5] M none M1) (kk : Ex X (d + 1) i (pc + 3) lo st M1 r M2) : Ex X (d + 1) i pc lo (a5 :: a4 :: a3 :: a2 :: a1 :: st) M r M2 := ex_callSN (As := [a1, a2, a3, a4, a5]) hd hJ hw hs rfl hst hM kk
theorem ex_callV5v {j : MI} {x : Nat} {a1 a2 a3 a4 a5 : Value} {b ci N : Nat} {T : u_T} (hd : decode (mi_c i) pc = .ok (.invokevirtual x, 3)) (hJ : mx_J j 5) (hw : Cond.methodLink (mi_y i).cls x (mi_y j) ∈ mx_g) (hi : Cond.instanceMethod (mi_y j) ∈ mx_g) (hs : Cond.selects (mi_y j).cls (mi_y j) (mi_y j) ∈ mx_g) (ho : isO M ci b) (hc : mx_cl[ci]? = some ((mi_y j).cls, T, N)) (hst : (st.map fun v => v.category).sum ≤ 8) (hM : Mx X d j [.ref b, a1, a2, a3, a4, a5] M none M1) (kk : Ex X (d + 1) i (pc + 3) lo st M1 r M2) : Ex X (d + 1) i pc lo (a5 :: a4 :: a3 :: a2 :: a1 :: .ref b :: st) M r M2 := by
  obtain ⟨fs, hf⟩ := ho
  exact ex_callV (As := [a1, a2, a3, a4, a5]) hd hJ hw hi hs hc hf rfl hst hM kk
theorem ex_callVN5v {j : MI} {x : Nat} {a1 a2 a3 a4 a5 : Value} {b ci N : Nat} {T : u_T} {host : String} (hd : decode (mi_c i) pc = .ok (.invokevirtual x, 3)) (hJ : mx_J j 5) (hw : Cond.methodLinkNest (mi_y i).cls x (mi_y j) host ∈ mx_n) (hi : Cond.instanceMethod (mi_y j) ∈ mx_g) (hs : Cond.selects (mi_y j).cls (mi_y j) (mi_y j) ∈ mx_g) (ho : isO M ci b) (hc : mx_cl[ci]? = some ((mi_y j).cls, T, N)) (hst : (st.map fun v => v.category).sum ≤ 8) (hM : Mx X d j [.ref b, a1, a2, a3, a4, a5] M none M1) (kk : Ex X (d + 1) i (pc + 3) lo st M1 r M2) : Ex X (d + 1) i pc lo (a5 :: a4 :: a3 :: a2 :: a1 :: .ref b :: st) M r M2 := by
  obtain ⟨fs, hf⟩ := ho
  exact ex_callVN (As := [a1, a2, a3, a4, a5]) hd hJ hw hi hs hc hf rfl hst hM kk
theorem ex_callI5v {j : MI} {x : Nat} {a1 a2 a3 a4 a5 : Value} {b : Nat} (hd : decode (mi_c i) pc = .ok (.invokespecial x, 3)) (hJ : mx_J j 5) (hw : Cond.methodLink (mi_y i).cls x (mi_y j) ∈ mx_g) (hi : Cond.instanceMethod (mi_y j) ∈ mx_g) (hr0 : mi_r j = none) (hnm : (mi_y j).name = "<init>") (hst : (st.map fun v => v.category).sum ≤ 8) (hM : Mx X d j [.ref b, a1, a2, a3, a4, a5] M none M1) (kk : Ex X (d + 1) i (pc + 3) lo st M1 r M2) : Ex X (d + 1) i pc lo (a5 :: a4 :: a3 :: a2 :: a1 :: .ref b :: st) M r M2 := ex_callI (As := [a1, a2, a3, a4, a5]) hd hJ hw hi hr0 hnm rfl hst hM kk
theorem ex_callIN5v {j : MI} {x : Nat} {a1 a2 a3 a4 a5 : Value} {b : Nat} {host : String} (hd : decode (mi_c i) pc = .ok (.invokespecial x, 3)) (hJ : mx_J j 5) (hw : Cond.methodLinkNest (mi_y i).cls x (mi_y j) host ∈ mx_n) (hi : Cond.instanceMethod (mi_y j) ∈ mx_g) (hr0 : mi_r j = none) (hnm : (mi_y j).name = "<init>") (hst : (st.map fun v => v.category).sum ≤ 8) (hM : Mx X d j [.ref b, a1, a2, a3, a4, a5] M none M1) (kk : Ex X (d + 1) i (pc + 3) lo st M1 r M2) : Ex X (d + 1) i pc lo (a5 :: a4 :: a3 :: a2 :: a1 :: .ref b :: st) M r M2 := ex_callIN (As := [a1, a2, a3, a4, a5]) hd hJ hw hi hr0 hnm rfl hst hM kk
theorem ex_callS5r {j : MI} {x : Nat} {a1 a2 a3 a4 a5 : Value} {w : Value} (hd : decode (mi_c i) pc = .ok (.invokestatic x, 3)) (hJ : mx_J j 5) (hw : Cond.methodLink (mi_y i).cls x (mi_y j) ∈ mx_g) (hs : Cond.static (mi_y j) ∈ mx_g) (hst : (st.map fun v => v.category).sum ≤ 8) (hM : Mx X d j [a1, a2, a3, a4, a5] M (some w) M1) (kk : Ex X (d + 1) i (pc + 3) lo (w :: st) M1 r M2) : Ex X (d + 1) i pc lo (a5 :: a4 :: a3 :: a2 :: a1 :: st) M r M2 := ex_callS (As := [a1, a2, a3, a4, a5]) hd hJ hw hs rfl hst hM kk
theorem ex_callSN5r {j : MI} {x : Nat} {a1 a2 a3 a4 a5 : Value} {w : Value} {host : String} (hd : decode (mi_c i) pc = .ok (.invokestatic x, 3)) (hJ : mx_J j 5) (hw : Cond.methodLinkNest (mi_y i).cls x (mi_y j) host ∈ mx_n) (hs : Cond.static (mi_y j) ∈ mx_g) (hst : (st.map fun v => v.category).sum ≤ 8) (hM : Mx X d j [a1, a2, a3, a4, a5] M (some w) M1) (kk : Ex X (d + 1) i (pc + 3) lo (w :: st) M1 r M2) : Ex X (d + 1) i pc lo (a5 :: a4 :: a3 :: a2 :: a1 :: st) M r M2 := ex_callSN (As := [a1, a2, a3, a4, a5]) hd hJ hw hs rfl hst hM kk
theorem ex_callV5r {j : MI} {x : Nat} {a1 a2 a3 a4 a5 : Value} {w : Value} {b ci N : Nat} {T : u_T} (hd : decode (mi_c i) pc = .ok (.invokevirtual x, 3)) (hJ : mx_J j 5) (hw : Cond.methodLink (mi_y i).cls x (mi_y j) ∈ mx_g) (hi : Cond.instanceMethod (mi_y j) ∈ mx_g) (hs : Cond.selects (mi_y j).cls (mi_y j) (mi_y j) ∈ mx_g) (ho : isO M ci b) (hc : mx_cl[ci]? = some ((mi_y j).cls, T, N)) (hst : (st.map fun v => v.category).sum ≤ 8) (hM : Mx X d j [.ref b, a1, a2, a3, a4, a5] M (some w) M1) (kk : Ex X (d + 1) i (pc + 3) lo (w :: st) M1 r M2) : Ex X (d + 1) i pc lo (a5 :: a4 :: a3 :: a2 :: a1 :: .ref b :: st) M r M2 := by
  obtain ⟨fs, hf⟩ := ho
  exact ex_callV (As := [a1, a2, a3, a4, a5]) hd hJ hw hi hs hc hf rfl hst hM kk
theorem ex_callVN5r {j : MI} {x : Nat} {a1 a2 a3 a4 a5 : Value} {w : Value} {b ci N : Nat} {T : u_T} {host : String} (hd : decode (mi_c i) pc = .ok (.invokevirtual x, 3)) (hJ : mx_J j 5) (hw : Cond.methodLinkNest (mi_y i).cls x (mi_y j) host ∈ mx_n) (hi : Cond.instanceMethod (mi_y j) ∈ mx_g) (hs : Cond.selects (mi_y j).cls (mi_y j) (mi_y j) ∈ mx_g) (ho : isO M ci b) (hc : mx_cl[ci]? = some ((mi_y j).cls, T, N)) (hst : (st.map fun v => v.category).sum ≤ 8) (hM : Mx X d j [.ref b, a1, a2, a3, a4, a5] M (some w) M1) (kk : Ex X (d + 1) i (pc + 3) lo (w :: st) M1 r M2) : Ex X (d + 1) i pc lo (a5 :: a4 :: a3 :: a2 :: a1 :: .ref b :: st) M r M2 := by
  obtain ⟨fs, hf⟩ := ho
  exact ex_callVN (As := [a1, a2, a3, a4, a5]) hd hJ hw hi hs hc hf rfl hst hM kk
theorem ex_callS6v {j : MI} {x : Nat} {a1 a2 a3 a4 a5 a6 : Value} (hd : decode (mi_c i) pc = .ok (.invokestatic x, 3)) (hJ : mx_J j 6) (hw : Cond.methodLink (mi_y i).cls x (mi_y j) ∈ mx_g) (hs : Cond.static (mi_y j) ∈ mx_g) (hst : (st.map fun v => v.category).sum ≤ 8) (hM : Mx X d j [a1, a2, a3, a4, a5, a6] M none M1) (kk : Ex X (d + 1) i (pc + 3) lo st M1 r M2) : Ex X (d + 1) i pc lo (a6 :: a5 :: a4 :: a3 :: a2 :: a1 :: st) M r M2 := ex_callS (As := [a1, a2, a3, a4, a5, a6]) hd hJ hw hs rfl hst hM kk
theorem ex_callSN6v {j : MI} {x : Nat} {a1 a2 a3 a4 a5 a6 : Value} {host : String} (hd : decode (mi_c i) pc = .ok (.invokestatic x, 3)) (hJ : mx_J j 6) (hw : Cond.methodLinkNest (mi_y i).cls x (mi_y j) host ∈ mx_n) (hs : Cond.static (mi_y j) ∈ mx_g) (hst : (st.map fun v => v.category).sum ≤ 8) (hM : Mx X d j [a1, a2, a3, a4, a5, a6] M none M1) (kk : Ex X (d + 1) i (pc + 3) lo st M1 r M2) : Ex X (d + 1) i pc lo (a6 :: a5 :: a4 :: a3 :: a2 :: a1 :: st) M r M2 := ex_callSN (As := [a1, a2, a3, a4, a5, a6]) hd hJ hw hs rfl hst hM kk
theorem ex_callV6v {j : MI} {x : Nat} {a1 a2 a3 a4 a5 a6 : Value} {b ci N : Nat} {T : u_T} (hd : decode (mi_c i) pc = .ok (.invokevirtual x, 3)) (hJ : mx_J j 6) (hw : Cond.methodLink (mi_y i).cls x (mi_y j) ∈ mx_g) (hi : Cond.instanceMethod (mi_y j) ∈ mx_g) (hs : Cond.selects (mi_y j).cls (mi_y j) (mi_y j) ∈ mx_g) (ho : isO M ci b) (hc : mx_cl[ci]? = some ((mi_y j).cls, T, N)) (hst : (st.map fun v => v.category).sum ≤ 8) (hM : Mx X d j [.ref b, a1, a2, a3, a4, a5, a6] M none M1) (kk : Ex X (d + 1) i (pc + 3) lo st M1 r M2) : Ex X (d + 1) i pc lo (a6 :: a5 :: a4 :: a3 :: a2 :: a1 :: .ref b :: st) M r M2 := by
  obtain ⟨fs, hf⟩ := ho
  exact ex_callV (As := [a1, a2, a3, a4, a5, a6]) hd hJ hw hi hs hc hf rfl hst hM kk
theorem ex_callVN6v {j : MI} {x : Nat} {a1 a2 a3 a4 a5 a6 : Value} {b ci N : Nat} {T : u_T} {host : String} (hd : decode (mi_c i) pc = .ok (.invokevirtual x, 3)) (hJ : mx_J j 6) (hw : Cond.methodLinkNest (mi_y i).cls x (mi_y j) host ∈ mx_n) (hi : Cond.instanceMethod (mi_y j) ∈ mx_g) (hs : Cond.selects (mi_y j).cls (mi_y j) (mi_y j) ∈ mx_g) (ho : isO M ci b) (hc : mx_cl[ci]? = some ((mi_y j).cls, T, N)) (hst : (st.map fun v => v.category).sum ≤ 8) (hM : Mx X d j [.ref b, a1, a2, a3, a4, a5, a6] M none M1) (kk : Ex X (d + 1) i (pc + 3) lo st M1 r M2) : Ex X (d + 1) i pc lo (a6 :: a5 :: a4 :: a3 :: a2 :: a1 :: .ref b :: st) M r M2 := by
  obtain ⟨fs, hf⟩ := ho
  exact ex_callVN (As := [a1, a2, a3, a4, a5, a6]) hd hJ hw hi hs hc hf rfl hst hM kk
theorem ex_callI6v {j : MI} {x : Nat} {a1 a2 a3 a4 a5 a6 : Value} {b : Nat} (hd : decode (mi_c i) pc = .ok (.invokespecial x, 3)) (hJ : mx_J j 6) (hw : Cond.methodLink (mi_y i).cls x (mi_y j) ∈ mx_g) (hi : Cond.instanceMethod (mi_y j) ∈ mx_g) (hr0 : mi_r j = none) (hnm : (mi_y j).name = "<init>") (hst : (st.map fun v => v.category).sum ≤ 8) (hM : Mx X d j [.ref b, a1, a2, a3, a4, a5, a6] M none M1) (kk : Ex X (d + 1) i (pc + 3) lo st M1 r M2) : Ex X (d + 1) i pc lo (a6 :: a5 :: a4 :: a3 :: a2 :: a1 :: .ref b :: st) M r M2 := ex_callI (As := [a1, a2, a3, a4, a5, a6]) hd hJ hw hi hr0 hnm rfl hst hM kk
theorem ex_callIN6v {j : MI} {x : Nat} {a1 a2 a3 a4 a5 a6 : Value} {b : Nat} {host : String} (hd : decode (mi_c i) pc = .ok (.invokespecial x, 3)) (hJ : mx_J j 6) (hw : Cond.methodLinkNest (mi_y i).cls x (mi_y j) host ∈ mx_n) (hi : Cond.instanceMethod (mi_y j) ∈ mx_g) (hr0 : mi_r j = none) (hnm : (mi_y j).name = "<init>") (hst : (st.map fun v => v.category).sum ≤ 8) (hM : Mx X d j [.ref b, a1, a2, a3, a4, a5, a6] M none M1) (kk : Ex X (d + 1) i (pc + 3) lo st M1 r M2) : Ex X (d + 1) i pc lo (a6 :: a5 :: a4 :: a3 :: a2 :: a1 :: .ref b :: st) M r M2 := ex_callIN (As := [a1, a2, a3, a4, a5, a6]) hd hJ hw hi hr0 hnm rfl hst hM kk
theorem ex_callS6r {j : MI} {x : Nat} {a1 a2 a3 a4 a5 a6 : Value} {w : Value} (hd : decode (mi_c i) pc = .ok (.invokestatic x, 3)) (hJ : mx_J j 6) (hw : Cond.methodLink (mi_y i).cls x (mi_y j) ∈ mx_g) (hs : Cond.static (mi_y j) ∈ mx_g) (hst : (st.map fun v => v.category).sum ≤ 8) (hM : Mx X d j [a1, a2, a3, a4, a5, a6] M (some w) M1) (kk : Ex X (d + 1) i (pc + 3) lo (w :: st) M1 r M2) : Ex X (d + 1) i pc lo (a6 :: a5 :: a4 :: a3 :: a2 :: a1 :: st) M r M2 := ex_callS (As := [a1, a2, a3, a4, a5, a6]) hd hJ hw hs rfl hst hM kk
theorem ex_callSN6r {j : MI} {x : Nat} {a1 a2 a3 a4 a5 a6 : Value} {w : Value} {host : String} (hd : decode (mi_c i) pc = .ok (.invokestatic x, 3)) (hJ : mx_J j 6) (hw : Cond.methodLinkNest (mi_y i).cls x (mi_y j) host ∈ mx_n) (hs : Cond.static (mi_y j) ∈ mx_g) (hst : (st.map fun v => v.category).sum ≤ 8) (hM : Mx X d j [a1, a2, a3, a4, a5, a6] M (some w) M1) (kk : Ex X (d + 1) i (pc + 3) lo (w :: st) M1 r M2) : Ex X (d + 1) i pc lo (a6 :: a5 :: a4 :: a3 :: a2 :: a1 :: st) M r M2 := ex_callSN (As := [a1, a2, a3, a4, a5, a6]) hd hJ hw hs rfl hst hM kk
theorem ex_callV6r {j : MI} {x : Nat} {a1 a2 a3 a4 a5 a6 : Value} {w : Value} {b ci N : Nat} {T : u_T} (hd : decode (mi_c i) pc = .ok (.invokevirtual x, 3)) (hJ : mx_J j 6) (hw : Cond.methodLink (mi_y i).cls x (mi_y j) ∈ mx_g) (hi : Cond.instanceMethod (mi_y j) ∈ mx_g) (hs : Cond.selects (mi_y j).cls (mi_y j) (mi_y j) ∈ mx_g) (ho : isO M ci b) (hc : mx_cl[ci]? = some ((mi_y j).cls, T, N)) (hst : (st.map fun v => v.category).sum ≤ 8) (hM : Mx X d j [.ref b, a1, a2, a3, a4, a5, a6] M (some w) M1) (kk : Ex X (d + 1) i (pc + 3) lo (w :: st) M1 r M2) : Ex X (d + 1) i pc lo (a6 :: a5 :: a4 :: a3 :: a2 :: a1 :: .ref b :: st) M r M2 := by
  obtain ⟨fs, hf⟩ := ho
  exact ex_callV (As := [a1, a2, a3, a4, a5, a6]) hd hJ hw hi hs hc hf rfl hst hM kk
theorem ex_callVN6r {j : MI} {x : Nat} {a1 a2 a3 a4 a5 a6 : Value} {w : Value} {b ci N : Nat} {T : u_T} {host : String} (hd : decode (mi_c i) pc = .ok (.invokevirtual x, 3)) (hJ : mx_J j 6) (hw : Cond.methodLinkNest (mi_y i).cls x (mi_y j) host ∈ mx_n) (hi : Cond.instanceMethod (mi_y j) ∈ mx_g) (hs : Cond.selects (mi_y j).cls (mi_y j) (mi_y j) ∈ mx_g) (ho : isO M ci b) (hc : mx_cl[ci]? = some ((mi_y j).cls, T, N)) (hst : (st.map fun v => v.category).sum ≤ 8) (hM : Mx X d j [.ref b, a1, a2, a3, a4, a5, a6] M (some w) M1) (kk : Ex X (d + 1) i (pc + 3) lo (w :: st) M1 r M2) : Ex X (d + 1) i pc lo (a6 :: a5 :: a4 :: a3 :: a2 :: a1 :: .ref b :: st) M r M2 := by
  obtain ⟨fs, hf⟩ := ho
  exact ex_callVN (As := [a1, a2, a3, a4, a5, a6]) hd hJ hw hi hs hc hf rfl hst hM kk
end MXR
/-- the reader's methods that call each other, by number -/
def rdM (t : Nat) : MI := match t with
  | 0 => mX2_readAsk | 1 => mX2_readBoth | 2 => mX2_readChoice | 3 => mX2_readComparison | 4 => mX2_readEither | 5 => mX2_readOne | 6 => mX2_readOpened | 7 => mX2_readProduct | _ => mX2_readSum
def rdA (t a : Nat) (x : Int32) : List Value := if t = 6 then [.ref a, .int x] else [.ref a]
def rdOK (X : XV) (d : Nat) (rec : Nat → Nat → Int32 → Mem → Option (Bool × Mem)) : Prop := ∀ (t a : Nat) (x : Int32) (M : Mem) (res : Bool × Mem), rec t a x M = some res → isO M 2 a ∧ Mx X d (rdM t) (rdA t a x) M (some (.int (jz res.1))) res.2
