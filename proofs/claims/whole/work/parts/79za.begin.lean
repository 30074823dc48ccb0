/-! where one begins -/
def ownN (kc lw : Nat) : Prop := (kc = 14 → lw ≠ 0) ∧ (kc = 15 → lw = 1)
def opS (o c : Nat) (p : List Nat) (υ : ST) : ST := setI (setI (setI υ 642 17 (nI (o + 1))) 647 p.length (nI c)) 642 16 (nI (p.length + 1))
section BEG
variable {N : Mem} {σ τ υ υ' υ2 υ'' : ST} {B : Nat → Nat} {L q kc t lw o k k' i i' x v a m m' d d' c f : Nat} {p : List Nat} {b : Bool}
theorem w_16 : f_X11_w2 116 111 = some (lN (wpk 16)) := by decide +kernel
theorem w_17 : f_X11_w2 98 121 = some (lN (wpk 17)) := by decide +kernel
theorem w_18 : f_X11_w6 100 105 103 105 116 115 = some (lN (wpk 18)) := by decide +kernel
theorem w_19 : f_X11_w4 115 117 109 115 = some (lN (wpk 19)) := by decide +kernel
theorem w_20 : f_X11_w2 105 102 = some (lN (wpk 20)) := by decide +kernel
theorem w_24 : f_X11_w2 111 114 = some (lN (wpk 24)) := by decide +kernel
theorem w_25 : f_X11_w3 97 110 100 = some (lN (wpk 25)) := by decide +kernel
theorem w_26 : f_X11_w3 110 111 116 = some (lN (wpk 26)) := by decide +kernel
theorem nm_k (kc : Nat) : (if kc = 9 then nI 0 else if kc = 10 then nI 1 else if kc = 11 then nI 2 else if kc = 8 then nI 3 else if kc = 12 then nI 4 else if kc = 13 then nI 5 else if kc = 14 then nI 6 else if kc = 15 then nI 7 else -1) = if 8 ≤ kc ∧ kc ≤ 15 then nI (nmI kc) else -1 := by
  by_cases c : 8 ≤ kc ∧ kc ≤ 15
  · rw [if_pos c]
    obtain rfl | rfl | rfl | rfl | rfl | rfl | rfl | rfl : kc = 8 ∨ kc = 9 ∨ kc = 10 ∨ kc = 11 ∨ kc = 12 ∨ kc = 13 ∨ kc = 14 ∨ kc = 15 := by omega
    all_goals rfl
  · rw [if_neg c, if_neg (by omega), if_neg (by omega), if_neg (by omega), if_neg (by omega), if_neg (by omega), if_neg (by omega), if_neg (by omega), if_neg (by omega)]
theorem nmx_e (h : TKN B L σ υ q kc) : g_X11_nameOf N 642 υ = some (if 8 ≤ kc ∧ kc ≤ 15 then nI (nmI kc) else -1) := by
  rw [tk_nm h, nm_k]
theorem nmx_n (h : TKN B L σ υ q kc) (hk : ¬ (8 ≤ kc ∧ kc ≤ 15)) : g_X11_nameOf N 642 υ = some (-1) := by
  rw [nmx_e h, if_neg hk]
theorem nmx_y (h : TKN B L σ υ q kc) (hk : 8 ≤ kc ∧ kc ≤ 15) : g_X11_nameOf N 642 υ = some (nI (nmI kc)) := by
  rw [nmx_e h, if_pos hk]
theorem tk_27 (h : TKN B L σ υ q kc) : υ.1 642 9 = 1 ↔ kc = 27 := tk_s h (k := 27) (by omega) (by omega)
theorem nmI_b (kc : Nat) : nmI kc < 8 := by
  unfold nmI
  repeat' split
  all_goals omega
theorem bg_num (h : TKN B L σ υ q kc) (hk : kc = 27) (hv : υ.1 642 10 = nI v) (h9 : v ≤ 9999) : g_X11_beginOne N 642 υ = g_X11_beginOne_81 N 642 (nI v) false 642 υ := by
  have t27 := (tk_27 h).mpr hk
  unfold g_X11_beginOne g_X11_beginOne_0 g_X11_beginOne_20 g_X11_beginOne_39 g_X11_beginOne_51 g_X11_beginOne_65
  rw [if_pos t27, hv, show (9999 : Int32) = nI 9999 from rfl, if_pos (nI_le h9 (by omega)), nmx_n h (by omega), bnd, if_pos (by decide), if_pos t27, if_pos t27, if_pos t27]
theorem bg_num2 (h : TKN B L σ υ q kc) (hk : kc = 27) (hv : υ.1 642 10 = nI v) (h9 : 9999 < v) (hb : v ≤ 1000000) : g_X11_beginOne N 642 υ = some (nI 2, υ) := by
  have t27 := (tk_27 h).mpr hk
  unfold g_X11_beginOne g_X11_beginOne_0
  rw [if_pos t27, hv, show (9999 : Int32) = nI 9999 from rfl, if_neg (nI_ge h9 (by omega))]
  rfl
theorem of_e (h8 : 8 ≤ kc) (h15 : kc ≤ 15) (hl : υ.1 642 14 = nI lw) (h3 : lw < 3) : ∃ d, g_X11_isOf N 642 (nI (nmI kc)) υ = some d ∧ (d = true ↔ ownN kc lw) := by
  unfold g_X11_isOf g_X11_isOf_0 ownN
  have nb := nmI_b kc
  rw [hl, show (6 : Int32) = nI 6 from rfl, show (0 : Int32) = nI 0 from rfl, show (1 : Int32) = nI 1 from rfl]
  by_cases c : kc < 14
  · have : nmI kc < 6 := by
      unfold nmI
      repeat' split
      all_goals omega
    rw [if_pos (nI_lt this (by omega))]
    exact ⟨true, rfl, fun _ => ⟨by omega, by omega⟩, fun _ => rfl⟩
  · by_cases c2 : kc = 14
    · have : nmI kc = 6 := by rw [c2]; rfl
      rw [this, if_neg (by first | decide | exact tnf | exact fnt), if_pos rfl]
      by_cases e : lw = 0
      · rw [e, if_pos rfl]
        exact ⟨false, rfl, fun y => (by cases y), fun y => absurd rfl (y.1 c2)⟩
      · rw [if_neg (fun y => e ((nI_eq (by omega) (by omega)).mp y))]
        exact ⟨true, rfl, fun _ => ⟨fun _ => e, by omega⟩, fun _ => rfl⟩
    · have c3 : kc = 15 := by omega
      have : nmI kc = 7 := by rw [c3]; rfl
      rw [this, if_neg (by first | decide | exact tnf | exact fnt), if_neg (by first | decide | exact tnf | exact fnt)]
      by_cases e : lw = 1
      · rw [e, if_pos rfl]
        exact ⟨true, rfl, fun _ => ⟨by omega, fun _ => rfl⟩, fun _ => rfl⟩
      · rw [if_neg (fun y => e ((nI_eq (by omega) (by omega)).mp y))]
        exact ⟨false, rfl, fun y => (by cases y), fun y => absurd (y.2 c3) e⟩
theorem bg_nam (h : TKN B L σ υ q kc) (h8 : 8 ≤ kc) (h15 : kc ≤ 15) (hl : υ.1 642 14 = nI lw) (h3 : lw < 3) : (ownN kc lw → g_X11_beginOne N 642 υ = g_X11_beginOne_81 N 642 (nI (nmI kc)) true 642 υ) ∧ (¬ ownN kc lw → g_X11_beginOne N 642 υ = some (nI 5, υ)) := by
  have t27 : ¬ υ.1 642 9 = 1 := fun y => by have := (tk_27 h).mp y; omega
  have nb := nmI_b kc
  obtain ⟨d, d1, d2⟩ := of_e (N := N) h8 h15 hl h3
  unfold g_X11_beginOne g_X11_beginOne_0 g_X11_beginOne_20
  rw [if_neg t27, nmx_y h ⟨h8, h15⟩, bnd, if_neg (nI_pos (by omega)), d1, bnd]
  refine ⟨fun ho => ?_, fun ho => ?_⟩
  · unfold g_X11_beginOne_39 g_X11_beginOne_51 g_X11_beginOne_65
    rw [if_pos (d2.mpr ho), if_neg t27, if_neg (nI_pos (by omega)), if_neg t27, if_neg t27]
  · rw [if_neg (fun y => ho (d2.mp y))]
    rfl
def opc (kc : Nat) : Nat := if kc = 36 then 40 else if kc = 33 then 5 else if kc = 18 then 2 else if kc = 19 then 3 else 41
theorem bg_oth (h : TKN B L σ υ q kc) (hn : kc ≠ 27) (hm : ¬ (8 ≤ kc ∧ kc ≤ 15)) : g_X11_beginOne N 642 υ = (if kc = 36 ∨ kc = 33 ∨ kc = 18 ∨ kc = 19 ∨ kc = 20 then g_X11_opened N 642 (nI (opc kc)) υ else if kc = 26 then (g_X11_isAskAhead N 642 υ).bind (fun d => if d = false then some (1, υ) else g_X11_opened N 642 (nI 20) υ) else some (1, υ)) := by
  have t27 : ¬ υ.1 642 9 = 1 := fun y => hn ((tk_27 h).mp y)
  have et : ∀ z : Option (Int32 × ST), (z.bind fun r => some (r.1, r.2)) = z := by
    intro z
    cases z <;> rfl
  have t36 : υ.1 642 9 = 40 ↔ kc = 36 := tk_s h (k := 36) (by omega) (by omega)
  have t33 : υ.1 642 9 = 45 ↔ kc = 33 := tk_s h (k := 33) (by omega) (by omega)
  unfold g_X11_beginOne g_X11_beginOne_0 g_X11_beginOne_20 g_X11_beginOne_39
  rw [if_neg t27, nmx_n h hm, bnd, if_pos (by decide), if_neg t27, if_pos (by decide)]
  by_cases c36 : kc = 36
  · rw [if_pos (t36.mpr c36), if_pos (Or.inl c36), et, c36]
    rfl
  rw [if_neg (fun y => c36 (t36.mp y))]
  by_cases c33 : kc = 33
  · rw [if_pos (t33.mpr c33), if_pos (by omega), et, c33]
    rfl
  rw [if_neg (fun y => c33 (t33.mp y)), w_18, bnd, tk_w h (by omega) (by omega), bnd]
  by_cases c18 : kc = 18
  · rw [decide_eq_true c18, if_neg (by first | decide | exact tnf | exact fnt), if_pos (by omega), et, c18]
    rfl
  rw [decide_eq_false c18, if_pos rfl, w_19, bnd, tk_w h (by omega) (by omega), bnd]
  by_cases c19 : kc = 19
  · rw [decide_eq_true c19, if_neg (by first | decide | exact tnf | exact fnt), if_pos (by omega), et, c19]
    rfl
  rw [decide_eq_false c19, if_pos rfl, w_20, bnd, tk_w h (by omega) (by omega), bnd]
  by_cases c20 : kc = 20
  · rw [decide_eq_true c20, if_neg (by first | decide | exact tnf | exact fnt), if_pos (by omega), et, c20]
    rfl
  rw [decide_eq_false c20, if_pos rfl, w_26, bnd, tk_w h (by omega) (by omega), bnd, if_neg (show ¬ (kc = 36 ∨ kc = 33 ∨ kc = 18 ∨ kc = 19 ∨ kc = 20) by omega)]
  by_cases c26 : kc = 26
  · rw [decide_eq_true c26, if_neg (by first | decide | exact tnf | exact fnt), if_pos c26]
    congr 1
    funext d
    rw [et]
    rfl
  · rw [decide_eq_false c26, if_pos rfl, if_neg c26]
theorem op_8 (h : υ.1 642 17 = nI 8) (x : Int32) : g_X11_opened N 642 x υ = some (nI 3, υ) := by
  unfold g_X11_opened g_X11_opened_0
  rw [if_pos (by rw [h]; rfl)]
  rfl
theorem op_e (h : RDr υ t lw o k p b) (ho : o < 8) (hl : p.length < 160) (hc : c ≤ 43) : g_X11_opened N 642 (nI c) υ = ((g_X11_nextToken N 642 (opS o c p υ)).bind fun r => some (0, r)) ∧ RDr (opS o c p υ) t lw (o + 1) k (c :: p) b ∧ FRp t k υ (opS o c p υ) := by
  obtain ⟨h1, h2, h3, h4, h5, h6, h7⟩ := h
  refine ⟨?_, ⟨?_, ?_, ?_, I_same rfl rfl, ?_, ?_, ?_, hc, h7.fr (fun j hj => ?_)⟩, ⟨fun a j q1 q2 q3 => ?_, rfl⟩⟩
  · unfold g_X11_opened g_X11_opened_0 opS
    have e16 : (setI υ 642 17 (nI (o + 1))).1 642 16 = nI p.length := (I_col (by omega)).trans h4
    have e16' : (setI (setI υ 642 17 (nI (o + 1))) (642 + 5) p.length (nI c)).1 642 16 = nI p.length := (I_row (by omega)).trans e16
    rw [h5, show (8 : Int32) = nI 8 from rfl, if_neg (fun y => by have := (nI_eq (by omega) (by omega)).mp y; omega), bnd, show (1 : Int32) = nI 1 from rfl, nI_add, e16, yI_n (by omega) (by omega), bnd, bnd, e16', nI_add]
  all_goals unfold opS
  all_goals (try simp (disch := omega) only [I_same, I_row, I_col])
  all_goals (try assumption)
  refine Eq.trans (if_neg (by omega)) (Eq.trans (if_neg (by omega)) (if_neg (by omega)))
end BEG
