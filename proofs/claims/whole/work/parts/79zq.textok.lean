/-! text, whole -/
def Ext (N N' : Mem) : Prop := ∀ q x, N.2.2 q = some x → N'.2.2 q = some x
section TOK
variable {N N' : Mem} {σ τ υ υ' : ST} {s z s' : SS} {B : Nat} {R R' : Nat → Int32} {A A' : Nat → Int32}
theorem Ext.qF (h : Ext N N') {ci a k : Nat} {v : Value} (e : gF N ci a k = some v) : gF N' ci a k = some v := by
  unfold gF at e ⊢
  cases hq : N.2.2 a with
  | none => rw [hq] at e; cases e
  | some x => rw [h a x hq]; rw [hq] at e; exact e
theorem Ext.ob (h : Ext N N') {ci a : Nat} (e : isOb N ci a = true) : isOb N' ci a = true := by
  unfold isOb at e ⊢
  cases hq : N.2.2 a with
  | none => rw [hq] at e; cases e
  | some x => rw [h a x hq]; rw [hq] at e; exact e
theorem gR_g {N : Mem} {ci a k u : Nat} : gR N ci a k = some u ↔ gF N ci a k = some (.ref u) := by
  unfold gR
  constructor
  · intro e
    split at e
    · next x hx => obtain rfl := Option.some.inj e; exact hx
    · cases e
  · intro e
    rw [e]
theorem gI_g {N : Mem} {ci a k : Nat} {u : Int32} : gI N ci a k = some u ↔ gF N ci a k = some (.int u) := by
  unfold gI
  constructor
  · intro e
    split at e
    · next x hx => obtain rfl := Option.some.inj e; exact hx
    · cases e
  · intro e
    rw [e]
theorem Ext.qR (h : Ext N N') {ci a k u : Nat} (e : gR N ci a k = some u) : gR N' ci a k = some u := gR_g.mpr (h.qF (gR_g.mp e))
theorem Ext.qI (h : Ext N N') {ci a k : Nat} {u : Int32} (e : gI N ci a k = some u) : gI N' ci a k = some u := gI_g.mpr (h.qF (gI_g.mp e))
theorem Ext.ln (h : Ext N N') {a : Nat} {u : Int32} (e : lnA N a = some u) : lnA N' a = some u := by
  unfold lnA at e ⊢
  cases hq : N.2.2 a with
  | none => rw [hq] at e; cases e
  | some x => rw [h a x hq]; rw [hq] at e; exact e
theorem Ext.qr (h : Ext N N') {a : Nat} {i u : Int32} (e : rI N a i = some u) : rI N' a i = some u := by
  unfold rI aI at e ⊢
  cases hq : N.2.2 a with
  | none => rw [hq] at e; cases e
  | some x => rw [h a x hq]; rw [hq] at e; exact e
/-- a text stays what it is, where more lies beside it -/
theorem Ext.tx (h : Ext N N') {t : Nat} (e : TR N t R) (hR : ∀ i, i < 705 → R' i = R i) : TR N' t R' := by
  obtain ⟨u0, u1, u2, u3, u4, nO, nC, O, P, ck, hob, g0, g1, g2, g3, g4, g5, n0, n2, n4, hnO, hnC, hR0, hO, hcl, hlw⟩ := e
  refine ⟨u0, u1, u2, u3, u4, nO, nC, O, P, ck, h.ob hob, h.qR g0, h.qR g1, h.qR g2, h.qR g3, h.qR g4, h.qI g5, h.ln n0, h.ln n2, h.ln n4, hnO, hnC, (hR _ (by omega)).trans hR0, fun i hi => ?_, fun k hk => ?_, fun l hl => ?_⟩
  · obtain ⟨a1, a2, a3⟩ := hO i hi
    exact ⟨h.qr a1, h.qr a2, a3⟩
  · obtain ⟨a1, a2, a3, x, y, a4, a5, a6, a7⟩ := hcl k hk
    refine ⟨a1, (hR _ (by omega)).trans a2, h.qr a3, x, y, h.qr a4, h.qr a5, fun q => ?_, fun q1 q2 q3 => ?_⟩
    · rw [hR _ (by omega)]
      exact a6 q
    · rw [hR _ (by omega)]
      exact a7 q1 q2 q3
  · rcases hlw l hl with ⟨a1, a2⟩ | ⟨k, F, T, a, b, C, D, a1, a2, a3, a4, a5, a6, a7, a8, a9, a10, a11, a12⟩
    · exact Or.inl ⟨a1, h.qr a2⟩
    · refine Or.inr ⟨k, F, T, a, b, C, D, a1, a2, a3, h.qr a4, h.qr a5, a6, a7, (hR _ (by omega)).trans a8, (hR _ (by omega)).trans a9, a10, fun q q1 q2 => ?_, a12⟩
      rw [hR _ (by omega), hR _ (by omega)]
      exact a11 q q1 q2
theorem rI_at {u m q : Nat} {g : Nat → Int32} (h : N.2.2 u = some (mx_ia m g)) (hq : q < m) (hm : m ≤ 5000) : rI N u (nI q) = some (g q) := by
  unfold rI aI
  rw [h]
  show (if nI q < 0 ∨ m ≤ (nI q).toNatClampNeg then none else some (g (nI q).toNatClampNeg)) = _
  rw [if_neg (nI_in hq (by omega)), nI_clamp (by omega)]
theorem ln_at {u m : Nat} {g : Nat → Int32} (h : N.2.2 u = some (mx_ia m g)) : lnA N u = some (nI m) := by
  unfold lnA
  rw [h]
  rfl
/-- what was read is what was made -/
theorem made {Bt : Nat → Nat} {L t n i k q kc on T : Nat} {ck : Nat → Nat} {g1 g2 g5 : Nat → Int32} (h : CLI Bt L t n i k σ υ q kc on ck) (h0 : N.2.2 T = some (mx_ob 8 [.ref (T + 1), .ref (T + 2), .ref (T + 3), .ref (T + 4), .ref (T + 5), .int (nI n)])) (h1 : N.2.2 (T + 1) = some (mx_ia i g1)) (h2 : N.2.2 (T + 2) = some (mx_ia i g2)) (h3 : N.2.2 (T + 3) = some (mx_ia 3 (σ.1 598))) (h4 : N.2.2 (T + 4) = some (mx_ia 3 (σ.1 599))) (h5 : N.2.2 (T + 5) = some (mx_ia (3 * n) g5)) (h6 : ∀ q, q < i → g1 q = σ.1 596 q ∧ g2 q = σ.1 597 q) (h7 : ∀ q, q < 3 * n → g5 q = σ.1 600 q) : TR N T (fun i => υ.1 645 (705 * t + i)) := by
  obtain ⟨a1, ⟨a2, a3, a4⟩, ⟨a5, a6, a7, a8⟩, ⟨a9, a10, a11, a12⟩, a13, a14, a15⟩ := h
  have hL := tk_le a1
  have gf : ∀ k v, ([.ref (T + 1), .ref (T + 2), .ref (T + 3), .ref (T + 4), .ref (T + 5), .int (nI n)] : List Value)[k]? = some v → gF N 8 T k = some v := by
    intro k v hv
    unfold gF
    rw [h0]
    show (if 8 = 8 then _ else none) = _
    rw [if_pos rfl]
    exact hv
  have hob : isOb N 8 T = true := by
    unfold isOb
    rw [h0]
    rfl
  refine ⟨T + 1, T + 2, T + 3, T + 4, T + 5, i, n, cO σ, cP σ, ck, hob, gR_g.mpr (gf 0 _ rfl), gR_g.mpr (gf 1 _ rfl), gR_g.mpr (gf 2 _ rfl), gR_g.mpr (gf 3 _ rfl), gR_g.mpr (gf 4 _ rfl), gI_g.mpr (gf 5 _ rfl), ln_at h1, ln_at h3, ln_at h5, by omega, a9, a8, fun q hq => ?_, fun c hc => ?_, fun l hl => ?_⟩
  · obtain ⟨a, b, b1, b2, b3, b4⟩ := a13 q (by omega) hq
    obtain ⟨c1, c2⟩ := h6 q hq
    rw [rI_at h1 hq (by omega), rI_at h2 hq (by omega), c1, c2]
    unfold cO cP
    rw [b1, b2, nI_clamp (by omega), nI_clamp (by omega)]
    exact ⟨rfl, rfl, b3, b4⟩
  · obtain ⟨b1, b2, b3, b4, b5⟩ := a14 c hc
    refine ⟨b1, b2, ?_, g5 (3 * c + 1), g5 (3 * c + 2), rI_at h5 (by omega) (by omega), rI_at h5 (by omega) (by omega), fun y => ?_, fun y1 y2 y3 => ?_⟩
    · rw [rI_at h5 (by omega) (by omega), h7 _ (by omega)]
      exact congrArg some b3
    · obtain ⟨v, v1, v2, v3, v4⟩ := b4 y
      rw [h7 _ (by omega), v2]
      exact ⟨v3, v, v1, rfl, v4⟩
    · obtain ⟨v, v1, v2, v3⟩ := b5 y1 y2 y3
      rw [h7 _ (by omega), v2]
      exact ⟨v3, v, v1, rfl⟩
  · rcases a15 l hl with ⟨_, b2, b3⟩ | ⟨_, c, F, T', a, b, b2, b3, b4, b5, b6, b7, b8, b9, b10, b11⟩
    · left
      refine ⟨b2, ?_⟩
      rw [rI_at h3 hl (by omega), b3]
      rfl
    · right
      refine ⟨c, F, T', a, b, rC t υ, rD t υ, b2, b3, b4, ?_, ?_, b11.2.2.1, b7, b8, b9, by omega, fun q q1 q2 => ?_, b11.1 rfl⟩
      · rw [rI_at h3 hl (by omega), b5]
      · rw [rI_at h4 hl (by omega), b6]
      · obtain ⟨x, y, x1, x2, x3, x4, x5⟩ := b11.2.2.2.2.2 q q1 q2
        unfold rC rD
        dsimp only
        rw [x1, x2, nI_clamp (by omega), nI_clamp (by omega)]
        exact ⟨rfl, rfl, x3, x4, x5⟩
theorem wf_05 (h : WFs s) {v : Nat} (h1 : s 0 5 ≤ v) (h2 : v ≤ 4) : WFs (us s 0 5 v) := by
  obtain ⟨W, P, h2', h3, h5, h6, r12, z13, r14, z15, r16, z17, r18, z19, z21, r20, r22, r23, r24, r25, pc⟩ := h
  refine ⟨WFw_c (fun c j hc => us_row (by omega)) W, fun p hp => WFw_c (fun c j hc => us_row (by omega)) (P p hp), ?_, ?_, ?_, ?_, ?_, ?_, ?_, ?_, ?_, ?_, ?_, ?_, ?_, ?_, ?_, ?_, ?_, ?_, ?_⟩
  · rw [us_col (by omega)]; exact h2'
  · rw [us_col (by omega)]; exact h3
  · rw [us_same rfl rfl]; exact h2
  · rw [us_same rfl rfl, us_col (by omega)]; omega
  · intro j; rw [us_row (by omega)]; exact r12 j
  · rw [us_row (by omega)]; exact z13
  · intro j; rw [us_row (by omega)]; exact r14 j
  · rw [us_row (by omega)]; exact z15
  · intro j; rw [us_row (by omega)]; exact r16 j
  · rw [us_row (by omega)]; exact z17
  · intro j; rw [us_row (by omega)]; exact r18 j
  · rw [us_row (by omega)]; exact z19
  · rw [us_row (by omega), us_row (by omega)]; exact z21
  · intro j hj; rw [us_row (by omega)] at hj; rw [us_row (by omega), us_row (by omega)]; exact r20 j hj
  · intro j; rw [us_row (by omega)]; exact r22 j
  · intro j; rw [us_row (by omega)]; exact r23 j
  · intro j; rw [us_row (by omega)]; exact r24 j
  · intro j; rw [us_row (by omega)]; exact r25 j
  · intro j hj
    rw [us_col (by omega)] at hj
    rw [past_c (s := s) (fun c i hc => us_row (by omega)) (us_col (by omega)), us_row (by omega)]
    exact pc j hj
theorem rr_05 (hW : WFs s) (h : RR A s) {v : Nat} (h1 : A' 1 = nI v) (hA : ∀ j, j ≠ 1 → A' j = A j) : RR A' (us s 0 5 v) := by
  obtain ⟨sc, ma, r12, r14, r16, r18, r23, r24, r25, rd, st, bk⟩ := h
  obtain ⟨a0, a1, a2, a3, a4, a5, a6, a7, a8, a9, a10⟩ := sc
  refine ⟨⟨?_, ?_, ?_, ?_, ?_, ?_, ?_, ?_, ?_, ?_, ?_⟩, Rma_c (fun j _ _ => hA _ (by omega)) (fun c j _ => us_row (by omega)) hW.1 ma, Rro_c (fun j _ _ => hA _ (by omega)) (fun j _ => us_row (by omega)) r12, Rro_c (fun j _ _ => hA _ (by omega)) (fun j _ => us_row (by omega)) r14, Rro_c (fun j _ _ => hA _ (by omega)) (fun j _ => us_row (by omega)) r16, Rro_c (fun j _ _ => hA _ (by omega)) (fun j _ => us_row (by omega)) r18, Rro_c (fun j _ _ => hA _ (by omega)) (fun j _ => us_row (by omega)) r23, Rro_c (fun j _ _ => hA _ (by omega)) (fun j _ => us_row (by omega)) r24, Rro_c (fun j _ _ => hA _ (by omega)) (fun j _ => us_row (by omega)) r25, Rrd_c (fun j _ _ => hA _ (by omega)) (fun j => us_row (by omega)) (fun j => us_row (by omega)) rd, Rst_c (fun j _ _ => hA _ (by omega)) (fun c j _ => us_row (by omega)) (us_col (by omega)) (us_col (by omega)) hW st, Rbk_c (fun j _ => hA _ (by omega)) (fun c j _ => us_row (by omega)) hW.1.2.2.2.1 bk⟩
  · rw [hA _ (by omega), us_row (by omega)]; exact a0
  · rw [us_same rfl rfl]; exact h1
  · rw [hA _ (by omega), us_col (by omega)]; exact a2
  · rw [hA _ (by omega), us_col (by omega)]; exact a3
  · rw [hA _ (by omega), us_row (by omega)]; exact a4
  · rw [hA _ (by omega), us_row (by omega)]; exact a5
  · rw [hA _ (by omega), us_row (by omega)]; exact a6
  · rw [hA _ (by omega), us_row (by omega)]; exact a7
  · rw [hA _ (by omega), us_row (by omega)]; exact a8
  · rw [hA _ (by omega), us_row (by omega)]; exact a9
  · rw [hA _ (by omega), us_row (by omega)]; exact a10
end TOK
