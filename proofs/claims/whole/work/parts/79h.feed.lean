/-! feed -/
def pts (r c k : Nat) (f : Nat → Int32) (L : Nat) (σ : ST) (n : Nat) : ST := match n with
  | 0 => σ
  | n + 1 => setI (setI (pts r c k f L σ n) r (L + n) (f n)) c k (nI (L + n + 1))
section FEE
variable {N : Mem} {σ τ υ : ST} {s z : SS} {r c k L : Nat} {f : Nat → Int32}
theorem nI_all (x : Int32) : x = nI x.toBitVec.toNat := by
  apply Int32.toBitVec_inj.mp
  show x.toBitVec = BitVec.ofNat 32 x.toBitVec.toNat
  exact BitVec.eq_of_toNat_eq (by rw [BitVec.toNat_ofNat]; exact (Nat.mod_eq_of_lt x.toBitVec.isLt).symm)
theorem b255 (x : Int32) : ∃ b, b ≤ 255 ∧ x &&& 255 = nI b := by
  refine ⟨(x &&& 255).toBitVec.toNat, ?_, nI_all _⟩
  rw [Int32.toBitVec_and, BitVec.toNat_and]
  exact Nat.and_le_right
theorem u_k (x : Int32) {k : Nat} (hk : k = 0 ∨ k = 8 ∨ k = 16 ∨ k = 24) : (jushr x (nI k)).toBitVec = x.toBitVec >>> k := by
  unfold jushr
  rcases hk with rfl | rfl | rfl | rfl <;> rfl
theorem s_k (x : Int32) {k : Nat} (hk : k = 0 ∨ k = 8 ∨ k = 16 ∨ k = 24) : (jshr x (nI k)).toBitVec = x.toBitVec.sshiftRight k := by
  unfold jshr
  rcases hk with rfl | rfl | rfl | rfl <;> rfl
theorem hi8 : ∀ i, i < 32 → 8 ≤ i → (255 : Int32).toBitVec.getLsbD i = false := by decide +kernel
theorem byt (x : Int32) {k : Nat} (hk : k = 0 ∨ k = 8 ∨ k = 16 ∨ k = 24) : jushr x (nI k) &&& 255 = jshr x (nI k) &&& 255 := by
  apply Int32.toBitVec_inj.mp
  rw [Int32.toBitVec_and, Int32.toBitVec_and, u_k x hk, s_k x hk]
  refine BitVec.eq_of_getLsbD_eq (fun i hi => ?_)
  rw [BitVec.getLsbD_and, BitVec.getLsbD_and]
  by_cases h : 8 ≤ i
  · rw [hi8 i hi h, Bool.and_false, Bool.and_false]
  · rw [BitVec.getLsbD_ushiftRight, BitVec.getLsbD_sshiftRight, if_pos (by omega), decide_eq_false (by omega : ¬ 32 ≤ i)]
    rfl
theorem pts_f (n : Nat) : ∀ a i, a ≠ r → ¬ (a = c ∧ i = k) → (pts r c k f L σ n).1 a i = σ.1 a i := by
  induction n with
  | zero => intro a i _ _; rfl
  | succ n ih =>
    intro a i h1 h2
    refine Eq.trans ?_ (ih a i h1 h2)
    refine Eq.trans ?_ (I_row (k := L + n) (v := f n) h1)
    exact if_neg h2
theorem pts_2 (n : Nat) : (pts r c k f L σ n).2 = σ.2 := by
  induction n with
  | zero => rfl
  | succ n ih => exact ih
theorem pts_n (h : σ.1 c k = nI L) (n : Nat) : (pts r c k f L σ n).1 c k = nI (L + n) := by
  cases n with
  | zero => exact h
  | succ n => exact I_same rfl rfl
theorem pts_r (hrc : r ≠ c) (n : Nat) : ∀ i, i < L + n → (pts r c k f L σ n).1 r i = if i < L then σ.1 r i else f (i - L) := by
  induction n with
  | zero =>
    intro i hi
    exact (if_pos hi).symm
  | succ n ih =>
    intro i hi
    refine Eq.trans (I_row hrc) ?_
    by_cases h : i = L + n
    · subst h
      rw [I_same rfl rfl, if_neg (by omega), Nat.add_sub_cancel_left]
    · refine Eq.trans (if_neg (fun q => h q.2)) (ih i (by omega))
theorem ap1 {x k : Int32} {n L : Nat} (hL : L < 300) (h : σ.1 593 1 = nI L) (hk : ¬ k < 0) : g_X7_append_3 N (n + 1) 593 x k σ = g_X7_append_3 N n 593 x (k + -8) (setI (setI σ 594 L (jushr x k &&& 255)) 593 1 (nI (L + 1))) := by
  have wd : decide (nI 0 ≤ nI L ∧ nI L ≤ nI 299) = true := decide_eq_true ⟨nI_le (by omega) (by omega), nI_le (by omega) (by omega)⟩
  have e : (setI σ 594 L (jushr x k &&& 255)).1 593 1 = nI L := (I_row (by omega)).trans h
  rw [g_X7_append_3, if_neg hk, h]
  have w : f_X10_within (nI L) 0 299 = some true := by
    rw [show (0 : Int32) = nI 0 from rfl, show (299 : Int32) = nI 299 from rfl, wi10, wd]
  rw [w, bnd, if_neg (by decide), yI_n (by omega) (by omega), bnd]
  show g_X7_append_3 N n 593 x (k + -8) (setI (setI σ 594 L (jushr x k &&& 255)) 593 1 ((setI σ 594 L (jushr x k &&& 255)).1 593 1 + 1)) = _
  rw [e, k_1, nI_add]
theorem fo1 {x k : Int32} {n L : Nat} (hL : L < 300) (h : σ.1 642 4 = nI L) (hk : ¬ k < 0) : g_X11_four_3 N (n + 1) 642 x k σ = g_X11_four_3 N n 642 x (k + -8) (setI (setI σ 646 L (jshr x k &&& 255)) 642 4 (nI (L + 1))) := by
  have e : (setI σ 646 L (jshr x k &&& 255)).1 642 4 = nI L := (I_row (by omega)).trans h
  rw [g_X11_four_3, if_neg hk, h, yI_n (by omega) (by omega), bnd]
  show g_X11_four_3 N n 642 x (k + -8) (setI (setI σ 646 L (jshr x k &&& 255)) 642 4 ((setI σ 646 L (jshr x k &&& 255)).1 642 4 + 1)) = _
  rw [e, k_1, nI_add]
def wds (f : Nat → Int32) (n : Nat) (x : Int32) : Prop := f n = jshr x (nI 24) &&& 255 ∧ f (n + 1) = jshr x (nI 16) &&& 255 ∧ f (n + 2) = jshr x (nI 8) &&& 255 ∧ f (n + 3) = jshr x (nI 0) &&& 255
theorem app4 {x : Int32} {n : Nat} (h : σ.1 593 1 = nI L) (hL : L + n + 4 ≤ 300) (hf : wds f n x) : g_X7_append N 593 x (pts 594 593 1 f L σ n) = some (pts 594 593 1 f L σ (n + 4)) := by
  obtain ⟨f0, f1, f2, f3⟩ := hf
  obtain ⟨y, hy⟩ : ∃ y, fu = y + 1 + 1 + 1 + 1 + 1 := ⟨999995, by unfold fu; omega⟩
  rw [← byt x (by omega)] at f0 f1 f2 f3
  have e : pts 594 593 1 f L σ (n + 4) = setI (setI (pts 594 593 1 f L σ (n + 3)) 594 (L + (n + 3)) (f (n + 3))) 593 1 (nI (L + (n + 3) + 1)) := rfl
  have e3 : pts 594 593 1 f L σ (n + 3) = setI (setI (pts 594 593 1 f L σ (n + 2)) 594 (L + (n + 2)) (f (n + 2))) 593 1 (nI (L + (n + 2) + 1)) := rfl
  have e2 : pts 594 593 1 f L σ (n + 2) = setI (setI (pts 594 593 1 f L σ (n + 1)) 594 (L + (n + 1)) (f (n + 1))) 593 1 (nI (L + (n + 1) + 1)) := rfl
  have e1 : pts 594 593 1 f L σ (n + 1) = setI (setI (pts 594 593 1 f L σ n) 594 (L + n) (f n)) 593 1 (nI (L + n + 1)) := rfl
  unfold g_X7_append g_X7_append_0
  rw [hy, show (24 : Int32) = nI 24 from rfl, ap1 (L := L + n) (by omega) (pts_n h n) (by decide), ← f0, ← e1, show nI 24 + -8 = nI 16 from rfl, ap1 (L := L + (n + 1)) (by omega) (pts_n h _) (by decide), ← f1, ← e2, show nI 16 + -8 = nI 8 from rfl, ap1 (L := L + (n + 2)) (by omega) (pts_n h _) (by decide), ← f2, ← e3, show nI 8 + -8 = nI 0 from rfl, ap1 (L := L + (n + 3)) (by omega) (pts_n h _) (by decide), ← f3, ← e, g_X7_append_3, if_pos (by decide)]
theorem fou4 {x : Int32} {n : Nat} (h : σ.1 642 4 = nI L) (hL : L + n + 4 ≤ 300) (hf : wds f n x) : g_X11_four N 642 x (pts 646 642 4 f L σ n) = some (pts 646 642 4 f L σ (n + 4)) := by
  obtain ⟨f0, f1, f2, f3⟩ := hf
  obtain ⟨y, hy⟩ : ∃ y, fu = y + 1 + 1 + 1 + 1 + 1 := ⟨999995, by unfold fu; omega⟩
  have e : pts 646 642 4 f L σ (n + 4) = setI (setI (pts 646 642 4 f L σ (n + 3)) 646 (L + (n + 3)) (f (n + 3))) 642 4 (nI (L + (n + 3) + 1)) := rfl
  have e3 : pts 646 642 4 f L σ (n + 3) = setI (setI (pts 646 642 4 f L σ (n + 2)) 646 (L + (n + 2)) (f (n + 2))) 642 4 (nI (L + (n + 2) + 1)) := rfl
  have e2 : pts 646 642 4 f L σ (n + 2) = setI (setI (pts 646 642 4 f L σ (n + 1)) 646 (L + (n + 1)) (f (n + 1))) 642 4 (nI (L + (n + 1) + 1)) := rfl
  have e1 : pts 646 642 4 f L σ (n + 1) = setI (setI (pts 646 642 4 f L σ n) 646 (L + n) (f n)) 642 4 (nI (L + n + 1)) := rfl
  unfold g_X11_four g_X11_four_0
  rw [hy, show (24 : Int32) = nI 24 from rfl, fo1 (L := L + n) (by omega) (pts_n h n) (by decide), ← f0, ← e1, show nI 24 + -8 = nI 16 from rfl, fo1 (L := L + (n + 1)) (by omega) (pts_n h _) (by decide), ← f1, ← e2, show nI 16 + -8 = nI 8 from rfl, fo1 (L := L + (n + 2)) (by omega) (pts_n h _) (by decide), ← f2, ← e3, show nI 8 + -8 = nI 0 from rfl, fo1 (L := L + (n + 3)) (by omega) (pts_n h _) (by decide), ← f3, ← e, g_X11_four_3, if_pos (by decide)]
theorem feed_ok (h : Inv N σ s z) (x1 x2 x3 x4 x5 : Int32) : ∃ r τ υ, g_X10_feed N 0 x1 x2 x3 x4 x5 σ = some (r, τ) ∧ g_X11_feed N 642 x1 x2 x3 x4 x5 τ = some (r, υ) ∧ Inv N υ s z := by
  obtain ⟨L, l1, l2, l3, l4⟩ := h.2.2.1.1
  have l2' : σ.1 (0 + 593) 1 = nI L := l2
  by_cases c : L ≤ 280
  · obtain ⟨f, hf1, hf2, hf3, hf4, hf5, hb⟩ : ∃ f : Nat → Int32, wds f 0 x1 ∧ wds f 4 x2 ∧ wds f 8 x3 ∧ wds f 12 x4 ∧ wds f 16 x5 ∧ ∀ j, ∃ y, f j = y &&& 255 := ⟨fun j => jshr (if j < 4 then x1 else if j < 8 then x2 else if j < 12 then x3 else if j < 16 then x4 else x5) (nI (24 - 8 * (j % 4))) &&& 255, ⟨rfl, rfl, rfl, rfl⟩, ⟨rfl, rfl, rfl, rfl⟩, ⟨rfl, rfl, rfl, rfl⟩, ⟨rfl, rfl, rfl, rfl⟩, ⟨rfl, rfl, rfl, rfl⟩, fun j => ⟨_, rfl⟩⟩
    have m3 : (pts 594 593 1 f L σ 20).1 642 4 = nI L := (pts_f 20 642 4 (by omega) (by omega)).trans l3
    have a1 : g_X7_append N (0 + 593) x1 σ = some (pts 594 593 1 f L σ 4) := app4 (n := 0) l2 (by omega) hf1
    have a2 : g_X7_append N (0 + 593) x2 (pts 594 593 1 f L σ 4) = some (pts 594 593 1 f L σ 8) := app4 (n := 4) l2 (by omega) hf2
    have a3 : g_X7_append N (0 + 593) x3 (pts 594 593 1 f L σ 8) = some (pts 594 593 1 f L σ 12) := app4 (n := 8) l2 (by omega) hf3
    have a4 : g_X7_append N (0 + 593) x4 (pts 594 593 1 f L σ 12) = some (pts 594 593 1 f L σ 16) := app4 (n := 12) l2 (by omega) hf4
    have a5 : g_X7_append N (0 + 593) x5 (pts 594 593 1 f L σ 16) = some (pts 594 593 1 f L σ 20) := app4 (n := 16) l2 (by omega) hf5
    have a6 : (pts 594 593 1 f L σ 20).1 (0 + 593) 1 = nI (L + 20) := pts_n l2 20
    generalize hτ : pts 594 593 1 f L σ 20 = τ at *
    have b1 : g_X11_four N 642 x1 τ = some (pts 646 642 4 f L τ 4) := fou4 (n := 0) m3 (by omega) hf1
    have b2 := fou4 (N := N) (n := 4) m3 (by omega) hf2
    have b3 := fou4 (N := N) (n := 8) m3 (by omega) hf3
    have b4 := fou4 (N := N) (n := 12) m3 (by omega) hf4
    have b5 := fou4 (N := N) (n := 16) m3 (by omega) hf5
    have b6 : (pts 646 642 4 f L τ (16 + 4)).1 642 4 = nI (L + 20) := pts_n m3 20
    refine ⟨nI (L + 20), τ, pts 646 642 4 f L τ 20, ?_, ?_, h.tp (fun a i q1 q2 q3 q4 => ?_) ?_ ⟨L + 20, by omega, ?_, b6, fun i hi => ?_⟩⟩
    · unfold g_X10_feed g_X10_feed_0
      rw [l2', show (280 : Int32) = nI 280 from rfl, if_pos (nI_le c (by omega)), a1, bnd, a2, bnd, a3, bnd, a4, bnd, a5, bnd, a6]
    · unfold g_X11_feed g_X11_feed_0
      rw [m3, show (20 : Int32) = nI 20 from rfl, nI_add, show (300 : Int32) = nI 300 from rfl, if_pos (nI_le (by omega) (by omega)), b1, bnd, b2, bnd, b3, bnd, b4, bnd, b5, bnd, b6]
    · rw [pts_f 20 a i q2 q4, ← hτ, pts_f 20 a i q1 q3]
    · rw [pts_2, ← hτ, pts_2]
    · rw [pts_f 20 593 1 (by omega) (by omega)]
      exact a6
    · rw [pts_r (by omega) 20 i hi, pts_f 20 594 i (by omega) (by omega), ← hτ, pts_r (by omega) 20 i hi, pts_f 20 646 i (by omega) (by omega)]
      by_cases q : i < L
      · rw [if_pos q, if_pos q]
        exact l4 i q
      · rw [if_neg q, if_neg q]
        obtain ⟨y, hy⟩ := hb (i - L)
        rw [hy]
        exact ⟨rfl, b255 y⟩
  · refine ⟨-1, σ, σ, ?_, ?_, h⟩
    · unfold g_X10_feed g_X10_feed_0
      rw [l2', show (280 : Int32) = nI 280 from rfl, if_neg (nI_ge (by omega) (by omega))]
    · unfold g_X11_feed g_X11_feed_0
      rw [l3, show (20 : Int32) = nI 20 from rfl, nI_add, show (300 : Int32) = nI 300 from rfl, if_neg (nI_ge (by omega) (by omega))]
end FEE
