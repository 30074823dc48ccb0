/-! oil in stock: the mathematics -/
def wB (n : Nat) : Nat := 1000 ^ (7 - n)
def am (a : Nat → Nat) (n k : Nat) : Nat := match k with
  | 0 => 0
  | k + 1 => am a n k + (if n ≤ k then a k else 0)
def kp (a : Nat → Nat) (n k : Nat) : Nat := match k with
  | 0 => 0
  | k + 1 => kp a n k + (if n ≤ k then a k * (k - n) else 0)
def cst (a : Nat → Nat) (on ke n k : Nat) : Nat := (if 0 < am a n k then on else 0) + kp a n k * ke
def Sg (a : Nat → Nat) (on ke n k : Nat) : Int := (cst a on ke n k : Int) * 1000000000000000000000000 - (am a n k * wB n : Nat)
def ky (L V : Nat → Nat) (n : Nat) : Int := (L n : Int) * 1000000000000000000000000 - (V n : Int)
def DPn (a : Nat → Nat) (on ke : Nat) (L V U : Nat → Nat) (n : Nat) : Prop := n < U n ∧ U n ≤ 8 ∧ L n = cst a on ke n (U n) + L (U n) ∧ V n = am a n (U n) * wB n + V (U n) ∧ (∀ k, n < k → k ≤ 8 → ky L V n ≤ Sg a on ke n k + ky L V k) ∧ L n ≤ 600000 * (8 - n)
def stp (a : Nat → Nat) (on ke k f : Nat) (b : Bool) : Int := ((a k * (k - f) * ke + (if 0 < a k ∧ b = false then on else 0) : Nat) : Int) * 1000000000000000000000000 - (a k * wB f : Nat)
def tr (a : Nat → Nat) (on ke : Nat) (p : Nat → Bool) (r f : Nat) (b : Bool) : Int := match r with
  | 0 => 0
  | r + 1 => if p (7 - r) = true then stp a on ke (7 - r) (7 - r) false + tr a on ke p r (7 - r) (decide (0 < a (7 - r))) else stp a on ke (7 - r) f b + tr a on ke p r f (b || decide (0 < a (7 - r)))
section STM
variable {a L V U : Nat → Nat} {on ke : Nat} {p p' : Nat → Bool}
theorem wB_s {n : Nat} (h : n < 7) : wB n = 1000 * wB (n + 1) := by
  unfold wB
  rw [show 7 - n = 7 - (n + 1) + 1 by omega, Nat.pow_succ, Nat.mul_comm]
theorem wB_p (n : Nat) : 0 < wB n := Nat.pow_pos (by omega)
theorem wB_le {n m : Nat} (h : n ≤ m) : wB m ≤ wB n := Nat.pow_le_pow_right (by omega) (by omega)
theorem wB_E (n : Nat) : 1000 * wB n ≤ 1000000000000000000000000 := by
  have h := wB_le (Nat.zero_le n)
  have e : wB 0 = 1000000000000000000000 := by decide
  omega
theorem am_z : ∀ k n, k ≤ n → am a n k = 0 ∧ kp a n k = 0 := by
  intro k
  induction k with
  | zero => intro n h; exact ⟨rfl, rfl⟩
  | succ k ih =>
    intro n h
    obtain ⟨h1, h2⟩ := ih n (by omega)
    rw [am, kp, h1, h2, if_neg (by omega), if_neg (by omega)]
    exact ⟨rfl, rfl⟩
theorem am_s {n k : Nat} (h : n ≤ k) : am a n (k + 1) = am a n k + a k := by rw [am, if_pos h]
theorem kp_s {n k : Nat} (h : n ≤ k) : kp a n (k + 1) = kp a n k + a k * (k - n) := by rw [kp, if_pos h]
theorem am_b (h : ∀ i, a i ≤ 99) (n : Nat) : ∀ k, am a n k ≤ 99 * k := by
  intro k
  induction k with
  | zero => exact Nat.le_refl _
  | succ k ih =>
    have := h k
    rw [am]
    split <;> omega
theorem kp_b (h : ∀ i, a i ≤ 99) (n : Nat) : ∀ k, k ≤ 8 → kp a n k ≤ 693 * k := by
  intro k
  induction k with
  | zero => intro _; exact Nat.le_refl _
  | succ k ih =>
    intro hk
    have h1 := ih (by omega)
    have h2 : a k * (k - n) ≤ 99 * 7 := Nat.mul_le_mul (h k) (by omega)
    rw [kp]
    split <;> omega
theorem am_add {n u : Nat} (hu : n ≤ u) : ∀ k, u ≤ k → am a n k = am a n u + am a u k := by
  intro k
  induction k with
  | zero =>
    intro h
    obtain rfl : u = 0 := by omega
    rw [(am_z 0 n (by omega)).1, (am_z 0 0 (by omega)).1]
  | succ k ih =>
    intro h
    by_cases e : u = k + 1
    · subst e
      rw [(am_z (k + 1) (k + 1) (by omega)).1]
      rfl
    · rw [am_s (by omega), am_s (by omega), ih (by omega)]
      omega
theorem kp_zero {n u : Nat} (hu : n ≤ u) : ∀ k, u ≤ k → am a u k = 0 → kp a n k = kp a n u ∧ kp a u k = 0 := by
  intro k
  induction k with
  | zero =>
    intro h _
    obtain rfl : u = 0 := by omega
    exact ⟨rfl, rfl⟩
  | succ k ih =>
    intro h e0
    by_cases e : u = k + 1
    · subst e
      exact ⟨rfl, (am_z _ _ (Nat.le_refl _)).2⟩
    · rw [am_s (by omega)] at e0
      obtain ⟨h1, h2⟩ := ih (by omega) (by omega)
      have ha : a k = 0 := by omega
      rw [kp_s (by omega), kp_s (by omega), h1, h2, ha]
      simp only [Nat.zero_mul, Nat.add_zero, and_self]
theorem cst_b (h : ∀ i, a i ≤ 99) (h1 : on ≤ 999) (h2 : ke ≤ 99) {n k : Nat} (hk : k ≤ 8) : cst a on ke n k ≤ 600000 := by
  have h3 := kp_b h n k hk
  have h4 : kp a n k * ke ≤ 5544 * 99 := Nat.mul_le_mul (by omega) h2
  unfold cst
  split <;> omega
theorem Sg_s {n k : Nat} (h : n ≤ k) : Sg a on ke n (k + 1) = Sg a on ke n k + stp a on ke k n (decide (0 < am a n k)) := by
  unfold Sg stp cst
  rw [am_s h, kp_s h, Nat.add_mul, Nat.add_mul]
  by_cases c1 : 0 < am a n k
  · rw [if_pos (by omega), if_pos c1, if_neg (by intro q; rw [decide_eq_true c1] at q; exact absurd q.2 (by decide))]
    omega
  · by_cases c2 : 0 < a k
    · rw [if_pos (by omega), if_neg c1, if_pos ⟨c2, decide_eq_false c1⟩]
      omega
    · rw [if_neg (by omega), if_neg c1, if_neg (fun q => c2 q.1)]
      omega
theorem Sg_1 (n : Nat) : Sg a on ke n (n + 1) = stp a on ke n n false := by
  rw [Sg_s (Nat.le_refl _), (am_z n n (Nat.le_refl _)).1]
  unfold Sg cst
  rw [(am_z n n (Nat.le_refl _)).1, (am_z n n (Nat.le_refl _)).2, if_neg (by omega)]
  simp
theorem V_b (ha : ∀ i, a i ≤ 99) (h8 : V 8 = 0) : ∀ r n, n + r = 8 → (∀ j, n ≤ j → j < 8 → DPn a on ke L V U j) → V n < 1000 * wB n := by
  intro r
  induction r using Nat.strongRecOn with
  | _ r ih =>
    intro n hn h
    by_cases e : n = 8
    · rw [e, h8]
      decide
    · obtain ⟨u1, u2, u3, u4, u5, u6⟩ := h n (Nat.le_refl _) (by omega)
      have hb := am_b ha n (U n)
      have hv := ih (8 - U n) (by omega) (U n) (by omega) (fun j hj hj8 => h j (by omega) hj8)
      have hm : am a n (U n) * wB n ≤ 792 * wB n := Nat.mul_le_mul_right _ (by omega)
      by_cases e8 : U n = 8
      · rw [e8, h8] at u4
        rw [e8] at hm
        have := wB_p n
        omega
      · have hw : 1000 * wB (U n) ≤ wB n := by
          have h1 := wB_s (n := U n - 1) (by omega)
          rw [show U n - 1 + 1 = U n by omega] at h1
          rw [← h1]
          exact wB_le (by omega)
        omega
theorem V_u (ha : ∀ i, a i ≤ 99) (h8 : V 8 = 0) {n u : Nat} (hu : n < u) (hu8 : u ≤ 8) (h : ∀ j, n < j → j < 8 → DPn a on ke L V U j) : V u < wB n := by
  by_cases e8 : u = 8
  · rw [e8, h8]
    exact wB_p n
  · have hv := V_b ha h8 (8 - u) u (by omega) (fun j hj hj8 => h j (by omega) hj8)
    have hw : 1000 * wB u ≤ wB n := by
      have h1 := wB_s (n := u - 1) (by omega)
      rw [show u - 1 + 1 = u by omega] at h1
      rw [← h1]
      exact wB_le (by omega)
    omega
/-- of two ends of what is bought for a night, the one that the class takes -/
theorem ch1 (ha : ∀ i, a i ≤ 99) (h8 : V 8 = 0) {n u k : Nat} (hu : n < u) (hu8 : u ≤ 8) (hk : n < k) (hk8 : k ≤ 8) (h : ∀ j, n < j → j < 8 → DPn a on ke L V U j) (hc : cst a on ke n u + L u < cst a on ke n k + L k) : Sg a on ke n u + ky L V u ≤ Sg a on ke n k + ky L V k := by
  have v1 := V_u ha h8 hk hk8 h
  have b1 := am_b ha n k
  have m1 : am a n k * wB n ≤ 792 * wB n := Nat.mul_le_mul_right _ (by omega)
  have e := wB_E n
  unfold Sg ky
  omega
theorem ch2 (ha : ∀ i, a i ≤ 99) (h8 : V 8 = 0) {n u k : Nat} (hu : n < u) (hu8 : u ≤ 8) (hk : n < k) (hk8 : k ≤ 8) (h : ∀ j, n < j → j < 8 → DPn a on ke L V U j) (hc : cst a on ke n u + L u = cst a on ke n k + L k) (hm : am a n k < am a n u) : Sg a on ke n u + ky L V u ≤ Sg a on ke n k + ky L V k := by
  have v1 := V_u ha h8 hk hk8 h
  have m1 : (am a n k + 1) * wB n ≤ am a n u * wB n := Nat.mul_le_mul_right _ hm
  rw [Nat.add_mul] at m1
  unfold Sg ky
  omega
theorem ch3 {n u k : Nat} (hu : n < u) (huk : u ≤ k) (hk8 : k ≤ 8) (h : ∀ j, n < j → j < 8 → DPn a on ke L V U j) (hm : am a n k ≤ am a n u) : Sg a on ke n u + ky L V u ≤ Sg a on ke n k + ky L V k := by
  have e1 := am_add (a := a) (n := n) (u := u) (by omega) k huk
  have e2 : am a u k = 0 := by omega
  obtain ⟨k1, k2⟩ := kp_zero (a := a) (n := n) (u := u) (by omega) k huk e2
  have e3 : Sg a on ke n k = Sg a on ke n u := by
    unfold Sg cst
    rw [e1, e2, k1, Nat.add_zero]
  rw [e3]
  by_cases e : u = k
  · rw [e]
    exact Int.le_refl _
  · obtain ⟨-, -, -, -, u5, -⟩ := h u hu (by omega)
    have h5 := u5 k (by omega) hk8
    have e4 : Sg a on ke u k = 0 := by
      unfold Sg cst
      rw [e2, k2]
      simp
    omega
theorem low (h : ∀ j, j < 8 → DPn a on ke L V U j) (h0 : ky L V 8 = 0) (p : Nat → Bool) : ∀ r n k, k + r = 8 → n < k → ky L V n ≤ Sg a on ke n k + tr a on ke p r n (decide (0 < am a n k)) := by
  intro r
  induction r with
  | zero =>
    intro n k hk hn
    obtain rfl : k = 8 := by omega
    have h1 := (h n (by omega)).2.2.2.2.1 8 (by omega) (by omega)
    rw [tr]
    omega
  | succ r ih =>
    intro n k hk hn
    have ek : 7 - r = k := by omega
    rw [tr, ek]
    by_cases c : p k = true
    · rw [if_pos c]
      have h1 := (h n (by omega)).2.2.2.2.1 k (by omega) (by omega)
      have h2 := ih k (k + 1) (by omega) (by omega)
      rw [Sg_1, am_s (Nat.le_refl _), (am_z k k (Nat.le_refl _)).1, Nat.zero_add] at h2
      omega
    · rw [if_neg c]
      have h2 := ih n (k + 1) (by omega) (by omega)
      rw [Sg_s (by omega), am_s (by omega)] at h2
      have e : decide (0 < am a n k + a k) = (decide (0 < am a n k) || decide (0 < a k)) := by
        by_cases c1 : 0 < am a n k
        · rw [decide_eq_true c1, decide_eq_true (by omega)]; rfl
        · by_cases c2 : 0 < a k
          · rw [decide_eq_false c1, decide_eq_true c2, decide_eq_true (by omega)]; rfl
          · rw [decide_eq_false c1, decide_eq_false c2, decide_eq_false (by omega)]; rfl
      rw [e] at h2
      omega
theorem tr_c : ∀ r f b, (∀ j, 8 - r ≤ j → j < 8 → p j = p' j) → r ≤ 8 → tr a on ke p r f b = tr a on ke p' r f b := by
  intro r
  induction r with
  | zero => intro f b h _; rfl
  | succ r ih =>
    intro f b h hr
    rw [tr, tr, h (7 - r) (by omega) (by omega), ih _ _ (fun j hj hj8 => h j (by omega) hj8) (by omega), ih _ _ (fun j hj hj8 => h j (by omega) hj8) (by omega)]
theorem hit (h : ∀ j, j < 8 → DPn a on ke L V U j) (h0 : ky L V 8 = 0) : ∀ r n, n + r = 7 → ∃ p : Nat → Bool, p n = true ∧ Sg a on ke n (n + 1) + tr a on ke p r n (decide (0 < am a n (n + 1))) = ky L V n := by
  intro r
  induction r using Nat.strongRecOn with
  | _ r ih =>
    intro n hn
    obtain ⟨u1, u2, u3, u4, u5, u6⟩ := h n (by omega)
    have ek : ky L V n = Sg a on ke n (U n) + ky L V (U n) := by
      unfold ky Sg
      omega
    obtain ⟨q, hq⟩ : ∃ q : Nat → Bool, tr a on ke q (8 - U n) n true = ky L V (U n) ∧ (U n < 8 → q (U n) = true) := by
      by_cases e8 : U n = 8
      · refine ⟨fun _ => true, ?_, fun _ => rfl⟩
        rw [e8, h0]
        rfl
      · obtain ⟨q, q1, q2⟩ := ih (7 - U n) (by omega) (U n) (by omega)
        refine ⟨q, ?_, fun _ => q1⟩
        rw [show 8 - U n = 7 - U n + 1 by omega, tr, show 7 - (7 - U n) = U n by omega, if_pos q1, ← q2, Sg_1, am_s (Nat.le_refl _), (am_z _ _ (Nat.le_refl _)).1, Nat.zero_add]
    have hq2 : ∀ b, tr a on ke q (8 - U n) n b = ky L V (U n) := by
      intro b
      by_cases e8 : U n = 8
      · rw [e8, h0]
        rfl
      · have := hq.1
        rw [show 8 - U n = 7 - U n + 1 by omega, tr, show 7 - (7 - U n) = U n by omega, if_pos (hq.2 (by omega))] at this ⊢
        exact this
    refine ⟨fun j => decide (j = n) || (decide (U n ≤ j) && q j), by simp, ?_⟩
    have hw : ∀ d k, k + d = U n → n < k → Sg a on ke n k + tr a on ke (fun j => decide (j = n) || (decide (U n ≤ j) && q j)) (8 - k) n (decide (0 < am a n k)) = ky L V n := by
      intro d
      induction d with
      | zero =>
        intro k hk hnk
        obtain rfl : k = U n := by omega
        rw [tr_c (p' := q) _ _ _ (fun j hj hj8 => by
          rw [decide_eq_false (by omega), decide_eq_true (by omega)]
          rfl) (by omega), hq2, ek]
      | succ d ihd =>
        intro k hk hnk
        have h2 := ihd (k + 1) (by omega) (by omega)
        rw [← h2, show 8 - k = 8 - (k + 1) + 1 by omega, tr, show 7 - (8 - (k + 1)) = k by omega, if_neg (by
          rw [decide_eq_false (by omega), decide_eq_false (by omega)]
          exact fun h => Bool.noConfusion (h : false = true)), Sg_s (by omega), am_s (by omega)]
        have e : decide (0 < am a n k + a k) = (decide (0 < am a n k) || decide (0 < a k)) := by
          by_cases c1 : 0 < am a n k
          · rw [decide_eq_true c1, decide_eq_true (by omega)]; rfl
          · by_cases c2 : 0 < a k
            · rw [decide_eq_false c1, decide_eq_true c2, decide_eq_true (by omega)]; rfl
            · rw [decide_eq_false c1, decide_eq_false c2, decide_eq_false (by omega)]; rfl
        rw [e]
        omega
    have := hw (U n - (n + 1)) (n + 1) (by omega) (by omega)
    rw [show 8 - (n + 1) = r by omega] at this
    exact this
/-- sums of digits to the base of 1000 -/
def Vs (f : Nat → Nat) (k : Nat) : Nat := match k with
  | 0 => 0
  | k + 1 => Vs f k + f k * wB k
def Vt (f : Nat → Nat) (k : Nat) : Nat := match k with
  | 0 => 0
  | k + 1 => f (7 - k) * 1000 ^ k + Vt f k
def np (f : Nat → Nat) (k : Nat) : Nat := match k with
  | 0 => 0
  | k + 1 => np f k + (if 0 < f k then 1 else 0)
theorem Vs_t (f : Nat → Nat) : Vs f 8 = Vt f 8 := by
  simp only [Vs, Vt, wB, Nat.reduceSub]
  omega
theorem Vt_b {f : Nat → Nat} (h : ∀ j, j < 8 → f j ≤ 999) : ∀ k, k ≤ 8 → Vt f k < 1000 ^ k := by
  intro k
  induction k with
  | zero => intro _; show 0 < 1; omega
  | succ k ih =>
    intro hk
    have h1 := ih (by omega)
    have h2 : f (7 - k) * 1000 ^ k ≤ 999 * 1000 ^ k := Nat.mul_le_mul_right _ (h (7 - k) (by omega))
    rw [Vt, Nat.pow_succ]
    omega
theorem Vt_d {f g : Nat → Nat} (hf : ∀ j, j < 8 → f j ≤ 999) (hg : ∀ j, j < 8 → g j ≤ 999) : ∀ k, k ≤ 8 → Vt f k = Vt g k → ∀ j, 8 - k ≤ j → j < 8 → f j = g j := by
  intro k
  induction k with
  | zero => intro _ _ j h1 h2; omega
  | succ k ih =>
    intro hk e j h1 h2
    have b1 := Vt_b hf k (by omega)
    have b2 := Vt_b hg k (by omega)
    rw [Vt, Vt] at e
    have e1 : f (7 - k) = g (7 - k) := by
      rcases Nat.lt_trichotomy (f (7 - k)) (g (7 - k)) with c | c | c
      · have : (f (7 - k) + 1) * 1000 ^ k ≤ g (7 - k) * 1000 ^ k := Nat.mul_le_mul_right _ c
        rw [Nat.add_mul] at this
        omega
      · exact c
      · have : (g (7 - k) + 1) * 1000 ^ k ≤ f (7 - k) * 1000 ^ k := Nat.mul_le_mul_right _ c
        rw [Nat.add_mul] at this
        omega
    by_cases e2 : j = 7 - k
    · rw [e2]; exact e1
    · rw [e1] at e
      exact ih (by omega) (by omega) j (by omega) h2
theorem Vs_un {f : Nat → Nat} {j v : Nat} : ∀ k, (k ≤ j → Vs (un f j v) k = Vs f k) ∧ (j < k → Vs (un f j v) k + f j * wB j = Vs f k + v * wB j) := by
  intro k
  induction k with
  | zero => exact ⟨fun _ => rfl, fun h => by omega⟩
  | succ k ih =>
    refine ⟨fun h => ?_, fun h => ?_⟩
    · rw [Vs, Vs, ih.1 (by omega), un_n (by omega)]
    · rw [Vs, Vs]
      by_cases e : j = k
      · subst e
        rw [ih.1 (Nat.le_refl _), un_s rfl]
        omega
      · rw [un_n (by omega)]
        have := ih.2 (by omega)
        omega
theorem np_un {f : Nat → Nat} {j v : Nat} : ∀ k, (k ≤ j → np (un f j v) k = np f k) ∧ (j < k → np (un f j v) k + (if 0 < f j then 1 else 0) = np f k + (if 0 < v then 1 else 0)) := by
  intro k
  induction k with
  | zero => exact ⟨fun _ => rfl, fun h => by omega⟩
  | succ k ih =>
    refine ⟨fun h => ?_, fun h => ?_⟩
    · rw [np, np, ih.1 (by omega), un_n (by omega)]
    · rw [np, np]
      by_cases e : j = k
      · subst e
        rw [ih.1 (Nat.le_refl _), un_s rfl]
        omega
      · rw [un_n (by omega)]
        have := ih.2 (by omega)
        omega
theorem np_b (f : Nat → Nat) : ∀ k, np f k ≤ k := by
  intro k
  induction k with
  | zero => exact Nat.le_refl _
  | succ k ih =>
    rw [np]
    split <;> omega
theorem mask (p : Nat → Bool) (h0 : p 0 = true) : ∃ i, i < 128 ∧ ∀ k, k < 8 → decide (bit (2 * i + 1) k = 1) = p k := by
  refine ⟨(p 1).toNat + 2 * (p 2).toNat + 4 * (p 3).toNat + 8 * (p 4).toNat + 16 * (p 5).toNat + 32 * (p 6).toNat + 64 * (p 7).toNat, ?_, ?_⟩
  · have b : ∀ k, (p k).toNat ≤ 1 := fun k => Bool.toNat_le (p k)
    have := b 1; have := b 2; have := b 3; have := b 4; have := b 5; have := b 6; have := b 7
    omega
  · intro k hk
    have b : ∀ k, (p k).toNat ≤ 1 := fun k => Bool.toNat_le (p k)
    have := b 1; have := b 2; have := b 3; have := b 4; have := b 5; have := b 6; have := b 7
    have e : bit (2 * ((p 1).toNat + 2 * (p 2).toNat + 4 * (p 3).toNat + 8 * (p 4).toNat + 16 * (p 5).toNat + 32 * (p 6).toNat + 64 * (p 7).toNat) + 1) k = (p k).toNat := by
      have e0 : (p 0).toNat = 1 := by rw [h0]; rfl
      unfold bit
      obtain rfl | rfl | rfl | rfl | rfl | rfl | rfl | rfl : k = 0 ∨ k = 1 ∨ k = 2 ∨ k = 3 ∨ k = 4 ∨ k = 5 ∨ k = 6 ∨ k = 7 := by omega
      · omega
      · omega
      · omega
      · omega
      · omega
      · omega
      · omega
      · omega
    rw [e]
    cases p k <;> rfl
end STM
