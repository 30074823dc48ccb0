/-! what both sides keep: s, the class's own rows as natural numbers; RC: the class's rows are s; RR: the reference's row is s -/
abbrev SS : Type := Nat → Nat → Nat
def us (s : SS) (k i v : Nat) : SS := fun a b => if a = k ∧ b = i then v else s a b
def RC (b : Nat) (σ : ST) (s : SS) : Prop := (∀ k i, k < 296 → ¬ (k = 0 ∧ i = 6) → σ.1 (b + k) i = nI (s k i)) ∧ σ.1 b 6 = nI (s 0 6) - nI 1
def cur (s : SS) : SS := fun k i => s (1 + k) i
def past (s : SS) (j : Nat) : SS := fun k i => s (26 + 9 * ((s 0 2 + j) % 30) + k) i
def WFw (w : SS) : Prop := w 0 0 ≤ 5 ∧ w 0 1 ≤ 9999 ∧ w 0 2 < 30557 ∧ w 0 3 ≤ 30 ∧ (∀ m, w 1 m ≤ 9) ∧ (∀ m, w 2 m ≤ 99) ∧ (∀ m, w 3 m ≤ 99) ∧ (∀ m, w 4 m ≤ 9) ∧ (∀ m, w 5 m ≤ 9999) ∧ (∀ m, w 6 m ≤ 12) ∧ (∀ i, w 7 i ≤ 9) ∧ (∀ i, w 8 (4 * i) ≤ 9999 ∧ w 8 (4 * i + 1) ≤ 4 ∧ w 8 (4 * i + 2) ≤ 9999 ∧ w 8 (4 * i + 3) ≤ 9999)
def WFs (s : SS) : Prop := WFw (cur s) ∧ (∀ p, p < 30 → WFw (fun k i => s (26 + 9 * p + k) i)) ∧ s 0 2 < 30 ∧ s 0 3 ≤ 30 ∧ s 0 5 ≤ 4 ∧ s 0 6 ≤ s 0 5 ∧ (∀ i, s 12 i ≤ 110) ∧ s 13 1 ≤ 12 ∧ (∀ i, s 14 i ≤ 9) ∧ s 15 1 ≤ 12 ∧ (∀ i, s 16 i ≤ 9) ∧ s 17 1 ≤ 8 ∧ (∀ i, s 18 i ≤ 9999) ∧ s 19 1 ≤ 8 ∧ s 21 1 = s 19 1 ∧ (∀ i, i < s 19 1 → s 20 i < s 1 0) ∧ (∀ i, s 22 i ≤ 10) ∧ (∀ i, s 23 i ≤ 9) ∧ (∀ i, s 24 i ≤ 9) ∧ (∀ i, s 25 i ≤ 99) ∧ (∀ j, j < s 0 3 → past s j 0 0 ≤ s 1 0)
def Rsc (A : Nat → Int32) (s : SS) : Prop := A 0 = nI (s 1 0) ∧ A 1 = nI (s 0 5) ∧ A 2 = nI (s 0 6) - nI 1 ∧ A 3 = nI (s 0 3) ∧ A 4 = nI (s 13 1) ∧ A 5 = nI (s 15 1) ∧ A 6 = nI (s 17 1) ∧ A 7 = nI (s 19 1) ∧ A 8 = nI (s 1 1) ∧ A 9 = nI (s 1 2) ∧ A 10 = nI (s 1 3)
def Rro (A : Nat → Int32) (lo n : Nat) (f : Nat → Nat) : Prop := ∀ i, i < n → A (lo + i) = nI (f i)
def Rrd (A : Nat → Int32) (s : SS) : Prop := ∀ i, i < 8 → A (211 + 2 * i) = nI (s 20 i) ∧ A (212 + 2 * i) = nI (s 22 i)
def Rm1 (f : Nat → Int32) (w : SS) (m : Nat) : Prop := f 0 = nI (w 3 m) ∧ f 1 = nI (w 4 m) ∧ f 2 = nI (w 5 m) ∧ f 3 = nI (w 6 m) ∧ ∀ i, i < w 6 m → f (4 + i) = nI (w 7 (12 * m + i))
def Rbk (G : Nat → Int32) (w : SS) : Prop := ∀ i, i < w 0 3 → G (2 * i) = nI (w 8 (4 * i) * 8 + w 8 (4 * i + 1)) ∧ G (2 * i + 1) = nI (w 8 (4 * i + 2) * 10000 + w 8 (4 * i + 3))
def Rma (A : Nat → Int32) (w : SS) : Prop := ∀ m, m < w 0 0 → Rm1 (fun k => A (11 + 18 * m + k)) w m ∧ A (27 + 18 * m) = nI (w 1 m) ∧ A (28 + 18 * m) = nI (w 2 m)
def Rs1 (f : Nat → Int32) (w : SS) : Prop := f 0 = nI (w 0 0) ∧ f 1 = nI (w 0 1) ∧ f 2 = nI (w 0 2) ∧ f 3 = nI (w 0 3) ∧ (∀ m, m < w 0 0 → Rm1 (fun k => f (4 + 16 * m + k)) w m) ∧ Rbk (fun k => f (84 + k)) w
def Rst (A : Nat → Int32) (s : SS) : Prop := ∀ j, j < s 0 3 → Rs1 (fun k => A (227 + 144 * j + k)) (past s j)
def RR (A : Nat → Int32) (s : SS) : Prop := Rsc A s ∧ Rma A (cur s) ∧ Rro A 101 20 (s 12) ∧ Rro A 121 12 (s 14) ∧ Rro A 133 12 (s 16) ∧ Rro A 145 8 (s 18) ∧ Rro A 153 25 (s 23) ∧ Rro A 178 25 (s 24) ∧ Rro A 203 8 (s 25) ∧ Rrd A s ∧ Rst A s ∧ Rbk (fun k => A (4547 + k)) (cur s)
/-- what a method of the class, of the reference may touch -/
def FC (σ τ : ST) : Prop := (∀ a i, (297 ≤ a ∧ a < 601) ∨ 633 ≤ a → τ.1 a i = σ.1 a i) ∧ τ.2 = σ.2
def FR (σ τ : ST) : Prop := (∀ a i, a < 642 ∨ (a = 642 ∧ (i = 4 ∨ i = 5 ∨ i = 6 ∨ i = 23)) ∨ (644 ≤ a ∧ a < 647) → τ.1 a i = σ.1 a i) ∧ τ.2.2 = σ.2.2
section REP
variable {σ τ υ : ST} {s : SS} {b : Nat}
theorem FC.rfl : FC σ σ := ⟨fun _ _ _ => Eq.refl _, Eq.refl _⟩
theorem FC.trans (h1 : FC σ τ) (h2 : FC τ υ) : FC σ υ := ⟨fun a i h => (h2.1 a i h).trans (h1.1 a i h), h2.2.trans h1.2⟩
theorem FC.set {a k : Nat} {v : Int32} (h : FC σ τ) (ha : a < 297 ∨ (601 ≤ a ∧ a < 633)) : FC σ (setI τ a k v) := ⟨fun c i hc => (I_row (by omega)).trans (h.1 c i hc), h.2⟩
theorem FC.row {a : Nat} {f : Nat → Int32} (h : FC σ τ) (ha : a < 297 ∨ (601 ≤ a ∧ a < 633)) : FC σ (setR τ a f) := ⟨fun c i hc => (R_row (by omega)).trans (h.1 c i hc), h.2⟩
theorem FR.rfl : FR σ σ := ⟨fun _ _ _ => Eq.refl _, Eq.refl _⟩
theorem FR.trans (h1 : FR σ τ) (h2 : FR τ υ) : FR σ υ := ⟨fun a i h => (h2.1 a i h).trans (h1.1 a i h), h2.2.trans h1.2⟩
theorem FR.set {a k : Nat} {v : Int32} (h : FR σ τ) (ha : a = 643 ∨ 647 ≤ a ∨ (a = 642 ∧ k ≠ 4 ∧ k ≠ 5 ∧ k ≠ 6 ∧ k ≠ 23)) : FR σ (setI τ a k v) := ⟨fun c i hc => by
  refine Eq.trans ?_ (h.1 c i hc)
  show (if c = a ∧ i = k then v else τ.1 c i) = _
  rw [if_neg (by omega)], h.2⟩
theorem FR.row {a : Nat} {f : Nat → Int32} (h : FR σ τ) (ha : a = 643 ∨ 647 ≤ a) : FR σ (setR τ a f) := ⟨fun c i hc => (R_row (by omega)).trans (h.1 c i hc), h.2⟩
theorem FR.setL {a k : Nat} {v : Int64} (h : FR σ τ) : FR σ (setL τ a k v) := ⟨fun c i hc => h.1 c i hc, h.2⟩
theorem RC.at (h : RC b σ s) {k i : Nat} (hk : k < 296) (hi : ¬ (k = 0 ∧ i = 6)) : σ.1 (b + k) i = nI (s k i) := h.1 k i hk hi
theorem us_same {k i a c v : Nat} (h1 : a = k) (h2 : c = i) : us s k i v a c = v := if_pos ⟨h1, h2⟩
theorem us_row {k i a c v : Nat} (h1 : a ≠ k) : us s k i v a c = s a c := if_neg fun h => h1 h.1
theorem us_col {k i a c v : Nat} (h1 : c ≠ i) : us s k i v a c = s a c := if_neg fun h => h1 h.2
theorem RC.set (h : RC b σ s) {k i v : Nat} (hk : k < 296) (h6 : ¬ (k = 0 ∧ i = 6)) : RC b (setI σ (b + k) i (nI v)) (us s k i v) := by
  refine ⟨fun c j hc hj => ?_, ?_⟩
  · show (if b + c = b + k ∧ j = i then nI v else σ.1 (b + c) j) = nI (if c = k ∧ j = i then v else s c j)
    by_cases e : c = k ∧ j = i
    · rw [if_pos (by omega), if_pos e]
    · rw [if_neg (by omega), if_neg e]
      exact h.1 c j hc hj
  · show (if b = b + k ∧ 6 = i then nI v else σ.1 b 6) = nI (if 0 = k ∧ 6 = i then v else s 0 6) - nI 1
    rw [if_neg (by omega), if_neg (by omega)]
    exact h.2
theorem RC.other (h : RC b σ s) {a i : Nat} {v : Int32} (ha : a < b ∨ b + 296 ≤ a) : RC b (setI σ a i v) s := ⟨fun c j hc hj => (I_row (by omega)).trans (h.1 c j hc hj), (I_row (by omega)).trans h.2⟩
theorem RC.frame (h : RC b σ s) (hf : ∀ a i, b ≤ a → a < b + 296 → τ.1 a i = σ.1 a i) : RC b τ s := ⟨fun c j hc hj => (hf _ _ (by omega) (by omega)).trans (h.1 c j hc hj), (hf _ _ (by omega) (by omega)).trans h.2⟩
end REP
theorem c_0_2 {σ : ST} {s : SS} (h : RC 1 σ s) : σ.1 1 2 = nI (s 0 2) := h.1 0 2 (by omega) (by omega)
theorem c_0_3 {σ : ST} {s : SS} (h : RC 1 σ s) : σ.1 1 3 = nI (s 0 3) := h.1 0 3 (by omega) (by omega)
theorem c_0_5 {σ : ST} {s : SS} (h : RC 1 σ s) : σ.1 1 5 = nI (s 0 5) := h.1 0 5 (by omega) (by omega)
theorem c_1_0 {σ : ST} {s : SS} (h : RC 1 σ s) : σ.1 2 0 = nI (s 1 0) := h.1 1 0 (by omega) (by omega)
theorem c_1_1 {σ : ST} {s : SS} (h : RC 1 σ s) : σ.1 2 1 = nI (s 1 1) := h.1 1 1 (by omega) (by omega)
theorem c_1_2 {σ : ST} {s : SS} (h : RC 1 σ s) : σ.1 2 2 = nI (s 1 2) := h.1 1 2 (by omega) (by omega)
theorem c_1_3 {σ : ST} {s : SS} (h : RC 1 σ s) : σ.1 2 3 = nI (s 1 3) := h.1 1 3 (by omega) (by omega)
theorem c_2 {σ : ST} {s : SS} (h : RC 1 σ s) (i : Nat) : σ.1 3 i = nI (s 2 i) := h.1 2 i (by omega) (by omega)
theorem c_3 {σ : ST} {s : SS} (h : RC 1 σ s) (i : Nat) : σ.1 4 i = nI (s 3 i) := h.1 3 i (by omega) (by omega)
theorem c_4 {σ : ST} {s : SS} (h : RC 1 σ s) (i : Nat) : σ.1 5 i = nI (s 4 i) := h.1 4 i (by omega) (by omega)
theorem c_5 {σ : ST} {s : SS} (h : RC 1 σ s) (i : Nat) : σ.1 6 i = nI (s 5 i) := h.1 5 i (by omega) (by omega)
theorem c_6 {σ : ST} {s : SS} (h : RC 1 σ s) (i : Nat) : σ.1 7 i = nI (s 6 i) := h.1 6 i (by omega) (by omega)
theorem c_7 {σ : ST} {s : SS} (h : RC 1 σ s) (i : Nat) : σ.1 8 i = nI (s 7 i) := h.1 7 i (by omega) (by omega)
theorem c_8 {σ : ST} {s : SS} (h : RC 1 σ s) (i : Nat) : σ.1 9 i = nI (s 8 i) := h.1 8 i (by omega) (by omega)
theorem c_9 {σ : ST} {s : SS} (h : RC 1 σ s) (i : Nat) : σ.1 10 i = nI (s 9 i) := h.1 9 i (by omega) (by omega)
theorem c_12 {σ : ST} {s : SS} (h : RC 1 σ s) (i : Nat) : σ.1 13 i = nI (s 12 i) := h.1 12 i (by omega) (by omega)
theorem c_13_1 {σ : ST} {s : SS} (h : RC 1 σ s) : σ.1 14 1 = nI (s 13 1) := h.1 13 1 (by omega) (by omega)
theorem c_14 {σ : ST} {s : SS} (h : RC 1 σ s) (i : Nat) : σ.1 15 i = nI (s 14 i) := h.1 14 i (by omega) (by omega)
theorem c_15_1 {σ : ST} {s : SS} (h : RC 1 σ s) : σ.1 16 1 = nI (s 15 1) := h.1 15 1 (by omega) (by omega)
theorem c_16 {σ : ST} {s : SS} (h : RC 1 σ s) (i : Nat) : σ.1 17 i = nI (s 16 i) := h.1 16 i (by omega) (by omega)
theorem c_17_1 {σ : ST} {s : SS} (h : RC 1 σ s) : σ.1 18 1 = nI (s 17 1) := h.1 17 1 (by omega) (by omega)
theorem c_18 {σ : ST} {s : SS} (h : RC 1 σ s) (i : Nat) : σ.1 19 i = nI (s 18 i) := h.1 18 i (by omega) (by omega)
theorem c_19_1 {σ : ST} {s : SS} (h : RC 1 σ s) : σ.1 20 1 = nI (s 19 1) := h.1 19 1 (by omega) (by omega)
theorem c_20 {σ : ST} {s : SS} (h : RC 1 σ s) (i : Nat) : σ.1 21 i = nI (s 20 i) := h.1 20 i (by omega) (by omega)
theorem c_21_1 {σ : ST} {s : SS} (h : RC 1 σ s) : σ.1 22 1 = nI (s 21 1) := h.1 21 1 (by omega) (by omega)
theorem c_22 {σ : ST} {s : SS} (h : RC 1 σ s) (i : Nat) : σ.1 23 i = nI (s 22 i) := h.1 22 i (by omega) (by omega)
theorem c_23 {σ : ST} {s : SS} (h : RC 1 σ s) (i : Nat) : σ.1 24 i = nI (s 23 i) := h.1 23 i (by omega) (by omega)
theorem c_24 {σ : ST} {s : SS} (h : RC 1 σ s) (i : Nat) : σ.1 25 i = nI (s 24 i) := h.1 24 i (by omega) (by omega)
theorem c_25 {σ : ST} {s : SS} (h : RC 1 σ s) (i : Nat) : σ.1 26 i = nI (s 25 i) := h.1 25 i (by omega) (by omega)
theorem c_0_6 {σ : ST} {s : SS} (h : RC 1 σ s) : σ.1 1 6 = nI (s 0 6) - nI 1 := h.2
