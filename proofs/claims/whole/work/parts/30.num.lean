/-! numbers: every int is nI of a natural number (or minus one); rules for simp -/
theorem k_0 : (0 : Int32) = nI 0 := id (Eq.refl _)
theorem k_1 : (1 : Int32) = nI 1 := id (Eq.refl _)
theorem k_2 : (2 : Int32) = nI 2 := id (Eq.refl _)
theorem k_3 : (3 : Int32) = nI 3 := id (Eq.refl _)
theorem k_4 : (4 : Int32) = nI 4 := id (Eq.refl _)
theorem k_5 : (5 : Int32) = nI 5 := id (Eq.refl _)
theorem k_6 : (6 : Int32) = nI 6 := id (Eq.refl _)
theorem k_7 : (7 : Int32) = nI 7 := id (Eq.refl _)
theorem k_8 : (8 : Int32) = nI 8 := id (Eq.refl _)
theorem k_9 : (9 : Int32) = nI 9 := id (Eq.refl _)
theorem k_10 : (10 : Int32) = nI 10 := id (Eq.refl _)
theorem k_11 : (11 : Int32) = nI 11 := id (Eq.refl _)
theorem k_12 : (12 : Int32) = nI 12 := id (Eq.refl _)
theorem k_13 : (13 : Int32) = nI 13 := id (Eq.refl _)
theorem k_14 : (14 : Int32) = nI 14 := id (Eq.refl _)
theorem k_15 : (15 : Int32) = nI 15 := id (Eq.refl _)
theorem k_16 : (16 : Int32) = nI 16 := id (Eq.refl _)
theorem k_17 : (17 : Int32) = nI 17 := id (Eq.refl _)
theorem k_18 : (18 : Int32) = nI 18 := id (Eq.refl _)
theorem k_19 : (19 : Int32) = nI 19 := id (Eq.refl _)
theorem k_20 : (20 : Int32) = nI 20 := id (Eq.refl _)
theorem k_21 : (21 : Int32) = nI 21 := id (Eq.refl _)
theorem k_22 : (22 : Int32) = nI 22 := id (Eq.refl _)
theorem k_23 : (23 : Int32) = nI 23 := id (Eq.refl _)
theorem k_24 : (24 : Int32) = nI 24 := id (Eq.refl _)
theorem k_25 : (25 : Int32) = nI 25 := id (Eq.refl _)
theorem k_26 : (26 : Int32) = nI 26 := id (Eq.refl _)
theorem k_27 : (27 : Int32) = nI 27 := id (Eq.refl _)
theorem k_28 : (28 : Int32) = nI 28 := id (Eq.refl _)
theorem k_29 : (29 : Int32) = nI 29 := id (Eq.refl _)
theorem k_30 : (30 : Int32) = nI 30 := id (Eq.refl _)
theorem k_31 : (31 : Int32) = nI 31 := id (Eq.refl _)
theorem k_32 : (32 : Int32) = nI 32 := id (Eq.refl _)
theorem k_33 : (33 : Int32) = nI 33 := id (Eq.refl _)
theorem k_34 : (34 : Int32) = nI 34 := id (Eq.refl _)
theorem k_35 : (35 : Int32) = nI 35 := id (Eq.refl _)
theorem k_36 : (36 : Int32) = nI 36 := id (Eq.refl _)
theorem k_37 : (37 : Int32) = nI 37 := id (Eq.refl _)
theorem k_38 : (38 : Int32) = nI 38 := id (Eq.refl _)
theorem k_39 : (39 : Int32) = nI 39 := id (Eq.refl _)
theorem k_40 : (40 : Int32) = nI 40 := id (Eq.refl _)
theorem k_41 : (41 : Int32) = nI 41 := id (Eq.refl _)
theorem k_42 : (42 : Int32) = nI 42 := id (Eq.refl _)
theorem k_43 : (43 : Int32) = nI 43 := id (Eq.refl _)
theorem k_44 : (44 : Int32) = nI 44 := id (Eq.refl _)
theorem k_45 : (45 : Int32) = nI 45 := id (Eq.refl _)
theorem k_46 : (46 : Int32) = nI 46 := id (Eq.refl _)
theorem k_47 : (47 : Int32) = nI 47 := id (Eq.refl _)
theorem k_48 : (48 : Int32) = nI 48 := id (Eq.refl _)
theorem k_49 : (49 : Int32) = nI 49 := id (Eq.refl _)
theorem k_50 : (50 : Int32) = nI 50 := id (Eq.refl _)
theorem k_51 : (51 : Int32) = nI 51 := id (Eq.refl _)
theorem k_52 : (52 : Int32) = nI 52 := id (Eq.refl _)
theorem k_53 : (53 : Int32) = nI 53 := id (Eq.refl _)
theorem k_54 : (54 : Int32) = nI 54 := id (Eq.refl _)
theorem k_55 : (55 : Int32) = nI 55 := id (Eq.refl _)
theorem k_56 : (56 : Int32) = nI 56 := id (Eq.refl _)
theorem k_57 : (57 : Int32) = nI 57 := id (Eq.refl _)
theorem k_58 : (58 : Int32) = nI 58 := id (Eq.refl _)
theorem k_59 : (59 : Int32) = nI 59 := id (Eq.refl _)
theorem k_60 : (60 : Int32) = nI 60 := id (Eq.refl _)
theorem k_61 : (61 : Int32) = nI 61 := id (Eq.refl _)
theorem k_62 : (62 : Int32) = nI 62 := id (Eq.refl _)
theorem k_63 : (63 : Int32) = nI 63 := id (Eq.refl _)
theorem k_64 : (64 : Int32) = nI 64 := id (Eq.refl _)
theorem k_65 : (65 : Int32) = nI 65 := id (Eq.refl _)
theorem k_66 : (66 : Int32) = nI 66 := id (Eq.refl _)
theorem k_67 : (67 : Int32) = nI 67 := id (Eq.refl _)
theorem k_68 : (68 : Int32) = nI 68 := id (Eq.refl _)
theorem k_69 : (69 : Int32) = nI 69 := id (Eq.refl _)
theorem k_70 : (70 : Int32) = nI 70 := id (Eq.refl _)
theorem k_71 : (71 : Int32) = nI 71 := id (Eq.refl _)
theorem k_72 : (72 : Int32) = nI 72 := id (Eq.refl _)
theorem k_73 : (73 : Int32) = nI 73 := id (Eq.refl _)
theorem k_74 : (74 : Int32) = nI 74 := id (Eq.refl _)
theorem k_75 : (75 : Int32) = nI 75 := id (Eq.refl _)
theorem k_76 : (76 : Int32) = nI 76 := id (Eq.refl _)
theorem k_77 : (77 : Int32) = nI 77 := id (Eq.refl _)
theorem k_78 : (78 : Int32) = nI 78 := id (Eq.refl _)
theorem k_79 : (79 : Int32) = nI 79 := id (Eq.refl _)
theorem k_80 : (80 : Int32) = nI 80 := id (Eq.refl _)
theorem k_81 : (81 : Int32) = nI 81 := id (Eq.refl _)
theorem k_82 : (82 : Int32) = nI 82 := id (Eq.refl _)
theorem k_83 : (83 : Int32) = nI 83 := id (Eq.refl _)
theorem k_84 : (84 : Int32) = nI 84 := id (Eq.refl _)
theorem k_85 : (85 : Int32) = nI 85 := id (Eq.refl _)
theorem k_86 : (86 : Int32) = nI 86 := id (Eq.refl _)
theorem k_87 : (87 : Int32) = nI 87 := id (Eq.refl _)
theorem k_88 : (88 : Int32) = nI 88 := id (Eq.refl _)
theorem k_89 : (89 : Int32) = nI 89 := id (Eq.refl _)
theorem k_90 : (90 : Int32) = nI 90 := id (Eq.refl _)
theorem k_91 : (91 : Int32) = nI 91 := id (Eq.refl _)
theorem k_92 : (92 : Int32) = nI 92 := id (Eq.refl _)
theorem k_93 : (93 : Int32) = nI 93 := id (Eq.refl _)
theorem k_94 : (94 : Int32) = nI 94 := id (Eq.refl _)
theorem k_95 : (95 : Int32) = nI 95 := id (Eq.refl _)
theorem k_96 : (96 : Int32) = nI 96 := id (Eq.refl _)
theorem k_97 : (97 : Int32) = nI 97 := id (Eq.refl _)
theorem k_98 : (98 : Int32) = nI 98 := id (Eq.refl _)
theorem k_99 : (99 : Int32) = nI 99 := id (Eq.refl _)
theorem k_100 : (100 : Int32) = nI 100 := id (Eq.refl _)
theorem k_101 : (101 : Int32) = nI 101 := id (Eq.refl _)
theorem k_102 : (102 : Int32) = nI 102 := id (Eq.refl _)
theorem k_103 : (103 : Int32) = nI 103 := id (Eq.refl _)
theorem k_104 : (104 : Int32) = nI 104 := id (Eq.refl _)
theorem k_105 : (105 : Int32) = nI 105 := id (Eq.refl _)
theorem k_106 : (106 : Int32) = nI 106 := id (Eq.refl _)
theorem k_107 : (107 : Int32) = nI 107 := id (Eq.refl _)
theorem k_108 : (108 : Int32) = nI 108 := id (Eq.refl _)
theorem k_109 : (109 : Int32) = nI 109 := id (Eq.refl _)
theorem k_110 : (110 : Int32) = nI 110 := id (Eq.refl _)
theorem k_111 : (111 : Int32) = nI 111 := id (Eq.refl _)
theorem k_112 : (112 : Int32) = nI 112 := id (Eq.refl _)
theorem k_113 : (113 : Int32) = nI 113 := id (Eq.refl _)
theorem k_114 : (114 : Int32) = nI 114 := id (Eq.refl _)
theorem k_115 : (115 : Int32) = nI 115 := id (Eq.refl _)
theorem k_116 : (116 : Int32) = nI 116 := id (Eq.refl _)
theorem k_117 : (117 : Int32) = nI 117 := id (Eq.refl _)
theorem k_118 : (118 : Int32) = nI 118 := id (Eq.refl _)
theorem k_119 : (119 : Int32) = nI 119 := id (Eq.refl _)
theorem k_120 : (120 : Int32) = nI 120 := id (Eq.refl _)
theorem k_121 : (121 : Int32) = nI 121 := id (Eq.refl _)
theorem k_122 : (122 : Int32) = nI 122 := id (Eq.refl _)
theorem k_123 : (123 : Int32) = nI 123 := id (Eq.refl _)
theorem k_124 : (124 : Int32) = nI 124 := id (Eq.refl _)
theorem k_125 : (125 : Int32) = nI 125 := id (Eq.refl _)
theorem k_126 : (126 : Int32) = nI 126 := id (Eq.refl _)
theorem k_127 : (127 : Int32) = nI 127 := id (Eq.refl _)
theorem k_128 : (128 : Int32) = nI 128 := id (Eq.refl _)
theorem k_129 : (129 : Int32) = nI 129 := id (Eq.refl _)
theorem k_130 : (130 : Int32) = nI 130 := id (Eq.refl _)
theorem k_133 : (133 : Int32) = nI 133 := id (Eq.refl _)
theorem k_144 : (144 : Int32) = nI 144 := id (Eq.refl _)
theorem k_145 : (145 : Int32) = nI 145 := id (Eq.refl _)
theorem k_153 : (153 : Int32) = nI 153 := id (Eq.refl _)
theorem k_193 : (193 : Int32) = nI 193 := id (Eq.refl _)
theorem k_203 : (203 : Int32) = nI 203 := id (Eq.refl _)
theorem k_211 : (211 : Int32) = nI 211 := id (Eq.refl _)
theorem k_227 : (227 : Int32) = nI 227 := id (Eq.refl _)
theorem k_255 : (255 : Int32) = nI 255 := id (Eq.refl _)
theorem k_256 : (256 : Int32) = nI 256 := id (Eq.refl _)
theorem k_280 : (280 : Int32) = nI 280 := id (Eq.refl _)
theorem k_300 : (300 : Int32) = nI 300 := id (Eq.refl _)
theorem k_313 : (313 : Int32) = nI 313 := id (Eq.refl _)
theorem k_371 : (371 : Int32) = nI 371 := id (Eq.refl _)
theorem k_433 : (433 : Int32) = nI 433 := id (Eq.refl _)
theorem k_705 : (705 : Int32) = nI 705 := id (Eq.refl _)
theorem k_997 : (997 : Int32) = nI 997 := id (Eq.refl _)
theorem k_999 : (999 : Int32) = nI 999 := id (Eq.refl _)
theorem k_1000 : (1000 : Int32) = nI 1000 := id (Eq.refl _)
theorem k_4176 : (4176 : Int32) = nI 4176 := id (Eq.refl _)
theorem k_4547 : (4547 : Int32) = nI 4547 := id (Eq.refl _)
theorem k_9999 : (9999 : Int32) = nI 9999 := id (Eq.refl _)
theorem k_10000 : (10000 : Int32) = nI 10000 := id (Eq.refl _)
theorem k_30557 : (30557 : Int32) = nI 30557 := id (Eq.refl _)
theorem k_99999 : (99999 : Int32) = nI 99999 := id (Eq.refl _)
theorem k_1000000 : (1000000 : Int32) = nI 1000000 := id (Eq.refl _)
theorem k_1000000000 : (1000000000 : Int32) = nI 1000000000 := id (Eq.refl _)
theorem w_lt {n : Nat} (h : n < 2147483648) : n < 2 ^ 31 := h
theorem w_sub {a b : Nat} (h : b ≤ a) : nI a - nI b = nI (a - b) := pk_sub h
theorem w_rem {a d : Nat} (ha : a < 2147483648) (h0 : 0 < d) (hd : d < 2147483648) : jrem (nI a) (nI d) = nI (a % d) := pk_rem ha h0 hd
theorem w_div {a d : Nat} (ha : a < 2147483648) (h0 : 0 < d) (hd : d < 2147483648) : nI a / nI d = nI (a / d) := pk_div ha h0 hd
theorem w_dv {a d : Nat} (ha : a < 2147483648) (h0 : 0 < d) (hd : d < 2147483648) : dvI (nI a) (nI d) = some (nI (a / d)) := by
  unfold dvI
  rw [if_neg (nI_ne0 h0 hd), w_div ha h0 hd]
theorem w_rm {a d : Nat} (ha : a < 2147483648) (h0 : 0 < d) (hd : d < 2147483648) : rmI (nI a) (nI d) = some (nI (a % d)) := by
  unfold rmI
  rw [if_neg (nI_ne0 h0 hd), w_rem ha h0 hd]
theorem w_neg {b : Nat} (h : b < 2147483648) : (-nI b).toInt = -(b : Int) := sb_negT h
theorem w_em {a b : Nat} (ha : a < 2147483648) (h0 : 0 < b) (hb : b < 2147483648) : (nI a = -nI b) = False := by
  refine eq_false fun h => ?_
  have h1 := congrArg Int32.toInt h
  rw [nI_toInt ha, w_neg hb] at h1
  omega
theorem w_me {a b : Nat} (ha : a < 2147483648) (h0 : 0 < b) (hb : b < 2147483648) : (-nI b = nI a) = False := by
  refine eq_false fun h => ?_
  have h1 := congrArg Int32.toInt h
  rw [nI_toInt ha, w_neg hb] at h1
  omega
theorem w_lm {a b : Nat} (ha : a < 2147483648) (hb : b < 2147483648) : (nI a < -nI b) = False := by
  refine eq_false fun h => ?_
  have h1 := Int32.lt_iff_toInt_lt.mp h
  rw [nI_toInt ha, w_neg hb] at h1
  omega
theorem w_ml {a b : Nat} (ha : a < 2147483648) (h0 : 0 < b) (hb : b < 2147483648) : (-nI b < nI a) = True := by
  refine eq_true (Int32.lt_iff_toInt_lt.mpr ?_)
  rw [nI_toInt ha, w_neg hb]
  omega
theorem w_lem {a b : Nat} (ha : a < 2147483648) (h0 : 0 < b) (hb : b < 2147483648) : (nI a ≤ -nI b) = False := by
  refine eq_false fun h => ?_
  have h1 := Int32.le_iff_toInt_le.mp h
  rw [nI_toInt ha, w_neg hb] at h1
  omega
theorem w_mle {a b : Nat} (ha : a < 2147483648) (hb : b < 2147483648) : (-nI b ≤ nI a) = True := by
  refine eq_true (Int32.le_iff_toInt_le.mpr ?_)
  rw [nI_toInt ha, w_neg hb]
  omega
section NUM
variable {σ : ST}
theorem xI_n {n b i : Nat} (h : i < n) (hn : n < 2147483648) : xI n σ b (nI i) = some (σ.1 b i) := by
  unfold xI
  rw [if_neg (nI_in h hn), nI_clamp (Nat.lt_trans h hn)]
theorem yI_n {n b i : Nat} {v : Int32} (h : i < n) (hn : n < 2147483648) : yI n σ b (nI i) v = some (setI σ b i v) := by
  unfold yI
  rw [if_neg (nI_in h hn), nI_clamp (Nat.lt_trans h hn)]
theorem xL_n {n b i : Nat} (h : i < n) (hn : n < 2147483648) : xL n σ b (nI i) = some (σ.2.1 b i) := by
  unfold xL
  rw [if_neg (nI_in h hn), nI_clamp (Nat.lt_trans h hn)]
theorem yL_n {n b i : Nat} {v : Int64} (h : i < n) (hn : n < 2147483648) : yL n σ b (nI i) v = some (setL σ b i v) := by
  unfold yL
  rw [if_neg (nI_in h hn), nI_clamp (Nat.lt_trans h hn)]
theorem xP_n {b i : Nat} (h : i < 30) : xP b (nI i) = some (b + (16 + 9 * i)) := by
  unfold xP
  rw [if_neg (nI_in h (by decide)), nI_clamp (by omega)]
theorem xG_n {b i : Nat} (h : i < 13) : xG b (nI i) = some (b + (1 + i)) := by
  unfold xG
  rw [if_neg (nI_in h (by decide)), nI_clamp (by omega)]
theorem I_same {a b k j : Nat} {v : Int32} (h1 : b = a) (h2 : j = k) : (setI σ a k v).1 b j = v := if_pos ⟨h1, h2⟩
theorem I_row {a b k j : Nat} {v : Int32} (h1 : b ≠ a) : (setI σ a k v).1 b j = σ.1 b j := if_neg fun h => h1 h.1
theorem I_col {a b k j : Nat} {v : Int32} (h1 : j ≠ k) : (setI σ a k v).1 b j = σ.1 b j := if_neg fun h => h1 h.2
theorem L_1 {a b k j : Nat} {v : Int64} : (setL σ a k v).1 b j = σ.1 b j := rfl
theorem Q_1 {a b k j : Nat} {v : Option Nat} : (setQ σ a k v).1 b j = σ.1 b j := rfl
theorem R_same {a b j : Nat} {f : Nat → Int32} (h1 : b = a) : (setR σ a f).1 b j = f j := if_pos h1
theorem R_row {a b j : Nat} {f : Nat → Int32} (h1 : b ≠ a) : (setR σ a f).1 b j = σ.1 b j := if_neg h1
end NUM
theorem wi10 (x a b : Int32) : f_X10_within x a b = some (decide (a ≤ x ∧ x ≤ b)) := by
  unfold f_X10_within f_X10_within_0
  by_cases h1 : x < a
  · rw [if_pos h1, decide_eq_false fun h => Int32.not_lt.mpr h.1 h1]
  · rw [if_neg h1]
    by_cases h2 : b < x
    · rw [if_pos h2, decide_eq_false fun h => Int32.not_lt.mpr h.2 h2]
    · rw [if_neg h2, decide_eq_true ⟨Int32.not_lt.mp h1, Int32.not_lt.mp h2⟩]
theorem wi11 (x a b : Int32) : f_X11_isIn x a b = some (decide (a ≤ x ∧ x ≤ b)) := by
  unfold f_X11_isIn f_X11_isIn_0
  by_cases h1 : x < a
  · rw [if_pos h1, decide_eq_false fun h => Int32.not_lt.mpr h.1 h1]
  · rw [if_neg h1]
    by_cases h2 : b < x
    · rw [if_pos h2, decide_eq_false fun h => Int32.not_lt.mpr h.2 h2]
    · rw [if_neg h2, decide_eq_true ⟨Int32.not_lt.mp h1, Int32.not_lt.mp h2⟩]
/-- an argument within 0 .. n, or not -/
theorem argn (x : Int32) {n : Nat} (hn : n < 2147483648) : (¬ (nI 0 ≤ x ∧ x ≤ nI n)) ∨ ∃ k, k ≤ n ∧ x = nI k := by
  by_cases h : nI 0 ≤ x ∧ x ≤ nI n
  · obtain ⟨j, hj, e⟩ := nI_of2 (M := nI n) (nI_toInt hn) (x := x) (by rw [← nI_0]; exact Int32.not_lt.mpr h.1) h.2
    exact Or.inr ⟨j, hj, e⟩
  · exact Or.inl h
theorem in_t {a k n : Nat} (h0 : a ≤ k) (h : k ≤ n) (hn : n < 2147483648) : decide (nI a ≤ nI k ∧ nI k ≤ nI n) = true := decide_eq_true ⟨nI_le h0 (by omega), nI_le h hn⟩
theorem in_f {x a b : Int32} (h : ¬ (a ≤ x ∧ x ≤ b)) : decide (a ≤ x ∧ x ≤ b) = false := decide_eq_false h
/-- a loop, by its counter: each turn ends it well or goes on -/
theorem lp_gen {S R : Type} (L : Nat → Nat → S → Option R) (P : Nat → S → Prop) (Q : Option R → Prop) (hi : Nat)
    (st : ∀ n i s, i < hi → P i s → Q (L (n + 1) i s) ∨ ∃ t, P (i + 1) t ∧ L (n + 1) i s = L n (i + 1) t)
    (ex : ∀ n s, P hi s → Q (L (n + 1) hi s)) : ∀ k i n s, i + k = hi → k < n → P i s → Q (L n i s) := by
  intro k
  induction k with
  | zero =>
    intro i n s h1 h2 hP
    obtain ⟨m, rfl⟩ : ∃ m, n = m + 1 := ⟨n - 1, by omega⟩
    have h3 : i = hi := by omega
    subst h3
    exact ex m s hP
  | succ k ih =>
    intro i n s h1 h2 hP
    obtain ⟨m, rfl⟩ : ∃ m, n = m + 1 := ⟨n - 1, by omega⟩
    rcases st m i s (by omega) hP with h | ⟨t, ht, e⟩
    · exact h
    · rw [e]
      exact ih (i + 1) m t (by omega) (by omega) ht
theorem lp_fu {S R : Type} (L : Nat → Nat → S → Option R) (P : Nat → S → Prop) (Q : Option R → Prop) (lo hi : Nat) (s : S) (h1 : lo ≤ hi) (h2 : hi < lo + 1000000) (h3 : P lo s)
    (st : ∀ n i s, lo ≤ i → i < hi → P i s → Q (L (n + 1) i s) ∨ ∃ t, P (i + 1) t ∧ L (n + 1) i s = L n (i + 1) t)
    (ex : ∀ n s, P hi s → Q (L (n + 1) hi s)) : Q (L fu lo s) :=
  lp_gen L (fun i s => lo ≤ i ∧ P i s) Q hi (fun n i s hi hP => (st n i s hP.1 hi hP.2).imp id (fun ⟨t, ht, e⟩ => ⟨t, ⟨by omega, ht⟩, e⟩)) (fun n s hP => ex n s hP.2) (hi - lo) lo fu s (by omega) (by unfold fu; omega) ⟨Nat.le_refl _, h3⟩
/-- a loop that only goes on, in lockstep with a pure one -/
theorem lp_it {S R : Type} (L : Nat → Nat → S → Option R) (F : Nat → S → S) (hi : Nat) (P : Nat → S → Prop)
    (st : ∀ n i s, i < hi → P i s → P (i + 1) (F i s) ∧ L (n + 1) i s = L n (i + 1) (F i s)) : ∀ k i n s, i + k = hi → k < n → P i s → ∃ m t, P hi t ∧ L n i s = L (m + 1) hi t := by
  intro k
  induction k with
  | zero =>
    intro i n s h1 h2 hP
    obtain ⟨m, rfl⟩ : ∃ m, n = m + 1 := ⟨n - 1, by omega⟩
    have h3 : i = hi := by omega
    subst h3
    exact ⟨m, s, hP, rfl⟩
  | succ k ih =>
    intro i n s h1 h2 hP
    obtain ⟨m, rfl⟩ : ∃ m, n = m + 1 := ⟨n - 1, by omega⟩
    obtain ⟨ht, e⟩ := st m i s (by omega) hP
    rw [e]
    exact ih (i + 1) m _ (by omega) (by omega) ht
theorem bb_t : ((true : Bool) = true) = True := eq_self _
theorem bb_f : ((false : Bool) = false) = True := eq_self _
