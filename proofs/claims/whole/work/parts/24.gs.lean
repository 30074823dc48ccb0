noncomputable def gb_X2_readAsk_0 (N : Mem) (rec : Nat → Nat → Int32 → ST → Option (Bool × ST)) (x0 : Nat) (σ : ST) : Option (Bool × ST) :=
  if (σ.1 593 2) = 26 then
  (if (σ.1 x0 4) < 8 then
  ((some (setI σ x0 4 ((σ.1 x0 4) + 1))).bind fun r1 =>
  (g_X7_advance N 593 r1).bind fun r2 =>
  (rec 0 x0 0 r2).bind fun r3 =>
  (some (setI r3.2 x0 4 ((r3.2.1 x0 4) - 1))).bind fun r4 =>
  (g_X2_order N x0 26 0 r4).bind fun r5 =>
  some (r3.1, r5.2))
  else
  ((g_X2_refuse N x0 3 σ).bind fun r6 =>
  some (r6.1, r6.2)))
  else
  ((rec 3 x0 0 σ).bind fun r7 =>
  some (r7.1, r7.2))
set_option maxHeartbeats 4000000 in
theorem l_X2_readAsk_0 {N : Mem} {B : Nat} (hN : HN N B) {frec : Nat → Nat → Int32 → Mem → Option (Bool × Mem)} {rec : Nat → Nat → Int32 → ST → Option (Bool × ST)} (hrec : ∀ (t a : Nat) (x : Int32) (σ : ST), isC 2 a → frec t (B + a) x (put N B σ) = (rec t a x σ).bind (fun q => some (q.1, put N B q.2))) : ∀ (x0 : Nat) (σ : ST), isC 2 x0 → b_X2_readAsk_0 frec (B + x0) (put N B σ) = (gb_X2_readAsk_0 N rec x0 σ).bind (fun q => some (q.1, put N B q.2)) := by
  intro x0 σ hx0
  unfold b_X2_readAsk_0 gb_X2_readAsk_0
  refine lg (gR_2_0 hx0) ?_
  refine lg (gI_7_2 (sh_2_0 hx0)) ?_
  refine li (fun _ => ?_) (fun _ => ?_)
  · refine lg (gI_2_4 hx0) ?_
    refine li (fun _ => ?_) (fun _ => ?_)
    · refine lg (gI_2_4 hx0) ?_
      refine lp (pF_2_4 hx0) (fun r1 => ?_)
      refine lg (gR_2_0 hx0) ?_
      refine lm (l_X7_advance hN (sh_2_0 hx0)) (fun r2 => ?_)
      refine lc (hrec _ _ _ _ hx0) (fun r3 => ?_)
      dsimp only
      refine lg (gI_2_4 hx0) ?_
      refine lp (pF_2_4 hx0) (fun r4 => ?_)
      refine lc (l_X2_order hN hx0) (fun r5 => ?_)
      dsimp only
      rfl
    · refine lc (l_X2_refuse hN hx0) (fun r6 => ?_)
      dsimp only
      rfl
  · refine lc (hrec _ _ _ _ hx0) (fun r7 => ?_)
    dsimp only
    rfl
noncomputable def gb_X2_readBoth_7 (N : Mem) (rec : Nat → Nat → Int32 → ST → Option (Bool × ST)) (n0 : Nat) (x0 : Nat) (x1 : Bool) (x2 : Int32) (σ : ST) : Option (Bool × ST) :=
  match n0 with
  | 0 => none
  | n + 1 =>
    if 300 ≤ x2 then
    (some (x1, σ))
    else
    (if x1 = false then
    (some (x1, σ))
    else
    (if (σ.1 593 2) = 25 then
    ((g_X7_advance N 593 σ).bind fun r1 =>
    (rec 0 x0 0 r1).bind fun r2 =>
    (g_X2_order N x0 25 0 r2.2).bind fun r3 =>
    gb_X2_readBoth_7 N rec n x0 r2.1 (x2 + 1) r3.2)
    else
    (some (x1, σ))))
set_option maxHeartbeats 4000000 in
theorem l_X2_readBoth_7 {N : Mem} {B : Nat} (hN : HN N B) {frec : Nat → Nat → Int32 → Mem → Option (Bool × Mem)} {rec : Nat → Nat → Int32 → ST → Option (Bool × ST)} (hrec : ∀ (t a : Nat) (x : Int32) (σ : ST), isC 2 a → frec t (B + a) x (put N B σ) = (rec t a x σ).bind (fun q => some (q.1, put N B q.2))) : ∀ (n : Nat) (x0 : Nat) (x1 : Bool) (x2 : Int32) (σ : ST), isC 2 x0 → b_X2_readBoth_7 frec n (B + x0) x1 x2 (put N B σ) = (gb_X2_readBoth_7 N rec n x0 x1 x2 σ).bind (fun q => some (q.1, put N B q.2)) := by
  intro n
  induction n with
  | zero =>
    intro x0 x1 x2 σ hx0
    rfl
  | succ n ih =>
    intro x0 x1 x2 σ hx0
    unfold b_X2_readBoth_7 gb_X2_readBoth_7
    refine li (fun _ => ?_) (fun _ => ?_)
    · rfl
    · refine li (fun _ => ?_) (fun _ => ?_)
      · rfl
      · refine lg (gR_2_0 hx0) ?_
        refine lg (gI_7_2 (sh_2_0 hx0)) ?_
        refine li (fun _ => ?_) (fun _ => ?_)
        · refine lg (gR_2_0 hx0) ?_
          refine lm (l_X7_advance hN (sh_2_0 hx0)) (fun r1 => ?_)
          refine lc (hrec _ _ _ _ hx0) (fun r2 => ?_)
          dsimp only
          refine lc (l_X2_order hN hx0) (fun r3 => ?_)
          dsimp only
          exact ih _ _ _ _ hx0
        · rfl
noncomputable def gb_X2_readBoth_0 (N : Mem) (rec : Nat → Nat → Int32 → ST → Option (Bool × ST)) (x0 : Nat) (σ : ST) : Option (Bool × ST) :=
  (rec 0 x0 0 σ).bind fun r4 =>
  gb_X2_readBoth_7 N rec fu x0 r4.1 0 r4.2
set_option maxHeartbeats 4000000 in
theorem l_X2_readBoth_0 {N : Mem} {B : Nat} (hN : HN N B) {frec : Nat → Nat → Int32 → Mem → Option (Bool × Mem)} {rec : Nat → Nat → Int32 → ST → Option (Bool × ST)} (hrec : ∀ (t a : Nat) (x : Int32) (σ : ST), isC 2 a → frec t (B + a) x (put N B σ) = (rec t a x σ).bind (fun q => some (q.1, put N B q.2))) : ∀ (x0 : Nat) (σ : ST), isC 2 x0 → b_X2_readBoth_0 frec (B + x0) (put N B σ) = (gb_X2_readBoth_0 N rec x0 σ).bind (fun q => some (q.1, put N B q.2)) := by
  intro x0 σ hx0
  unfold b_X2_readBoth_0 gb_X2_readBoth_0
  refine lc (hrec _ _ _ _ hx0) (fun r4 => ?_)
  dsimp only
  exact l_X2_readBoth_7 hN hrec  _ _ _ _ _ hx0
noncomputable def gb_X2_readChoice_0 (N : Mem) (rec : Nat → Nat → Int32 → ST → Option (Bool × ST)) (x0 : Nat) (σ : ST) : Option (Bool × ST) :=
  (rec 4 x0 0 σ).bind fun r1 =>
  if r1.1 = false then
  (some (false, r1.2))
  else
  ((g_X2_expect N x0 21 r1.2).bind fun r2 =>
  if r2.1 = true then
  ((g_X2_order N x0 21 0 r2.2).bind fun r3 =>
  (rec 8 x0 0 r3.2).bind fun r4 =>
  if r4.1 = false then
  (some (false, r4.2))
  else
  ((g_X2_expect N x0 22 r4.2).bind fun r5 =>
  if r5.1 = true then
  ((g_X2_order N x0 22 0 r5.2).bind fun r6 =>
  (g_X2_aim N x0 r3.1 r6.2).bind fun r7 =>
  (rec 8 x0 0 r7).bind fun r8 =>
  if r8.1 = false then
  (some (false, r8.2))
  else
  ((g_X2_expect N x0 23 r8.2).bind fun r9 =>
  if r9.1 = true then
  ((g_X2_aim N x0 r6.1 r9.2).bind fun r10 =>
  some (true, r10))
  else
  (some (false, r9.2))))
  else
  (some (false, r5.2))))
  else
  (some (false, r2.2)))
set_option maxHeartbeats 4000000 in
theorem l_X2_readChoice_0 {N : Mem} {B : Nat} (hN : HN N B) {frec : Nat → Nat → Int32 → Mem → Option (Bool × Mem)} {rec : Nat → Nat → Int32 → ST → Option (Bool × ST)} (hrec : ∀ (t a : Nat) (x : Int32) (σ : ST), isC 2 a → frec t (B + a) x (put N B σ) = (rec t a x σ).bind (fun q => some (q.1, put N B q.2))) : ∀ (x0 : Nat) (σ : ST), isC 2 x0 → b_X2_readChoice_0 frec (B + x0) (put N B σ) = (gb_X2_readChoice_0 N rec x0 σ).bind (fun q => some (q.1, put N B q.2)) := by
  intro x0 σ hx0
  unfold b_X2_readChoice_0 gb_X2_readChoice_0
  refine lc (hrec _ _ _ _ hx0) (fun r1 => ?_)
  dsimp only
  refine li (fun _ => ?_) (fun _ => ?_)
  · rfl
  · refine lc (l_X2_expect hN hx0) (fun r2 => ?_)
    dsimp only
    refine li (fun _ => ?_) (fun _ => ?_)
    · refine lc (l_X2_order hN hx0) (fun r3 => ?_)
      dsimp only
      refine lc (hrec _ _ _ _ hx0) (fun r4 => ?_)
      dsimp only
      refine li (fun _ => ?_) (fun _ => ?_)
      · rfl
      · refine lc (l_X2_expect hN hx0) (fun r5 => ?_)
        dsimp only
        refine li (fun _ => ?_) (fun _ => ?_)
        · refine lc (l_X2_order hN hx0) (fun r6 => ?_)
          dsimp only
          refine lm (l_X2_aim hN hx0) (fun r7 => ?_)
          refine lc (hrec _ _ _ _ hx0) (fun r8 => ?_)
          dsimp only
          refine li (fun _ => ?_) (fun _ => ?_)
          · rfl
          · refine lc (l_X2_expect hN hx0) (fun r9 => ?_)
            dsimp only
            refine li (fun _ => ?_) (fun _ => ?_)
            · refine lm (l_X2_aim hN hx0) (fun r10 => ?_)
              rfl
            · rfl
        · rfl
    · rfl
noncomputable def gb_X2_readComparison_46 (N : Mem) (rec : Nat → Nat → Int32 → ST → Option (Bool × ST)) (x0 : Nat) (x1 : Int32) (σ : ST) : Option (Bool × ST) :=
  (g_X7_advance N 593 σ).bind fun r1 =>
  (rec 8 x0 0 r1).bind fun r2 =>
  (g_X2_order N x0 x1 0 r2.2).bind fun r3 =>
  some (r2.1, r3.2)
set_option maxHeartbeats 4000000 in
theorem l_X2_readComparison_46 {N : Mem} {B : Nat} (hN : HN N B) {frec : Nat → Nat → Int32 → Mem → Option (Bool × Mem)} {rec : Nat → Nat → Int32 → ST → Option (Bool × ST)} (hrec : ∀ (t a : Nat) (x : Int32) (σ : ST), isC 2 a → frec t (B + a) x (put N B σ) = (rec t a x σ).bind (fun q => some (q.1, put N B q.2))) : ∀ (x0 : Nat) (x1 : Int32) (σ : ST), isC 2 x0 → b_X2_readComparison_46 frec (B + x0) x1 (put N B σ) = (gb_X2_readComparison_46 N rec x0 x1 σ).bind (fun q => some (q.1, put N B q.2)) := by
  intro x0 x1 σ hx0
  unfold b_X2_readComparison_46 gb_X2_readComparison_46
  refine lg (gR_2_0 hx0) ?_
  refine lm (l_X7_advance hN (sh_2_0 hx0)) (fun r1 => ?_)
  refine lc (hrec _ _ _ _ hx0) (fun r2 => ?_)
  dsimp only
  refine lc (l_X2_order hN hx0) (fun r3 => ?_)
  dsimp only
  rfl
noncomputable def gb_X2_readComparison_0 (N : Mem) (rec : Nat → Nat → Int32 → ST → Option (Bool × ST)) (x0 : Nat) (σ : ST) : Option (Bool × ST) :=
  (rec 8 x0 0 σ).bind fun r4 =>
  if r4.1 = true then
  ((f_X10_within (r4.2.1 593 2) 28 31).bind fun v5 =>
  if v5 = true then
  (gb_X2_readComparison_46 N rec x0 (r4.2.1 593 2) r4.2)
  else
  (if (r4.2.1 593 2) = 39 then
  (gb_X2_readComparison_46 N rec x0 (r4.2.1 593 2) r4.2)
  else
  (if (r4.2.1 593 2) = 40 then
  (gb_X2_readComparison_46 N rec x0 (r4.2.1 593 2) r4.2)
  else
  ((g_X2_refuse N x0 1 r4.2).bind fun r6 =>
  some (r6.1, r6.2)))))
  else
  (some (false, r4.2))
set_option maxHeartbeats 4000000 in
theorem l_X2_readComparison_0 {N : Mem} {B : Nat} (hN : HN N B) {frec : Nat → Nat → Int32 → Mem → Option (Bool × Mem)} {rec : Nat → Nat → Int32 → ST → Option (Bool × ST)} (hrec : ∀ (t a : Nat) (x : Int32) (σ : ST), isC 2 a → frec t (B + a) x (put N B σ) = (rec t a x σ).bind (fun q => some (q.1, put N B q.2))) : ∀ (x0 : Nat) (σ : ST), isC 2 x0 → b_X2_readComparison_0 frec (B + x0) (put N B σ) = (gb_X2_readComparison_0 N rec x0 σ).bind (fun q => some (q.1, put N B q.2)) := by
  intro x0 σ hx0
  unfold b_X2_readComparison_0 gb_X2_readComparison_0
  refine lc (hrec _ _ _ _ hx0) (fun r4 => ?_)
  dsimp only
  refine li (fun _ => ?_) (fun _ => ?_)
  · refine lg (gR_2_0 hx0) ?_
    refine lg (gI_7_2 (sh_2_0 hx0)) ?_
    refine lb (rfl) (fun v5 => ?_)
    refine li (fun _ => ?_) (fun _ => ?_)
    · exact l_X2_readComparison_46 hN hrec  _ _ _ hx0
    · refine li (fun _ => ?_) (fun _ => ?_)
      · exact l_X2_readComparison_46 hN hrec  _ _ _ hx0
      · refine li (fun _ => ?_) (fun _ => ?_)
        · exact l_X2_readComparison_46 hN hrec  _ _ _ hx0
        · refine lc (l_X2_refuse hN hx0) (fun r6 => ?_)
          dsimp only
          rfl
  · rfl
noncomputable def gb_X2_readEither_7 (N : Mem) (rec : Nat → Nat → Int32 → ST → Option (Bool × ST)) (n0 : Nat) (x0 : Nat) (x1 : Bool) (x2 : Int32) (σ : ST) : Option (Bool × ST) :=
  match n0 with
  | 0 => none
  | n + 1 =>
    if 300 ≤ x2 then
    (some (x1, σ))
    else
    (if x1 = false then
    (some (x1, σ))
    else
    (if (σ.1 593 2) = 24 then
    ((g_X7_advance N 593 σ).bind fun r1 =>
    (rec 1 x0 0 r1).bind fun r2 =>
    (g_X2_order N x0 24 0 r2.2).bind fun r3 =>
    gb_X2_readEither_7 N rec n x0 r2.1 (x2 + 1) r3.2)
    else
    (some (x1, σ))))
set_option maxHeartbeats 4000000 in
theorem l_X2_readEither_7 {N : Mem} {B : Nat} (hN : HN N B) {frec : Nat → Nat → Int32 → Mem → Option (Bool × Mem)} {rec : Nat → Nat → Int32 → ST → Option (Bool × ST)} (hrec : ∀ (t a : Nat) (x : Int32) (σ : ST), isC 2 a → frec t (B + a) x (put N B σ) = (rec t a x σ).bind (fun q => some (q.1, put N B q.2))) : ∀ (n : Nat) (x0 : Nat) (x1 : Bool) (x2 : Int32) (σ : ST), isC 2 x0 → b_X2_readEither_7 frec n (B + x0) x1 x2 (put N B σ) = (gb_X2_readEither_7 N rec n x0 x1 x2 σ).bind (fun q => some (q.1, put N B q.2)) := by
  intro n
  induction n with
  | zero =>
    intro x0 x1 x2 σ hx0
    rfl
  | succ n ih =>
    intro x0 x1 x2 σ hx0
    unfold b_X2_readEither_7 gb_X2_readEither_7
    refine li (fun _ => ?_) (fun _ => ?_)
    · rfl
    · refine li (fun _ => ?_) (fun _ => ?_)
      · rfl
      · refine lg (gR_2_0 hx0) ?_
        refine lg (gI_7_2 (sh_2_0 hx0)) ?_
        refine li (fun _ => ?_) (fun _ => ?_)
        · refine lg (gR_2_0 hx0) ?_
          refine lm (l_X7_advance hN (sh_2_0 hx0)) (fun r1 => ?_)
          refine lc (hrec _ _ _ _ hx0) (fun r2 => ?_)
          dsimp only
          refine lc (l_X2_order hN hx0) (fun r3 => ?_)
          dsimp only
          exact ih _ _ _ _ hx0
        · rfl
noncomputable def gb_X2_readEither_0 (N : Mem) (rec : Nat → Nat → Int32 → ST → Option (Bool × ST)) (x0 : Nat) (σ : ST) : Option (Bool × ST) :=
  (rec 1 x0 0 σ).bind fun r4 =>
  gb_X2_readEither_7 N rec fu x0 r4.1 0 r4.2
set_option maxHeartbeats 4000000 in
theorem l_X2_readEither_0 {N : Mem} {B : Nat} (hN : HN N B) {frec : Nat → Nat → Int32 → Mem → Option (Bool × Mem)} {rec : Nat → Nat → Int32 → ST → Option (Bool × ST)} (hrec : ∀ (t a : Nat) (x : Int32) (σ : ST), isC 2 a → frec t (B + a) x (put N B σ) = (rec t a x σ).bind (fun q => some (q.1, put N B q.2))) : ∀ (x0 : Nat) (σ : ST), isC 2 x0 → b_X2_readEither_0 frec (B + x0) (put N B σ) = (gb_X2_readEither_0 N rec x0 σ).bind (fun q => some (q.1, put N B q.2)) := by
  intro x0 σ hx0
  unfold b_X2_readEither_0 gb_X2_readEither_0
  refine lc (hrec _ _ _ _ hx0) (fun r4 => ?_)
  dsimp only
  exact l_X2_readEither_7 hN hrec  _ _ _ _ _ hx0
noncomputable def gb_X2_readOne_72 (N : Mem) (rec : Nat → Nat → Int32 → ST → Option (Bool × ST)) (x0 : Nat) (x1 : Int32) (σ : ST) : Option (Bool × ST) :=
  if (σ.1 x0 4) < 8 then
  ((some (setI σ x0 4 ((σ.1 x0 4) + 1))).bind fun r1 =>
  (g_X7_advance N 593 r1).bind fun r2 =>
  (rec 6 x0 x1 r2).bind fun r3 =>
  (some (setI r3.2 x0 4 ((r3.2.1 x0 4) - 1))).bind fun r4 =>
  some (r3.1, r4))
  else
  ((g_X2_refuse N x0 3 σ).bind fun r5 =>
  some (r5.1, r5.2))
set_option maxHeartbeats 4000000 in
theorem l_X2_readOne_72 {N : Mem} {B : Nat} (hN : HN N B) {frec : Nat → Nat → Int32 → Mem → Option (Bool × Mem)} {rec : Nat → Nat → Int32 → ST → Option (Bool × ST)} (hrec : ∀ (t a : Nat) (x : Int32) (σ : ST), isC 2 a → frec t (B + a) x (put N B σ) = (rec t a x σ).bind (fun q => some (q.1, put N B q.2))) : ∀ (x0 : Nat) (x1 : Int32) (σ : ST), isC 2 x0 → b_X2_readOne_72 frec (B + x0) x1 (put N B σ) = (gb_X2_readOne_72 N rec x0 x1 σ).bind (fun q => some (q.1, put N B q.2)) := by
  intro x0 x1 σ hx0
  unfold b_X2_readOne_72 gb_X2_readOne_72
  refine lg (gI_2_4 hx0) ?_
  refine li (fun _ => ?_) (fun _ => ?_)
  · refine lg (gI_2_4 hx0) ?_
    refine lp (pF_2_4 hx0) (fun r1 => ?_)
    refine lg (gR_2_0 hx0) ?_
    refine lm (l_X7_advance hN (sh_2_0 hx0)) (fun r2 => ?_)
    refine lc (hrec _ _ _ _ hx0) (fun r3 => ?_)
    dsimp only
    refine lg (gI_2_4 hx0) ?_
    refine lp (pF_2_4 hx0) (fun r4 => ?_)
    rfl
  · refine lc (l_X2_refuse hN hx0) (fun r5 => ?_)
    dsimp only
    rfl
noncomputable def gb_X2_readOne_0 (N : Mem) (rec : Nat → Nat → Int32 → ST → Option (Bool × ST)) (x0 : Nat) (σ : ST) : Option (Bool × ST) :=
  if (σ.1 593 2) = 27 then
  ((g_X2_readNumber N x0 σ).bind fun r9 =>
  some (r9.1, r9.2))
  else
  ((f_X10_within (σ.1 593 2) 8 15).bind fun v6 =>
  if v6 = false then
  (if (σ.1 593 2) = 36 then
  (gb_X2_readOne_72 N rec x0 (σ.1 593 2) σ)
  else
  (if (σ.1 593 2) = 33 then
  (gb_X2_readOne_72 N rec x0 (σ.1 593 2) σ)
  else
  (if (σ.1 593 2) = 18 then
  (gb_X2_readOne_72 N rec x0 (σ.1 593 2) σ)
  else
  (if (σ.1 593 2) = 19 then
  (gb_X2_readOne_72 N rec x0 (σ.1 593 2) σ)
  else
  (if (σ.1 593 2) = 20 then
  (gb_X2_readOne_72 N rec x0 (σ.1 593 2) σ)
  else
  ((g_X2_refuse N x0 1 σ).bind fun r7 =>
  some (r7.1, r7.2)))))))
  else
  ((g_X2_readName N x0 (σ.1 593 2) σ).bind fun r8 =>
  some (r8.1, r8.2)))
set_option maxHeartbeats 4000000 in
theorem l_X2_readOne_0 {N : Mem} {B : Nat} (hN : HN N B) {frec : Nat → Nat → Int32 → Mem → Option (Bool × Mem)} {rec : Nat → Nat → Int32 → ST → Option (Bool × ST)} (hrec : ∀ (t a : Nat) (x : Int32) (σ : ST), isC 2 a → frec t (B + a) x (put N B σ) = (rec t a x σ).bind (fun q => some (q.1, put N B q.2))) : ∀ (x0 : Nat) (σ : ST), isC 2 x0 → b_X2_readOne_0 frec (B + x0) (put N B σ) = (gb_X2_readOne_0 N rec x0 σ).bind (fun q => some (q.1, put N B q.2)) := by
  intro x0 σ hx0
  unfold b_X2_readOne_0 gb_X2_readOne_0
  refine lg (gR_2_0 hx0) ?_
  refine lg (gI_7_2 (sh_2_0 hx0)) ?_
  refine li (fun _ => ?_) (fun _ => ?_)
  · refine lc (l_X2_readNumber hN hx0) (fun r9 => ?_)
    dsimp only
    rfl
  · refine lb (rfl) (fun v6 => ?_)
    refine li (fun _ => ?_) (fun _ => ?_)
    · refine li (fun _ => ?_) (fun _ => ?_)
      · exact l_X2_readOne_72 hN hrec  _ _ _ hx0
      · refine li (fun _ => ?_) (fun _ => ?_)
        · exact l_X2_readOne_72 hN hrec  _ _ _ hx0
        · refine li (fun _ => ?_) (fun _ => ?_)
          · exact l_X2_readOne_72 hN hrec  _ _ _ hx0
          · refine li (fun _ => ?_) (fun _ => ?_)
            · exact l_X2_readOne_72 hN hrec  _ _ _ hx0
            · refine li (fun _ => ?_) (fun _ => ?_)
              · exact l_X2_readOne_72 hN hrec  _ _ _ hx0
              · refine lc (l_X2_refuse hN hx0) (fun r7 => ?_)
                dsimp only
                rfl
    · refine lc (l_X2_readName hN hx0) (fun r8 => ?_)
      dsimp only
      rfl
noncomputable def gb_X2_readOpened_0 (N : Mem) (rec : Nat → Nat → Int32 → ST → Option (Bool × ST)) (x0 : Nat) (x1 : Int32) (σ : ST) : Option (Bool × ST) :=
  if x1 = 36 then
  ((rec 8 x0 0 σ).bind fun r5 =>
  if r5.1 = false then
  (some (false, r5.2))
  else
  ((g_X2_expect N x0 37 r5.2).bind fun r6 =>
  if r6.1 = false then
  (some (false, r6.2))
  else
  (some (true, r6.2))))
  else
  (if x1 = 20 then
  ((rec 2 x0 0 σ).bind fun r4 =>
  some (r4.1, r4.2))
  else
  ((rec 5 x0 0 σ).bind fun r1 =>
  if x1 = 33 then
  ((g_X2_order N x0 43 0 r1.2).bind fun r3 =>
  some (r1.1, r3.2))
  else
  ((g_X2_order N x0 x1 0 r1.2).bind fun r2 =>
  some (r1.1, r2.2))))
set_option maxHeartbeats 4000000 in
theorem l_X2_readOpened_0 {N : Mem} {B : Nat} (hN : HN N B) {frec : Nat → Nat → Int32 → Mem → Option (Bool × Mem)} {rec : Nat → Nat → Int32 → ST → Option (Bool × ST)} (hrec : ∀ (t a : Nat) (x : Int32) (σ : ST), isC 2 a → frec t (B + a) x (put N B σ) = (rec t a x σ).bind (fun q => some (q.1, put N B q.2))) : ∀ (x0 : Nat) (x1 : Int32) (σ : ST), isC 2 x0 → b_X2_readOpened_0 frec (B + x0) x1 (put N B σ) = (gb_X2_readOpened_0 N rec x0 x1 σ).bind (fun q => some (q.1, put N B q.2)) := by
  intro x0 x1 σ hx0
  unfold b_X2_readOpened_0 gb_X2_readOpened_0
  refine li (fun _ => ?_) (fun _ => ?_)
  · refine lc (hrec _ _ _ _ hx0) (fun r5 => ?_)
    dsimp only
    refine li (fun _ => ?_) (fun _ => ?_)
    · rfl
    · refine lc (l_X2_expect hN hx0) (fun r6 => ?_)
      dsimp only
      refine li (fun _ => ?_) (fun _ => ?_)
      · rfl
      · rfl
  · refine li (fun _ => ?_) (fun _ => ?_)
    · refine lc (hrec _ _ _ _ hx0) (fun r4 => ?_)
      dsimp only
      rfl
    · refine lc (hrec _ _ _ _ hx0) (fun r1 => ?_)
      dsimp only
      refine li (fun _ => ?_) (fun _ => ?_)
      · refine lc (l_X2_order hN hx0) (fun r3 => ?_)
        dsimp only
        rfl
      · refine lc (l_X2_order hN hx0) (fun r2 => ?_)
        dsimp only
        rfl
noncomputable def gb_X2_readProduct_42 (N : Mem) (rec : Nat → Nat → Int32 → ST → Option (Bool × ST)) (k7 : Nat → Bool → Int32 → ST → Option (Bool × ST)) (x0 : Nat) (x2 : Int32) (σ : ST) : Option (Bool × ST) :=
  (g_X7_advance N 593 σ).bind fun r1 =>
  (rec 5 x0 0 r1).bind fun r2 =>
  (g_X2_order N x0 (σ.1 593 2) 0 r2.2).bind fun r3 =>
  k7 x0 r2.1 (x2 + 1) r3.2
set_option maxHeartbeats 4000000 in
theorem l_X2_readProduct_42 {N : Mem} {B : Nat} (hN : HN N B) {frec : Nat → Nat → Int32 → Mem → Option (Bool × Mem)} {rec : Nat → Nat → Int32 → ST → Option (Bool × ST)} (hrec : ∀ (t a : Nat) (x : Int32) (σ : ST), isC 2 a → frec t (B + a) x (put N B σ) = (rec t a x σ).bind (fun q => some (q.1, put N B q.2))) {fk7 : Nat → Bool → Int32 → Mem → Option (Bool × Mem)} {k7 : Nat → Bool → Int32 → ST → Option (Bool × ST)} (hk7 : ∀ (x0 : Nat) (x1 : Bool) (x2 : Int32) (σ : ST), isC 2 x0 → fk7 (B + x0) x1 x2 (put N B σ) = (k7 x0 x1 x2 σ).bind (fun q => some (q.1, put N B q.2))) : ∀ (x0 : Nat) (x2 : Int32) (σ : ST), isC 2 x0 → b_X2_readProduct_42 frec fk7 (B + x0) x2 (put N B σ) = (gb_X2_readProduct_42 N rec k7 x0 x2 σ).bind (fun q => some (q.1, put N B q.2)) := by
  intro x0 x2 σ hx0
  unfold b_X2_readProduct_42 gb_X2_readProduct_42
  refine lg (gR_2_0 hx0) ?_
  refine lg (gI_7_2 (sh_2_0 hx0)) ?_
  refine lg (gR_2_0 hx0) ?_
  refine lm (l_X7_advance hN (sh_2_0 hx0)) (fun r1 => ?_)
  refine lc (hrec _ _ _ _ hx0) (fun r2 => ?_)
  dsimp only
  refine lc (l_X2_order hN hx0) (fun r3 => ?_)
  dsimp only
  exact hk7 _ _ _ _ hx0
noncomputable def gb_X2_readProduct_7 (N : Mem) (rec : Nat → Nat → Int32 → ST → Option (Bool × ST)) (n0 : Nat) (x0 : Nat) (x1 : Bool) (x2 : Int32) (σ : ST) : Option (Bool × ST) :=
  match n0 with
  | 0 => none
  | n + 1 =>
    if 300 ≤ x2 then
    (some (x1, σ))
    else
    (if x1 = false then
    (some (x1, σ))
    else
    (if (σ.1 593 2) = 34 then
    (gb_X2_readProduct_42 N rec (gb_X2_readProduct_7 N rec n) x0 x2 σ)
    else
    (if (σ.1 593 2) = 35 then
    (gb_X2_readProduct_42 N rec (gb_X2_readProduct_7 N rec n) x0 x2 σ)
    else
    (some (x1, σ)))))
set_option maxHeartbeats 4000000 in
theorem l_X2_readProduct_7 {N : Mem} {B : Nat} (hN : HN N B) {frec : Nat → Nat → Int32 → Mem → Option (Bool × Mem)} {rec : Nat → Nat → Int32 → ST → Option (Bool × ST)} (hrec : ∀ (t a : Nat) (x : Int32) (σ : ST), isC 2 a → frec t (B + a) x (put N B σ) = (rec t a x σ).bind (fun q => some (q.1, put N B q.2))) : ∀ (n : Nat) (x0 : Nat) (x1 : Bool) (x2 : Int32) (σ : ST), isC 2 x0 → b_X2_readProduct_7 frec n (B + x0) x1 x2 (put N B σ) = (gb_X2_readProduct_7 N rec n x0 x1 x2 σ).bind (fun q => some (q.1, put N B q.2)) := by
  intro n
  induction n with
  | zero =>
    intro x0 x1 x2 σ hx0
    rfl
  | succ n ih =>
    intro x0 x1 x2 σ hx0
    unfold b_X2_readProduct_7 gb_X2_readProduct_7
    refine li (fun _ => ?_) (fun _ => ?_)
    · rfl
    · refine li (fun _ => ?_) (fun _ => ?_)
      · rfl
      · refine lg (gR_2_0 hx0) ?_
        refine lg (gI_7_2 (sh_2_0 hx0)) ?_
        refine li (fun _ => ?_) (fun _ => ?_)
        · exact l_X2_readProduct_42 hN hrec ih _ _ _ hx0
        · refine lg (gR_2_0 hx0) ?_
          refine lg (gI_7_2 (sh_2_0 hx0)) ?_
          refine li (fun _ => ?_) (fun _ => ?_)
          · exact l_X2_readProduct_42 hN hrec ih _ _ _ hx0
          · rfl
noncomputable def gb_X2_readProduct_0 (N : Mem) (rec : Nat → Nat → Int32 → ST → Option (Bool × ST)) (x0 : Nat) (σ : ST) : Option (Bool × ST) :=
  (rec 5 x0 0 σ).bind fun r4 =>
  gb_X2_readProduct_7 N rec fu x0 r4.1 0 r4.2
set_option maxHeartbeats 4000000 in
theorem l_X2_readProduct_0 {N : Mem} {B : Nat} (hN : HN N B) {frec : Nat → Nat → Int32 → Mem → Option (Bool × Mem)} {rec : Nat → Nat → Int32 → ST → Option (Bool × ST)} (hrec : ∀ (t a : Nat) (x : Int32) (σ : ST), isC 2 a → frec t (B + a) x (put N B σ) = (rec t a x σ).bind (fun q => some (q.1, put N B q.2))) : ∀ (x0 : Nat) (σ : ST), isC 2 x0 → b_X2_readProduct_0 frec (B + x0) (put N B σ) = (gb_X2_readProduct_0 N rec x0 σ).bind (fun q => some (q.1, put N B q.2)) := by
  intro x0 σ hx0
  unfold b_X2_readProduct_0 gb_X2_readProduct_0
  refine lc (hrec _ _ _ _ hx0) (fun r4 => ?_)
  dsimp only
  exact l_X2_readProduct_7 hN hrec  _ _ _ _ _ hx0
noncomputable def gb_X2_readSum_42 (N : Mem) (rec : Nat → Nat → Int32 → ST → Option (Bool × ST)) (k7 : Nat → Bool → Int32 → ST → Option (Bool × ST)) (x0 : Nat) (x2 : Int32) (σ : ST) : Option (Bool × ST) :=
  (g_X7_advance N 593 σ).bind fun r1 =>
  (rec 7 x0 0 r1).bind fun r2 =>
  (g_X2_order N x0 (σ.1 593 2) 0 r2.2).bind fun r3 =>
  k7 x0 r2.1 (x2 + 1) r3.2
set_option maxHeartbeats 4000000 in
theorem l_X2_readSum_42 {N : Mem} {B : Nat} (hN : HN N B) {frec : Nat → Nat → Int32 → Mem → Option (Bool × Mem)} {rec : Nat → Nat → Int32 → ST → Option (Bool × ST)} (hrec : ∀ (t a : Nat) (x : Int32) (σ : ST), isC 2 a → frec t (B + a) x (put N B σ) = (rec t a x σ).bind (fun q => some (q.1, put N B q.2))) {fk7 : Nat → Bool → Int32 → Mem → Option (Bool × Mem)} {k7 : Nat → Bool → Int32 → ST → Option (Bool × ST)} (hk7 : ∀ (x0 : Nat) (x1 : Bool) (x2 : Int32) (σ : ST), isC 2 x0 → fk7 (B + x0) x1 x2 (put N B σ) = (k7 x0 x1 x2 σ).bind (fun q => some (q.1, put N B q.2))) : ∀ (x0 : Nat) (x2 : Int32) (σ : ST), isC 2 x0 → b_X2_readSum_42 frec fk7 (B + x0) x2 (put N B σ) = (gb_X2_readSum_42 N rec k7 x0 x2 σ).bind (fun q => some (q.1, put N B q.2)) := by
  intro x0 x2 σ hx0
  unfold b_X2_readSum_42 gb_X2_readSum_42
  refine lg (gR_2_0 hx0) ?_
  refine lg (gI_7_2 (sh_2_0 hx0)) ?_
  refine lg (gR_2_0 hx0) ?_
  refine lm (l_X7_advance hN (sh_2_0 hx0)) (fun r1 => ?_)
  refine lc (hrec _ _ _ _ hx0) (fun r2 => ?_)
  dsimp only
  refine lc (l_X2_order hN hx0) (fun r3 => ?_)
  dsimp only
  exact hk7 _ _ _ _ hx0
noncomputable def gb_X2_readSum_7 (N : Mem) (rec : Nat → Nat → Int32 → ST → Option (Bool × ST)) (n0 : Nat) (x0 : Nat) (x1 : Bool) (x2 : Int32) (σ : ST) : Option (Bool × ST) :=
  match n0 with
  | 0 => none
  | n + 1 =>
    if 300 ≤ x2 then
    (some (x1, σ))
    else
    (if x1 = false then
    (some (x1, σ))
    else
    (if (σ.1 593 2) = 32 then
    (gb_X2_readSum_42 N rec (gb_X2_readSum_7 N rec n) x0 x2 σ)
    else
    (if (σ.1 593 2) = 33 then
    (gb_X2_readSum_42 N rec (gb_X2_readSum_7 N rec n) x0 x2 σ)
    else
    (some (x1, σ)))))
set_option maxHeartbeats 4000000 in
theorem l_X2_readSum_7 {N : Mem} {B : Nat} (hN : HN N B) {frec : Nat → Nat → Int32 → Mem → Option (Bool × Mem)} {rec : Nat → Nat → Int32 → ST → Option (Bool × ST)} (hrec : ∀ (t a : Nat) (x : Int32) (σ : ST), isC 2 a → frec t (B + a) x (put N B σ) = (rec t a x σ).bind (fun q => some (q.1, put N B q.2))) : ∀ (n : Nat) (x0 : Nat) (x1 : Bool) (x2 : Int32) (σ : ST), isC 2 x0 → b_X2_readSum_7 frec n (B + x0) x1 x2 (put N B σ) = (gb_X2_readSum_7 N rec n x0 x1 x2 σ).bind (fun q => some (q.1, put N B q.2)) := by
  intro n
  induction n with
  | zero =>
    intro x0 x1 x2 σ hx0
    rfl
  | succ n ih =>
    intro x0 x1 x2 σ hx0
    unfold b_X2_readSum_7 gb_X2_readSum_7
    refine li (fun _ => ?_) (fun _ => ?_)
    · rfl
    · refine li (fun _ => ?_) (fun _ => ?_)
      · rfl
      · refine lg (gR_2_0 hx0) ?_
        refine lg (gI_7_2 (sh_2_0 hx0)) ?_
        refine li (fun _ => ?_) (fun _ => ?_)
        · exact l_X2_readSum_42 hN hrec ih _ _ _ hx0
        · refine lg (gR_2_0 hx0) ?_
          refine lg (gI_7_2 (sh_2_0 hx0)) ?_
          refine li (fun _ => ?_) (fun _ => ?_)
          · exact l_X2_readSum_42 hN hrec ih _ _ _ hx0
          · rfl
noncomputable def gb_X2_readSum_0 (N : Mem) (rec : Nat → Nat → Int32 → ST → Option (Bool × ST)) (x0 : Nat) (σ : ST) : Option (Bool × ST) :=
  (rec 7 x0 0 σ).bind fun r4 =>
  gb_X2_readSum_7 N rec fu x0 r4.1 0 r4.2
set_option maxHeartbeats 4000000 in
theorem l_X2_readSum_0 {N : Mem} {B : Nat} (hN : HN N B) {frec : Nat → Nat → Int32 → Mem → Option (Bool × Mem)} {rec : Nat → Nat → Int32 → ST → Option (Bool × ST)} (hrec : ∀ (t a : Nat) (x : Int32) (σ : ST), isC 2 a → frec t (B + a) x (put N B σ) = (rec t a x σ).bind (fun q => some (q.1, put N B q.2))) : ∀ (x0 : Nat) (σ : ST), isC 2 x0 → b_X2_readSum_0 frec (B + x0) (put N B σ) = (gb_X2_readSum_0 N rec x0 σ).bind (fun q => some (q.1, put N B q.2)) := by
  intro x0 σ hx0
  unfold b_X2_readSum_0 gb_X2_readSum_0
  refine lc (hrec _ _ _ _ hx0) (fun r4 => ?_)
  dsimp only
  exact l_X2_readSum_7 hN hrec  _ _ _ _ _ hx0
