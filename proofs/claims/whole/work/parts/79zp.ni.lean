/-! the reader of the class does not look at what lies beyond the block -/
section NIN
variable {N N' : Mem}
theorem ni_g_X7_byteAt_0 : g_X7_byteAt_0 N = g_X7_byteAt_0 N' := by
  refine funext fun x0 => funext fun x1 => funext fun σ => ?_
  unfold g_X7_byteAt_0
  rfl
theorem ni_g_X7_byteAt : g_X7_byteAt N = g_X7_byteAt N' := by
  refine funext fun x0 => funext fun x1 => funext fun σ => ?_
  unfold g_X7_byteAt
  rw [ni_g_X7_byteAt_0 (N := N) (N' := N')]
theorem ni_g_X7_scanSymbol_83 : g_X7_scanSymbol_83 N = g_X7_scanSymbol_83 N' := by
  refine funext fun x0 => funext fun s0 => funext fun s1 => funext fun σ => ?_
  unfold g_X7_scanSymbol_83
  rfl
theorem ni_g_X7_scanSymbol_42 : g_X7_scanSymbol_42 N = g_X7_scanSymbol_42 N' := by
  refine funext fun x0 => funext fun σ => ?_
  unfold g_X7_scanSymbol_42
  rw [ni_g_X7_byteAt (N := N) (N' := N'), ni_g_X7_scanSymbol_83 (N := N) (N' := N')]
theorem ni_g_X7_scanSymbol_21 : g_X7_scanSymbol_21 N = g_X7_scanSymbol_21 N' := by
  refine funext fun x0 => funext fun s0 => funext fun s1 => funext fun σ => ?_
  unfold g_X7_scanSymbol_21
  rw [ni_g_X7_scanSymbol_42 (N := N) (N' := N')]
theorem ni_g_X7_scanSymbol_0 : g_X7_scanSymbol_0 N = g_X7_scanSymbol_0 N' := by
  refine funext fun x0 => funext fun x1 => funext fun σ => ?_
  unfold g_X7_scanSymbol_0
  rw [ni_g_X7_scanSymbol_21 (N := N) (N' := N')]
theorem ni_g_X7_scanSymbol : g_X7_scanSymbol N = g_X7_scanSymbol N' := by
  refine funext fun x0 => funext fun x1 => funext fun σ => ?_
  unfold g_X7_scanSymbol
  rw [ni_g_X7_scanSymbol_0 (N := N) (N' := N')]
theorem ni_g_X7_scanNumber_21_l : ∀ n, g_X7_scanNumber_21 N n = g_X7_scanNumber_21 N' n := by
  intro n
  induction n with
  | zero => rfl
  | succ n ih =>
    refine funext fun x0 => funext fun σ => ?_
    unfold g_X7_scanNumber_21
    rw [ih, ni_g_X7_byteAt (N := N) (N' := N')]
theorem ni_g_X7_scanNumber_21 : g_X7_scanNumber_21 N = g_X7_scanNumber_21 N' := funext fun n => ni_g_X7_scanNumber_21_l n
theorem ni_g_X7_scanNumber_0 : g_X7_scanNumber_0 N = g_X7_scanNumber_0 N' := by
  refine funext fun x0 => funext fun σ => ?_
  unfold g_X7_scanNumber_0
  rw [ni_g_X7_byteAt (N := N) (N' := N'), ni_g_X7_scanNumber_21 (N := N) (N' := N')]
theorem ni_g_X7_scanNumber : g_X7_scanNumber N = g_X7_scanNumber N' := by
  refine funext fun x0 => funext fun σ => ?_
  unfold g_X7_scanNumber
  rw [ni_g_X7_scanNumber_0 (N := N) (N' := N')]
theorem ni_g_X7_scanWord_53_l : ∀ n, g_X7_scanWord_53 N n = g_X7_scanWord_53 N' n := by
  intro n
  induction n with
  | zero => rfl
  | succ n ih =>
    refine funext fun x0 => funext fun x1 => funext fun x2 => funext fun x3 => funext fun σ => ?_
    unfold g_X7_scanWord_53
    rw [ih, ni_g_X7_byteAt (N := N) (N' := N')]
theorem ni_g_X7_scanWord_53 : g_X7_scanWord_53 N = g_X7_scanWord_53 N' := funext fun n => ni_g_X7_scanWord_53_l n
theorem ni_g_X7_scanWord_38 : g_X7_scanWord_38 N = g_X7_scanWord_38 N' := by
  refine funext fun x0 => funext fun σ => ?_
  unfold g_X7_scanWord_38
  rw [ni_g_X7_scanWord_53 (N := N) (N' := N')]
theorem ni_g_X7_scanWord_0_l : ∀ n, g_X7_scanWord_0 N n = g_X7_scanWord_0 N' n := by
  intro n
  induction n with
  | zero => rfl
  | succ n ih =>
    refine funext fun x0 => funext fun σ => ?_
    unfold g_X7_scanWord_0
    rw [ih, ni_g_X7_scanWord_38 (N := N) (N' := N'), ni_g_X7_byteAt (N := N) (N' := N')]
theorem ni_g_X7_scanWord_0 : g_X7_scanWord_0 N = g_X7_scanWord_0 N' := funext fun n => ni_g_X7_scanWord_0_l n
theorem ni_g_X7_scanWord : g_X7_scanWord N = g_X7_scanWord N' := by
  refine funext fun x0 => funext fun σ => ?_
  unfold g_X7_scanWord
  rw [ni_g_X7_scanWord_0 (N := N) (N' := N')]
theorem ni_g_X7_advance_58 : g_X7_advance_58 N = g_X7_advance_58 N' := by
  refine funext fun x0 => funext fun σ => ?_
  unfold g_X7_advance_58
  rw [ni_g_X7_byteAt (N := N) (N' := N'), ni_g_X7_scanSymbol (N := N) (N' := N'), ni_g_X7_scanNumber (N := N) (N' := N'), ni_g_X7_scanWord (N := N) (N' := N')]
theorem ni_g_X7_advance_45 : g_X7_advance_45 N = g_X7_advance_45 N' := by
  refine funext fun k8 => funext fun x0 => funext fun σ => ?_
  unfold g_X7_advance_45
  rfl
theorem ni_g_X7_advance_8_l : ∀ n, g_X7_advance_8 N n = g_X7_advance_8 N' n := by
  intro n
  induction n with
  | zero => rfl
  | succ n ih =>
    refine funext fun x0 => funext fun σ => ?_
    unfold g_X7_advance_8
    rw [ih, ni_g_X7_advance_58 (N := N) (N' := N'), ni_g_X7_byteAt (N := N) (N' := N'), ni_g_X7_advance_45 (N := N) (N' := N')]
theorem ni_g_X7_advance_8 : g_X7_advance_8 N = g_X7_advance_8 N' := funext fun n => ni_g_X7_advance_8_l n
theorem ni_g_X7_advance_0 : g_X7_advance_0 N = g_X7_advance_0 N' := by
  refine funext fun x0 => funext fun σ => ?_
  unfold g_X7_advance_0
  rw [ni_g_X7_advance_8 (N := N) (N' := N')]
theorem ni_g_X7_advance : g_X7_advance N = g_X7_advance N' := by
  refine funext fun x0 => funext fun σ => ?_
  unfold g_X7_advance
  rw [ni_g_X7_advance_0 (N := N) (N' := N')]
theorem ni_g_X7_rewind_0 : g_X7_rewind_0 N = g_X7_rewind_0 N' := by
  refine funext fun x0 => funext fun σ => ?_
  unfold g_X7_rewind_0
  rw [ni_g_X7_advance (N := N) (N' := N')]
theorem ni_g_X7_rewind : g_X7_rewind N = g_X7_rewind N' := by
  refine funext fun x0 => funext fun σ => ?_
  unfold g_X7_rewind
  rw [ni_g_X7_rewind_0 (N := N) (N' := N')]
theorem ni_g_X2_refuse_0 : g_X2_refuse_0 N = g_X2_refuse_0 N' := by
  refine funext fun x0 => funext fun x1 => funext fun σ => ?_
  unfold g_X2_refuse_0
  rfl
theorem ni_g_X2_refuse : g_X2_refuse N = g_X2_refuse N' := by
  refine funext fun x0 => funext fun x1 => funext fun σ => ?_
  unfold g_X2_refuse
  rw [ni_g_X2_refuse_0 (N := N) (N' := N')]
theorem ni_g_X2_readPart_0 : g_X2_readPart_0 N = g_X2_readPart_0 N' := by
  refine funext fun x0 => funext fun x1 => funext fun x2 => funext fun x3 => funext fun σ => ?_
  unfold g_X2_readPart_0
  rw [ni_g_X7_advance (N := N) (N' := N'), ni_g_X2_refuse (N := N) (N' := N')]
theorem ni_g_X2_readPart : g_X2_readPart N = g_X2_readPart N' := by
  refine funext fun x0 => funext fun x1 => funext fun x2 => funext fun x3 => funext fun σ => ?_
  unfold g_X2_readPart
  rw [ni_g_X2_readPart_0 (N := N) (N' := N')]
theorem ni_g_X2_expect_0 : g_X2_expect_0 N = g_X2_expect_0 N' := by
  refine funext fun x0 => funext fun x1 => funext fun σ => ?_
  unfold g_X2_expect_0
  rw [ni_g_X7_advance (N := N) (N' := N'), ni_g_X2_refuse (N := N) (N' := N')]
theorem ni_g_X2_expect : g_X2_expect N = g_X2_expect N' := by
  refine funext fun x0 => funext fun x1 => funext fun σ => ?_
  unfold g_X2_expect
  rw [ni_g_X2_expect_0 (N := N) (N' := N')]
theorem ni_g_X2_readOrder_0 : g_X2_readOrder_0 N = g_X2_readOrder_0 N' := by
  refine funext fun x0 => funext fun x1 => funext fun σ => ?_
  unfold g_X2_readOrder_0
  rw [ni_g_X2_readPart (N := N) (N' := N'), ni_g_X2_expect (N := N) (N' := N')]
theorem ni_g_X2_readOrder : g_X2_readOrder N = g_X2_readOrder N' := by
  refine funext fun x0 => funext fun x1 => funext fun σ => ?_
  unfold g_X2_readOrder
  rw [ni_g_X2_readOrder_0 (N := N) (N' := N')]
theorem ni_g_X2_readClause_119 : g_X2_readClause_119 N = g_X2_readClause_119 N' := by
  refine funext fun x0 => funext fun x2 => funext fun σ => ?_
  unfold g_X2_readClause_119
  rw [ni_g_X2_expect (N := N) (N' := N')]
theorem ni_g_X2_order_0 : g_X2_order_0 N = g_X2_order_0 N' := by
  refine funext fun x0 => funext fun x1 => funext fun x2 => funext fun σ => ?_
  unfold g_X2_order_0
  rfl
theorem ni_g_X2_order : g_X2_order N = g_X2_order N' := by
  refine funext fun x0 => funext fun x1 => funext fun x2 => funext fun σ => ?_
  unfold g_X2_order
  rw [ni_g_X2_order_0 (N := N) (N' := N')]
theorem ni_gb_X2_readAsk_0 : gb_X2_readAsk_0 N = gb_X2_readAsk_0 N' := by
  refine funext fun rec => funext fun x0 => funext fun σ => ?_
  unfold gb_X2_readAsk_0
  rw [ni_g_X7_advance (N := N) (N' := N'), ni_g_X2_order (N := N) (N' := N'), ni_g_X2_refuse (N := N) (N' := N')]
theorem ni_gb_X2_readBoth_7_l : ∀ (rec : Nat → Nat → Int32 → ST → Option (Bool × ST)) n, gb_X2_readBoth_7 N rec n = gb_X2_readBoth_7 N' rec n := by
  intro rec n
  induction n with
  | zero => rfl
  | succ n ih =>
    refine funext fun x0 => funext fun x1 => funext fun x2 => funext fun σ => ?_
    unfold gb_X2_readBoth_7
    rw [ih, ni_g_X7_advance (N := N) (N' := N'), ni_g_X2_order (N := N) (N' := N')]
theorem ni_gb_X2_readBoth_7 : gb_X2_readBoth_7 N = gb_X2_readBoth_7 N' := funext fun r => funext fun n => ni_gb_X2_readBoth_7_l r n
theorem ni_gb_X2_readBoth_0 : gb_X2_readBoth_0 N = gb_X2_readBoth_0 N' := by
  refine funext fun rec => funext fun x0 => funext fun σ => ?_
  unfold gb_X2_readBoth_0
  rw [ni_gb_X2_readBoth_7 (N := N) (N' := N')]
theorem ni_g_X2_aim_0 : g_X2_aim_0 N = g_X2_aim_0 N' := by
  refine funext fun x0 => funext fun x1 => funext fun σ => ?_
  unfold g_X2_aim_0
  rfl
theorem ni_g_X2_aim : g_X2_aim N = g_X2_aim N' := by
  refine funext fun x0 => funext fun x1 => funext fun σ => ?_
  unfold g_X2_aim
  rw [ni_g_X2_aim_0 (N := N) (N' := N')]
theorem ni_gb_X2_readChoice_0 : gb_X2_readChoice_0 N = gb_X2_readChoice_0 N' := by
  refine funext fun rec => funext fun x0 => funext fun σ => ?_
  unfold gb_X2_readChoice_0
  rw [ni_g_X2_expect (N := N) (N' := N'), ni_g_X2_order (N := N) (N' := N'), ni_g_X2_aim (N := N) (N' := N')]
theorem ni_gb_X2_readComparison_46 : gb_X2_readComparison_46 N = gb_X2_readComparison_46 N' := by
  refine funext fun rec => funext fun x0 => funext fun x1 => funext fun σ => ?_
  unfold gb_X2_readComparison_46
  rw [ni_g_X7_advance (N := N) (N' := N'), ni_g_X2_order (N := N) (N' := N')]
theorem ni_gb_X2_readComparison_0 : gb_X2_readComparison_0 N = gb_X2_readComparison_0 N' := by
  refine funext fun rec => funext fun x0 => funext fun σ => ?_
  unfold gb_X2_readComparison_0
  rw [ni_gb_X2_readComparison_46 (N := N) (N' := N'), ni_g_X2_refuse (N := N) (N' := N')]
theorem ni_gb_X2_readEither_7_l : ∀ (rec : Nat → Nat → Int32 → ST → Option (Bool × ST)) n, gb_X2_readEither_7 N rec n = gb_X2_readEither_7 N' rec n := by
  intro rec n
  induction n with
  | zero => rfl
  | succ n ih =>
    refine funext fun x0 => funext fun x1 => funext fun x2 => funext fun σ => ?_
    unfold gb_X2_readEither_7
    rw [ih, ni_g_X7_advance (N := N) (N' := N'), ni_g_X2_order (N := N) (N' := N')]
theorem ni_gb_X2_readEither_7 : gb_X2_readEither_7 N = gb_X2_readEither_7 N' := funext fun r => funext fun n => ni_gb_X2_readEither_7_l r n
theorem ni_gb_X2_readEither_0 : gb_X2_readEither_0 N = gb_X2_readEither_0 N' := by
  refine funext fun rec => funext fun x0 => funext fun σ => ?_
  unfold gb_X2_readEither_0
  rw [ni_gb_X2_readEither_7 (N := N) (N' := N')]
theorem ni_g_X2_readNumber_0 : g_X2_readNumber_0 N = g_X2_readNumber_0 N' := by
  refine funext fun x0 => funext fun σ => ?_
  unfold g_X2_readNumber_0
  rw [ni_g_X2_order (N := N) (N' := N'), ni_g_X7_advance (N := N) (N' := N'), ni_g_X2_refuse (N := N) (N' := N')]
theorem ni_g_X2_readNumber : g_X2_readNumber N = g_X2_readNumber N' := by
  refine funext fun x0 => funext fun σ => ?_
  unfold g_X2_readNumber
  rw [ni_g_X2_readNumber_0 (N := N) (N' := N')]
theorem ni_gb_X2_readOne_72 : gb_X2_readOne_72 N = gb_X2_readOne_72 N' := by
  refine funext fun rec => funext fun x0 => funext fun x1 => funext fun σ => ?_
  unfold gb_X2_readOne_72
  rw [ni_g_X7_advance (N := N) (N' := N'), ni_g_X2_refuse (N := N) (N' := N')]
theorem ni_g_X2_readName_33 : g_X2_readName_33 N = g_X2_readName_33 N' := by
  refine funext fun x0 => funext fun x1 => funext fun σ => ?_
  unfold g_X2_readName_33
  rw [ni_g_X2_order (N := N) (N' := N'), ni_g_X7_advance (N := N) (N' := N')]
theorem ni_g_X2_readName_13 : g_X2_readName_13 N = g_X2_readName_13 N' := by
  refine funext fun x0 => funext fun x1 => funext fun σ => ?_
  unfold g_X2_readName_13
  rw [ni_g_X2_readName_33 (N := N) (N' := N'), ni_g_X2_refuse (N := N) (N' := N')]
theorem ni_g_X2_readName_0 : g_X2_readName_0 N = g_X2_readName_0 N' := by
  refine funext fun x0 => funext fun x1 => funext fun σ => ?_
  unfold g_X2_readName_0
  rw [ni_g_X2_refuse (N := N) (N' := N'), ni_g_X2_readName_13 (N := N) (N' := N')]
theorem ni_g_X2_readName : g_X2_readName N = g_X2_readName N' := by
  refine funext fun x0 => funext fun x1 => funext fun σ => ?_
  unfold g_X2_readName
  rw [ni_g_X2_readName_0 (N := N) (N' := N')]
theorem ni_gb_X2_readOne_0 : gb_X2_readOne_0 N = gb_X2_readOne_0 N' := by
  refine funext fun rec => funext fun x0 => funext fun σ => ?_
  unfold gb_X2_readOne_0
  rw [ni_g_X2_readNumber (N := N) (N' := N'), ni_gb_X2_readOne_72 (N := N) (N' := N'), ni_g_X2_refuse (N := N) (N' := N'), ni_g_X2_readName (N := N) (N' := N')]
theorem ni_gb_X2_readOpened_0 : gb_X2_readOpened_0 N = gb_X2_readOpened_0 N' := by
  refine funext fun rec => funext fun x0 => funext fun x1 => funext fun σ => ?_
  unfold gb_X2_readOpened_0
  rw [ni_g_X2_expect (N := N) (N' := N'), ni_g_X2_order (N := N) (N' := N')]
theorem ni_gb_X2_readProduct_42 : gb_X2_readProduct_42 N = gb_X2_readProduct_42 N' := by
  refine funext fun rec => funext fun k7 => funext fun x0 => funext fun x2 => funext fun σ => ?_
  unfold gb_X2_readProduct_42
  rw [ni_g_X7_advance (N := N) (N' := N'), ni_g_X2_order (N := N) (N' := N')]
theorem ni_gb_X2_readProduct_7_l : ∀ (rec : Nat → Nat → Int32 → ST → Option (Bool × ST)) n, gb_X2_readProduct_7 N rec n = gb_X2_readProduct_7 N' rec n := by
  intro rec n
  induction n with
  | zero => rfl
  | succ n ih =>
    refine funext fun x0 => funext fun x1 => funext fun x2 => funext fun σ => ?_
    unfold gb_X2_readProduct_7
    rw [ih, ni_gb_X2_readProduct_42 (N := N) (N' := N')]
theorem ni_gb_X2_readProduct_7 : gb_X2_readProduct_7 N = gb_X2_readProduct_7 N' := funext fun r => funext fun n => ni_gb_X2_readProduct_7_l r n
theorem ni_gb_X2_readProduct_0 : gb_X2_readProduct_0 N = gb_X2_readProduct_0 N' := by
  refine funext fun rec => funext fun x0 => funext fun σ => ?_
  unfold gb_X2_readProduct_0
  rw [ni_gb_X2_readProduct_7 (N := N) (N' := N')]
theorem ni_gb_X2_readSum_42 : gb_X2_readSum_42 N = gb_X2_readSum_42 N' := by
  refine funext fun rec => funext fun k7 => funext fun x0 => funext fun x2 => funext fun σ => ?_
  unfold gb_X2_readSum_42
  rw [ni_g_X7_advance (N := N) (N' := N'), ni_g_X2_order (N := N) (N' := N')]
theorem ni_gb_X2_readSum_7_l : ∀ (rec : Nat → Nat → Int32 → ST → Option (Bool × ST)) n, gb_X2_readSum_7 N rec n = gb_X2_readSum_7 N' rec n := by
  intro rec n
  induction n with
  | zero => rfl
  | succ n ih =>
    refine funext fun x0 => funext fun x1 => funext fun x2 => funext fun σ => ?_
    unfold gb_X2_readSum_7
    rw [ih, ni_gb_X2_readSum_42 (N := N) (N' := N')]
theorem ni_gb_X2_readSum_7 : gb_X2_readSum_7 N = gb_X2_readSum_7 N' := funext fun r => funext fun n => ni_gb_X2_readSum_7_l r n
theorem ni_gb_X2_readSum_0 : gb_X2_readSum_0 N = gb_X2_readSum_0 N' := by
  refine funext fun rec => funext fun x0 => funext fun σ => ?_
  unfold gb_X2_readSum_0
  rw [ni_gb_X2_readSum_7 (N := N) (N' := N')]
theorem ni_grd : ∀ g, grd N g = grd N' g := by
  intro g
  induction g with
  | zero => rfl
  | succ g ih =>
    refine funext fun t => funext fun a => funext fun x => funext fun σ => ?_
    unfold grd
    rw [ih, ni_gb_X2_readAsk_0 (N := N) (N' := N'), ni_gb_X2_readBoth_0 (N := N) (N' := N'), ni_gb_X2_readChoice_0 (N := N) (N' := N'), ni_gb_X2_readComparison_0 (N := N) (N' := N'), ni_gb_X2_readEither_0 (N := N) (N' := N'), ni_gb_X2_readOne_0 (N := N) (N' := N'), ni_gb_X2_readOpened_0 (N := N) (N' := N'), ni_gb_X2_readProduct_0 (N := N) (N' := N'), ni_gb_X2_readSum_0 (N := N) (N' := N')]
theorem ni_g_X2_readSum : g_X2_readSum N = g_X2_readSum N' := by
  refine funext fun x0 => funext fun σ => ?_
  unfold g_X2_readSum
  rw [ni_grd (N := N) (N' := N')]
theorem ni_g_X2_readClause_40 : g_X2_readClause_40 N = g_X2_readClause_40 N' := by
  refine funext fun x0 => funext fun x1 => funext fun σ => ?_
  unfold g_X2_readClause_40
  rw [ni_g_X7_advance (N := N) (N' := N'), ni_g_X2_readOrder (N := N) (N' := N'), ni_g_X2_readClause_119 (N := N) (N' := N'), ni_g_X2_readSum (N := N) (N' := N'), ni_g_X2_refuse (N := N) (N' := N')]
theorem ni_g_X2_readClause_0 : g_X2_readClause_0 N = g_X2_readClause_0 N' := by
  refine funext fun x0 => funext fun σ => ?_
  unfold g_X2_readClause_0
  rw [ni_g_X2_readClause_40 (N := N) (N' := N'), ni_g_X2_refuse (N := N) (N' := N')]
theorem ni_g_X2_readClause : g_X2_readClause N = g_X2_readClause N' := by
  refine funext fun x0 => funext fun σ => ?_
  unfold g_X2_readClause
  rw [ni_g_X2_readClause_0 (N := N) (N' := N')]
theorem ni_g_X2_read_52_l : ∀ n, g_X2_read_52 N n = g_X2_read_52 N' n := by
  intro n
  induction n with
  | zero => rfl
  | succ n ih =>
    refine funext fun x0 => funext fun x1 => funext fun x2 => funext fun σ => ?_
    unfold g_X2_read_52
    rw [ih, ni_g_X2_readClause (N := N) (N' := N')]
theorem ni_g_X2_read_52 : g_X2_read_52 N = g_X2_read_52 N' := funext fun n => ni_g_X2_read_52_l n
theorem ni_g_X2_read_0 : g_X2_read_0 N = g_X2_read_0 N' := by
  refine funext fun x0 => funext fun σ => ?_
  unfold g_X2_read_0
  rw [ni_g_X7_rewind (N := N) (N' := N'), ni_g_X2_read_52 (N := N) (N' := N')]
theorem ni_g_X2_read : g_X2_read N = g_X2_read N' := by
  refine funext fun x0 => funext fun σ => ?_
  unfold g_X2_read
  rw [ni_g_X2_read_0 (N := N) (N' := N')]
end NIN
