/-! the reader's recursion, typed -/
noncomputable def grd (N : Mem) (g0 t a : Nat) (x : Int32) (σ : ST) : Option (Bool × ST) :=
  match g0 with
  | 0 => none
  | g + 1 => (match t with
    | 0 => gb_X2_readAsk_0 N (grd N g) a σ
    | 1 => gb_X2_readBoth_0 N (grd N g) a σ
    | 2 => gb_X2_readChoice_0 N (grd N g) a σ
    | 3 => gb_X2_readComparison_0 N (grd N g) a σ
    | 4 => gb_X2_readEither_0 N (grd N g) a σ
    | 5 => gb_X2_readOne_0 N (grd N g) a σ
    | 6 => gb_X2_readOpened_0 N (grd N g) a x σ
    | 7 => gb_X2_readProduct_0 N (grd N g) a σ
    | _ => gb_X2_readSum_0 N (grd N g) a σ)
theorem l_rd {N : Mem} {B : Nat} (hN : HN N B) : ∀ (g t a : Nat) (x : Int32) (σ : ST), isC 2 a → rd g t (B + a) x (put N B σ) = (grd N g t a x σ).bind (fun q => some (q.1, put N B q.2)) := by
  intro g
  induction g with
  | zero =>
    intro t a x σ h
    rfl
  | succ g ih =>
    intro t a x σ h
    unfold rd grd
    rw [if_pos (isOb_put h)]
    match t with
    | 0 => exact l_X2_readAsk_0 hN ih _ _ h
    | 1 => exact l_X2_readBoth_0 hN ih _ _ h
    | 2 => exact l_X2_readChoice_0 hN ih _ _ h
    | 3 => exact l_X2_readComparison_0 hN ih _ _ h
    | 4 => exact l_X2_readEither_0 hN ih _ _ h
    | 5 => exact l_X2_readOne_0 hN ih _ _ h
    | 6 => exact l_X2_readOpened_0 hN ih _ _ _ h
    | 7 => exact l_X2_readProduct_0 hN ih _ _ h
    | t + 8 => exact l_X2_readSum_0 hN ih _ _ h
noncomputable def g_X2_readSum (N : Mem) (x0 : Nat) (σ : ST) : Option (Bool × ST) := grd N 100 8 x0 0 σ
theorem l_X2_readSum {N : Mem} {B : Nat} (hN : HN N B) {x0 : Nat} {σ : ST} (hx0 : isC 2 x0) : f_X2_readSum (B + x0) (put N B σ) = (g_X2_readSum N x0 σ).bind (fun q => some (q.1, put N B q.2)) := l_rd hN 100 8 x0 0 σ hx0
