/-! the reader's recursion, by fuel -/
noncomputable def rd (g0 t a : Nat) (x : Int32) (M : Mem) : Option (Bool × Mem) :=
  match g0 with
  | 0 => none
  | g + 1 => if isOb M 2 a = true then (match t with
    | 0 => b_X2_readAsk_0 (rd g) a M
    | 1 => b_X2_readBoth_0 (rd g) a M
    | 2 => b_X2_readChoice_0 (rd g) a M
    | 3 => b_X2_readComparison_0 (rd g) a M
    | 4 => b_X2_readEither_0 (rd g) a M
    | 5 => b_X2_readOne_0 (rd g) a M
    | 6 => b_X2_readOpened_0 (rd g) a x M
    | 7 => b_X2_readProduct_0 (rd g) a M
    | _ => b_X2_readSum_0 (rd g) a M) else none
theorem rd_ok (X : XV) : ∀ g d : Nat, g + 10 ≤ d → rdOK X d (rd g) := by
  intro g
  induction g with
  | zero =>
    intro d hd t a x M res h
    unfold rd at h
    cases h
  | succ g ih =>
    intro d hd t a x M res h
    obtain ⟨d, rfl⟩ : ∃ e, d = e + 1 := ⟨d - 1, by omega⟩
    have hrec := ih d (by omega)
    unfold rd at h
    split at h
    rotate_left
    · cases h
    rename_i hc
    refine ⟨isOb_iff hc, ?_⟩
    match t, h with
    | 0, h => exact Mx.of (i := mX2_readAsk) (by decide) (Nat.le_of_ble_eq_true rfl) ⟨_, rfl, jz_nar _⟩ (t_X2_readAsk_0 hrec (by omega) _ _ _ h)
    | 1, h => exact Mx.of (i := mX2_readBoth) (by decide) (Nat.le_of_ble_eq_true rfl) ⟨_, rfl, jz_nar _⟩ (t_X2_readBoth_0 hrec (by omega) _ _ _ h)
    | 2, h => exact Mx.of (i := mX2_readChoice) (by decide) (Nat.le_of_ble_eq_true rfl) ⟨_, rfl, jz_nar _⟩ (t_X2_readChoice_0 hrec (by omega) _ _ _ h)
    | 3, h => exact Mx.of (i := mX2_readComparison) (by decide) (Nat.le_of_ble_eq_true rfl) ⟨_, rfl, jz_nar _⟩ (t_X2_readComparison_0 hrec (by omega) _ _ _ h)
    | 4, h => exact Mx.of (i := mX2_readEither) (by decide) (Nat.le_of_ble_eq_true rfl) ⟨_, rfl, jz_nar _⟩ (t_X2_readEither_0 hrec (by omega) _ _ _ h)
    | 5, h => exact Mx.of (i := mX2_readOne) (by decide) (Nat.le_of_ble_eq_true rfl) ⟨_, rfl, jz_nar _⟩ (t_X2_readOne_0 hrec (by omega) _ _ _ h)
    | 6, h => exact Mx.of (i := mX2_readOpened) (by decide) (Nat.le_of_ble_eq_true rfl) ⟨_, rfl, jz_nar _⟩ (t_X2_readOpened_0 hrec (by omega) _ _ _ _ h)
    | 7, h => exact Mx.of (i := mX2_readProduct) (by decide) (Nat.le_of_ble_eq_true rfl) ⟨_, rfl, jz_nar _⟩ (t_X2_readProduct_0 hrec (by omega) _ _ _ h)
    | t + 8, h =>
      rw [show rdA (t + 8) a x = [.ref a] from if_neg (by omega)]
      exact Mx.of (i := mX2_readSum) (by decide) (Nat.le_of_ble_eq_true rfl) ⟨_, rfl, jz_nar _⟩ (t_X2_readSum_0 hrec (by omega) _ _ _ h)
noncomputable def f_X2_readSum (x0 : Nat) (M : Mem) : Option (Bool × Mem) := rd 100 8 x0 0 M
theorem o_X2_readSum {x0 : Nat} {M : Mem} {res : Bool × Mem} (h : f_X2_readSum x0 M = some res) : isO M 2 x0 := (rd_ok (0, 0, (fun _ => 0), fun _ => 0) 100 120 (by omega) 8 x0 0 M res h).1
theorem s_X2_readSum {X : XV} {d : Nat} (hd : 120 ≤ d) {x0 : Nat} {M : Mem} {res : Bool × Mem} (h : f_X2_readSum x0 M = some res) : Mx X d mX2_readSum [.ref x0] M (some (.int (jz res.1))) res.2 := (rd_ok X 100 d (by omega) 8 x0 0 M res h).2
