/-! the classes' own facts -/
theorem mx_inG {ws : List Cond} (h : ∀ w ∈ ws, w ∈ lw_tbl) (hg : ws.all goodWord = true) : ∀ w ∈ ws, w ∈ mx_g := fun w hw => List.mem_filter.mpr ⟨h w hw, List.all_eq_true.mp hg w hw⟩
set_option maxRecDepth 100000 in
theorem mx_i0 : ∀ w ∈ u_ws RX0 TX0 2, w ∈ mx_g := mx_inG (by decide +kernel) (by decide +kernel)
set_option maxRecDepth 100000 in
theorem mx_i1 : ∀ w ∈ u_ws RX1 TX1 3, w ∈ mx_g := mx_inG (by decide +kernel) (by decide +kernel)
set_option maxRecDepth 100000 in
theorem mx_i2 : ∀ w ∈ u_ws RX2 TX2 12, w ∈ mx_g := mx_inG (by decide +kernel) (by decide +kernel)
set_option maxRecDepth 100000 in
theorem mx_i3 : ∀ w ∈ u_ws RX3 TX3 2, w ∈ mx_g := mx_inG (by decide +kernel) (by decide +kernel)
set_option maxRecDepth 100000 in
theorem mx_i4 : ∀ w ∈ u_ws RX4 TX4 16, w ∈ mx_g := mx_inG (by decide +kernel) (by decide +kernel)
set_option maxRecDepth 100000 in
theorem mx_i5 : ∀ w ∈ u_ws RX5 TX5 3, w ∈ mx_g := mx_inG (by decide +kernel) (by decide +kernel)
set_option maxRecDepth 100000 in
theorem mx_i6 : ∀ w ∈ u_ws RX6 TX6 7, w ∈ mx_g := mx_inG (by decide +kernel) (by decide +kernel)
set_option maxRecDepth 100000 in
theorem mx_i7 : ∀ w ∈ u_ws RX7 TX7 6, w ∈ mx_g := mx_inG (by decide +kernel) (by decide +kernel)
set_option maxRecDepth 100000 in
theorem mx_i8 : ∀ w ∈ u_ws RX8 TX8 6, w ∈ mx_g := mx_inG (by decide +kernel) (by decide +kernel)
set_option maxRecDepth 100000 in
theorem mx_i9 : ∀ w ∈ u_ws RX9 TX9 12, w ∈ mx_g := mx_inG (by decide +kernel) (by decide +kernel)
set_option maxRecDepth 100000 in
theorem mx_i10 : ∀ w ∈ u_ws RX10 TX10 9, w ∈ mx_g := mx_inG (by decide +kernel) (by decide +kernel)
set_option maxRecDepth 100000 in
theorem mx_i11 : ∀ w ∈ u_ws RX11 TX11 37, w ∈ mx_g := mx_inG (by decide +kernel) (by decide +kernel)
def mx_ty (ci : Nat) : Nat → FieldType := match ci with
  | 0 => tyX0 | 1 => tyX1 | 2 => tyX2 | 3 => tyX3 | 4 => tyX4 | 5 => tyX5 | 6 => tyX6 | 7 => tyX7 | 8 => tyX8 | 9 => tyX9 | 10 => tyX10 | _ => tyX11
def mx_ok (ci : Nat) (C : String) (T : u_T) (N : Nat) : Prop := (∀ w ∈ u_ws C T N, w ∈ mx_g) ∧ (∀ k, k < N → parseFieldDescriptor (T k).2.2.1 = some (mx_ty ci k)) ∧ ∀ a, a < N → ∀ b, b < N → a ≠ b → (T a).2.1 ≠ (T b).2.1
theorem mx_cls {ci : Nat} {C : String} {T : u_T} {N : Nat} (h : mx_cl[ci]? = some (C, T, N)) : mx_ok ci C T N := by
  match ci, h with
  | 0, h => cases h; exact ⟨mx_i0, tyX0_ok, nmX0⟩
  | 1, h => cases h; exact ⟨mx_i1, tyX1_ok, nmX1⟩
  | 2, h => cases h; exact ⟨mx_i2, tyX2_ok, nmX2⟩
  | 3, h => cases h; exact ⟨mx_i3, tyX3_ok, nmX3⟩
  | 4, h => cases h; exact ⟨mx_i4, tyX4_ok, nmX4⟩
  | 5, h => cases h; exact ⟨mx_i5, tyX5_ok, nmX5⟩
  | 6, h => cases h; exact ⟨mx_i6, tyX6_ok, nmX6⟩
  | 7, h => cases h; exact ⟨mx_i7, tyX7_ok, nmX7⟩
  | 8, h => cases h; exact ⟨mx_i8, tyX8_ok, nmX8⟩
  | 9, h => cases h; exact ⟨mx_i9, tyX9_ok, nmX9⟩
  | 10, h => cases h; exact ⟨mx_i10, tyX10_ok, nmX10⟩
  | 11, h => cases h; exact ⟨mx_i11, tyX11_ok, nmX11⟩
  | n + 12, h => simp [mx_cl] at h
