/-! each call of the law, over memory -/
section MOP
variable {N : Mem} {σ : ST} {s z : SS} {B : Nat}
theorem mo_machine (h : Inv N σ s z) (hN : HN N B) (x : Int32) (y : Int32) : ∃ r τ υ s' z', f_X10_machine (B + 0) x y (put N B σ) = some (r, put N B τ) ∧ f_X11_machine (B + 642) x y (put N B τ) = some (r, put N B υ) ∧ Inv N υ s' z' := by
  obtain ⟨r, τ, υ, s', e1, e2, e3⟩ := inv_1 h (machine_ok (N := N) h.c h.w h.r x y)
  exact ⟨r, τ, υ, s', z, by rw [l_X10_machine hN isC_10_at, e1, bnd], by rw [l_X11_machine hN isC_11_at, e2, bnd], e3⟩
theorem mo_feed (h : Inv N σ s z) (hN : HN N B) (x : Int32) (y : Int32) (k : Int32) (u : Int32) (w : Int32) : ∃ r τ υ s' z', f_X10_feed (B + 0) x y k u w (put N B σ) = some (r, put N B τ) ∧ f_X11_feed (B + 642) x y k u w (put N B τ) = some (r, put N B υ) ∧ Inv N υ s' z' := by
  obtain ⟨r, τ, υ, e1, e2, e3⟩ := feed_ok (N := N) h x y k u w
  exact ⟨r, τ, υ, s, z, by rw [l_X10_feed hN isC_10_at, e1, bnd], by rw [l_X11_feed hN isC_11_at, e2, bnd], e3⟩
theorem mo_end (h : Inv N σ s z) (hN : HN N B) (x : Int32) : ∃ r τ υ s' z', f_X10_end (B + 0) x (put N B σ) = some (r, put N B τ) ∧ f_X11_end (B + 642) x (put N B τ) = some (r, put N B υ) ∧ Inv N υ s' z' := by
  obtain ⟨r, τ, υ, e1, e2, e3⟩ := end_ok (N := N) h x
  exact ⟨r, τ, υ, s, z, by rw [l_X10_end hN isC_10_at, e1, bnd], by rw [l_X11_end hN isC_11_at, e2, bnd], e3⟩
theorem mo_fault (h : Inv N σ s z) (hN : HN N B) (x : Int32) : ∃ r, f_X10_fault (B + 0) x (put N B σ) = some r ∧ f_X11_fault (B + 642) x (put N B σ) = some r := by
  obtain ⟨r, e1, e2⟩ := fault_ok (N := N) h x
  exact ⟨r, by rw [l_X10_fault hN isC_10_at, e1], by rw [l_X11_fault hN isC_11_at, e2]⟩
theorem mo_by (h : Inv N σ s z) (hN : HN N B) (x : Int32) : ∃ r τ υ s' z', f_X10_by (B + 0) x (put N B σ) = some (r, put N B τ) ∧ f_X11_by (B + 642) x (put N B τ) = some (r, put N B υ) ∧ Inv N υ s' z' := by
  obtain ⟨r, τ, υ, s', e1, e2, e3⟩ := inv_1 h (by_ok (N := N) h.c h.w h.r x)
  exact ⟨r, τ, υ, s', z, by rw [l_X10_by hN isC_10_at, e1, bnd], by rw [l_X11_by hN isC_11_at, e2, bnd], e3⟩
theorem mo_crank (h : Inv N σ s z) (hN : HN N B) (x : Int32) (y : Int32) : ∃ r τ υ s' z', f_X10_crank (B + 0) x y (put N B σ) = some (r, put N B τ) ∧ f_X11_crank (B + 642) x y (put N B τ) = some (r, put N B υ) ∧ Inv N υ s' z' := by
  obtain ⟨r, τ, υ, s', e1, e2, e3⟩ := inv_1 h (crank_ok (N := N) h.c h.w h.r x y)
  exact ⟨r, τ, υ, s', z, by rw [l_X10_crank hN isC_10_at, e1, bnd], by rw [l_X11_crank hN isC_11_at, e2, bnd], e3⟩
theorem mo_oil (h : Inv N σ s z) (hN : HN N B) (x : Int32) (y : Int32) : ∃ r τ υ s' z', f_X10_oil (B + 0) x y (put N B σ) = some (r, put N B τ) ∧ f_X11_oil (B + 642) x y (put N B τ) = some (r, put N B υ) ∧ Inv N υ s' z' := by
  obtain ⟨r, τ, υ, s', e1, e2, e3⟩ := inv_1 h (oil_ok (N := N) h.c h.w h.r x y)
  exact ⟨r, τ, υ, s', z, by rw [l_X10_oil hN isC_10_at, e1, bnd], by rw [l_X11_oil hN isC_11_at, e2, bnd], e3⟩
theorem mo_lift (h : Inv N σ s z) (hN : HN N B) (x : Int32) : ∃ r τ υ s' z', f_X10_lift (B + 0) x (put N B σ) = some (r, put N B τ) ∧ f_X11_lift (B + 642) x (put N B τ) = some (r, put N B υ) ∧ Inv N υ s' z' := by
  obtain ⟨r, τ, υ, s', e1, e2, e3⟩ := inv_1 h (lift_ok (N := N) h.c h.w h.r x)
  exact ⟨r, τ, υ, s', z, by rw [l_X10_lift hN isC_10_at, e1, bnd], by rw [l_X11_lift hN isC_11_at, e2, bnd], e3⟩
theorem mo_night (h : Inv N σ s z) (hN : HN N B) (x : Int32) : ∃ r τ υ s' z', f_X10_night (B + 0) x (put N B σ) = some (r, put N B τ) ∧ f_X11_night (B + 642) x (put N B τ) = some (r, put N B υ) ∧ Inv N υ s' z' := by
  obtain ⟨r, τ, υ, s', e1, e2, e3⟩ := inv_1 h (night_ok (N := N) h.c h.w h.rx x)
  exact ⟨r, τ, υ, s', z, by rw [l_X10_night hN isC_10_at, e1, bnd], by rw [l_X11_night hN isC_11_at, e2, bnd], e3⟩
theorem mo_played (h : Inv N σ s z) (hN : HN N B) (x : Int32) : ∃ r τ υ s' z', f_X10_played (B + 0) x (put N B σ) = some (r, put N B τ) ∧ f_X11_played (B + 642) x (put N B τ) = some (r, put N B υ) ∧ Inv N υ s' z' := by
  obtain ⟨r, τ, υ, s', e1, e2, e3⟩ := inv_1 h (played_ok (N := N) h.c h.w h.rx x)
  exact ⟨r, τ, υ, s', z, by rw [l_X10_played hN isC_10_at, e1, bnd], by rw [l_X11_played hN isC_11_at, e2, bnd], e3⟩
theorem mo_decades (h : Inv N σ s z) (hN : HN N B) (x : Int32) (y : Int32) : ∃ r τ υ s' z', f_X10_decades (B + 0) x y (put N B σ) = some (r, put N B τ) ∧ f_X11_decades (B + 642) x y (put N B τ) = some (r, put N B υ) ∧ Inv N υ s' z' := by
  obtain ⟨r, τ, υ, s', e1, e2, e3⟩ := inv_1 h (decades_ok (N := N) h.c h.w h.rx x y)
  exact ⟨r, τ, υ, s', z, by rw [l_X10_decades hN isC_10_at, e1, bnd], by rw [l_X11_decades hN isC_11_at, e2, bnd], e3⟩
theorem mo_undo (h : Inv N σ s z) (hN : HN N B)  : ∃ r τ υ s' z', f_X10_undo (B + 0) (put N B σ) = some (r, put N B τ) ∧ f_X11_undo (B + 642) (put N B τ) = some (r, put N B υ) ∧ Inv N υ s' z' := by
  obtain ⟨r, τ, υ, s', e1, e2, e3⟩ := inv_1 h (undo_ok (N := N) h.c h.w h.r)
  exact ⟨r, τ, υ, s', z, by rw [l_X10_undo hN isC_10_at, e1, bnd], by rw [l_X11_undo hN isC_11_at, e2, bnd], e3⟩
theorem mo_of (h : Inv N σ s z) (hN : HN N B) (x : Int32) (y : Int32) : ∃ r τ υ s' z', f_X10_of (B + 0) x y (put N B σ) = some (r, put N B τ) ∧ f_X11_of (B + 642) x y (put N B τ) = some (r, put N B υ) ∧ Inv N υ s' z' := by
  obtain ⟨r, τ, υ, s', e1, e2, e3⟩ := inv_1 h (of_ok (N := N) h.c h.w h.rx x y)
  exact ⟨r, τ, υ, s', z, by rw [l_X10_of hN isC_10_at, e1, bnd], by rw [l_X11_of hN isC_11_at, e2, bnd], e3⟩
theorem mo_is (h : Inv N σ s z) (hN : HN N B) (x : Int32) : ∃ r, f_X10_is (B + 0) x (put N B σ) = some r ∧ f_X11_is (B + 642) x (put N B σ) = some r := by
  obtain ⟨r, e1, e2⟩ := is_ok (N := N) h.c h.r x
  exact ⟨r, by rw [l_X10_is hN isC_10_at, e1], by rw [l_X11_is hN isC_11_at, e2]⟩
theorem mo_book (h : Inv N σ s z) (hN : HN N B) (x : Int32) (y : Int32) : ∃ r, f_X10_book (B + 0) x y (put N B σ) = some r ∧ f_X11_book (B + 642) x y (put N B σ) = some r := by
  obtain ⟨r, e1, e2⟩ := book_ok (N := N) h.c h.w h.r x y
  exact ⟨r, by rw [l_X10_book hN isC_10_at, e1], by rw [l_X11_book hN isC_11_at, e2]⟩
theorem mo_foretold (h : Inv N σ s z) (hN : HN N B) (x : Int32) (y : Int32) (k : Int32) : ∃ r τ υ s' z', f_X10_foretold (B + 0) x y k (put N B σ) = some (r, put N B τ) ∧ f_X11_foretold (B + 642) x y k (put N B τ) = some (r, put N B υ) ∧ Inv N υ s' z' := by
  obtain ⟨r, τ, υ, s', e1, e2, e3⟩ := inv_for h x y k
  exact ⟨r, τ, υ, s', z, by rw [l_X10_foretold hN isC_10_at, e1, bnd], by rw [l_X11_foretold hN isC_11_at, e2, bnd], e3⟩
theorem mo_put (h : Inv N σ s z) (hN : HN N B) (x : Int32) : ∃ r τ υ s' z', f_X10_put (B + 0) x (put N B σ) = some (r, put N B τ) ∧ f_X11_put (B + 642) x (put N B τ) = some (r, put N B υ) ∧ Inv N υ s' z' := by
  obtain ⟨r, τ, υ, s', e1, e2, e3⟩ := inv_1 h (put_ok (N := N) h.c h.w h.r x)
  exact ⟨r, τ, υ, s', z, by rw [l_X10_put hN isC_10_at, e1, bnd], by rw [l_X11_put hN isC_11_at, e2, bnd], e3⟩
theorem mo_may (h : Inv N σ s z) (hN : HN N B) (x : Int32) : ∃ r τ υ s' z', f_X10_may (B + 0) x (put N B σ) = some (r, put N B τ) ∧ f_X11_may (B + 642) x (put N B τ) = some (r, put N B υ) ∧ Inv N υ s' z' := by
  obtain ⟨r, τ, υ, s', e1, e2, e3⟩ := inv_1 h (may_ok (N := N) h.c h.w h.r x)
  exact ⟨r, τ, υ, s', z, by rw [l_X10_may hN isC_10_at, e1, bnd], by rw [l_X11_may hN isC_11_at, e2, bnd], e3⟩
theorem mo_day (h : Inv N σ s z) (hN : HN N B) (x : Int32) : ∃ r τ υ s' z', f_X10_day (B + 0) x (put N B σ) = some (r, put N B τ) ∧ f_X11_day (B + 642) x (put N B τ) = some (r, put N B υ) ∧ Inv N υ s' z' := by
  obtain ⟨r, τ, υ, s', e1, e2, e3⟩ := inv_1 h (day_ok (N := N) h.c h.w h.r x)
  exact ⟨r, τ, υ, s', z, by rw [l_X10_day hN isC_10_at, e1, bnd], by rw [l_X11_day hN isC_11_at, e2, bnd], e3⟩
theorem mo_fits (h : Inv N σ s z) (hN : HN N B)  : ∃ r τ υ s' z', f_X10_fits (B + 0) (put N B σ) = some (r, put N B τ) ∧ f_X11_fits (B + 642) (put N B τ) = some (r, put N B υ) ∧ Inv N υ s' z' := by
  obtain ⟨r, τ, υ, s', e1, e2, e3⟩ := inv_1 h (fits_ok (N := N) h.c h.w h.r)
  exact ⟨r, τ, υ, s', z, by rw [l_X10_fits hN isC_10_at, e1, bnd], by rw [l_X11_fits hN isC_11_at, e2, bnd], e3⟩
theorem mo_likeliest (h : Inv N σ s z) (hN : HN N B) (x : Int32) : ∃ r τ υ s' z', f_X10_likeliest (B + 0) x (put N B σ) = some (r, put N B τ) ∧ f_X11_likeliest (B + 642) x (put N B τ) = some (r, put N B υ) ∧ Inv N υ s' z' := by
  obtain ⟨r, τ, υ, s', e1, e2, e3⟩ := inv_1 h (likeliest_ok (N := N) h.c h.w h.r x)
  exact ⟨r, τ, υ, s', z, by rw [l_X10_likeliest hN isC_10_at, e1, bnd], by rw [l_X11_likeliest hN isC_11_at, e2, bnd], e3⟩
theorem mo_add (h : Inv N σ s z) (hN : HN N B) (x : Int32) : ∃ r τ υ s' z', f_X10_add (B + 0) x (put N B σ) = some (r, put N B τ) ∧ f_X11_add (B + 642) x (put N B τ) = some (r, put N B υ) ∧ Inv N υ s' z' := by
  obtain ⟨r, τ, υ, s', e1, e2, e3⟩ := inv_1 h (add_ok (N := N) h.c h.w h.r x)
  exact ⟨r, τ, υ, s', z, by rw [l_X10_add hN isC_10_at, e1, bnd], by rw [l_X11_add hN isC_11_at, e2, bnd], e3⟩
theorem mo_second (h : Inv N σ s z) (hN : HN N B) (x : Int32) : ∃ r τ υ s' z', f_X10_second (B + 0) x (put N B σ) = some (r, put N B τ) ∧ f_X11_second (B + 642) x (put N B τ) = some (r, put N B υ) ∧ Inv N υ s' z' := by
  obtain ⟨r, τ, υ, s', e1, e2, e3⟩ := inv_1 h (second_ok (N := N) h.c h.w h.r x)
  exact ⟨r, τ, υ, s', z, by rw [l_X10_second hN isC_10_at, e1, bnd], by rw [l_X11_second hN isC_11_at, e2, bnd], e3⟩
theorem mo_duet (h : Inv N σ s z) (hN : HN N B) (x : Int32) (y : Int32) : ∃ r τ υ s' z', f_X10_duet (B + 0) x y (put N B σ) = some (r, put N B τ) ∧ f_X11_duet (B + 642) x y (put N B τ) = some (r, put N B υ) ∧ Inv N υ s' z' := by
  obtain ⟨r, τ, υ, s', e1, e2, e3⟩ := inv_1 h (duet_ok (N := N) h.c h.w h.r x y)
  exact ⟨r, τ, υ, s', z, by rw [l_X10_duet hN isC_10_at, e1, bnd], by rw [l_X11_duet hN isC_11_at, e2, bnd], e3⟩
theorem mo_common (h : Inv N σ s z) (hN : HN N B) (x : Int32) : ∃ r τ υ s' z', f_X10_common (B + 0) x (put N B σ) = some (r, put N B τ) ∧ f_X11_common (B + 642) x (put N B τ) = some (r, put N B υ) ∧ Inv N υ s' z' := by
  obtain ⟨r, τ, υ, s', e1, e2, e3⟩ := inv_1 h (common_ok (N := N) h.c h.w h.r x)
  exact ⟨r, τ, υ, s', z, by rw [l_X10_common hN isC_10_at, e1, bnd], by rw [l_X11_common hN isC_11_at, e2, bnd], e3⟩
theorem mo_apart (h : Inv N σ s z) (hN : HN N B)  : ∃ r τ υ s' z', f_X10_apart (B + 0) (put N B σ) = some (r, put N B τ) ∧ f_X11_apart (B + 642) (put N B τ) = some (r, put N B υ) ∧ Inv N υ s' z' := by
  obtain ⟨r, τ, υ, s', e1, e2, e3⟩ := inv_1 h (apart_ok (N := N) h.c h.w h.r)
  exact ⟨r, τ, υ, s', z, by rw [l_X10_apart hN isC_10_at, e1, bnd], by rw [l_X11_apart hN isC_11_at, e2, bnd], e3⟩
theorem mo_grows (h : Inv N σ s z) (hN : HN N B) (x : Int32) (y : Int32) : ∃ r τ υ s' z', f_X10_grows (B + 0) x y (put N B σ) = some (r, put N B τ) ∧ f_X11_grows (B + 642) x y (put N B τ) = some (r, put N B υ) ∧ Inv N υ s' z' := by
  obtain ⟨r, τ, υ, s', e1, e2, e3⟩ := inv_1 h (grows_ok (N := N) h.c h.w h.r x y)
  exact ⟨r, τ, υ, s', z, by rw [l_X10_grows hN isC_10_at, e1, bnd], by rw [l_X11_grows hN isC_11_at, e2, bnd], e3⟩
theorem mo_paired (h : Inv N σ s z) (hN : HN N B) (x : Int32) : ∃ r τ υ s' z', f_X10_paired (B + 0) x (put N B σ) = some (r, put N B τ) ∧ f_X11_paired (B + 642) x (put N B τ) = some (r, put N B υ) ∧ Inv N υ s' z' := by
  obtain ⟨r, τ, υ, s', e1, e2, e3⟩ := inv_1 h (paired_ok (N := N) h.c h.w h.r x)
  exact ⟨r, τ, υ, s', z, by rw [l_X10_paired hN isC_10_at, e1, bnd], by rw [l_X11_paired hN isC_11_at, e2, bnd], e3⟩
theorem mo_blocks (h : Inv N σ s z) (hN : HN N B) (x : Int32) (y : Int32) : ∃ r, f_X10_blocks (B + 0) x y (put N B σ) = some r ∧ f_X11_blocks (B + 642) x y (put N B σ) = some r := by
  obtain ⟨r, e1, e2⟩ := blocks_ok (N := N) h.c h.w h.r x y
  exact ⟨r, by rw [l_X10_blocks hN isC_10_at, e1], by rw [l_X11_blocks hN isC_11_at, e2]⟩
theorem mo_needs (h : Inv N σ s z) (hN : HN N B) (x : Int32) (y : Int32) : ∃ r τ υ s' z', f_X10_needs (B + 0) x y (put N B σ) = some (r, put N B τ) ∧ f_X11_needs (B + 642) x y (put N B τ) = some (r, put N B υ) ∧ Inv N υ s' z' := by
  obtain ⟨r, τ, υ, s', e1, e2, e3⟩ := inv_1 h (needs_ok (N := N) h.c h.w h.r x y)
  exact ⟨r, τ, υ, s', z, by rw [l_X10_needs hN isC_10_at, e1, bnd], by rw [l_X11_needs hN isC_11_at, e2, bnd], e3⟩
theorem mo_stock (h : Inv N σ s z) (hN : HN N B) (x : Int32) (y : Int32) (k : Int32) : ∃ r τ υ s' z', f_X10_stock (B + 0) x y k (put N B σ) = some (r, put N B τ) ∧ f_X11_stock (B + 642) x y k (put N B τ) = some (r, put N B υ) ∧ Inv N υ s' z' := by
  obtain ⟨r, τ, υ, s', e1, e2, e3⟩ := inv_1 h (stock_ok (N := N) h.c h.w h.r x y k)
  exact ⟨r, τ, υ, s', z, by rw [l_X10_stock hN isC_10_at, e1, bnd], by rw [l_X11_stock hN isC_11_at, e2, bnd], e3⟩
theorem mo_looser (h : Inv N σ s z) (hN : HN N B) (x : Int32) (y : Int32) : ∃ r τ υ s' z', f_X10_looser (B + 0) x y (put N B σ) = some (r, put N B τ) ∧ f_X11_looser (B + 642) x y (put N B τ) = some (r, put N B υ) ∧ Inv N υ s' z' := by
  obtain ⟨r, τ, υ, s', e1, e2, e3⟩ := inv_1 h (looser_ok (N := N) h.c h.w h.r x y)
  exact ⟨r, τ, υ, s', z, by rw [l_X10_looser hN isC_10_at, e1, bnd], by rw [l_X11_looser hN isC_11_at, e2, bnd], e3⟩
theorem mo_whose (h : Inv N σ s z) (hN : HN N B)  : ∃ r τ υ s' z', f_X10_whose (B + 0) (put N B σ) = some (r, put N B τ) ∧ f_X11_whose (B + 642) (put N B τ) = some (r, put N B υ) ∧ Inv N υ s' z' := by
  obtain ⟨r, τ, υ, s', e1, e2, e3⟩ := inv_1 h (whose_ok (N := N) h.c h.w h.rx)
  exact ⟨r, τ, υ, s', z, by rw [l_X10_whose hN isC_10_at, e1, bnd], by rw [l_X11_whose hN isC_11_at, e2, bnd], e3⟩
theorem mo_forgiven (h : Inv N σ s z) (hN : HN N B) (x : Int32) : ∃ r, f_X10_forgiven (B + 0) x (put N B σ) = some r ∧ f_X11_forgiven (B + 642) x (put N B σ) = some r := by
  obtain ⟨r, e1, e2⟩ := forgiven_ok (N := N) h.c h.w h.r x
  exact ⟨r, by rw [l_X10_forgiven hN isC_10_at, e1], by rw [l_X11_forgiven hN isC_11_at, e2]⟩
theorem mo_snow (h : Inv N σ s z) (hN : HN N B)  : ∃ r, f_X10_snow (B + 0) (put N B σ) = some r ∧ f_X11_snow (B + 642) (put N B σ) = some r := by
  obtain ⟨r, e1, e2⟩ := snow_ok (N := N) h.c h.w h.r
  exact ⟨r, by rw [l_X10_snow hN isC_10_at, e1], by rw [l_X11_snow hN isC_11_at, e2]⟩
theorem mo_worn (h : Inv N σ s z) (hN : HN N B)  : ∃ r, f_X10_worn (B + 0) (put N B σ) = some r ∧ f_X11_worn (B + 642) (put N B σ) = some r := by
  obtain ⟨r, e1, e2⟩ := worn_ok (N := N) h.c h.w h.r
  exact ⟨r, by rw [l_X10_worn hN isC_10_at, e1], by rw [l_X11_worn hN isC_11_at, e2]⟩
theorem mo_blank (h : Inv N σ s z) (hN : HN N B)  : ∃ r, f_X10_blank (B + 0) (put N B σ) = some r ∧ f_X11_blank (B + 642) (put N B σ) = some r := by
  obtain ⟨r, e1, e2⟩ := blank_ok (N := N) h.c h.w h.r
  exact ⟨r, by rw [l_X10_blank hN isC_10_at, e1], by rw [l_X11_blank hN isC_11_at, e2]⟩
theorem mo_ledger (h : Inv N σ s z) (hN : HN N B) (x : Int32) : ∃ r, f_X10_ledger (B + 0) x (put N B σ) = some r ∧ f_X11_ledger (B + 642) x (put N B σ) = some r := by
  obtain ⟨r, e1, e2⟩ := ledger_ok (N := N) h.c h.w h.r x
  exact ⟨r, by rw [l_X10_ledger hN isC_10_at, e1], by rw [l_X11_ledger hN isC_11_at, e2]⟩
theorem mo_image (h : Inv N σ s z) (hN : HN N B)  : ∃ r τ υ s' z', f_X10_image (B + 0) (put N B σ) = some (r, put N B τ) ∧ f_X11_image (B + 642) (put N B τ) = some (r, put N B υ) ∧ Inv N υ s' z' := by
  obtain ⟨r, τ, υ, z', e1, e2, e3⟩ := image_ok (N := N) h
  exact ⟨r, τ, υ, s, z', by rw [l_X10_image hN isC_10_at, e1, bnd], by rw [l_X11_image hN isC_11_at, e2, bnd], e3⟩
theorem mo_back (h : Inv N σ s z) (hN : HN N B)  : ∃ r τ υ s' z', f_X10_back (B + 0) (put N B σ) = some (r, put N B τ) ∧ f_X11_back (B + 642) (put N B τ) = some (r, put N B υ) ∧ Inv N υ s' z' := by
  obtain ⟨r, τ, υ, s', e1, e2, e3⟩ := back_ok (N := N) h
  exact ⟨r, τ, υ, s', z, by rw [l_X10_back hN isC_10_at, e1, bnd], by rw [l_X11_back hN isC_11_at, e2, bnd], e3⟩
theorem mo_about (h : Inv N σ s z) (hN : HN N B) (x : Int32) : ∃ r, f_X10_about (B + 0) x (put N B σ) = some r ∧ f_X11_about (B + 642) x (put N B σ) = some r := by
  obtain ⟨r, e1, e2⟩ := about_ok (N := N) h.c h.r h.tq x
  exact ⟨r, by rw [l_X10_about hN isC_10_at, e1], by rw [l_X11_about hN isC_11_at, e2]⟩
theorem mo_rule (h : Inv N σ s z) (hN : HN N B) (x : Int32) (b : Bool) (y : Int32) : ∃ r τ υ s' z', f_X10_rule (B + 0) x b y (put N B σ) = some (r, put N B τ) ∧ f_X11_rule (B + 642) x b y (put N B τ) = some (r, put N B υ) ∧ Inv N υ s' z' := by
  obtain ⟨r, τ, υ, s', e1, e2, e3⟩ := inv_1 h (rule_ok (N := N) h.c h.w h.r x b y)
  exact ⟨r, τ, υ, s', z, by rw [l_X10_rule hN isC_10_at, e1, bnd], by rw [l_X11_rule hN isC_11_at, e2, bnd], e3⟩
theorem mo_told (h : Inv N σ s z) (hN : HN N B) (x : Int32) (b : Bool) : ∃ r, f_X10_told (B + 0) x b (put N B σ) = some r ∧ f_X11_told (B + 642) x b (put N B σ) = some r := by
  obtain ⟨r, e1, e2⟩ := told_ok (N := N) h.c h.r x b
  exact ⟨r, by rw [l_X10_told hN isC_10_at, e1], by rw [l_X11_told hN isC_11_at, e2]⟩
theorem mo_odds (h : Inv N σ s z) (hN : HN N B) (x : Int32) (y : Int32) (b : Bool) : ∃ r τ υ s' z', f_X10_odds (B + 0) x y b (put N B σ) = some (r, put N B τ) ∧ f_X11_odds (B + 642) x y b (put N B τ) = some (r, put N B υ) ∧ Inv N υ s' z' := by
  obtain ⟨r, τ, υ, s', e1, e2, e3⟩ := inv_1 h (odds_ok (N := N) h.c h.w h.r x y b)
  exact ⟨r, τ, υ, s', z, by rw [l_X10_odds hN isC_10_at, e1, bnd], by rw [l_X11_odds hN isC_11_at, e2, bnd], e3⟩
theorem mo_stays (h : Inv N σ s z) (hN : HN N B) (b : Bool) : ∃ r, f_X10_stays (B + 0) b (put N B σ) = some r ∧ f_X11_stays (B + 642) b (put N B σ) = some r := by
  obtain ⟨r, e1, e2⟩ := stays_ok (N := N) h.c h.w h.r b
  exact ⟨r, by rw [l_X10_stays hN isC_10_at, e1], by rw [l_X11_stays hN isC_11_at, e2]⟩
theorem mo_likes (h : Inv N σ s z) (hN : HN N B) (b : Bool) (x : Int32) (y : Int32) (k : Int32) : ∃ r τ υ s' z', f_X10_likes (B + 0) b x y k (put N B σ) = some (r, put N B τ) ∧ f_X11_likes (B + 642) b x y k (put N B τ) = some (r, put N B υ) ∧ Inv N υ s' z' := by
  obtain ⟨r, τ, υ, s', e1, e2, e3⟩ := inv_1 h (likes_ok (N := N) h.c h.w h.r b x y k)
  exact ⟨r, τ, υ, s', z, by rw [l_X10_likes hN isC_10_at, e1, bnd], by rw [l_X11_likes hN isC_11_at, e2, bnd], e3⟩
end MOP
