/-! PURE, part 42: a thing is shaded, on both sides -/
def asgF (f : Nat → Int32) (a b : Int) (v : Int32) : Nat → Int32 := fun j => if a ≤ (j : Int) ∧ (j : Int) < b then v else f j
theorem c_cmap_id (c : CSt) : c = c_cmap_s c (c_cmap c) := rfl
theorem assign_L (p z v : Int32) (f : Nat) : ∀ (y : Int32) (c : CSt), 0 ≤ y.toInt → y.toInt + f ≤ 200 → ((p + z).toInt - y.toInt).toNat = f → fX0_assign_L3 p z v f y c = c_cmap_s c (asgF (c_cmap c) y.toInt (y.toInt + f) v) := by
  induction f with
  | zero =>
    intro y c h0 h1 hf
    have e : asgF (c_cmap c) y.toInt (y.toInt + (0 : Nat)) v = c_cmap c := by
      funext j
      unfold asgF
      rw [if_neg (by omega)]
    rw [e]
    rfl
  | succ f ih =>
    intro y c h0 h1 hf
    have q200 : (200 : Int32).toInt = 200 := rfl
    unfold fX0_assign_L3
    rw [if_neg (fun w => by have := i32_lt w; have := t0; omega), if_neg (fun w => by have := i32_le w; omega)]
    have e1 := i32_1 (x := y) (B := 300) (by have q : (300 : Int32).toInt = 300 := rfl; omega)
    rw [ih (y + 1) _ (by omega) (by omega) (lp_b hf)]
    have e2 : asgF (c_cmap (c_cmap_s c (upd (c_cmap c) (ix y) v))) (y + 1).toInt ((y + 1).toInt + f) v = asgF (c_cmap c) y.toInt (y.toInt + (f + 1 : Nat)) v := by
      funext j
      show asgF (upd (c_cmap c) (ix y) v) (y + 1).toInt ((y + 1).toInt + f) v j = _
      have h3 := ix_nat h0
      unfold asgF
      rw [e1]
      by_cases hj : j = ix y
      · subst hj
        rw [if_neg (by omega), pk_us, if_pos (by omega)]
      · rw [pk_un hj]
        by_cases c2 : y.toInt + 1 ≤ (j : Int) ∧ (j : Int) < y.toInt + 1 + f
        · rw [if_pos c2, if_pos (by omega)]
        · rw [if_neg c2, if_neg (by omega)]
    rw [e2]
    rfl
theorem assign_eq (c : CSt) {p z : Int32} (v : Int32) (h0 : 0 ≤ p.toInt) (h1 : 0 ≤ z.toInt) (h2 : p.toInt + z.toInt ≤ 200) : fX0_assign c p z v = c_cmap_s c (asgF (c_cmap c) p.toInt (p.toInt + z.toInt) v) := by
  have e : (p + z).toInt = p.toInt + z.toInt := by
    rw [Int32.toInt_add]
    exact Int.bmod_eq_of_le (by omega) (by omega)
  unfold fX0_assign
  have e3 : (((p + z).toInt - p.toInt).toNat : Int) = z.toInt := by omega
  rw [assign_L p z v _ p c h0 (by omega) rfl, e3]
theorem thing_tm {c c' : CSt} (e : c_tmade c' = c_tmade c) (x : Int32) : fX4_isThing c' x = fX4_isThing c x := by
  unfold fX4_isThing
  rw [e]
theorem many_add {σ : RSt} (h : S0 σ) (k : Nat) : ((r_many σ k) + 1).toInt = (r_many σ k).toInt + 1 := by
  have h1 := h.2.1 k
  exact i32_1 (B := 100) (by have q : (100 : Int32).toInt = 100 := rfl; omega)
theorem szN_eq {σ : RSt} (h : S0 σ) (k : Nat) : (szN (r_many σ) k : Int) = (r_many σ k).toInt + 1 := by
  have h1 := h.2.1 k
  unfold szN
  omega
theorem half_top {half top : Int32} (h : half = 0 ∨ half = 1) (h2 : 0 ≤ top.toInt ∧ top.toInt ≤ 100) : (100 * half + top).toInt = 100 * half.toInt + top.toInt := by
  have q0 : ((100 : Int32) * 0).toInt = 0 := rfl
  have q1 : ((100 : Int32) * 1).toInt = 100 := rfl
  have q2 : (0 : Int32).toInt = 0 := rfl
  have q3 : (1 : Int32).toInt = 1 := rfl
  rcases h with rfl | rfl
  · rw [Int32.toInt_add, q0, q2]
    exact Int.bmod_eq_of_le (by omega) (by omega)
  · rw [Int32.toInt_add, q1, q3]
    exact Int.bmod_eq_of_le (by omega) (by omega)
theorem half_int {half : Int32} (h : half = 0 ∨ half = 1) : half.toInt = 0 ∨ half.toInt = 1 := by
  rcases h with rfl | rfl
  · exact Or.inl rfl
  · exact Or.inr rfl
theorem sumN_ge {g : Nat → Nat} {n k : Nat} (hk : k < n) : g k ≤ sumN g n := by
  induction n with
  | zero => omega
  | succ n ih =>
    simp only [sumN]
    rcases Nat.lt_succ_iff_lt_or_eq.mp hk with h1 | rfl
    · have := ih h1
      omega
    · omega
theorem paint_th {oo : Int32} {σ : RSt} {c : CSt} (h : RelO oo σ c) {x : Int32} (hx : TH (r_things σ) x) (v : Int32) : fX4_paint c x v = c_colours_s c (upd (c_colours c) (ix x) v) := by
  unfold fX4_paint
  rw [q_thing1 h hx, if_neg one_ne]
/-- the colour of one live thing changes where cells don't mind it -/
theorem gt_colour {σ : RSt} {c : CSt} (h : rGT σ c) {k : Nat} (hf : r_isFreed σ k = 0) (v : Int32) : GT (r_things σ) (r_many σ) (r_place σ) (upd (r_colour σ) k v) (r_isFreed σ) (r_hasWish σ) (r_moved σ) (r_field σ) (c_sizes c) (c_places c) (upd (c_colours c) k v) (c_freed c) (c_wishing c) (c_moves c) (c_theld c) := by
  intro j hj
  have g := h j hj
  by_cases e : j = k
  · subst e
    obtain ⟨⟨b1, b2, b3, b4, b5, b6⟩, g2, g3, g4, g5⟩ := g
    refine ⟨⟨b1, b2, by rw [pk_us, pk_us], b4, b5, b6⟩, g2, g3, fun z => ?_, g5⟩
    rw [hf] at z
    exact absurd z (by decide)
  · obtain ⟨⟨b1, b2, b3, b4, b5, b6⟩, g2, g3, g4, g5⟩ := g
    refine ⟨⟨b1, b2, by rw [pk_un e, pk_un e]; exact b3, b4, b5, b6⟩, g2, g3, fun z => ?_, g5⟩
    rw [pk_un e]
    exact g4 z
theorem rel_col {oo : Int32} {σ : RSt} {c : CSt} (h : RelO oo σ c) (f g : Nat → Int32) (v w : Int32) (hv : w = v) (hq : 0 ≤ v.toInt ∧ v.toInt ≤ cntB f (r_things σ).toInt.toNat) (hT : GT (r_things σ) (r_many σ) (r_place σ) f (r_isFreed σ) (r_hasWish σ) (r_moved σ) (r_field σ) (c_sizes c) (c_places c) g (c_freed c) (c_wishing c) (c_moves c) (c_theld c)) (h3 : r_manner σ = 3 → G3 (r_things σ) (r_way σ) (r_half σ) (r_top σ) (r_many σ) (r_place σ) f (r_isFreed σ)) : RelO oo (r_shaded_s (r_colour_s σ f) v) (c_shaded_s (c_colours_s c g) w) := by
  obtain ⟨hS, ⟨a1, a2, a3, a4, a5, a6, a7, a8, a9, a10, a11, a12⟩, _, hH, hP, hC1, hC2, _⟩ := h
  exact ⟨s0_sa (sa_tr (sa_colour _ _) (sa_shaded _ _)) hS, ⟨a1, a2, a3, a4, a5, hv, a7, a8, a9, a10, a11, a12.1, hq⟩, hT, hH, hP, hC1, hC2, h3⟩
theorem rel_mv {oo : Int32} {σ : RSt} {c : CSt} (h : RelO oo σ c) (col pl mv : Nat → Int32) (sh tp mm : Int32) (ccol cm0 cpl cmv cm : Nat → Int32) (csh beh cmm : Int32) (e1 : csh = sh) (e2 : cmm = mm) (hq : 0 ≤ sh.toInt ∧ sh.toInt ≤ cntB col (r_things σ).toInt.toNat)
    (hT : GT (r_things σ) (r_many σ) pl col (r_isFreed σ) (r_hasWish σ) mv (r_field σ) (c_sizes c) cpl ccol (c_freed c) (c_wishing c) cmv (c_theld c)) (h1 : GC (r_things σ) (r_many σ) pl (r_isFreed σ) cm) (h2 : GS (r_half σ) tp (c_halfEnd c) beh) (h3 : r_manner σ = 3 → G3 (r_things σ) (r_way σ) (r_half σ) tp (r_many σ) pl col (r_isFreed σ)) :
    RelO oo (r_movedMany_s (r_moved_s (r_top_s (r_place_s (r_shaded_s (r_colour_s σ col) sh) pl) tp) mv) mm) (c_moved_s (c_behind_s (c_cmap_s (c_moves_s (c_places_s (c_cmap_s (c_shaded_s (c_colours_s c ccol) csh) cm0) cpl) cmv) cm) beh) cmm) := by
  obtain ⟨hS, ⟨a1, a2, a3, a4, a5, a6, a7, a8, a9, a10, a11, a12⟩, _, hH, hP, _, _, _⟩ := h
  have hS2 : S0 (r_movedMany_s (r_moved_s (r_top_s (r_place_s (r_shaded_s (r_colour_s σ col) sh) pl) tp) mv) mm) := s0_sa (sa_movedMany _ _) (s0_sa (sa_moved _ _) (s0_sa (sa_top _ _) (s0_sa (sa_place _ _) (s0_sa (sa_shaded _ _) (s0_sa (sa_colour _ _) hS)))))
  refine ⟨hS2, ?_⟩
  clear hS2
  unfold GA rGT rGH rGP rGC
  unfold rGH at hH
  unfold rGP at hP
  simp only [Rq_manner_colour, Rq_fault_colour, Rq_things_colour, Rq_many_colour, Rq_field_colour, Rq_place_colour, Rq_colour_colour, Rq_isFreed_colour, Rq_hasWish_colour, Rq_moved_colour, Rq_register_colour, Rq_slot_colour, Rq_wishes_colour, Rq_wishAt_colour, Rq_weakAt_colour, Rq_pairs_colour, Rq_key_colour, Rq_value_colour, Rq_isPair_colour, Rq_half_colour, Rq_top_colour, Rq_way_colour, Rq_next_colour, Rq_freedMany_colour, Rq_rounds_colour, Rq_steps_colour, Rq_shaded_colour, Rq_movedMany_colour, Rq_isReached_colour, Rq_more_colour, Rq_manner_shaded, Rq_fault_shaded, Rq_things_shaded, Rq_many_shaded, Rq_field_shaded, Rq_place_shaded, Rq_colour_shaded, Rq_isFreed_shaded, Rq_hasWish_shaded, Rq_moved_shaded, Rq_register_shaded, Rq_slot_shaded, Rq_wishes_shaded, Rq_wishAt_shaded, Rq_weakAt_shaded, Rq_pairs_shaded, Rq_key_shaded, Rq_value_shaded, Rq_isPair_shaded, Rq_half_shaded, Rq_top_shaded, Rq_way_shaded, Rq_next_shaded, Rq_freedMany_shaded, Rq_rounds_shaded, Rq_steps_shaded, Rq_shaded_shaded, Rq_movedMany_shaded, Rq_isReached_shaded, Rq_more_shaded, Rq_manner_place, Rq_fault_place, Rq_things_place, Rq_many_place, Rq_field_place, Rq_place_place, Rq_colour_place, Rq_isFreed_place, Rq_hasWish_place, Rq_moved_place, Rq_register_place, Rq_slot_place, Rq_wishes_place, Rq_wishAt_place, Rq_weakAt_place, Rq_pairs_place, Rq_key_place, Rq_value_place, Rq_isPair_place, Rq_half_place, Rq_top_place, Rq_way_place, Rq_next_place, Rq_freedMany_place, Rq_rounds_place, Rq_steps_place, Rq_shaded_place, Rq_movedMany_place, Rq_isReached_place, Rq_more_place, Rq_manner_top, Rq_fault_top, Rq_things_top, Rq_many_top, Rq_field_top, Rq_place_top, Rq_colour_top, Rq_isFreed_top, Rq_hasWish_top, Rq_moved_top, Rq_register_top, Rq_slot_top, Rq_wishes_top, Rq_wishAt_top, Rq_weakAt_top, Rq_pairs_top, Rq_key_top, Rq_value_top, Rq_isPair_top, Rq_half_top, Rq_top_top, Rq_way_top, Rq_next_top, Rq_freedMany_top, Rq_rounds_top, Rq_steps_top, Rq_shaded_top, Rq_movedMany_top, Rq_isReached_top, Rq_more_top, Rq_manner_moved, Rq_fault_moved, Rq_things_moved, Rq_many_moved, Rq_field_moved, Rq_place_moved, Rq_colour_moved, Rq_isFreed_moved, Rq_hasWish_moved, Rq_moved_moved, Rq_register_moved, Rq_slot_moved, Rq_wishes_moved, Rq_wishAt_moved, Rq_weakAt_moved, Rq_pairs_moved, Rq_key_moved, Rq_value_moved, Rq_isPair_moved, Rq_half_moved, Rq_top_moved, Rq_way_moved, Rq_next_moved, Rq_freedMany_moved, Rq_rounds_moved, Rq_steps_moved, Rq_shaded_moved, Rq_movedMany_moved, Rq_isReached_moved, Rq_more_moved, Rq_manner_movedMany, Rq_fault_movedMany, Rq_things_movedMany, Rq_many_movedMany, Rq_field_movedMany, Rq_place_movedMany, Rq_colour_movedMany, Rq_isFreed_movedMany, Rq_hasWish_movedMany, Rq_moved_movedMany, Rq_register_movedMany, Rq_slot_movedMany, Rq_wishes_movedMany, Rq_wishAt_movedMany, Rq_weakAt_movedMany, Rq_pairs_movedMany, Rq_key_movedMany, Rq_value_movedMany, Rq_isPair_movedMany, Rq_half_movedMany, Rq_top_movedMany, Rq_way_movedMany, Rq_next_movedMany, Rq_freedMany_movedMany, Rq_rounds_movedMany, Rq_steps_movedMany, Rq_shaded_movedMany, Rq_movedMany_movedMany, Rq_isReached_movedMany, Rq_more_movedMany, Cq_manner_colours, Cq_fault_colours, Cq_under_colours, Cq_nextS_colours, Cq_rounds_colours, Cq_steps_colours, Cq_shaded_colours, Cq_moved_colours, Cq_tmade_colours, Cq_sizes_colours, Cq_places_colours, Cq_colours_colours, Cq_moves_colours, Cq_freed_colours, Cq_wishing_colours, Cq_theld_colours, Cq_cmap_colours, Cq_halfEnd_colours, Cq_behind_colours, Cq_hheld_colours, Cq_named_colours, Cq_wishes_colours, Cq_pmade_colours, Cq_keys_colours, Cq_values_colours, Cq_found_colours, Cq_order_colours, Cq_rcount_colours, Cq_manner_shaded, Cq_fault_shaded, Cq_under_shaded, Cq_nextS_shaded, Cq_rounds_shaded, Cq_steps_shaded, Cq_shaded_shaded, Cq_moved_shaded, Cq_tmade_shaded, Cq_sizes_shaded, Cq_places_shaded, Cq_colours_shaded, Cq_moves_shaded, Cq_freed_shaded, Cq_wishing_shaded, Cq_theld_shaded, Cq_cmap_shaded, Cq_halfEnd_shaded, Cq_behind_shaded, Cq_hheld_shaded, Cq_named_shaded, Cq_wishes_shaded, Cq_pmade_shaded, Cq_keys_shaded, Cq_values_shaded, Cq_found_shaded, Cq_order_shaded, Cq_rcount_shaded, Cq_manner_cmap, Cq_fault_cmap, Cq_under_cmap, Cq_nextS_cmap, Cq_rounds_cmap, Cq_steps_cmap, Cq_shaded_cmap, Cq_moved_cmap, Cq_tmade_cmap, Cq_sizes_cmap, Cq_places_cmap, Cq_colours_cmap, Cq_moves_cmap, Cq_freed_cmap, Cq_wishing_cmap, Cq_theld_cmap, Cq_cmap_cmap, Cq_halfEnd_cmap, Cq_behind_cmap, Cq_hheld_cmap, Cq_named_cmap, Cq_wishes_cmap, Cq_pmade_cmap, Cq_keys_cmap, Cq_values_cmap, Cq_found_cmap, Cq_order_cmap, Cq_rcount_cmap, Cq_manner_places, Cq_fault_places, Cq_under_places, Cq_nextS_places, Cq_rounds_places, Cq_steps_places, Cq_shaded_places, Cq_moved_places, Cq_tmade_places, Cq_sizes_places, Cq_places_places, Cq_colours_places, Cq_moves_places, Cq_freed_places, Cq_wishing_places, Cq_theld_places, Cq_cmap_places, Cq_halfEnd_places, Cq_behind_places, Cq_hheld_places, Cq_named_places, Cq_wishes_places, Cq_pmade_places, Cq_keys_places, Cq_values_places, Cq_found_places, Cq_order_places, Cq_rcount_places, Cq_manner_moves, Cq_fault_moves, Cq_under_moves, Cq_nextS_moves, Cq_rounds_moves, Cq_steps_moves, Cq_shaded_moves, Cq_moved_moves, Cq_tmade_moves, Cq_sizes_moves, Cq_places_moves, Cq_colours_moves, Cq_moves_moves, Cq_freed_moves, Cq_wishing_moves, Cq_theld_moves, Cq_cmap_moves, Cq_halfEnd_moves, Cq_behind_moves, Cq_hheld_moves, Cq_named_moves, Cq_wishes_moves, Cq_pmade_moves, Cq_keys_moves, Cq_values_moves, Cq_found_moves, Cq_order_moves, Cq_rcount_moves, Cq_manner_behind, Cq_fault_behind, Cq_under_behind, Cq_nextS_behind, Cq_rounds_behind, Cq_steps_behind, Cq_shaded_behind, Cq_moved_behind, Cq_tmade_behind, Cq_sizes_behind, Cq_places_behind, Cq_colours_behind, Cq_moves_behind, Cq_freed_behind, Cq_wishing_behind, Cq_theld_behind, Cq_cmap_behind, Cq_halfEnd_behind, Cq_behind_behind, Cq_hheld_behind, Cq_named_behind, Cq_wishes_behind, Cq_pmade_behind, Cq_keys_behind, Cq_values_behind, Cq_found_behind, Cq_order_behind, Cq_rcount_behind, Cq_manner_moved, Cq_fault_moved, Cq_under_moved, Cq_nextS_moved, Cq_rounds_moved, Cq_steps_moved, Cq_shaded_moved, Cq_moved_moved, Cq_tmade_moved, Cq_sizes_moved, Cq_places_moved, Cq_colours_moved, Cq_moves_moved, Cq_freed_moved, Cq_wishing_moved, Cq_theld_moved, Cq_cmap_moved, Cq_halfEnd_moved, Cq_behind_moved, Cq_hheld_moved, Cq_named_moved, Cq_wishes_moved, Cq_pmade_moved, Cq_keys_moved, Cq_values_moved, Cq_found_moved, Cq_order_moved, Cq_rcount_moved]
  exact ⟨⟨a1, a2, a3, a4, a5, e1, e2, a8, a9, a10, a11, a12.1, hq⟩, hT, hH, hP, h1, h2, h3⟩
/-- manner 3: the thing moves behind all in the half at hand -/
theorem gc_move {n : Int32} {many place freed cmap : Nat → Int32} (h : GC n many place freed cmap) {k : Nat} (hk : LV n freed k) {b : Int32} (hm : 0 ≤ (many k).toInt) (hb : 0 ≤ b.toInt ∧ b.toInt + (many k).toInt + 1 ≤ 200) (hout : ∀ j : Nat, LV n freed j → j ≠ k → (place j).toInt + (many j).toInt < b.toInt ∨ b.toInt + (many k).toInt < (place j).toInt) {x : Int32} (hxk : x = nI k) :
    GC n many (upd place k b) freed (asgF (asgF cmap (place k).toInt ((place k).toInt + ((many k).toInt + 1)) (-1)) b.toInt (b.toInt + ((many k).toInt + 1)) x) := by
  obtain ⟨h1, h2, h3⟩ := h
  refine ⟨fun j hj => ?_, fun i j hi hj e => ?_, fun j hj => ?_⟩
  · by_cases e : j = k
    · subst e
      rw [pk_us]
      omega
    · rw [pk_un e]
      exact h1 j hj
  · by_cases e1 : i = k
    · subst e1
      have e2 : j ≠ i := fun z => e z.symm
      rw [pk_us, pk_un e2]
      have := hout j hj e2
      omega
    · rw [pk_un e1]
      by_cases e2 : j = k
      · subst e2
        rw [pk_us]
        have := hout i hi e1
        omega
      · rw [pk_un e2]
        exact h2 i j hi hj e
  · unfold asgF
    by_cases c1 : b.toInt ≤ (j : Int) ∧ (j : Int) < b.toInt + ((many k).toInt + 1)
    · rw [if_pos c1]
      refine Or.inl ⟨k, ⟨hk, ?_, ?_⟩, hxk⟩
      · rw [pk_us]; exact c1.1
      · rw [pk_us]; omega
    · rw [if_neg c1]
      by_cases c2 : (place k).toInt ≤ (j : Int) ∧ (j : Int) < (place k).toInt + ((many k).toInt + 1)
      · rw [if_pos c2]
        refine Or.inr ⟨fun i hi => ?_, rfl⟩
        obtain ⟨a1, a2, a3⟩ := hi
        by_cases e : i = k
        · subst e
          rw [pk_us] at a2 a3
          omega
        · rw [pk_un e] at a2 a3
          have := h2 i k a1 hk e
          omega
      · rw [if_neg c2]
        rcases h3 j hj with ⟨i, hi, ei⟩ | ⟨hn, ei⟩
        · have e : i ≠ k := by
            rintro rfl
            exact c2 ⟨hi.2.1, by have := hi.2.2; omega⟩
          exact Or.inl ⟨i, ⟨hi.1, by rw [pk_un e]; exact hi.2.1, by rw [pk_un e]; exact hi.2.2⟩, ei⟩
        · refine Or.inr ⟨fun i hi => ?_, ei⟩
          by_cases e : i = k
          · subst e
            obtain ⟨a1, a2, a3⟩ := hi
            rw [pk_us] at a2 a3
            omega
          · exact hn i ⟨hi.1, by have := hi.2.1; rw [pk_un e] at this; exact this, by have := hi.2.2; rw [pk_un e] at this; exact this⟩
