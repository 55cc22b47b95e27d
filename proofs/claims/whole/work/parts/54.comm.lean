/-! PURE, part 54.comm: setters of what is reached -/
theorem reach_2 (σ : RSt) (f : (Nat → Int32)) (v : Int32) (g : (Nat → Int32)) (w : Int32) : r_more_s (r_isReached_s (r_more_s (r_isReached_s σ f) v) g) w = r_more_s (r_isReached_s σ g) w :=
  r_ext (σ := r_more_s (r_isReached_s (r_more_s (r_isReached_s σ f) v) g) w) (τ := r_more_s (r_isReached_s σ g) w)
    (by simp only [Rp_manner_isReached, Rp_manner_more])
    (by simp only [Rp_fault_isReached, Rp_fault_more])
    (by simp only [Rp_things_isReached, Rp_things_more])
    (by simp only [Rp_many_isReached, Rp_many_more])
    (by simp only [Rp_field_isReached, Rp_field_more])
    (by simp only [Rp_place_isReached, Rp_place_more])
    (by simp only [Rp_colour_isReached, Rp_colour_more])
    (by simp only [Rp_isFreed_isReached, Rp_isFreed_more])
    (by simp only [Rp_hasWish_isReached, Rp_hasWish_more])
    (by simp only [Rp_moved_isReached, Rp_moved_more])
    (by simp only [Rp_register_isReached, Rp_register_more])
    (by simp only [Rp_slot_isReached, Rp_slot_more])
    (by simp only [Rp_wishes_isReached, Rp_wishes_more])
    (by simp only [Rp_wishAt_isReached, Rp_wishAt_more])
    (by simp only [Rp_weakAt_isReached, Rp_weakAt_more])
    (by simp only [Rp_pairs_isReached, Rp_pairs_more])
    (by simp only [Rp_key_isReached, Rp_key_more])
    (by simp only [Rp_value_isReached, Rp_value_more])
    (by simp only [Rp_isPair_isReached, Rp_isPair_more])
    (by simp only [Rp_half_isReached, Rp_half_more])
    (by simp only [Rp_top_isReached, Rp_top_more])
    (by simp only [Rp_way_isReached, Rp_way_more])
    (by simp only [Rp_next_isReached, Rp_next_more])
    (by simp only [Rp_freedMany_isReached, Rp_freedMany_more])
    (by simp only [Rp_rounds_isReached, Rp_rounds_more])
    (by simp only [Rp_steps_isReached, Rp_steps_more])
    (by simp only [Rp_shaded_isReached, Rp_shaded_more])
    (by simp only [Rp_movedMany_isReached, Rp_movedMany_more])
    (by simp only [Rp_isReached_isReached, Rp_isReached_more])
    (by simp only [Rp_more_isReached, Rp_more_more])
theorem reached_m (σ : RSt) (f : (Nat → Int32)) (v : Int32) (g : (Nat → Int32)) : r_isReached_s (r_more_s (r_isReached_s σ f) v) g = r_more_s (r_isReached_s σ g) v :=
  r_ext (σ := r_isReached_s (r_more_s (r_isReached_s σ f) v) g) (τ := r_more_s (r_isReached_s σ g) v)
    (by simp only [Rp_manner_isReached, Rp_manner_more])
    (by simp only [Rp_fault_isReached, Rp_fault_more])
    (by simp only [Rp_things_isReached, Rp_things_more])
    (by simp only [Rp_many_isReached, Rp_many_more])
    (by simp only [Rp_field_isReached, Rp_field_more])
    (by simp only [Rp_place_isReached, Rp_place_more])
    (by simp only [Rp_colour_isReached, Rp_colour_more])
    (by simp only [Rp_isFreed_isReached, Rp_isFreed_more])
    (by simp only [Rp_hasWish_isReached, Rp_hasWish_more])
    (by simp only [Rp_moved_isReached, Rp_moved_more])
    (by simp only [Rp_register_isReached, Rp_register_more])
    (by simp only [Rp_slot_isReached, Rp_slot_more])
    (by simp only [Rp_wishes_isReached, Rp_wishes_more])
    (by simp only [Rp_wishAt_isReached, Rp_wishAt_more])
    (by simp only [Rp_weakAt_isReached, Rp_weakAt_more])
    (by simp only [Rp_pairs_isReached, Rp_pairs_more])
    (by simp only [Rp_key_isReached, Rp_key_more])
    (by simp only [Rp_value_isReached, Rp_value_more])
    (by simp only [Rp_isPair_isReached, Rp_isPair_more])
    (by simp only [Rp_half_isReached, Rp_half_more])
    (by simp only [Rp_top_isReached, Rp_top_more])
    (by simp only [Rp_way_isReached, Rp_way_more])
    (by simp only [Rp_next_isReached, Rp_next_more])
    (by simp only [Rp_freedMany_isReached, Rp_freedMany_more])
    (by simp only [Rp_rounds_isReached, Rp_rounds_more])
    (by simp only [Rp_steps_isReached, Rp_steps_more])
    (by simp only [Rp_shaded_isReached, Rp_shaded_more])
    (by simp only [Rp_movedMany_isReached, Rp_movedMany_more])
    (by simp only [Rp_isReached_isReached, Rp_isReached_more])
    (by simp only [Rp_more_isReached, Rp_more_more])
theorem more_2 (σ : RSt) (v : Int32) (w : Int32) : r_more_s (r_more_s σ v) w = r_more_s σ w :=
  r_ext (σ := r_more_s (r_more_s σ v) w) (τ := r_more_s σ w)
    (by simp only [Rp_manner_more])
    (by simp only [Rp_fault_more])
    (by simp only [Rp_things_more])
    (by simp only [Rp_many_more])
    (by simp only [Rp_field_more])
    (by simp only [Rp_place_more])
    (by simp only [Rp_colour_more])
    (by simp only [Rp_isFreed_more])
    (by simp only [Rp_hasWish_more])
    (by simp only [Rp_moved_more])
    (by simp only [Rp_register_more])
    (by simp only [Rp_slot_more])
    (by simp only [Rp_wishes_more])
    (by simp only [Rp_wishAt_more])
    (by simp only [Rp_weakAt_more])
    (by simp only [Rp_pairs_more])
    (by simp only [Rp_key_more])
    (by simp only [Rp_value_more])
    (by simp only [Rp_isPair_more])
    (by simp only [Rp_half_more])
    (by simp only [Rp_top_more])
    (by simp only [Rp_way_more])
    (by simp only [Rp_next_more])
    (by simp only [Rp_freedMany_more])
    (by simp only [Rp_rounds_more])
    (by simp only [Rp_steps_more])
    (by simp only [Rp_shaded_more])
    (by simp only [Rp_movedMany_more])
    (by simp only [Rp_isReached_more])
    (by simp only [Rp_more_more])
theorem found_2 (σ : CSt) (f : (Nat → Int32)) (g : (Nat → Int32)) : c_found_s (c_found_s σ f) g = c_found_s σ g :=
  c_ext (σ := c_found_s (c_found_s σ f) g) (τ := c_found_s σ g)
    (by simp only [Cp_manner_found])
    (by simp only [Cp_fault_found])
    (by simp only [Cp_under_found])
    (by simp only [Cp_nextS_found])
    (by simp only [Cp_rounds_found])
    (by simp only [Cp_steps_found])
    (by simp only [Cp_shaded_found])
    (by simp only [Cp_moved_found])
    (by simp only [Cp_tmade_found])
    (by simp only [Cp_sizes_found])
    (by simp only [Cp_places_found])
    (by simp only [Cp_colours_found])
    (by simp only [Cp_moves_found])
    (by simp only [Cp_freed_found])
    (by simp only [Cp_wishing_found])
    (by simp only [Cp_theld_found])
    (by simp only [Cp_cmap_found])
    (by simp only [Cp_halfEnd_found])
    (by simp only [Cp_behind_found])
    (by simp only [Cp_hheld_found])
    (by simp only [Cp_named_found])
    (by simp only [Cp_wishes_found])
    (by simp only [Cp_pmade_found])
    (by simp only [Cp_keys_found])
    (by simp only [Cp_values_found])
    (by simp only [Cp_found_found])
    (by simp only [Cp_order_found])
    (by simp only [Cp_rcount_found])
theorem find_2 (σ : CSt) (f : (Nat → Int32)) (o : (Nat → Int32)) (m : Int32) (g : (Nat → Int32)) (p : (Nat → Int32)) (k : Int32) : c_rcount_s (c_order_s (c_found_s (c_rcount_s (c_order_s (c_found_s σ f) o) m) g) p) k = c_rcount_s (c_order_s (c_found_s σ g) p) k :=
  c_ext (σ := c_rcount_s (c_order_s (c_found_s (c_rcount_s (c_order_s (c_found_s σ f) o) m) g) p) k) (τ := c_rcount_s (c_order_s (c_found_s σ g) p) k)
    (by simp only [Cp_manner_found, Cp_manner_order, Cp_manner_rcount])
    (by simp only [Cp_fault_found, Cp_fault_order, Cp_fault_rcount])
    (by simp only [Cp_under_found, Cp_under_order, Cp_under_rcount])
    (by simp only [Cp_nextS_found, Cp_nextS_order, Cp_nextS_rcount])
    (by simp only [Cp_rounds_found, Cp_rounds_order, Cp_rounds_rcount])
    (by simp only [Cp_steps_found, Cp_steps_order, Cp_steps_rcount])
    (by simp only [Cp_shaded_found, Cp_shaded_order, Cp_shaded_rcount])
    (by simp only [Cp_moved_found, Cp_moved_order, Cp_moved_rcount])
    (by simp only [Cp_tmade_found, Cp_tmade_order, Cp_tmade_rcount])
    (by simp only [Cp_sizes_found, Cp_sizes_order, Cp_sizes_rcount])
    (by simp only [Cp_places_found, Cp_places_order, Cp_places_rcount])
    (by simp only [Cp_colours_found, Cp_colours_order, Cp_colours_rcount])
    (by simp only [Cp_moves_found, Cp_moves_order, Cp_moves_rcount])
    (by simp only [Cp_freed_found, Cp_freed_order, Cp_freed_rcount])
    (by simp only [Cp_wishing_found, Cp_wishing_order, Cp_wishing_rcount])
    (by simp only [Cp_theld_found, Cp_theld_order, Cp_theld_rcount])
    (by simp only [Cp_cmap_found, Cp_cmap_order, Cp_cmap_rcount])
    (by simp only [Cp_halfEnd_found, Cp_halfEnd_order, Cp_halfEnd_rcount])
    (by simp only [Cp_behind_found, Cp_behind_order, Cp_behind_rcount])
    (by simp only [Cp_hheld_found, Cp_hheld_order, Cp_hheld_rcount])
    (by simp only [Cp_named_found, Cp_named_order, Cp_named_rcount])
    (by simp only [Cp_wishes_found, Cp_wishes_order, Cp_wishes_rcount])
    (by simp only [Cp_pmade_found, Cp_pmade_order, Cp_pmade_rcount])
    (by simp only [Cp_keys_found, Cp_keys_order, Cp_keys_rcount])
    (by simp only [Cp_values_found, Cp_values_order, Cp_values_rcount])
    (by simp only [Cp_found_found, Cp_found_order, Cp_found_rcount])
    (by simp only [Cp_order_found, Cp_order_order, Cp_order_rcount])
    (by simp only [Cp_rcount_found, Cp_rcount_order, Cp_rcount_rcount])
theorem isReached_id (σ : RSt) : r_isReached_s σ (r_isReached σ) = σ := rfl
theorem more_id (σ : RSt) : r_more_s σ (r_more σ) = σ := rfl
theorem order_id (c : CSt) : c_order_s c (c_order c) = c := rfl
theorem found_id (c : CSt) : c_found_s c (c_found c) = c := rfl
def St (σ : RSt) (f : Nat → Int32) (v : Int32) : RSt := r_more_s (r_isReached_s σ f) v
def S5 (c : CSt) (f o : Nat → Int32) (m : Int32) : CSt := c_rcount_s (c_order_s (c_found_s c f) o) m
theorem st_manner (σ : RSt) (f : Nat → Int32) (v : Int32) : r_manner (St σ f v) = r_manner σ := by
  unfold St
  rw [Rp_manner_more, Rp_manner_isReached]
theorem st_fault (σ : RSt) (f : Nat → Int32) (v : Int32) : r_fault (St σ f v) = r_fault σ := by
  unfold St
  rw [Rp_fault_more, Rp_fault_isReached]
theorem st_things (σ : RSt) (f : Nat → Int32) (v : Int32) : r_things (St σ f v) = r_things σ := by
  unfold St
  rw [Rp_things_more, Rp_things_isReached]
theorem st_many (σ : RSt) (f : Nat → Int32) (v : Int32) : r_many (St σ f v) = r_many σ := by
  unfold St
  rw [Rp_many_more, Rp_many_isReached]
theorem st_field (σ : RSt) (f : Nat → Int32) (v : Int32) : r_field (St σ f v) = r_field σ := by
  unfold St
  rw [Rp_field_more, Rp_field_isReached]
theorem st_place (σ : RSt) (f : Nat → Int32) (v : Int32) : r_place (St σ f v) = r_place σ := by
  unfold St
  rw [Rp_place_more, Rp_place_isReached]
theorem st_colour (σ : RSt) (f : Nat → Int32) (v : Int32) : r_colour (St σ f v) = r_colour σ := by
  unfold St
  rw [Rp_colour_more, Rp_colour_isReached]
theorem st_isFreed (σ : RSt) (f : Nat → Int32) (v : Int32) : r_isFreed (St σ f v) = r_isFreed σ := by
  unfold St
  rw [Rp_isFreed_more, Rp_isFreed_isReached]
theorem st_hasWish (σ : RSt) (f : Nat → Int32) (v : Int32) : r_hasWish (St σ f v) = r_hasWish σ := by
  unfold St
  rw [Rp_hasWish_more, Rp_hasWish_isReached]
theorem st_moved (σ : RSt) (f : Nat → Int32) (v : Int32) : r_moved (St σ f v) = r_moved σ := by
  unfold St
  rw [Rp_moved_more, Rp_moved_isReached]
theorem st_register (σ : RSt) (f : Nat → Int32) (v : Int32) : r_register (St σ f v) = r_register σ := by
  unfold St
  rw [Rp_register_more, Rp_register_isReached]
theorem st_slot (σ : RSt) (f : Nat → Int32) (v : Int32) : r_slot (St σ f v) = r_slot σ := by
  unfold St
  rw [Rp_slot_more, Rp_slot_isReached]
theorem st_wishes (σ : RSt) (f : Nat → Int32) (v : Int32) : r_wishes (St σ f v) = r_wishes σ := by
  unfold St
  rw [Rp_wishes_more, Rp_wishes_isReached]
theorem st_wishAt (σ : RSt) (f : Nat → Int32) (v : Int32) : r_wishAt (St σ f v) = r_wishAt σ := by
  unfold St
  rw [Rp_wishAt_more, Rp_wishAt_isReached]
theorem st_weakAt (σ : RSt) (f : Nat → Int32) (v : Int32) : r_weakAt (St σ f v) = r_weakAt σ := by
  unfold St
  rw [Rp_weakAt_more, Rp_weakAt_isReached]
theorem st_pairs (σ : RSt) (f : Nat → Int32) (v : Int32) : r_pairs (St σ f v) = r_pairs σ := by
  unfold St
  rw [Rp_pairs_more, Rp_pairs_isReached]
theorem st_key (σ : RSt) (f : Nat → Int32) (v : Int32) : r_key (St σ f v) = r_key σ := by
  unfold St
  rw [Rp_key_more, Rp_key_isReached]
theorem st_value (σ : RSt) (f : Nat → Int32) (v : Int32) : r_value (St σ f v) = r_value σ := by
  unfold St
  rw [Rp_value_more, Rp_value_isReached]
theorem st_isPair (σ : RSt) (f : Nat → Int32) (v : Int32) : r_isPair (St σ f v) = r_isPair σ := by
  unfold St
  rw [Rp_isPair_more, Rp_isPair_isReached]
theorem st_half (σ : RSt) (f : Nat → Int32) (v : Int32) : r_half (St σ f v) = r_half σ := by
  unfold St
  rw [Rp_half_more, Rp_half_isReached]
theorem st_top (σ : RSt) (f : Nat → Int32) (v : Int32) : r_top (St σ f v) = r_top σ := by
  unfold St
  rw [Rp_top_more, Rp_top_isReached]
theorem st_way (σ : RSt) (f : Nat → Int32) (v : Int32) : r_way (St σ f v) = r_way σ := by
  unfold St
  rw [Rp_way_more, Rp_way_isReached]
theorem st_next (σ : RSt) (f : Nat → Int32) (v : Int32) : r_next (St σ f v) = r_next σ := by
  unfold St
  rw [Rp_next_more, Rp_next_isReached]
theorem st_freedMany (σ : RSt) (f : Nat → Int32) (v : Int32) : r_freedMany (St σ f v) = r_freedMany σ := by
  unfold St
  rw [Rp_freedMany_more, Rp_freedMany_isReached]
theorem st_rounds (σ : RSt) (f : Nat → Int32) (v : Int32) : r_rounds (St σ f v) = r_rounds σ := by
  unfold St
  rw [Rp_rounds_more, Rp_rounds_isReached]
theorem st_steps (σ : RSt) (f : Nat → Int32) (v : Int32) : r_steps (St σ f v) = r_steps σ := by
  unfold St
  rw [Rp_steps_more, Rp_steps_isReached]
theorem st_shaded (σ : RSt) (f : Nat → Int32) (v : Int32) : r_shaded (St σ f v) = r_shaded σ := by
  unfold St
  rw [Rp_shaded_more, Rp_shaded_isReached]
theorem st_movedMany (σ : RSt) (f : Nat → Int32) (v : Int32) : r_movedMany (St σ f v) = r_movedMany σ := by
  unfold St
  rw [Rp_movedMany_more, Rp_movedMany_isReached]
theorem st_isReached (σ : RSt) (f : Nat → Int32) (v : Int32) : r_isReached (St σ f v) = f := by
  unfold St
  rw [Rp_isReached_more, Rp_isReached_isReached]
theorem st_more (σ : RSt) (f : Nat → Int32) (v : Int32) : r_more (St σ f v) = v := by
  unfold St
  rw [Rp_more_more]
theorem s5_manner (c : CSt) (f o : Nat → Int32) (m : Int32) : c_manner (S5 c f o m) = c_manner c := by
  unfold S5
  rw [Cp_manner_rcount, Cp_manner_order, Cp_manner_found]
theorem s5_fault (c : CSt) (f o : Nat → Int32) (m : Int32) : c_fault (S5 c f o m) = c_fault c := by
  unfold S5
  rw [Cp_fault_rcount, Cp_fault_order, Cp_fault_found]
theorem s5_under (c : CSt) (f o : Nat → Int32) (m : Int32) : c_under (S5 c f o m) = c_under c := by
  unfold S5
  rw [Cp_under_rcount, Cp_under_order, Cp_under_found]
theorem s5_nextS (c : CSt) (f o : Nat → Int32) (m : Int32) : c_nextS (S5 c f o m) = c_nextS c := by
  unfold S5
  rw [Cp_nextS_rcount, Cp_nextS_order, Cp_nextS_found]
theorem s5_rounds (c : CSt) (f o : Nat → Int32) (m : Int32) : c_rounds (S5 c f o m) = c_rounds c := by
  unfold S5
  rw [Cp_rounds_rcount, Cp_rounds_order, Cp_rounds_found]
theorem s5_steps (c : CSt) (f o : Nat → Int32) (m : Int32) : c_steps (S5 c f o m) = c_steps c := by
  unfold S5
  rw [Cp_steps_rcount, Cp_steps_order, Cp_steps_found]
theorem s5_shaded (c : CSt) (f o : Nat → Int32) (m : Int32) : c_shaded (S5 c f o m) = c_shaded c := by
  unfold S5
  rw [Cp_shaded_rcount, Cp_shaded_order, Cp_shaded_found]
theorem s5_moved (c : CSt) (f o : Nat → Int32) (m : Int32) : c_moved (S5 c f o m) = c_moved c := by
  unfold S5
  rw [Cp_moved_rcount, Cp_moved_order, Cp_moved_found]
theorem s5_tmade (c : CSt) (f o : Nat → Int32) (m : Int32) : c_tmade (S5 c f o m) = c_tmade c := by
  unfold S5
  rw [Cp_tmade_rcount, Cp_tmade_order, Cp_tmade_found]
theorem s5_sizes (c : CSt) (f o : Nat → Int32) (m : Int32) : c_sizes (S5 c f o m) = c_sizes c := by
  unfold S5
  rw [Cp_sizes_rcount, Cp_sizes_order, Cp_sizes_found]
theorem s5_places (c : CSt) (f o : Nat → Int32) (m : Int32) : c_places (S5 c f o m) = c_places c := by
  unfold S5
  rw [Cp_places_rcount, Cp_places_order, Cp_places_found]
theorem s5_colours (c : CSt) (f o : Nat → Int32) (m : Int32) : c_colours (S5 c f o m) = c_colours c := by
  unfold S5
  rw [Cp_colours_rcount, Cp_colours_order, Cp_colours_found]
theorem s5_moves (c : CSt) (f o : Nat → Int32) (m : Int32) : c_moves (S5 c f o m) = c_moves c := by
  unfold S5
  rw [Cp_moves_rcount, Cp_moves_order, Cp_moves_found]
theorem s5_freed (c : CSt) (f o : Nat → Int32) (m : Int32) : c_freed (S5 c f o m) = c_freed c := by
  unfold S5
  rw [Cp_freed_rcount, Cp_freed_order, Cp_freed_found]
theorem s5_wishing (c : CSt) (f o : Nat → Int32) (m : Int32) : c_wishing (S5 c f o m) = c_wishing c := by
  unfold S5
  rw [Cp_wishing_rcount, Cp_wishing_order, Cp_wishing_found]
theorem s5_theld (c : CSt) (f o : Nat → Int32) (m : Int32) : c_theld (S5 c f o m) = c_theld c := by
  unfold S5
  rw [Cp_theld_rcount, Cp_theld_order, Cp_theld_found]
theorem s5_cmap (c : CSt) (f o : Nat → Int32) (m : Int32) : c_cmap (S5 c f o m) = c_cmap c := by
  unfold S5
  rw [Cp_cmap_rcount, Cp_cmap_order, Cp_cmap_found]
theorem s5_halfEnd (c : CSt) (f o : Nat → Int32) (m : Int32) : c_halfEnd (S5 c f o m) = c_halfEnd c := by
  unfold S5
  rw [Cp_halfEnd_rcount, Cp_halfEnd_order, Cp_halfEnd_found]
theorem s5_behind (c : CSt) (f o : Nat → Int32) (m : Int32) : c_behind (S5 c f o m) = c_behind c := by
  unfold S5
  rw [Cp_behind_rcount, Cp_behind_order, Cp_behind_found]
theorem s5_hheld (c : CSt) (f o : Nat → Int32) (m : Int32) : c_hheld (S5 c f o m) = c_hheld c := by
  unfold S5
  rw [Cp_hheld_rcount, Cp_hheld_order, Cp_hheld_found]
theorem s5_named (c : CSt) (f o : Nat → Int32) (m : Int32) : c_named (S5 c f o m) = c_named c := by
  unfold S5
  rw [Cp_named_rcount, Cp_named_order, Cp_named_found]
theorem s5_wishes (c : CSt) (f o : Nat → Int32) (m : Int32) : c_wishes (S5 c f o m) = c_wishes c := by
  unfold S5
  rw [Cp_wishes_rcount, Cp_wishes_order, Cp_wishes_found]
theorem s5_pmade (c : CSt) (f o : Nat → Int32) (m : Int32) : c_pmade (S5 c f o m) = c_pmade c := by
  unfold S5
  rw [Cp_pmade_rcount, Cp_pmade_order, Cp_pmade_found]
theorem s5_keys (c : CSt) (f o : Nat → Int32) (m : Int32) : c_keys (S5 c f o m) = c_keys c := by
  unfold S5
  rw [Cp_keys_rcount, Cp_keys_order, Cp_keys_found]
theorem s5_values (c : CSt) (f o : Nat → Int32) (m : Int32) : c_values (S5 c f o m) = c_values c := by
  unfold S5
  rw [Cp_values_rcount, Cp_values_order, Cp_values_found]
theorem s5_found (c : CSt) (f o : Nat → Int32) (m : Int32) : c_found (S5 c f o m) = f := by
  unfold S5
  rw [Cp_found_rcount, Cp_found_order, Cp_found_found]
theorem s5_order (c : CSt) (f o : Nat → Int32) (m : Int32) : c_order (S5 c f o m) = o := by
  unfold S5
  rw [Cp_order_rcount, Cp_order_order]
theorem s5_rcount (c : CSt) (f o : Nat → Int32) (m : Int32) : c_rcount (S5 c f o m) = m := by
  unfold S5
  rw [Cp_rcount_rcount]
