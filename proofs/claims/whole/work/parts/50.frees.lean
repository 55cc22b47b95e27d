/-! PURE, part 50: states by their components; setters that commute -/
theorem r_eta (σ : RSt) : σ = (r_manner σ, r_fault σ, r_things σ, r_many σ, r_field σ, r_place σ, r_colour σ, r_isFreed σ, r_hasWish σ, r_moved σ, r_register σ, r_slot σ, r_wishes σ, r_wishAt σ, r_weakAt σ, r_pairs σ, r_key σ, r_value σ, r_isPair σ, r_half σ, r_top σ, r_way σ, r_next σ, r_freedMany σ, r_rounds σ, r_steps σ, r_shaded σ, r_movedMany σ, r_isReached σ, r_more σ) := rfl
theorem r_ext {σ τ : RSt} (h0 : r_manner σ = r_manner τ) (h1 : r_fault σ = r_fault τ) (h2 : r_things σ = r_things τ) (h3 : r_many σ = r_many τ) (h4 : r_field σ = r_field τ) (h5 : r_place σ = r_place τ) (h6 : r_colour σ = r_colour τ) (h7 : r_isFreed σ = r_isFreed τ) (h8 : r_hasWish σ = r_hasWish τ) (h9 : r_moved σ = r_moved τ) (h10 : r_register σ = r_register τ) (h11 : r_slot σ = r_slot τ) (h12 : r_wishes σ = r_wishes τ) (h13 : r_wishAt σ = r_wishAt τ) (h14 : r_weakAt σ = r_weakAt τ) (h15 : r_pairs σ = r_pairs τ) (h16 : r_key σ = r_key τ) (h17 : r_value σ = r_value τ) (h18 : r_isPair σ = r_isPair τ) (h19 : r_half σ = r_half τ) (h20 : r_top σ = r_top τ) (h21 : r_way σ = r_way τ) (h22 : r_next σ = r_next τ) (h23 : r_freedMany σ = r_freedMany τ) (h24 : r_rounds σ = r_rounds τ) (h25 : r_steps σ = r_steps τ) (h26 : r_shaded σ = r_shaded τ) (h27 : r_movedMany σ = r_movedMany τ) (h28 : r_isReached σ = r_isReached τ) (h29 : r_more σ = r_more τ) : σ = τ := (r_eta σ).trans ((by rw [h0, h1, h2, h3, h4, h5, h6, h7, h8, h9, h10, h11, h12, h13, h14, h15, h16, h17, h18, h19, h20, h21, h22, h23, h24, h25, h26, h27, h28, h29] : ((r_manner σ, r_fault σ, r_things σ, r_many σ, r_field σ, r_place σ, r_colour σ, r_isFreed σ, r_hasWish σ, r_moved σ, r_register σ, r_slot σ, r_wishes σ, r_wishAt σ, r_weakAt σ, r_pairs σ, r_key σ, r_value σ, r_isPair σ, r_half σ, r_top σ, r_way σ, r_next σ, r_freedMany σ, r_rounds σ, r_steps σ, r_shaded σ, r_movedMany σ, r_isReached σ, r_more σ) : RSt) = (r_manner τ, r_fault τ, r_things τ, r_many τ, r_field τ, r_place τ, r_colour τ, r_isFreed τ, r_hasWish τ, r_moved τ, r_register τ, r_slot τ, r_wishes τ, r_wishAt τ, r_weakAt τ, r_pairs τ, r_key τ, r_value τ, r_isPair τ, r_half τ, r_top τ, r_way τ, r_next τ, r_freedMany τ, r_rounds τ, r_steps τ, r_shaded τ, r_movedMany τ, r_isReached τ, r_more τ)).trans (r_eta τ).symm)
theorem c_eta (σ : CSt) : σ = (c_manner σ, c_fault σ, c_under σ, c_nextS σ, c_rounds σ, c_steps σ, c_shaded σ, c_moved σ, c_tmade σ, c_sizes σ, c_places σ, c_colours σ, c_moves σ, c_freed σ, c_wishing σ, c_theld σ, c_cmap σ, c_halfEnd σ, c_behind σ, c_hheld σ, c_named σ, c_wishes σ, c_pmade σ, c_keys σ, c_values σ, c_found σ, c_order σ, c_rcount σ) := rfl
theorem c_ext {σ τ : CSt} (h0 : c_manner σ = c_manner τ) (h1 : c_fault σ = c_fault τ) (h2 : c_under σ = c_under τ) (h3 : c_nextS σ = c_nextS τ) (h4 : c_rounds σ = c_rounds τ) (h5 : c_steps σ = c_steps τ) (h6 : c_shaded σ = c_shaded τ) (h7 : c_moved σ = c_moved τ) (h8 : c_tmade σ = c_tmade τ) (h9 : c_sizes σ = c_sizes τ) (h10 : c_places σ = c_places τ) (h11 : c_colours σ = c_colours τ) (h12 : c_moves σ = c_moves τ) (h13 : c_freed σ = c_freed τ) (h14 : c_wishing σ = c_wishing τ) (h15 : c_theld σ = c_theld τ) (h16 : c_cmap σ = c_cmap τ) (h17 : c_halfEnd σ = c_halfEnd τ) (h18 : c_behind σ = c_behind τ) (h19 : c_hheld σ = c_hheld τ) (h20 : c_named σ = c_named τ) (h21 : c_wishes σ = c_wishes τ) (h22 : c_pmade σ = c_pmade τ) (h23 : c_keys σ = c_keys τ) (h24 : c_values σ = c_values τ) (h25 : c_found σ = c_found τ) (h26 : c_order σ = c_order τ) (h27 : c_rcount σ = c_rcount τ) : σ = τ := (c_eta σ).trans ((by rw [h0, h1, h2, h3, h4, h5, h6, h7, h8, h9, h10, h11, h12, h13, h14, h15, h16, h17, h18, h19, h20, h21, h22, h23, h24, h25, h26, h27] : ((c_manner σ, c_fault σ, c_under σ, c_nextS σ, c_rounds σ, c_steps σ, c_shaded σ, c_moved σ, c_tmade σ, c_sizes σ, c_places σ, c_colours σ, c_moves σ, c_freed σ, c_wishing σ, c_theld σ, c_cmap σ, c_halfEnd σ, c_behind σ, c_hheld σ, c_named σ, c_wishes σ, c_pmade σ, c_keys σ, c_values σ, c_found σ, c_order σ, c_rcount σ) : CSt) = (c_manner τ, c_fault τ, c_under τ, c_nextS τ, c_rounds τ, c_steps τ, c_shaded τ, c_moved τ, c_tmade τ, c_sizes τ, c_places τ, c_colours τ, c_moves τ, c_freed τ, c_wishing τ, c_theld τ, c_cmap τ, c_halfEnd τ, c_behind τ, c_hheld τ, c_named τ, c_wishes τ, c_pmade τ, c_keys τ, c_values τ, c_found τ, c_order τ, c_rcount τ)).trans (c_eta τ).symm)
theorem Rp_manner_manner (σ : RSt) (v : Int32) : r_manner (r_manner_s σ v) = v := Eq.trans rfl rfl
theorem Rp_fault_manner (σ : RSt) (v : Int32) : r_fault (r_manner_s σ v) = r_fault σ := Eq.trans rfl rfl
theorem Rp_things_manner (σ : RSt) (v : Int32) : r_things (r_manner_s σ v) = r_things σ := Eq.trans rfl rfl
theorem Rp_many_manner (σ : RSt) (v : Int32) : r_many (r_manner_s σ v) = r_many σ := Eq.trans rfl rfl
theorem Rp_field_manner (σ : RSt) (v : Int32) : r_field (r_manner_s σ v) = r_field σ := Eq.trans rfl rfl
theorem Rp_place_manner (σ : RSt) (v : Int32) : r_place (r_manner_s σ v) = r_place σ := Eq.trans rfl rfl
theorem Rp_colour_manner (σ : RSt) (v : Int32) : r_colour (r_manner_s σ v) = r_colour σ := Eq.trans rfl rfl
theorem Rp_isFreed_manner (σ : RSt) (v : Int32) : r_isFreed (r_manner_s σ v) = r_isFreed σ := Eq.trans rfl rfl
theorem Rp_hasWish_manner (σ : RSt) (v : Int32) : r_hasWish (r_manner_s σ v) = r_hasWish σ := Eq.trans rfl rfl
theorem Rp_moved_manner (σ : RSt) (v : Int32) : r_moved (r_manner_s σ v) = r_moved σ := Eq.trans rfl rfl
theorem Rp_register_manner (σ : RSt) (v : Int32) : r_register (r_manner_s σ v) = r_register σ := Eq.trans rfl rfl
theorem Rp_slot_manner (σ : RSt) (v : Int32) : r_slot (r_manner_s σ v) = r_slot σ := Eq.trans rfl rfl
theorem Rp_wishes_manner (σ : RSt) (v : Int32) : r_wishes (r_manner_s σ v) = r_wishes σ := Eq.trans rfl rfl
theorem Rp_wishAt_manner (σ : RSt) (v : Int32) : r_wishAt (r_manner_s σ v) = r_wishAt σ := Eq.trans rfl rfl
theorem Rp_weakAt_manner (σ : RSt) (v : Int32) : r_weakAt (r_manner_s σ v) = r_weakAt σ := Eq.trans rfl rfl
theorem Rp_pairs_manner (σ : RSt) (v : Int32) : r_pairs (r_manner_s σ v) = r_pairs σ := Eq.trans rfl rfl
theorem Rp_key_manner (σ : RSt) (v : Int32) : r_key (r_manner_s σ v) = r_key σ := Eq.trans rfl rfl
theorem Rp_value_manner (σ : RSt) (v : Int32) : r_value (r_manner_s σ v) = r_value σ := Eq.trans rfl rfl
theorem Rp_isPair_manner (σ : RSt) (v : Int32) : r_isPair (r_manner_s σ v) = r_isPair σ := Eq.trans rfl rfl
theorem Rp_half_manner (σ : RSt) (v : Int32) : r_half (r_manner_s σ v) = r_half σ := Eq.trans rfl rfl
theorem Rp_top_manner (σ : RSt) (v : Int32) : r_top (r_manner_s σ v) = r_top σ := Eq.trans rfl rfl
theorem Rp_way_manner (σ : RSt) (v : Int32) : r_way (r_manner_s σ v) = r_way σ := Eq.trans rfl rfl
theorem Rp_next_manner (σ : RSt) (v : Int32) : r_next (r_manner_s σ v) = r_next σ := Eq.trans rfl rfl
theorem Rp_freedMany_manner (σ : RSt) (v : Int32) : r_freedMany (r_manner_s σ v) = r_freedMany σ := Eq.trans rfl rfl
theorem Rp_rounds_manner (σ : RSt) (v : Int32) : r_rounds (r_manner_s σ v) = r_rounds σ := Eq.trans rfl rfl
theorem Rp_steps_manner (σ : RSt) (v : Int32) : r_steps (r_manner_s σ v) = r_steps σ := Eq.trans rfl rfl
theorem Rp_shaded_manner (σ : RSt) (v : Int32) : r_shaded (r_manner_s σ v) = r_shaded σ := Eq.trans rfl rfl
theorem Rp_movedMany_manner (σ : RSt) (v : Int32) : r_movedMany (r_manner_s σ v) = r_movedMany σ := Eq.trans rfl rfl
theorem Rp_isReached_manner (σ : RSt) (v : Int32) : r_isReached (r_manner_s σ v) = r_isReached σ := Eq.trans rfl rfl
theorem Rp_more_manner (σ : RSt) (v : Int32) : r_more (r_manner_s σ v) = r_more σ := Eq.trans rfl rfl
theorem Rp_manner_fault (σ : RSt) (v : Int32) : r_manner (r_fault_s σ v) = r_manner σ := Eq.trans rfl rfl
theorem Rp_fault_fault (σ : RSt) (v : Int32) : r_fault (r_fault_s σ v) = v := Eq.trans rfl rfl
theorem Rp_things_fault (σ : RSt) (v : Int32) : r_things (r_fault_s σ v) = r_things σ := Eq.trans rfl rfl
theorem Rp_many_fault (σ : RSt) (v : Int32) : r_many (r_fault_s σ v) = r_many σ := Eq.trans rfl rfl
theorem Rp_field_fault (σ : RSt) (v : Int32) : r_field (r_fault_s σ v) = r_field σ := Eq.trans rfl rfl
theorem Rp_place_fault (σ : RSt) (v : Int32) : r_place (r_fault_s σ v) = r_place σ := Eq.trans rfl rfl
theorem Rp_colour_fault (σ : RSt) (v : Int32) : r_colour (r_fault_s σ v) = r_colour σ := Eq.trans rfl rfl
theorem Rp_isFreed_fault (σ : RSt) (v : Int32) : r_isFreed (r_fault_s σ v) = r_isFreed σ := Eq.trans rfl rfl
theorem Rp_hasWish_fault (σ : RSt) (v : Int32) : r_hasWish (r_fault_s σ v) = r_hasWish σ := Eq.trans rfl rfl
theorem Rp_moved_fault (σ : RSt) (v : Int32) : r_moved (r_fault_s σ v) = r_moved σ := Eq.trans rfl rfl
theorem Rp_register_fault (σ : RSt) (v : Int32) : r_register (r_fault_s σ v) = r_register σ := Eq.trans rfl rfl
theorem Rp_slot_fault (σ : RSt) (v : Int32) : r_slot (r_fault_s σ v) = r_slot σ := Eq.trans rfl rfl
theorem Rp_wishes_fault (σ : RSt) (v : Int32) : r_wishes (r_fault_s σ v) = r_wishes σ := Eq.trans rfl rfl
theorem Rp_wishAt_fault (σ : RSt) (v : Int32) : r_wishAt (r_fault_s σ v) = r_wishAt σ := Eq.trans rfl rfl
theorem Rp_weakAt_fault (σ : RSt) (v : Int32) : r_weakAt (r_fault_s σ v) = r_weakAt σ := Eq.trans rfl rfl
theorem Rp_pairs_fault (σ : RSt) (v : Int32) : r_pairs (r_fault_s σ v) = r_pairs σ := Eq.trans rfl rfl
theorem Rp_key_fault (σ : RSt) (v : Int32) : r_key (r_fault_s σ v) = r_key σ := Eq.trans rfl rfl
theorem Rp_value_fault (σ : RSt) (v : Int32) : r_value (r_fault_s σ v) = r_value σ := Eq.trans rfl rfl
theorem Rp_isPair_fault (σ : RSt) (v : Int32) : r_isPair (r_fault_s σ v) = r_isPair σ := Eq.trans rfl rfl
theorem Rp_half_fault (σ : RSt) (v : Int32) : r_half (r_fault_s σ v) = r_half σ := Eq.trans rfl rfl
theorem Rp_top_fault (σ : RSt) (v : Int32) : r_top (r_fault_s σ v) = r_top σ := Eq.trans rfl rfl
theorem Rp_way_fault (σ : RSt) (v : Int32) : r_way (r_fault_s σ v) = r_way σ := Eq.trans rfl rfl
theorem Rp_next_fault (σ : RSt) (v : Int32) : r_next (r_fault_s σ v) = r_next σ := Eq.trans rfl rfl
theorem Rp_freedMany_fault (σ : RSt) (v : Int32) : r_freedMany (r_fault_s σ v) = r_freedMany σ := Eq.trans rfl rfl
theorem Rp_rounds_fault (σ : RSt) (v : Int32) : r_rounds (r_fault_s σ v) = r_rounds σ := Eq.trans rfl rfl
theorem Rp_steps_fault (σ : RSt) (v : Int32) : r_steps (r_fault_s σ v) = r_steps σ := Eq.trans rfl rfl
theorem Rp_shaded_fault (σ : RSt) (v : Int32) : r_shaded (r_fault_s σ v) = r_shaded σ := Eq.trans rfl rfl
theorem Rp_movedMany_fault (σ : RSt) (v : Int32) : r_movedMany (r_fault_s σ v) = r_movedMany σ := Eq.trans rfl rfl
theorem Rp_isReached_fault (σ : RSt) (v : Int32) : r_isReached (r_fault_s σ v) = r_isReached σ := Eq.trans rfl rfl
theorem Rp_more_fault (σ : RSt) (v : Int32) : r_more (r_fault_s σ v) = r_more σ := Eq.trans rfl rfl
theorem Rp_manner_things (σ : RSt) (v : Int32) : r_manner (r_things_s σ v) = r_manner σ := Eq.trans rfl rfl
theorem Rp_fault_things (σ : RSt) (v : Int32) : r_fault (r_things_s σ v) = r_fault σ := Eq.trans rfl rfl
theorem Rp_things_things (σ : RSt) (v : Int32) : r_things (r_things_s σ v) = v := Eq.trans rfl rfl
theorem Rp_many_things (σ : RSt) (v : Int32) : r_many (r_things_s σ v) = r_many σ := Eq.trans rfl rfl
theorem Rp_field_things (σ : RSt) (v : Int32) : r_field (r_things_s σ v) = r_field σ := Eq.trans rfl rfl
theorem Rp_place_things (σ : RSt) (v : Int32) : r_place (r_things_s σ v) = r_place σ := Eq.trans rfl rfl
theorem Rp_colour_things (σ : RSt) (v : Int32) : r_colour (r_things_s σ v) = r_colour σ := Eq.trans rfl rfl
theorem Rp_isFreed_things (σ : RSt) (v : Int32) : r_isFreed (r_things_s σ v) = r_isFreed σ := Eq.trans rfl rfl
theorem Rp_hasWish_things (σ : RSt) (v : Int32) : r_hasWish (r_things_s σ v) = r_hasWish σ := Eq.trans rfl rfl
theorem Rp_moved_things (σ : RSt) (v : Int32) : r_moved (r_things_s σ v) = r_moved σ := Eq.trans rfl rfl
theorem Rp_register_things (σ : RSt) (v : Int32) : r_register (r_things_s σ v) = r_register σ := Eq.trans rfl rfl
theorem Rp_slot_things (σ : RSt) (v : Int32) : r_slot (r_things_s σ v) = r_slot σ := Eq.trans rfl rfl
theorem Rp_wishes_things (σ : RSt) (v : Int32) : r_wishes (r_things_s σ v) = r_wishes σ := Eq.trans rfl rfl
theorem Rp_wishAt_things (σ : RSt) (v : Int32) : r_wishAt (r_things_s σ v) = r_wishAt σ := Eq.trans rfl rfl
theorem Rp_weakAt_things (σ : RSt) (v : Int32) : r_weakAt (r_things_s σ v) = r_weakAt σ := Eq.trans rfl rfl
theorem Rp_pairs_things (σ : RSt) (v : Int32) : r_pairs (r_things_s σ v) = r_pairs σ := Eq.trans rfl rfl
theorem Rp_key_things (σ : RSt) (v : Int32) : r_key (r_things_s σ v) = r_key σ := Eq.trans rfl rfl
theorem Rp_value_things (σ : RSt) (v : Int32) : r_value (r_things_s σ v) = r_value σ := Eq.trans rfl rfl
theorem Rp_isPair_things (σ : RSt) (v : Int32) : r_isPair (r_things_s σ v) = r_isPair σ := Eq.trans rfl rfl
theorem Rp_half_things (σ : RSt) (v : Int32) : r_half (r_things_s σ v) = r_half σ := Eq.trans rfl rfl
theorem Rp_top_things (σ : RSt) (v : Int32) : r_top (r_things_s σ v) = r_top σ := Eq.trans rfl rfl
theorem Rp_way_things (σ : RSt) (v : Int32) : r_way (r_things_s σ v) = r_way σ := Eq.trans rfl rfl
theorem Rp_next_things (σ : RSt) (v : Int32) : r_next (r_things_s σ v) = r_next σ := Eq.trans rfl rfl
theorem Rp_freedMany_things (σ : RSt) (v : Int32) : r_freedMany (r_things_s σ v) = r_freedMany σ := Eq.trans rfl rfl
theorem Rp_rounds_things (σ : RSt) (v : Int32) : r_rounds (r_things_s σ v) = r_rounds σ := Eq.trans rfl rfl
theorem Rp_steps_things (σ : RSt) (v : Int32) : r_steps (r_things_s σ v) = r_steps σ := Eq.trans rfl rfl
theorem Rp_shaded_things (σ : RSt) (v : Int32) : r_shaded (r_things_s σ v) = r_shaded σ := Eq.trans rfl rfl
theorem Rp_movedMany_things (σ : RSt) (v : Int32) : r_movedMany (r_things_s σ v) = r_movedMany σ := Eq.trans rfl rfl
theorem Rp_isReached_things (σ : RSt) (v : Int32) : r_isReached (r_things_s σ v) = r_isReached σ := Eq.trans rfl rfl
theorem Rp_more_things (σ : RSt) (v : Int32) : r_more (r_things_s σ v) = r_more σ := Eq.trans rfl rfl
theorem Rp_manner_many (σ : RSt) (v : (Nat → Int32)) : r_manner (r_many_s σ v) = r_manner σ := Eq.trans rfl rfl
theorem Rp_fault_many (σ : RSt) (v : (Nat → Int32)) : r_fault (r_many_s σ v) = r_fault σ := Eq.trans rfl rfl
theorem Rp_things_many (σ : RSt) (v : (Nat → Int32)) : r_things (r_many_s σ v) = r_things σ := Eq.trans rfl rfl
theorem Rp_many_many (σ : RSt) (v : (Nat → Int32)) : r_many (r_many_s σ v) = v := Eq.trans rfl rfl
theorem Rp_field_many (σ : RSt) (v : (Nat → Int32)) : r_field (r_many_s σ v) = r_field σ := Eq.trans rfl rfl
theorem Rp_place_many (σ : RSt) (v : (Nat → Int32)) : r_place (r_many_s σ v) = r_place σ := Eq.trans rfl rfl
theorem Rp_colour_many (σ : RSt) (v : (Nat → Int32)) : r_colour (r_many_s σ v) = r_colour σ := Eq.trans rfl rfl
theorem Rp_isFreed_many (σ : RSt) (v : (Nat → Int32)) : r_isFreed (r_many_s σ v) = r_isFreed σ := Eq.trans rfl rfl
theorem Rp_hasWish_many (σ : RSt) (v : (Nat → Int32)) : r_hasWish (r_many_s σ v) = r_hasWish σ := Eq.trans rfl rfl
theorem Rp_moved_many (σ : RSt) (v : (Nat → Int32)) : r_moved (r_many_s σ v) = r_moved σ := Eq.trans rfl rfl
theorem Rp_register_many (σ : RSt) (v : (Nat → Int32)) : r_register (r_many_s σ v) = r_register σ := Eq.trans rfl rfl
theorem Rp_slot_many (σ : RSt) (v : (Nat → Int32)) : r_slot (r_many_s σ v) = r_slot σ := Eq.trans rfl rfl
theorem Rp_wishes_many (σ : RSt) (v : (Nat → Int32)) : r_wishes (r_many_s σ v) = r_wishes σ := Eq.trans rfl rfl
theorem Rp_wishAt_many (σ : RSt) (v : (Nat → Int32)) : r_wishAt (r_many_s σ v) = r_wishAt σ := Eq.trans rfl rfl
theorem Rp_weakAt_many (σ : RSt) (v : (Nat → Int32)) : r_weakAt (r_many_s σ v) = r_weakAt σ := Eq.trans rfl rfl
theorem Rp_pairs_many (σ : RSt) (v : (Nat → Int32)) : r_pairs (r_many_s σ v) = r_pairs σ := Eq.trans rfl rfl
theorem Rp_key_many (σ : RSt) (v : (Nat → Int32)) : r_key (r_many_s σ v) = r_key σ := Eq.trans rfl rfl
theorem Rp_value_many (σ : RSt) (v : (Nat → Int32)) : r_value (r_many_s σ v) = r_value σ := Eq.trans rfl rfl
theorem Rp_isPair_many (σ : RSt) (v : (Nat → Int32)) : r_isPair (r_many_s σ v) = r_isPair σ := Eq.trans rfl rfl
theorem Rp_half_many (σ : RSt) (v : (Nat → Int32)) : r_half (r_many_s σ v) = r_half σ := Eq.trans rfl rfl
theorem Rp_top_many (σ : RSt) (v : (Nat → Int32)) : r_top (r_many_s σ v) = r_top σ := Eq.trans rfl rfl
theorem Rp_way_many (σ : RSt) (v : (Nat → Int32)) : r_way (r_many_s σ v) = r_way σ := Eq.trans rfl rfl
theorem Rp_next_many (σ : RSt) (v : (Nat → Int32)) : r_next (r_many_s σ v) = r_next σ := Eq.trans rfl rfl
theorem Rp_freedMany_many (σ : RSt) (v : (Nat → Int32)) : r_freedMany (r_many_s σ v) = r_freedMany σ := Eq.trans rfl rfl
theorem Rp_rounds_many (σ : RSt) (v : (Nat → Int32)) : r_rounds (r_many_s σ v) = r_rounds σ := Eq.trans rfl rfl
theorem Rp_steps_many (σ : RSt) (v : (Nat → Int32)) : r_steps (r_many_s σ v) = r_steps σ := Eq.trans rfl rfl
theorem Rp_shaded_many (σ : RSt) (v : (Nat → Int32)) : r_shaded (r_many_s σ v) = r_shaded σ := Eq.trans rfl rfl
theorem Rp_movedMany_many (σ : RSt) (v : (Nat → Int32)) : r_movedMany (r_many_s σ v) = r_movedMany σ := Eq.trans rfl rfl
theorem Rp_isReached_many (σ : RSt) (v : (Nat → Int32)) : r_isReached (r_many_s σ v) = r_isReached σ := Eq.trans rfl rfl
theorem Rp_more_many (σ : RSt) (v : (Nat → Int32)) : r_more (r_many_s σ v) = r_more σ := Eq.trans rfl rfl
theorem Rp_manner_field (σ : RSt) (v : (Nat → Int32)) : r_manner (r_field_s σ v) = r_manner σ := Eq.trans rfl rfl
theorem Rp_fault_field (σ : RSt) (v : (Nat → Int32)) : r_fault (r_field_s σ v) = r_fault σ := Eq.trans rfl rfl
theorem Rp_things_field (σ : RSt) (v : (Nat → Int32)) : r_things (r_field_s σ v) = r_things σ := Eq.trans rfl rfl
theorem Rp_many_field (σ : RSt) (v : (Nat → Int32)) : r_many (r_field_s σ v) = r_many σ := Eq.trans rfl rfl
theorem Rp_field_field (σ : RSt) (v : (Nat → Int32)) : r_field (r_field_s σ v) = v := Eq.trans rfl rfl
theorem Rp_place_field (σ : RSt) (v : (Nat → Int32)) : r_place (r_field_s σ v) = r_place σ := Eq.trans rfl rfl
theorem Rp_colour_field (σ : RSt) (v : (Nat → Int32)) : r_colour (r_field_s σ v) = r_colour σ := Eq.trans rfl rfl
theorem Rp_isFreed_field (σ : RSt) (v : (Nat → Int32)) : r_isFreed (r_field_s σ v) = r_isFreed σ := Eq.trans rfl rfl
theorem Rp_hasWish_field (σ : RSt) (v : (Nat → Int32)) : r_hasWish (r_field_s σ v) = r_hasWish σ := Eq.trans rfl rfl
theorem Rp_moved_field (σ : RSt) (v : (Nat → Int32)) : r_moved (r_field_s σ v) = r_moved σ := Eq.trans rfl rfl
theorem Rp_register_field (σ : RSt) (v : (Nat → Int32)) : r_register (r_field_s σ v) = r_register σ := Eq.trans rfl rfl
theorem Rp_slot_field (σ : RSt) (v : (Nat → Int32)) : r_slot (r_field_s σ v) = r_slot σ := Eq.trans rfl rfl
theorem Rp_wishes_field (σ : RSt) (v : (Nat → Int32)) : r_wishes (r_field_s σ v) = r_wishes σ := Eq.trans rfl rfl
theorem Rp_wishAt_field (σ : RSt) (v : (Nat → Int32)) : r_wishAt (r_field_s σ v) = r_wishAt σ := Eq.trans rfl rfl
theorem Rp_weakAt_field (σ : RSt) (v : (Nat → Int32)) : r_weakAt (r_field_s σ v) = r_weakAt σ := Eq.trans rfl rfl
theorem Rp_pairs_field (σ : RSt) (v : (Nat → Int32)) : r_pairs (r_field_s σ v) = r_pairs σ := Eq.trans rfl rfl
theorem Rp_key_field (σ : RSt) (v : (Nat → Int32)) : r_key (r_field_s σ v) = r_key σ := Eq.trans rfl rfl
theorem Rp_value_field (σ : RSt) (v : (Nat → Int32)) : r_value (r_field_s σ v) = r_value σ := Eq.trans rfl rfl
theorem Rp_isPair_field (σ : RSt) (v : (Nat → Int32)) : r_isPair (r_field_s σ v) = r_isPair σ := Eq.trans rfl rfl
theorem Rp_half_field (σ : RSt) (v : (Nat → Int32)) : r_half (r_field_s σ v) = r_half σ := Eq.trans rfl rfl
theorem Rp_top_field (σ : RSt) (v : (Nat → Int32)) : r_top (r_field_s σ v) = r_top σ := Eq.trans rfl rfl
theorem Rp_way_field (σ : RSt) (v : (Nat → Int32)) : r_way (r_field_s σ v) = r_way σ := Eq.trans rfl rfl
theorem Rp_next_field (σ : RSt) (v : (Nat → Int32)) : r_next (r_field_s σ v) = r_next σ := Eq.trans rfl rfl
theorem Rp_freedMany_field (σ : RSt) (v : (Nat → Int32)) : r_freedMany (r_field_s σ v) = r_freedMany σ := Eq.trans rfl rfl
theorem Rp_rounds_field (σ : RSt) (v : (Nat → Int32)) : r_rounds (r_field_s σ v) = r_rounds σ := Eq.trans rfl rfl
theorem Rp_steps_field (σ : RSt) (v : (Nat → Int32)) : r_steps (r_field_s σ v) = r_steps σ := Eq.trans rfl rfl
theorem Rp_shaded_field (σ : RSt) (v : (Nat → Int32)) : r_shaded (r_field_s σ v) = r_shaded σ := Eq.trans rfl rfl
theorem Rp_movedMany_field (σ : RSt) (v : (Nat → Int32)) : r_movedMany (r_field_s σ v) = r_movedMany σ := Eq.trans rfl rfl
theorem Rp_isReached_field (σ : RSt) (v : (Nat → Int32)) : r_isReached (r_field_s σ v) = r_isReached σ := Eq.trans rfl rfl
theorem Rp_more_field (σ : RSt) (v : (Nat → Int32)) : r_more (r_field_s σ v) = r_more σ := Eq.trans rfl rfl
theorem Rp_manner_place (σ : RSt) (v : (Nat → Int32)) : r_manner (r_place_s σ v) = r_manner σ := Eq.trans rfl rfl
theorem Rp_fault_place (σ : RSt) (v : (Nat → Int32)) : r_fault (r_place_s σ v) = r_fault σ := Eq.trans rfl rfl
theorem Rp_things_place (σ : RSt) (v : (Nat → Int32)) : r_things (r_place_s σ v) = r_things σ := Eq.trans rfl rfl
theorem Rp_many_place (σ : RSt) (v : (Nat → Int32)) : r_many (r_place_s σ v) = r_many σ := Eq.trans rfl rfl
theorem Rp_field_place (σ : RSt) (v : (Nat → Int32)) : r_field (r_place_s σ v) = r_field σ := Eq.trans rfl rfl
theorem Rp_place_place (σ : RSt) (v : (Nat → Int32)) : r_place (r_place_s σ v) = v := Eq.trans rfl rfl
theorem Rp_colour_place (σ : RSt) (v : (Nat → Int32)) : r_colour (r_place_s σ v) = r_colour σ := Eq.trans rfl rfl
theorem Rp_isFreed_place (σ : RSt) (v : (Nat → Int32)) : r_isFreed (r_place_s σ v) = r_isFreed σ := Eq.trans rfl rfl
theorem Rp_hasWish_place (σ : RSt) (v : (Nat → Int32)) : r_hasWish (r_place_s σ v) = r_hasWish σ := Eq.trans rfl rfl
theorem Rp_moved_place (σ : RSt) (v : (Nat → Int32)) : r_moved (r_place_s σ v) = r_moved σ := Eq.trans rfl rfl
theorem Rp_register_place (σ : RSt) (v : (Nat → Int32)) : r_register (r_place_s σ v) = r_register σ := Eq.trans rfl rfl
theorem Rp_slot_place (σ : RSt) (v : (Nat → Int32)) : r_slot (r_place_s σ v) = r_slot σ := Eq.trans rfl rfl
theorem Rp_wishes_place (σ : RSt) (v : (Nat → Int32)) : r_wishes (r_place_s σ v) = r_wishes σ := Eq.trans rfl rfl
theorem Rp_wishAt_place (σ : RSt) (v : (Nat → Int32)) : r_wishAt (r_place_s σ v) = r_wishAt σ := Eq.trans rfl rfl
theorem Rp_weakAt_place (σ : RSt) (v : (Nat → Int32)) : r_weakAt (r_place_s σ v) = r_weakAt σ := Eq.trans rfl rfl
theorem Rp_pairs_place (σ : RSt) (v : (Nat → Int32)) : r_pairs (r_place_s σ v) = r_pairs σ := Eq.trans rfl rfl
theorem Rp_key_place (σ : RSt) (v : (Nat → Int32)) : r_key (r_place_s σ v) = r_key σ := Eq.trans rfl rfl
theorem Rp_value_place (σ : RSt) (v : (Nat → Int32)) : r_value (r_place_s σ v) = r_value σ := Eq.trans rfl rfl
theorem Rp_isPair_place (σ : RSt) (v : (Nat → Int32)) : r_isPair (r_place_s σ v) = r_isPair σ := Eq.trans rfl rfl
theorem Rp_half_place (σ : RSt) (v : (Nat → Int32)) : r_half (r_place_s σ v) = r_half σ := Eq.trans rfl rfl
theorem Rp_top_place (σ : RSt) (v : (Nat → Int32)) : r_top (r_place_s σ v) = r_top σ := Eq.trans rfl rfl
theorem Rp_way_place (σ : RSt) (v : (Nat → Int32)) : r_way (r_place_s σ v) = r_way σ := Eq.trans rfl rfl
theorem Rp_next_place (σ : RSt) (v : (Nat → Int32)) : r_next (r_place_s σ v) = r_next σ := Eq.trans rfl rfl
theorem Rp_freedMany_place (σ : RSt) (v : (Nat → Int32)) : r_freedMany (r_place_s σ v) = r_freedMany σ := Eq.trans rfl rfl
theorem Rp_rounds_place (σ : RSt) (v : (Nat → Int32)) : r_rounds (r_place_s σ v) = r_rounds σ := Eq.trans rfl rfl
theorem Rp_steps_place (σ : RSt) (v : (Nat → Int32)) : r_steps (r_place_s σ v) = r_steps σ := Eq.trans rfl rfl
theorem Rp_shaded_place (σ : RSt) (v : (Nat → Int32)) : r_shaded (r_place_s σ v) = r_shaded σ := Eq.trans rfl rfl
theorem Rp_movedMany_place (σ : RSt) (v : (Nat → Int32)) : r_movedMany (r_place_s σ v) = r_movedMany σ := Eq.trans rfl rfl
theorem Rp_isReached_place (σ : RSt) (v : (Nat → Int32)) : r_isReached (r_place_s σ v) = r_isReached σ := Eq.trans rfl rfl
theorem Rp_more_place (σ : RSt) (v : (Nat → Int32)) : r_more (r_place_s σ v) = r_more σ := Eq.trans rfl rfl
theorem Rp_manner_colour (σ : RSt) (v : (Nat → Int32)) : r_manner (r_colour_s σ v) = r_manner σ := Eq.trans rfl rfl
theorem Rp_fault_colour (σ : RSt) (v : (Nat → Int32)) : r_fault (r_colour_s σ v) = r_fault σ := Eq.trans rfl rfl
theorem Rp_things_colour (σ : RSt) (v : (Nat → Int32)) : r_things (r_colour_s σ v) = r_things σ := Eq.trans rfl rfl
theorem Rp_many_colour (σ : RSt) (v : (Nat → Int32)) : r_many (r_colour_s σ v) = r_many σ := Eq.trans rfl rfl
theorem Rp_field_colour (σ : RSt) (v : (Nat → Int32)) : r_field (r_colour_s σ v) = r_field σ := Eq.trans rfl rfl
theorem Rp_place_colour (σ : RSt) (v : (Nat → Int32)) : r_place (r_colour_s σ v) = r_place σ := Eq.trans rfl rfl
theorem Rp_colour_colour (σ : RSt) (v : (Nat → Int32)) : r_colour (r_colour_s σ v) = v := Eq.trans rfl rfl
theorem Rp_isFreed_colour (σ : RSt) (v : (Nat → Int32)) : r_isFreed (r_colour_s σ v) = r_isFreed σ := Eq.trans rfl rfl
theorem Rp_hasWish_colour (σ : RSt) (v : (Nat → Int32)) : r_hasWish (r_colour_s σ v) = r_hasWish σ := Eq.trans rfl rfl
theorem Rp_moved_colour (σ : RSt) (v : (Nat → Int32)) : r_moved (r_colour_s σ v) = r_moved σ := Eq.trans rfl rfl
theorem Rp_register_colour (σ : RSt) (v : (Nat → Int32)) : r_register (r_colour_s σ v) = r_register σ := Eq.trans rfl rfl
theorem Rp_slot_colour (σ : RSt) (v : (Nat → Int32)) : r_slot (r_colour_s σ v) = r_slot σ := Eq.trans rfl rfl
theorem Rp_wishes_colour (σ : RSt) (v : (Nat → Int32)) : r_wishes (r_colour_s σ v) = r_wishes σ := Eq.trans rfl rfl
theorem Rp_wishAt_colour (σ : RSt) (v : (Nat → Int32)) : r_wishAt (r_colour_s σ v) = r_wishAt σ := Eq.trans rfl rfl
theorem Rp_weakAt_colour (σ : RSt) (v : (Nat → Int32)) : r_weakAt (r_colour_s σ v) = r_weakAt σ := Eq.trans rfl rfl
theorem Rp_pairs_colour (σ : RSt) (v : (Nat → Int32)) : r_pairs (r_colour_s σ v) = r_pairs σ := Eq.trans rfl rfl
theorem Rp_key_colour (σ : RSt) (v : (Nat → Int32)) : r_key (r_colour_s σ v) = r_key σ := Eq.trans rfl rfl
theorem Rp_value_colour (σ : RSt) (v : (Nat → Int32)) : r_value (r_colour_s σ v) = r_value σ := Eq.trans rfl rfl
theorem Rp_isPair_colour (σ : RSt) (v : (Nat → Int32)) : r_isPair (r_colour_s σ v) = r_isPair σ := Eq.trans rfl rfl
theorem Rp_half_colour (σ : RSt) (v : (Nat → Int32)) : r_half (r_colour_s σ v) = r_half σ := Eq.trans rfl rfl
theorem Rp_top_colour (σ : RSt) (v : (Nat → Int32)) : r_top (r_colour_s σ v) = r_top σ := Eq.trans rfl rfl
theorem Rp_way_colour (σ : RSt) (v : (Nat → Int32)) : r_way (r_colour_s σ v) = r_way σ := Eq.trans rfl rfl
theorem Rp_next_colour (σ : RSt) (v : (Nat → Int32)) : r_next (r_colour_s σ v) = r_next σ := Eq.trans rfl rfl
theorem Rp_freedMany_colour (σ : RSt) (v : (Nat → Int32)) : r_freedMany (r_colour_s σ v) = r_freedMany σ := Eq.trans rfl rfl
theorem Rp_rounds_colour (σ : RSt) (v : (Nat → Int32)) : r_rounds (r_colour_s σ v) = r_rounds σ := Eq.trans rfl rfl
theorem Rp_steps_colour (σ : RSt) (v : (Nat → Int32)) : r_steps (r_colour_s σ v) = r_steps σ := Eq.trans rfl rfl
theorem Rp_shaded_colour (σ : RSt) (v : (Nat → Int32)) : r_shaded (r_colour_s σ v) = r_shaded σ := Eq.trans rfl rfl
theorem Rp_movedMany_colour (σ : RSt) (v : (Nat → Int32)) : r_movedMany (r_colour_s σ v) = r_movedMany σ := Eq.trans rfl rfl
theorem Rp_isReached_colour (σ : RSt) (v : (Nat → Int32)) : r_isReached (r_colour_s σ v) = r_isReached σ := Eq.trans rfl rfl
theorem Rp_more_colour (σ : RSt) (v : (Nat → Int32)) : r_more (r_colour_s σ v) = r_more σ := Eq.trans rfl rfl
theorem Rp_manner_isFreed (σ : RSt) (v : (Nat → Int32)) : r_manner (r_isFreed_s σ v) = r_manner σ := Eq.trans rfl rfl
theorem Rp_fault_isFreed (σ : RSt) (v : (Nat → Int32)) : r_fault (r_isFreed_s σ v) = r_fault σ := Eq.trans rfl rfl
theorem Rp_things_isFreed (σ : RSt) (v : (Nat → Int32)) : r_things (r_isFreed_s σ v) = r_things σ := Eq.trans rfl rfl
theorem Rp_many_isFreed (σ : RSt) (v : (Nat → Int32)) : r_many (r_isFreed_s σ v) = r_many σ := Eq.trans rfl rfl
theorem Rp_field_isFreed (σ : RSt) (v : (Nat → Int32)) : r_field (r_isFreed_s σ v) = r_field σ := Eq.trans rfl rfl
theorem Rp_place_isFreed (σ : RSt) (v : (Nat → Int32)) : r_place (r_isFreed_s σ v) = r_place σ := Eq.trans rfl rfl
theorem Rp_colour_isFreed (σ : RSt) (v : (Nat → Int32)) : r_colour (r_isFreed_s σ v) = r_colour σ := Eq.trans rfl rfl
theorem Rp_isFreed_isFreed (σ : RSt) (v : (Nat → Int32)) : r_isFreed (r_isFreed_s σ v) = v := Eq.trans rfl rfl
theorem Rp_hasWish_isFreed (σ : RSt) (v : (Nat → Int32)) : r_hasWish (r_isFreed_s σ v) = r_hasWish σ := Eq.trans rfl rfl
theorem Rp_moved_isFreed (σ : RSt) (v : (Nat → Int32)) : r_moved (r_isFreed_s σ v) = r_moved σ := Eq.trans rfl rfl
theorem Rp_register_isFreed (σ : RSt) (v : (Nat → Int32)) : r_register (r_isFreed_s σ v) = r_register σ := Eq.trans rfl rfl
theorem Rp_slot_isFreed (σ : RSt) (v : (Nat → Int32)) : r_slot (r_isFreed_s σ v) = r_slot σ := Eq.trans rfl rfl
theorem Rp_wishes_isFreed (σ : RSt) (v : (Nat → Int32)) : r_wishes (r_isFreed_s σ v) = r_wishes σ := Eq.trans rfl rfl
theorem Rp_wishAt_isFreed (σ : RSt) (v : (Nat → Int32)) : r_wishAt (r_isFreed_s σ v) = r_wishAt σ := Eq.trans rfl rfl
theorem Rp_weakAt_isFreed (σ : RSt) (v : (Nat → Int32)) : r_weakAt (r_isFreed_s σ v) = r_weakAt σ := Eq.trans rfl rfl
theorem Rp_pairs_isFreed (σ : RSt) (v : (Nat → Int32)) : r_pairs (r_isFreed_s σ v) = r_pairs σ := Eq.trans rfl rfl
theorem Rp_key_isFreed (σ : RSt) (v : (Nat → Int32)) : r_key (r_isFreed_s σ v) = r_key σ := Eq.trans rfl rfl
theorem Rp_value_isFreed (σ : RSt) (v : (Nat → Int32)) : r_value (r_isFreed_s σ v) = r_value σ := Eq.trans rfl rfl
theorem Rp_isPair_isFreed (σ : RSt) (v : (Nat → Int32)) : r_isPair (r_isFreed_s σ v) = r_isPair σ := Eq.trans rfl rfl
theorem Rp_half_isFreed (σ : RSt) (v : (Nat → Int32)) : r_half (r_isFreed_s σ v) = r_half σ := Eq.trans rfl rfl
theorem Rp_top_isFreed (σ : RSt) (v : (Nat → Int32)) : r_top (r_isFreed_s σ v) = r_top σ := Eq.trans rfl rfl
theorem Rp_way_isFreed (σ : RSt) (v : (Nat → Int32)) : r_way (r_isFreed_s σ v) = r_way σ := Eq.trans rfl rfl
theorem Rp_next_isFreed (σ : RSt) (v : (Nat → Int32)) : r_next (r_isFreed_s σ v) = r_next σ := Eq.trans rfl rfl
theorem Rp_freedMany_isFreed (σ : RSt) (v : (Nat → Int32)) : r_freedMany (r_isFreed_s σ v) = r_freedMany σ := Eq.trans rfl rfl
theorem Rp_rounds_isFreed (σ : RSt) (v : (Nat → Int32)) : r_rounds (r_isFreed_s σ v) = r_rounds σ := Eq.trans rfl rfl
theorem Rp_steps_isFreed (σ : RSt) (v : (Nat → Int32)) : r_steps (r_isFreed_s σ v) = r_steps σ := Eq.trans rfl rfl
theorem Rp_shaded_isFreed (σ : RSt) (v : (Nat → Int32)) : r_shaded (r_isFreed_s σ v) = r_shaded σ := Eq.trans rfl rfl
theorem Rp_movedMany_isFreed (σ : RSt) (v : (Nat → Int32)) : r_movedMany (r_isFreed_s σ v) = r_movedMany σ := Eq.trans rfl rfl
theorem Rp_isReached_isFreed (σ : RSt) (v : (Nat → Int32)) : r_isReached (r_isFreed_s σ v) = r_isReached σ := Eq.trans rfl rfl
theorem Rp_more_isFreed (σ : RSt) (v : (Nat → Int32)) : r_more (r_isFreed_s σ v) = r_more σ := Eq.trans rfl rfl
theorem Rp_manner_hasWish (σ : RSt) (v : (Nat → Int32)) : r_manner (r_hasWish_s σ v) = r_manner σ := Eq.trans rfl rfl
theorem Rp_fault_hasWish (σ : RSt) (v : (Nat → Int32)) : r_fault (r_hasWish_s σ v) = r_fault σ := Eq.trans rfl rfl
theorem Rp_things_hasWish (σ : RSt) (v : (Nat → Int32)) : r_things (r_hasWish_s σ v) = r_things σ := Eq.trans rfl rfl
theorem Rp_many_hasWish (σ : RSt) (v : (Nat → Int32)) : r_many (r_hasWish_s σ v) = r_many σ := Eq.trans rfl rfl
theorem Rp_field_hasWish (σ : RSt) (v : (Nat → Int32)) : r_field (r_hasWish_s σ v) = r_field σ := Eq.trans rfl rfl
theorem Rp_place_hasWish (σ : RSt) (v : (Nat → Int32)) : r_place (r_hasWish_s σ v) = r_place σ := Eq.trans rfl rfl
theorem Rp_colour_hasWish (σ : RSt) (v : (Nat → Int32)) : r_colour (r_hasWish_s σ v) = r_colour σ := Eq.trans rfl rfl
theorem Rp_isFreed_hasWish (σ : RSt) (v : (Nat → Int32)) : r_isFreed (r_hasWish_s σ v) = r_isFreed σ := Eq.trans rfl rfl
theorem Rp_hasWish_hasWish (σ : RSt) (v : (Nat → Int32)) : r_hasWish (r_hasWish_s σ v) = v := Eq.trans rfl rfl
theorem Rp_moved_hasWish (σ : RSt) (v : (Nat → Int32)) : r_moved (r_hasWish_s σ v) = r_moved σ := Eq.trans rfl rfl
theorem Rp_register_hasWish (σ : RSt) (v : (Nat → Int32)) : r_register (r_hasWish_s σ v) = r_register σ := Eq.trans rfl rfl
theorem Rp_slot_hasWish (σ : RSt) (v : (Nat → Int32)) : r_slot (r_hasWish_s σ v) = r_slot σ := Eq.trans rfl rfl
theorem Rp_wishes_hasWish (σ : RSt) (v : (Nat → Int32)) : r_wishes (r_hasWish_s σ v) = r_wishes σ := Eq.trans rfl rfl
theorem Rp_wishAt_hasWish (σ : RSt) (v : (Nat → Int32)) : r_wishAt (r_hasWish_s σ v) = r_wishAt σ := Eq.trans rfl rfl
theorem Rp_weakAt_hasWish (σ : RSt) (v : (Nat → Int32)) : r_weakAt (r_hasWish_s σ v) = r_weakAt σ := Eq.trans rfl rfl
theorem Rp_pairs_hasWish (σ : RSt) (v : (Nat → Int32)) : r_pairs (r_hasWish_s σ v) = r_pairs σ := Eq.trans rfl rfl
theorem Rp_key_hasWish (σ : RSt) (v : (Nat → Int32)) : r_key (r_hasWish_s σ v) = r_key σ := Eq.trans rfl rfl
theorem Rp_value_hasWish (σ : RSt) (v : (Nat → Int32)) : r_value (r_hasWish_s σ v) = r_value σ := Eq.trans rfl rfl
theorem Rp_isPair_hasWish (σ : RSt) (v : (Nat → Int32)) : r_isPair (r_hasWish_s σ v) = r_isPair σ := Eq.trans rfl rfl
theorem Rp_half_hasWish (σ : RSt) (v : (Nat → Int32)) : r_half (r_hasWish_s σ v) = r_half σ := Eq.trans rfl rfl
theorem Rp_top_hasWish (σ : RSt) (v : (Nat → Int32)) : r_top (r_hasWish_s σ v) = r_top σ := Eq.trans rfl rfl
theorem Rp_way_hasWish (σ : RSt) (v : (Nat → Int32)) : r_way (r_hasWish_s σ v) = r_way σ := Eq.trans rfl rfl
theorem Rp_next_hasWish (σ : RSt) (v : (Nat → Int32)) : r_next (r_hasWish_s σ v) = r_next σ := Eq.trans rfl rfl
theorem Rp_freedMany_hasWish (σ : RSt) (v : (Nat → Int32)) : r_freedMany (r_hasWish_s σ v) = r_freedMany σ := Eq.trans rfl rfl
theorem Rp_rounds_hasWish (σ : RSt) (v : (Nat → Int32)) : r_rounds (r_hasWish_s σ v) = r_rounds σ := Eq.trans rfl rfl
theorem Rp_steps_hasWish (σ : RSt) (v : (Nat → Int32)) : r_steps (r_hasWish_s σ v) = r_steps σ := Eq.trans rfl rfl
theorem Rp_shaded_hasWish (σ : RSt) (v : (Nat → Int32)) : r_shaded (r_hasWish_s σ v) = r_shaded σ := Eq.trans rfl rfl
theorem Rp_movedMany_hasWish (σ : RSt) (v : (Nat → Int32)) : r_movedMany (r_hasWish_s σ v) = r_movedMany σ := Eq.trans rfl rfl
theorem Rp_isReached_hasWish (σ : RSt) (v : (Nat → Int32)) : r_isReached (r_hasWish_s σ v) = r_isReached σ := Eq.trans rfl rfl
theorem Rp_more_hasWish (σ : RSt) (v : (Nat → Int32)) : r_more (r_hasWish_s σ v) = r_more σ := Eq.trans rfl rfl
theorem Rp_manner_moved (σ : RSt) (v : (Nat → Int32)) : r_manner (r_moved_s σ v) = r_manner σ := Eq.trans rfl rfl
theorem Rp_fault_moved (σ : RSt) (v : (Nat → Int32)) : r_fault (r_moved_s σ v) = r_fault σ := Eq.trans rfl rfl
theorem Rp_things_moved (σ : RSt) (v : (Nat → Int32)) : r_things (r_moved_s σ v) = r_things σ := Eq.trans rfl rfl
theorem Rp_many_moved (σ : RSt) (v : (Nat → Int32)) : r_many (r_moved_s σ v) = r_many σ := Eq.trans rfl rfl
theorem Rp_field_moved (σ : RSt) (v : (Nat → Int32)) : r_field (r_moved_s σ v) = r_field σ := Eq.trans rfl rfl
theorem Rp_place_moved (σ : RSt) (v : (Nat → Int32)) : r_place (r_moved_s σ v) = r_place σ := Eq.trans rfl rfl
theorem Rp_colour_moved (σ : RSt) (v : (Nat → Int32)) : r_colour (r_moved_s σ v) = r_colour σ := Eq.trans rfl rfl
theorem Rp_isFreed_moved (σ : RSt) (v : (Nat → Int32)) : r_isFreed (r_moved_s σ v) = r_isFreed σ := Eq.trans rfl rfl
theorem Rp_hasWish_moved (σ : RSt) (v : (Nat → Int32)) : r_hasWish (r_moved_s σ v) = r_hasWish σ := Eq.trans rfl rfl
theorem Rp_moved_moved (σ : RSt) (v : (Nat → Int32)) : r_moved (r_moved_s σ v) = v := Eq.trans rfl rfl
theorem Rp_register_moved (σ : RSt) (v : (Nat → Int32)) : r_register (r_moved_s σ v) = r_register σ := Eq.trans rfl rfl
theorem Rp_slot_moved (σ : RSt) (v : (Nat → Int32)) : r_slot (r_moved_s σ v) = r_slot σ := Eq.trans rfl rfl
theorem Rp_wishes_moved (σ : RSt) (v : (Nat → Int32)) : r_wishes (r_moved_s σ v) = r_wishes σ := Eq.trans rfl rfl
theorem Rp_wishAt_moved (σ : RSt) (v : (Nat → Int32)) : r_wishAt (r_moved_s σ v) = r_wishAt σ := Eq.trans rfl rfl
theorem Rp_weakAt_moved (σ : RSt) (v : (Nat → Int32)) : r_weakAt (r_moved_s σ v) = r_weakAt σ := Eq.trans rfl rfl
theorem Rp_pairs_moved (σ : RSt) (v : (Nat → Int32)) : r_pairs (r_moved_s σ v) = r_pairs σ := Eq.trans rfl rfl
theorem Rp_key_moved (σ : RSt) (v : (Nat → Int32)) : r_key (r_moved_s σ v) = r_key σ := Eq.trans rfl rfl
theorem Rp_value_moved (σ : RSt) (v : (Nat → Int32)) : r_value (r_moved_s σ v) = r_value σ := Eq.trans rfl rfl
theorem Rp_isPair_moved (σ : RSt) (v : (Nat → Int32)) : r_isPair (r_moved_s σ v) = r_isPair σ := Eq.trans rfl rfl
theorem Rp_half_moved (σ : RSt) (v : (Nat → Int32)) : r_half (r_moved_s σ v) = r_half σ := Eq.trans rfl rfl
theorem Rp_top_moved (σ : RSt) (v : (Nat → Int32)) : r_top (r_moved_s σ v) = r_top σ := Eq.trans rfl rfl
theorem Rp_way_moved (σ : RSt) (v : (Nat → Int32)) : r_way (r_moved_s σ v) = r_way σ := Eq.trans rfl rfl
theorem Rp_next_moved (σ : RSt) (v : (Nat → Int32)) : r_next (r_moved_s σ v) = r_next σ := Eq.trans rfl rfl
theorem Rp_freedMany_moved (σ : RSt) (v : (Nat → Int32)) : r_freedMany (r_moved_s σ v) = r_freedMany σ := Eq.trans rfl rfl
theorem Rp_rounds_moved (σ : RSt) (v : (Nat → Int32)) : r_rounds (r_moved_s σ v) = r_rounds σ := Eq.trans rfl rfl
theorem Rp_steps_moved (σ : RSt) (v : (Nat → Int32)) : r_steps (r_moved_s σ v) = r_steps σ := Eq.trans rfl rfl
theorem Rp_shaded_moved (σ : RSt) (v : (Nat → Int32)) : r_shaded (r_moved_s σ v) = r_shaded σ := Eq.trans rfl rfl
theorem Rp_movedMany_moved (σ : RSt) (v : (Nat → Int32)) : r_movedMany (r_moved_s σ v) = r_movedMany σ := Eq.trans rfl rfl
theorem Rp_isReached_moved (σ : RSt) (v : (Nat → Int32)) : r_isReached (r_moved_s σ v) = r_isReached σ := Eq.trans rfl rfl
theorem Rp_more_moved (σ : RSt) (v : (Nat → Int32)) : r_more (r_moved_s σ v) = r_more σ := Eq.trans rfl rfl
theorem Rp_manner_register (σ : RSt) (v : (Nat → Int32)) : r_manner (r_register_s σ v) = r_manner σ := Eq.trans rfl rfl
theorem Rp_fault_register (σ : RSt) (v : (Nat → Int32)) : r_fault (r_register_s σ v) = r_fault σ := Eq.trans rfl rfl
theorem Rp_things_register (σ : RSt) (v : (Nat → Int32)) : r_things (r_register_s σ v) = r_things σ := Eq.trans rfl rfl
theorem Rp_many_register (σ : RSt) (v : (Nat → Int32)) : r_many (r_register_s σ v) = r_many σ := Eq.trans rfl rfl
theorem Rp_field_register (σ : RSt) (v : (Nat → Int32)) : r_field (r_register_s σ v) = r_field σ := Eq.trans rfl rfl
theorem Rp_place_register (σ : RSt) (v : (Nat → Int32)) : r_place (r_register_s σ v) = r_place σ := Eq.trans rfl rfl
theorem Rp_colour_register (σ : RSt) (v : (Nat → Int32)) : r_colour (r_register_s σ v) = r_colour σ := Eq.trans rfl rfl
theorem Rp_isFreed_register (σ : RSt) (v : (Nat → Int32)) : r_isFreed (r_register_s σ v) = r_isFreed σ := Eq.trans rfl rfl
theorem Rp_hasWish_register (σ : RSt) (v : (Nat → Int32)) : r_hasWish (r_register_s σ v) = r_hasWish σ := Eq.trans rfl rfl
theorem Rp_moved_register (σ : RSt) (v : (Nat → Int32)) : r_moved (r_register_s σ v) = r_moved σ := Eq.trans rfl rfl
theorem Rp_register_register (σ : RSt) (v : (Nat → Int32)) : r_register (r_register_s σ v) = v := Eq.trans rfl rfl
theorem Rp_slot_register (σ : RSt) (v : (Nat → Int32)) : r_slot (r_register_s σ v) = r_slot σ := Eq.trans rfl rfl
theorem Rp_wishes_register (σ : RSt) (v : (Nat → Int32)) : r_wishes (r_register_s σ v) = r_wishes σ := Eq.trans rfl rfl
theorem Rp_wishAt_register (σ : RSt) (v : (Nat → Int32)) : r_wishAt (r_register_s σ v) = r_wishAt σ := Eq.trans rfl rfl
theorem Rp_weakAt_register (σ : RSt) (v : (Nat → Int32)) : r_weakAt (r_register_s σ v) = r_weakAt σ := Eq.trans rfl rfl
theorem Rp_pairs_register (σ : RSt) (v : (Nat → Int32)) : r_pairs (r_register_s σ v) = r_pairs σ := Eq.trans rfl rfl
theorem Rp_key_register (σ : RSt) (v : (Nat → Int32)) : r_key (r_register_s σ v) = r_key σ := Eq.trans rfl rfl
theorem Rp_value_register (σ : RSt) (v : (Nat → Int32)) : r_value (r_register_s σ v) = r_value σ := Eq.trans rfl rfl
theorem Rp_isPair_register (σ : RSt) (v : (Nat → Int32)) : r_isPair (r_register_s σ v) = r_isPair σ := Eq.trans rfl rfl
theorem Rp_half_register (σ : RSt) (v : (Nat → Int32)) : r_half (r_register_s σ v) = r_half σ := Eq.trans rfl rfl
theorem Rp_top_register (σ : RSt) (v : (Nat → Int32)) : r_top (r_register_s σ v) = r_top σ := Eq.trans rfl rfl
theorem Rp_way_register (σ : RSt) (v : (Nat → Int32)) : r_way (r_register_s σ v) = r_way σ := Eq.trans rfl rfl
theorem Rp_next_register (σ : RSt) (v : (Nat → Int32)) : r_next (r_register_s σ v) = r_next σ := Eq.trans rfl rfl
theorem Rp_freedMany_register (σ : RSt) (v : (Nat → Int32)) : r_freedMany (r_register_s σ v) = r_freedMany σ := Eq.trans rfl rfl
theorem Rp_rounds_register (σ : RSt) (v : (Nat → Int32)) : r_rounds (r_register_s σ v) = r_rounds σ := Eq.trans rfl rfl
theorem Rp_steps_register (σ : RSt) (v : (Nat → Int32)) : r_steps (r_register_s σ v) = r_steps σ := Eq.trans rfl rfl
theorem Rp_shaded_register (σ : RSt) (v : (Nat → Int32)) : r_shaded (r_register_s σ v) = r_shaded σ := Eq.trans rfl rfl
theorem Rp_movedMany_register (σ : RSt) (v : (Nat → Int32)) : r_movedMany (r_register_s σ v) = r_movedMany σ := Eq.trans rfl rfl
theorem Rp_isReached_register (σ : RSt) (v : (Nat → Int32)) : r_isReached (r_register_s σ v) = r_isReached σ := Eq.trans rfl rfl
theorem Rp_more_register (σ : RSt) (v : (Nat → Int32)) : r_more (r_register_s σ v) = r_more σ := Eq.trans rfl rfl
theorem Rp_manner_slot (σ : RSt) (v : (Nat → Int32)) : r_manner (r_slot_s σ v) = r_manner σ := Eq.trans rfl rfl
theorem Rp_fault_slot (σ : RSt) (v : (Nat → Int32)) : r_fault (r_slot_s σ v) = r_fault σ := Eq.trans rfl rfl
theorem Rp_things_slot (σ : RSt) (v : (Nat → Int32)) : r_things (r_slot_s σ v) = r_things σ := Eq.trans rfl rfl
theorem Rp_many_slot (σ : RSt) (v : (Nat → Int32)) : r_many (r_slot_s σ v) = r_many σ := Eq.trans rfl rfl
theorem Rp_field_slot (σ : RSt) (v : (Nat → Int32)) : r_field (r_slot_s σ v) = r_field σ := Eq.trans rfl rfl
theorem Rp_place_slot (σ : RSt) (v : (Nat → Int32)) : r_place (r_slot_s σ v) = r_place σ := Eq.trans rfl rfl
theorem Rp_colour_slot (σ : RSt) (v : (Nat → Int32)) : r_colour (r_slot_s σ v) = r_colour σ := Eq.trans rfl rfl
theorem Rp_isFreed_slot (σ : RSt) (v : (Nat → Int32)) : r_isFreed (r_slot_s σ v) = r_isFreed σ := Eq.trans rfl rfl
theorem Rp_hasWish_slot (σ : RSt) (v : (Nat → Int32)) : r_hasWish (r_slot_s σ v) = r_hasWish σ := Eq.trans rfl rfl
theorem Rp_moved_slot (σ : RSt) (v : (Nat → Int32)) : r_moved (r_slot_s σ v) = r_moved σ := Eq.trans rfl rfl
theorem Rp_register_slot (σ : RSt) (v : (Nat → Int32)) : r_register (r_slot_s σ v) = r_register σ := Eq.trans rfl rfl
theorem Rp_slot_slot (σ : RSt) (v : (Nat → Int32)) : r_slot (r_slot_s σ v) = v := Eq.trans rfl rfl
theorem Rp_wishes_slot (σ : RSt) (v : (Nat → Int32)) : r_wishes (r_slot_s σ v) = r_wishes σ := Eq.trans rfl rfl
theorem Rp_wishAt_slot (σ : RSt) (v : (Nat → Int32)) : r_wishAt (r_slot_s σ v) = r_wishAt σ := Eq.trans rfl rfl
theorem Rp_weakAt_slot (σ : RSt) (v : (Nat → Int32)) : r_weakAt (r_slot_s σ v) = r_weakAt σ := Eq.trans rfl rfl
theorem Rp_pairs_slot (σ : RSt) (v : (Nat → Int32)) : r_pairs (r_slot_s σ v) = r_pairs σ := Eq.trans rfl rfl
theorem Rp_key_slot (σ : RSt) (v : (Nat → Int32)) : r_key (r_slot_s σ v) = r_key σ := Eq.trans rfl rfl
theorem Rp_value_slot (σ : RSt) (v : (Nat → Int32)) : r_value (r_slot_s σ v) = r_value σ := Eq.trans rfl rfl
theorem Rp_isPair_slot (σ : RSt) (v : (Nat → Int32)) : r_isPair (r_slot_s σ v) = r_isPair σ := Eq.trans rfl rfl
theorem Rp_half_slot (σ : RSt) (v : (Nat → Int32)) : r_half (r_slot_s σ v) = r_half σ := Eq.trans rfl rfl
theorem Rp_top_slot (σ : RSt) (v : (Nat → Int32)) : r_top (r_slot_s σ v) = r_top σ := Eq.trans rfl rfl
theorem Rp_way_slot (σ : RSt) (v : (Nat → Int32)) : r_way (r_slot_s σ v) = r_way σ := Eq.trans rfl rfl
theorem Rp_next_slot (σ : RSt) (v : (Nat → Int32)) : r_next (r_slot_s σ v) = r_next σ := Eq.trans rfl rfl
theorem Rp_freedMany_slot (σ : RSt) (v : (Nat → Int32)) : r_freedMany (r_slot_s σ v) = r_freedMany σ := Eq.trans rfl rfl
theorem Rp_rounds_slot (σ : RSt) (v : (Nat → Int32)) : r_rounds (r_slot_s σ v) = r_rounds σ := Eq.trans rfl rfl
theorem Rp_steps_slot (σ : RSt) (v : (Nat → Int32)) : r_steps (r_slot_s σ v) = r_steps σ := Eq.trans rfl rfl
theorem Rp_shaded_slot (σ : RSt) (v : (Nat → Int32)) : r_shaded (r_slot_s σ v) = r_shaded σ := Eq.trans rfl rfl
theorem Rp_movedMany_slot (σ : RSt) (v : (Nat → Int32)) : r_movedMany (r_slot_s σ v) = r_movedMany σ := Eq.trans rfl rfl
theorem Rp_isReached_slot (σ : RSt) (v : (Nat → Int32)) : r_isReached (r_slot_s σ v) = r_isReached σ := Eq.trans rfl rfl
theorem Rp_more_slot (σ : RSt) (v : (Nat → Int32)) : r_more (r_slot_s σ v) = r_more σ := Eq.trans rfl rfl
theorem Rp_manner_wishes (σ : RSt) (v : Int32) : r_manner (r_wishes_s σ v) = r_manner σ := Eq.trans rfl rfl
theorem Rp_fault_wishes (σ : RSt) (v : Int32) : r_fault (r_wishes_s σ v) = r_fault σ := Eq.trans rfl rfl
theorem Rp_things_wishes (σ : RSt) (v : Int32) : r_things (r_wishes_s σ v) = r_things σ := Eq.trans rfl rfl
theorem Rp_many_wishes (σ : RSt) (v : Int32) : r_many (r_wishes_s σ v) = r_many σ := Eq.trans rfl rfl
theorem Rp_field_wishes (σ : RSt) (v : Int32) : r_field (r_wishes_s σ v) = r_field σ := Eq.trans rfl rfl
theorem Rp_place_wishes (σ : RSt) (v : Int32) : r_place (r_wishes_s σ v) = r_place σ := Eq.trans rfl rfl
theorem Rp_colour_wishes (σ : RSt) (v : Int32) : r_colour (r_wishes_s σ v) = r_colour σ := Eq.trans rfl rfl
theorem Rp_isFreed_wishes (σ : RSt) (v : Int32) : r_isFreed (r_wishes_s σ v) = r_isFreed σ := Eq.trans rfl rfl
theorem Rp_hasWish_wishes (σ : RSt) (v : Int32) : r_hasWish (r_wishes_s σ v) = r_hasWish σ := Eq.trans rfl rfl
theorem Rp_moved_wishes (σ : RSt) (v : Int32) : r_moved (r_wishes_s σ v) = r_moved σ := Eq.trans rfl rfl
theorem Rp_register_wishes (σ : RSt) (v : Int32) : r_register (r_wishes_s σ v) = r_register σ := Eq.trans rfl rfl
theorem Rp_slot_wishes (σ : RSt) (v : Int32) : r_slot (r_wishes_s σ v) = r_slot σ := Eq.trans rfl rfl
theorem Rp_wishes_wishes (σ : RSt) (v : Int32) : r_wishes (r_wishes_s σ v) = v := Eq.trans rfl rfl
theorem Rp_wishAt_wishes (σ : RSt) (v : Int32) : r_wishAt (r_wishes_s σ v) = r_wishAt σ := Eq.trans rfl rfl
theorem Rp_weakAt_wishes (σ : RSt) (v : Int32) : r_weakAt (r_wishes_s σ v) = r_weakAt σ := Eq.trans rfl rfl
theorem Rp_pairs_wishes (σ : RSt) (v : Int32) : r_pairs (r_wishes_s σ v) = r_pairs σ := Eq.trans rfl rfl
theorem Rp_key_wishes (σ : RSt) (v : Int32) : r_key (r_wishes_s σ v) = r_key σ := Eq.trans rfl rfl
theorem Rp_value_wishes (σ : RSt) (v : Int32) : r_value (r_wishes_s σ v) = r_value σ := Eq.trans rfl rfl
theorem Rp_isPair_wishes (σ : RSt) (v : Int32) : r_isPair (r_wishes_s σ v) = r_isPair σ := Eq.trans rfl rfl
theorem Rp_half_wishes (σ : RSt) (v : Int32) : r_half (r_wishes_s σ v) = r_half σ := Eq.trans rfl rfl
theorem Rp_top_wishes (σ : RSt) (v : Int32) : r_top (r_wishes_s σ v) = r_top σ := Eq.trans rfl rfl
theorem Rp_way_wishes (σ : RSt) (v : Int32) : r_way (r_wishes_s σ v) = r_way σ := Eq.trans rfl rfl
theorem Rp_next_wishes (σ : RSt) (v : Int32) : r_next (r_wishes_s σ v) = r_next σ := Eq.trans rfl rfl
theorem Rp_freedMany_wishes (σ : RSt) (v : Int32) : r_freedMany (r_wishes_s σ v) = r_freedMany σ := Eq.trans rfl rfl
theorem Rp_rounds_wishes (σ : RSt) (v : Int32) : r_rounds (r_wishes_s σ v) = r_rounds σ := Eq.trans rfl rfl
theorem Rp_steps_wishes (σ : RSt) (v : Int32) : r_steps (r_wishes_s σ v) = r_steps σ := Eq.trans rfl rfl
theorem Rp_shaded_wishes (σ : RSt) (v : Int32) : r_shaded (r_wishes_s σ v) = r_shaded σ := Eq.trans rfl rfl
theorem Rp_movedMany_wishes (σ : RSt) (v : Int32) : r_movedMany (r_wishes_s σ v) = r_movedMany σ := Eq.trans rfl rfl
theorem Rp_isReached_wishes (σ : RSt) (v : Int32) : r_isReached (r_wishes_s σ v) = r_isReached σ := Eq.trans rfl rfl
theorem Rp_more_wishes (σ : RSt) (v : Int32) : r_more (r_wishes_s σ v) = r_more σ := Eq.trans rfl rfl
theorem Rp_manner_wishAt (σ : RSt) (v : (Nat → Int32)) : r_manner (r_wishAt_s σ v) = r_manner σ := Eq.trans rfl rfl
theorem Rp_fault_wishAt (σ : RSt) (v : (Nat → Int32)) : r_fault (r_wishAt_s σ v) = r_fault σ := Eq.trans rfl rfl
theorem Rp_things_wishAt (σ : RSt) (v : (Nat → Int32)) : r_things (r_wishAt_s σ v) = r_things σ := Eq.trans rfl rfl
theorem Rp_many_wishAt (σ : RSt) (v : (Nat → Int32)) : r_many (r_wishAt_s σ v) = r_many σ := Eq.trans rfl rfl
theorem Rp_field_wishAt (σ : RSt) (v : (Nat → Int32)) : r_field (r_wishAt_s σ v) = r_field σ := Eq.trans rfl rfl
theorem Rp_place_wishAt (σ : RSt) (v : (Nat → Int32)) : r_place (r_wishAt_s σ v) = r_place σ := Eq.trans rfl rfl
theorem Rp_colour_wishAt (σ : RSt) (v : (Nat → Int32)) : r_colour (r_wishAt_s σ v) = r_colour σ := Eq.trans rfl rfl
theorem Rp_isFreed_wishAt (σ : RSt) (v : (Nat → Int32)) : r_isFreed (r_wishAt_s σ v) = r_isFreed σ := Eq.trans rfl rfl
theorem Rp_hasWish_wishAt (σ : RSt) (v : (Nat → Int32)) : r_hasWish (r_wishAt_s σ v) = r_hasWish σ := Eq.trans rfl rfl
theorem Rp_moved_wishAt (σ : RSt) (v : (Nat → Int32)) : r_moved (r_wishAt_s σ v) = r_moved σ := Eq.trans rfl rfl
theorem Rp_register_wishAt (σ : RSt) (v : (Nat → Int32)) : r_register (r_wishAt_s σ v) = r_register σ := Eq.trans rfl rfl
theorem Rp_slot_wishAt (σ : RSt) (v : (Nat → Int32)) : r_slot (r_wishAt_s σ v) = r_slot σ := Eq.trans rfl rfl
theorem Rp_wishes_wishAt (σ : RSt) (v : (Nat → Int32)) : r_wishes (r_wishAt_s σ v) = r_wishes σ := Eq.trans rfl rfl
theorem Rp_wishAt_wishAt (σ : RSt) (v : (Nat → Int32)) : r_wishAt (r_wishAt_s σ v) = v := Eq.trans rfl rfl
theorem Rp_weakAt_wishAt (σ : RSt) (v : (Nat → Int32)) : r_weakAt (r_wishAt_s σ v) = r_weakAt σ := Eq.trans rfl rfl
theorem Rp_pairs_wishAt (σ : RSt) (v : (Nat → Int32)) : r_pairs (r_wishAt_s σ v) = r_pairs σ := Eq.trans rfl rfl
theorem Rp_key_wishAt (σ : RSt) (v : (Nat → Int32)) : r_key (r_wishAt_s σ v) = r_key σ := Eq.trans rfl rfl
theorem Rp_value_wishAt (σ : RSt) (v : (Nat → Int32)) : r_value (r_wishAt_s σ v) = r_value σ := Eq.trans rfl rfl
theorem Rp_isPair_wishAt (σ : RSt) (v : (Nat → Int32)) : r_isPair (r_wishAt_s σ v) = r_isPair σ := Eq.trans rfl rfl
theorem Rp_half_wishAt (σ : RSt) (v : (Nat → Int32)) : r_half (r_wishAt_s σ v) = r_half σ := Eq.trans rfl rfl
theorem Rp_top_wishAt (σ : RSt) (v : (Nat → Int32)) : r_top (r_wishAt_s σ v) = r_top σ := Eq.trans rfl rfl
theorem Rp_way_wishAt (σ : RSt) (v : (Nat → Int32)) : r_way (r_wishAt_s σ v) = r_way σ := Eq.trans rfl rfl
theorem Rp_next_wishAt (σ : RSt) (v : (Nat → Int32)) : r_next (r_wishAt_s σ v) = r_next σ := Eq.trans rfl rfl
theorem Rp_freedMany_wishAt (σ : RSt) (v : (Nat → Int32)) : r_freedMany (r_wishAt_s σ v) = r_freedMany σ := Eq.trans rfl rfl
theorem Rp_rounds_wishAt (σ : RSt) (v : (Nat → Int32)) : r_rounds (r_wishAt_s σ v) = r_rounds σ := Eq.trans rfl rfl
theorem Rp_steps_wishAt (σ : RSt) (v : (Nat → Int32)) : r_steps (r_wishAt_s σ v) = r_steps σ := Eq.trans rfl rfl
theorem Rp_shaded_wishAt (σ : RSt) (v : (Nat → Int32)) : r_shaded (r_wishAt_s σ v) = r_shaded σ := Eq.trans rfl rfl
theorem Rp_movedMany_wishAt (σ : RSt) (v : (Nat → Int32)) : r_movedMany (r_wishAt_s σ v) = r_movedMany σ := Eq.trans rfl rfl
theorem Rp_isReached_wishAt (σ : RSt) (v : (Nat → Int32)) : r_isReached (r_wishAt_s σ v) = r_isReached σ := Eq.trans rfl rfl
theorem Rp_more_wishAt (σ : RSt) (v : (Nat → Int32)) : r_more (r_wishAt_s σ v) = r_more σ := Eq.trans rfl rfl
theorem Rp_manner_weakAt (σ : RSt) (v : (Nat → Int32)) : r_manner (r_weakAt_s σ v) = r_manner σ := Eq.trans rfl rfl
theorem Rp_fault_weakAt (σ : RSt) (v : (Nat → Int32)) : r_fault (r_weakAt_s σ v) = r_fault σ := Eq.trans rfl rfl
theorem Rp_things_weakAt (σ : RSt) (v : (Nat → Int32)) : r_things (r_weakAt_s σ v) = r_things σ := Eq.trans rfl rfl
theorem Rp_many_weakAt (σ : RSt) (v : (Nat → Int32)) : r_many (r_weakAt_s σ v) = r_many σ := Eq.trans rfl rfl
theorem Rp_field_weakAt (σ : RSt) (v : (Nat → Int32)) : r_field (r_weakAt_s σ v) = r_field σ := Eq.trans rfl rfl
theorem Rp_place_weakAt (σ : RSt) (v : (Nat → Int32)) : r_place (r_weakAt_s σ v) = r_place σ := Eq.trans rfl rfl
theorem Rp_colour_weakAt (σ : RSt) (v : (Nat → Int32)) : r_colour (r_weakAt_s σ v) = r_colour σ := Eq.trans rfl rfl
theorem Rp_isFreed_weakAt (σ : RSt) (v : (Nat → Int32)) : r_isFreed (r_weakAt_s σ v) = r_isFreed σ := Eq.trans rfl rfl
theorem Rp_hasWish_weakAt (σ : RSt) (v : (Nat → Int32)) : r_hasWish (r_weakAt_s σ v) = r_hasWish σ := Eq.trans rfl rfl
theorem Rp_moved_weakAt (σ : RSt) (v : (Nat → Int32)) : r_moved (r_weakAt_s σ v) = r_moved σ := Eq.trans rfl rfl
theorem Rp_register_weakAt (σ : RSt) (v : (Nat → Int32)) : r_register (r_weakAt_s σ v) = r_register σ := Eq.trans rfl rfl
theorem Rp_slot_weakAt (σ : RSt) (v : (Nat → Int32)) : r_slot (r_weakAt_s σ v) = r_slot σ := Eq.trans rfl rfl
theorem Rp_wishes_weakAt (σ : RSt) (v : (Nat → Int32)) : r_wishes (r_weakAt_s σ v) = r_wishes σ := Eq.trans rfl rfl
theorem Rp_wishAt_weakAt (σ : RSt) (v : (Nat → Int32)) : r_wishAt (r_weakAt_s σ v) = r_wishAt σ := Eq.trans rfl rfl
theorem Rp_weakAt_weakAt (σ : RSt) (v : (Nat → Int32)) : r_weakAt (r_weakAt_s σ v) = v := Eq.trans rfl rfl
theorem Rp_pairs_weakAt (σ : RSt) (v : (Nat → Int32)) : r_pairs (r_weakAt_s σ v) = r_pairs σ := Eq.trans rfl rfl
theorem Rp_key_weakAt (σ : RSt) (v : (Nat → Int32)) : r_key (r_weakAt_s σ v) = r_key σ := Eq.trans rfl rfl
theorem Rp_value_weakAt (σ : RSt) (v : (Nat → Int32)) : r_value (r_weakAt_s σ v) = r_value σ := Eq.trans rfl rfl
theorem Rp_isPair_weakAt (σ : RSt) (v : (Nat → Int32)) : r_isPair (r_weakAt_s σ v) = r_isPair σ := Eq.trans rfl rfl
theorem Rp_half_weakAt (σ : RSt) (v : (Nat → Int32)) : r_half (r_weakAt_s σ v) = r_half σ := Eq.trans rfl rfl
theorem Rp_top_weakAt (σ : RSt) (v : (Nat → Int32)) : r_top (r_weakAt_s σ v) = r_top σ := Eq.trans rfl rfl
theorem Rp_way_weakAt (σ : RSt) (v : (Nat → Int32)) : r_way (r_weakAt_s σ v) = r_way σ := Eq.trans rfl rfl
theorem Rp_next_weakAt (σ : RSt) (v : (Nat → Int32)) : r_next (r_weakAt_s σ v) = r_next σ := Eq.trans rfl rfl
theorem Rp_freedMany_weakAt (σ : RSt) (v : (Nat → Int32)) : r_freedMany (r_weakAt_s σ v) = r_freedMany σ := Eq.trans rfl rfl
theorem Rp_rounds_weakAt (σ : RSt) (v : (Nat → Int32)) : r_rounds (r_weakAt_s σ v) = r_rounds σ := Eq.trans rfl rfl
theorem Rp_steps_weakAt (σ : RSt) (v : (Nat → Int32)) : r_steps (r_weakAt_s σ v) = r_steps σ := Eq.trans rfl rfl
theorem Rp_shaded_weakAt (σ : RSt) (v : (Nat → Int32)) : r_shaded (r_weakAt_s σ v) = r_shaded σ := Eq.trans rfl rfl
theorem Rp_movedMany_weakAt (σ : RSt) (v : (Nat → Int32)) : r_movedMany (r_weakAt_s σ v) = r_movedMany σ := Eq.trans rfl rfl
theorem Rp_isReached_weakAt (σ : RSt) (v : (Nat → Int32)) : r_isReached (r_weakAt_s σ v) = r_isReached σ := Eq.trans rfl rfl
theorem Rp_more_weakAt (σ : RSt) (v : (Nat → Int32)) : r_more (r_weakAt_s σ v) = r_more σ := Eq.trans rfl rfl
theorem Rp_manner_pairs (σ : RSt) (v : Int32) : r_manner (r_pairs_s σ v) = r_manner σ := Eq.trans rfl rfl
theorem Rp_fault_pairs (σ : RSt) (v : Int32) : r_fault (r_pairs_s σ v) = r_fault σ := Eq.trans rfl rfl
theorem Rp_things_pairs (σ : RSt) (v : Int32) : r_things (r_pairs_s σ v) = r_things σ := Eq.trans rfl rfl
theorem Rp_many_pairs (σ : RSt) (v : Int32) : r_many (r_pairs_s σ v) = r_many σ := Eq.trans rfl rfl
theorem Rp_field_pairs (σ : RSt) (v : Int32) : r_field (r_pairs_s σ v) = r_field σ := Eq.trans rfl rfl
theorem Rp_place_pairs (σ : RSt) (v : Int32) : r_place (r_pairs_s σ v) = r_place σ := Eq.trans rfl rfl
theorem Rp_colour_pairs (σ : RSt) (v : Int32) : r_colour (r_pairs_s σ v) = r_colour σ := Eq.trans rfl rfl
theorem Rp_isFreed_pairs (σ : RSt) (v : Int32) : r_isFreed (r_pairs_s σ v) = r_isFreed σ := Eq.trans rfl rfl
theorem Rp_hasWish_pairs (σ : RSt) (v : Int32) : r_hasWish (r_pairs_s σ v) = r_hasWish σ := Eq.trans rfl rfl
theorem Rp_moved_pairs (σ : RSt) (v : Int32) : r_moved (r_pairs_s σ v) = r_moved σ := Eq.trans rfl rfl
theorem Rp_register_pairs (σ : RSt) (v : Int32) : r_register (r_pairs_s σ v) = r_register σ := Eq.trans rfl rfl
theorem Rp_slot_pairs (σ : RSt) (v : Int32) : r_slot (r_pairs_s σ v) = r_slot σ := Eq.trans rfl rfl
theorem Rp_wishes_pairs (σ : RSt) (v : Int32) : r_wishes (r_pairs_s σ v) = r_wishes σ := Eq.trans rfl rfl
theorem Rp_wishAt_pairs (σ : RSt) (v : Int32) : r_wishAt (r_pairs_s σ v) = r_wishAt σ := Eq.trans rfl rfl
theorem Rp_weakAt_pairs (σ : RSt) (v : Int32) : r_weakAt (r_pairs_s σ v) = r_weakAt σ := Eq.trans rfl rfl
theorem Rp_pairs_pairs (σ : RSt) (v : Int32) : r_pairs (r_pairs_s σ v) = v := Eq.trans rfl rfl
theorem Rp_key_pairs (σ : RSt) (v : Int32) : r_key (r_pairs_s σ v) = r_key σ := Eq.trans rfl rfl
theorem Rp_value_pairs (σ : RSt) (v : Int32) : r_value (r_pairs_s σ v) = r_value σ := Eq.trans rfl rfl
theorem Rp_isPair_pairs (σ : RSt) (v : Int32) : r_isPair (r_pairs_s σ v) = r_isPair σ := Eq.trans rfl rfl
theorem Rp_half_pairs (σ : RSt) (v : Int32) : r_half (r_pairs_s σ v) = r_half σ := Eq.trans rfl rfl
theorem Rp_top_pairs (σ : RSt) (v : Int32) : r_top (r_pairs_s σ v) = r_top σ := Eq.trans rfl rfl
theorem Rp_way_pairs (σ : RSt) (v : Int32) : r_way (r_pairs_s σ v) = r_way σ := Eq.trans rfl rfl
theorem Rp_next_pairs (σ : RSt) (v : Int32) : r_next (r_pairs_s σ v) = r_next σ := Eq.trans rfl rfl
theorem Rp_freedMany_pairs (σ : RSt) (v : Int32) : r_freedMany (r_pairs_s σ v) = r_freedMany σ := Eq.trans rfl rfl
theorem Rp_rounds_pairs (σ : RSt) (v : Int32) : r_rounds (r_pairs_s σ v) = r_rounds σ := Eq.trans rfl rfl
theorem Rp_steps_pairs (σ : RSt) (v : Int32) : r_steps (r_pairs_s σ v) = r_steps σ := Eq.trans rfl rfl
theorem Rp_shaded_pairs (σ : RSt) (v : Int32) : r_shaded (r_pairs_s σ v) = r_shaded σ := Eq.trans rfl rfl
theorem Rp_movedMany_pairs (σ : RSt) (v : Int32) : r_movedMany (r_pairs_s σ v) = r_movedMany σ := Eq.trans rfl rfl
theorem Rp_isReached_pairs (σ : RSt) (v : Int32) : r_isReached (r_pairs_s σ v) = r_isReached σ := Eq.trans rfl rfl
theorem Rp_more_pairs (σ : RSt) (v : Int32) : r_more (r_pairs_s σ v) = r_more σ := Eq.trans rfl rfl
theorem Rp_manner_key (σ : RSt) (v : (Nat → Int32)) : r_manner (r_key_s σ v) = r_manner σ := Eq.trans rfl rfl
theorem Rp_fault_key (σ : RSt) (v : (Nat → Int32)) : r_fault (r_key_s σ v) = r_fault σ := Eq.trans rfl rfl
theorem Rp_things_key (σ : RSt) (v : (Nat → Int32)) : r_things (r_key_s σ v) = r_things σ := Eq.trans rfl rfl
theorem Rp_many_key (σ : RSt) (v : (Nat → Int32)) : r_many (r_key_s σ v) = r_many σ := Eq.trans rfl rfl
theorem Rp_field_key (σ : RSt) (v : (Nat → Int32)) : r_field (r_key_s σ v) = r_field σ := Eq.trans rfl rfl
theorem Rp_place_key (σ : RSt) (v : (Nat → Int32)) : r_place (r_key_s σ v) = r_place σ := Eq.trans rfl rfl
theorem Rp_colour_key (σ : RSt) (v : (Nat → Int32)) : r_colour (r_key_s σ v) = r_colour σ := Eq.trans rfl rfl
theorem Rp_isFreed_key (σ : RSt) (v : (Nat → Int32)) : r_isFreed (r_key_s σ v) = r_isFreed σ := Eq.trans rfl rfl
theorem Rp_hasWish_key (σ : RSt) (v : (Nat → Int32)) : r_hasWish (r_key_s σ v) = r_hasWish σ := Eq.trans rfl rfl
theorem Rp_moved_key (σ : RSt) (v : (Nat → Int32)) : r_moved (r_key_s σ v) = r_moved σ := Eq.trans rfl rfl
theorem Rp_register_key (σ : RSt) (v : (Nat → Int32)) : r_register (r_key_s σ v) = r_register σ := Eq.trans rfl rfl
theorem Rp_slot_key (σ : RSt) (v : (Nat → Int32)) : r_slot (r_key_s σ v) = r_slot σ := Eq.trans rfl rfl
theorem Rp_wishes_key (σ : RSt) (v : (Nat → Int32)) : r_wishes (r_key_s σ v) = r_wishes σ := Eq.trans rfl rfl
theorem Rp_wishAt_key (σ : RSt) (v : (Nat → Int32)) : r_wishAt (r_key_s σ v) = r_wishAt σ := Eq.trans rfl rfl
theorem Rp_weakAt_key (σ : RSt) (v : (Nat → Int32)) : r_weakAt (r_key_s σ v) = r_weakAt σ := Eq.trans rfl rfl
theorem Rp_pairs_key (σ : RSt) (v : (Nat → Int32)) : r_pairs (r_key_s σ v) = r_pairs σ := Eq.trans rfl rfl
theorem Rp_key_key (σ : RSt) (v : (Nat → Int32)) : r_key (r_key_s σ v) = v := Eq.trans rfl rfl
theorem Rp_value_key (σ : RSt) (v : (Nat → Int32)) : r_value (r_key_s σ v) = r_value σ := Eq.trans rfl rfl
theorem Rp_isPair_key (σ : RSt) (v : (Nat → Int32)) : r_isPair (r_key_s σ v) = r_isPair σ := Eq.trans rfl rfl
theorem Rp_half_key (σ : RSt) (v : (Nat → Int32)) : r_half (r_key_s σ v) = r_half σ := Eq.trans rfl rfl
theorem Rp_top_key (σ : RSt) (v : (Nat → Int32)) : r_top (r_key_s σ v) = r_top σ := Eq.trans rfl rfl
theorem Rp_way_key (σ : RSt) (v : (Nat → Int32)) : r_way (r_key_s σ v) = r_way σ := Eq.trans rfl rfl
theorem Rp_next_key (σ : RSt) (v : (Nat → Int32)) : r_next (r_key_s σ v) = r_next σ := Eq.trans rfl rfl
theorem Rp_freedMany_key (σ : RSt) (v : (Nat → Int32)) : r_freedMany (r_key_s σ v) = r_freedMany σ := Eq.trans rfl rfl
theorem Rp_rounds_key (σ : RSt) (v : (Nat → Int32)) : r_rounds (r_key_s σ v) = r_rounds σ := Eq.trans rfl rfl
theorem Rp_steps_key (σ : RSt) (v : (Nat → Int32)) : r_steps (r_key_s σ v) = r_steps σ := Eq.trans rfl rfl
theorem Rp_shaded_key (σ : RSt) (v : (Nat → Int32)) : r_shaded (r_key_s σ v) = r_shaded σ := Eq.trans rfl rfl
theorem Rp_movedMany_key (σ : RSt) (v : (Nat → Int32)) : r_movedMany (r_key_s σ v) = r_movedMany σ := Eq.trans rfl rfl
theorem Rp_isReached_key (σ : RSt) (v : (Nat → Int32)) : r_isReached (r_key_s σ v) = r_isReached σ := Eq.trans rfl rfl
theorem Rp_more_key (σ : RSt) (v : (Nat → Int32)) : r_more (r_key_s σ v) = r_more σ := Eq.trans rfl rfl
theorem Rp_manner_value (σ : RSt) (v : (Nat → Int32)) : r_manner (r_value_s σ v) = r_manner σ := Eq.trans rfl rfl
theorem Rp_fault_value (σ : RSt) (v : (Nat → Int32)) : r_fault (r_value_s σ v) = r_fault σ := Eq.trans rfl rfl
theorem Rp_things_value (σ : RSt) (v : (Nat → Int32)) : r_things (r_value_s σ v) = r_things σ := Eq.trans rfl rfl
theorem Rp_many_value (σ : RSt) (v : (Nat → Int32)) : r_many (r_value_s σ v) = r_many σ := Eq.trans rfl rfl
theorem Rp_field_value (σ : RSt) (v : (Nat → Int32)) : r_field (r_value_s σ v) = r_field σ := Eq.trans rfl rfl
theorem Rp_place_value (σ : RSt) (v : (Nat → Int32)) : r_place (r_value_s σ v) = r_place σ := Eq.trans rfl rfl
theorem Rp_colour_value (σ : RSt) (v : (Nat → Int32)) : r_colour (r_value_s σ v) = r_colour σ := Eq.trans rfl rfl
theorem Rp_isFreed_value (σ : RSt) (v : (Nat → Int32)) : r_isFreed (r_value_s σ v) = r_isFreed σ := Eq.trans rfl rfl
theorem Rp_hasWish_value (σ : RSt) (v : (Nat → Int32)) : r_hasWish (r_value_s σ v) = r_hasWish σ := Eq.trans rfl rfl
theorem Rp_moved_value (σ : RSt) (v : (Nat → Int32)) : r_moved (r_value_s σ v) = r_moved σ := Eq.trans rfl rfl
theorem Rp_register_value (σ : RSt) (v : (Nat → Int32)) : r_register (r_value_s σ v) = r_register σ := Eq.trans rfl rfl
theorem Rp_slot_value (σ : RSt) (v : (Nat → Int32)) : r_slot (r_value_s σ v) = r_slot σ := Eq.trans rfl rfl
theorem Rp_wishes_value (σ : RSt) (v : (Nat → Int32)) : r_wishes (r_value_s σ v) = r_wishes σ := Eq.trans rfl rfl
theorem Rp_wishAt_value (σ : RSt) (v : (Nat → Int32)) : r_wishAt (r_value_s σ v) = r_wishAt σ := Eq.trans rfl rfl
theorem Rp_weakAt_value (σ : RSt) (v : (Nat → Int32)) : r_weakAt (r_value_s σ v) = r_weakAt σ := Eq.trans rfl rfl
theorem Rp_pairs_value (σ : RSt) (v : (Nat → Int32)) : r_pairs (r_value_s σ v) = r_pairs σ := Eq.trans rfl rfl
theorem Rp_key_value (σ : RSt) (v : (Nat → Int32)) : r_key (r_value_s σ v) = r_key σ := Eq.trans rfl rfl
theorem Rp_value_value (σ : RSt) (v : (Nat → Int32)) : r_value (r_value_s σ v) = v := Eq.trans rfl rfl
theorem Rp_isPair_value (σ : RSt) (v : (Nat → Int32)) : r_isPair (r_value_s σ v) = r_isPair σ := Eq.trans rfl rfl
theorem Rp_half_value (σ : RSt) (v : (Nat → Int32)) : r_half (r_value_s σ v) = r_half σ := Eq.trans rfl rfl
theorem Rp_top_value (σ : RSt) (v : (Nat → Int32)) : r_top (r_value_s σ v) = r_top σ := Eq.trans rfl rfl
theorem Rp_way_value (σ : RSt) (v : (Nat → Int32)) : r_way (r_value_s σ v) = r_way σ := Eq.trans rfl rfl
theorem Rp_next_value (σ : RSt) (v : (Nat → Int32)) : r_next (r_value_s σ v) = r_next σ := Eq.trans rfl rfl
theorem Rp_freedMany_value (σ : RSt) (v : (Nat → Int32)) : r_freedMany (r_value_s σ v) = r_freedMany σ := Eq.trans rfl rfl
theorem Rp_rounds_value (σ : RSt) (v : (Nat → Int32)) : r_rounds (r_value_s σ v) = r_rounds σ := Eq.trans rfl rfl
theorem Rp_steps_value (σ : RSt) (v : (Nat → Int32)) : r_steps (r_value_s σ v) = r_steps σ := Eq.trans rfl rfl
theorem Rp_shaded_value (σ : RSt) (v : (Nat → Int32)) : r_shaded (r_value_s σ v) = r_shaded σ := Eq.trans rfl rfl
theorem Rp_movedMany_value (σ : RSt) (v : (Nat → Int32)) : r_movedMany (r_value_s σ v) = r_movedMany σ := Eq.trans rfl rfl
theorem Rp_isReached_value (σ : RSt) (v : (Nat → Int32)) : r_isReached (r_value_s σ v) = r_isReached σ := Eq.trans rfl rfl
theorem Rp_more_value (σ : RSt) (v : (Nat → Int32)) : r_more (r_value_s σ v) = r_more σ := Eq.trans rfl rfl
theorem Rp_manner_isPair (σ : RSt) (v : (Nat → Int32)) : r_manner (r_isPair_s σ v) = r_manner σ := Eq.trans rfl rfl
theorem Rp_fault_isPair (σ : RSt) (v : (Nat → Int32)) : r_fault (r_isPair_s σ v) = r_fault σ := Eq.trans rfl rfl
theorem Rp_things_isPair (σ : RSt) (v : (Nat → Int32)) : r_things (r_isPair_s σ v) = r_things σ := Eq.trans rfl rfl
theorem Rp_many_isPair (σ : RSt) (v : (Nat → Int32)) : r_many (r_isPair_s σ v) = r_many σ := Eq.trans rfl rfl
theorem Rp_field_isPair (σ : RSt) (v : (Nat → Int32)) : r_field (r_isPair_s σ v) = r_field σ := Eq.trans rfl rfl
theorem Rp_place_isPair (σ : RSt) (v : (Nat → Int32)) : r_place (r_isPair_s σ v) = r_place σ := Eq.trans rfl rfl
theorem Rp_colour_isPair (σ : RSt) (v : (Nat → Int32)) : r_colour (r_isPair_s σ v) = r_colour σ := Eq.trans rfl rfl
theorem Rp_isFreed_isPair (σ : RSt) (v : (Nat → Int32)) : r_isFreed (r_isPair_s σ v) = r_isFreed σ := Eq.trans rfl rfl
theorem Rp_hasWish_isPair (σ : RSt) (v : (Nat → Int32)) : r_hasWish (r_isPair_s σ v) = r_hasWish σ := Eq.trans rfl rfl
theorem Rp_moved_isPair (σ : RSt) (v : (Nat → Int32)) : r_moved (r_isPair_s σ v) = r_moved σ := Eq.trans rfl rfl
theorem Rp_register_isPair (σ : RSt) (v : (Nat → Int32)) : r_register (r_isPair_s σ v) = r_register σ := Eq.trans rfl rfl
theorem Rp_slot_isPair (σ : RSt) (v : (Nat → Int32)) : r_slot (r_isPair_s σ v) = r_slot σ := Eq.trans rfl rfl
theorem Rp_wishes_isPair (σ : RSt) (v : (Nat → Int32)) : r_wishes (r_isPair_s σ v) = r_wishes σ := Eq.trans rfl rfl
theorem Rp_wishAt_isPair (σ : RSt) (v : (Nat → Int32)) : r_wishAt (r_isPair_s σ v) = r_wishAt σ := Eq.trans rfl rfl
theorem Rp_weakAt_isPair (σ : RSt) (v : (Nat → Int32)) : r_weakAt (r_isPair_s σ v) = r_weakAt σ := Eq.trans rfl rfl
theorem Rp_pairs_isPair (σ : RSt) (v : (Nat → Int32)) : r_pairs (r_isPair_s σ v) = r_pairs σ := Eq.trans rfl rfl
theorem Rp_key_isPair (σ : RSt) (v : (Nat → Int32)) : r_key (r_isPair_s σ v) = r_key σ := Eq.trans rfl rfl
theorem Rp_value_isPair (σ : RSt) (v : (Nat → Int32)) : r_value (r_isPair_s σ v) = r_value σ := Eq.trans rfl rfl
theorem Rp_isPair_isPair (σ : RSt) (v : (Nat → Int32)) : r_isPair (r_isPair_s σ v) = v := Eq.trans rfl rfl
theorem Rp_half_isPair (σ : RSt) (v : (Nat → Int32)) : r_half (r_isPair_s σ v) = r_half σ := Eq.trans rfl rfl
theorem Rp_top_isPair (σ : RSt) (v : (Nat → Int32)) : r_top (r_isPair_s σ v) = r_top σ := Eq.trans rfl rfl
theorem Rp_way_isPair (σ : RSt) (v : (Nat → Int32)) : r_way (r_isPair_s σ v) = r_way σ := Eq.trans rfl rfl
theorem Rp_next_isPair (σ : RSt) (v : (Nat → Int32)) : r_next (r_isPair_s σ v) = r_next σ := Eq.trans rfl rfl
theorem Rp_freedMany_isPair (σ : RSt) (v : (Nat → Int32)) : r_freedMany (r_isPair_s σ v) = r_freedMany σ := Eq.trans rfl rfl
theorem Rp_rounds_isPair (σ : RSt) (v : (Nat → Int32)) : r_rounds (r_isPair_s σ v) = r_rounds σ := Eq.trans rfl rfl
theorem Rp_steps_isPair (σ : RSt) (v : (Nat → Int32)) : r_steps (r_isPair_s σ v) = r_steps σ := Eq.trans rfl rfl
theorem Rp_shaded_isPair (σ : RSt) (v : (Nat → Int32)) : r_shaded (r_isPair_s σ v) = r_shaded σ := Eq.trans rfl rfl
theorem Rp_movedMany_isPair (σ : RSt) (v : (Nat → Int32)) : r_movedMany (r_isPair_s σ v) = r_movedMany σ := Eq.trans rfl rfl
theorem Rp_isReached_isPair (σ : RSt) (v : (Nat → Int32)) : r_isReached (r_isPair_s σ v) = r_isReached σ := Eq.trans rfl rfl
theorem Rp_more_isPair (σ : RSt) (v : (Nat → Int32)) : r_more (r_isPair_s σ v) = r_more σ := Eq.trans rfl rfl
theorem Rp_manner_half (σ : RSt) (v : Int32) : r_manner (r_half_s σ v) = r_manner σ := Eq.trans rfl rfl
theorem Rp_fault_half (σ : RSt) (v : Int32) : r_fault (r_half_s σ v) = r_fault σ := Eq.trans rfl rfl
theorem Rp_things_half (σ : RSt) (v : Int32) : r_things (r_half_s σ v) = r_things σ := Eq.trans rfl rfl
theorem Rp_many_half (σ : RSt) (v : Int32) : r_many (r_half_s σ v) = r_many σ := Eq.trans rfl rfl
theorem Rp_field_half (σ : RSt) (v : Int32) : r_field (r_half_s σ v) = r_field σ := Eq.trans rfl rfl
theorem Rp_place_half (σ : RSt) (v : Int32) : r_place (r_half_s σ v) = r_place σ := Eq.trans rfl rfl
theorem Rp_colour_half (σ : RSt) (v : Int32) : r_colour (r_half_s σ v) = r_colour σ := Eq.trans rfl rfl
theorem Rp_isFreed_half (σ : RSt) (v : Int32) : r_isFreed (r_half_s σ v) = r_isFreed σ := Eq.trans rfl rfl
theorem Rp_hasWish_half (σ : RSt) (v : Int32) : r_hasWish (r_half_s σ v) = r_hasWish σ := Eq.trans rfl rfl
theorem Rp_moved_half (σ : RSt) (v : Int32) : r_moved (r_half_s σ v) = r_moved σ := Eq.trans rfl rfl
theorem Rp_register_half (σ : RSt) (v : Int32) : r_register (r_half_s σ v) = r_register σ := Eq.trans rfl rfl
theorem Rp_slot_half (σ : RSt) (v : Int32) : r_slot (r_half_s σ v) = r_slot σ := Eq.trans rfl rfl
theorem Rp_wishes_half (σ : RSt) (v : Int32) : r_wishes (r_half_s σ v) = r_wishes σ := Eq.trans rfl rfl
theorem Rp_wishAt_half (σ : RSt) (v : Int32) : r_wishAt (r_half_s σ v) = r_wishAt σ := Eq.trans rfl rfl
theorem Rp_weakAt_half (σ : RSt) (v : Int32) : r_weakAt (r_half_s σ v) = r_weakAt σ := Eq.trans rfl rfl
theorem Rp_pairs_half (σ : RSt) (v : Int32) : r_pairs (r_half_s σ v) = r_pairs σ := Eq.trans rfl rfl
theorem Rp_key_half (σ : RSt) (v : Int32) : r_key (r_half_s σ v) = r_key σ := Eq.trans rfl rfl
theorem Rp_value_half (σ : RSt) (v : Int32) : r_value (r_half_s σ v) = r_value σ := Eq.trans rfl rfl
theorem Rp_isPair_half (σ : RSt) (v : Int32) : r_isPair (r_half_s σ v) = r_isPair σ := Eq.trans rfl rfl
theorem Rp_half_half (σ : RSt) (v : Int32) : r_half (r_half_s σ v) = v := Eq.trans rfl rfl
theorem Rp_top_half (σ : RSt) (v : Int32) : r_top (r_half_s σ v) = r_top σ := Eq.trans rfl rfl
theorem Rp_way_half (σ : RSt) (v : Int32) : r_way (r_half_s σ v) = r_way σ := Eq.trans rfl rfl
theorem Rp_next_half (σ : RSt) (v : Int32) : r_next (r_half_s σ v) = r_next σ := Eq.trans rfl rfl
theorem Rp_freedMany_half (σ : RSt) (v : Int32) : r_freedMany (r_half_s σ v) = r_freedMany σ := Eq.trans rfl rfl
theorem Rp_rounds_half (σ : RSt) (v : Int32) : r_rounds (r_half_s σ v) = r_rounds σ := Eq.trans rfl rfl
theorem Rp_steps_half (σ : RSt) (v : Int32) : r_steps (r_half_s σ v) = r_steps σ := Eq.trans rfl rfl
theorem Rp_shaded_half (σ : RSt) (v : Int32) : r_shaded (r_half_s σ v) = r_shaded σ := Eq.trans rfl rfl
theorem Rp_movedMany_half (σ : RSt) (v : Int32) : r_movedMany (r_half_s σ v) = r_movedMany σ := Eq.trans rfl rfl
theorem Rp_isReached_half (σ : RSt) (v : Int32) : r_isReached (r_half_s σ v) = r_isReached σ := Eq.trans rfl rfl
theorem Rp_more_half (σ : RSt) (v : Int32) : r_more (r_half_s σ v) = r_more σ := Eq.trans rfl rfl
theorem Rp_manner_top (σ : RSt) (v : Int32) : r_manner (r_top_s σ v) = r_manner σ := Eq.trans rfl rfl
theorem Rp_fault_top (σ : RSt) (v : Int32) : r_fault (r_top_s σ v) = r_fault σ := Eq.trans rfl rfl
theorem Rp_things_top (σ : RSt) (v : Int32) : r_things (r_top_s σ v) = r_things σ := Eq.trans rfl rfl
theorem Rp_many_top (σ : RSt) (v : Int32) : r_many (r_top_s σ v) = r_many σ := Eq.trans rfl rfl
theorem Rp_field_top (σ : RSt) (v : Int32) : r_field (r_top_s σ v) = r_field σ := Eq.trans rfl rfl
theorem Rp_place_top (σ : RSt) (v : Int32) : r_place (r_top_s σ v) = r_place σ := Eq.trans rfl rfl
theorem Rp_colour_top (σ : RSt) (v : Int32) : r_colour (r_top_s σ v) = r_colour σ := Eq.trans rfl rfl
theorem Rp_isFreed_top (σ : RSt) (v : Int32) : r_isFreed (r_top_s σ v) = r_isFreed σ := Eq.trans rfl rfl
theorem Rp_hasWish_top (σ : RSt) (v : Int32) : r_hasWish (r_top_s σ v) = r_hasWish σ := Eq.trans rfl rfl
theorem Rp_moved_top (σ : RSt) (v : Int32) : r_moved (r_top_s σ v) = r_moved σ := Eq.trans rfl rfl
theorem Rp_register_top (σ : RSt) (v : Int32) : r_register (r_top_s σ v) = r_register σ := Eq.trans rfl rfl
theorem Rp_slot_top (σ : RSt) (v : Int32) : r_slot (r_top_s σ v) = r_slot σ := Eq.trans rfl rfl
theorem Rp_wishes_top (σ : RSt) (v : Int32) : r_wishes (r_top_s σ v) = r_wishes σ := Eq.trans rfl rfl
theorem Rp_wishAt_top (σ : RSt) (v : Int32) : r_wishAt (r_top_s σ v) = r_wishAt σ := Eq.trans rfl rfl
theorem Rp_weakAt_top (σ : RSt) (v : Int32) : r_weakAt (r_top_s σ v) = r_weakAt σ := Eq.trans rfl rfl
theorem Rp_pairs_top (σ : RSt) (v : Int32) : r_pairs (r_top_s σ v) = r_pairs σ := Eq.trans rfl rfl
theorem Rp_key_top (σ : RSt) (v : Int32) : r_key (r_top_s σ v) = r_key σ := Eq.trans rfl rfl
theorem Rp_value_top (σ : RSt) (v : Int32) : r_value (r_top_s σ v) = r_value σ := Eq.trans rfl rfl
theorem Rp_isPair_top (σ : RSt) (v : Int32) : r_isPair (r_top_s σ v) = r_isPair σ := Eq.trans rfl rfl
theorem Rp_half_top (σ : RSt) (v : Int32) : r_half (r_top_s σ v) = r_half σ := Eq.trans rfl rfl
theorem Rp_top_top (σ : RSt) (v : Int32) : r_top (r_top_s σ v) = v := Eq.trans rfl rfl
theorem Rp_way_top (σ : RSt) (v : Int32) : r_way (r_top_s σ v) = r_way σ := Eq.trans rfl rfl
theorem Rp_next_top (σ : RSt) (v : Int32) : r_next (r_top_s σ v) = r_next σ := Eq.trans rfl rfl
theorem Rp_freedMany_top (σ : RSt) (v : Int32) : r_freedMany (r_top_s σ v) = r_freedMany σ := Eq.trans rfl rfl
theorem Rp_rounds_top (σ : RSt) (v : Int32) : r_rounds (r_top_s σ v) = r_rounds σ := Eq.trans rfl rfl
theorem Rp_steps_top (σ : RSt) (v : Int32) : r_steps (r_top_s σ v) = r_steps σ := Eq.trans rfl rfl
theorem Rp_shaded_top (σ : RSt) (v : Int32) : r_shaded (r_top_s σ v) = r_shaded σ := Eq.trans rfl rfl
theorem Rp_movedMany_top (σ : RSt) (v : Int32) : r_movedMany (r_top_s σ v) = r_movedMany σ := Eq.trans rfl rfl
theorem Rp_isReached_top (σ : RSt) (v : Int32) : r_isReached (r_top_s σ v) = r_isReached σ := Eq.trans rfl rfl
theorem Rp_more_top (σ : RSt) (v : Int32) : r_more (r_top_s σ v) = r_more σ := Eq.trans rfl rfl
theorem Rp_manner_way (σ : RSt) (v : Int32) : r_manner (r_way_s σ v) = r_manner σ := Eq.trans rfl rfl
theorem Rp_fault_way (σ : RSt) (v : Int32) : r_fault (r_way_s σ v) = r_fault σ := Eq.trans rfl rfl
theorem Rp_things_way (σ : RSt) (v : Int32) : r_things (r_way_s σ v) = r_things σ := Eq.trans rfl rfl
theorem Rp_many_way (σ : RSt) (v : Int32) : r_many (r_way_s σ v) = r_many σ := Eq.trans rfl rfl
theorem Rp_field_way (σ : RSt) (v : Int32) : r_field (r_way_s σ v) = r_field σ := Eq.trans rfl rfl
theorem Rp_place_way (σ : RSt) (v : Int32) : r_place (r_way_s σ v) = r_place σ := Eq.trans rfl rfl
theorem Rp_colour_way (σ : RSt) (v : Int32) : r_colour (r_way_s σ v) = r_colour σ := Eq.trans rfl rfl
theorem Rp_isFreed_way (σ : RSt) (v : Int32) : r_isFreed (r_way_s σ v) = r_isFreed σ := Eq.trans rfl rfl
theorem Rp_hasWish_way (σ : RSt) (v : Int32) : r_hasWish (r_way_s σ v) = r_hasWish σ := Eq.trans rfl rfl
theorem Rp_moved_way (σ : RSt) (v : Int32) : r_moved (r_way_s σ v) = r_moved σ := Eq.trans rfl rfl
theorem Rp_register_way (σ : RSt) (v : Int32) : r_register (r_way_s σ v) = r_register σ := Eq.trans rfl rfl
theorem Rp_slot_way (σ : RSt) (v : Int32) : r_slot (r_way_s σ v) = r_slot σ := Eq.trans rfl rfl
theorem Rp_wishes_way (σ : RSt) (v : Int32) : r_wishes (r_way_s σ v) = r_wishes σ := Eq.trans rfl rfl
theorem Rp_wishAt_way (σ : RSt) (v : Int32) : r_wishAt (r_way_s σ v) = r_wishAt σ := Eq.trans rfl rfl
theorem Rp_weakAt_way (σ : RSt) (v : Int32) : r_weakAt (r_way_s σ v) = r_weakAt σ := Eq.trans rfl rfl
theorem Rp_pairs_way (σ : RSt) (v : Int32) : r_pairs (r_way_s σ v) = r_pairs σ := Eq.trans rfl rfl
theorem Rp_key_way (σ : RSt) (v : Int32) : r_key (r_way_s σ v) = r_key σ := Eq.trans rfl rfl
theorem Rp_value_way (σ : RSt) (v : Int32) : r_value (r_way_s σ v) = r_value σ := Eq.trans rfl rfl
theorem Rp_isPair_way (σ : RSt) (v : Int32) : r_isPair (r_way_s σ v) = r_isPair σ := Eq.trans rfl rfl
theorem Rp_half_way (σ : RSt) (v : Int32) : r_half (r_way_s σ v) = r_half σ := Eq.trans rfl rfl
theorem Rp_top_way (σ : RSt) (v : Int32) : r_top (r_way_s σ v) = r_top σ := Eq.trans rfl rfl
theorem Rp_way_way (σ : RSt) (v : Int32) : r_way (r_way_s σ v) = v := Eq.trans rfl rfl
theorem Rp_next_way (σ : RSt) (v : Int32) : r_next (r_way_s σ v) = r_next σ := Eq.trans rfl rfl
theorem Rp_freedMany_way (σ : RSt) (v : Int32) : r_freedMany (r_way_s σ v) = r_freedMany σ := Eq.trans rfl rfl
theorem Rp_rounds_way (σ : RSt) (v : Int32) : r_rounds (r_way_s σ v) = r_rounds σ := Eq.trans rfl rfl
theorem Rp_steps_way (σ : RSt) (v : Int32) : r_steps (r_way_s σ v) = r_steps σ := Eq.trans rfl rfl
theorem Rp_shaded_way (σ : RSt) (v : Int32) : r_shaded (r_way_s σ v) = r_shaded σ := Eq.trans rfl rfl
theorem Rp_movedMany_way (σ : RSt) (v : Int32) : r_movedMany (r_way_s σ v) = r_movedMany σ := Eq.trans rfl rfl
theorem Rp_isReached_way (σ : RSt) (v : Int32) : r_isReached (r_way_s σ v) = r_isReached σ := Eq.trans rfl rfl
theorem Rp_more_way (σ : RSt) (v : Int32) : r_more (r_way_s σ v) = r_more σ := Eq.trans rfl rfl
theorem Rp_manner_next (σ : RSt) (v : Int32) : r_manner (r_next_s σ v) = r_manner σ := Eq.trans rfl rfl
theorem Rp_fault_next (σ : RSt) (v : Int32) : r_fault (r_next_s σ v) = r_fault σ := Eq.trans rfl rfl
theorem Rp_things_next (σ : RSt) (v : Int32) : r_things (r_next_s σ v) = r_things σ := Eq.trans rfl rfl
theorem Rp_many_next (σ : RSt) (v : Int32) : r_many (r_next_s σ v) = r_many σ := Eq.trans rfl rfl
theorem Rp_field_next (σ : RSt) (v : Int32) : r_field (r_next_s σ v) = r_field σ := Eq.trans rfl rfl
theorem Rp_place_next (σ : RSt) (v : Int32) : r_place (r_next_s σ v) = r_place σ := Eq.trans rfl rfl
theorem Rp_colour_next (σ : RSt) (v : Int32) : r_colour (r_next_s σ v) = r_colour σ := Eq.trans rfl rfl
theorem Rp_isFreed_next (σ : RSt) (v : Int32) : r_isFreed (r_next_s σ v) = r_isFreed σ := Eq.trans rfl rfl
theorem Rp_hasWish_next (σ : RSt) (v : Int32) : r_hasWish (r_next_s σ v) = r_hasWish σ := Eq.trans rfl rfl
theorem Rp_moved_next (σ : RSt) (v : Int32) : r_moved (r_next_s σ v) = r_moved σ := Eq.trans rfl rfl
theorem Rp_register_next (σ : RSt) (v : Int32) : r_register (r_next_s σ v) = r_register σ := Eq.trans rfl rfl
theorem Rp_slot_next (σ : RSt) (v : Int32) : r_slot (r_next_s σ v) = r_slot σ := Eq.trans rfl rfl
theorem Rp_wishes_next (σ : RSt) (v : Int32) : r_wishes (r_next_s σ v) = r_wishes σ := Eq.trans rfl rfl
theorem Rp_wishAt_next (σ : RSt) (v : Int32) : r_wishAt (r_next_s σ v) = r_wishAt σ := Eq.trans rfl rfl
theorem Rp_weakAt_next (σ : RSt) (v : Int32) : r_weakAt (r_next_s σ v) = r_weakAt σ := Eq.trans rfl rfl
theorem Rp_pairs_next (σ : RSt) (v : Int32) : r_pairs (r_next_s σ v) = r_pairs σ := Eq.trans rfl rfl
theorem Rp_key_next (σ : RSt) (v : Int32) : r_key (r_next_s σ v) = r_key σ := Eq.trans rfl rfl
theorem Rp_value_next (σ : RSt) (v : Int32) : r_value (r_next_s σ v) = r_value σ := Eq.trans rfl rfl
theorem Rp_isPair_next (σ : RSt) (v : Int32) : r_isPair (r_next_s σ v) = r_isPair σ := Eq.trans rfl rfl
theorem Rp_half_next (σ : RSt) (v : Int32) : r_half (r_next_s σ v) = r_half σ := Eq.trans rfl rfl
theorem Rp_top_next (σ : RSt) (v : Int32) : r_top (r_next_s σ v) = r_top σ := Eq.trans rfl rfl
theorem Rp_way_next (σ : RSt) (v : Int32) : r_way (r_next_s σ v) = r_way σ := Eq.trans rfl rfl
theorem Rp_next_next (σ : RSt) (v : Int32) : r_next (r_next_s σ v) = v := Eq.trans rfl rfl
theorem Rp_freedMany_next (σ : RSt) (v : Int32) : r_freedMany (r_next_s σ v) = r_freedMany σ := Eq.trans rfl rfl
theorem Rp_rounds_next (σ : RSt) (v : Int32) : r_rounds (r_next_s σ v) = r_rounds σ := Eq.trans rfl rfl
theorem Rp_steps_next (σ : RSt) (v : Int32) : r_steps (r_next_s σ v) = r_steps σ := Eq.trans rfl rfl
theorem Rp_shaded_next (σ : RSt) (v : Int32) : r_shaded (r_next_s σ v) = r_shaded σ := Eq.trans rfl rfl
theorem Rp_movedMany_next (σ : RSt) (v : Int32) : r_movedMany (r_next_s σ v) = r_movedMany σ := Eq.trans rfl rfl
theorem Rp_isReached_next (σ : RSt) (v : Int32) : r_isReached (r_next_s σ v) = r_isReached σ := Eq.trans rfl rfl
theorem Rp_more_next (σ : RSt) (v : Int32) : r_more (r_next_s σ v) = r_more σ := Eq.trans rfl rfl
theorem Rp_manner_freedMany (σ : RSt) (v : Int32) : r_manner (r_freedMany_s σ v) = r_manner σ := Eq.trans rfl rfl
theorem Rp_fault_freedMany (σ : RSt) (v : Int32) : r_fault (r_freedMany_s σ v) = r_fault σ := Eq.trans rfl rfl
theorem Rp_things_freedMany (σ : RSt) (v : Int32) : r_things (r_freedMany_s σ v) = r_things σ := Eq.trans rfl rfl
theorem Rp_many_freedMany (σ : RSt) (v : Int32) : r_many (r_freedMany_s σ v) = r_many σ := Eq.trans rfl rfl
theorem Rp_field_freedMany (σ : RSt) (v : Int32) : r_field (r_freedMany_s σ v) = r_field σ := Eq.trans rfl rfl
theorem Rp_place_freedMany (σ : RSt) (v : Int32) : r_place (r_freedMany_s σ v) = r_place σ := Eq.trans rfl rfl
theorem Rp_colour_freedMany (σ : RSt) (v : Int32) : r_colour (r_freedMany_s σ v) = r_colour σ := Eq.trans rfl rfl
theorem Rp_isFreed_freedMany (σ : RSt) (v : Int32) : r_isFreed (r_freedMany_s σ v) = r_isFreed σ := Eq.trans rfl rfl
theorem Rp_hasWish_freedMany (σ : RSt) (v : Int32) : r_hasWish (r_freedMany_s σ v) = r_hasWish σ := Eq.trans rfl rfl
theorem Rp_moved_freedMany (σ : RSt) (v : Int32) : r_moved (r_freedMany_s σ v) = r_moved σ := Eq.trans rfl rfl
theorem Rp_register_freedMany (σ : RSt) (v : Int32) : r_register (r_freedMany_s σ v) = r_register σ := Eq.trans rfl rfl
theorem Rp_slot_freedMany (σ : RSt) (v : Int32) : r_slot (r_freedMany_s σ v) = r_slot σ := Eq.trans rfl rfl
theorem Rp_wishes_freedMany (σ : RSt) (v : Int32) : r_wishes (r_freedMany_s σ v) = r_wishes σ := Eq.trans rfl rfl
theorem Rp_wishAt_freedMany (σ : RSt) (v : Int32) : r_wishAt (r_freedMany_s σ v) = r_wishAt σ := Eq.trans rfl rfl
theorem Rp_weakAt_freedMany (σ : RSt) (v : Int32) : r_weakAt (r_freedMany_s σ v) = r_weakAt σ := Eq.trans rfl rfl
theorem Rp_pairs_freedMany (σ : RSt) (v : Int32) : r_pairs (r_freedMany_s σ v) = r_pairs σ := Eq.trans rfl rfl
theorem Rp_key_freedMany (σ : RSt) (v : Int32) : r_key (r_freedMany_s σ v) = r_key σ := Eq.trans rfl rfl
theorem Rp_value_freedMany (σ : RSt) (v : Int32) : r_value (r_freedMany_s σ v) = r_value σ := Eq.trans rfl rfl
theorem Rp_isPair_freedMany (σ : RSt) (v : Int32) : r_isPair (r_freedMany_s σ v) = r_isPair σ := Eq.trans rfl rfl
theorem Rp_half_freedMany (σ : RSt) (v : Int32) : r_half (r_freedMany_s σ v) = r_half σ := Eq.trans rfl rfl
theorem Rp_top_freedMany (σ : RSt) (v : Int32) : r_top (r_freedMany_s σ v) = r_top σ := Eq.trans rfl rfl
theorem Rp_way_freedMany (σ : RSt) (v : Int32) : r_way (r_freedMany_s σ v) = r_way σ := Eq.trans rfl rfl
theorem Rp_next_freedMany (σ : RSt) (v : Int32) : r_next (r_freedMany_s σ v) = r_next σ := Eq.trans rfl rfl
theorem Rp_freedMany_freedMany (σ : RSt) (v : Int32) : r_freedMany (r_freedMany_s σ v) = v := Eq.trans rfl rfl
theorem Rp_rounds_freedMany (σ : RSt) (v : Int32) : r_rounds (r_freedMany_s σ v) = r_rounds σ := Eq.trans rfl rfl
theorem Rp_steps_freedMany (σ : RSt) (v : Int32) : r_steps (r_freedMany_s σ v) = r_steps σ := Eq.trans rfl rfl
theorem Rp_shaded_freedMany (σ : RSt) (v : Int32) : r_shaded (r_freedMany_s σ v) = r_shaded σ := Eq.trans rfl rfl
theorem Rp_movedMany_freedMany (σ : RSt) (v : Int32) : r_movedMany (r_freedMany_s σ v) = r_movedMany σ := Eq.trans rfl rfl
theorem Rp_isReached_freedMany (σ : RSt) (v : Int32) : r_isReached (r_freedMany_s σ v) = r_isReached σ := Eq.trans rfl rfl
theorem Rp_more_freedMany (σ : RSt) (v : Int32) : r_more (r_freedMany_s σ v) = r_more σ := Eq.trans rfl rfl
theorem Rp_manner_rounds (σ : RSt) (v : Int32) : r_manner (r_rounds_s σ v) = r_manner σ := Eq.trans rfl rfl
theorem Rp_fault_rounds (σ : RSt) (v : Int32) : r_fault (r_rounds_s σ v) = r_fault σ := Eq.trans rfl rfl
theorem Rp_things_rounds (σ : RSt) (v : Int32) : r_things (r_rounds_s σ v) = r_things σ := Eq.trans rfl rfl
theorem Rp_many_rounds (σ : RSt) (v : Int32) : r_many (r_rounds_s σ v) = r_many σ := Eq.trans rfl rfl
theorem Rp_field_rounds (σ : RSt) (v : Int32) : r_field (r_rounds_s σ v) = r_field σ := Eq.trans rfl rfl
theorem Rp_place_rounds (σ : RSt) (v : Int32) : r_place (r_rounds_s σ v) = r_place σ := Eq.trans rfl rfl
theorem Rp_colour_rounds (σ : RSt) (v : Int32) : r_colour (r_rounds_s σ v) = r_colour σ := Eq.trans rfl rfl
theorem Rp_isFreed_rounds (σ : RSt) (v : Int32) : r_isFreed (r_rounds_s σ v) = r_isFreed σ := Eq.trans rfl rfl
theorem Rp_hasWish_rounds (σ : RSt) (v : Int32) : r_hasWish (r_rounds_s σ v) = r_hasWish σ := Eq.trans rfl rfl
theorem Rp_moved_rounds (σ : RSt) (v : Int32) : r_moved (r_rounds_s σ v) = r_moved σ := Eq.trans rfl rfl
theorem Rp_register_rounds (σ : RSt) (v : Int32) : r_register (r_rounds_s σ v) = r_register σ := Eq.trans rfl rfl
theorem Rp_slot_rounds (σ : RSt) (v : Int32) : r_slot (r_rounds_s σ v) = r_slot σ := Eq.trans rfl rfl
theorem Rp_wishes_rounds (σ : RSt) (v : Int32) : r_wishes (r_rounds_s σ v) = r_wishes σ := Eq.trans rfl rfl
theorem Rp_wishAt_rounds (σ : RSt) (v : Int32) : r_wishAt (r_rounds_s σ v) = r_wishAt σ := Eq.trans rfl rfl
theorem Rp_weakAt_rounds (σ : RSt) (v : Int32) : r_weakAt (r_rounds_s σ v) = r_weakAt σ := Eq.trans rfl rfl
theorem Rp_pairs_rounds (σ : RSt) (v : Int32) : r_pairs (r_rounds_s σ v) = r_pairs σ := Eq.trans rfl rfl
theorem Rp_key_rounds (σ : RSt) (v : Int32) : r_key (r_rounds_s σ v) = r_key σ := Eq.trans rfl rfl
theorem Rp_value_rounds (σ : RSt) (v : Int32) : r_value (r_rounds_s σ v) = r_value σ := Eq.trans rfl rfl
theorem Rp_isPair_rounds (σ : RSt) (v : Int32) : r_isPair (r_rounds_s σ v) = r_isPair σ := Eq.trans rfl rfl
theorem Rp_half_rounds (σ : RSt) (v : Int32) : r_half (r_rounds_s σ v) = r_half σ := Eq.trans rfl rfl
theorem Rp_top_rounds (σ : RSt) (v : Int32) : r_top (r_rounds_s σ v) = r_top σ := Eq.trans rfl rfl
theorem Rp_way_rounds (σ : RSt) (v : Int32) : r_way (r_rounds_s σ v) = r_way σ := Eq.trans rfl rfl
theorem Rp_next_rounds (σ : RSt) (v : Int32) : r_next (r_rounds_s σ v) = r_next σ := Eq.trans rfl rfl
theorem Rp_freedMany_rounds (σ : RSt) (v : Int32) : r_freedMany (r_rounds_s σ v) = r_freedMany σ := Eq.trans rfl rfl
theorem Rp_rounds_rounds (σ : RSt) (v : Int32) : r_rounds (r_rounds_s σ v) = v := Eq.trans rfl rfl
theorem Rp_steps_rounds (σ : RSt) (v : Int32) : r_steps (r_rounds_s σ v) = r_steps σ := Eq.trans rfl rfl
theorem Rp_shaded_rounds (σ : RSt) (v : Int32) : r_shaded (r_rounds_s σ v) = r_shaded σ := Eq.trans rfl rfl
theorem Rp_movedMany_rounds (σ : RSt) (v : Int32) : r_movedMany (r_rounds_s σ v) = r_movedMany σ := Eq.trans rfl rfl
theorem Rp_isReached_rounds (σ : RSt) (v : Int32) : r_isReached (r_rounds_s σ v) = r_isReached σ := Eq.trans rfl rfl
theorem Rp_more_rounds (σ : RSt) (v : Int32) : r_more (r_rounds_s σ v) = r_more σ := Eq.trans rfl rfl
theorem Rp_manner_steps (σ : RSt) (v : Int32) : r_manner (r_steps_s σ v) = r_manner σ := Eq.trans rfl rfl
theorem Rp_fault_steps (σ : RSt) (v : Int32) : r_fault (r_steps_s σ v) = r_fault σ := Eq.trans rfl rfl
theorem Rp_things_steps (σ : RSt) (v : Int32) : r_things (r_steps_s σ v) = r_things σ := Eq.trans rfl rfl
theorem Rp_many_steps (σ : RSt) (v : Int32) : r_many (r_steps_s σ v) = r_many σ := Eq.trans rfl rfl
theorem Rp_field_steps (σ : RSt) (v : Int32) : r_field (r_steps_s σ v) = r_field σ := Eq.trans rfl rfl
theorem Rp_place_steps (σ : RSt) (v : Int32) : r_place (r_steps_s σ v) = r_place σ := Eq.trans rfl rfl
theorem Rp_colour_steps (σ : RSt) (v : Int32) : r_colour (r_steps_s σ v) = r_colour σ := Eq.trans rfl rfl
theorem Rp_isFreed_steps (σ : RSt) (v : Int32) : r_isFreed (r_steps_s σ v) = r_isFreed σ := Eq.trans rfl rfl
theorem Rp_hasWish_steps (σ : RSt) (v : Int32) : r_hasWish (r_steps_s σ v) = r_hasWish σ := Eq.trans rfl rfl
theorem Rp_moved_steps (σ : RSt) (v : Int32) : r_moved (r_steps_s σ v) = r_moved σ := Eq.trans rfl rfl
theorem Rp_register_steps (σ : RSt) (v : Int32) : r_register (r_steps_s σ v) = r_register σ := Eq.trans rfl rfl
theorem Rp_slot_steps (σ : RSt) (v : Int32) : r_slot (r_steps_s σ v) = r_slot σ := Eq.trans rfl rfl
theorem Rp_wishes_steps (σ : RSt) (v : Int32) : r_wishes (r_steps_s σ v) = r_wishes σ := Eq.trans rfl rfl
theorem Rp_wishAt_steps (σ : RSt) (v : Int32) : r_wishAt (r_steps_s σ v) = r_wishAt σ := Eq.trans rfl rfl
theorem Rp_weakAt_steps (σ : RSt) (v : Int32) : r_weakAt (r_steps_s σ v) = r_weakAt σ := Eq.trans rfl rfl
theorem Rp_pairs_steps (σ : RSt) (v : Int32) : r_pairs (r_steps_s σ v) = r_pairs σ := Eq.trans rfl rfl
theorem Rp_key_steps (σ : RSt) (v : Int32) : r_key (r_steps_s σ v) = r_key σ := Eq.trans rfl rfl
theorem Rp_value_steps (σ : RSt) (v : Int32) : r_value (r_steps_s σ v) = r_value σ := Eq.trans rfl rfl
theorem Rp_isPair_steps (σ : RSt) (v : Int32) : r_isPair (r_steps_s σ v) = r_isPair σ := Eq.trans rfl rfl
theorem Rp_half_steps (σ : RSt) (v : Int32) : r_half (r_steps_s σ v) = r_half σ := Eq.trans rfl rfl
theorem Rp_top_steps (σ : RSt) (v : Int32) : r_top (r_steps_s σ v) = r_top σ := Eq.trans rfl rfl
theorem Rp_way_steps (σ : RSt) (v : Int32) : r_way (r_steps_s σ v) = r_way σ := Eq.trans rfl rfl
theorem Rp_next_steps (σ : RSt) (v : Int32) : r_next (r_steps_s σ v) = r_next σ := Eq.trans rfl rfl
theorem Rp_freedMany_steps (σ : RSt) (v : Int32) : r_freedMany (r_steps_s σ v) = r_freedMany σ := Eq.trans rfl rfl
theorem Rp_rounds_steps (σ : RSt) (v : Int32) : r_rounds (r_steps_s σ v) = r_rounds σ := Eq.trans rfl rfl
theorem Rp_steps_steps (σ : RSt) (v : Int32) : r_steps (r_steps_s σ v) = v := Eq.trans rfl rfl
theorem Rp_shaded_steps (σ : RSt) (v : Int32) : r_shaded (r_steps_s σ v) = r_shaded σ := Eq.trans rfl rfl
theorem Rp_movedMany_steps (σ : RSt) (v : Int32) : r_movedMany (r_steps_s σ v) = r_movedMany σ := Eq.trans rfl rfl
theorem Rp_isReached_steps (σ : RSt) (v : Int32) : r_isReached (r_steps_s σ v) = r_isReached σ := Eq.trans rfl rfl
theorem Rp_more_steps (σ : RSt) (v : Int32) : r_more (r_steps_s σ v) = r_more σ := Eq.trans rfl rfl
theorem Rp_manner_shaded (σ : RSt) (v : Int32) : r_manner (r_shaded_s σ v) = r_manner σ := Eq.trans rfl rfl
theorem Rp_fault_shaded (σ : RSt) (v : Int32) : r_fault (r_shaded_s σ v) = r_fault σ := Eq.trans rfl rfl
theorem Rp_things_shaded (σ : RSt) (v : Int32) : r_things (r_shaded_s σ v) = r_things σ := Eq.trans rfl rfl
theorem Rp_many_shaded (σ : RSt) (v : Int32) : r_many (r_shaded_s σ v) = r_many σ := Eq.trans rfl rfl
theorem Rp_field_shaded (σ : RSt) (v : Int32) : r_field (r_shaded_s σ v) = r_field σ := Eq.trans rfl rfl
theorem Rp_place_shaded (σ : RSt) (v : Int32) : r_place (r_shaded_s σ v) = r_place σ := Eq.trans rfl rfl
theorem Rp_colour_shaded (σ : RSt) (v : Int32) : r_colour (r_shaded_s σ v) = r_colour σ := Eq.trans rfl rfl
theorem Rp_isFreed_shaded (σ : RSt) (v : Int32) : r_isFreed (r_shaded_s σ v) = r_isFreed σ := Eq.trans rfl rfl
theorem Rp_hasWish_shaded (σ : RSt) (v : Int32) : r_hasWish (r_shaded_s σ v) = r_hasWish σ := Eq.trans rfl rfl
theorem Rp_moved_shaded (σ : RSt) (v : Int32) : r_moved (r_shaded_s σ v) = r_moved σ := Eq.trans rfl rfl
theorem Rp_register_shaded (σ : RSt) (v : Int32) : r_register (r_shaded_s σ v) = r_register σ := Eq.trans rfl rfl
theorem Rp_slot_shaded (σ : RSt) (v : Int32) : r_slot (r_shaded_s σ v) = r_slot σ := Eq.trans rfl rfl
theorem Rp_wishes_shaded (σ : RSt) (v : Int32) : r_wishes (r_shaded_s σ v) = r_wishes σ := Eq.trans rfl rfl
theorem Rp_wishAt_shaded (σ : RSt) (v : Int32) : r_wishAt (r_shaded_s σ v) = r_wishAt σ := Eq.trans rfl rfl
theorem Rp_weakAt_shaded (σ : RSt) (v : Int32) : r_weakAt (r_shaded_s σ v) = r_weakAt σ := Eq.trans rfl rfl
theorem Rp_pairs_shaded (σ : RSt) (v : Int32) : r_pairs (r_shaded_s σ v) = r_pairs σ := Eq.trans rfl rfl
theorem Rp_key_shaded (σ : RSt) (v : Int32) : r_key (r_shaded_s σ v) = r_key σ := Eq.trans rfl rfl
theorem Rp_value_shaded (σ : RSt) (v : Int32) : r_value (r_shaded_s σ v) = r_value σ := Eq.trans rfl rfl
theorem Rp_isPair_shaded (σ : RSt) (v : Int32) : r_isPair (r_shaded_s σ v) = r_isPair σ := Eq.trans rfl rfl
theorem Rp_half_shaded (σ : RSt) (v : Int32) : r_half (r_shaded_s σ v) = r_half σ := Eq.trans rfl rfl
theorem Rp_top_shaded (σ : RSt) (v : Int32) : r_top (r_shaded_s σ v) = r_top σ := Eq.trans rfl rfl
theorem Rp_way_shaded (σ : RSt) (v : Int32) : r_way (r_shaded_s σ v) = r_way σ := Eq.trans rfl rfl
theorem Rp_next_shaded (σ : RSt) (v : Int32) : r_next (r_shaded_s σ v) = r_next σ := Eq.trans rfl rfl
theorem Rp_freedMany_shaded (σ : RSt) (v : Int32) : r_freedMany (r_shaded_s σ v) = r_freedMany σ := Eq.trans rfl rfl
theorem Rp_rounds_shaded (σ : RSt) (v : Int32) : r_rounds (r_shaded_s σ v) = r_rounds σ := Eq.trans rfl rfl
theorem Rp_steps_shaded (σ : RSt) (v : Int32) : r_steps (r_shaded_s σ v) = r_steps σ := Eq.trans rfl rfl
theorem Rp_shaded_shaded (σ : RSt) (v : Int32) : r_shaded (r_shaded_s σ v) = v := Eq.trans rfl rfl
theorem Rp_movedMany_shaded (σ : RSt) (v : Int32) : r_movedMany (r_shaded_s σ v) = r_movedMany σ := Eq.trans rfl rfl
theorem Rp_isReached_shaded (σ : RSt) (v : Int32) : r_isReached (r_shaded_s σ v) = r_isReached σ := Eq.trans rfl rfl
theorem Rp_more_shaded (σ : RSt) (v : Int32) : r_more (r_shaded_s σ v) = r_more σ := Eq.trans rfl rfl
theorem Rp_manner_movedMany (σ : RSt) (v : Int32) : r_manner (r_movedMany_s σ v) = r_manner σ := Eq.trans rfl rfl
theorem Rp_fault_movedMany (σ : RSt) (v : Int32) : r_fault (r_movedMany_s σ v) = r_fault σ := Eq.trans rfl rfl
theorem Rp_things_movedMany (σ : RSt) (v : Int32) : r_things (r_movedMany_s σ v) = r_things σ := Eq.trans rfl rfl
theorem Rp_many_movedMany (σ : RSt) (v : Int32) : r_many (r_movedMany_s σ v) = r_many σ := Eq.trans rfl rfl
theorem Rp_field_movedMany (σ : RSt) (v : Int32) : r_field (r_movedMany_s σ v) = r_field σ := Eq.trans rfl rfl
theorem Rp_place_movedMany (σ : RSt) (v : Int32) : r_place (r_movedMany_s σ v) = r_place σ := Eq.trans rfl rfl
theorem Rp_colour_movedMany (σ : RSt) (v : Int32) : r_colour (r_movedMany_s σ v) = r_colour σ := Eq.trans rfl rfl
theorem Rp_isFreed_movedMany (σ : RSt) (v : Int32) : r_isFreed (r_movedMany_s σ v) = r_isFreed σ := Eq.trans rfl rfl
theorem Rp_hasWish_movedMany (σ : RSt) (v : Int32) : r_hasWish (r_movedMany_s σ v) = r_hasWish σ := Eq.trans rfl rfl
theorem Rp_moved_movedMany (σ : RSt) (v : Int32) : r_moved (r_movedMany_s σ v) = r_moved σ := Eq.trans rfl rfl
theorem Rp_register_movedMany (σ : RSt) (v : Int32) : r_register (r_movedMany_s σ v) = r_register σ := Eq.trans rfl rfl
theorem Rp_slot_movedMany (σ : RSt) (v : Int32) : r_slot (r_movedMany_s σ v) = r_slot σ := Eq.trans rfl rfl
theorem Rp_wishes_movedMany (σ : RSt) (v : Int32) : r_wishes (r_movedMany_s σ v) = r_wishes σ := Eq.trans rfl rfl
theorem Rp_wishAt_movedMany (σ : RSt) (v : Int32) : r_wishAt (r_movedMany_s σ v) = r_wishAt σ := Eq.trans rfl rfl
theorem Rp_weakAt_movedMany (σ : RSt) (v : Int32) : r_weakAt (r_movedMany_s σ v) = r_weakAt σ := Eq.trans rfl rfl
theorem Rp_pairs_movedMany (σ : RSt) (v : Int32) : r_pairs (r_movedMany_s σ v) = r_pairs σ := Eq.trans rfl rfl
theorem Rp_key_movedMany (σ : RSt) (v : Int32) : r_key (r_movedMany_s σ v) = r_key σ := Eq.trans rfl rfl
theorem Rp_value_movedMany (σ : RSt) (v : Int32) : r_value (r_movedMany_s σ v) = r_value σ := Eq.trans rfl rfl
theorem Rp_isPair_movedMany (σ : RSt) (v : Int32) : r_isPair (r_movedMany_s σ v) = r_isPair σ := Eq.trans rfl rfl
theorem Rp_half_movedMany (σ : RSt) (v : Int32) : r_half (r_movedMany_s σ v) = r_half σ := Eq.trans rfl rfl
theorem Rp_top_movedMany (σ : RSt) (v : Int32) : r_top (r_movedMany_s σ v) = r_top σ := Eq.trans rfl rfl
theorem Rp_way_movedMany (σ : RSt) (v : Int32) : r_way (r_movedMany_s σ v) = r_way σ := Eq.trans rfl rfl
theorem Rp_next_movedMany (σ : RSt) (v : Int32) : r_next (r_movedMany_s σ v) = r_next σ := Eq.trans rfl rfl
theorem Rp_freedMany_movedMany (σ : RSt) (v : Int32) : r_freedMany (r_movedMany_s σ v) = r_freedMany σ := Eq.trans rfl rfl
theorem Rp_rounds_movedMany (σ : RSt) (v : Int32) : r_rounds (r_movedMany_s σ v) = r_rounds σ := Eq.trans rfl rfl
theorem Rp_steps_movedMany (σ : RSt) (v : Int32) : r_steps (r_movedMany_s σ v) = r_steps σ := Eq.trans rfl rfl
theorem Rp_shaded_movedMany (σ : RSt) (v : Int32) : r_shaded (r_movedMany_s σ v) = r_shaded σ := Eq.trans rfl rfl
theorem Rp_movedMany_movedMany (σ : RSt) (v : Int32) : r_movedMany (r_movedMany_s σ v) = v := Eq.trans rfl rfl
theorem Rp_isReached_movedMany (σ : RSt) (v : Int32) : r_isReached (r_movedMany_s σ v) = r_isReached σ := Eq.trans rfl rfl
theorem Rp_more_movedMany (σ : RSt) (v : Int32) : r_more (r_movedMany_s σ v) = r_more σ := Eq.trans rfl rfl
theorem Rp_manner_isReached (σ : RSt) (v : (Nat → Int32)) : r_manner (r_isReached_s σ v) = r_manner σ := Eq.trans rfl rfl
theorem Rp_fault_isReached (σ : RSt) (v : (Nat → Int32)) : r_fault (r_isReached_s σ v) = r_fault σ := Eq.trans rfl rfl
theorem Rp_things_isReached (σ : RSt) (v : (Nat → Int32)) : r_things (r_isReached_s σ v) = r_things σ := Eq.trans rfl rfl
theorem Rp_many_isReached (σ : RSt) (v : (Nat → Int32)) : r_many (r_isReached_s σ v) = r_many σ := Eq.trans rfl rfl
theorem Rp_field_isReached (σ : RSt) (v : (Nat → Int32)) : r_field (r_isReached_s σ v) = r_field σ := Eq.trans rfl rfl
theorem Rp_place_isReached (σ : RSt) (v : (Nat → Int32)) : r_place (r_isReached_s σ v) = r_place σ := Eq.trans rfl rfl
theorem Rp_colour_isReached (σ : RSt) (v : (Nat → Int32)) : r_colour (r_isReached_s σ v) = r_colour σ := Eq.trans rfl rfl
theorem Rp_isFreed_isReached (σ : RSt) (v : (Nat → Int32)) : r_isFreed (r_isReached_s σ v) = r_isFreed σ := Eq.trans rfl rfl
theorem Rp_hasWish_isReached (σ : RSt) (v : (Nat → Int32)) : r_hasWish (r_isReached_s σ v) = r_hasWish σ := Eq.trans rfl rfl
theorem Rp_moved_isReached (σ : RSt) (v : (Nat → Int32)) : r_moved (r_isReached_s σ v) = r_moved σ := Eq.trans rfl rfl
theorem Rp_register_isReached (σ : RSt) (v : (Nat → Int32)) : r_register (r_isReached_s σ v) = r_register σ := Eq.trans rfl rfl
theorem Rp_slot_isReached (σ : RSt) (v : (Nat → Int32)) : r_slot (r_isReached_s σ v) = r_slot σ := Eq.trans rfl rfl
theorem Rp_wishes_isReached (σ : RSt) (v : (Nat → Int32)) : r_wishes (r_isReached_s σ v) = r_wishes σ := Eq.trans rfl rfl
theorem Rp_wishAt_isReached (σ : RSt) (v : (Nat → Int32)) : r_wishAt (r_isReached_s σ v) = r_wishAt σ := Eq.trans rfl rfl
theorem Rp_weakAt_isReached (σ : RSt) (v : (Nat → Int32)) : r_weakAt (r_isReached_s σ v) = r_weakAt σ := Eq.trans rfl rfl
theorem Rp_pairs_isReached (σ : RSt) (v : (Nat → Int32)) : r_pairs (r_isReached_s σ v) = r_pairs σ := Eq.trans rfl rfl
theorem Rp_key_isReached (σ : RSt) (v : (Nat → Int32)) : r_key (r_isReached_s σ v) = r_key σ := Eq.trans rfl rfl
theorem Rp_value_isReached (σ : RSt) (v : (Nat → Int32)) : r_value (r_isReached_s σ v) = r_value σ := Eq.trans rfl rfl
theorem Rp_isPair_isReached (σ : RSt) (v : (Nat → Int32)) : r_isPair (r_isReached_s σ v) = r_isPair σ := Eq.trans rfl rfl
theorem Rp_half_isReached (σ : RSt) (v : (Nat → Int32)) : r_half (r_isReached_s σ v) = r_half σ := Eq.trans rfl rfl
theorem Rp_top_isReached (σ : RSt) (v : (Nat → Int32)) : r_top (r_isReached_s σ v) = r_top σ := Eq.trans rfl rfl
theorem Rp_way_isReached (σ : RSt) (v : (Nat → Int32)) : r_way (r_isReached_s σ v) = r_way σ := Eq.trans rfl rfl
theorem Rp_next_isReached (σ : RSt) (v : (Nat → Int32)) : r_next (r_isReached_s σ v) = r_next σ := Eq.trans rfl rfl
theorem Rp_freedMany_isReached (σ : RSt) (v : (Nat → Int32)) : r_freedMany (r_isReached_s σ v) = r_freedMany σ := Eq.trans rfl rfl
theorem Rp_rounds_isReached (σ : RSt) (v : (Nat → Int32)) : r_rounds (r_isReached_s σ v) = r_rounds σ := Eq.trans rfl rfl
theorem Rp_steps_isReached (σ : RSt) (v : (Nat → Int32)) : r_steps (r_isReached_s σ v) = r_steps σ := Eq.trans rfl rfl
theorem Rp_shaded_isReached (σ : RSt) (v : (Nat → Int32)) : r_shaded (r_isReached_s σ v) = r_shaded σ := Eq.trans rfl rfl
theorem Rp_movedMany_isReached (σ : RSt) (v : (Nat → Int32)) : r_movedMany (r_isReached_s σ v) = r_movedMany σ := Eq.trans rfl rfl
theorem Rp_isReached_isReached (σ : RSt) (v : (Nat → Int32)) : r_isReached (r_isReached_s σ v) = v := Eq.trans rfl rfl
theorem Rp_more_isReached (σ : RSt) (v : (Nat → Int32)) : r_more (r_isReached_s σ v) = r_more σ := Eq.trans rfl rfl
theorem Rp_manner_more (σ : RSt) (v : Int32) : r_manner (r_more_s σ v) = r_manner σ := Eq.trans rfl rfl
theorem Rp_fault_more (σ : RSt) (v : Int32) : r_fault (r_more_s σ v) = r_fault σ := Eq.trans rfl rfl
theorem Rp_things_more (σ : RSt) (v : Int32) : r_things (r_more_s σ v) = r_things σ := Eq.trans rfl rfl
theorem Rp_many_more (σ : RSt) (v : Int32) : r_many (r_more_s σ v) = r_many σ := Eq.trans rfl rfl
theorem Rp_field_more (σ : RSt) (v : Int32) : r_field (r_more_s σ v) = r_field σ := Eq.trans rfl rfl
theorem Rp_place_more (σ : RSt) (v : Int32) : r_place (r_more_s σ v) = r_place σ := Eq.trans rfl rfl
theorem Rp_colour_more (σ : RSt) (v : Int32) : r_colour (r_more_s σ v) = r_colour σ := Eq.trans rfl rfl
theorem Rp_isFreed_more (σ : RSt) (v : Int32) : r_isFreed (r_more_s σ v) = r_isFreed σ := Eq.trans rfl rfl
theorem Rp_hasWish_more (σ : RSt) (v : Int32) : r_hasWish (r_more_s σ v) = r_hasWish σ := Eq.trans rfl rfl
theorem Rp_moved_more (σ : RSt) (v : Int32) : r_moved (r_more_s σ v) = r_moved σ := Eq.trans rfl rfl
theorem Rp_register_more (σ : RSt) (v : Int32) : r_register (r_more_s σ v) = r_register σ := Eq.trans rfl rfl
theorem Rp_slot_more (σ : RSt) (v : Int32) : r_slot (r_more_s σ v) = r_slot σ := Eq.trans rfl rfl
theorem Rp_wishes_more (σ : RSt) (v : Int32) : r_wishes (r_more_s σ v) = r_wishes σ := Eq.trans rfl rfl
theorem Rp_wishAt_more (σ : RSt) (v : Int32) : r_wishAt (r_more_s σ v) = r_wishAt σ := Eq.trans rfl rfl
theorem Rp_weakAt_more (σ : RSt) (v : Int32) : r_weakAt (r_more_s σ v) = r_weakAt σ := Eq.trans rfl rfl
theorem Rp_pairs_more (σ : RSt) (v : Int32) : r_pairs (r_more_s σ v) = r_pairs σ := Eq.trans rfl rfl
theorem Rp_key_more (σ : RSt) (v : Int32) : r_key (r_more_s σ v) = r_key σ := Eq.trans rfl rfl
theorem Rp_value_more (σ : RSt) (v : Int32) : r_value (r_more_s σ v) = r_value σ := Eq.trans rfl rfl
theorem Rp_isPair_more (σ : RSt) (v : Int32) : r_isPair (r_more_s σ v) = r_isPair σ := Eq.trans rfl rfl
theorem Rp_half_more (σ : RSt) (v : Int32) : r_half (r_more_s σ v) = r_half σ := Eq.trans rfl rfl
theorem Rp_top_more (σ : RSt) (v : Int32) : r_top (r_more_s σ v) = r_top σ := Eq.trans rfl rfl
theorem Rp_way_more (σ : RSt) (v : Int32) : r_way (r_more_s σ v) = r_way σ := Eq.trans rfl rfl
theorem Rp_next_more (σ : RSt) (v : Int32) : r_next (r_more_s σ v) = r_next σ := Eq.trans rfl rfl
theorem Rp_freedMany_more (σ : RSt) (v : Int32) : r_freedMany (r_more_s σ v) = r_freedMany σ := Eq.trans rfl rfl
theorem Rp_rounds_more (σ : RSt) (v : Int32) : r_rounds (r_more_s σ v) = r_rounds σ := Eq.trans rfl rfl
theorem Rp_steps_more (σ : RSt) (v : Int32) : r_steps (r_more_s σ v) = r_steps σ := Eq.trans rfl rfl
theorem Rp_shaded_more (σ : RSt) (v : Int32) : r_shaded (r_more_s σ v) = r_shaded σ := Eq.trans rfl rfl
theorem Rp_movedMany_more (σ : RSt) (v : Int32) : r_movedMany (r_more_s σ v) = r_movedMany σ := Eq.trans rfl rfl
theorem Rp_isReached_more (σ : RSt) (v : Int32) : r_isReached (r_more_s σ v) = r_isReached σ := Eq.trans rfl rfl
theorem Rp_more_more (σ : RSt) (v : Int32) : r_more (r_more_s σ v) = v := Eq.trans rfl rfl
theorem Cp_manner_manner (σ : CSt) (v : Int32) : c_manner (c_manner_s σ v) = v := Eq.trans rfl rfl
theorem Cp_fault_manner (σ : CSt) (v : Int32) : c_fault (c_manner_s σ v) = c_fault σ := Eq.trans rfl rfl
theorem Cp_under_manner (σ : CSt) (v : Int32) : c_under (c_manner_s σ v) = c_under σ := Eq.trans rfl rfl
theorem Cp_nextS_manner (σ : CSt) (v : Int32) : c_nextS (c_manner_s σ v) = c_nextS σ := Eq.trans rfl rfl
theorem Cp_rounds_manner (σ : CSt) (v : Int32) : c_rounds (c_manner_s σ v) = c_rounds σ := Eq.trans rfl rfl
theorem Cp_steps_manner (σ : CSt) (v : Int32) : c_steps (c_manner_s σ v) = c_steps σ := Eq.trans rfl rfl
theorem Cp_shaded_manner (σ : CSt) (v : Int32) : c_shaded (c_manner_s σ v) = c_shaded σ := Eq.trans rfl rfl
theorem Cp_moved_manner (σ : CSt) (v : Int32) : c_moved (c_manner_s σ v) = c_moved σ := Eq.trans rfl rfl
theorem Cp_tmade_manner (σ : CSt) (v : Int32) : c_tmade (c_manner_s σ v) = c_tmade σ := Eq.trans rfl rfl
theorem Cp_sizes_manner (σ : CSt) (v : Int32) : c_sizes (c_manner_s σ v) = c_sizes σ := Eq.trans rfl rfl
theorem Cp_places_manner (σ : CSt) (v : Int32) : c_places (c_manner_s σ v) = c_places σ := Eq.trans rfl rfl
theorem Cp_colours_manner (σ : CSt) (v : Int32) : c_colours (c_manner_s σ v) = c_colours σ := Eq.trans rfl rfl
theorem Cp_moves_manner (σ : CSt) (v : Int32) : c_moves (c_manner_s σ v) = c_moves σ := Eq.trans rfl rfl
theorem Cp_freed_manner (σ : CSt) (v : Int32) : c_freed (c_manner_s σ v) = c_freed σ := Eq.trans rfl rfl
theorem Cp_wishing_manner (σ : CSt) (v : Int32) : c_wishing (c_manner_s σ v) = c_wishing σ := Eq.trans rfl rfl
theorem Cp_theld_manner (σ : CSt) (v : Int32) : c_theld (c_manner_s σ v) = c_theld σ := Eq.trans rfl rfl
theorem Cp_cmap_manner (σ : CSt) (v : Int32) : c_cmap (c_manner_s σ v) = c_cmap σ := Eq.trans rfl rfl
theorem Cp_halfEnd_manner (σ : CSt) (v : Int32) : c_halfEnd (c_manner_s σ v) = c_halfEnd σ := Eq.trans rfl rfl
theorem Cp_behind_manner (σ : CSt) (v : Int32) : c_behind (c_manner_s σ v) = c_behind σ := Eq.trans rfl rfl
theorem Cp_hheld_manner (σ : CSt) (v : Int32) : c_hheld (c_manner_s σ v) = c_hheld σ := Eq.trans rfl rfl
theorem Cp_named_manner (σ : CSt) (v : Int32) : c_named (c_manner_s σ v) = c_named σ := Eq.trans rfl rfl
theorem Cp_wishes_manner (σ : CSt) (v : Int32) : c_wishes (c_manner_s σ v) = c_wishes σ := Eq.trans rfl rfl
theorem Cp_pmade_manner (σ : CSt) (v : Int32) : c_pmade (c_manner_s σ v) = c_pmade σ := Eq.trans rfl rfl
theorem Cp_keys_manner (σ : CSt) (v : Int32) : c_keys (c_manner_s σ v) = c_keys σ := Eq.trans rfl rfl
theorem Cp_values_manner (σ : CSt) (v : Int32) : c_values (c_manner_s σ v) = c_values σ := Eq.trans rfl rfl
theorem Cp_found_manner (σ : CSt) (v : Int32) : c_found (c_manner_s σ v) = c_found σ := Eq.trans rfl rfl
theorem Cp_order_manner (σ : CSt) (v : Int32) : c_order (c_manner_s σ v) = c_order σ := Eq.trans rfl rfl
theorem Cp_rcount_manner (σ : CSt) (v : Int32) : c_rcount (c_manner_s σ v) = c_rcount σ := Eq.trans rfl rfl
theorem Cp_manner_fault (σ : CSt) (v : Int32) : c_manner (c_fault_s σ v) = c_manner σ := Eq.trans rfl rfl
theorem Cp_fault_fault (σ : CSt) (v : Int32) : c_fault (c_fault_s σ v) = v := Eq.trans rfl rfl
theorem Cp_under_fault (σ : CSt) (v : Int32) : c_under (c_fault_s σ v) = c_under σ := Eq.trans rfl rfl
theorem Cp_nextS_fault (σ : CSt) (v : Int32) : c_nextS (c_fault_s σ v) = c_nextS σ := Eq.trans rfl rfl
theorem Cp_rounds_fault (σ : CSt) (v : Int32) : c_rounds (c_fault_s σ v) = c_rounds σ := Eq.trans rfl rfl
theorem Cp_steps_fault (σ : CSt) (v : Int32) : c_steps (c_fault_s σ v) = c_steps σ := Eq.trans rfl rfl
theorem Cp_shaded_fault (σ : CSt) (v : Int32) : c_shaded (c_fault_s σ v) = c_shaded σ := Eq.trans rfl rfl
theorem Cp_moved_fault (σ : CSt) (v : Int32) : c_moved (c_fault_s σ v) = c_moved σ := Eq.trans rfl rfl
theorem Cp_tmade_fault (σ : CSt) (v : Int32) : c_tmade (c_fault_s σ v) = c_tmade σ := Eq.trans rfl rfl
theorem Cp_sizes_fault (σ : CSt) (v : Int32) : c_sizes (c_fault_s σ v) = c_sizes σ := Eq.trans rfl rfl
theorem Cp_places_fault (σ : CSt) (v : Int32) : c_places (c_fault_s σ v) = c_places σ := Eq.trans rfl rfl
theorem Cp_colours_fault (σ : CSt) (v : Int32) : c_colours (c_fault_s σ v) = c_colours σ := Eq.trans rfl rfl
theorem Cp_moves_fault (σ : CSt) (v : Int32) : c_moves (c_fault_s σ v) = c_moves σ := Eq.trans rfl rfl
theorem Cp_freed_fault (σ : CSt) (v : Int32) : c_freed (c_fault_s σ v) = c_freed σ := Eq.trans rfl rfl
theorem Cp_wishing_fault (σ : CSt) (v : Int32) : c_wishing (c_fault_s σ v) = c_wishing σ := Eq.trans rfl rfl
theorem Cp_theld_fault (σ : CSt) (v : Int32) : c_theld (c_fault_s σ v) = c_theld σ := Eq.trans rfl rfl
theorem Cp_cmap_fault (σ : CSt) (v : Int32) : c_cmap (c_fault_s σ v) = c_cmap σ := Eq.trans rfl rfl
theorem Cp_halfEnd_fault (σ : CSt) (v : Int32) : c_halfEnd (c_fault_s σ v) = c_halfEnd σ := Eq.trans rfl rfl
theorem Cp_behind_fault (σ : CSt) (v : Int32) : c_behind (c_fault_s σ v) = c_behind σ := Eq.trans rfl rfl
theorem Cp_hheld_fault (σ : CSt) (v : Int32) : c_hheld (c_fault_s σ v) = c_hheld σ := Eq.trans rfl rfl
theorem Cp_named_fault (σ : CSt) (v : Int32) : c_named (c_fault_s σ v) = c_named σ := Eq.trans rfl rfl
theorem Cp_wishes_fault (σ : CSt) (v : Int32) : c_wishes (c_fault_s σ v) = c_wishes σ := Eq.trans rfl rfl
theorem Cp_pmade_fault (σ : CSt) (v : Int32) : c_pmade (c_fault_s σ v) = c_pmade σ := Eq.trans rfl rfl
theorem Cp_keys_fault (σ : CSt) (v : Int32) : c_keys (c_fault_s σ v) = c_keys σ := Eq.trans rfl rfl
theorem Cp_values_fault (σ : CSt) (v : Int32) : c_values (c_fault_s σ v) = c_values σ := Eq.trans rfl rfl
theorem Cp_found_fault (σ : CSt) (v : Int32) : c_found (c_fault_s σ v) = c_found σ := Eq.trans rfl rfl
theorem Cp_order_fault (σ : CSt) (v : Int32) : c_order (c_fault_s σ v) = c_order σ := Eq.trans rfl rfl
theorem Cp_rcount_fault (σ : CSt) (v : Int32) : c_rcount (c_fault_s σ v) = c_rcount σ := Eq.trans rfl rfl
theorem Cp_manner_under (σ : CSt) (v : Int32) : c_manner (c_under_s σ v) = c_manner σ := Eq.trans rfl rfl
theorem Cp_fault_under (σ : CSt) (v : Int32) : c_fault (c_under_s σ v) = c_fault σ := Eq.trans rfl rfl
theorem Cp_under_under (σ : CSt) (v : Int32) : c_under (c_under_s σ v) = v := Eq.trans rfl rfl
theorem Cp_nextS_under (σ : CSt) (v : Int32) : c_nextS (c_under_s σ v) = c_nextS σ := Eq.trans rfl rfl
theorem Cp_rounds_under (σ : CSt) (v : Int32) : c_rounds (c_under_s σ v) = c_rounds σ := Eq.trans rfl rfl
theorem Cp_steps_under (σ : CSt) (v : Int32) : c_steps (c_under_s σ v) = c_steps σ := Eq.trans rfl rfl
theorem Cp_shaded_under (σ : CSt) (v : Int32) : c_shaded (c_under_s σ v) = c_shaded σ := Eq.trans rfl rfl
theorem Cp_moved_under (σ : CSt) (v : Int32) : c_moved (c_under_s σ v) = c_moved σ := Eq.trans rfl rfl
theorem Cp_tmade_under (σ : CSt) (v : Int32) : c_tmade (c_under_s σ v) = c_tmade σ := Eq.trans rfl rfl
theorem Cp_sizes_under (σ : CSt) (v : Int32) : c_sizes (c_under_s σ v) = c_sizes σ := Eq.trans rfl rfl
theorem Cp_places_under (σ : CSt) (v : Int32) : c_places (c_under_s σ v) = c_places σ := Eq.trans rfl rfl
theorem Cp_colours_under (σ : CSt) (v : Int32) : c_colours (c_under_s σ v) = c_colours σ := Eq.trans rfl rfl
theorem Cp_moves_under (σ : CSt) (v : Int32) : c_moves (c_under_s σ v) = c_moves σ := Eq.trans rfl rfl
theorem Cp_freed_under (σ : CSt) (v : Int32) : c_freed (c_under_s σ v) = c_freed σ := Eq.trans rfl rfl
theorem Cp_wishing_under (σ : CSt) (v : Int32) : c_wishing (c_under_s σ v) = c_wishing σ := Eq.trans rfl rfl
theorem Cp_theld_under (σ : CSt) (v : Int32) : c_theld (c_under_s σ v) = c_theld σ := Eq.trans rfl rfl
theorem Cp_cmap_under (σ : CSt) (v : Int32) : c_cmap (c_under_s σ v) = c_cmap σ := Eq.trans rfl rfl
theorem Cp_halfEnd_under (σ : CSt) (v : Int32) : c_halfEnd (c_under_s σ v) = c_halfEnd σ := Eq.trans rfl rfl
theorem Cp_behind_under (σ : CSt) (v : Int32) : c_behind (c_under_s σ v) = c_behind σ := Eq.trans rfl rfl
theorem Cp_hheld_under (σ : CSt) (v : Int32) : c_hheld (c_under_s σ v) = c_hheld σ := Eq.trans rfl rfl
theorem Cp_named_under (σ : CSt) (v : Int32) : c_named (c_under_s σ v) = c_named σ := Eq.trans rfl rfl
theorem Cp_wishes_under (σ : CSt) (v : Int32) : c_wishes (c_under_s σ v) = c_wishes σ := Eq.trans rfl rfl
theorem Cp_pmade_under (σ : CSt) (v : Int32) : c_pmade (c_under_s σ v) = c_pmade σ := Eq.trans rfl rfl
theorem Cp_keys_under (σ : CSt) (v : Int32) : c_keys (c_under_s σ v) = c_keys σ := Eq.trans rfl rfl
theorem Cp_values_under (σ : CSt) (v : Int32) : c_values (c_under_s σ v) = c_values σ := Eq.trans rfl rfl
theorem Cp_found_under (σ : CSt) (v : Int32) : c_found (c_under_s σ v) = c_found σ := Eq.trans rfl rfl
theorem Cp_order_under (σ : CSt) (v : Int32) : c_order (c_under_s σ v) = c_order σ := Eq.trans rfl rfl
theorem Cp_rcount_under (σ : CSt) (v : Int32) : c_rcount (c_under_s σ v) = c_rcount σ := Eq.trans rfl rfl
theorem Cp_manner_nextS (σ : CSt) (v : Int32) : c_manner (c_nextS_s σ v) = c_manner σ := Eq.trans rfl rfl
theorem Cp_fault_nextS (σ : CSt) (v : Int32) : c_fault (c_nextS_s σ v) = c_fault σ := Eq.trans rfl rfl
theorem Cp_under_nextS (σ : CSt) (v : Int32) : c_under (c_nextS_s σ v) = c_under σ := Eq.trans rfl rfl
theorem Cp_nextS_nextS (σ : CSt) (v : Int32) : c_nextS (c_nextS_s σ v) = v := Eq.trans rfl rfl
theorem Cp_rounds_nextS (σ : CSt) (v : Int32) : c_rounds (c_nextS_s σ v) = c_rounds σ := Eq.trans rfl rfl
theorem Cp_steps_nextS (σ : CSt) (v : Int32) : c_steps (c_nextS_s σ v) = c_steps σ := Eq.trans rfl rfl
theorem Cp_shaded_nextS (σ : CSt) (v : Int32) : c_shaded (c_nextS_s σ v) = c_shaded σ := Eq.trans rfl rfl
theorem Cp_moved_nextS (σ : CSt) (v : Int32) : c_moved (c_nextS_s σ v) = c_moved σ := Eq.trans rfl rfl
theorem Cp_tmade_nextS (σ : CSt) (v : Int32) : c_tmade (c_nextS_s σ v) = c_tmade σ := Eq.trans rfl rfl
theorem Cp_sizes_nextS (σ : CSt) (v : Int32) : c_sizes (c_nextS_s σ v) = c_sizes σ := Eq.trans rfl rfl
theorem Cp_places_nextS (σ : CSt) (v : Int32) : c_places (c_nextS_s σ v) = c_places σ := Eq.trans rfl rfl
theorem Cp_colours_nextS (σ : CSt) (v : Int32) : c_colours (c_nextS_s σ v) = c_colours σ := Eq.trans rfl rfl
theorem Cp_moves_nextS (σ : CSt) (v : Int32) : c_moves (c_nextS_s σ v) = c_moves σ := Eq.trans rfl rfl
theorem Cp_freed_nextS (σ : CSt) (v : Int32) : c_freed (c_nextS_s σ v) = c_freed σ := Eq.trans rfl rfl
theorem Cp_wishing_nextS (σ : CSt) (v : Int32) : c_wishing (c_nextS_s σ v) = c_wishing σ := Eq.trans rfl rfl
theorem Cp_theld_nextS (σ : CSt) (v : Int32) : c_theld (c_nextS_s σ v) = c_theld σ := Eq.trans rfl rfl
theorem Cp_cmap_nextS (σ : CSt) (v : Int32) : c_cmap (c_nextS_s σ v) = c_cmap σ := Eq.trans rfl rfl
theorem Cp_halfEnd_nextS (σ : CSt) (v : Int32) : c_halfEnd (c_nextS_s σ v) = c_halfEnd σ := Eq.trans rfl rfl
theorem Cp_behind_nextS (σ : CSt) (v : Int32) : c_behind (c_nextS_s σ v) = c_behind σ := Eq.trans rfl rfl
theorem Cp_hheld_nextS (σ : CSt) (v : Int32) : c_hheld (c_nextS_s σ v) = c_hheld σ := Eq.trans rfl rfl
theorem Cp_named_nextS (σ : CSt) (v : Int32) : c_named (c_nextS_s σ v) = c_named σ := Eq.trans rfl rfl
theorem Cp_wishes_nextS (σ : CSt) (v : Int32) : c_wishes (c_nextS_s σ v) = c_wishes σ := Eq.trans rfl rfl
theorem Cp_pmade_nextS (σ : CSt) (v : Int32) : c_pmade (c_nextS_s σ v) = c_pmade σ := Eq.trans rfl rfl
theorem Cp_keys_nextS (σ : CSt) (v : Int32) : c_keys (c_nextS_s σ v) = c_keys σ := Eq.trans rfl rfl
theorem Cp_values_nextS (σ : CSt) (v : Int32) : c_values (c_nextS_s σ v) = c_values σ := Eq.trans rfl rfl
theorem Cp_found_nextS (σ : CSt) (v : Int32) : c_found (c_nextS_s σ v) = c_found σ := Eq.trans rfl rfl
theorem Cp_order_nextS (σ : CSt) (v : Int32) : c_order (c_nextS_s σ v) = c_order σ := Eq.trans rfl rfl
theorem Cp_rcount_nextS (σ : CSt) (v : Int32) : c_rcount (c_nextS_s σ v) = c_rcount σ := Eq.trans rfl rfl
theorem Cp_manner_rounds (σ : CSt) (v : Int32) : c_manner (c_rounds_s σ v) = c_manner σ := Eq.trans rfl rfl
theorem Cp_fault_rounds (σ : CSt) (v : Int32) : c_fault (c_rounds_s σ v) = c_fault σ := Eq.trans rfl rfl
theorem Cp_under_rounds (σ : CSt) (v : Int32) : c_under (c_rounds_s σ v) = c_under σ := Eq.trans rfl rfl
theorem Cp_nextS_rounds (σ : CSt) (v : Int32) : c_nextS (c_rounds_s σ v) = c_nextS σ := Eq.trans rfl rfl
theorem Cp_rounds_rounds (σ : CSt) (v : Int32) : c_rounds (c_rounds_s σ v) = v := Eq.trans rfl rfl
theorem Cp_steps_rounds (σ : CSt) (v : Int32) : c_steps (c_rounds_s σ v) = c_steps σ := Eq.trans rfl rfl
theorem Cp_shaded_rounds (σ : CSt) (v : Int32) : c_shaded (c_rounds_s σ v) = c_shaded σ := Eq.trans rfl rfl
theorem Cp_moved_rounds (σ : CSt) (v : Int32) : c_moved (c_rounds_s σ v) = c_moved σ := Eq.trans rfl rfl
theorem Cp_tmade_rounds (σ : CSt) (v : Int32) : c_tmade (c_rounds_s σ v) = c_tmade σ := Eq.trans rfl rfl
theorem Cp_sizes_rounds (σ : CSt) (v : Int32) : c_sizes (c_rounds_s σ v) = c_sizes σ := Eq.trans rfl rfl
theorem Cp_places_rounds (σ : CSt) (v : Int32) : c_places (c_rounds_s σ v) = c_places σ := Eq.trans rfl rfl
theorem Cp_colours_rounds (σ : CSt) (v : Int32) : c_colours (c_rounds_s σ v) = c_colours σ := Eq.trans rfl rfl
theorem Cp_moves_rounds (σ : CSt) (v : Int32) : c_moves (c_rounds_s σ v) = c_moves σ := Eq.trans rfl rfl
theorem Cp_freed_rounds (σ : CSt) (v : Int32) : c_freed (c_rounds_s σ v) = c_freed σ := Eq.trans rfl rfl
theorem Cp_wishing_rounds (σ : CSt) (v : Int32) : c_wishing (c_rounds_s σ v) = c_wishing σ := Eq.trans rfl rfl
theorem Cp_theld_rounds (σ : CSt) (v : Int32) : c_theld (c_rounds_s σ v) = c_theld σ := Eq.trans rfl rfl
theorem Cp_cmap_rounds (σ : CSt) (v : Int32) : c_cmap (c_rounds_s σ v) = c_cmap σ := Eq.trans rfl rfl
theorem Cp_halfEnd_rounds (σ : CSt) (v : Int32) : c_halfEnd (c_rounds_s σ v) = c_halfEnd σ := Eq.trans rfl rfl
theorem Cp_behind_rounds (σ : CSt) (v : Int32) : c_behind (c_rounds_s σ v) = c_behind σ := Eq.trans rfl rfl
theorem Cp_hheld_rounds (σ : CSt) (v : Int32) : c_hheld (c_rounds_s σ v) = c_hheld σ := Eq.trans rfl rfl
theorem Cp_named_rounds (σ : CSt) (v : Int32) : c_named (c_rounds_s σ v) = c_named σ := Eq.trans rfl rfl
theorem Cp_wishes_rounds (σ : CSt) (v : Int32) : c_wishes (c_rounds_s σ v) = c_wishes σ := Eq.trans rfl rfl
theorem Cp_pmade_rounds (σ : CSt) (v : Int32) : c_pmade (c_rounds_s σ v) = c_pmade σ := Eq.trans rfl rfl
theorem Cp_keys_rounds (σ : CSt) (v : Int32) : c_keys (c_rounds_s σ v) = c_keys σ := Eq.trans rfl rfl
theorem Cp_values_rounds (σ : CSt) (v : Int32) : c_values (c_rounds_s σ v) = c_values σ := Eq.trans rfl rfl
theorem Cp_found_rounds (σ : CSt) (v : Int32) : c_found (c_rounds_s σ v) = c_found σ := Eq.trans rfl rfl
theorem Cp_order_rounds (σ : CSt) (v : Int32) : c_order (c_rounds_s σ v) = c_order σ := Eq.trans rfl rfl
theorem Cp_rcount_rounds (σ : CSt) (v : Int32) : c_rcount (c_rounds_s σ v) = c_rcount σ := Eq.trans rfl rfl
theorem Cp_manner_steps (σ : CSt) (v : Int32) : c_manner (c_steps_s σ v) = c_manner σ := Eq.trans rfl rfl
theorem Cp_fault_steps (σ : CSt) (v : Int32) : c_fault (c_steps_s σ v) = c_fault σ := Eq.trans rfl rfl
theorem Cp_under_steps (σ : CSt) (v : Int32) : c_under (c_steps_s σ v) = c_under σ := Eq.trans rfl rfl
theorem Cp_nextS_steps (σ : CSt) (v : Int32) : c_nextS (c_steps_s σ v) = c_nextS σ := Eq.trans rfl rfl
theorem Cp_rounds_steps (σ : CSt) (v : Int32) : c_rounds (c_steps_s σ v) = c_rounds σ := Eq.trans rfl rfl
theorem Cp_steps_steps (σ : CSt) (v : Int32) : c_steps (c_steps_s σ v) = v := Eq.trans rfl rfl
theorem Cp_shaded_steps (σ : CSt) (v : Int32) : c_shaded (c_steps_s σ v) = c_shaded σ := Eq.trans rfl rfl
theorem Cp_moved_steps (σ : CSt) (v : Int32) : c_moved (c_steps_s σ v) = c_moved σ := Eq.trans rfl rfl
theorem Cp_tmade_steps (σ : CSt) (v : Int32) : c_tmade (c_steps_s σ v) = c_tmade σ := Eq.trans rfl rfl
theorem Cp_sizes_steps (σ : CSt) (v : Int32) : c_sizes (c_steps_s σ v) = c_sizes σ := Eq.trans rfl rfl
theorem Cp_places_steps (σ : CSt) (v : Int32) : c_places (c_steps_s σ v) = c_places σ := Eq.trans rfl rfl
theorem Cp_colours_steps (σ : CSt) (v : Int32) : c_colours (c_steps_s σ v) = c_colours σ := Eq.trans rfl rfl
theorem Cp_moves_steps (σ : CSt) (v : Int32) : c_moves (c_steps_s σ v) = c_moves σ := Eq.trans rfl rfl
theorem Cp_freed_steps (σ : CSt) (v : Int32) : c_freed (c_steps_s σ v) = c_freed σ := Eq.trans rfl rfl
theorem Cp_wishing_steps (σ : CSt) (v : Int32) : c_wishing (c_steps_s σ v) = c_wishing σ := Eq.trans rfl rfl
theorem Cp_theld_steps (σ : CSt) (v : Int32) : c_theld (c_steps_s σ v) = c_theld σ := Eq.trans rfl rfl
theorem Cp_cmap_steps (σ : CSt) (v : Int32) : c_cmap (c_steps_s σ v) = c_cmap σ := Eq.trans rfl rfl
theorem Cp_halfEnd_steps (σ : CSt) (v : Int32) : c_halfEnd (c_steps_s σ v) = c_halfEnd σ := Eq.trans rfl rfl
theorem Cp_behind_steps (σ : CSt) (v : Int32) : c_behind (c_steps_s σ v) = c_behind σ := Eq.trans rfl rfl
theorem Cp_hheld_steps (σ : CSt) (v : Int32) : c_hheld (c_steps_s σ v) = c_hheld σ := Eq.trans rfl rfl
theorem Cp_named_steps (σ : CSt) (v : Int32) : c_named (c_steps_s σ v) = c_named σ := Eq.trans rfl rfl
theorem Cp_wishes_steps (σ : CSt) (v : Int32) : c_wishes (c_steps_s σ v) = c_wishes σ := Eq.trans rfl rfl
theorem Cp_pmade_steps (σ : CSt) (v : Int32) : c_pmade (c_steps_s σ v) = c_pmade σ := Eq.trans rfl rfl
theorem Cp_keys_steps (σ : CSt) (v : Int32) : c_keys (c_steps_s σ v) = c_keys σ := Eq.trans rfl rfl
theorem Cp_values_steps (σ : CSt) (v : Int32) : c_values (c_steps_s σ v) = c_values σ := Eq.trans rfl rfl
theorem Cp_found_steps (σ : CSt) (v : Int32) : c_found (c_steps_s σ v) = c_found σ := Eq.trans rfl rfl
theorem Cp_order_steps (σ : CSt) (v : Int32) : c_order (c_steps_s σ v) = c_order σ := Eq.trans rfl rfl
theorem Cp_rcount_steps (σ : CSt) (v : Int32) : c_rcount (c_steps_s σ v) = c_rcount σ := Eq.trans rfl rfl
theorem Cp_manner_shaded (σ : CSt) (v : Int32) : c_manner (c_shaded_s σ v) = c_manner σ := Eq.trans rfl rfl
theorem Cp_fault_shaded (σ : CSt) (v : Int32) : c_fault (c_shaded_s σ v) = c_fault σ := Eq.trans rfl rfl
theorem Cp_under_shaded (σ : CSt) (v : Int32) : c_under (c_shaded_s σ v) = c_under σ := Eq.trans rfl rfl
theorem Cp_nextS_shaded (σ : CSt) (v : Int32) : c_nextS (c_shaded_s σ v) = c_nextS σ := Eq.trans rfl rfl
theorem Cp_rounds_shaded (σ : CSt) (v : Int32) : c_rounds (c_shaded_s σ v) = c_rounds σ := Eq.trans rfl rfl
theorem Cp_steps_shaded (σ : CSt) (v : Int32) : c_steps (c_shaded_s σ v) = c_steps σ := Eq.trans rfl rfl
theorem Cp_shaded_shaded (σ : CSt) (v : Int32) : c_shaded (c_shaded_s σ v) = v := Eq.trans rfl rfl
theorem Cp_moved_shaded (σ : CSt) (v : Int32) : c_moved (c_shaded_s σ v) = c_moved σ := Eq.trans rfl rfl
theorem Cp_tmade_shaded (σ : CSt) (v : Int32) : c_tmade (c_shaded_s σ v) = c_tmade σ := Eq.trans rfl rfl
theorem Cp_sizes_shaded (σ : CSt) (v : Int32) : c_sizes (c_shaded_s σ v) = c_sizes σ := Eq.trans rfl rfl
theorem Cp_places_shaded (σ : CSt) (v : Int32) : c_places (c_shaded_s σ v) = c_places σ := Eq.trans rfl rfl
theorem Cp_colours_shaded (σ : CSt) (v : Int32) : c_colours (c_shaded_s σ v) = c_colours σ := Eq.trans rfl rfl
theorem Cp_moves_shaded (σ : CSt) (v : Int32) : c_moves (c_shaded_s σ v) = c_moves σ := Eq.trans rfl rfl
theorem Cp_freed_shaded (σ : CSt) (v : Int32) : c_freed (c_shaded_s σ v) = c_freed σ := Eq.trans rfl rfl
theorem Cp_wishing_shaded (σ : CSt) (v : Int32) : c_wishing (c_shaded_s σ v) = c_wishing σ := Eq.trans rfl rfl
theorem Cp_theld_shaded (σ : CSt) (v : Int32) : c_theld (c_shaded_s σ v) = c_theld σ := Eq.trans rfl rfl
theorem Cp_cmap_shaded (σ : CSt) (v : Int32) : c_cmap (c_shaded_s σ v) = c_cmap σ := Eq.trans rfl rfl
theorem Cp_halfEnd_shaded (σ : CSt) (v : Int32) : c_halfEnd (c_shaded_s σ v) = c_halfEnd σ := Eq.trans rfl rfl
theorem Cp_behind_shaded (σ : CSt) (v : Int32) : c_behind (c_shaded_s σ v) = c_behind σ := Eq.trans rfl rfl
theorem Cp_hheld_shaded (σ : CSt) (v : Int32) : c_hheld (c_shaded_s σ v) = c_hheld σ := Eq.trans rfl rfl
theorem Cp_named_shaded (σ : CSt) (v : Int32) : c_named (c_shaded_s σ v) = c_named σ := Eq.trans rfl rfl
theorem Cp_wishes_shaded (σ : CSt) (v : Int32) : c_wishes (c_shaded_s σ v) = c_wishes σ := Eq.trans rfl rfl
theorem Cp_pmade_shaded (σ : CSt) (v : Int32) : c_pmade (c_shaded_s σ v) = c_pmade σ := Eq.trans rfl rfl
theorem Cp_keys_shaded (σ : CSt) (v : Int32) : c_keys (c_shaded_s σ v) = c_keys σ := Eq.trans rfl rfl
theorem Cp_values_shaded (σ : CSt) (v : Int32) : c_values (c_shaded_s σ v) = c_values σ := Eq.trans rfl rfl
theorem Cp_found_shaded (σ : CSt) (v : Int32) : c_found (c_shaded_s σ v) = c_found σ := Eq.trans rfl rfl
theorem Cp_order_shaded (σ : CSt) (v : Int32) : c_order (c_shaded_s σ v) = c_order σ := Eq.trans rfl rfl
theorem Cp_rcount_shaded (σ : CSt) (v : Int32) : c_rcount (c_shaded_s σ v) = c_rcount σ := Eq.trans rfl rfl
theorem Cp_manner_moved (σ : CSt) (v : Int32) : c_manner (c_moved_s σ v) = c_manner σ := Eq.trans rfl rfl
theorem Cp_fault_moved (σ : CSt) (v : Int32) : c_fault (c_moved_s σ v) = c_fault σ := Eq.trans rfl rfl
theorem Cp_under_moved (σ : CSt) (v : Int32) : c_under (c_moved_s σ v) = c_under σ := Eq.trans rfl rfl
theorem Cp_nextS_moved (σ : CSt) (v : Int32) : c_nextS (c_moved_s σ v) = c_nextS σ := Eq.trans rfl rfl
theorem Cp_rounds_moved (σ : CSt) (v : Int32) : c_rounds (c_moved_s σ v) = c_rounds σ := Eq.trans rfl rfl
theorem Cp_steps_moved (σ : CSt) (v : Int32) : c_steps (c_moved_s σ v) = c_steps σ := Eq.trans rfl rfl
theorem Cp_shaded_moved (σ : CSt) (v : Int32) : c_shaded (c_moved_s σ v) = c_shaded σ := Eq.trans rfl rfl
theorem Cp_moved_moved (σ : CSt) (v : Int32) : c_moved (c_moved_s σ v) = v := Eq.trans rfl rfl
theorem Cp_tmade_moved (σ : CSt) (v : Int32) : c_tmade (c_moved_s σ v) = c_tmade σ := Eq.trans rfl rfl
theorem Cp_sizes_moved (σ : CSt) (v : Int32) : c_sizes (c_moved_s σ v) = c_sizes σ := Eq.trans rfl rfl
theorem Cp_places_moved (σ : CSt) (v : Int32) : c_places (c_moved_s σ v) = c_places σ := Eq.trans rfl rfl
theorem Cp_colours_moved (σ : CSt) (v : Int32) : c_colours (c_moved_s σ v) = c_colours σ := Eq.trans rfl rfl
theorem Cp_moves_moved (σ : CSt) (v : Int32) : c_moves (c_moved_s σ v) = c_moves σ := Eq.trans rfl rfl
theorem Cp_freed_moved (σ : CSt) (v : Int32) : c_freed (c_moved_s σ v) = c_freed σ := Eq.trans rfl rfl
theorem Cp_wishing_moved (σ : CSt) (v : Int32) : c_wishing (c_moved_s σ v) = c_wishing σ := Eq.trans rfl rfl
theorem Cp_theld_moved (σ : CSt) (v : Int32) : c_theld (c_moved_s σ v) = c_theld σ := Eq.trans rfl rfl
theorem Cp_cmap_moved (σ : CSt) (v : Int32) : c_cmap (c_moved_s σ v) = c_cmap σ := Eq.trans rfl rfl
theorem Cp_halfEnd_moved (σ : CSt) (v : Int32) : c_halfEnd (c_moved_s σ v) = c_halfEnd σ := Eq.trans rfl rfl
theorem Cp_behind_moved (σ : CSt) (v : Int32) : c_behind (c_moved_s σ v) = c_behind σ := Eq.trans rfl rfl
theorem Cp_hheld_moved (σ : CSt) (v : Int32) : c_hheld (c_moved_s σ v) = c_hheld σ := Eq.trans rfl rfl
theorem Cp_named_moved (σ : CSt) (v : Int32) : c_named (c_moved_s σ v) = c_named σ := Eq.trans rfl rfl
theorem Cp_wishes_moved (σ : CSt) (v : Int32) : c_wishes (c_moved_s σ v) = c_wishes σ := Eq.trans rfl rfl
theorem Cp_pmade_moved (σ : CSt) (v : Int32) : c_pmade (c_moved_s σ v) = c_pmade σ := Eq.trans rfl rfl
theorem Cp_keys_moved (σ : CSt) (v : Int32) : c_keys (c_moved_s σ v) = c_keys σ := Eq.trans rfl rfl
theorem Cp_values_moved (σ : CSt) (v : Int32) : c_values (c_moved_s σ v) = c_values σ := Eq.trans rfl rfl
theorem Cp_found_moved (σ : CSt) (v : Int32) : c_found (c_moved_s σ v) = c_found σ := Eq.trans rfl rfl
theorem Cp_order_moved (σ : CSt) (v : Int32) : c_order (c_moved_s σ v) = c_order σ := Eq.trans rfl rfl
theorem Cp_rcount_moved (σ : CSt) (v : Int32) : c_rcount (c_moved_s σ v) = c_rcount σ := Eq.trans rfl rfl
theorem Cp_manner_tmade (σ : CSt) (v : Int32) : c_manner (c_tmade_s σ v) = c_manner σ := Eq.trans rfl rfl
theorem Cp_fault_tmade (σ : CSt) (v : Int32) : c_fault (c_tmade_s σ v) = c_fault σ := Eq.trans rfl rfl
theorem Cp_under_tmade (σ : CSt) (v : Int32) : c_under (c_tmade_s σ v) = c_under σ := Eq.trans rfl rfl
theorem Cp_nextS_tmade (σ : CSt) (v : Int32) : c_nextS (c_tmade_s σ v) = c_nextS σ := Eq.trans rfl rfl
theorem Cp_rounds_tmade (σ : CSt) (v : Int32) : c_rounds (c_tmade_s σ v) = c_rounds σ := Eq.trans rfl rfl
theorem Cp_steps_tmade (σ : CSt) (v : Int32) : c_steps (c_tmade_s σ v) = c_steps σ := Eq.trans rfl rfl
theorem Cp_shaded_tmade (σ : CSt) (v : Int32) : c_shaded (c_tmade_s σ v) = c_shaded σ := Eq.trans rfl rfl
theorem Cp_moved_tmade (σ : CSt) (v : Int32) : c_moved (c_tmade_s σ v) = c_moved σ := Eq.trans rfl rfl
theorem Cp_tmade_tmade (σ : CSt) (v : Int32) : c_tmade (c_tmade_s σ v) = v := Eq.trans rfl rfl
theorem Cp_sizes_tmade (σ : CSt) (v : Int32) : c_sizes (c_tmade_s σ v) = c_sizes σ := Eq.trans rfl rfl
theorem Cp_places_tmade (σ : CSt) (v : Int32) : c_places (c_tmade_s σ v) = c_places σ := Eq.trans rfl rfl
theorem Cp_colours_tmade (σ : CSt) (v : Int32) : c_colours (c_tmade_s σ v) = c_colours σ := Eq.trans rfl rfl
theorem Cp_moves_tmade (σ : CSt) (v : Int32) : c_moves (c_tmade_s σ v) = c_moves σ := Eq.trans rfl rfl
theorem Cp_freed_tmade (σ : CSt) (v : Int32) : c_freed (c_tmade_s σ v) = c_freed σ := Eq.trans rfl rfl
theorem Cp_wishing_tmade (σ : CSt) (v : Int32) : c_wishing (c_tmade_s σ v) = c_wishing σ := Eq.trans rfl rfl
theorem Cp_theld_tmade (σ : CSt) (v : Int32) : c_theld (c_tmade_s σ v) = c_theld σ := Eq.trans rfl rfl
theorem Cp_cmap_tmade (σ : CSt) (v : Int32) : c_cmap (c_tmade_s σ v) = c_cmap σ := Eq.trans rfl rfl
theorem Cp_halfEnd_tmade (σ : CSt) (v : Int32) : c_halfEnd (c_tmade_s σ v) = c_halfEnd σ := Eq.trans rfl rfl
theorem Cp_behind_tmade (σ : CSt) (v : Int32) : c_behind (c_tmade_s σ v) = c_behind σ := Eq.trans rfl rfl
theorem Cp_hheld_tmade (σ : CSt) (v : Int32) : c_hheld (c_tmade_s σ v) = c_hheld σ := Eq.trans rfl rfl
theorem Cp_named_tmade (σ : CSt) (v : Int32) : c_named (c_tmade_s σ v) = c_named σ := Eq.trans rfl rfl
theorem Cp_wishes_tmade (σ : CSt) (v : Int32) : c_wishes (c_tmade_s σ v) = c_wishes σ := Eq.trans rfl rfl
theorem Cp_pmade_tmade (σ : CSt) (v : Int32) : c_pmade (c_tmade_s σ v) = c_pmade σ := Eq.trans rfl rfl
theorem Cp_keys_tmade (σ : CSt) (v : Int32) : c_keys (c_tmade_s σ v) = c_keys σ := Eq.trans rfl rfl
theorem Cp_values_tmade (σ : CSt) (v : Int32) : c_values (c_tmade_s σ v) = c_values σ := Eq.trans rfl rfl
theorem Cp_found_tmade (σ : CSt) (v : Int32) : c_found (c_tmade_s σ v) = c_found σ := Eq.trans rfl rfl
theorem Cp_order_tmade (σ : CSt) (v : Int32) : c_order (c_tmade_s σ v) = c_order σ := Eq.trans rfl rfl
theorem Cp_rcount_tmade (σ : CSt) (v : Int32) : c_rcount (c_tmade_s σ v) = c_rcount σ := Eq.trans rfl rfl
theorem Cp_manner_sizes (σ : CSt) (v : (Nat → Int32)) : c_manner (c_sizes_s σ v) = c_manner σ := Eq.trans rfl rfl
theorem Cp_fault_sizes (σ : CSt) (v : (Nat → Int32)) : c_fault (c_sizes_s σ v) = c_fault σ := Eq.trans rfl rfl
theorem Cp_under_sizes (σ : CSt) (v : (Nat → Int32)) : c_under (c_sizes_s σ v) = c_under σ := Eq.trans rfl rfl
theorem Cp_nextS_sizes (σ : CSt) (v : (Nat → Int32)) : c_nextS (c_sizes_s σ v) = c_nextS σ := Eq.trans rfl rfl
theorem Cp_rounds_sizes (σ : CSt) (v : (Nat → Int32)) : c_rounds (c_sizes_s σ v) = c_rounds σ := Eq.trans rfl rfl
theorem Cp_steps_sizes (σ : CSt) (v : (Nat → Int32)) : c_steps (c_sizes_s σ v) = c_steps σ := Eq.trans rfl rfl
theorem Cp_shaded_sizes (σ : CSt) (v : (Nat → Int32)) : c_shaded (c_sizes_s σ v) = c_shaded σ := Eq.trans rfl rfl
theorem Cp_moved_sizes (σ : CSt) (v : (Nat → Int32)) : c_moved (c_sizes_s σ v) = c_moved σ := Eq.trans rfl rfl
theorem Cp_tmade_sizes (σ : CSt) (v : (Nat → Int32)) : c_tmade (c_sizes_s σ v) = c_tmade σ := Eq.trans rfl rfl
theorem Cp_sizes_sizes (σ : CSt) (v : (Nat → Int32)) : c_sizes (c_sizes_s σ v) = v := Eq.trans rfl rfl
theorem Cp_places_sizes (σ : CSt) (v : (Nat → Int32)) : c_places (c_sizes_s σ v) = c_places σ := Eq.trans rfl rfl
theorem Cp_colours_sizes (σ : CSt) (v : (Nat → Int32)) : c_colours (c_sizes_s σ v) = c_colours σ := Eq.trans rfl rfl
theorem Cp_moves_sizes (σ : CSt) (v : (Nat → Int32)) : c_moves (c_sizes_s σ v) = c_moves σ := Eq.trans rfl rfl
theorem Cp_freed_sizes (σ : CSt) (v : (Nat → Int32)) : c_freed (c_sizes_s σ v) = c_freed σ := Eq.trans rfl rfl
theorem Cp_wishing_sizes (σ : CSt) (v : (Nat → Int32)) : c_wishing (c_sizes_s σ v) = c_wishing σ := Eq.trans rfl rfl
theorem Cp_theld_sizes (σ : CSt) (v : (Nat → Int32)) : c_theld (c_sizes_s σ v) = c_theld σ := Eq.trans rfl rfl
theorem Cp_cmap_sizes (σ : CSt) (v : (Nat → Int32)) : c_cmap (c_sizes_s σ v) = c_cmap σ := Eq.trans rfl rfl
theorem Cp_halfEnd_sizes (σ : CSt) (v : (Nat → Int32)) : c_halfEnd (c_sizes_s σ v) = c_halfEnd σ := Eq.trans rfl rfl
theorem Cp_behind_sizes (σ : CSt) (v : (Nat → Int32)) : c_behind (c_sizes_s σ v) = c_behind σ := Eq.trans rfl rfl
theorem Cp_hheld_sizes (σ : CSt) (v : (Nat → Int32)) : c_hheld (c_sizes_s σ v) = c_hheld σ := Eq.trans rfl rfl
theorem Cp_named_sizes (σ : CSt) (v : (Nat → Int32)) : c_named (c_sizes_s σ v) = c_named σ := Eq.trans rfl rfl
theorem Cp_wishes_sizes (σ : CSt) (v : (Nat → Int32)) : c_wishes (c_sizes_s σ v) = c_wishes σ := Eq.trans rfl rfl
theorem Cp_pmade_sizes (σ : CSt) (v : (Nat → Int32)) : c_pmade (c_sizes_s σ v) = c_pmade σ := Eq.trans rfl rfl
theorem Cp_keys_sizes (σ : CSt) (v : (Nat → Int32)) : c_keys (c_sizes_s σ v) = c_keys σ := Eq.trans rfl rfl
theorem Cp_values_sizes (σ : CSt) (v : (Nat → Int32)) : c_values (c_sizes_s σ v) = c_values σ := Eq.trans rfl rfl
theorem Cp_found_sizes (σ : CSt) (v : (Nat → Int32)) : c_found (c_sizes_s σ v) = c_found σ := Eq.trans rfl rfl
theorem Cp_order_sizes (σ : CSt) (v : (Nat → Int32)) : c_order (c_sizes_s σ v) = c_order σ := Eq.trans rfl rfl
theorem Cp_rcount_sizes (σ : CSt) (v : (Nat → Int32)) : c_rcount (c_sizes_s σ v) = c_rcount σ := Eq.trans rfl rfl
theorem Cp_manner_places (σ : CSt) (v : (Nat → Int32)) : c_manner (c_places_s σ v) = c_manner σ := Eq.trans rfl rfl
theorem Cp_fault_places (σ : CSt) (v : (Nat → Int32)) : c_fault (c_places_s σ v) = c_fault σ := Eq.trans rfl rfl
theorem Cp_under_places (σ : CSt) (v : (Nat → Int32)) : c_under (c_places_s σ v) = c_under σ := Eq.trans rfl rfl
theorem Cp_nextS_places (σ : CSt) (v : (Nat → Int32)) : c_nextS (c_places_s σ v) = c_nextS σ := Eq.trans rfl rfl
theorem Cp_rounds_places (σ : CSt) (v : (Nat → Int32)) : c_rounds (c_places_s σ v) = c_rounds σ := Eq.trans rfl rfl
theorem Cp_steps_places (σ : CSt) (v : (Nat → Int32)) : c_steps (c_places_s σ v) = c_steps σ := Eq.trans rfl rfl
theorem Cp_shaded_places (σ : CSt) (v : (Nat → Int32)) : c_shaded (c_places_s σ v) = c_shaded σ := Eq.trans rfl rfl
theorem Cp_moved_places (σ : CSt) (v : (Nat → Int32)) : c_moved (c_places_s σ v) = c_moved σ := Eq.trans rfl rfl
theorem Cp_tmade_places (σ : CSt) (v : (Nat → Int32)) : c_tmade (c_places_s σ v) = c_tmade σ := Eq.trans rfl rfl
theorem Cp_sizes_places (σ : CSt) (v : (Nat → Int32)) : c_sizes (c_places_s σ v) = c_sizes σ := Eq.trans rfl rfl
theorem Cp_places_places (σ : CSt) (v : (Nat → Int32)) : c_places (c_places_s σ v) = v := Eq.trans rfl rfl
theorem Cp_colours_places (σ : CSt) (v : (Nat → Int32)) : c_colours (c_places_s σ v) = c_colours σ := Eq.trans rfl rfl
theorem Cp_moves_places (σ : CSt) (v : (Nat → Int32)) : c_moves (c_places_s σ v) = c_moves σ := Eq.trans rfl rfl
theorem Cp_freed_places (σ : CSt) (v : (Nat → Int32)) : c_freed (c_places_s σ v) = c_freed σ := Eq.trans rfl rfl
theorem Cp_wishing_places (σ : CSt) (v : (Nat → Int32)) : c_wishing (c_places_s σ v) = c_wishing σ := Eq.trans rfl rfl
theorem Cp_theld_places (σ : CSt) (v : (Nat → Int32)) : c_theld (c_places_s σ v) = c_theld σ := Eq.trans rfl rfl
theorem Cp_cmap_places (σ : CSt) (v : (Nat → Int32)) : c_cmap (c_places_s σ v) = c_cmap σ := Eq.trans rfl rfl
theorem Cp_halfEnd_places (σ : CSt) (v : (Nat → Int32)) : c_halfEnd (c_places_s σ v) = c_halfEnd σ := Eq.trans rfl rfl
theorem Cp_behind_places (σ : CSt) (v : (Nat → Int32)) : c_behind (c_places_s σ v) = c_behind σ := Eq.trans rfl rfl
theorem Cp_hheld_places (σ : CSt) (v : (Nat → Int32)) : c_hheld (c_places_s σ v) = c_hheld σ := Eq.trans rfl rfl
theorem Cp_named_places (σ : CSt) (v : (Nat → Int32)) : c_named (c_places_s σ v) = c_named σ := Eq.trans rfl rfl
theorem Cp_wishes_places (σ : CSt) (v : (Nat → Int32)) : c_wishes (c_places_s σ v) = c_wishes σ := Eq.trans rfl rfl
theorem Cp_pmade_places (σ : CSt) (v : (Nat → Int32)) : c_pmade (c_places_s σ v) = c_pmade σ := Eq.trans rfl rfl
theorem Cp_keys_places (σ : CSt) (v : (Nat → Int32)) : c_keys (c_places_s σ v) = c_keys σ := Eq.trans rfl rfl
theorem Cp_values_places (σ : CSt) (v : (Nat → Int32)) : c_values (c_places_s σ v) = c_values σ := Eq.trans rfl rfl
theorem Cp_found_places (σ : CSt) (v : (Nat → Int32)) : c_found (c_places_s σ v) = c_found σ := Eq.trans rfl rfl
theorem Cp_order_places (σ : CSt) (v : (Nat → Int32)) : c_order (c_places_s σ v) = c_order σ := Eq.trans rfl rfl
theorem Cp_rcount_places (σ : CSt) (v : (Nat → Int32)) : c_rcount (c_places_s σ v) = c_rcount σ := Eq.trans rfl rfl
theorem Cp_manner_colours (σ : CSt) (v : (Nat → Int32)) : c_manner (c_colours_s σ v) = c_manner σ := Eq.trans rfl rfl
theorem Cp_fault_colours (σ : CSt) (v : (Nat → Int32)) : c_fault (c_colours_s σ v) = c_fault σ := Eq.trans rfl rfl
theorem Cp_under_colours (σ : CSt) (v : (Nat → Int32)) : c_under (c_colours_s σ v) = c_under σ := Eq.trans rfl rfl
theorem Cp_nextS_colours (σ : CSt) (v : (Nat → Int32)) : c_nextS (c_colours_s σ v) = c_nextS σ := Eq.trans rfl rfl
theorem Cp_rounds_colours (σ : CSt) (v : (Nat → Int32)) : c_rounds (c_colours_s σ v) = c_rounds σ := Eq.trans rfl rfl
theorem Cp_steps_colours (σ : CSt) (v : (Nat → Int32)) : c_steps (c_colours_s σ v) = c_steps σ := Eq.trans rfl rfl
theorem Cp_shaded_colours (σ : CSt) (v : (Nat → Int32)) : c_shaded (c_colours_s σ v) = c_shaded σ := Eq.trans rfl rfl
theorem Cp_moved_colours (σ : CSt) (v : (Nat → Int32)) : c_moved (c_colours_s σ v) = c_moved σ := Eq.trans rfl rfl
theorem Cp_tmade_colours (σ : CSt) (v : (Nat → Int32)) : c_tmade (c_colours_s σ v) = c_tmade σ := Eq.trans rfl rfl
theorem Cp_sizes_colours (σ : CSt) (v : (Nat → Int32)) : c_sizes (c_colours_s σ v) = c_sizes σ := Eq.trans rfl rfl
theorem Cp_places_colours (σ : CSt) (v : (Nat → Int32)) : c_places (c_colours_s σ v) = c_places σ := Eq.trans rfl rfl
theorem Cp_colours_colours (σ : CSt) (v : (Nat → Int32)) : c_colours (c_colours_s σ v) = v := Eq.trans rfl rfl
theorem Cp_moves_colours (σ : CSt) (v : (Nat → Int32)) : c_moves (c_colours_s σ v) = c_moves σ := Eq.trans rfl rfl
theorem Cp_freed_colours (σ : CSt) (v : (Nat → Int32)) : c_freed (c_colours_s σ v) = c_freed σ := Eq.trans rfl rfl
theorem Cp_wishing_colours (σ : CSt) (v : (Nat → Int32)) : c_wishing (c_colours_s σ v) = c_wishing σ := Eq.trans rfl rfl
theorem Cp_theld_colours (σ : CSt) (v : (Nat → Int32)) : c_theld (c_colours_s σ v) = c_theld σ := Eq.trans rfl rfl
theorem Cp_cmap_colours (σ : CSt) (v : (Nat → Int32)) : c_cmap (c_colours_s σ v) = c_cmap σ := Eq.trans rfl rfl
theorem Cp_halfEnd_colours (σ : CSt) (v : (Nat → Int32)) : c_halfEnd (c_colours_s σ v) = c_halfEnd σ := Eq.trans rfl rfl
theorem Cp_behind_colours (σ : CSt) (v : (Nat → Int32)) : c_behind (c_colours_s σ v) = c_behind σ := Eq.trans rfl rfl
theorem Cp_hheld_colours (σ : CSt) (v : (Nat → Int32)) : c_hheld (c_colours_s σ v) = c_hheld σ := Eq.trans rfl rfl
theorem Cp_named_colours (σ : CSt) (v : (Nat → Int32)) : c_named (c_colours_s σ v) = c_named σ := Eq.trans rfl rfl
theorem Cp_wishes_colours (σ : CSt) (v : (Nat → Int32)) : c_wishes (c_colours_s σ v) = c_wishes σ := Eq.trans rfl rfl
theorem Cp_pmade_colours (σ : CSt) (v : (Nat → Int32)) : c_pmade (c_colours_s σ v) = c_pmade σ := Eq.trans rfl rfl
theorem Cp_keys_colours (σ : CSt) (v : (Nat → Int32)) : c_keys (c_colours_s σ v) = c_keys σ := Eq.trans rfl rfl
theorem Cp_values_colours (σ : CSt) (v : (Nat → Int32)) : c_values (c_colours_s σ v) = c_values σ := Eq.trans rfl rfl
theorem Cp_found_colours (σ : CSt) (v : (Nat → Int32)) : c_found (c_colours_s σ v) = c_found σ := Eq.trans rfl rfl
theorem Cp_order_colours (σ : CSt) (v : (Nat → Int32)) : c_order (c_colours_s σ v) = c_order σ := Eq.trans rfl rfl
theorem Cp_rcount_colours (σ : CSt) (v : (Nat → Int32)) : c_rcount (c_colours_s σ v) = c_rcount σ := Eq.trans rfl rfl
theorem Cp_manner_moves (σ : CSt) (v : (Nat → Int32)) : c_manner (c_moves_s σ v) = c_manner σ := Eq.trans rfl rfl
theorem Cp_fault_moves (σ : CSt) (v : (Nat → Int32)) : c_fault (c_moves_s σ v) = c_fault σ := Eq.trans rfl rfl
theorem Cp_under_moves (σ : CSt) (v : (Nat → Int32)) : c_under (c_moves_s σ v) = c_under σ := Eq.trans rfl rfl
theorem Cp_nextS_moves (σ : CSt) (v : (Nat → Int32)) : c_nextS (c_moves_s σ v) = c_nextS σ := Eq.trans rfl rfl
theorem Cp_rounds_moves (σ : CSt) (v : (Nat → Int32)) : c_rounds (c_moves_s σ v) = c_rounds σ := Eq.trans rfl rfl
theorem Cp_steps_moves (σ : CSt) (v : (Nat → Int32)) : c_steps (c_moves_s σ v) = c_steps σ := Eq.trans rfl rfl
theorem Cp_shaded_moves (σ : CSt) (v : (Nat → Int32)) : c_shaded (c_moves_s σ v) = c_shaded σ := Eq.trans rfl rfl
theorem Cp_moved_moves (σ : CSt) (v : (Nat → Int32)) : c_moved (c_moves_s σ v) = c_moved σ := Eq.trans rfl rfl
theorem Cp_tmade_moves (σ : CSt) (v : (Nat → Int32)) : c_tmade (c_moves_s σ v) = c_tmade σ := Eq.trans rfl rfl
theorem Cp_sizes_moves (σ : CSt) (v : (Nat → Int32)) : c_sizes (c_moves_s σ v) = c_sizes σ := Eq.trans rfl rfl
theorem Cp_places_moves (σ : CSt) (v : (Nat → Int32)) : c_places (c_moves_s σ v) = c_places σ := Eq.trans rfl rfl
theorem Cp_colours_moves (σ : CSt) (v : (Nat → Int32)) : c_colours (c_moves_s σ v) = c_colours σ := Eq.trans rfl rfl
theorem Cp_moves_moves (σ : CSt) (v : (Nat → Int32)) : c_moves (c_moves_s σ v) = v := Eq.trans rfl rfl
theorem Cp_freed_moves (σ : CSt) (v : (Nat → Int32)) : c_freed (c_moves_s σ v) = c_freed σ := Eq.trans rfl rfl
theorem Cp_wishing_moves (σ : CSt) (v : (Nat → Int32)) : c_wishing (c_moves_s σ v) = c_wishing σ := Eq.trans rfl rfl
theorem Cp_theld_moves (σ : CSt) (v : (Nat → Int32)) : c_theld (c_moves_s σ v) = c_theld σ := Eq.trans rfl rfl
theorem Cp_cmap_moves (σ : CSt) (v : (Nat → Int32)) : c_cmap (c_moves_s σ v) = c_cmap σ := Eq.trans rfl rfl
theorem Cp_halfEnd_moves (σ : CSt) (v : (Nat → Int32)) : c_halfEnd (c_moves_s σ v) = c_halfEnd σ := Eq.trans rfl rfl
theorem Cp_behind_moves (σ : CSt) (v : (Nat → Int32)) : c_behind (c_moves_s σ v) = c_behind σ := Eq.trans rfl rfl
theorem Cp_hheld_moves (σ : CSt) (v : (Nat → Int32)) : c_hheld (c_moves_s σ v) = c_hheld σ := Eq.trans rfl rfl
theorem Cp_named_moves (σ : CSt) (v : (Nat → Int32)) : c_named (c_moves_s σ v) = c_named σ := Eq.trans rfl rfl
theorem Cp_wishes_moves (σ : CSt) (v : (Nat → Int32)) : c_wishes (c_moves_s σ v) = c_wishes σ := Eq.trans rfl rfl
theorem Cp_pmade_moves (σ : CSt) (v : (Nat → Int32)) : c_pmade (c_moves_s σ v) = c_pmade σ := Eq.trans rfl rfl
theorem Cp_keys_moves (σ : CSt) (v : (Nat → Int32)) : c_keys (c_moves_s σ v) = c_keys σ := Eq.trans rfl rfl
theorem Cp_values_moves (σ : CSt) (v : (Nat → Int32)) : c_values (c_moves_s σ v) = c_values σ := Eq.trans rfl rfl
theorem Cp_found_moves (σ : CSt) (v : (Nat → Int32)) : c_found (c_moves_s σ v) = c_found σ := Eq.trans rfl rfl
theorem Cp_order_moves (σ : CSt) (v : (Nat → Int32)) : c_order (c_moves_s σ v) = c_order σ := Eq.trans rfl rfl
theorem Cp_rcount_moves (σ : CSt) (v : (Nat → Int32)) : c_rcount (c_moves_s σ v) = c_rcount σ := Eq.trans rfl rfl
theorem Cp_manner_freed (σ : CSt) (v : (Nat → Int32)) : c_manner (c_freed_s σ v) = c_manner σ := Eq.trans rfl rfl
theorem Cp_fault_freed (σ : CSt) (v : (Nat → Int32)) : c_fault (c_freed_s σ v) = c_fault σ := Eq.trans rfl rfl
theorem Cp_under_freed (σ : CSt) (v : (Nat → Int32)) : c_under (c_freed_s σ v) = c_under σ := Eq.trans rfl rfl
theorem Cp_nextS_freed (σ : CSt) (v : (Nat → Int32)) : c_nextS (c_freed_s σ v) = c_nextS σ := Eq.trans rfl rfl
theorem Cp_rounds_freed (σ : CSt) (v : (Nat → Int32)) : c_rounds (c_freed_s σ v) = c_rounds σ := Eq.trans rfl rfl
theorem Cp_steps_freed (σ : CSt) (v : (Nat → Int32)) : c_steps (c_freed_s σ v) = c_steps σ := Eq.trans rfl rfl
theorem Cp_shaded_freed (σ : CSt) (v : (Nat → Int32)) : c_shaded (c_freed_s σ v) = c_shaded σ := Eq.trans rfl rfl
theorem Cp_moved_freed (σ : CSt) (v : (Nat → Int32)) : c_moved (c_freed_s σ v) = c_moved σ := Eq.trans rfl rfl
theorem Cp_tmade_freed (σ : CSt) (v : (Nat → Int32)) : c_tmade (c_freed_s σ v) = c_tmade σ := Eq.trans rfl rfl
theorem Cp_sizes_freed (σ : CSt) (v : (Nat → Int32)) : c_sizes (c_freed_s σ v) = c_sizes σ := Eq.trans rfl rfl
theorem Cp_places_freed (σ : CSt) (v : (Nat → Int32)) : c_places (c_freed_s σ v) = c_places σ := Eq.trans rfl rfl
theorem Cp_colours_freed (σ : CSt) (v : (Nat → Int32)) : c_colours (c_freed_s σ v) = c_colours σ := Eq.trans rfl rfl
theorem Cp_moves_freed (σ : CSt) (v : (Nat → Int32)) : c_moves (c_freed_s σ v) = c_moves σ := Eq.trans rfl rfl
theorem Cp_freed_freed (σ : CSt) (v : (Nat → Int32)) : c_freed (c_freed_s σ v) = v := Eq.trans rfl rfl
theorem Cp_wishing_freed (σ : CSt) (v : (Nat → Int32)) : c_wishing (c_freed_s σ v) = c_wishing σ := Eq.trans rfl rfl
theorem Cp_theld_freed (σ : CSt) (v : (Nat → Int32)) : c_theld (c_freed_s σ v) = c_theld σ := Eq.trans rfl rfl
theorem Cp_cmap_freed (σ : CSt) (v : (Nat → Int32)) : c_cmap (c_freed_s σ v) = c_cmap σ := Eq.trans rfl rfl
theorem Cp_halfEnd_freed (σ : CSt) (v : (Nat → Int32)) : c_halfEnd (c_freed_s σ v) = c_halfEnd σ := Eq.trans rfl rfl
theorem Cp_behind_freed (σ : CSt) (v : (Nat → Int32)) : c_behind (c_freed_s σ v) = c_behind σ := Eq.trans rfl rfl
theorem Cp_hheld_freed (σ : CSt) (v : (Nat → Int32)) : c_hheld (c_freed_s σ v) = c_hheld σ := Eq.trans rfl rfl
theorem Cp_named_freed (σ : CSt) (v : (Nat → Int32)) : c_named (c_freed_s σ v) = c_named σ := Eq.trans rfl rfl
theorem Cp_wishes_freed (σ : CSt) (v : (Nat → Int32)) : c_wishes (c_freed_s σ v) = c_wishes σ := Eq.trans rfl rfl
theorem Cp_pmade_freed (σ : CSt) (v : (Nat → Int32)) : c_pmade (c_freed_s σ v) = c_pmade σ := Eq.trans rfl rfl
theorem Cp_keys_freed (σ : CSt) (v : (Nat → Int32)) : c_keys (c_freed_s σ v) = c_keys σ := Eq.trans rfl rfl
theorem Cp_values_freed (σ : CSt) (v : (Nat → Int32)) : c_values (c_freed_s σ v) = c_values σ := Eq.trans rfl rfl
theorem Cp_found_freed (σ : CSt) (v : (Nat → Int32)) : c_found (c_freed_s σ v) = c_found σ := Eq.trans rfl rfl
theorem Cp_order_freed (σ : CSt) (v : (Nat → Int32)) : c_order (c_freed_s σ v) = c_order σ := Eq.trans rfl rfl
theorem Cp_rcount_freed (σ : CSt) (v : (Nat → Int32)) : c_rcount (c_freed_s σ v) = c_rcount σ := Eq.trans rfl rfl
theorem Cp_manner_wishing (σ : CSt) (v : (Nat → Int32)) : c_manner (c_wishing_s σ v) = c_manner σ := Eq.trans rfl rfl
theorem Cp_fault_wishing (σ : CSt) (v : (Nat → Int32)) : c_fault (c_wishing_s σ v) = c_fault σ := Eq.trans rfl rfl
theorem Cp_under_wishing (σ : CSt) (v : (Nat → Int32)) : c_under (c_wishing_s σ v) = c_under σ := Eq.trans rfl rfl
theorem Cp_nextS_wishing (σ : CSt) (v : (Nat → Int32)) : c_nextS (c_wishing_s σ v) = c_nextS σ := Eq.trans rfl rfl
theorem Cp_rounds_wishing (σ : CSt) (v : (Nat → Int32)) : c_rounds (c_wishing_s σ v) = c_rounds σ := Eq.trans rfl rfl
theorem Cp_steps_wishing (σ : CSt) (v : (Nat → Int32)) : c_steps (c_wishing_s σ v) = c_steps σ := Eq.trans rfl rfl
theorem Cp_shaded_wishing (σ : CSt) (v : (Nat → Int32)) : c_shaded (c_wishing_s σ v) = c_shaded σ := Eq.trans rfl rfl
theorem Cp_moved_wishing (σ : CSt) (v : (Nat → Int32)) : c_moved (c_wishing_s σ v) = c_moved σ := Eq.trans rfl rfl
theorem Cp_tmade_wishing (σ : CSt) (v : (Nat → Int32)) : c_tmade (c_wishing_s σ v) = c_tmade σ := Eq.trans rfl rfl
theorem Cp_sizes_wishing (σ : CSt) (v : (Nat → Int32)) : c_sizes (c_wishing_s σ v) = c_sizes σ := Eq.trans rfl rfl
theorem Cp_places_wishing (σ : CSt) (v : (Nat → Int32)) : c_places (c_wishing_s σ v) = c_places σ := Eq.trans rfl rfl
theorem Cp_colours_wishing (σ : CSt) (v : (Nat → Int32)) : c_colours (c_wishing_s σ v) = c_colours σ := Eq.trans rfl rfl
theorem Cp_moves_wishing (σ : CSt) (v : (Nat → Int32)) : c_moves (c_wishing_s σ v) = c_moves σ := Eq.trans rfl rfl
theorem Cp_freed_wishing (σ : CSt) (v : (Nat → Int32)) : c_freed (c_wishing_s σ v) = c_freed σ := Eq.trans rfl rfl
theorem Cp_wishing_wishing (σ : CSt) (v : (Nat → Int32)) : c_wishing (c_wishing_s σ v) = v := Eq.trans rfl rfl
theorem Cp_theld_wishing (σ : CSt) (v : (Nat → Int32)) : c_theld (c_wishing_s σ v) = c_theld σ := Eq.trans rfl rfl
theorem Cp_cmap_wishing (σ : CSt) (v : (Nat → Int32)) : c_cmap (c_wishing_s σ v) = c_cmap σ := Eq.trans rfl rfl
theorem Cp_halfEnd_wishing (σ : CSt) (v : (Nat → Int32)) : c_halfEnd (c_wishing_s σ v) = c_halfEnd σ := Eq.trans rfl rfl
theorem Cp_behind_wishing (σ : CSt) (v : (Nat → Int32)) : c_behind (c_wishing_s σ v) = c_behind σ := Eq.trans rfl rfl
theorem Cp_hheld_wishing (σ : CSt) (v : (Nat → Int32)) : c_hheld (c_wishing_s σ v) = c_hheld σ := Eq.trans rfl rfl
theorem Cp_named_wishing (σ : CSt) (v : (Nat → Int32)) : c_named (c_wishing_s σ v) = c_named σ := Eq.trans rfl rfl
theorem Cp_wishes_wishing (σ : CSt) (v : (Nat → Int32)) : c_wishes (c_wishing_s σ v) = c_wishes σ := Eq.trans rfl rfl
theorem Cp_pmade_wishing (σ : CSt) (v : (Nat → Int32)) : c_pmade (c_wishing_s σ v) = c_pmade σ := Eq.trans rfl rfl
theorem Cp_keys_wishing (σ : CSt) (v : (Nat → Int32)) : c_keys (c_wishing_s σ v) = c_keys σ := Eq.trans rfl rfl
theorem Cp_values_wishing (σ : CSt) (v : (Nat → Int32)) : c_values (c_wishing_s σ v) = c_values σ := Eq.trans rfl rfl
theorem Cp_found_wishing (σ : CSt) (v : (Nat → Int32)) : c_found (c_wishing_s σ v) = c_found σ := Eq.trans rfl rfl
theorem Cp_order_wishing (σ : CSt) (v : (Nat → Int32)) : c_order (c_wishing_s σ v) = c_order σ := Eq.trans rfl rfl
theorem Cp_rcount_wishing (σ : CSt) (v : (Nat → Int32)) : c_rcount (c_wishing_s σ v) = c_rcount σ := Eq.trans rfl rfl
theorem Cp_manner_theld (σ : CSt) (v : (Nat → Int32)) : c_manner (c_theld_s σ v) = c_manner σ := Eq.trans rfl rfl
theorem Cp_fault_theld (σ : CSt) (v : (Nat → Int32)) : c_fault (c_theld_s σ v) = c_fault σ := Eq.trans rfl rfl
theorem Cp_under_theld (σ : CSt) (v : (Nat → Int32)) : c_under (c_theld_s σ v) = c_under σ := Eq.trans rfl rfl
theorem Cp_nextS_theld (σ : CSt) (v : (Nat → Int32)) : c_nextS (c_theld_s σ v) = c_nextS σ := Eq.trans rfl rfl
theorem Cp_rounds_theld (σ : CSt) (v : (Nat → Int32)) : c_rounds (c_theld_s σ v) = c_rounds σ := Eq.trans rfl rfl
theorem Cp_steps_theld (σ : CSt) (v : (Nat → Int32)) : c_steps (c_theld_s σ v) = c_steps σ := Eq.trans rfl rfl
theorem Cp_shaded_theld (σ : CSt) (v : (Nat → Int32)) : c_shaded (c_theld_s σ v) = c_shaded σ := Eq.trans rfl rfl
theorem Cp_moved_theld (σ : CSt) (v : (Nat → Int32)) : c_moved (c_theld_s σ v) = c_moved σ := Eq.trans rfl rfl
theorem Cp_tmade_theld (σ : CSt) (v : (Nat → Int32)) : c_tmade (c_theld_s σ v) = c_tmade σ := Eq.trans rfl rfl
theorem Cp_sizes_theld (σ : CSt) (v : (Nat → Int32)) : c_sizes (c_theld_s σ v) = c_sizes σ := Eq.trans rfl rfl
theorem Cp_places_theld (σ : CSt) (v : (Nat → Int32)) : c_places (c_theld_s σ v) = c_places σ := Eq.trans rfl rfl
theorem Cp_colours_theld (σ : CSt) (v : (Nat → Int32)) : c_colours (c_theld_s σ v) = c_colours σ := Eq.trans rfl rfl
theorem Cp_moves_theld (σ : CSt) (v : (Nat → Int32)) : c_moves (c_theld_s σ v) = c_moves σ := Eq.trans rfl rfl
theorem Cp_freed_theld (σ : CSt) (v : (Nat → Int32)) : c_freed (c_theld_s σ v) = c_freed σ := Eq.trans rfl rfl
theorem Cp_wishing_theld (σ : CSt) (v : (Nat → Int32)) : c_wishing (c_theld_s σ v) = c_wishing σ := Eq.trans rfl rfl
theorem Cp_theld_theld (σ : CSt) (v : (Nat → Int32)) : c_theld (c_theld_s σ v) = v := Eq.trans rfl rfl
theorem Cp_cmap_theld (σ : CSt) (v : (Nat → Int32)) : c_cmap (c_theld_s σ v) = c_cmap σ := Eq.trans rfl rfl
theorem Cp_halfEnd_theld (σ : CSt) (v : (Nat → Int32)) : c_halfEnd (c_theld_s σ v) = c_halfEnd σ := Eq.trans rfl rfl
theorem Cp_behind_theld (σ : CSt) (v : (Nat → Int32)) : c_behind (c_theld_s σ v) = c_behind σ := Eq.trans rfl rfl
theorem Cp_hheld_theld (σ : CSt) (v : (Nat → Int32)) : c_hheld (c_theld_s σ v) = c_hheld σ := Eq.trans rfl rfl
theorem Cp_named_theld (σ : CSt) (v : (Nat → Int32)) : c_named (c_theld_s σ v) = c_named σ := Eq.trans rfl rfl
theorem Cp_wishes_theld (σ : CSt) (v : (Nat → Int32)) : c_wishes (c_theld_s σ v) = c_wishes σ := Eq.trans rfl rfl
theorem Cp_pmade_theld (σ : CSt) (v : (Nat → Int32)) : c_pmade (c_theld_s σ v) = c_pmade σ := Eq.trans rfl rfl
theorem Cp_keys_theld (σ : CSt) (v : (Nat → Int32)) : c_keys (c_theld_s σ v) = c_keys σ := Eq.trans rfl rfl
theorem Cp_values_theld (σ : CSt) (v : (Nat → Int32)) : c_values (c_theld_s σ v) = c_values σ := Eq.trans rfl rfl
theorem Cp_found_theld (σ : CSt) (v : (Nat → Int32)) : c_found (c_theld_s σ v) = c_found σ := Eq.trans rfl rfl
theorem Cp_order_theld (σ : CSt) (v : (Nat → Int32)) : c_order (c_theld_s σ v) = c_order σ := Eq.trans rfl rfl
theorem Cp_rcount_theld (σ : CSt) (v : (Nat → Int32)) : c_rcount (c_theld_s σ v) = c_rcount σ := Eq.trans rfl rfl
theorem Cp_manner_cmap (σ : CSt) (v : (Nat → Int32)) : c_manner (c_cmap_s σ v) = c_manner σ := Eq.trans rfl rfl
theorem Cp_fault_cmap (σ : CSt) (v : (Nat → Int32)) : c_fault (c_cmap_s σ v) = c_fault σ := Eq.trans rfl rfl
theorem Cp_under_cmap (σ : CSt) (v : (Nat → Int32)) : c_under (c_cmap_s σ v) = c_under σ := Eq.trans rfl rfl
theorem Cp_nextS_cmap (σ : CSt) (v : (Nat → Int32)) : c_nextS (c_cmap_s σ v) = c_nextS σ := Eq.trans rfl rfl
theorem Cp_rounds_cmap (σ : CSt) (v : (Nat → Int32)) : c_rounds (c_cmap_s σ v) = c_rounds σ := Eq.trans rfl rfl
theorem Cp_steps_cmap (σ : CSt) (v : (Nat → Int32)) : c_steps (c_cmap_s σ v) = c_steps σ := Eq.trans rfl rfl
theorem Cp_shaded_cmap (σ : CSt) (v : (Nat → Int32)) : c_shaded (c_cmap_s σ v) = c_shaded σ := Eq.trans rfl rfl
theorem Cp_moved_cmap (σ : CSt) (v : (Nat → Int32)) : c_moved (c_cmap_s σ v) = c_moved σ := Eq.trans rfl rfl
theorem Cp_tmade_cmap (σ : CSt) (v : (Nat → Int32)) : c_tmade (c_cmap_s σ v) = c_tmade σ := Eq.trans rfl rfl
theorem Cp_sizes_cmap (σ : CSt) (v : (Nat → Int32)) : c_sizes (c_cmap_s σ v) = c_sizes σ := Eq.trans rfl rfl
theorem Cp_places_cmap (σ : CSt) (v : (Nat → Int32)) : c_places (c_cmap_s σ v) = c_places σ := Eq.trans rfl rfl
theorem Cp_colours_cmap (σ : CSt) (v : (Nat → Int32)) : c_colours (c_cmap_s σ v) = c_colours σ := Eq.trans rfl rfl
theorem Cp_moves_cmap (σ : CSt) (v : (Nat → Int32)) : c_moves (c_cmap_s σ v) = c_moves σ := Eq.trans rfl rfl
theorem Cp_freed_cmap (σ : CSt) (v : (Nat → Int32)) : c_freed (c_cmap_s σ v) = c_freed σ := Eq.trans rfl rfl
theorem Cp_wishing_cmap (σ : CSt) (v : (Nat → Int32)) : c_wishing (c_cmap_s σ v) = c_wishing σ := Eq.trans rfl rfl
theorem Cp_theld_cmap (σ : CSt) (v : (Nat → Int32)) : c_theld (c_cmap_s σ v) = c_theld σ := Eq.trans rfl rfl
theorem Cp_cmap_cmap (σ : CSt) (v : (Nat → Int32)) : c_cmap (c_cmap_s σ v) = v := Eq.trans rfl rfl
theorem Cp_halfEnd_cmap (σ : CSt) (v : (Nat → Int32)) : c_halfEnd (c_cmap_s σ v) = c_halfEnd σ := Eq.trans rfl rfl
theorem Cp_behind_cmap (σ : CSt) (v : (Nat → Int32)) : c_behind (c_cmap_s σ v) = c_behind σ := Eq.trans rfl rfl
theorem Cp_hheld_cmap (σ : CSt) (v : (Nat → Int32)) : c_hheld (c_cmap_s σ v) = c_hheld σ := Eq.trans rfl rfl
theorem Cp_named_cmap (σ : CSt) (v : (Nat → Int32)) : c_named (c_cmap_s σ v) = c_named σ := Eq.trans rfl rfl
theorem Cp_wishes_cmap (σ : CSt) (v : (Nat → Int32)) : c_wishes (c_cmap_s σ v) = c_wishes σ := Eq.trans rfl rfl
theorem Cp_pmade_cmap (σ : CSt) (v : (Nat → Int32)) : c_pmade (c_cmap_s σ v) = c_pmade σ := Eq.trans rfl rfl
theorem Cp_keys_cmap (σ : CSt) (v : (Nat → Int32)) : c_keys (c_cmap_s σ v) = c_keys σ := Eq.trans rfl rfl
theorem Cp_values_cmap (σ : CSt) (v : (Nat → Int32)) : c_values (c_cmap_s σ v) = c_values σ := Eq.trans rfl rfl
theorem Cp_found_cmap (σ : CSt) (v : (Nat → Int32)) : c_found (c_cmap_s σ v) = c_found σ := Eq.trans rfl rfl
theorem Cp_order_cmap (σ : CSt) (v : (Nat → Int32)) : c_order (c_cmap_s σ v) = c_order σ := Eq.trans rfl rfl
theorem Cp_rcount_cmap (σ : CSt) (v : (Nat → Int32)) : c_rcount (c_cmap_s σ v) = c_rcount σ := Eq.trans rfl rfl
theorem Cp_manner_halfEnd (σ : CSt) (v : Int32) : c_manner (c_halfEnd_s σ v) = c_manner σ := Eq.trans rfl rfl
theorem Cp_fault_halfEnd (σ : CSt) (v : Int32) : c_fault (c_halfEnd_s σ v) = c_fault σ := Eq.trans rfl rfl
theorem Cp_under_halfEnd (σ : CSt) (v : Int32) : c_under (c_halfEnd_s σ v) = c_under σ := Eq.trans rfl rfl
theorem Cp_nextS_halfEnd (σ : CSt) (v : Int32) : c_nextS (c_halfEnd_s σ v) = c_nextS σ := Eq.trans rfl rfl
theorem Cp_rounds_halfEnd (σ : CSt) (v : Int32) : c_rounds (c_halfEnd_s σ v) = c_rounds σ := Eq.trans rfl rfl
theorem Cp_steps_halfEnd (σ : CSt) (v : Int32) : c_steps (c_halfEnd_s σ v) = c_steps σ := Eq.trans rfl rfl
theorem Cp_shaded_halfEnd (σ : CSt) (v : Int32) : c_shaded (c_halfEnd_s σ v) = c_shaded σ := Eq.trans rfl rfl
theorem Cp_moved_halfEnd (σ : CSt) (v : Int32) : c_moved (c_halfEnd_s σ v) = c_moved σ := Eq.trans rfl rfl
theorem Cp_tmade_halfEnd (σ : CSt) (v : Int32) : c_tmade (c_halfEnd_s σ v) = c_tmade σ := Eq.trans rfl rfl
theorem Cp_sizes_halfEnd (σ : CSt) (v : Int32) : c_sizes (c_halfEnd_s σ v) = c_sizes σ := Eq.trans rfl rfl
theorem Cp_places_halfEnd (σ : CSt) (v : Int32) : c_places (c_halfEnd_s σ v) = c_places σ := Eq.trans rfl rfl
theorem Cp_colours_halfEnd (σ : CSt) (v : Int32) : c_colours (c_halfEnd_s σ v) = c_colours σ := Eq.trans rfl rfl
theorem Cp_moves_halfEnd (σ : CSt) (v : Int32) : c_moves (c_halfEnd_s σ v) = c_moves σ := Eq.trans rfl rfl
theorem Cp_freed_halfEnd (σ : CSt) (v : Int32) : c_freed (c_halfEnd_s σ v) = c_freed σ := Eq.trans rfl rfl
theorem Cp_wishing_halfEnd (σ : CSt) (v : Int32) : c_wishing (c_halfEnd_s σ v) = c_wishing σ := Eq.trans rfl rfl
theorem Cp_theld_halfEnd (σ : CSt) (v : Int32) : c_theld (c_halfEnd_s σ v) = c_theld σ := Eq.trans rfl rfl
theorem Cp_cmap_halfEnd (σ : CSt) (v : Int32) : c_cmap (c_halfEnd_s σ v) = c_cmap σ := Eq.trans rfl rfl
theorem Cp_halfEnd_halfEnd (σ : CSt) (v : Int32) : c_halfEnd (c_halfEnd_s σ v) = v := Eq.trans rfl rfl
theorem Cp_behind_halfEnd (σ : CSt) (v : Int32) : c_behind (c_halfEnd_s σ v) = c_behind σ := Eq.trans rfl rfl
theorem Cp_hheld_halfEnd (σ : CSt) (v : Int32) : c_hheld (c_halfEnd_s σ v) = c_hheld σ := Eq.trans rfl rfl
theorem Cp_named_halfEnd (σ : CSt) (v : Int32) : c_named (c_halfEnd_s σ v) = c_named σ := Eq.trans rfl rfl
theorem Cp_wishes_halfEnd (σ : CSt) (v : Int32) : c_wishes (c_halfEnd_s σ v) = c_wishes σ := Eq.trans rfl rfl
theorem Cp_pmade_halfEnd (σ : CSt) (v : Int32) : c_pmade (c_halfEnd_s σ v) = c_pmade σ := Eq.trans rfl rfl
theorem Cp_keys_halfEnd (σ : CSt) (v : Int32) : c_keys (c_halfEnd_s σ v) = c_keys σ := Eq.trans rfl rfl
theorem Cp_values_halfEnd (σ : CSt) (v : Int32) : c_values (c_halfEnd_s σ v) = c_values σ := Eq.trans rfl rfl
theorem Cp_found_halfEnd (σ : CSt) (v : Int32) : c_found (c_halfEnd_s σ v) = c_found σ := Eq.trans rfl rfl
theorem Cp_order_halfEnd (σ : CSt) (v : Int32) : c_order (c_halfEnd_s σ v) = c_order σ := Eq.trans rfl rfl
theorem Cp_rcount_halfEnd (σ : CSt) (v : Int32) : c_rcount (c_halfEnd_s σ v) = c_rcount σ := Eq.trans rfl rfl
theorem Cp_manner_behind (σ : CSt) (v : Int32) : c_manner (c_behind_s σ v) = c_manner σ := Eq.trans rfl rfl
theorem Cp_fault_behind (σ : CSt) (v : Int32) : c_fault (c_behind_s σ v) = c_fault σ := Eq.trans rfl rfl
theorem Cp_under_behind (σ : CSt) (v : Int32) : c_under (c_behind_s σ v) = c_under σ := Eq.trans rfl rfl
theorem Cp_nextS_behind (σ : CSt) (v : Int32) : c_nextS (c_behind_s σ v) = c_nextS σ := Eq.trans rfl rfl
theorem Cp_rounds_behind (σ : CSt) (v : Int32) : c_rounds (c_behind_s σ v) = c_rounds σ := Eq.trans rfl rfl
theorem Cp_steps_behind (σ : CSt) (v : Int32) : c_steps (c_behind_s σ v) = c_steps σ := Eq.trans rfl rfl
theorem Cp_shaded_behind (σ : CSt) (v : Int32) : c_shaded (c_behind_s σ v) = c_shaded σ := Eq.trans rfl rfl
theorem Cp_moved_behind (σ : CSt) (v : Int32) : c_moved (c_behind_s σ v) = c_moved σ := Eq.trans rfl rfl
theorem Cp_tmade_behind (σ : CSt) (v : Int32) : c_tmade (c_behind_s σ v) = c_tmade σ := Eq.trans rfl rfl
theorem Cp_sizes_behind (σ : CSt) (v : Int32) : c_sizes (c_behind_s σ v) = c_sizes σ := Eq.trans rfl rfl
theorem Cp_places_behind (σ : CSt) (v : Int32) : c_places (c_behind_s σ v) = c_places σ := Eq.trans rfl rfl
theorem Cp_colours_behind (σ : CSt) (v : Int32) : c_colours (c_behind_s σ v) = c_colours σ := Eq.trans rfl rfl
theorem Cp_moves_behind (σ : CSt) (v : Int32) : c_moves (c_behind_s σ v) = c_moves σ := Eq.trans rfl rfl
theorem Cp_freed_behind (σ : CSt) (v : Int32) : c_freed (c_behind_s σ v) = c_freed σ := Eq.trans rfl rfl
theorem Cp_wishing_behind (σ : CSt) (v : Int32) : c_wishing (c_behind_s σ v) = c_wishing σ := Eq.trans rfl rfl
theorem Cp_theld_behind (σ : CSt) (v : Int32) : c_theld (c_behind_s σ v) = c_theld σ := Eq.trans rfl rfl
theorem Cp_cmap_behind (σ : CSt) (v : Int32) : c_cmap (c_behind_s σ v) = c_cmap σ := Eq.trans rfl rfl
theorem Cp_halfEnd_behind (σ : CSt) (v : Int32) : c_halfEnd (c_behind_s σ v) = c_halfEnd σ := Eq.trans rfl rfl
theorem Cp_behind_behind (σ : CSt) (v : Int32) : c_behind (c_behind_s σ v) = v := Eq.trans rfl rfl
theorem Cp_hheld_behind (σ : CSt) (v : Int32) : c_hheld (c_behind_s σ v) = c_hheld σ := Eq.trans rfl rfl
theorem Cp_named_behind (σ : CSt) (v : Int32) : c_named (c_behind_s σ v) = c_named σ := Eq.trans rfl rfl
theorem Cp_wishes_behind (σ : CSt) (v : Int32) : c_wishes (c_behind_s σ v) = c_wishes σ := Eq.trans rfl rfl
theorem Cp_pmade_behind (σ : CSt) (v : Int32) : c_pmade (c_behind_s σ v) = c_pmade σ := Eq.trans rfl rfl
theorem Cp_keys_behind (σ : CSt) (v : Int32) : c_keys (c_behind_s σ v) = c_keys σ := Eq.trans rfl rfl
theorem Cp_values_behind (σ : CSt) (v : Int32) : c_values (c_behind_s σ v) = c_values σ := Eq.trans rfl rfl
theorem Cp_found_behind (σ : CSt) (v : Int32) : c_found (c_behind_s σ v) = c_found σ := Eq.trans rfl rfl
theorem Cp_order_behind (σ : CSt) (v : Int32) : c_order (c_behind_s σ v) = c_order σ := Eq.trans rfl rfl
theorem Cp_rcount_behind (σ : CSt) (v : Int32) : c_rcount (c_behind_s σ v) = c_rcount σ := Eq.trans rfl rfl
theorem Cp_manner_hheld (σ : CSt) (v : (Nat → Int32)) : c_manner (c_hheld_s σ v) = c_manner σ := Eq.trans rfl rfl
theorem Cp_fault_hheld (σ : CSt) (v : (Nat → Int32)) : c_fault (c_hheld_s σ v) = c_fault σ := Eq.trans rfl rfl
theorem Cp_under_hheld (σ : CSt) (v : (Nat → Int32)) : c_under (c_hheld_s σ v) = c_under σ := Eq.trans rfl rfl
theorem Cp_nextS_hheld (σ : CSt) (v : (Nat → Int32)) : c_nextS (c_hheld_s σ v) = c_nextS σ := Eq.trans rfl rfl
theorem Cp_rounds_hheld (σ : CSt) (v : (Nat → Int32)) : c_rounds (c_hheld_s σ v) = c_rounds σ := Eq.trans rfl rfl
theorem Cp_steps_hheld (σ : CSt) (v : (Nat → Int32)) : c_steps (c_hheld_s σ v) = c_steps σ := Eq.trans rfl rfl
theorem Cp_shaded_hheld (σ : CSt) (v : (Nat → Int32)) : c_shaded (c_hheld_s σ v) = c_shaded σ := Eq.trans rfl rfl
theorem Cp_moved_hheld (σ : CSt) (v : (Nat → Int32)) : c_moved (c_hheld_s σ v) = c_moved σ := Eq.trans rfl rfl
theorem Cp_tmade_hheld (σ : CSt) (v : (Nat → Int32)) : c_tmade (c_hheld_s σ v) = c_tmade σ := Eq.trans rfl rfl
theorem Cp_sizes_hheld (σ : CSt) (v : (Nat → Int32)) : c_sizes (c_hheld_s σ v) = c_sizes σ := Eq.trans rfl rfl
theorem Cp_places_hheld (σ : CSt) (v : (Nat → Int32)) : c_places (c_hheld_s σ v) = c_places σ := Eq.trans rfl rfl
theorem Cp_colours_hheld (σ : CSt) (v : (Nat → Int32)) : c_colours (c_hheld_s σ v) = c_colours σ := Eq.trans rfl rfl
theorem Cp_moves_hheld (σ : CSt) (v : (Nat → Int32)) : c_moves (c_hheld_s σ v) = c_moves σ := Eq.trans rfl rfl
theorem Cp_freed_hheld (σ : CSt) (v : (Nat → Int32)) : c_freed (c_hheld_s σ v) = c_freed σ := Eq.trans rfl rfl
theorem Cp_wishing_hheld (σ : CSt) (v : (Nat → Int32)) : c_wishing (c_hheld_s σ v) = c_wishing σ := Eq.trans rfl rfl
theorem Cp_theld_hheld (σ : CSt) (v : (Nat → Int32)) : c_theld (c_hheld_s σ v) = c_theld σ := Eq.trans rfl rfl
theorem Cp_cmap_hheld (σ : CSt) (v : (Nat → Int32)) : c_cmap (c_hheld_s σ v) = c_cmap σ := Eq.trans rfl rfl
theorem Cp_halfEnd_hheld (σ : CSt) (v : (Nat → Int32)) : c_halfEnd (c_hheld_s σ v) = c_halfEnd σ := Eq.trans rfl rfl
theorem Cp_behind_hheld (σ : CSt) (v : (Nat → Int32)) : c_behind (c_hheld_s σ v) = c_behind σ := Eq.trans rfl rfl
theorem Cp_hheld_hheld (σ : CSt) (v : (Nat → Int32)) : c_hheld (c_hheld_s σ v) = v := Eq.trans rfl rfl
theorem Cp_named_hheld (σ : CSt) (v : (Nat → Int32)) : c_named (c_hheld_s σ v) = c_named σ := Eq.trans rfl rfl
theorem Cp_wishes_hheld (σ : CSt) (v : (Nat → Int32)) : c_wishes (c_hheld_s σ v) = c_wishes σ := Eq.trans rfl rfl
theorem Cp_pmade_hheld (σ : CSt) (v : (Nat → Int32)) : c_pmade (c_hheld_s σ v) = c_pmade σ := Eq.trans rfl rfl
theorem Cp_keys_hheld (σ : CSt) (v : (Nat → Int32)) : c_keys (c_hheld_s σ v) = c_keys σ := Eq.trans rfl rfl
theorem Cp_values_hheld (σ : CSt) (v : (Nat → Int32)) : c_values (c_hheld_s σ v) = c_values σ := Eq.trans rfl rfl
theorem Cp_found_hheld (σ : CSt) (v : (Nat → Int32)) : c_found (c_hheld_s σ v) = c_found σ := Eq.trans rfl rfl
theorem Cp_order_hheld (σ : CSt) (v : (Nat → Int32)) : c_order (c_hheld_s σ v) = c_order σ := Eq.trans rfl rfl
theorem Cp_rcount_hheld (σ : CSt) (v : (Nat → Int32)) : c_rcount (c_hheld_s σ v) = c_rcount σ := Eq.trans rfl rfl
theorem Cp_manner_named (σ : CSt) (v : (Nat → Int32)) : c_manner (c_named_s σ v) = c_manner σ := Eq.trans rfl rfl
theorem Cp_fault_named (σ : CSt) (v : (Nat → Int32)) : c_fault (c_named_s σ v) = c_fault σ := Eq.trans rfl rfl
theorem Cp_under_named (σ : CSt) (v : (Nat → Int32)) : c_under (c_named_s σ v) = c_under σ := Eq.trans rfl rfl
theorem Cp_nextS_named (σ : CSt) (v : (Nat → Int32)) : c_nextS (c_named_s σ v) = c_nextS σ := Eq.trans rfl rfl
theorem Cp_rounds_named (σ : CSt) (v : (Nat → Int32)) : c_rounds (c_named_s σ v) = c_rounds σ := Eq.trans rfl rfl
theorem Cp_steps_named (σ : CSt) (v : (Nat → Int32)) : c_steps (c_named_s σ v) = c_steps σ := Eq.trans rfl rfl
theorem Cp_shaded_named (σ : CSt) (v : (Nat → Int32)) : c_shaded (c_named_s σ v) = c_shaded σ := Eq.trans rfl rfl
theorem Cp_moved_named (σ : CSt) (v : (Nat → Int32)) : c_moved (c_named_s σ v) = c_moved σ := Eq.trans rfl rfl
theorem Cp_tmade_named (σ : CSt) (v : (Nat → Int32)) : c_tmade (c_named_s σ v) = c_tmade σ := Eq.trans rfl rfl
theorem Cp_sizes_named (σ : CSt) (v : (Nat → Int32)) : c_sizes (c_named_s σ v) = c_sizes σ := Eq.trans rfl rfl
theorem Cp_places_named (σ : CSt) (v : (Nat → Int32)) : c_places (c_named_s σ v) = c_places σ := Eq.trans rfl rfl
theorem Cp_colours_named (σ : CSt) (v : (Nat → Int32)) : c_colours (c_named_s σ v) = c_colours σ := Eq.trans rfl rfl
theorem Cp_moves_named (σ : CSt) (v : (Nat → Int32)) : c_moves (c_named_s σ v) = c_moves σ := Eq.trans rfl rfl
theorem Cp_freed_named (σ : CSt) (v : (Nat → Int32)) : c_freed (c_named_s σ v) = c_freed σ := Eq.trans rfl rfl
theorem Cp_wishing_named (σ : CSt) (v : (Nat → Int32)) : c_wishing (c_named_s σ v) = c_wishing σ := Eq.trans rfl rfl
theorem Cp_theld_named (σ : CSt) (v : (Nat → Int32)) : c_theld (c_named_s σ v) = c_theld σ := Eq.trans rfl rfl
theorem Cp_cmap_named (σ : CSt) (v : (Nat → Int32)) : c_cmap (c_named_s σ v) = c_cmap σ := Eq.trans rfl rfl
theorem Cp_halfEnd_named (σ : CSt) (v : (Nat → Int32)) : c_halfEnd (c_named_s σ v) = c_halfEnd σ := Eq.trans rfl rfl
theorem Cp_behind_named (σ : CSt) (v : (Nat → Int32)) : c_behind (c_named_s σ v) = c_behind σ := Eq.trans rfl rfl
theorem Cp_hheld_named (σ : CSt) (v : (Nat → Int32)) : c_hheld (c_named_s σ v) = c_hheld σ := Eq.trans rfl rfl
theorem Cp_named_named (σ : CSt) (v : (Nat → Int32)) : c_named (c_named_s σ v) = v := Eq.trans rfl rfl
theorem Cp_wishes_named (σ : CSt) (v : (Nat → Int32)) : c_wishes (c_named_s σ v) = c_wishes σ := Eq.trans rfl rfl
theorem Cp_pmade_named (σ : CSt) (v : (Nat → Int32)) : c_pmade (c_named_s σ v) = c_pmade σ := Eq.trans rfl rfl
theorem Cp_keys_named (σ : CSt) (v : (Nat → Int32)) : c_keys (c_named_s σ v) = c_keys σ := Eq.trans rfl rfl
theorem Cp_values_named (σ : CSt) (v : (Nat → Int32)) : c_values (c_named_s σ v) = c_values σ := Eq.trans rfl rfl
theorem Cp_found_named (σ : CSt) (v : (Nat → Int32)) : c_found (c_named_s σ v) = c_found σ := Eq.trans rfl rfl
theorem Cp_order_named (σ : CSt) (v : (Nat → Int32)) : c_order (c_named_s σ v) = c_order σ := Eq.trans rfl rfl
theorem Cp_rcount_named (σ : CSt) (v : (Nat → Int32)) : c_rcount (c_named_s σ v) = c_rcount σ := Eq.trans rfl rfl
theorem Cp_manner_wishes (σ : CSt) (v : Int32) : c_manner (c_wishes_s σ v) = c_manner σ := Eq.trans rfl rfl
theorem Cp_fault_wishes (σ : CSt) (v : Int32) : c_fault (c_wishes_s σ v) = c_fault σ := Eq.trans rfl rfl
theorem Cp_under_wishes (σ : CSt) (v : Int32) : c_under (c_wishes_s σ v) = c_under σ := Eq.trans rfl rfl
theorem Cp_nextS_wishes (σ : CSt) (v : Int32) : c_nextS (c_wishes_s σ v) = c_nextS σ := Eq.trans rfl rfl
theorem Cp_rounds_wishes (σ : CSt) (v : Int32) : c_rounds (c_wishes_s σ v) = c_rounds σ := Eq.trans rfl rfl
theorem Cp_steps_wishes (σ : CSt) (v : Int32) : c_steps (c_wishes_s σ v) = c_steps σ := Eq.trans rfl rfl
theorem Cp_shaded_wishes (σ : CSt) (v : Int32) : c_shaded (c_wishes_s σ v) = c_shaded σ := Eq.trans rfl rfl
theorem Cp_moved_wishes (σ : CSt) (v : Int32) : c_moved (c_wishes_s σ v) = c_moved σ := Eq.trans rfl rfl
theorem Cp_tmade_wishes (σ : CSt) (v : Int32) : c_tmade (c_wishes_s σ v) = c_tmade σ := Eq.trans rfl rfl
theorem Cp_sizes_wishes (σ : CSt) (v : Int32) : c_sizes (c_wishes_s σ v) = c_sizes σ := Eq.trans rfl rfl
theorem Cp_places_wishes (σ : CSt) (v : Int32) : c_places (c_wishes_s σ v) = c_places σ := Eq.trans rfl rfl
theorem Cp_colours_wishes (σ : CSt) (v : Int32) : c_colours (c_wishes_s σ v) = c_colours σ := Eq.trans rfl rfl
theorem Cp_moves_wishes (σ : CSt) (v : Int32) : c_moves (c_wishes_s σ v) = c_moves σ := Eq.trans rfl rfl
theorem Cp_freed_wishes (σ : CSt) (v : Int32) : c_freed (c_wishes_s σ v) = c_freed σ := Eq.trans rfl rfl
theorem Cp_wishing_wishes (σ : CSt) (v : Int32) : c_wishing (c_wishes_s σ v) = c_wishing σ := Eq.trans rfl rfl
theorem Cp_theld_wishes (σ : CSt) (v : Int32) : c_theld (c_wishes_s σ v) = c_theld σ := Eq.trans rfl rfl
theorem Cp_cmap_wishes (σ : CSt) (v : Int32) : c_cmap (c_wishes_s σ v) = c_cmap σ := Eq.trans rfl rfl
theorem Cp_halfEnd_wishes (σ : CSt) (v : Int32) : c_halfEnd (c_wishes_s σ v) = c_halfEnd σ := Eq.trans rfl rfl
theorem Cp_behind_wishes (σ : CSt) (v : Int32) : c_behind (c_wishes_s σ v) = c_behind σ := Eq.trans rfl rfl
theorem Cp_hheld_wishes (σ : CSt) (v : Int32) : c_hheld (c_wishes_s σ v) = c_hheld σ := Eq.trans rfl rfl
theorem Cp_named_wishes (σ : CSt) (v : Int32) : c_named (c_wishes_s σ v) = c_named σ := Eq.trans rfl rfl
theorem Cp_wishes_wishes (σ : CSt) (v : Int32) : c_wishes (c_wishes_s σ v) = v := Eq.trans rfl rfl
theorem Cp_pmade_wishes (σ : CSt) (v : Int32) : c_pmade (c_wishes_s σ v) = c_pmade σ := Eq.trans rfl rfl
theorem Cp_keys_wishes (σ : CSt) (v : Int32) : c_keys (c_wishes_s σ v) = c_keys σ := Eq.trans rfl rfl
theorem Cp_values_wishes (σ : CSt) (v : Int32) : c_values (c_wishes_s σ v) = c_values σ := Eq.trans rfl rfl
theorem Cp_found_wishes (σ : CSt) (v : Int32) : c_found (c_wishes_s σ v) = c_found σ := Eq.trans rfl rfl
theorem Cp_order_wishes (σ : CSt) (v : Int32) : c_order (c_wishes_s σ v) = c_order σ := Eq.trans rfl rfl
theorem Cp_rcount_wishes (σ : CSt) (v : Int32) : c_rcount (c_wishes_s σ v) = c_rcount σ := Eq.trans rfl rfl
theorem Cp_manner_pmade (σ : CSt) (v : Int32) : c_manner (c_pmade_s σ v) = c_manner σ := Eq.trans rfl rfl
theorem Cp_fault_pmade (σ : CSt) (v : Int32) : c_fault (c_pmade_s σ v) = c_fault σ := Eq.trans rfl rfl
theorem Cp_under_pmade (σ : CSt) (v : Int32) : c_under (c_pmade_s σ v) = c_under σ := Eq.trans rfl rfl
theorem Cp_nextS_pmade (σ : CSt) (v : Int32) : c_nextS (c_pmade_s σ v) = c_nextS σ := Eq.trans rfl rfl
theorem Cp_rounds_pmade (σ : CSt) (v : Int32) : c_rounds (c_pmade_s σ v) = c_rounds σ := Eq.trans rfl rfl
theorem Cp_steps_pmade (σ : CSt) (v : Int32) : c_steps (c_pmade_s σ v) = c_steps σ := Eq.trans rfl rfl
theorem Cp_shaded_pmade (σ : CSt) (v : Int32) : c_shaded (c_pmade_s σ v) = c_shaded σ := Eq.trans rfl rfl
theorem Cp_moved_pmade (σ : CSt) (v : Int32) : c_moved (c_pmade_s σ v) = c_moved σ := Eq.trans rfl rfl
theorem Cp_tmade_pmade (σ : CSt) (v : Int32) : c_tmade (c_pmade_s σ v) = c_tmade σ := Eq.trans rfl rfl
theorem Cp_sizes_pmade (σ : CSt) (v : Int32) : c_sizes (c_pmade_s σ v) = c_sizes σ := Eq.trans rfl rfl
theorem Cp_places_pmade (σ : CSt) (v : Int32) : c_places (c_pmade_s σ v) = c_places σ := Eq.trans rfl rfl
theorem Cp_colours_pmade (σ : CSt) (v : Int32) : c_colours (c_pmade_s σ v) = c_colours σ := Eq.trans rfl rfl
theorem Cp_moves_pmade (σ : CSt) (v : Int32) : c_moves (c_pmade_s σ v) = c_moves σ := Eq.trans rfl rfl
theorem Cp_freed_pmade (σ : CSt) (v : Int32) : c_freed (c_pmade_s σ v) = c_freed σ := Eq.trans rfl rfl
theorem Cp_wishing_pmade (σ : CSt) (v : Int32) : c_wishing (c_pmade_s σ v) = c_wishing σ := Eq.trans rfl rfl
theorem Cp_theld_pmade (σ : CSt) (v : Int32) : c_theld (c_pmade_s σ v) = c_theld σ := Eq.trans rfl rfl
theorem Cp_cmap_pmade (σ : CSt) (v : Int32) : c_cmap (c_pmade_s σ v) = c_cmap σ := Eq.trans rfl rfl
theorem Cp_halfEnd_pmade (σ : CSt) (v : Int32) : c_halfEnd (c_pmade_s σ v) = c_halfEnd σ := Eq.trans rfl rfl
theorem Cp_behind_pmade (σ : CSt) (v : Int32) : c_behind (c_pmade_s σ v) = c_behind σ := Eq.trans rfl rfl
theorem Cp_hheld_pmade (σ : CSt) (v : Int32) : c_hheld (c_pmade_s σ v) = c_hheld σ := Eq.trans rfl rfl
theorem Cp_named_pmade (σ : CSt) (v : Int32) : c_named (c_pmade_s σ v) = c_named σ := Eq.trans rfl rfl
theorem Cp_wishes_pmade (σ : CSt) (v : Int32) : c_wishes (c_pmade_s σ v) = c_wishes σ := Eq.trans rfl rfl
theorem Cp_pmade_pmade (σ : CSt) (v : Int32) : c_pmade (c_pmade_s σ v) = v := Eq.trans rfl rfl
theorem Cp_keys_pmade (σ : CSt) (v : Int32) : c_keys (c_pmade_s σ v) = c_keys σ := Eq.trans rfl rfl
theorem Cp_values_pmade (σ : CSt) (v : Int32) : c_values (c_pmade_s σ v) = c_values σ := Eq.trans rfl rfl
theorem Cp_found_pmade (σ : CSt) (v : Int32) : c_found (c_pmade_s σ v) = c_found σ := Eq.trans rfl rfl
theorem Cp_order_pmade (σ : CSt) (v : Int32) : c_order (c_pmade_s σ v) = c_order σ := Eq.trans rfl rfl
theorem Cp_rcount_pmade (σ : CSt) (v : Int32) : c_rcount (c_pmade_s σ v) = c_rcount σ := Eq.trans rfl rfl
theorem Cp_manner_keys (σ : CSt) (v : (Nat → Int32)) : c_manner (c_keys_s σ v) = c_manner σ := Eq.trans rfl rfl
theorem Cp_fault_keys (σ : CSt) (v : (Nat → Int32)) : c_fault (c_keys_s σ v) = c_fault σ := Eq.trans rfl rfl
theorem Cp_under_keys (σ : CSt) (v : (Nat → Int32)) : c_under (c_keys_s σ v) = c_under σ := Eq.trans rfl rfl
theorem Cp_nextS_keys (σ : CSt) (v : (Nat → Int32)) : c_nextS (c_keys_s σ v) = c_nextS σ := Eq.trans rfl rfl
theorem Cp_rounds_keys (σ : CSt) (v : (Nat → Int32)) : c_rounds (c_keys_s σ v) = c_rounds σ := Eq.trans rfl rfl
theorem Cp_steps_keys (σ : CSt) (v : (Nat → Int32)) : c_steps (c_keys_s σ v) = c_steps σ := Eq.trans rfl rfl
theorem Cp_shaded_keys (σ : CSt) (v : (Nat → Int32)) : c_shaded (c_keys_s σ v) = c_shaded σ := Eq.trans rfl rfl
theorem Cp_moved_keys (σ : CSt) (v : (Nat → Int32)) : c_moved (c_keys_s σ v) = c_moved σ := Eq.trans rfl rfl
theorem Cp_tmade_keys (σ : CSt) (v : (Nat → Int32)) : c_tmade (c_keys_s σ v) = c_tmade σ := Eq.trans rfl rfl
theorem Cp_sizes_keys (σ : CSt) (v : (Nat → Int32)) : c_sizes (c_keys_s σ v) = c_sizes σ := Eq.trans rfl rfl
theorem Cp_places_keys (σ : CSt) (v : (Nat → Int32)) : c_places (c_keys_s σ v) = c_places σ := Eq.trans rfl rfl
theorem Cp_colours_keys (σ : CSt) (v : (Nat → Int32)) : c_colours (c_keys_s σ v) = c_colours σ := Eq.trans rfl rfl
theorem Cp_moves_keys (σ : CSt) (v : (Nat → Int32)) : c_moves (c_keys_s σ v) = c_moves σ := Eq.trans rfl rfl
theorem Cp_freed_keys (σ : CSt) (v : (Nat → Int32)) : c_freed (c_keys_s σ v) = c_freed σ := Eq.trans rfl rfl
theorem Cp_wishing_keys (σ : CSt) (v : (Nat → Int32)) : c_wishing (c_keys_s σ v) = c_wishing σ := Eq.trans rfl rfl
theorem Cp_theld_keys (σ : CSt) (v : (Nat → Int32)) : c_theld (c_keys_s σ v) = c_theld σ := Eq.trans rfl rfl
theorem Cp_cmap_keys (σ : CSt) (v : (Nat → Int32)) : c_cmap (c_keys_s σ v) = c_cmap σ := Eq.trans rfl rfl
theorem Cp_halfEnd_keys (σ : CSt) (v : (Nat → Int32)) : c_halfEnd (c_keys_s σ v) = c_halfEnd σ := Eq.trans rfl rfl
theorem Cp_behind_keys (σ : CSt) (v : (Nat → Int32)) : c_behind (c_keys_s σ v) = c_behind σ := Eq.trans rfl rfl
theorem Cp_hheld_keys (σ : CSt) (v : (Nat → Int32)) : c_hheld (c_keys_s σ v) = c_hheld σ := Eq.trans rfl rfl
theorem Cp_named_keys (σ : CSt) (v : (Nat → Int32)) : c_named (c_keys_s σ v) = c_named σ := Eq.trans rfl rfl
theorem Cp_wishes_keys (σ : CSt) (v : (Nat → Int32)) : c_wishes (c_keys_s σ v) = c_wishes σ := Eq.trans rfl rfl
theorem Cp_pmade_keys (σ : CSt) (v : (Nat → Int32)) : c_pmade (c_keys_s σ v) = c_pmade σ := Eq.trans rfl rfl
theorem Cp_keys_keys (σ : CSt) (v : (Nat → Int32)) : c_keys (c_keys_s σ v) = v := Eq.trans rfl rfl
theorem Cp_values_keys (σ : CSt) (v : (Nat → Int32)) : c_values (c_keys_s σ v) = c_values σ := Eq.trans rfl rfl
theorem Cp_found_keys (σ : CSt) (v : (Nat → Int32)) : c_found (c_keys_s σ v) = c_found σ := Eq.trans rfl rfl
theorem Cp_order_keys (σ : CSt) (v : (Nat → Int32)) : c_order (c_keys_s σ v) = c_order σ := Eq.trans rfl rfl
theorem Cp_rcount_keys (σ : CSt) (v : (Nat → Int32)) : c_rcount (c_keys_s σ v) = c_rcount σ := Eq.trans rfl rfl
theorem Cp_manner_values (σ : CSt) (v : (Nat → Int32)) : c_manner (c_values_s σ v) = c_manner σ := Eq.trans rfl rfl
theorem Cp_fault_values (σ : CSt) (v : (Nat → Int32)) : c_fault (c_values_s σ v) = c_fault σ := Eq.trans rfl rfl
theorem Cp_under_values (σ : CSt) (v : (Nat → Int32)) : c_under (c_values_s σ v) = c_under σ := Eq.trans rfl rfl
theorem Cp_nextS_values (σ : CSt) (v : (Nat → Int32)) : c_nextS (c_values_s σ v) = c_nextS σ := Eq.trans rfl rfl
theorem Cp_rounds_values (σ : CSt) (v : (Nat → Int32)) : c_rounds (c_values_s σ v) = c_rounds σ := Eq.trans rfl rfl
theorem Cp_steps_values (σ : CSt) (v : (Nat → Int32)) : c_steps (c_values_s σ v) = c_steps σ := Eq.trans rfl rfl
theorem Cp_shaded_values (σ : CSt) (v : (Nat → Int32)) : c_shaded (c_values_s σ v) = c_shaded σ := Eq.trans rfl rfl
theorem Cp_moved_values (σ : CSt) (v : (Nat → Int32)) : c_moved (c_values_s σ v) = c_moved σ := Eq.trans rfl rfl
theorem Cp_tmade_values (σ : CSt) (v : (Nat → Int32)) : c_tmade (c_values_s σ v) = c_tmade σ := Eq.trans rfl rfl
theorem Cp_sizes_values (σ : CSt) (v : (Nat → Int32)) : c_sizes (c_values_s σ v) = c_sizes σ := Eq.trans rfl rfl
theorem Cp_places_values (σ : CSt) (v : (Nat → Int32)) : c_places (c_values_s σ v) = c_places σ := Eq.trans rfl rfl
theorem Cp_colours_values (σ : CSt) (v : (Nat → Int32)) : c_colours (c_values_s σ v) = c_colours σ := Eq.trans rfl rfl
theorem Cp_moves_values (σ : CSt) (v : (Nat → Int32)) : c_moves (c_values_s σ v) = c_moves σ := Eq.trans rfl rfl
theorem Cp_freed_values (σ : CSt) (v : (Nat → Int32)) : c_freed (c_values_s σ v) = c_freed σ := Eq.trans rfl rfl
theorem Cp_wishing_values (σ : CSt) (v : (Nat → Int32)) : c_wishing (c_values_s σ v) = c_wishing σ := Eq.trans rfl rfl
theorem Cp_theld_values (σ : CSt) (v : (Nat → Int32)) : c_theld (c_values_s σ v) = c_theld σ := Eq.trans rfl rfl
theorem Cp_cmap_values (σ : CSt) (v : (Nat → Int32)) : c_cmap (c_values_s σ v) = c_cmap σ := Eq.trans rfl rfl
theorem Cp_halfEnd_values (σ : CSt) (v : (Nat → Int32)) : c_halfEnd (c_values_s σ v) = c_halfEnd σ := Eq.trans rfl rfl
theorem Cp_behind_values (σ : CSt) (v : (Nat → Int32)) : c_behind (c_values_s σ v) = c_behind σ := Eq.trans rfl rfl
theorem Cp_hheld_values (σ : CSt) (v : (Nat → Int32)) : c_hheld (c_values_s σ v) = c_hheld σ := Eq.trans rfl rfl
theorem Cp_named_values (σ : CSt) (v : (Nat → Int32)) : c_named (c_values_s σ v) = c_named σ := Eq.trans rfl rfl
theorem Cp_wishes_values (σ : CSt) (v : (Nat → Int32)) : c_wishes (c_values_s σ v) = c_wishes σ := Eq.trans rfl rfl
theorem Cp_pmade_values (σ : CSt) (v : (Nat → Int32)) : c_pmade (c_values_s σ v) = c_pmade σ := Eq.trans rfl rfl
theorem Cp_keys_values (σ : CSt) (v : (Nat → Int32)) : c_keys (c_values_s σ v) = c_keys σ := Eq.trans rfl rfl
theorem Cp_values_values (σ : CSt) (v : (Nat → Int32)) : c_values (c_values_s σ v) = v := Eq.trans rfl rfl
theorem Cp_found_values (σ : CSt) (v : (Nat → Int32)) : c_found (c_values_s σ v) = c_found σ := Eq.trans rfl rfl
theorem Cp_order_values (σ : CSt) (v : (Nat → Int32)) : c_order (c_values_s σ v) = c_order σ := Eq.trans rfl rfl
theorem Cp_rcount_values (σ : CSt) (v : (Nat → Int32)) : c_rcount (c_values_s σ v) = c_rcount σ := Eq.trans rfl rfl
theorem Cp_manner_found (σ : CSt) (v : (Nat → Int32)) : c_manner (c_found_s σ v) = c_manner σ := Eq.trans rfl rfl
theorem Cp_fault_found (σ : CSt) (v : (Nat → Int32)) : c_fault (c_found_s σ v) = c_fault σ := Eq.trans rfl rfl
theorem Cp_under_found (σ : CSt) (v : (Nat → Int32)) : c_under (c_found_s σ v) = c_under σ := Eq.trans rfl rfl
theorem Cp_nextS_found (σ : CSt) (v : (Nat → Int32)) : c_nextS (c_found_s σ v) = c_nextS σ := Eq.trans rfl rfl
theorem Cp_rounds_found (σ : CSt) (v : (Nat → Int32)) : c_rounds (c_found_s σ v) = c_rounds σ := Eq.trans rfl rfl
theorem Cp_steps_found (σ : CSt) (v : (Nat → Int32)) : c_steps (c_found_s σ v) = c_steps σ := Eq.trans rfl rfl
theorem Cp_shaded_found (σ : CSt) (v : (Nat → Int32)) : c_shaded (c_found_s σ v) = c_shaded σ := Eq.trans rfl rfl
theorem Cp_moved_found (σ : CSt) (v : (Nat → Int32)) : c_moved (c_found_s σ v) = c_moved σ := Eq.trans rfl rfl
theorem Cp_tmade_found (σ : CSt) (v : (Nat → Int32)) : c_tmade (c_found_s σ v) = c_tmade σ := Eq.trans rfl rfl
theorem Cp_sizes_found (σ : CSt) (v : (Nat → Int32)) : c_sizes (c_found_s σ v) = c_sizes σ := Eq.trans rfl rfl
theorem Cp_places_found (σ : CSt) (v : (Nat → Int32)) : c_places (c_found_s σ v) = c_places σ := Eq.trans rfl rfl
theorem Cp_colours_found (σ : CSt) (v : (Nat → Int32)) : c_colours (c_found_s σ v) = c_colours σ := Eq.trans rfl rfl
theorem Cp_moves_found (σ : CSt) (v : (Nat → Int32)) : c_moves (c_found_s σ v) = c_moves σ := Eq.trans rfl rfl
theorem Cp_freed_found (σ : CSt) (v : (Nat → Int32)) : c_freed (c_found_s σ v) = c_freed σ := Eq.trans rfl rfl
theorem Cp_wishing_found (σ : CSt) (v : (Nat → Int32)) : c_wishing (c_found_s σ v) = c_wishing σ := Eq.trans rfl rfl
theorem Cp_theld_found (σ : CSt) (v : (Nat → Int32)) : c_theld (c_found_s σ v) = c_theld σ := Eq.trans rfl rfl
theorem Cp_cmap_found (σ : CSt) (v : (Nat → Int32)) : c_cmap (c_found_s σ v) = c_cmap σ := Eq.trans rfl rfl
theorem Cp_halfEnd_found (σ : CSt) (v : (Nat → Int32)) : c_halfEnd (c_found_s σ v) = c_halfEnd σ := Eq.trans rfl rfl
theorem Cp_behind_found (σ : CSt) (v : (Nat → Int32)) : c_behind (c_found_s σ v) = c_behind σ := Eq.trans rfl rfl
theorem Cp_hheld_found (σ : CSt) (v : (Nat → Int32)) : c_hheld (c_found_s σ v) = c_hheld σ := Eq.trans rfl rfl
theorem Cp_named_found (σ : CSt) (v : (Nat → Int32)) : c_named (c_found_s σ v) = c_named σ := Eq.trans rfl rfl
theorem Cp_wishes_found (σ : CSt) (v : (Nat → Int32)) : c_wishes (c_found_s σ v) = c_wishes σ := Eq.trans rfl rfl
theorem Cp_pmade_found (σ : CSt) (v : (Nat → Int32)) : c_pmade (c_found_s σ v) = c_pmade σ := Eq.trans rfl rfl
theorem Cp_keys_found (σ : CSt) (v : (Nat → Int32)) : c_keys (c_found_s σ v) = c_keys σ := Eq.trans rfl rfl
theorem Cp_values_found (σ : CSt) (v : (Nat → Int32)) : c_values (c_found_s σ v) = c_values σ := Eq.trans rfl rfl
theorem Cp_found_found (σ : CSt) (v : (Nat → Int32)) : c_found (c_found_s σ v) = v := Eq.trans rfl rfl
theorem Cp_order_found (σ : CSt) (v : (Nat → Int32)) : c_order (c_found_s σ v) = c_order σ := Eq.trans rfl rfl
theorem Cp_rcount_found (σ : CSt) (v : (Nat → Int32)) : c_rcount (c_found_s σ v) = c_rcount σ := Eq.trans rfl rfl
theorem Cp_manner_order (σ : CSt) (v : (Nat → Int32)) : c_manner (c_order_s σ v) = c_manner σ := Eq.trans rfl rfl
theorem Cp_fault_order (σ : CSt) (v : (Nat → Int32)) : c_fault (c_order_s σ v) = c_fault σ := Eq.trans rfl rfl
theorem Cp_under_order (σ : CSt) (v : (Nat → Int32)) : c_under (c_order_s σ v) = c_under σ := Eq.trans rfl rfl
theorem Cp_nextS_order (σ : CSt) (v : (Nat → Int32)) : c_nextS (c_order_s σ v) = c_nextS σ := Eq.trans rfl rfl
theorem Cp_rounds_order (σ : CSt) (v : (Nat → Int32)) : c_rounds (c_order_s σ v) = c_rounds σ := Eq.trans rfl rfl
theorem Cp_steps_order (σ : CSt) (v : (Nat → Int32)) : c_steps (c_order_s σ v) = c_steps σ := Eq.trans rfl rfl
theorem Cp_shaded_order (σ : CSt) (v : (Nat → Int32)) : c_shaded (c_order_s σ v) = c_shaded σ := Eq.trans rfl rfl
theorem Cp_moved_order (σ : CSt) (v : (Nat → Int32)) : c_moved (c_order_s σ v) = c_moved σ := Eq.trans rfl rfl
theorem Cp_tmade_order (σ : CSt) (v : (Nat → Int32)) : c_tmade (c_order_s σ v) = c_tmade σ := Eq.trans rfl rfl
theorem Cp_sizes_order (σ : CSt) (v : (Nat → Int32)) : c_sizes (c_order_s σ v) = c_sizes σ := Eq.trans rfl rfl
theorem Cp_places_order (σ : CSt) (v : (Nat → Int32)) : c_places (c_order_s σ v) = c_places σ := Eq.trans rfl rfl
theorem Cp_colours_order (σ : CSt) (v : (Nat → Int32)) : c_colours (c_order_s σ v) = c_colours σ := Eq.trans rfl rfl
theorem Cp_moves_order (σ : CSt) (v : (Nat → Int32)) : c_moves (c_order_s σ v) = c_moves σ := Eq.trans rfl rfl
theorem Cp_freed_order (σ : CSt) (v : (Nat → Int32)) : c_freed (c_order_s σ v) = c_freed σ := Eq.trans rfl rfl
theorem Cp_wishing_order (σ : CSt) (v : (Nat → Int32)) : c_wishing (c_order_s σ v) = c_wishing σ := Eq.trans rfl rfl
theorem Cp_theld_order (σ : CSt) (v : (Nat → Int32)) : c_theld (c_order_s σ v) = c_theld σ := Eq.trans rfl rfl
theorem Cp_cmap_order (σ : CSt) (v : (Nat → Int32)) : c_cmap (c_order_s σ v) = c_cmap σ := Eq.trans rfl rfl
theorem Cp_halfEnd_order (σ : CSt) (v : (Nat → Int32)) : c_halfEnd (c_order_s σ v) = c_halfEnd σ := Eq.trans rfl rfl
theorem Cp_behind_order (σ : CSt) (v : (Nat → Int32)) : c_behind (c_order_s σ v) = c_behind σ := Eq.trans rfl rfl
theorem Cp_hheld_order (σ : CSt) (v : (Nat → Int32)) : c_hheld (c_order_s σ v) = c_hheld σ := Eq.trans rfl rfl
theorem Cp_named_order (σ : CSt) (v : (Nat → Int32)) : c_named (c_order_s σ v) = c_named σ := Eq.trans rfl rfl
theorem Cp_wishes_order (σ : CSt) (v : (Nat → Int32)) : c_wishes (c_order_s σ v) = c_wishes σ := Eq.trans rfl rfl
theorem Cp_pmade_order (σ : CSt) (v : (Nat → Int32)) : c_pmade (c_order_s σ v) = c_pmade σ := Eq.trans rfl rfl
theorem Cp_keys_order (σ : CSt) (v : (Nat → Int32)) : c_keys (c_order_s σ v) = c_keys σ := Eq.trans rfl rfl
theorem Cp_values_order (σ : CSt) (v : (Nat → Int32)) : c_values (c_order_s σ v) = c_values σ := Eq.trans rfl rfl
theorem Cp_found_order (σ : CSt) (v : (Nat → Int32)) : c_found (c_order_s σ v) = c_found σ := Eq.trans rfl rfl
theorem Cp_order_order (σ : CSt) (v : (Nat → Int32)) : c_order (c_order_s σ v) = v := Eq.trans rfl rfl
theorem Cp_rcount_order (σ : CSt) (v : (Nat → Int32)) : c_rcount (c_order_s σ v) = c_rcount σ := Eq.trans rfl rfl
theorem Cp_manner_rcount (σ : CSt) (v : Int32) : c_manner (c_rcount_s σ v) = c_manner σ := Eq.trans rfl rfl
theorem Cp_fault_rcount (σ : CSt) (v : Int32) : c_fault (c_rcount_s σ v) = c_fault σ := Eq.trans rfl rfl
theorem Cp_under_rcount (σ : CSt) (v : Int32) : c_under (c_rcount_s σ v) = c_under σ := Eq.trans rfl rfl
theorem Cp_nextS_rcount (σ : CSt) (v : Int32) : c_nextS (c_rcount_s σ v) = c_nextS σ := Eq.trans rfl rfl
theorem Cp_rounds_rcount (σ : CSt) (v : Int32) : c_rounds (c_rcount_s σ v) = c_rounds σ := Eq.trans rfl rfl
theorem Cp_steps_rcount (σ : CSt) (v : Int32) : c_steps (c_rcount_s σ v) = c_steps σ := Eq.trans rfl rfl
theorem Cp_shaded_rcount (σ : CSt) (v : Int32) : c_shaded (c_rcount_s σ v) = c_shaded σ := Eq.trans rfl rfl
theorem Cp_moved_rcount (σ : CSt) (v : Int32) : c_moved (c_rcount_s σ v) = c_moved σ := Eq.trans rfl rfl
theorem Cp_tmade_rcount (σ : CSt) (v : Int32) : c_tmade (c_rcount_s σ v) = c_tmade σ := Eq.trans rfl rfl
theorem Cp_sizes_rcount (σ : CSt) (v : Int32) : c_sizes (c_rcount_s σ v) = c_sizes σ := Eq.trans rfl rfl
theorem Cp_places_rcount (σ : CSt) (v : Int32) : c_places (c_rcount_s σ v) = c_places σ := Eq.trans rfl rfl
theorem Cp_colours_rcount (σ : CSt) (v : Int32) : c_colours (c_rcount_s σ v) = c_colours σ := Eq.trans rfl rfl
theorem Cp_moves_rcount (σ : CSt) (v : Int32) : c_moves (c_rcount_s σ v) = c_moves σ := Eq.trans rfl rfl
theorem Cp_freed_rcount (σ : CSt) (v : Int32) : c_freed (c_rcount_s σ v) = c_freed σ := Eq.trans rfl rfl
theorem Cp_wishing_rcount (σ : CSt) (v : Int32) : c_wishing (c_rcount_s σ v) = c_wishing σ := Eq.trans rfl rfl
theorem Cp_theld_rcount (σ : CSt) (v : Int32) : c_theld (c_rcount_s σ v) = c_theld σ := Eq.trans rfl rfl
theorem Cp_cmap_rcount (σ : CSt) (v : Int32) : c_cmap (c_rcount_s σ v) = c_cmap σ := Eq.trans rfl rfl
theorem Cp_halfEnd_rcount (σ : CSt) (v : Int32) : c_halfEnd (c_rcount_s σ v) = c_halfEnd σ := Eq.trans rfl rfl
theorem Cp_behind_rcount (σ : CSt) (v : Int32) : c_behind (c_rcount_s σ v) = c_behind σ := Eq.trans rfl rfl
theorem Cp_hheld_rcount (σ : CSt) (v : Int32) : c_hheld (c_rcount_s σ v) = c_hheld σ := Eq.trans rfl rfl
theorem Cp_named_rcount (σ : CSt) (v : Int32) : c_named (c_rcount_s σ v) = c_named σ := Eq.trans rfl rfl
theorem Cp_wishes_rcount (σ : CSt) (v : Int32) : c_wishes (c_rcount_s σ v) = c_wishes σ := Eq.trans rfl rfl
theorem Cp_pmade_rcount (σ : CSt) (v : Int32) : c_pmade (c_rcount_s σ v) = c_pmade σ := Eq.trans rfl rfl
theorem Cp_keys_rcount (σ : CSt) (v : Int32) : c_keys (c_rcount_s σ v) = c_keys σ := Eq.trans rfl rfl
theorem Cp_values_rcount (σ : CSt) (v : Int32) : c_values (c_rcount_s σ v) = c_values σ := Eq.trans rfl rfl
theorem Cp_found_rcount (σ : CSt) (v : Int32) : c_found (c_rcount_s σ v) = c_found σ := Eq.trans rfl rfl
theorem Cp_order_rcount (σ : CSt) (v : Int32) : c_order (c_rcount_s σ v) = c_order σ := Eq.trans rfl rfl
theorem Cp_rcount_rcount (σ : CSt) (v : Int32) : c_rcount (c_rcount_s σ v) = v := Eq.trans rfl rfl
theorem frees_cc (σ : RSt) (a : (Nat → Int32)) (b : (Nat → Int32)) (v : Int32) (u : Int32) (n : Int32) : r_freedMany_s (r_place_s (r_isFreed_s (r_next_s (r_way_s σ u) n) a) b) v = r_next_s (r_way_s (r_freedMany_s (r_place_s (r_isFreed_s σ a) b) v) u) n :=
  r_ext (σ := r_freedMany_s (r_place_s (r_isFreed_s (r_next_s (r_way_s σ u) n) a) b) v) (τ := r_next_s (r_way_s (r_freedMany_s (r_place_s (r_isFreed_s σ a) b) v) u) n)
    (by simp only [Rp_manner_way, Rp_manner_next, Rp_manner_isFreed, Rp_manner_place, Rp_manner_freedMany])
    (by simp only [Rp_fault_way, Rp_fault_next, Rp_fault_isFreed, Rp_fault_place, Rp_fault_freedMany])
    (by simp only [Rp_things_way, Rp_things_next, Rp_things_isFreed, Rp_things_place, Rp_things_freedMany])
    (by simp only [Rp_many_way, Rp_many_next, Rp_many_isFreed, Rp_many_place, Rp_many_freedMany])
    (by simp only [Rp_field_way, Rp_field_next, Rp_field_isFreed, Rp_field_place, Rp_field_freedMany])
    (by simp only [Rp_place_way, Rp_place_next, Rp_place_isFreed, Rp_place_place, Rp_place_freedMany])
    (by simp only [Rp_colour_way, Rp_colour_next, Rp_colour_isFreed, Rp_colour_place, Rp_colour_freedMany])
    (by simp only [Rp_isFreed_way, Rp_isFreed_next, Rp_isFreed_isFreed, Rp_isFreed_place, Rp_isFreed_freedMany])
    (by simp only [Rp_hasWish_way, Rp_hasWish_next, Rp_hasWish_isFreed, Rp_hasWish_place, Rp_hasWish_freedMany])
    (by simp only [Rp_moved_way, Rp_moved_next, Rp_moved_isFreed, Rp_moved_place, Rp_moved_freedMany])
    (by simp only [Rp_register_way, Rp_register_next, Rp_register_isFreed, Rp_register_place, Rp_register_freedMany])
    (by simp only [Rp_slot_way, Rp_slot_next, Rp_slot_isFreed, Rp_slot_place, Rp_slot_freedMany])
    (by simp only [Rp_wishes_way, Rp_wishes_next, Rp_wishes_isFreed, Rp_wishes_place, Rp_wishes_freedMany])
    (by simp only [Rp_wishAt_way, Rp_wishAt_next, Rp_wishAt_isFreed, Rp_wishAt_place, Rp_wishAt_freedMany])
    (by simp only [Rp_weakAt_way, Rp_weakAt_next, Rp_weakAt_isFreed, Rp_weakAt_place, Rp_weakAt_freedMany])
    (by simp only [Rp_pairs_way, Rp_pairs_next, Rp_pairs_isFreed, Rp_pairs_place, Rp_pairs_freedMany])
    (by simp only [Rp_key_way, Rp_key_next, Rp_key_isFreed, Rp_key_place, Rp_key_freedMany])
    (by simp only [Rp_value_way, Rp_value_next, Rp_value_isFreed, Rp_value_place, Rp_value_freedMany])
    (by simp only [Rp_isPair_way, Rp_isPair_next, Rp_isPair_isFreed, Rp_isPair_place, Rp_isPair_freedMany])
    (by simp only [Rp_half_way, Rp_half_next, Rp_half_isFreed, Rp_half_place, Rp_half_freedMany])
    (by simp only [Rp_top_way, Rp_top_next, Rp_top_isFreed, Rp_top_place, Rp_top_freedMany])
    (by simp only [Rp_way_way, Rp_way_next, Rp_way_isFreed, Rp_way_place, Rp_way_freedMany])
    (by simp only [Rp_next_way, Rp_next_next, Rp_next_isFreed, Rp_next_place, Rp_next_freedMany])
    (by simp only [Rp_freedMany_way, Rp_freedMany_next, Rp_freedMany_isFreed, Rp_freedMany_place, Rp_freedMany_freedMany])
    (by simp only [Rp_rounds_way, Rp_rounds_next, Rp_rounds_isFreed, Rp_rounds_place, Rp_rounds_freedMany])
    (by simp only [Rp_steps_way, Rp_steps_next, Rp_steps_isFreed, Rp_steps_place, Rp_steps_freedMany])
    (by simp only [Rp_shaded_way, Rp_shaded_next, Rp_shaded_isFreed, Rp_shaded_place, Rp_shaded_freedMany])
    (by simp only [Rp_movedMany_way, Rp_movedMany_next, Rp_movedMany_isFreed, Rp_movedMany_place, Rp_movedMany_freedMany])
    (by simp only [Rp_isReached_way, Rp_isReached_next, Rp_isReached_isFreed, Rp_isReached_place, Rp_isReached_freedMany])
    (by simp only [Rp_more_way, Rp_more_next, Rp_more_isFreed, Rp_more_place, Rp_more_freedMany])
theorem free5_cc (σ : CSt) (m : (Nat → Int32)) (a : (Nat → Int32)) (b : (Nat → Int32)) (u : Int32) (n : Int32) : c_places_s (c_freed_s (c_cmap_s (c_nextS_s (c_under_s σ u) n) m) a) b = c_nextS_s (c_under_s (c_places_s (c_freed_s (c_cmap_s σ m) a) b) u) n :=
  c_ext (σ := c_places_s (c_freed_s (c_cmap_s (c_nextS_s (c_under_s σ u) n) m) a) b) (τ := c_nextS_s (c_under_s (c_places_s (c_freed_s (c_cmap_s σ m) a) b) u) n)
    (by simp only [Cp_manner_under, Cp_manner_nextS, Cp_manner_cmap, Cp_manner_freed, Cp_manner_places])
    (by simp only [Cp_fault_under, Cp_fault_nextS, Cp_fault_cmap, Cp_fault_freed, Cp_fault_places])
    (by simp only [Cp_under_under, Cp_under_nextS, Cp_under_cmap, Cp_under_freed, Cp_under_places])
    (by simp only [Cp_nextS_under, Cp_nextS_nextS, Cp_nextS_cmap, Cp_nextS_freed, Cp_nextS_places])
    (by simp only [Cp_rounds_under, Cp_rounds_nextS, Cp_rounds_cmap, Cp_rounds_freed, Cp_rounds_places])
    (by simp only [Cp_steps_under, Cp_steps_nextS, Cp_steps_cmap, Cp_steps_freed, Cp_steps_places])
    (by simp only [Cp_shaded_under, Cp_shaded_nextS, Cp_shaded_cmap, Cp_shaded_freed, Cp_shaded_places])
    (by simp only [Cp_moved_under, Cp_moved_nextS, Cp_moved_cmap, Cp_moved_freed, Cp_moved_places])
    (by simp only [Cp_tmade_under, Cp_tmade_nextS, Cp_tmade_cmap, Cp_tmade_freed, Cp_tmade_places])
    (by simp only [Cp_sizes_under, Cp_sizes_nextS, Cp_sizes_cmap, Cp_sizes_freed, Cp_sizes_places])
    (by simp only [Cp_places_under, Cp_places_nextS, Cp_places_cmap, Cp_places_freed, Cp_places_places])
    (by simp only [Cp_colours_under, Cp_colours_nextS, Cp_colours_cmap, Cp_colours_freed, Cp_colours_places])
    (by simp only [Cp_moves_under, Cp_moves_nextS, Cp_moves_cmap, Cp_moves_freed, Cp_moves_places])
    (by simp only [Cp_freed_under, Cp_freed_nextS, Cp_freed_cmap, Cp_freed_freed, Cp_freed_places])
    (by simp only [Cp_wishing_under, Cp_wishing_nextS, Cp_wishing_cmap, Cp_wishing_freed, Cp_wishing_places])
    (by simp only [Cp_theld_under, Cp_theld_nextS, Cp_theld_cmap, Cp_theld_freed, Cp_theld_places])
    (by simp only [Cp_cmap_under, Cp_cmap_nextS, Cp_cmap_cmap, Cp_cmap_freed, Cp_cmap_places])
    (by simp only [Cp_halfEnd_under, Cp_halfEnd_nextS, Cp_halfEnd_cmap, Cp_halfEnd_freed, Cp_halfEnd_places])
    (by simp only [Cp_behind_under, Cp_behind_nextS, Cp_behind_cmap, Cp_behind_freed, Cp_behind_places])
    (by simp only [Cp_hheld_under, Cp_hheld_nextS, Cp_hheld_cmap, Cp_hheld_freed, Cp_hheld_places])
    (by simp only [Cp_named_under, Cp_named_nextS, Cp_named_cmap, Cp_named_freed, Cp_named_places])
    (by simp only [Cp_wishes_under, Cp_wishes_nextS, Cp_wishes_cmap, Cp_wishes_freed, Cp_wishes_places])
    (by simp only [Cp_pmade_under, Cp_pmade_nextS, Cp_pmade_cmap, Cp_pmade_freed, Cp_pmade_places])
    (by simp only [Cp_keys_under, Cp_keys_nextS, Cp_keys_cmap, Cp_keys_freed, Cp_keys_places])
    (by simp only [Cp_values_under, Cp_values_nextS, Cp_values_cmap, Cp_values_freed, Cp_values_places])
    (by simp only [Cp_found_under, Cp_found_nextS, Cp_found_cmap, Cp_found_freed, Cp_found_places])
    (by simp only [Cp_order_under, Cp_order_nextS, Cp_order_cmap, Cp_order_freed, Cp_order_places])
    (by simp only [Cp_rcount_under, Cp_rcount_nextS, Cp_rcount_cmap, Cp_rcount_freed, Cp_rcount_places])
theorem next_2 (σ : RSt) (a : Int32) (b : Int32) : r_next_s (r_next_s σ a) b = r_next_s σ b :=
  r_ext (σ := r_next_s (r_next_s σ a) b) (τ := r_next_s σ b)
    (by simp only [Rp_manner_next])
    (by simp only [Rp_fault_next])
    (by simp only [Rp_things_next])
    (by simp only [Rp_many_next])
    (by simp only [Rp_field_next])
    (by simp only [Rp_place_next])
    (by simp only [Rp_colour_next])
    (by simp only [Rp_isFreed_next])
    (by simp only [Rp_hasWish_next])
    (by simp only [Rp_moved_next])
    (by simp only [Rp_register_next])
    (by simp only [Rp_slot_next])
    (by simp only [Rp_wishes_next])
    (by simp only [Rp_wishAt_next])
    (by simp only [Rp_weakAt_next])
    (by simp only [Rp_pairs_next])
    (by simp only [Rp_key_next])
    (by simp only [Rp_value_next])
    (by simp only [Rp_isPair_next])
    (by simp only [Rp_half_next])
    (by simp only [Rp_top_next])
    (by simp only [Rp_way_next])
    (by simp only [Rp_next_next])
    (by simp only [Rp_freedMany_next])
    (by simp only [Rp_rounds_next])
    (by simp only [Rp_steps_next])
    (by simp only [Rp_shaded_next])
    (by simp only [Rp_movedMany_next])
    (by simp only [Rp_isReached_next])
    (by simp only [Rp_more_next])
theorem nextS_2 (σ : CSt) (a : Int32) (b : Int32) : c_nextS_s (c_nextS_s σ a) b = c_nextS_s σ b :=
  c_ext (σ := c_nextS_s (c_nextS_s σ a) b) (τ := c_nextS_s σ b)
    (by simp only [Cp_manner_nextS])
    (by simp only [Cp_fault_nextS])
    (by simp only [Cp_under_nextS])
    (by simp only [Cp_nextS_nextS])
    (by simp only [Cp_rounds_nextS])
    (by simp only [Cp_steps_nextS])
    (by simp only [Cp_shaded_nextS])
    (by simp only [Cp_moved_nextS])
    (by simp only [Cp_tmade_nextS])
    (by simp only [Cp_sizes_nextS])
    (by simp only [Cp_places_nextS])
    (by simp only [Cp_colours_nextS])
    (by simp only [Cp_moves_nextS])
    (by simp only [Cp_freed_nextS])
    (by simp only [Cp_wishing_nextS])
    (by simp only [Cp_theld_nextS])
    (by simp only [Cp_cmap_nextS])
    (by simp only [Cp_halfEnd_nextS])
    (by simp only [Cp_behind_nextS])
    (by simp only [Cp_hheld_nextS])
    (by simp only [Cp_named_nextS])
    (by simp only [Cp_wishes_nextS])
    (by simp only [Cp_pmade_nextS])
    (by simp only [Cp_keys_nextS])
    (by simp only [Cp_values_nextS])
    (by simp only [Cp_found_nextS])
    (by simp only [Cp_order_nextS])
    (by simp only [Cp_rcount_nextS])
theorem sh_way (σ : RSt) (w : Int32) (f : (Nat → Int32)) (v : Int32) : r_shaded_s (r_colour_s (r_way_s σ w) f) v = r_way_s (r_shaded_s (r_colour_s σ f) v) w :=
  r_ext (σ := r_shaded_s (r_colour_s (r_way_s σ w) f) v) (τ := r_way_s (r_shaded_s (r_colour_s σ f) v) w)
    (by simp only [Rp_manner_way, Rp_manner_colour, Rp_manner_shaded])
    (by simp only [Rp_fault_way, Rp_fault_colour, Rp_fault_shaded])
    (by simp only [Rp_things_way, Rp_things_colour, Rp_things_shaded])
    (by simp only [Rp_many_way, Rp_many_colour, Rp_many_shaded])
    (by simp only [Rp_field_way, Rp_field_colour, Rp_field_shaded])
    (by simp only [Rp_place_way, Rp_place_colour, Rp_place_shaded])
    (by simp only [Rp_colour_way, Rp_colour_colour, Rp_colour_shaded])
    (by simp only [Rp_isFreed_way, Rp_isFreed_colour, Rp_isFreed_shaded])
    (by simp only [Rp_hasWish_way, Rp_hasWish_colour, Rp_hasWish_shaded])
    (by simp only [Rp_moved_way, Rp_moved_colour, Rp_moved_shaded])
    (by simp only [Rp_register_way, Rp_register_colour, Rp_register_shaded])
    (by simp only [Rp_slot_way, Rp_slot_colour, Rp_slot_shaded])
    (by simp only [Rp_wishes_way, Rp_wishes_colour, Rp_wishes_shaded])
    (by simp only [Rp_wishAt_way, Rp_wishAt_colour, Rp_wishAt_shaded])
    (by simp only [Rp_weakAt_way, Rp_weakAt_colour, Rp_weakAt_shaded])
    (by simp only [Rp_pairs_way, Rp_pairs_colour, Rp_pairs_shaded])
    (by simp only [Rp_key_way, Rp_key_colour, Rp_key_shaded])
    (by simp only [Rp_value_way, Rp_value_colour, Rp_value_shaded])
    (by simp only [Rp_isPair_way, Rp_isPair_colour, Rp_isPair_shaded])
    (by simp only [Rp_half_way, Rp_half_colour, Rp_half_shaded])
    (by simp only [Rp_top_way, Rp_top_colour, Rp_top_shaded])
    (by simp only [Rp_way_way, Rp_way_colour, Rp_way_shaded])
    (by simp only [Rp_next_way, Rp_next_colour, Rp_next_shaded])
    (by simp only [Rp_freedMany_way, Rp_freedMany_colour, Rp_freedMany_shaded])
    (by simp only [Rp_rounds_way, Rp_rounds_colour, Rp_rounds_shaded])
    (by simp only [Rp_steps_way, Rp_steps_colour, Rp_steps_shaded])
    (by simp only [Rp_shaded_way, Rp_shaded_colour, Rp_shaded_shaded])
    (by simp only [Rp_movedMany_way, Rp_movedMany_colour, Rp_movedMany_shaded])
    (by simp only [Rp_isReached_way, Rp_isReached_colour, Rp_isReached_shaded])
    (by simp only [Rp_more_way, Rp_more_colour, Rp_more_shaded])
theorem mv_way (σ : RSt) (w : Int32) (a : (Nat → Int32)) (t : Int32) (b : (Nat → Int32)) (m : Int32) : r_movedMany_s (r_moved_s (r_top_s (r_place_s (r_way_s σ w) a) t) b) m = r_way_s (r_movedMany_s (r_moved_s (r_top_s (r_place_s σ a) t) b) m) w :=
  r_ext (σ := r_movedMany_s (r_moved_s (r_top_s (r_place_s (r_way_s σ w) a) t) b) m) (τ := r_way_s (r_movedMany_s (r_moved_s (r_top_s (r_place_s σ a) t) b) m) w)
    (by simp only [Rp_manner_way, Rp_manner_place, Rp_manner_top, Rp_manner_moved, Rp_manner_movedMany])
    (by simp only [Rp_fault_way, Rp_fault_place, Rp_fault_top, Rp_fault_moved, Rp_fault_movedMany])
    (by simp only [Rp_things_way, Rp_things_place, Rp_things_top, Rp_things_moved, Rp_things_movedMany])
    (by simp only [Rp_many_way, Rp_many_place, Rp_many_top, Rp_many_moved, Rp_many_movedMany])
    (by simp only [Rp_field_way, Rp_field_place, Rp_field_top, Rp_field_moved, Rp_field_movedMany])
    (by simp only [Rp_place_way, Rp_place_place, Rp_place_top, Rp_place_moved, Rp_place_movedMany])
    (by simp only [Rp_colour_way, Rp_colour_place, Rp_colour_top, Rp_colour_moved, Rp_colour_movedMany])
    (by simp only [Rp_isFreed_way, Rp_isFreed_place, Rp_isFreed_top, Rp_isFreed_moved, Rp_isFreed_movedMany])
    (by simp only [Rp_hasWish_way, Rp_hasWish_place, Rp_hasWish_top, Rp_hasWish_moved, Rp_hasWish_movedMany])
    (by simp only [Rp_moved_way, Rp_moved_place, Rp_moved_top, Rp_moved_moved, Rp_moved_movedMany])
    (by simp only [Rp_register_way, Rp_register_place, Rp_register_top, Rp_register_moved, Rp_register_movedMany])
    (by simp only [Rp_slot_way, Rp_slot_place, Rp_slot_top, Rp_slot_moved, Rp_slot_movedMany])
    (by simp only [Rp_wishes_way, Rp_wishes_place, Rp_wishes_top, Rp_wishes_moved, Rp_wishes_movedMany])
    (by simp only [Rp_wishAt_way, Rp_wishAt_place, Rp_wishAt_top, Rp_wishAt_moved, Rp_wishAt_movedMany])
    (by simp only [Rp_weakAt_way, Rp_weakAt_place, Rp_weakAt_top, Rp_weakAt_moved, Rp_weakAt_movedMany])
    (by simp only [Rp_pairs_way, Rp_pairs_place, Rp_pairs_top, Rp_pairs_moved, Rp_pairs_movedMany])
    (by simp only [Rp_key_way, Rp_key_place, Rp_key_top, Rp_key_moved, Rp_key_movedMany])
    (by simp only [Rp_value_way, Rp_value_place, Rp_value_top, Rp_value_moved, Rp_value_movedMany])
    (by simp only [Rp_isPair_way, Rp_isPair_place, Rp_isPair_top, Rp_isPair_moved, Rp_isPair_movedMany])
    (by simp only [Rp_half_way, Rp_half_place, Rp_half_top, Rp_half_moved, Rp_half_movedMany])
    (by simp only [Rp_top_way, Rp_top_place, Rp_top_top, Rp_top_moved, Rp_top_movedMany])
    (by simp only [Rp_way_way, Rp_way_place, Rp_way_top, Rp_way_moved, Rp_way_movedMany])
    (by simp only [Rp_next_way, Rp_next_place, Rp_next_top, Rp_next_moved, Rp_next_movedMany])
    (by simp only [Rp_freedMany_way, Rp_freedMany_place, Rp_freedMany_top, Rp_freedMany_moved, Rp_freedMany_movedMany])
    (by simp only [Rp_rounds_way, Rp_rounds_place, Rp_rounds_top, Rp_rounds_moved, Rp_rounds_movedMany])
    (by simp only [Rp_steps_way, Rp_steps_place, Rp_steps_top, Rp_steps_moved, Rp_steps_movedMany])
    (by simp only [Rp_shaded_way, Rp_shaded_place, Rp_shaded_top, Rp_shaded_moved, Rp_shaded_movedMany])
    (by simp only [Rp_movedMany_way, Rp_movedMany_place, Rp_movedMany_top, Rp_movedMany_moved, Rp_movedMany_movedMany])
    (by simp only [Rp_isReached_way, Rp_isReached_place, Rp_isReached_top, Rp_isReached_moved, Rp_isReached_movedMany])
    (by simp only [Rp_more_way, Rp_more_place, Rp_more_top, Rp_more_moved, Rp_more_movedMany])
theorem colour_2 (σ : RSt) (a : (Nat → Int32)) (b : (Nat → Int32)) : r_colour_s (r_colour_s σ a) b = r_colour_s σ b :=
  r_ext (σ := r_colour_s (r_colour_s σ a) b) (τ := r_colour_s σ b)
    (by simp only [Rp_manner_colour])
    (by simp only [Rp_fault_colour])
    (by simp only [Rp_things_colour])
    (by simp only [Rp_many_colour])
    (by simp only [Rp_field_colour])
    (by simp only [Rp_place_colour])
    (by simp only [Rp_colour_colour])
    (by simp only [Rp_isFreed_colour])
    (by simp only [Rp_hasWish_colour])
    (by simp only [Rp_moved_colour])
    (by simp only [Rp_register_colour])
    (by simp only [Rp_slot_colour])
    (by simp only [Rp_wishes_colour])
    (by simp only [Rp_wishAt_colour])
    (by simp only [Rp_weakAt_colour])
    (by simp only [Rp_pairs_colour])
    (by simp only [Rp_key_colour])
    (by simp only [Rp_value_colour])
    (by simp only [Rp_isPair_colour])
    (by simp only [Rp_half_colour])
    (by simp only [Rp_top_colour])
    (by simp only [Rp_way_colour])
    (by simp only [Rp_next_colour])
    (by simp only [Rp_freedMany_colour])
    (by simp only [Rp_rounds_colour])
    (by simp only [Rp_steps_colour])
    (by simp only [Rp_shaded_colour])
    (by simp only [Rp_movedMany_colour])
    (by simp only [Rp_isReached_colour])
    (by simp only [Rp_more_colour])
theorem colours_2 (σ : CSt) (a : (Nat → Int32)) (b : (Nat → Int32)) : c_colours_s (c_colours_s σ a) b = c_colours_s σ b :=
  c_ext (σ := c_colours_s (c_colours_s σ a) b) (τ := c_colours_s σ b)
    (by simp only [Cp_manner_colours])
    (by simp only [Cp_fault_colours])
    (by simp only [Cp_under_colours])
    (by simp only [Cp_nextS_colours])
    (by simp only [Cp_rounds_colours])
    (by simp only [Cp_steps_colours])
    (by simp only [Cp_shaded_colours])
    (by simp only [Cp_moved_colours])
    (by simp only [Cp_tmade_colours])
    (by simp only [Cp_sizes_colours])
    (by simp only [Cp_places_colours])
    (by simp only [Cp_colours_colours])
    (by simp only [Cp_moves_colours])
    (by simp only [Cp_freed_colours])
    (by simp only [Cp_wishing_colours])
    (by simp only [Cp_theld_colours])
    (by simp only [Cp_cmap_colours])
    (by simp only [Cp_halfEnd_colours])
    (by simp only [Cp_behind_colours])
    (by simp only [Cp_hheld_colours])
    (by simp only [Cp_named_colours])
    (by simp only [Cp_wishes_colours])
    (by simp only [Cp_pmade_colours])
    (by simp only [Cp_keys_colours])
    (by simp only [Cp_values_colours])
    (by simp only [Cp_found_colours])
    (by simp only [Cp_order_colours])
    (by simp only [Cp_rcount_colours])
theorem weakAt_id (σ : RSt) : r_weakAt_s σ (r_weakAt σ) = σ := rfl
theorem isPair_id (σ : RSt) : r_isPair_s σ (r_isPair σ) = σ := rfl
theorem under_id (c : CSt) : c_under_s c (c_under c) = c := rfl
theorem colour_id (σ : RSt) : r_colour_s σ (r_colour σ) = σ := rfl
theorem colours_id (c : CSt) : c_colours_s c (c_colours c) = c := rfl
theorem nextS_id (c : CSt) : c_nextS_s c (c_nextS c) = c := rfl
