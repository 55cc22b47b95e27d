theorem Rq_manner_manner (σ : RSt) (v : Int32) : r_manner (r_manner_s σ v) = v := rfl
theorem Rq_fault_manner (σ : RSt) (v : Int32) : r_fault (r_manner_s σ v) = r_fault σ := rfl
theorem Rq_things_manner (σ : RSt) (v : Int32) : r_things (r_manner_s σ v) = r_things σ := rfl
theorem Rq_many_manner (σ : RSt) (v : Int32) : r_many (r_manner_s σ v) = r_many σ := rfl
theorem Rq_field_manner (σ : RSt) (v : Int32) : r_field (r_manner_s σ v) = r_field σ := rfl
theorem Rq_place_manner (σ : RSt) (v : Int32) : r_place (r_manner_s σ v) = r_place σ := rfl
theorem Rq_colour_manner (σ : RSt) (v : Int32) : r_colour (r_manner_s σ v) = r_colour σ := rfl
theorem Rq_isFreed_manner (σ : RSt) (v : Int32) : r_isFreed (r_manner_s σ v) = r_isFreed σ := rfl
theorem Rq_hasWish_manner (σ : RSt) (v : Int32) : r_hasWish (r_manner_s σ v) = r_hasWish σ := rfl
theorem Rq_moved_manner (σ : RSt) (v : Int32) : r_moved (r_manner_s σ v) = r_moved σ := rfl
theorem Rq_register_manner (σ : RSt) (v : Int32) : r_register (r_manner_s σ v) = r_register σ := rfl
theorem Rq_slot_manner (σ : RSt) (v : Int32) : r_slot (r_manner_s σ v) = r_slot σ := rfl
theorem Rq_wishes_manner (σ : RSt) (v : Int32) : r_wishes (r_manner_s σ v) = r_wishes σ := rfl
theorem Rq_wishAt_manner (σ : RSt) (v : Int32) : r_wishAt (r_manner_s σ v) = r_wishAt σ := rfl
theorem Rq_weakAt_manner (σ : RSt) (v : Int32) : r_weakAt (r_manner_s σ v) = r_weakAt σ := rfl
theorem Rq_pairs_manner (σ : RSt) (v : Int32) : r_pairs (r_manner_s σ v) = r_pairs σ := rfl
theorem Rq_key_manner (σ : RSt) (v : Int32) : r_key (r_manner_s σ v) = r_key σ := rfl
theorem Rq_value_manner (σ : RSt) (v : Int32) : r_value (r_manner_s σ v) = r_value σ := rfl
theorem Rq_isPair_manner (σ : RSt) (v : Int32) : r_isPair (r_manner_s σ v) = r_isPair σ := rfl
theorem Rq_half_manner (σ : RSt) (v : Int32) : r_half (r_manner_s σ v) = r_half σ := rfl
theorem Rq_top_manner (σ : RSt) (v : Int32) : r_top (r_manner_s σ v) = r_top σ := rfl
theorem Rq_way_manner (σ : RSt) (v : Int32) : r_way (r_manner_s σ v) = r_way σ := rfl
theorem Rq_next_manner (σ : RSt) (v : Int32) : r_next (r_manner_s σ v) = r_next σ := rfl
theorem Rq_freedMany_manner (σ : RSt) (v : Int32) : r_freedMany (r_manner_s σ v) = r_freedMany σ := rfl
theorem Rq_rounds_manner (σ : RSt) (v : Int32) : r_rounds (r_manner_s σ v) = r_rounds σ := rfl
theorem Rq_steps_manner (σ : RSt) (v : Int32) : r_steps (r_manner_s σ v) = r_steps σ := rfl
theorem Rq_shaded_manner (σ : RSt) (v : Int32) : r_shaded (r_manner_s σ v) = r_shaded σ := rfl
theorem Rq_movedMany_manner (σ : RSt) (v : Int32) : r_movedMany (r_manner_s σ v) = r_movedMany σ := rfl
theorem Rq_isReached_manner (σ : RSt) (v : Int32) : r_isReached (r_manner_s σ v) = r_isReached σ := rfl
theorem Rq_more_manner (σ : RSt) (v : Int32) : r_more (r_manner_s σ v) = r_more σ := rfl
theorem Rq_manner_fault (σ : RSt) (v : Int32) : r_manner (r_fault_s σ v) = r_manner σ := rfl
theorem Rq_fault_fault (σ : RSt) (v : Int32) : r_fault (r_fault_s σ v) = v := rfl
theorem Rq_things_fault (σ : RSt) (v : Int32) : r_things (r_fault_s σ v) = r_things σ := rfl
theorem Rq_many_fault (σ : RSt) (v : Int32) : r_many (r_fault_s σ v) = r_many σ := rfl
theorem Rq_field_fault (σ : RSt) (v : Int32) : r_field (r_fault_s σ v) = r_field σ := rfl
theorem Rq_place_fault (σ : RSt) (v : Int32) : r_place (r_fault_s σ v) = r_place σ := rfl
theorem Rq_colour_fault (σ : RSt) (v : Int32) : r_colour (r_fault_s σ v) = r_colour σ := rfl
theorem Rq_isFreed_fault (σ : RSt) (v : Int32) : r_isFreed (r_fault_s σ v) = r_isFreed σ := rfl
theorem Rq_hasWish_fault (σ : RSt) (v : Int32) : r_hasWish (r_fault_s σ v) = r_hasWish σ := rfl
theorem Rq_moved_fault (σ : RSt) (v : Int32) : r_moved (r_fault_s σ v) = r_moved σ := rfl
theorem Rq_register_fault (σ : RSt) (v : Int32) : r_register (r_fault_s σ v) = r_register σ := rfl
theorem Rq_slot_fault (σ : RSt) (v : Int32) : r_slot (r_fault_s σ v) = r_slot σ := rfl
theorem Rq_wishes_fault (σ : RSt) (v : Int32) : r_wishes (r_fault_s σ v) = r_wishes σ := rfl
theorem Rq_wishAt_fault (σ : RSt) (v : Int32) : r_wishAt (r_fault_s σ v) = r_wishAt σ := rfl
theorem Rq_weakAt_fault (σ : RSt) (v : Int32) : r_weakAt (r_fault_s σ v) = r_weakAt σ := rfl
theorem Rq_pairs_fault (σ : RSt) (v : Int32) : r_pairs (r_fault_s σ v) = r_pairs σ := rfl
theorem Rq_key_fault (σ : RSt) (v : Int32) : r_key (r_fault_s σ v) = r_key σ := rfl
theorem Rq_value_fault (σ : RSt) (v : Int32) : r_value (r_fault_s σ v) = r_value σ := rfl
theorem Rq_isPair_fault (σ : RSt) (v : Int32) : r_isPair (r_fault_s σ v) = r_isPair σ := rfl
theorem Rq_half_fault (σ : RSt) (v : Int32) : r_half (r_fault_s σ v) = r_half σ := rfl
theorem Rq_top_fault (σ : RSt) (v : Int32) : r_top (r_fault_s σ v) = r_top σ := rfl
theorem Rq_way_fault (σ : RSt) (v : Int32) : r_way (r_fault_s σ v) = r_way σ := rfl
theorem Rq_next_fault (σ : RSt) (v : Int32) : r_next (r_fault_s σ v) = r_next σ := rfl
theorem Rq_freedMany_fault (σ : RSt) (v : Int32) : r_freedMany (r_fault_s σ v) = r_freedMany σ := rfl
theorem Rq_rounds_fault (σ : RSt) (v : Int32) : r_rounds (r_fault_s σ v) = r_rounds σ := rfl
theorem Rq_steps_fault (σ : RSt) (v : Int32) : r_steps (r_fault_s σ v) = r_steps σ := rfl
theorem Rq_shaded_fault (σ : RSt) (v : Int32) : r_shaded (r_fault_s σ v) = r_shaded σ := rfl
theorem Rq_movedMany_fault (σ : RSt) (v : Int32) : r_movedMany (r_fault_s σ v) = r_movedMany σ := rfl
theorem Rq_isReached_fault (σ : RSt) (v : Int32) : r_isReached (r_fault_s σ v) = r_isReached σ := rfl
theorem Rq_more_fault (σ : RSt) (v : Int32) : r_more (r_fault_s σ v) = r_more σ := rfl
theorem Rq_manner_things (σ : RSt) (v : Int32) : r_manner (r_things_s σ v) = r_manner σ := rfl
theorem Rq_fault_things (σ : RSt) (v : Int32) : r_fault (r_things_s σ v) = r_fault σ := rfl
theorem Rq_things_things (σ : RSt) (v : Int32) : r_things (r_things_s σ v) = v := rfl
theorem Rq_many_things (σ : RSt) (v : Int32) : r_many (r_things_s σ v) = r_many σ := rfl
theorem Rq_field_things (σ : RSt) (v : Int32) : r_field (r_things_s σ v) = r_field σ := rfl
theorem Rq_place_things (σ : RSt) (v : Int32) : r_place (r_things_s σ v) = r_place σ := rfl
theorem Rq_colour_things (σ : RSt) (v : Int32) : r_colour (r_things_s σ v) = r_colour σ := rfl
theorem Rq_isFreed_things (σ : RSt) (v : Int32) : r_isFreed (r_things_s σ v) = r_isFreed σ := rfl
theorem Rq_hasWish_things (σ : RSt) (v : Int32) : r_hasWish (r_things_s σ v) = r_hasWish σ := rfl
theorem Rq_moved_things (σ : RSt) (v : Int32) : r_moved (r_things_s σ v) = r_moved σ := rfl
theorem Rq_register_things (σ : RSt) (v : Int32) : r_register (r_things_s σ v) = r_register σ := rfl
theorem Rq_slot_things (σ : RSt) (v : Int32) : r_slot (r_things_s σ v) = r_slot σ := rfl
theorem Rq_wishes_things (σ : RSt) (v : Int32) : r_wishes (r_things_s σ v) = r_wishes σ := rfl
theorem Rq_wishAt_things (σ : RSt) (v : Int32) : r_wishAt (r_things_s σ v) = r_wishAt σ := rfl
theorem Rq_weakAt_things (σ : RSt) (v : Int32) : r_weakAt (r_things_s σ v) = r_weakAt σ := rfl
theorem Rq_pairs_things (σ : RSt) (v : Int32) : r_pairs (r_things_s σ v) = r_pairs σ := rfl
theorem Rq_key_things (σ : RSt) (v : Int32) : r_key (r_things_s σ v) = r_key σ := rfl
theorem Rq_value_things (σ : RSt) (v : Int32) : r_value (r_things_s σ v) = r_value σ := rfl
theorem Rq_isPair_things (σ : RSt) (v : Int32) : r_isPair (r_things_s σ v) = r_isPair σ := rfl
theorem Rq_half_things (σ : RSt) (v : Int32) : r_half (r_things_s σ v) = r_half σ := rfl
theorem Rq_top_things (σ : RSt) (v : Int32) : r_top (r_things_s σ v) = r_top σ := rfl
theorem Rq_way_things (σ : RSt) (v : Int32) : r_way (r_things_s σ v) = r_way σ := rfl
theorem Rq_next_things (σ : RSt) (v : Int32) : r_next (r_things_s σ v) = r_next σ := rfl
theorem Rq_freedMany_things (σ : RSt) (v : Int32) : r_freedMany (r_things_s σ v) = r_freedMany σ := rfl
theorem Rq_rounds_things (σ : RSt) (v : Int32) : r_rounds (r_things_s σ v) = r_rounds σ := rfl
theorem Rq_steps_things (σ : RSt) (v : Int32) : r_steps (r_things_s σ v) = r_steps σ := rfl
theorem Rq_shaded_things (σ : RSt) (v : Int32) : r_shaded (r_things_s σ v) = r_shaded σ := rfl
theorem Rq_movedMany_things (σ : RSt) (v : Int32) : r_movedMany (r_things_s σ v) = r_movedMany σ := rfl
theorem Rq_isReached_things (σ : RSt) (v : Int32) : r_isReached (r_things_s σ v) = r_isReached σ := rfl
theorem Rq_more_things (σ : RSt) (v : Int32) : r_more (r_things_s σ v) = r_more σ := rfl
theorem Rq_manner_many (σ : RSt) (v : (Nat → Int32)) : r_manner (r_many_s σ v) = r_manner σ := rfl
theorem Rq_fault_many (σ : RSt) (v : (Nat → Int32)) : r_fault (r_many_s σ v) = r_fault σ := rfl
theorem Rq_things_many (σ : RSt) (v : (Nat → Int32)) : r_things (r_many_s σ v) = r_things σ := rfl
theorem Rq_many_many (σ : RSt) (v : (Nat → Int32)) : r_many (r_many_s σ v) = v := rfl
theorem Rq_field_many (σ : RSt) (v : (Nat → Int32)) : r_field (r_many_s σ v) = r_field σ := rfl
theorem Rq_place_many (σ : RSt) (v : (Nat → Int32)) : r_place (r_many_s σ v) = r_place σ := rfl
theorem Rq_colour_many (σ : RSt) (v : (Nat → Int32)) : r_colour (r_many_s σ v) = r_colour σ := rfl
theorem Rq_isFreed_many (σ : RSt) (v : (Nat → Int32)) : r_isFreed (r_many_s σ v) = r_isFreed σ := rfl
theorem Rq_hasWish_many (σ : RSt) (v : (Nat → Int32)) : r_hasWish (r_many_s σ v) = r_hasWish σ := rfl
theorem Rq_moved_many (σ : RSt) (v : (Nat → Int32)) : r_moved (r_many_s σ v) = r_moved σ := rfl
theorem Rq_register_many (σ : RSt) (v : (Nat → Int32)) : r_register (r_many_s σ v) = r_register σ := rfl
theorem Rq_slot_many (σ : RSt) (v : (Nat → Int32)) : r_slot (r_many_s σ v) = r_slot σ := rfl
theorem Rq_wishes_many (σ : RSt) (v : (Nat → Int32)) : r_wishes (r_many_s σ v) = r_wishes σ := rfl
theorem Rq_wishAt_many (σ : RSt) (v : (Nat → Int32)) : r_wishAt (r_many_s σ v) = r_wishAt σ := rfl
theorem Rq_weakAt_many (σ : RSt) (v : (Nat → Int32)) : r_weakAt (r_many_s σ v) = r_weakAt σ := rfl
theorem Rq_pairs_many (σ : RSt) (v : (Nat → Int32)) : r_pairs (r_many_s σ v) = r_pairs σ := rfl
theorem Rq_key_many (σ : RSt) (v : (Nat → Int32)) : r_key (r_many_s σ v) = r_key σ := rfl
theorem Rq_value_many (σ : RSt) (v : (Nat → Int32)) : r_value (r_many_s σ v) = r_value σ := rfl
theorem Rq_isPair_many (σ : RSt) (v : (Nat → Int32)) : r_isPair (r_many_s σ v) = r_isPair σ := rfl
theorem Rq_half_many (σ : RSt) (v : (Nat → Int32)) : r_half (r_many_s σ v) = r_half σ := rfl
theorem Rq_top_many (σ : RSt) (v : (Nat → Int32)) : r_top (r_many_s σ v) = r_top σ := rfl
theorem Rq_way_many (σ : RSt) (v : (Nat → Int32)) : r_way (r_many_s σ v) = r_way σ := rfl
theorem Rq_next_many (σ : RSt) (v : (Nat → Int32)) : r_next (r_many_s σ v) = r_next σ := rfl
theorem Rq_freedMany_many (σ : RSt) (v : (Nat → Int32)) : r_freedMany (r_many_s σ v) = r_freedMany σ := rfl
theorem Rq_rounds_many (σ : RSt) (v : (Nat → Int32)) : r_rounds (r_many_s σ v) = r_rounds σ := rfl
theorem Rq_steps_many (σ : RSt) (v : (Nat → Int32)) : r_steps (r_many_s σ v) = r_steps σ := rfl
theorem Rq_shaded_many (σ : RSt) (v : (Nat → Int32)) : r_shaded (r_many_s σ v) = r_shaded σ := rfl
theorem Rq_movedMany_many (σ : RSt) (v : (Nat → Int32)) : r_movedMany (r_many_s σ v) = r_movedMany σ := rfl
theorem Rq_isReached_many (σ : RSt) (v : (Nat → Int32)) : r_isReached (r_many_s σ v) = r_isReached σ := rfl
theorem Rq_more_many (σ : RSt) (v : (Nat → Int32)) : r_more (r_many_s σ v) = r_more σ := rfl
theorem Rq_manner_field (σ : RSt) (v : (Nat → Int32)) : r_manner (r_field_s σ v) = r_manner σ := rfl
theorem Rq_fault_field (σ : RSt) (v : (Nat → Int32)) : r_fault (r_field_s σ v) = r_fault σ := rfl
theorem Rq_things_field (σ : RSt) (v : (Nat → Int32)) : r_things (r_field_s σ v) = r_things σ := rfl
theorem Rq_many_field (σ : RSt) (v : (Nat → Int32)) : r_many (r_field_s σ v) = r_many σ := rfl
theorem Rq_field_field (σ : RSt) (v : (Nat → Int32)) : r_field (r_field_s σ v) = v := rfl
theorem Rq_place_field (σ : RSt) (v : (Nat → Int32)) : r_place (r_field_s σ v) = r_place σ := rfl
theorem Rq_colour_field (σ : RSt) (v : (Nat → Int32)) : r_colour (r_field_s σ v) = r_colour σ := rfl
theorem Rq_isFreed_field (σ : RSt) (v : (Nat → Int32)) : r_isFreed (r_field_s σ v) = r_isFreed σ := rfl
theorem Rq_hasWish_field (σ : RSt) (v : (Nat → Int32)) : r_hasWish (r_field_s σ v) = r_hasWish σ := rfl
theorem Rq_moved_field (σ : RSt) (v : (Nat → Int32)) : r_moved (r_field_s σ v) = r_moved σ := rfl
theorem Rq_register_field (σ : RSt) (v : (Nat → Int32)) : r_register (r_field_s σ v) = r_register σ := rfl
theorem Rq_slot_field (σ : RSt) (v : (Nat → Int32)) : r_slot (r_field_s σ v) = r_slot σ := rfl
theorem Rq_wishes_field (σ : RSt) (v : (Nat → Int32)) : r_wishes (r_field_s σ v) = r_wishes σ := rfl
theorem Rq_wishAt_field (σ : RSt) (v : (Nat → Int32)) : r_wishAt (r_field_s σ v) = r_wishAt σ := rfl
theorem Rq_weakAt_field (σ : RSt) (v : (Nat → Int32)) : r_weakAt (r_field_s σ v) = r_weakAt σ := rfl
theorem Rq_pairs_field (σ : RSt) (v : (Nat → Int32)) : r_pairs (r_field_s σ v) = r_pairs σ := rfl
theorem Rq_key_field (σ : RSt) (v : (Nat → Int32)) : r_key (r_field_s σ v) = r_key σ := rfl
theorem Rq_value_field (σ : RSt) (v : (Nat → Int32)) : r_value (r_field_s σ v) = r_value σ := rfl
theorem Rq_isPair_field (σ : RSt) (v : (Nat → Int32)) : r_isPair (r_field_s σ v) = r_isPair σ := rfl
theorem Rq_half_field (σ : RSt) (v : (Nat → Int32)) : r_half (r_field_s σ v) = r_half σ := rfl
theorem Rq_top_field (σ : RSt) (v : (Nat → Int32)) : r_top (r_field_s σ v) = r_top σ := rfl
theorem Rq_way_field (σ : RSt) (v : (Nat → Int32)) : r_way (r_field_s σ v) = r_way σ := rfl
theorem Rq_next_field (σ : RSt) (v : (Nat → Int32)) : r_next (r_field_s σ v) = r_next σ := rfl
theorem Rq_freedMany_field (σ : RSt) (v : (Nat → Int32)) : r_freedMany (r_field_s σ v) = r_freedMany σ := rfl
theorem Rq_rounds_field (σ : RSt) (v : (Nat → Int32)) : r_rounds (r_field_s σ v) = r_rounds σ := rfl
theorem Rq_steps_field (σ : RSt) (v : (Nat → Int32)) : r_steps (r_field_s σ v) = r_steps σ := rfl
theorem Rq_shaded_field (σ : RSt) (v : (Nat → Int32)) : r_shaded (r_field_s σ v) = r_shaded σ := rfl
theorem Rq_movedMany_field (σ : RSt) (v : (Nat → Int32)) : r_movedMany (r_field_s σ v) = r_movedMany σ := rfl
theorem Rq_isReached_field (σ : RSt) (v : (Nat → Int32)) : r_isReached (r_field_s σ v) = r_isReached σ := rfl
theorem Rq_more_field (σ : RSt) (v : (Nat → Int32)) : r_more (r_field_s σ v) = r_more σ := rfl
theorem Rq_manner_place (σ : RSt) (v : (Nat → Int32)) : r_manner (r_place_s σ v) = r_manner σ := rfl
theorem Rq_fault_place (σ : RSt) (v : (Nat → Int32)) : r_fault (r_place_s σ v) = r_fault σ := rfl
theorem Rq_things_place (σ : RSt) (v : (Nat → Int32)) : r_things (r_place_s σ v) = r_things σ := rfl
theorem Rq_many_place (σ : RSt) (v : (Nat → Int32)) : r_many (r_place_s σ v) = r_many σ := rfl
theorem Rq_field_place (σ : RSt) (v : (Nat → Int32)) : r_field (r_place_s σ v) = r_field σ := rfl
theorem Rq_place_place (σ : RSt) (v : (Nat → Int32)) : r_place (r_place_s σ v) = v := rfl
theorem Rq_colour_place (σ : RSt) (v : (Nat → Int32)) : r_colour (r_place_s σ v) = r_colour σ := rfl
theorem Rq_isFreed_place (σ : RSt) (v : (Nat → Int32)) : r_isFreed (r_place_s σ v) = r_isFreed σ := rfl
theorem Rq_hasWish_place (σ : RSt) (v : (Nat → Int32)) : r_hasWish (r_place_s σ v) = r_hasWish σ := rfl
theorem Rq_moved_place (σ : RSt) (v : (Nat → Int32)) : r_moved (r_place_s σ v) = r_moved σ := rfl
theorem Rq_register_place (σ : RSt) (v : (Nat → Int32)) : r_register (r_place_s σ v) = r_register σ := rfl
theorem Rq_slot_place (σ : RSt) (v : (Nat → Int32)) : r_slot (r_place_s σ v) = r_slot σ := rfl
theorem Rq_wishes_place (σ : RSt) (v : (Nat → Int32)) : r_wishes (r_place_s σ v) = r_wishes σ := rfl
theorem Rq_wishAt_place (σ : RSt) (v : (Nat → Int32)) : r_wishAt (r_place_s σ v) = r_wishAt σ := rfl
theorem Rq_weakAt_place (σ : RSt) (v : (Nat → Int32)) : r_weakAt (r_place_s σ v) = r_weakAt σ := rfl
theorem Rq_pairs_place (σ : RSt) (v : (Nat → Int32)) : r_pairs (r_place_s σ v) = r_pairs σ := rfl
theorem Rq_key_place (σ : RSt) (v : (Nat → Int32)) : r_key (r_place_s σ v) = r_key σ := rfl
theorem Rq_value_place (σ : RSt) (v : (Nat → Int32)) : r_value (r_place_s σ v) = r_value σ := rfl
theorem Rq_isPair_place (σ : RSt) (v : (Nat → Int32)) : r_isPair (r_place_s σ v) = r_isPair σ := rfl
theorem Rq_half_place (σ : RSt) (v : (Nat → Int32)) : r_half (r_place_s σ v) = r_half σ := rfl
theorem Rq_top_place (σ : RSt) (v : (Nat → Int32)) : r_top (r_place_s σ v) = r_top σ := rfl
theorem Rq_way_place (σ : RSt) (v : (Nat → Int32)) : r_way (r_place_s σ v) = r_way σ := rfl
theorem Rq_next_place (σ : RSt) (v : (Nat → Int32)) : r_next (r_place_s σ v) = r_next σ := rfl
theorem Rq_freedMany_place (σ : RSt) (v : (Nat → Int32)) : r_freedMany (r_place_s σ v) = r_freedMany σ := rfl
theorem Rq_rounds_place (σ : RSt) (v : (Nat → Int32)) : r_rounds (r_place_s σ v) = r_rounds σ := rfl
theorem Rq_steps_place (σ : RSt) (v : (Nat → Int32)) : r_steps (r_place_s σ v) = r_steps σ := rfl
theorem Rq_shaded_place (σ : RSt) (v : (Nat → Int32)) : r_shaded (r_place_s σ v) = r_shaded σ := rfl
theorem Rq_movedMany_place (σ : RSt) (v : (Nat → Int32)) : r_movedMany (r_place_s σ v) = r_movedMany σ := rfl
theorem Rq_isReached_place (σ : RSt) (v : (Nat → Int32)) : r_isReached (r_place_s σ v) = r_isReached σ := rfl
theorem Rq_more_place (σ : RSt) (v : (Nat → Int32)) : r_more (r_place_s σ v) = r_more σ := rfl
theorem Rq_manner_colour (σ : RSt) (v : (Nat → Int32)) : r_manner (r_colour_s σ v) = r_manner σ := rfl
theorem Rq_fault_colour (σ : RSt) (v : (Nat → Int32)) : r_fault (r_colour_s σ v) = r_fault σ := rfl
theorem Rq_things_colour (σ : RSt) (v : (Nat → Int32)) : r_things (r_colour_s σ v) = r_things σ := rfl
theorem Rq_many_colour (σ : RSt) (v : (Nat → Int32)) : r_many (r_colour_s σ v) = r_many σ := rfl
theorem Rq_field_colour (σ : RSt) (v : (Nat → Int32)) : r_field (r_colour_s σ v) = r_field σ := rfl
theorem Rq_place_colour (σ : RSt) (v : (Nat → Int32)) : r_place (r_colour_s σ v) = r_place σ := rfl
theorem Rq_colour_colour (σ : RSt) (v : (Nat → Int32)) : r_colour (r_colour_s σ v) = v := rfl
theorem Rq_isFreed_colour (σ : RSt) (v : (Nat → Int32)) : r_isFreed (r_colour_s σ v) = r_isFreed σ := rfl
theorem Rq_hasWish_colour (σ : RSt) (v : (Nat → Int32)) : r_hasWish (r_colour_s σ v) = r_hasWish σ := rfl
theorem Rq_moved_colour (σ : RSt) (v : (Nat → Int32)) : r_moved (r_colour_s σ v) = r_moved σ := rfl
theorem Rq_register_colour (σ : RSt) (v : (Nat → Int32)) : r_register (r_colour_s σ v) = r_register σ := rfl
theorem Rq_slot_colour (σ : RSt) (v : (Nat → Int32)) : r_slot (r_colour_s σ v) = r_slot σ := rfl
theorem Rq_wishes_colour (σ : RSt) (v : (Nat → Int32)) : r_wishes (r_colour_s σ v) = r_wishes σ := rfl
theorem Rq_wishAt_colour (σ : RSt) (v : (Nat → Int32)) : r_wishAt (r_colour_s σ v) = r_wishAt σ := rfl
theorem Rq_weakAt_colour (σ : RSt) (v : (Nat → Int32)) : r_weakAt (r_colour_s σ v) = r_weakAt σ := rfl
theorem Rq_pairs_colour (σ : RSt) (v : (Nat → Int32)) : r_pairs (r_colour_s σ v) = r_pairs σ := rfl
theorem Rq_key_colour (σ : RSt) (v : (Nat → Int32)) : r_key (r_colour_s σ v) = r_key σ := rfl
theorem Rq_value_colour (σ : RSt) (v : (Nat → Int32)) : r_value (r_colour_s σ v) = r_value σ := rfl
theorem Rq_isPair_colour (σ : RSt) (v : (Nat → Int32)) : r_isPair (r_colour_s σ v) = r_isPair σ := rfl
theorem Rq_half_colour (σ : RSt) (v : (Nat → Int32)) : r_half (r_colour_s σ v) = r_half σ := rfl
theorem Rq_top_colour (σ : RSt) (v : (Nat → Int32)) : r_top (r_colour_s σ v) = r_top σ := rfl
theorem Rq_way_colour (σ : RSt) (v : (Nat → Int32)) : r_way (r_colour_s σ v) = r_way σ := rfl
theorem Rq_next_colour (σ : RSt) (v : (Nat → Int32)) : r_next (r_colour_s σ v) = r_next σ := rfl
theorem Rq_freedMany_colour (σ : RSt) (v : (Nat → Int32)) : r_freedMany (r_colour_s σ v) = r_freedMany σ := rfl
theorem Rq_rounds_colour (σ : RSt) (v : (Nat → Int32)) : r_rounds (r_colour_s σ v) = r_rounds σ := rfl
theorem Rq_steps_colour (σ : RSt) (v : (Nat → Int32)) : r_steps (r_colour_s σ v) = r_steps σ := rfl
theorem Rq_shaded_colour (σ : RSt) (v : (Nat → Int32)) : r_shaded (r_colour_s σ v) = r_shaded σ := rfl
theorem Rq_movedMany_colour (σ : RSt) (v : (Nat → Int32)) : r_movedMany (r_colour_s σ v) = r_movedMany σ := rfl
theorem Rq_isReached_colour (σ : RSt) (v : (Nat → Int32)) : r_isReached (r_colour_s σ v) = r_isReached σ := rfl
theorem Rq_more_colour (σ : RSt) (v : (Nat → Int32)) : r_more (r_colour_s σ v) = r_more σ := rfl
theorem Rq_manner_isFreed (σ : RSt) (v : (Nat → Int32)) : r_manner (r_isFreed_s σ v) = r_manner σ := rfl
theorem Rq_fault_isFreed (σ : RSt) (v : (Nat → Int32)) : r_fault (r_isFreed_s σ v) = r_fault σ := rfl
theorem Rq_things_isFreed (σ : RSt) (v : (Nat → Int32)) : r_things (r_isFreed_s σ v) = r_things σ := rfl
theorem Rq_many_isFreed (σ : RSt) (v : (Nat → Int32)) : r_many (r_isFreed_s σ v) = r_many σ := rfl
theorem Rq_field_isFreed (σ : RSt) (v : (Nat → Int32)) : r_field (r_isFreed_s σ v) = r_field σ := rfl
theorem Rq_place_isFreed (σ : RSt) (v : (Nat → Int32)) : r_place (r_isFreed_s σ v) = r_place σ := rfl
theorem Rq_colour_isFreed (σ : RSt) (v : (Nat → Int32)) : r_colour (r_isFreed_s σ v) = r_colour σ := rfl
theorem Rq_isFreed_isFreed (σ : RSt) (v : (Nat → Int32)) : r_isFreed (r_isFreed_s σ v) = v := rfl
theorem Rq_hasWish_isFreed (σ : RSt) (v : (Nat → Int32)) : r_hasWish (r_isFreed_s σ v) = r_hasWish σ := rfl
theorem Rq_moved_isFreed (σ : RSt) (v : (Nat → Int32)) : r_moved (r_isFreed_s σ v) = r_moved σ := rfl
theorem Rq_register_isFreed (σ : RSt) (v : (Nat → Int32)) : r_register (r_isFreed_s σ v) = r_register σ := rfl
theorem Rq_slot_isFreed (σ : RSt) (v : (Nat → Int32)) : r_slot (r_isFreed_s σ v) = r_slot σ := rfl
theorem Rq_wishes_isFreed (σ : RSt) (v : (Nat → Int32)) : r_wishes (r_isFreed_s σ v) = r_wishes σ := rfl
theorem Rq_wishAt_isFreed (σ : RSt) (v : (Nat → Int32)) : r_wishAt (r_isFreed_s σ v) = r_wishAt σ := rfl
theorem Rq_weakAt_isFreed (σ : RSt) (v : (Nat → Int32)) : r_weakAt (r_isFreed_s σ v) = r_weakAt σ := rfl
theorem Rq_pairs_isFreed (σ : RSt) (v : (Nat → Int32)) : r_pairs (r_isFreed_s σ v) = r_pairs σ := rfl
theorem Rq_key_isFreed (σ : RSt) (v : (Nat → Int32)) : r_key (r_isFreed_s σ v) = r_key σ := rfl
theorem Rq_value_isFreed (σ : RSt) (v : (Nat → Int32)) : r_value (r_isFreed_s σ v) = r_value σ := rfl
theorem Rq_isPair_isFreed (σ : RSt) (v : (Nat → Int32)) : r_isPair (r_isFreed_s σ v) = r_isPair σ := rfl
theorem Rq_half_isFreed (σ : RSt) (v : (Nat → Int32)) : r_half (r_isFreed_s σ v) = r_half σ := rfl
theorem Rq_top_isFreed (σ : RSt) (v : (Nat → Int32)) : r_top (r_isFreed_s σ v) = r_top σ := rfl
theorem Rq_way_isFreed (σ : RSt) (v : (Nat → Int32)) : r_way (r_isFreed_s σ v) = r_way σ := rfl
theorem Rq_next_isFreed (σ : RSt) (v : (Nat → Int32)) : r_next (r_isFreed_s σ v) = r_next σ := rfl
theorem Rq_freedMany_isFreed (σ : RSt) (v : (Nat → Int32)) : r_freedMany (r_isFreed_s σ v) = r_freedMany σ := rfl
theorem Rq_rounds_isFreed (σ : RSt) (v : (Nat → Int32)) : r_rounds (r_isFreed_s σ v) = r_rounds σ := rfl
theorem Rq_steps_isFreed (σ : RSt) (v : (Nat → Int32)) : r_steps (r_isFreed_s σ v) = r_steps σ := rfl
theorem Rq_shaded_isFreed (σ : RSt) (v : (Nat → Int32)) : r_shaded (r_isFreed_s σ v) = r_shaded σ := rfl
theorem Rq_movedMany_isFreed (σ : RSt) (v : (Nat → Int32)) : r_movedMany (r_isFreed_s σ v) = r_movedMany σ := rfl
theorem Rq_isReached_isFreed (σ : RSt) (v : (Nat → Int32)) : r_isReached (r_isFreed_s σ v) = r_isReached σ := rfl
theorem Rq_more_isFreed (σ : RSt) (v : (Nat → Int32)) : r_more (r_isFreed_s σ v) = r_more σ := rfl
theorem Rq_manner_hasWish (σ : RSt) (v : (Nat → Int32)) : r_manner (r_hasWish_s σ v) = r_manner σ := rfl
theorem Rq_fault_hasWish (σ : RSt) (v : (Nat → Int32)) : r_fault (r_hasWish_s σ v) = r_fault σ := rfl
theorem Rq_things_hasWish (σ : RSt) (v : (Nat → Int32)) : r_things (r_hasWish_s σ v) = r_things σ := rfl
theorem Rq_many_hasWish (σ : RSt) (v : (Nat → Int32)) : r_many (r_hasWish_s σ v) = r_many σ := rfl
theorem Rq_field_hasWish (σ : RSt) (v : (Nat → Int32)) : r_field (r_hasWish_s σ v) = r_field σ := rfl
theorem Rq_place_hasWish (σ : RSt) (v : (Nat → Int32)) : r_place (r_hasWish_s σ v) = r_place σ := rfl
theorem Rq_colour_hasWish (σ : RSt) (v : (Nat → Int32)) : r_colour (r_hasWish_s σ v) = r_colour σ := rfl
theorem Rq_isFreed_hasWish (σ : RSt) (v : (Nat → Int32)) : r_isFreed (r_hasWish_s σ v) = r_isFreed σ := rfl
theorem Rq_hasWish_hasWish (σ : RSt) (v : (Nat → Int32)) : r_hasWish (r_hasWish_s σ v) = v := rfl
theorem Rq_moved_hasWish (σ : RSt) (v : (Nat → Int32)) : r_moved (r_hasWish_s σ v) = r_moved σ := rfl
theorem Rq_register_hasWish (σ : RSt) (v : (Nat → Int32)) : r_register (r_hasWish_s σ v) = r_register σ := rfl
theorem Rq_slot_hasWish (σ : RSt) (v : (Nat → Int32)) : r_slot (r_hasWish_s σ v) = r_slot σ := rfl
theorem Rq_wishes_hasWish (σ : RSt) (v : (Nat → Int32)) : r_wishes (r_hasWish_s σ v) = r_wishes σ := rfl
theorem Rq_wishAt_hasWish (σ : RSt) (v : (Nat → Int32)) : r_wishAt (r_hasWish_s σ v) = r_wishAt σ := rfl
theorem Rq_weakAt_hasWish (σ : RSt) (v : (Nat → Int32)) : r_weakAt (r_hasWish_s σ v) = r_weakAt σ := rfl
theorem Rq_pairs_hasWish (σ : RSt) (v : (Nat → Int32)) : r_pairs (r_hasWish_s σ v) = r_pairs σ := rfl
theorem Rq_key_hasWish (σ : RSt) (v : (Nat → Int32)) : r_key (r_hasWish_s σ v) = r_key σ := rfl
theorem Rq_value_hasWish (σ : RSt) (v : (Nat → Int32)) : r_value (r_hasWish_s σ v) = r_value σ := rfl
theorem Rq_isPair_hasWish (σ : RSt) (v : (Nat → Int32)) : r_isPair (r_hasWish_s σ v) = r_isPair σ := rfl
theorem Rq_half_hasWish (σ : RSt) (v : (Nat → Int32)) : r_half (r_hasWish_s σ v) = r_half σ := rfl
theorem Rq_top_hasWish (σ : RSt) (v : (Nat → Int32)) : r_top (r_hasWish_s σ v) = r_top σ := rfl
theorem Rq_way_hasWish (σ : RSt) (v : (Nat → Int32)) : r_way (r_hasWish_s σ v) = r_way σ := rfl
theorem Rq_next_hasWish (σ : RSt) (v : (Nat → Int32)) : r_next (r_hasWish_s σ v) = r_next σ := rfl
theorem Rq_freedMany_hasWish (σ : RSt) (v : (Nat → Int32)) : r_freedMany (r_hasWish_s σ v) = r_freedMany σ := rfl
theorem Rq_rounds_hasWish (σ : RSt) (v : (Nat → Int32)) : r_rounds (r_hasWish_s σ v) = r_rounds σ := rfl
theorem Rq_steps_hasWish (σ : RSt) (v : (Nat → Int32)) : r_steps (r_hasWish_s σ v) = r_steps σ := rfl
theorem Rq_shaded_hasWish (σ : RSt) (v : (Nat → Int32)) : r_shaded (r_hasWish_s σ v) = r_shaded σ := rfl
theorem Rq_movedMany_hasWish (σ : RSt) (v : (Nat → Int32)) : r_movedMany (r_hasWish_s σ v) = r_movedMany σ := rfl
theorem Rq_isReached_hasWish (σ : RSt) (v : (Nat → Int32)) : r_isReached (r_hasWish_s σ v) = r_isReached σ := rfl
theorem Rq_more_hasWish (σ : RSt) (v : (Nat → Int32)) : r_more (r_hasWish_s σ v) = r_more σ := rfl
theorem Rq_manner_moved (σ : RSt) (v : (Nat → Int32)) : r_manner (r_moved_s σ v) = r_manner σ := rfl
theorem Rq_fault_moved (σ : RSt) (v : (Nat → Int32)) : r_fault (r_moved_s σ v) = r_fault σ := rfl
theorem Rq_things_moved (σ : RSt) (v : (Nat → Int32)) : r_things (r_moved_s σ v) = r_things σ := rfl
theorem Rq_many_moved (σ : RSt) (v : (Nat → Int32)) : r_many (r_moved_s σ v) = r_many σ := rfl
theorem Rq_field_moved (σ : RSt) (v : (Nat → Int32)) : r_field (r_moved_s σ v) = r_field σ := rfl
theorem Rq_place_moved (σ : RSt) (v : (Nat → Int32)) : r_place (r_moved_s σ v) = r_place σ := rfl
theorem Rq_colour_moved (σ : RSt) (v : (Nat → Int32)) : r_colour (r_moved_s σ v) = r_colour σ := rfl
theorem Rq_isFreed_moved (σ : RSt) (v : (Nat → Int32)) : r_isFreed (r_moved_s σ v) = r_isFreed σ := rfl
theorem Rq_hasWish_moved (σ : RSt) (v : (Nat → Int32)) : r_hasWish (r_moved_s σ v) = r_hasWish σ := rfl
theorem Rq_moved_moved (σ : RSt) (v : (Nat → Int32)) : r_moved (r_moved_s σ v) = v := rfl
theorem Rq_register_moved (σ : RSt) (v : (Nat → Int32)) : r_register (r_moved_s σ v) = r_register σ := rfl
theorem Rq_slot_moved (σ : RSt) (v : (Nat → Int32)) : r_slot (r_moved_s σ v) = r_slot σ := rfl
theorem Rq_wishes_moved (σ : RSt) (v : (Nat → Int32)) : r_wishes (r_moved_s σ v) = r_wishes σ := rfl
theorem Rq_wishAt_moved (σ : RSt) (v : (Nat → Int32)) : r_wishAt (r_moved_s σ v) = r_wishAt σ := rfl
theorem Rq_weakAt_moved (σ : RSt) (v : (Nat → Int32)) : r_weakAt (r_moved_s σ v) = r_weakAt σ := rfl
theorem Rq_pairs_moved (σ : RSt) (v : (Nat → Int32)) : r_pairs (r_moved_s σ v) = r_pairs σ := rfl
theorem Rq_key_moved (σ : RSt) (v : (Nat → Int32)) : r_key (r_moved_s σ v) = r_key σ := rfl
theorem Rq_value_moved (σ : RSt) (v : (Nat → Int32)) : r_value (r_moved_s σ v) = r_value σ := rfl
theorem Rq_isPair_moved (σ : RSt) (v : (Nat → Int32)) : r_isPair (r_moved_s σ v) = r_isPair σ := rfl
theorem Rq_half_moved (σ : RSt) (v : (Nat → Int32)) : r_half (r_moved_s σ v) = r_half σ := rfl
theorem Rq_top_moved (σ : RSt) (v : (Nat → Int32)) : r_top (r_moved_s σ v) = r_top σ := rfl
theorem Rq_way_moved (σ : RSt) (v : (Nat → Int32)) : r_way (r_moved_s σ v) = r_way σ := rfl
theorem Rq_next_moved (σ : RSt) (v : (Nat → Int32)) : r_next (r_moved_s σ v) = r_next σ := rfl
theorem Rq_freedMany_moved (σ : RSt) (v : (Nat → Int32)) : r_freedMany (r_moved_s σ v) = r_freedMany σ := rfl
theorem Rq_rounds_moved (σ : RSt) (v : (Nat → Int32)) : r_rounds (r_moved_s σ v) = r_rounds σ := rfl
theorem Rq_steps_moved (σ : RSt) (v : (Nat → Int32)) : r_steps (r_moved_s σ v) = r_steps σ := rfl
theorem Rq_shaded_moved (σ : RSt) (v : (Nat → Int32)) : r_shaded (r_moved_s σ v) = r_shaded σ := rfl
theorem Rq_movedMany_moved (σ : RSt) (v : (Nat → Int32)) : r_movedMany (r_moved_s σ v) = r_movedMany σ := rfl
theorem Rq_isReached_moved (σ : RSt) (v : (Nat → Int32)) : r_isReached (r_moved_s σ v) = r_isReached σ := rfl
theorem Rq_more_moved (σ : RSt) (v : (Nat → Int32)) : r_more (r_moved_s σ v) = r_more σ := rfl
theorem Rq_manner_register (σ : RSt) (v : (Nat → Int32)) : r_manner (r_register_s σ v) = r_manner σ := rfl
theorem Rq_fault_register (σ : RSt) (v : (Nat → Int32)) : r_fault (r_register_s σ v) = r_fault σ := rfl
theorem Rq_things_register (σ : RSt) (v : (Nat → Int32)) : r_things (r_register_s σ v) = r_things σ := rfl
theorem Rq_many_register (σ : RSt) (v : (Nat → Int32)) : r_many (r_register_s σ v) = r_many σ := rfl
theorem Rq_field_register (σ : RSt) (v : (Nat → Int32)) : r_field (r_register_s σ v) = r_field σ := rfl
theorem Rq_place_register (σ : RSt) (v : (Nat → Int32)) : r_place (r_register_s σ v) = r_place σ := rfl
theorem Rq_colour_register (σ : RSt) (v : (Nat → Int32)) : r_colour (r_register_s σ v) = r_colour σ := rfl
theorem Rq_isFreed_register (σ : RSt) (v : (Nat → Int32)) : r_isFreed (r_register_s σ v) = r_isFreed σ := rfl
theorem Rq_hasWish_register (σ : RSt) (v : (Nat → Int32)) : r_hasWish (r_register_s σ v) = r_hasWish σ := rfl
theorem Rq_moved_register (σ : RSt) (v : (Nat → Int32)) : r_moved (r_register_s σ v) = r_moved σ := rfl
theorem Rq_register_register (σ : RSt) (v : (Nat → Int32)) : r_register (r_register_s σ v) = v := rfl
theorem Rq_slot_register (σ : RSt) (v : (Nat → Int32)) : r_slot (r_register_s σ v) = r_slot σ := rfl
theorem Rq_wishes_register (σ : RSt) (v : (Nat → Int32)) : r_wishes (r_register_s σ v) = r_wishes σ := rfl
theorem Rq_wishAt_register (σ : RSt) (v : (Nat → Int32)) : r_wishAt (r_register_s σ v) = r_wishAt σ := rfl
theorem Rq_weakAt_register (σ : RSt) (v : (Nat → Int32)) : r_weakAt (r_register_s σ v) = r_weakAt σ := rfl
theorem Rq_pairs_register (σ : RSt) (v : (Nat → Int32)) : r_pairs (r_register_s σ v) = r_pairs σ := rfl
theorem Rq_key_register (σ : RSt) (v : (Nat → Int32)) : r_key (r_register_s σ v) = r_key σ := rfl
theorem Rq_value_register (σ : RSt) (v : (Nat → Int32)) : r_value (r_register_s σ v) = r_value σ := rfl
theorem Rq_isPair_register (σ : RSt) (v : (Nat → Int32)) : r_isPair (r_register_s σ v) = r_isPair σ := rfl
theorem Rq_half_register (σ : RSt) (v : (Nat → Int32)) : r_half (r_register_s σ v) = r_half σ := rfl
theorem Rq_top_register (σ : RSt) (v : (Nat → Int32)) : r_top (r_register_s σ v) = r_top σ := rfl
theorem Rq_way_register (σ : RSt) (v : (Nat → Int32)) : r_way (r_register_s σ v) = r_way σ := rfl
theorem Rq_next_register (σ : RSt) (v : (Nat → Int32)) : r_next (r_register_s σ v) = r_next σ := rfl
theorem Rq_freedMany_register (σ : RSt) (v : (Nat → Int32)) : r_freedMany (r_register_s σ v) = r_freedMany σ := rfl
theorem Rq_rounds_register (σ : RSt) (v : (Nat → Int32)) : r_rounds (r_register_s σ v) = r_rounds σ := rfl
theorem Rq_steps_register (σ : RSt) (v : (Nat → Int32)) : r_steps (r_register_s σ v) = r_steps σ := rfl
theorem Rq_shaded_register (σ : RSt) (v : (Nat → Int32)) : r_shaded (r_register_s σ v) = r_shaded σ := rfl
theorem Rq_movedMany_register (σ : RSt) (v : (Nat → Int32)) : r_movedMany (r_register_s σ v) = r_movedMany σ := rfl
theorem Rq_isReached_register (σ : RSt) (v : (Nat → Int32)) : r_isReached (r_register_s σ v) = r_isReached σ := rfl
theorem Rq_more_register (σ : RSt) (v : (Nat → Int32)) : r_more (r_register_s σ v) = r_more σ := rfl
theorem Rq_manner_slot (σ : RSt) (v : (Nat → Int32)) : r_manner (r_slot_s σ v) = r_manner σ := rfl
theorem Rq_fault_slot (σ : RSt) (v : (Nat → Int32)) : r_fault (r_slot_s σ v) = r_fault σ := rfl
theorem Rq_things_slot (σ : RSt) (v : (Nat → Int32)) : r_things (r_slot_s σ v) = r_things σ := rfl
theorem Rq_many_slot (σ : RSt) (v : (Nat → Int32)) : r_many (r_slot_s σ v) = r_many σ := rfl
theorem Rq_field_slot (σ : RSt) (v : (Nat → Int32)) : r_field (r_slot_s σ v) = r_field σ := rfl
theorem Rq_place_slot (σ : RSt) (v : (Nat → Int32)) : r_place (r_slot_s σ v) = r_place σ := rfl
theorem Rq_colour_slot (σ : RSt) (v : (Nat → Int32)) : r_colour (r_slot_s σ v) = r_colour σ := rfl
theorem Rq_isFreed_slot (σ : RSt) (v : (Nat → Int32)) : r_isFreed (r_slot_s σ v) = r_isFreed σ := rfl
theorem Rq_hasWish_slot (σ : RSt) (v : (Nat → Int32)) : r_hasWish (r_slot_s σ v) = r_hasWish σ := rfl
theorem Rq_moved_slot (σ : RSt) (v : (Nat → Int32)) : r_moved (r_slot_s σ v) = r_moved σ := rfl
theorem Rq_register_slot (σ : RSt) (v : (Nat → Int32)) : r_register (r_slot_s σ v) = r_register σ := rfl
theorem Rq_slot_slot (σ : RSt) (v : (Nat → Int32)) : r_slot (r_slot_s σ v) = v := rfl
theorem Rq_wishes_slot (σ : RSt) (v : (Nat → Int32)) : r_wishes (r_slot_s σ v) = r_wishes σ := rfl
theorem Rq_wishAt_slot (σ : RSt) (v : (Nat → Int32)) : r_wishAt (r_slot_s σ v) = r_wishAt σ := rfl
theorem Rq_weakAt_slot (σ : RSt) (v : (Nat → Int32)) : r_weakAt (r_slot_s σ v) = r_weakAt σ := rfl
theorem Rq_pairs_slot (σ : RSt) (v : (Nat → Int32)) : r_pairs (r_slot_s σ v) = r_pairs σ := rfl
theorem Rq_key_slot (σ : RSt) (v : (Nat → Int32)) : r_key (r_slot_s σ v) = r_key σ := rfl
theorem Rq_value_slot (σ : RSt) (v : (Nat → Int32)) : r_value (r_slot_s σ v) = r_value σ := rfl
theorem Rq_isPair_slot (σ : RSt) (v : (Nat → Int32)) : r_isPair (r_slot_s σ v) = r_isPair σ := rfl
theorem Rq_half_slot (σ : RSt) (v : (Nat → Int32)) : r_half (r_slot_s σ v) = r_half σ := rfl
theorem Rq_top_slot (σ : RSt) (v : (Nat → Int32)) : r_top (r_slot_s σ v) = r_top σ := rfl
theorem Rq_way_slot (σ : RSt) (v : (Nat → Int32)) : r_way (r_slot_s σ v) = r_way σ := rfl
theorem Rq_next_slot (σ : RSt) (v : (Nat → Int32)) : r_next (r_slot_s σ v) = r_next σ := rfl
theorem Rq_freedMany_slot (σ : RSt) (v : (Nat → Int32)) : r_freedMany (r_slot_s σ v) = r_freedMany σ := rfl
theorem Rq_rounds_slot (σ : RSt) (v : (Nat → Int32)) : r_rounds (r_slot_s σ v) = r_rounds σ := rfl
theorem Rq_steps_slot (σ : RSt) (v : (Nat → Int32)) : r_steps (r_slot_s σ v) = r_steps σ := rfl
theorem Rq_shaded_slot (σ : RSt) (v : (Nat → Int32)) : r_shaded (r_slot_s σ v) = r_shaded σ := rfl
theorem Rq_movedMany_slot (σ : RSt) (v : (Nat → Int32)) : r_movedMany (r_slot_s σ v) = r_movedMany σ := rfl
theorem Rq_isReached_slot (σ : RSt) (v : (Nat → Int32)) : r_isReached (r_slot_s σ v) = r_isReached σ := rfl
theorem Rq_more_slot (σ : RSt) (v : (Nat → Int32)) : r_more (r_slot_s σ v) = r_more σ := rfl
theorem Rq_manner_wishes (σ : RSt) (v : Int32) : r_manner (r_wishes_s σ v) = r_manner σ := rfl
theorem Rq_fault_wishes (σ : RSt) (v : Int32) : r_fault (r_wishes_s σ v) = r_fault σ := rfl
theorem Rq_things_wishes (σ : RSt) (v : Int32) : r_things (r_wishes_s σ v) = r_things σ := rfl
theorem Rq_many_wishes (σ : RSt) (v : Int32) : r_many (r_wishes_s σ v) = r_many σ := rfl
theorem Rq_field_wishes (σ : RSt) (v : Int32) : r_field (r_wishes_s σ v) = r_field σ := rfl
theorem Rq_place_wishes (σ : RSt) (v : Int32) : r_place (r_wishes_s σ v) = r_place σ := rfl
theorem Rq_colour_wishes (σ : RSt) (v : Int32) : r_colour (r_wishes_s σ v) = r_colour σ := rfl
theorem Rq_isFreed_wishes (σ : RSt) (v : Int32) : r_isFreed (r_wishes_s σ v) = r_isFreed σ := rfl
theorem Rq_hasWish_wishes (σ : RSt) (v : Int32) : r_hasWish (r_wishes_s σ v) = r_hasWish σ := rfl
theorem Rq_moved_wishes (σ : RSt) (v : Int32) : r_moved (r_wishes_s σ v) = r_moved σ := rfl
theorem Rq_register_wishes (σ : RSt) (v : Int32) : r_register (r_wishes_s σ v) = r_register σ := rfl
theorem Rq_slot_wishes (σ : RSt) (v : Int32) : r_slot (r_wishes_s σ v) = r_slot σ := rfl
theorem Rq_wishes_wishes (σ : RSt) (v : Int32) : r_wishes (r_wishes_s σ v) = v := rfl
theorem Rq_wishAt_wishes (σ : RSt) (v : Int32) : r_wishAt (r_wishes_s σ v) = r_wishAt σ := rfl
theorem Rq_weakAt_wishes (σ : RSt) (v : Int32) : r_weakAt (r_wishes_s σ v) = r_weakAt σ := rfl
theorem Rq_pairs_wishes (σ : RSt) (v : Int32) : r_pairs (r_wishes_s σ v) = r_pairs σ := rfl
theorem Rq_key_wishes (σ : RSt) (v : Int32) : r_key (r_wishes_s σ v) = r_key σ := rfl
theorem Rq_value_wishes (σ : RSt) (v : Int32) : r_value (r_wishes_s σ v) = r_value σ := rfl
theorem Rq_isPair_wishes (σ : RSt) (v : Int32) : r_isPair (r_wishes_s σ v) = r_isPair σ := rfl
theorem Rq_half_wishes (σ : RSt) (v : Int32) : r_half (r_wishes_s σ v) = r_half σ := rfl
theorem Rq_top_wishes (σ : RSt) (v : Int32) : r_top (r_wishes_s σ v) = r_top σ := rfl
theorem Rq_way_wishes (σ : RSt) (v : Int32) : r_way (r_wishes_s σ v) = r_way σ := rfl
theorem Rq_next_wishes (σ : RSt) (v : Int32) : r_next (r_wishes_s σ v) = r_next σ := rfl
theorem Rq_freedMany_wishes (σ : RSt) (v : Int32) : r_freedMany (r_wishes_s σ v) = r_freedMany σ := rfl
theorem Rq_rounds_wishes (σ : RSt) (v : Int32) : r_rounds (r_wishes_s σ v) = r_rounds σ := rfl
theorem Rq_steps_wishes (σ : RSt) (v : Int32) : r_steps (r_wishes_s σ v) = r_steps σ := rfl
theorem Rq_shaded_wishes (σ : RSt) (v : Int32) : r_shaded (r_wishes_s σ v) = r_shaded σ := rfl
theorem Rq_movedMany_wishes (σ : RSt) (v : Int32) : r_movedMany (r_wishes_s σ v) = r_movedMany σ := rfl
theorem Rq_isReached_wishes (σ : RSt) (v : Int32) : r_isReached (r_wishes_s σ v) = r_isReached σ := rfl
theorem Rq_more_wishes (σ : RSt) (v : Int32) : r_more (r_wishes_s σ v) = r_more σ := rfl
theorem Rq_manner_wishAt (σ : RSt) (v : (Nat → Int32)) : r_manner (r_wishAt_s σ v) = r_manner σ := rfl
theorem Rq_fault_wishAt (σ : RSt) (v : (Nat → Int32)) : r_fault (r_wishAt_s σ v) = r_fault σ := rfl
theorem Rq_things_wishAt (σ : RSt) (v : (Nat → Int32)) : r_things (r_wishAt_s σ v) = r_things σ := rfl
theorem Rq_many_wishAt (σ : RSt) (v : (Nat → Int32)) : r_many (r_wishAt_s σ v) = r_many σ := rfl
theorem Rq_field_wishAt (σ : RSt) (v : (Nat → Int32)) : r_field (r_wishAt_s σ v) = r_field σ := rfl
theorem Rq_place_wishAt (σ : RSt) (v : (Nat → Int32)) : r_place (r_wishAt_s σ v) = r_place σ := rfl
theorem Rq_colour_wishAt (σ : RSt) (v : (Nat → Int32)) : r_colour (r_wishAt_s σ v) = r_colour σ := rfl
theorem Rq_isFreed_wishAt (σ : RSt) (v : (Nat → Int32)) : r_isFreed (r_wishAt_s σ v) = r_isFreed σ := rfl
theorem Rq_hasWish_wishAt (σ : RSt) (v : (Nat → Int32)) : r_hasWish (r_wishAt_s σ v) = r_hasWish σ := rfl
theorem Rq_moved_wishAt (σ : RSt) (v : (Nat → Int32)) : r_moved (r_wishAt_s σ v) = r_moved σ := rfl
theorem Rq_register_wishAt (σ : RSt) (v : (Nat → Int32)) : r_register (r_wishAt_s σ v) = r_register σ := rfl
theorem Rq_slot_wishAt (σ : RSt) (v : (Nat → Int32)) : r_slot (r_wishAt_s σ v) = r_slot σ := rfl
theorem Rq_wishes_wishAt (σ : RSt) (v : (Nat → Int32)) : r_wishes (r_wishAt_s σ v) = r_wishes σ := rfl
theorem Rq_wishAt_wishAt (σ : RSt) (v : (Nat → Int32)) : r_wishAt (r_wishAt_s σ v) = v := rfl
theorem Rq_weakAt_wishAt (σ : RSt) (v : (Nat → Int32)) : r_weakAt (r_wishAt_s σ v) = r_weakAt σ := rfl
theorem Rq_pairs_wishAt (σ : RSt) (v : (Nat → Int32)) : r_pairs (r_wishAt_s σ v) = r_pairs σ := rfl
theorem Rq_key_wishAt (σ : RSt) (v : (Nat → Int32)) : r_key (r_wishAt_s σ v) = r_key σ := rfl
theorem Rq_value_wishAt (σ : RSt) (v : (Nat → Int32)) : r_value (r_wishAt_s σ v) = r_value σ := rfl
theorem Rq_isPair_wishAt (σ : RSt) (v : (Nat → Int32)) : r_isPair (r_wishAt_s σ v) = r_isPair σ := rfl
theorem Rq_half_wishAt (σ : RSt) (v : (Nat → Int32)) : r_half (r_wishAt_s σ v) = r_half σ := rfl
theorem Rq_top_wishAt (σ : RSt) (v : (Nat → Int32)) : r_top (r_wishAt_s σ v) = r_top σ := rfl
theorem Rq_way_wishAt (σ : RSt) (v : (Nat → Int32)) : r_way (r_wishAt_s σ v) = r_way σ := rfl
theorem Rq_next_wishAt (σ : RSt) (v : (Nat → Int32)) : r_next (r_wishAt_s σ v) = r_next σ := rfl
theorem Rq_freedMany_wishAt (σ : RSt) (v : (Nat → Int32)) : r_freedMany (r_wishAt_s σ v) = r_freedMany σ := rfl
theorem Rq_rounds_wishAt (σ : RSt) (v : (Nat → Int32)) : r_rounds (r_wishAt_s σ v) = r_rounds σ := rfl
theorem Rq_steps_wishAt (σ : RSt) (v : (Nat → Int32)) : r_steps (r_wishAt_s σ v) = r_steps σ := rfl
theorem Rq_shaded_wishAt (σ : RSt) (v : (Nat → Int32)) : r_shaded (r_wishAt_s σ v) = r_shaded σ := rfl
theorem Rq_movedMany_wishAt (σ : RSt) (v : (Nat → Int32)) : r_movedMany (r_wishAt_s σ v) = r_movedMany σ := rfl
theorem Rq_isReached_wishAt (σ : RSt) (v : (Nat → Int32)) : r_isReached (r_wishAt_s σ v) = r_isReached σ := rfl
theorem Rq_more_wishAt (σ : RSt) (v : (Nat → Int32)) : r_more (r_wishAt_s σ v) = r_more σ := rfl
theorem Rq_manner_weakAt (σ : RSt) (v : (Nat → Int32)) : r_manner (r_weakAt_s σ v) = r_manner σ := rfl
theorem Rq_fault_weakAt (σ : RSt) (v : (Nat → Int32)) : r_fault (r_weakAt_s σ v) = r_fault σ := rfl
theorem Rq_things_weakAt (σ : RSt) (v : (Nat → Int32)) : r_things (r_weakAt_s σ v) = r_things σ := rfl
theorem Rq_many_weakAt (σ : RSt) (v : (Nat → Int32)) : r_many (r_weakAt_s σ v) = r_many σ := rfl
theorem Rq_field_weakAt (σ : RSt) (v : (Nat → Int32)) : r_field (r_weakAt_s σ v) = r_field σ := rfl
theorem Rq_place_weakAt (σ : RSt) (v : (Nat → Int32)) : r_place (r_weakAt_s σ v) = r_place σ := rfl
theorem Rq_colour_weakAt (σ : RSt) (v : (Nat → Int32)) : r_colour (r_weakAt_s σ v) = r_colour σ := rfl
theorem Rq_isFreed_weakAt (σ : RSt) (v : (Nat → Int32)) : r_isFreed (r_weakAt_s σ v) = r_isFreed σ := rfl
theorem Rq_hasWish_weakAt (σ : RSt) (v : (Nat → Int32)) : r_hasWish (r_weakAt_s σ v) = r_hasWish σ := rfl
theorem Rq_moved_weakAt (σ : RSt) (v : (Nat → Int32)) : r_moved (r_weakAt_s σ v) = r_moved σ := rfl
theorem Rq_register_weakAt (σ : RSt) (v : (Nat → Int32)) : r_register (r_weakAt_s σ v) = r_register σ := rfl
theorem Rq_slot_weakAt (σ : RSt) (v : (Nat → Int32)) : r_slot (r_weakAt_s σ v) = r_slot σ := rfl
theorem Rq_wishes_weakAt (σ : RSt) (v : (Nat → Int32)) : r_wishes (r_weakAt_s σ v) = r_wishes σ := rfl
theorem Rq_wishAt_weakAt (σ : RSt) (v : (Nat → Int32)) : r_wishAt (r_weakAt_s σ v) = r_wishAt σ := rfl
theorem Rq_weakAt_weakAt (σ : RSt) (v : (Nat → Int32)) : r_weakAt (r_weakAt_s σ v) = v := rfl
theorem Rq_pairs_weakAt (σ : RSt) (v : (Nat → Int32)) : r_pairs (r_weakAt_s σ v) = r_pairs σ := rfl
theorem Rq_key_weakAt (σ : RSt) (v : (Nat → Int32)) : r_key (r_weakAt_s σ v) = r_key σ := rfl
theorem Rq_value_weakAt (σ : RSt) (v : (Nat → Int32)) : r_value (r_weakAt_s σ v) = r_value σ := rfl
theorem Rq_isPair_weakAt (σ : RSt) (v : (Nat → Int32)) : r_isPair (r_weakAt_s σ v) = r_isPair σ := rfl
theorem Rq_half_weakAt (σ : RSt) (v : (Nat → Int32)) : r_half (r_weakAt_s σ v) = r_half σ := rfl
theorem Rq_top_weakAt (σ : RSt) (v : (Nat → Int32)) : r_top (r_weakAt_s σ v) = r_top σ := rfl
theorem Rq_way_weakAt (σ : RSt) (v : (Nat → Int32)) : r_way (r_weakAt_s σ v) = r_way σ := rfl
theorem Rq_next_weakAt (σ : RSt) (v : (Nat → Int32)) : r_next (r_weakAt_s σ v) = r_next σ := rfl
theorem Rq_freedMany_weakAt (σ : RSt) (v : (Nat → Int32)) : r_freedMany (r_weakAt_s σ v) = r_freedMany σ := rfl
theorem Rq_rounds_weakAt (σ : RSt) (v : (Nat → Int32)) : r_rounds (r_weakAt_s σ v) = r_rounds σ := rfl
theorem Rq_steps_weakAt (σ : RSt) (v : (Nat → Int32)) : r_steps (r_weakAt_s σ v) = r_steps σ := rfl
theorem Rq_shaded_weakAt (σ : RSt) (v : (Nat → Int32)) : r_shaded (r_weakAt_s σ v) = r_shaded σ := rfl
theorem Rq_movedMany_weakAt (σ : RSt) (v : (Nat → Int32)) : r_movedMany (r_weakAt_s σ v) = r_movedMany σ := rfl
theorem Rq_isReached_weakAt (σ : RSt) (v : (Nat → Int32)) : r_isReached (r_weakAt_s σ v) = r_isReached σ := rfl
theorem Rq_more_weakAt (σ : RSt) (v : (Nat → Int32)) : r_more (r_weakAt_s σ v) = r_more σ := rfl
theorem Rq_manner_pairs (σ : RSt) (v : Int32) : r_manner (r_pairs_s σ v) = r_manner σ := rfl
theorem Rq_fault_pairs (σ : RSt) (v : Int32) : r_fault (r_pairs_s σ v) = r_fault σ := rfl
theorem Rq_things_pairs (σ : RSt) (v : Int32) : r_things (r_pairs_s σ v) = r_things σ := rfl
theorem Rq_many_pairs (σ : RSt) (v : Int32) : r_many (r_pairs_s σ v) = r_many σ := rfl
theorem Rq_field_pairs (σ : RSt) (v : Int32) : r_field (r_pairs_s σ v) = r_field σ := rfl
theorem Rq_place_pairs (σ : RSt) (v : Int32) : r_place (r_pairs_s σ v) = r_place σ := rfl
theorem Rq_colour_pairs (σ : RSt) (v : Int32) : r_colour (r_pairs_s σ v) = r_colour σ := rfl
theorem Rq_isFreed_pairs (σ : RSt) (v : Int32) : r_isFreed (r_pairs_s σ v) = r_isFreed σ := rfl
theorem Rq_hasWish_pairs (σ : RSt) (v : Int32) : r_hasWish (r_pairs_s σ v) = r_hasWish σ := rfl
theorem Rq_moved_pairs (σ : RSt) (v : Int32) : r_moved (r_pairs_s σ v) = r_moved σ := rfl
theorem Rq_register_pairs (σ : RSt) (v : Int32) : r_register (r_pairs_s σ v) = r_register σ := rfl
theorem Rq_slot_pairs (σ : RSt) (v : Int32) : r_slot (r_pairs_s σ v) = r_slot σ := rfl
theorem Rq_wishes_pairs (σ : RSt) (v : Int32) : r_wishes (r_pairs_s σ v) = r_wishes σ := rfl
theorem Rq_wishAt_pairs (σ : RSt) (v : Int32) : r_wishAt (r_pairs_s σ v) = r_wishAt σ := rfl
theorem Rq_weakAt_pairs (σ : RSt) (v : Int32) : r_weakAt (r_pairs_s σ v) = r_weakAt σ := rfl
theorem Rq_pairs_pairs (σ : RSt) (v : Int32) : r_pairs (r_pairs_s σ v) = v := rfl
theorem Rq_key_pairs (σ : RSt) (v : Int32) : r_key (r_pairs_s σ v) = r_key σ := rfl
theorem Rq_value_pairs (σ : RSt) (v : Int32) : r_value (r_pairs_s σ v) = r_value σ := rfl
theorem Rq_isPair_pairs (σ : RSt) (v : Int32) : r_isPair (r_pairs_s σ v) = r_isPair σ := rfl
theorem Rq_half_pairs (σ : RSt) (v : Int32) : r_half (r_pairs_s σ v) = r_half σ := rfl
theorem Rq_top_pairs (σ : RSt) (v : Int32) : r_top (r_pairs_s σ v) = r_top σ := rfl
theorem Rq_way_pairs (σ : RSt) (v : Int32) : r_way (r_pairs_s σ v) = r_way σ := rfl
theorem Rq_next_pairs (σ : RSt) (v : Int32) : r_next (r_pairs_s σ v) = r_next σ := rfl
theorem Rq_freedMany_pairs (σ : RSt) (v : Int32) : r_freedMany (r_pairs_s σ v) = r_freedMany σ := rfl
theorem Rq_rounds_pairs (σ : RSt) (v : Int32) : r_rounds (r_pairs_s σ v) = r_rounds σ := rfl
theorem Rq_steps_pairs (σ : RSt) (v : Int32) : r_steps (r_pairs_s σ v) = r_steps σ := rfl
theorem Rq_shaded_pairs (σ : RSt) (v : Int32) : r_shaded (r_pairs_s σ v) = r_shaded σ := rfl
theorem Rq_movedMany_pairs (σ : RSt) (v : Int32) : r_movedMany (r_pairs_s σ v) = r_movedMany σ := rfl
theorem Rq_isReached_pairs (σ : RSt) (v : Int32) : r_isReached (r_pairs_s σ v) = r_isReached σ := rfl
theorem Rq_more_pairs (σ : RSt) (v : Int32) : r_more (r_pairs_s σ v) = r_more σ := rfl
theorem Rq_manner_key (σ : RSt) (v : (Nat → Int32)) : r_manner (r_key_s σ v) = r_manner σ := rfl
theorem Rq_fault_key (σ : RSt) (v : (Nat → Int32)) : r_fault (r_key_s σ v) = r_fault σ := rfl
theorem Rq_things_key (σ : RSt) (v : (Nat → Int32)) : r_things (r_key_s σ v) = r_things σ := rfl
theorem Rq_many_key (σ : RSt) (v : (Nat → Int32)) : r_many (r_key_s σ v) = r_many σ := rfl
theorem Rq_field_key (σ : RSt) (v : (Nat → Int32)) : r_field (r_key_s σ v) = r_field σ := rfl
theorem Rq_place_key (σ : RSt) (v : (Nat → Int32)) : r_place (r_key_s σ v) = r_place σ := rfl
theorem Rq_colour_key (σ : RSt) (v : (Nat → Int32)) : r_colour (r_key_s σ v) = r_colour σ := rfl
theorem Rq_isFreed_key (σ : RSt) (v : (Nat → Int32)) : r_isFreed (r_key_s σ v) = r_isFreed σ := rfl
theorem Rq_hasWish_key (σ : RSt) (v : (Nat → Int32)) : r_hasWish (r_key_s σ v) = r_hasWish σ := rfl
theorem Rq_moved_key (σ : RSt) (v : (Nat → Int32)) : r_moved (r_key_s σ v) = r_moved σ := rfl
theorem Rq_register_key (σ : RSt) (v : (Nat → Int32)) : r_register (r_key_s σ v) = r_register σ := rfl
theorem Rq_slot_key (σ : RSt) (v : (Nat → Int32)) : r_slot (r_key_s σ v) = r_slot σ := rfl
theorem Rq_wishes_key (σ : RSt) (v : (Nat → Int32)) : r_wishes (r_key_s σ v) = r_wishes σ := rfl
theorem Rq_wishAt_key (σ : RSt) (v : (Nat → Int32)) : r_wishAt (r_key_s σ v) = r_wishAt σ := rfl
theorem Rq_weakAt_key (σ : RSt) (v : (Nat → Int32)) : r_weakAt (r_key_s σ v) = r_weakAt σ := rfl
theorem Rq_pairs_key (σ : RSt) (v : (Nat → Int32)) : r_pairs (r_key_s σ v) = r_pairs σ := rfl
theorem Rq_key_key (σ : RSt) (v : (Nat → Int32)) : r_key (r_key_s σ v) = v := rfl
theorem Rq_value_key (σ : RSt) (v : (Nat → Int32)) : r_value (r_key_s σ v) = r_value σ := rfl
theorem Rq_isPair_key (σ : RSt) (v : (Nat → Int32)) : r_isPair (r_key_s σ v) = r_isPair σ := rfl
theorem Rq_half_key (σ : RSt) (v : (Nat → Int32)) : r_half (r_key_s σ v) = r_half σ := rfl
theorem Rq_top_key (σ : RSt) (v : (Nat → Int32)) : r_top (r_key_s σ v) = r_top σ := rfl
theorem Rq_way_key (σ : RSt) (v : (Nat → Int32)) : r_way (r_key_s σ v) = r_way σ := rfl
theorem Rq_next_key (σ : RSt) (v : (Nat → Int32)) : r_next (r_key_s σ v) = r_next σ := rfl
theorem Rq_freedMany_key (σ : RSt) (v : (Nat → Int32)) : r_freedMany (r_key_s σ v) = r_freedMany σ := rfl
theorem Rq_rounds_key (σ : RSt) (v : (Nat → Int32)) : r_rounds (r_key_s σ v) = r_rounds σ := rfl
theorem Rq_steps_key (σ : RSt) (v : (Nat → Int32)) : r_steps (r_key_s σ v) = r_steps σ := rfl
theorem Rq_shaded_key (σ : RSt) (v : (Nat → Int32)) : r_shaded (r_key_s σ v) = r_shaded σ := rfl
theorem Rq_movedMany_key (σ : RSt) (v : (Nat → Int32)) : r_movedMany (r_key_s σ v) = r_movedMany σ := rfl
theorem Rq_isReached_key (σ : RSt) (v : (Nat → Int32)) : r_isReached (r_key_s σ v) = r_isReached σ := rfl
theorem Rq_more_key (σ : RSt) (v : (Nat → Int32)) : r_more (r_key_s σ v) = r_more σ := rfl
theorem Rq_manner_value (σ : RSt) (v : (Nat → Int32)) : r_manner (r_value_s σ v) = r_manner σ := rfl
theorem Rq_fault_value (σ : RSt) (v : (Nat → Int32)) : r_fault (r_value_s σ v) = r_fault σ := rfl
theorem Rq_things_value (σ : RSt) (v : (Nat → Int32)) : r_things (r_value_s σ v) = r_things σ := rfl
theorem Rq_many_value (σ : RSt) (v : (Nat → Int32)) : r_many (r_value_s σ v) = r_many σ := rfl
theorem Rq_field_value (σ : RSt) (v : (Nat → Int32)) : r_field (r_value_s σ v) = r_field σ := rfl
theorem Rq_place_value (σ : RSt) (v : (Nat → Int32)) : r_place (r_value_s σ v) = r_place σ := rfl
theorem Rq_colour_value (σ : RSt) (v : (Nat → Int32)) : r_colour (r_value_s σ v) = r_colour σ := rfl
theorem Rq_isFreed_value (σ : RSt) (v : (Nat → Int32)) : r_isFreed (r_value_s σ v) = r_isFreed σ := rfl
theorem Rq_hasWish_value (σ : RSt) (v : (Nat → Int32)) : r_hasWish (r_value_s σ v) = r_hasWish σ := rfl
theorem Rq_moved_value (σ : RSt) (v : (Nat → Int32)) : r_moved (r_value_s σ v) = r_moved σ := rfl
theorem Rq_register_value (σ : RSt) (v : (Nat → Int32)) : r_register (r_value_s σ v) = r_register σ := rfl
theorem Rq_slot_value (σ : RSt) (v : (Nat → Int32)) : r_slot (r_value_s σ v) = r_slot σ := rfl
theorem Rq_wishes_value (σ : RSt) (v : (Nat → Int32)) : r_wishes (r_value_s σ v) = r_wishes σ := rfl
theorem Rq_wishAt_value (σ : RSt) (v : (Nat → Int32)) : r_wishAt (r_value_s σ v) = r_wishAt σ := rfl
theorem Rq_weakAt_value (σ : RSt) (v : (Nat → Int32)) : r_weakAt (r_value_s σ v) = r_weakAt σ := rfl
theorem Rq_pairs_value (σ : RSt) (v : (Nat → Int32)) : r_pairs (r_value_s σ v) = r_pairs σ := rfl
theorem Rq_key_value (σ : RSt) (v : (Nat → Int32)) : r_key (r_value_s σ v) = r_key σ := rfl
theorem Rq_value_value (σ : RSt) (v : (Nat → Int32)) : r_value (r_value_s σ v) = v := rfl
theorem Rq_isPair_value (σ : RSt) (v : (Nat → Int32)) : r_isPair (r_value_s σ v) = r_isPair σ := rfl
theorem Rq_half_value (σ : RSt) (v : (Nat → Int32)) : r_half (r_value_s σ v) = r_half σ := rfl
theorem Rq_top_value (σ : RSt) (v : (Nat → Int32)) : r_top (r_value_s σ v) = r_top σ := rfl
theorem Rq_way_value (σ : RSt) (v : (Nat → Int32)) : r_way (r_value_s σ v) = r_way σ := rfl
theorem Rq_next_value (σ : RSt) (v : (Nat → Int32)) : r_next (r_value_s σ v) = r_next σ := rfl
theorem Rq_freedMany_value (σ : RSt) (v : (Nat → Int32)) : r_freedMany (r_value_s σ v) = r_freedMany σ := rfl
theorem Rq_rounds_value (σ : RSt) (v : (Nat → Int32)) : r_rounds (r_value_s σ v) = r_rounds σ := rfl
theorem Rq_steps_value (σ : RSt) (v : (Nat → Int32)) : r_steps (r_value_s σ v) = r_steps σ := rfl
theorem Rq_shaded_value (σ : RSt) (v : (Nat → Int32)) : r_shaded (r_value_s σ v) = r_shaded σ := rfl
theorem Rq_movedMany_value (σ : RSt) (v : (Nat → Int32)) : r_movedMany (r_value_s σ v) = r_movedMany σ := rfl
theorem Rq_isReached_value (σ : RSt) (v : (Nat → Int32)) : r_isReached (r_value_s σ v) = r_isReached σ := rfl
theorem Rq_more_value (σ : RSt) (v : (Nat → Int32)) : r_more (r_value_s σ v) = r_more σ := rfl
theorem Rq_manner_isPair (σ : RSt) (v : (Nat → Int32)) : r_manner (r_isPair_s σ v) = r_manner σ := rfl
theorem Rq_fault_isPair (σ : RSt) (v : (Nat → Int32)) : r_fault (r_isPair_s σ v) = r_fault σ := rfl
theorem Rq_things_isPair (σ : RSt) (v : (Nat → Int32)) : r_things (r_isPair_s σ v) = r_things σ := rfl
theorem Rq_many_isPair (σ : RSt) (v : (Nat → Int32)) : r_many (r_isPair_s σ v) = r_many σ := rfl
theorem Rq_field_isPair (σ : RSt) (v : (Nat → Int32)) : r_field (r_isPair_s σ v) = r_field σ := rfl
theorem Rq_place_isPair (σ : RSt) (v : (Nat → Int32)) : r_place (r_isPair_s σ v) = r_place σ := rfl
theorem Rq_colour_isPair (σ : RSt) (v : (Nat → Int32)) : r_colour (r_isPair_s σ v) = r_colour σ := rfl
theorem Rq_isFreed_isPair (σ : RSt) (v : (Nat → Int32)) : r_isFreed (r_isPair_s σ v) = r_isFreed σ := rfl
theorem Rq_hasWish_isPair (σ : RSt) (v : (Nat → Int32)) : r_hasWish (r_isPair_s σ v) = r_hasWish σ := rfl
theorem Rq_moved_isPair (σ : RSt) (v : (Nat → Int32)) : r_moved (r_isPair_s σ v) = r_moved σ := rfl
theorem Rq_register_isPair (σ : RSt) (v : (Nat → Int32)) : r_register (r_isPair_s σ v) = r_register σ := rfl
theorem Rq_slot_isPair (σ : RSt) (v : (Nat → Int32)) : r_slot (r_isPair_s σ v) = r_slot σ := rfl
theorem Rq_wishes_isPair (σ : RSt) (v : (Nat → Int32)) : r_wishes (r_isPair_s σ v) = r_wishes σ := rfl
theorem Rq_wishAt_isPair (σ : RSt) (v : (Nat → Int32)) : r_wishAt (r_isPair_s σ v) = r_wishAt σ := rfl
theorem Rq_weakAt_isPair (σ : RSt) (v : (Nat → Int32)) : r_weakAt (r_isPair_s σ v) = r_weakAt σ := rfl
theorem Rq_pairs_isPair (σ : RSt) (v : (Nat → Int32)) : r_pairs (r_isPair_s σ v) = r_pairs σ := rfl
theorem Rq_key_isPair (σ : RSt) (v : (Nat → Int32)) : r_key (r_isPair_s σ v) = r_key σ := rfl
theorem Rq_value_isPair (σ : RSt) (v : (Nat → Int32)) : r_value (r_isPair_s σ v) = r_value σ := rfl
theorem Rq_isPair_isPair (σ : RSt) (v : (Nat → Int32)) : r_isPair (r_isPair_s σ v) = v := rfl
theorem Rq_half_isPair (σ : RSt) (v : (Nat → Int32)) : r_half (r_isPair_s σ v) = r_half σ := rfl
theorem Rq_top_isPair (σ : RSt) (v : (Nat → Int32)) : r_top (r_isPair_s σ v) = r_top σ := rfl
theorem Rq_way_isPair (σ : RSt) (v : (Nat → Int32)) : r_way (r_isPair_s σ v) = r_way σ := rfl
theorem Rq_next_isPair (σ : RSt) (v : (Nat → Int32)) : r_next (r_isPair_s σ v) = r_next σ := rfl
theorem Rq_freedMany_isPair (σ : RSt) (v : (Nat → Int32)) : r_freedMany (r_isPair_s σ v) = r_freedMany σ := rfl
theorem Rq_rounds_isPair (σ : RSt) (v : (Nat → Int32)) : r_rounds (r_isPair_s σ v) = r_rounds σ := rfl
theorem Rq_steps_isPair (σ : RSt) (v : (Nat → Int32)) : r_steps (r_isPair_s σ v) = r_steps σ := rfl
theorem Rq_shaded_isPair (σ : RSt) (v : (Nat → Int32)) : r_shaded (r_isPair_s σ v) = r_shaded σ := rfl
theorem Rq_movedMany_isPair (σ : RSt) (v : (Nat → Int32)) : r_movedMany (r_isPair_s σ v) = r_movedMany σ := rfl
theorem Rq_isReached_isPair (σ : RSt) (v : (Nat → Int32)) : r_isReached (r_isPair_s σ v) = r_isReached σ := rfl
theorem Rq_more_isPair (σ : RSt) (v : (Nat → Int32)) : r_more (r_isPair_s σ v) = r_more σ := rfl
theorem Rq_manner_half (σ : RSt) (v : Int32) : r_manner (r_half_s σ v) = r_manner σ := rfl
theorem Rq_fault_half (σ : RSt) (v : Int32) : r_fault (r_half_s σ v) = r_fault σ := rfl
theorem Rq_things_half (σ : RSt) (v : Int32) : r_things (r_half_s σ v) = r_things σ := rfl
theorem Rq_many_half (σ : RSt) (v : Int32) : r_many (r_half_s σ v) = r_many σ := rfl
theorem Rq_field_half (σ : RSt) (v : Int32) : r_field (r_half_s σ v) = r_field σ := rfl
theorem Rq_place_half (σ : RSt) (v : Int32) : r_place (r_half_s σ v) = r_place σ := rfl
theorem Rq_colour_half (σ : RSt) (v : Int32) : r_colour (r_half_s σ v) = r_colour σ := rfl
theorem Rq_isFreed_half (σ : RSt) (v : Int32) : r_isFreed (r_half_s σ v) = r_isFreed σ := rfl
theorem Rq_hasWish_half (σ : RSt) (v : Int32) : r_hasWish (r_half_s σ v) = r_hasWish σ := rfl
theorem Rq_moved_half (σ : RSt) (v : Int32) : r_moved (r_half_s σ v) = r_moved σ := rfl
theorem Rq_register_half (σ : RSt) (v : Int32) : r_register (r_half_s σ v) = r_register σ := rfl
theorem Rq_slot_half (σ : RSt) (v : Int32) : r_slot (r_half_s σ v) = r_slot σ := rfl
theorem Rq_wishes_half (σ : RSt) (v : Int32) : r_wishes (r_half_s σ v) = r_wishes σ := rfl
theorem Rq_wishAt_half (σ : RSt) (v : Int32) : r_wishAt (r_half_s σ v) = r_wishAt σ := rfl
theorem Rq_weakAt_half (σ : RSt) (v : Int32) : r_weakAt (r_half_s σ v) = r_weakAt σ := rfl
theorem Rq_pairs_half (σ : RSt) (v : Int32) : r_pairs (r_half_s σ v) = r_pairs σ := rfl
theorem Rq_key_half (σ : RSt) (v : Int32) : r_key (r_half_s σ v) = r_key σ := rfl
theorem Rq_value_half (σ : RSt) (v : Int32) : r_value (r_half_s σ v) = r_value σ := rfl
theorem Rq_isPair_half (σ : RSt) (v : Int32) : r_isPair (r_half_s σ v) = r_isPair σ := rfl
theorem Rq_half_half (σ : RSt) (v : Int32) : r_half (r_half_s σ v) = v := rfl
theorem Rq_top_half (σ : RSt) (v : Int32) : r_top (r_half_s σ v) = r_top σ := rfl
theorem Rq_way_half (σ : RSt) (v : Int32) : r_way (r_half_s σ v) = r_way σ := rfl
theorem Rq_next_half (σ : RSt) (v : Int32) : r_next (r_half_s σ v) = r_next σ := rfl
theorem Rq_freedMany_half (σ : RSt) (v : Int32) : r_freedMany (r_half_s σ v) = r_freedMany σ := rfl
theorem Rq_rounds_half (σ : RSt) (v : Int32) : r_rounds (r_half_s σ v) = r_rounds σ := rfl
theorem Rq_steps_half (σ : RSt) (v : Int32) : r_steps (r_half_s σ v) = r_steps σ := rfl
theorem Rq_shaded_half (σ : RSt) (v : Int32) : r_shaded (r_half_s σ v) = r_shaded σ := rfl
theorem Rq_movedMany_half (σ : RSt) (v : Int32) : r_movedMany (r_half_s σ v) = r_movedMany σ := rfl
theorem Rq_isReached_half (σ : RSt) (v : Int32) : r_isReached (r_half_s σ v) = r_isReached σ := rfl
theorem Rq_more_half (σ : RSt) (v : Int32) : r_more (r_half_s σ v) = r_more σ := rfl
theorem Rq_manner_top (σ : RSt) (v : Int32) : r_manner (r_top_s σ v) = r_manner σ := rfl
theorem Rq_fault_top (σ : RSt) (v : Int32) : r_fault (r_top_s σ v) = r_fault σ := rfl
theorem Rq_things_top (σ : RSt) (v : Int32) : r_things (r_top_s σ v) = r_things σ := rfl
theorem Rq_many_top (σ : RSt) (v : Int32) : r_many (r_top_s σ v) = r_many σ := rfl
theorem Rq_field_top (σ : RSt) (v : Int32) : r_field (r_top_s σ v) = r_field σ := rfl
theorem Rq_place_top (σ : RSt) (v : Int32) : r_place (r_top_s σ v) = r_place σ := rfl
theorem Rq_colour_top (σ : RSt) (v : Int32) : r_colour (r_top_s σ v) = r_colour σ := rfl
theorem Rq_isFreed_top (σ : RSt) (v : Int32) : r_isFreed (r_top_s σ v) = r_isFreed σ := rfl
theorem Rq_hasWish_top (σ : RSt) (v : Int32) : r_hasWish (r_top_s σ v) = r_hasWish σ := rfl
theorem Rq_moved_top (σ : RSt) (v : Int32) : r_moved (r_top_s σ v) = r_moved σ := rfl
theorem Rq_register_top (σ : RSt) (v : Int32) : r_register (r_top_s σ v) = r_register σ := rfl
theorem Rq_slot_top (σ : RSt) (v : Int32) : r_slot (r_top_s σ v) = r_slot σ := rfl
theorem Rq_wishes_top (σ : RSt) (v : Int32) : r_wishes (r_top_s σ v) = r_wishes σ := rfl
theorem Rq_wishAt_top (σ : RSt) (v : Int32) : r_wishAt (r_top_s σ v) = r_wishAt σ := rfl
theorem Rq_weakAt_top (σ : RSt) (v : Int32) : r_weakAt (r_top_s σ v) = r_weakAt σ := rfl
theorem Rq_pairs_top (σ : RSt) (v : Int32) : r_pairs (r_top_s σ v) = r_pairs σ := rfl
theorem Rq_key_top (σ : RSt) (v : Int32) : r_key (r_top_s σ v) = r_key σ := rfl
theorem Rq_value_top (σ : RSt) (v : Int32) : r_value (r_top_s σ v) = r_value σ := rfl
theorem Rq_isPair_top (σ : RSt) (v : Int32) : r_isPair (r_top_s σ v) = r_isPair σ := rfl
theorem Rq_half_top (σ : RSt) (v : Int32) : r_half (r_top_s σ v) = r_half σ := rfl
theorem Rq_top_top (σ : RSt) (v : Int32) : r_top (r_top_s σ v) = v := rfl
theorem Rq_way_top (σ : RSt) (v : Int32) : r_way (r_top_s σ v) = r_way σ := rfl
theorem Rq_next_top (σ : RSt) (v : Int32) : r_next (r_top_s σ v) = r_next σ := rfl
theorem Rq_freedMany_top (σ : RSt) (v : Int32) : r_freedMany (r_top_s σ v) = r_freedMany σ := rfl
theorem Rq_rounds_top (σ : RSt) (v : Int32) : r_rounds (r_top_s σ v) = r_rounds σ := rfl
theorem Rq_steps_top (σ : RSt) (v : Int32) : r_steps (r_top_s σ v) = r_steps σ := rfl
theorem Rq_shaded_top (σ : RSt) (v : Int32) : r_shaded (r_top_s σ v) = r_shaded σ := rfl
theorem Rq_movedMany_top (σ : RSt) (v : Int32) : r_movedMany (r_top_s σ v) = r_movedMany σ := rfl
theorem Rq_isReached_top (σ : RSt) (v : Int32) : r_isReached (r_top_s σ v) = r_isReached σ := rfl
theorem Rq_more_top (σ : RSt) (v : Int32) : r_more (r_top_s σ v) = r_more σ := rfl
theorem Rq_manner_way (σ : RSt) (v : Int32) : r_manner (r_way_s σ v) = r_manner σ := rfl
theorem Rq_fault_way (σ : RSt) (v : Int32) : r_fault (r_way_s σ v) = r_fault σ := rfl
theorem Rq_things_way (σ : RSt) (v : Int32) : r_things (r_way_s σ v) = r_things σ := rfl
theorem Rq_many_way (σ : RSt) (v : Int32) : r_many (r_way_s σ v) = r_many σ := rfl
theorem Rq_field_way (σ : RSt) (v : Int32) : r_field (r_way_s σ v) = r_field σ := rfl
theorem Rq_place_way (σ : RSt) (v : Int32) : r_place (r_way_s σ v) = r_place σ := rfl
theorem Rq_colour_way (σ : RSt) (v : Int32) : r_colour (r_way_s σ v) = r_colour σ := rfl
theorem Rq_isFreed_way (σ : RSt) (v : Int32) : r_isFreed (r_way_s σ v) = r_isFreed σ := rfl
theorem Rq_hasWish_way (σ : RSt) (v : Int32) : r_hasWish (r_way_s σ v) = r_hasWish σ := rfl
theorem Rq_moved_way (σ : RSt) (v : Int32) : r_moved (r_way_s σ v) = r_moved σ := rfl
theorem Rq_register_way (σ : RSt) (v : Int32) : r_register (r_way_s σ v) = r_register σ := rfl
theorem Rq_slot_way (σ : RSt) (v : Int32) : r_slot (r_way_s σ v) = r_slot σ := rfl
theorem Rq_wishes_way (σ : RSt) (v : Int32) : r_wishes (r_way_s σ v) = r_wishes σ := rfl
theorem Rq_wishAt_way (σ : RSt) (v : Int32) : r_wishAt (r_way_s σ v) = r_wishAt σ := rfl
theorem Rq_weakAt_way (σ : RSt) (v : Int32) : r_weakAt (r_way_s σ v) = r_weakAt σ := rfl
theorem Rq_pairs_way (σ : RSt) (v : Int32) : r_pairs (r_way_s σ v) = r_pairs σ := rfl
theorem Rq_key_way (σ : RSt) (v : Int32) : r_key (r_way_s σ v) = r_key σ := rfl
theorem Rq_value_way (σ : RSt) (v : Int32) : r_value (r_way_s σ v) = r_value σ := rfl
theorem Rq_isPair_way (σ : RSt) (v : Int32) : r_isPair (r_way_s σ v) = r_isPair σ := rfl
theorem Rq_half_way (σ : RSt) (v : Int32) : r_half (r_way_s σ v) = r_half σ := rfl
theorem Rq_top_way (σ : RSt) (v : Int32) : r_top (r_way_s σ v) = r_top σ := rfl
theorem Rq_way_way (σ : RSt) (v : Int32) : r_way (r_way_s σ v) = v := rfl
theorem Rq_next_way (σ : RSt) (v : Int32) : r_next (r_way_s σ v) = r_next σ := rfl
theorem Rq_freedMany_way (σ : RSt) (v : Int32) : r_freedMany (r_way_s σ v) = r_freedMany σ := rfl
theorem Rq_rounds_way (σ : RSt) (v : Int32) : r_rounds (r_way_s σ v) = r_rounds σ := rfl
theorem Rq_steps_way (σ : RSt) (v : Int32) : r_steps (r_way_s σ v) = r_steps σ := rfl
theorem Rq_shaded_way (σ : RSt) (v : Int32) : r_shaded (r_way_s σ v) = r_shaded σ := rfl
theorem Rq_movedMany_way (σ : RSt) (v : Int32) : r_movedMany (r_way_s σ v) = r_movedMany σ := rfl
theorem Rq_isReached_way (σ : RSt) (v : Int32) : r_isReached (r_way_s σ v) = r_isReached σ := rfl
theorem Rq_more_way (σ : RSt) (v : Int32) : r_more (r_way_s σ v) = r_more σ := rfl
theorem Rq_manner_next (σ : RSt) (v : Int32) : r_manner (r_next_s σ v) = r_manner σ := rfl
theorem Rq_fault_next (σ : RSt) (v : Int32) : r_fault (r_next_s σ v) = r_fault σ := rfl
theorem Rq_things_next (σ : RSt) (v : Int32) : r_things (r_next_s σ v) = r_things σ := rfl
theorem Rq_many_next (σ : RSt) (v : Int32) : r_many (r_next_s σ v) = r_many σ := rfl
theorem Rq_field_next (σ : RSt) (v : Int32) : r_field (r_next_s σ v) = r_field σ := rfl
theorem Rq_place_next (σ : RSt) (v : Int32) : r_place (r_next_s σ v) = r_place σ := rfl
theorem Rq_colour_next (σ : RSt) (v : Int32) : r_colour (r_next_s σ v) = r_colour σ := rfl
theorem Rq_isFreed_next (σ : RSt) (v : Int32) : r_isFreed (r_next_s σ v) = r_isFreed σ := rfl
theorem Rq_hasWish_next (σ : RSt) (v : Int32) : r_hasWish (r_next_s σ v) = r_hasWish σ := rfl
theorem Rq_moved_next (σ : RSt) (v : Int32) : r_moved (r_next_s σ v) = r_moved σ := rfl
theorem Rq_register_next (σ : RSt) (v : Int32) : r_register (r_next_s σ v) = r_register σ := rfl
theorem Rq_slot_next (σ : RSt) (v : Int32) : r_slot (r_next_s σ v) = r_slot σ := rfl
theorem Rq_wishes_next (σ : RSt) (v : Int32) : r_wishes (r_next_s σ v) = r_wishes σ := rfl
theorem Rq_wishAt_next (σ : RSt) (v : Int32) : r_wishAt (r_next_s σ v) = r_wishAt σ := rfl
theorem Rq_weakAt_next (σ : RSt) (v : Int32) : r_weakAt (r_next_s σ v) = r_weakAt σ := rfl
theorem Rq_pairs_next (σ : RSt) (v : Int32) : r_pairs (r_next_s σ v) = r_pairs σ := rfl
theorem Rq_key_next (σ : RSt) (v : Int32) : r_key (r_next_s σ v) = r_key σ := rfl
theorem Rq_value_next (σ : RSt) (v : Int32) : r_value (r_next_s σ v) = r_value σ := rfl
theorem Rq_isPair_next (σ : RSt) (v : Int32) : r_isPair (r_next_s σ v) = r_isPair σ := rfl
theorem Rq_half_next (σ : RSt) (v : Int32) : r_half (r_next_s σ v) = r_half σ := rfl
theorem Rq_top_next (σ : RSt) (v : Int32) : r_top (r_next_s σ v) = r_top σ := rfl
theorem Rq_way_next (σ : RSt) (v : Int32) : r_way (r_next_s σ v) = r_way σ := rfl
theorem Rq_next_next (σ : RSt) (v : Int32) : r_next (r_next_s σ v) = v := rfl
theorem Rq_freedMany_next (σ : RSt) (v : Int32) : r_freedMany (r_next_s σ v) = r_freedMany σ := rfl
theorem Rq_rounds_next (σ : RSt) (v : Int32) : r_rounds (r_next_s σ v) = r_rounds σ := rfl
theorem Rq_steps_next (σ : RSt) (v : Int32) : r_steps (r_next_s σ v) = r_steps σ := rfl
theorem Rq_shaded_next (σ : RSt) (v : Int32) : r_shaded (r_next_s σ v) = r_shaded σ := rfl
theorem Rq_movedMany_next (σ : RSt) (v : Int32) : r_movedMany (r_next_s σ v) = r_movedMany σ := rfl
theorem Rq_isReached_next (σ : RSt) (v : Int32) : r_isReached (r_next_s σ v) = r_isReached σ := rfl
theorem Rq_more_next (σ : RSt) (v : Int32) : r_more (r_next_s σ v) = r_more σ := rfl
theorem Rq_manner_freedMany (σ : RSt) (v : Int32) : r_manner (r_freedMany_s σ v) = r_manner σ := rfl
theorem Rq_fault_freedMany (σ : RSt) (v : Int32) : r_fault (r_freedMany_s σ v) = r_fault σ := rfl
theorem Rq_things_freedMany (σ : RSt) (v : Int32) : r_things (r_freedMany_s σ v) = r_things σ := rfl
theorem Rq_many_freedMany (σ : RSt) (v : Int32) : r_many (r_freedMany_s σ v) = r_many σ := rfl
theorem Rq_field_freedMany (σ : RSt) (v : Int32) : r_field (r_freedMany_s σ v) = r_field σ := rfl
theorem Rq_place_freedMany (σ : RSt) (v : Int32) : r_place (r_freedMany_s σ v) = r_place σ := rfl
theorem Rq_colour_freedMany (σ : RSt) (v : Int32) : r_colour (r_freedMany_s σ v) = r_colour σ := rfl
theorem Rq_isFreed_freedMany (σ : RSt) (v : Int32) : r_isFreed (r_freedMany_s σ v) = r_isFreed σ := rfl
theorem Rq_hasWish_freedMany (σ : RSt) (v : Int32) : r_hasWish (r_freedMany_s σ v) = r_hasWish σ := rfl
theorem Rq_moved_freedMany (σ : RSt) (v : Int32) : r_moved (r_freedMany_s σ v) = r_moved σ := rfl
theorem Rq_register_freedMany (σ : RSt) (v : Int32) : r_register (r_freedMany_s σ v) = r_register σ := rfl
theorem Rq_slot_freedMany (σ : RSt) (v : Int32) : r_slot (r_freedMany_s σ v) = r_slot σ := rfl
theorem Rq_wishes_freedMany (σ : RSt) (v : Int32) : r_wishes (r_freedMany_s σ v) = r_wishes σ := rfl
theorem Rq_wishAt_freedMany (σ : RSt) (v : Int32) : r_wishAt (r_freedMany_s σ v) = r_wishAt σ := rfl
theorem Rq_weakAt_freedMany (σ : RSt) (v : Int32) : r_weakAt (r_freedMany_s σ v) = r_weakAt σ := rfl
theorem Rq_pairs_freedMany (σ : RSt) (v : Int32) : r_pairs (r_freedMany_s σ v) = r_pairs σ := rfl
theorem Rq_key_freedMany (σ : RSt) (v : Int32) : r_key (r_freedMany_s σ v) = r_key σ := rfl
theorem Rq_value_freedMany (σ : RSt) (v : Int32) : r_value (r_freedMany_s σ v) = r_value σ := rfl
theorem Rq_isPair_freedMany (σ : RSt) (v : Int32) : r_isPair (r_freedMany_s σ v) = r_isPair σ := rfl
theorem Rq_half_freedMany (σ : RSt) (v : Int32) : r_half (r_freedMany_s σ v) = r_half σ := rfl
theorem Rq_top_freedMany (σ : RSt) (v : Int32) : r_top (r_freedMany_s σ v) = r_top σ := rfl
theorem Rq_way_freedMany (σ : RSt) (v : Int32) : r_way (r_freedMany_s σ v) = r_way σ := rfl
theorem Rq_next_freedMany (σ : RSt) (v : Int32) : r_next (r_freedMany_s σ v) = r_next σ := rfl
theorem Rq_freedMany_freedMany (σ : RSt) (v : Int32) : r_freedMany (r_freedMany_s σ v) = v := rfl
theorem Rq_rounds_freedMany (σ : RSt) (v : Int32) : r_rounds (r_freedMany_s σ v) = r_rounds σ := rfl
theorem Rq_steps_freedMany (σ : RSt) (v : Int32) : r_steps (r_freedMany_s σ v) = r_steps σ := rfl
theorem Rq_shaded_freedMany (σ : RSt) (v : Int32) : r_shaded (r_freedMany_s σ v) = r_shaded σ := rfl
theorem Rq_movedMany_freedMany (σ : RSt) (v : Int32) : r_movedMany (r_freedMany_s σ v) = r_movedMany σ := rfl
theorem Rq_isReached_freedMany (σ : RSt) (v : Int32) : r_isReached (r_freedMany_s σ v) = r_isReached σ := rfl
theorem Rq_more_freedMany (σ : RSt) (v : Int32) : r_more (r_freedMany_s σ v) = r_more σ := rfl
theorem Rq_manner_rounds (σ : RSt) (v : Int32) : r_manner (r_rounds_s σ v) = r_manner σ := rfl
theorem Rq_fault_rounds (σ : RSt) (v : Int32) : r_fault (r_rounds_s σ v) = r_fault σ := rfl
theorem Rq_things_rounds (σ : RSt) (v : Int32) : r_things (r_rounds_s σ v) = r_things σ := rfl
theorem Rq_many_rounds (σ : RSt) (v : Int32) : r_many (r_rounds_s σ v) = r_many σ := rfl
theorem Rq_field_rounds (σ : RSt) (v : Int32) : r_field (r_rounds_s σ v) = r_field σ := rfl
theorem Rq_place_rounds (σ : RSt) (v : Int32) : r_place (r_rounds_s σ v) = r_place σ := rfl
theorem Rq_colour_rounds (σ : RSt) (v : Int32) : r_colour (r_rounds_s σ v) = r_colour σ := rfl
theorem Rq_isFreed_rounds (σ : RSt) (v : Int32) : r_isFreed (r_rounds_s σ v) = r_isFreed σ := rfl
theorem Rq_hasWish_rounds (σ : RSt) (v : Int32) : r_hasWish (r_rounds_s σ v) = r_hasWish σ := rfl
theorem Rq_moved_rounds (σ : RSt) (v : Int32) : r_moved (r_rounds_s σ v) = r_moved σ := rfl
theorem Rq_register_rounds (σ : RSt) (v : Int32) : r_register (r_rounds_s σ v) = r_register σ := rfl
theorem Rq_slot_rounds (σ : RSt) (v : Int32) : r_slot (r_rounds_s σ v) = r_slot σ := rfl
theorem Rq_wishes_rounds (σ : RSt) (v : Int32) : r_wishes (r_rounds_s σ v) = r_wishes σ := rfl
theorem Rq_wishAt_rounds (σ : RSt) (v : Int32) : r_wishAt (r_rounds_s σ v) = r_wishAt σ := rfl
theorem Rq_weakAt_rounds (σ : RSt) (v : Int32) : r_weakAt (r_rounds_s σ v) = r_weakAt σ := rfl
theorem Rq_pairs_rounds (σ : RSt) (v : Int32) : r_pairs (r_rounds_s σ v) = r_pairs σ := rfl
theorem Rq_key_rounds (σ : RSt) (v : Int32) : r_key (r_rounds_s σ v) = r_key σ := rfl
theorem Rq_value_rounds (σ : RSt) (v : Int32) : r_value (r_rounds_s σ v) = r_value σ := rfl
theorem Rq_isPair_rounds (σ : RSt) (v : Int32) : r_isPair (r_rounds_s σ v) = r_isPair σ := rfl
theorem Rq_half_rounds (σ : RSt) (v : Int32) : r_half (r_rounds_s σ v) = r_half σ := rfl
theorem Rq_top_rounds (σ : RSt) (v : Int32) : r_top (r_rounds_s σ v) = r_top σ := rfl
theorem Rq_way_rounds (σ : RSt) (v : Int32) : r_way (r_rounds_s σ v) = r_way σ := rfl
theorem Rq_next_rounds (σ : RSt) (v : Int32) : r_next (r_rounds_s σ v) = r_next σ := rfl
theorem Rq_freedMany_rounds (σ : RSt) (v : Int32) : r_freedMany (r_rounds_s σ v) = r_freedMany σ := rfl
theorem Rq_rounds_rounds (σ : RSt) (v : Int32) : r_rounds (r_rounds_s σ v) = v := rfl
theorem Rq_steps_rounds (σ : RSt) (v : Int32) : r_steps (r_rounds_s σ v) = r_steps σ := rfl
theorem Rq_shaded_rounds (σ : RSt) (v : Int32) : r_shaded (r_rounds_s σ v) = r_shaded σ := rfl
theorem Rq_movedMany_rounds (σ : RSt) (v : Int32) : r_movedMany (r_rounds_s σ v) = r_movedMany σ := rfl
theorem Rq_isReached_rounds (σ : RSt) (v : Int32) : r_isReached (r_rounds_s σ v) = r_isReached σ := rfl
theorem Rq_more_rounds (σ : RSt) (v : Int32) : r_more (r_rounds_s σ v) = r_more σ := rfl
theorem Rq_manner_steps (σ : RSt) (v : Int32) : r_manner (r_steps_s σ v) = r_manner σ := rfl
theorem Rq_fault_steps (σ : RSt) (v : Int32) : r_fault (r_steps_s σ v) = r_fault σ := rfl
theorem Rq_things_steps (σ : RSt) (v : Int32) : r_things (r_steps_s σ v) = r_things σ := rfl
theorem Rq_many_steps (σ : RSt) (v : Int32) : r_many (r_steps_s σ v) = r_many σ := rfl
theorem Rq_field_steps (σ : RSt) (v : Int32) : r_field (r_steps_s σ v) = r_field σ := rfl
theorem Rq_place_steps (σ : RSt) (v : Int32) : r_place (r_steps_s σ v) = r_place σ := rfl
theorem Rq_colour_steps (σ : RSt) (v : Int32) : r_colour (r_steps_s σ v) = r_colour σ := rfl
theorem Rq_isFreed_steps (σ : RSt) (v : Int32) : r_isFreed (r_steps_s σ v) = r_isFreed σ := rfl
theorem Rq_hasWish_steps (σ : RSt) (v : Int32) : r_hasWish (r_steps_s σ v) = r_hasWish σ := rfl
theorem Rq_moved_steps (σ : RSt) (v : Int32) : r_moved (r_steps_s σ v) = r_moved σ := rfl
theorem Rq_register_steps (σ : RSt) (v : Int32) : r_register (r_steps_s σ v) = r_register σ := rfl
theorem Rq_slot_steps (σ : RSt) (v : Int32) : r_slot (r_steps_s σ v) = r_slot σ := rfl
theorem Rq_wishes_steps (σ : RSt) (v : Int32) : r_wishes (r_steps_s σ v) = r_wishes σ := rfl
theorem Rq_wishAt_steps (σ : RSt) (v : Int32) : r_wishAt (r_steps_s σ v) = r_wishAt σ := rfl
theorem Rq_weakAt_steps (σ : RSt) (v : Int32) : r_weakAt (r_steps_s σ v) = r_weakAt σ := rfl
theorem Rq_pairs_steps (σ : RSt) (v : Int32) : r_pairs (r_steps_s σ v) = r_pairs σ := rfl
theorem Rq_key_steps (σ : RSt) (v : Int32) : r_key (r_steps_s σ v) = r_key σ := rfl
theorem Rq_value_steps (σ : RSt) (v : Int32) : r_value (r_steps_s σ v) = r_value σ := rfl
theorem Rq_isPair_steps (σ : RSt) (v : Int32) : r_isPair (r_steps_s σ v) = r_isPair σ := rfl
theorem Rq_half_steps (σ : RSt) (v : Int32) : r_half (r_steps_s σ v) = r_half σ := rfl
theorem Rq_top_steps (σ : RSt) (v : Int32) : r_top (r_steps_s σ v) = r_top σ := rfl
theorem Rq_way_steps (σ : RSt) (v : Int32) : r_way (r_steps_s σ v) = r_way σ := rfl
theorem Rq_next_steps (σ : RSt) (v : Int32) : r_next (r_steps_s σ v) = r_next σ := rfl
theorem Rq_freedMany_steps (σ : RSt) (v : Int32) : r_freedMany (r_steps_s σ v) = r_freedMany σ := rfl
theorem Rq_rounds_steps (σ : RSt) (v : Int32) : r_rounds (r_steps_s σ v) = r_rounds σ := rfl
theorem Rq_steps_steps (σ : RSt) (v : Int32) : r_steps (r_steps_s σ v) = v := rfl
theorem Rq_shaded_steps (σ : RSt) (v : Int32) : r_shaded (r_steps_s σ v) = r_shaded σ := rfl
theorem Rq_movedMany_steps (σ : RSt) (v : Int32) : r_movedMany (r_steps_s σ v) = r_movedMany σ := rfl
theorem Rq_isReached_steps (σ : RSt) (v : Int32) : r_isReached (r_steps_s σ v) = r_isReached σ := rfl
theorem Rq_more_steps (σ : RSt) (v : Int32) : r_more (r_steps_s σ v) = r_more σ := rfl
theorem Rq_manner_shaded (σ : RSt) (v : Int32) : r_manner (r_shaded_s σ v) = r_manner σ := rfl
theorem Rq_fault_shaded (σ : RSt) (v : Int32) : r_fault (r_shaded_s σ v) = r_fault σ := rfl
theorem Rq_things_shaded (σ : RSt) (v : Int32) : r_things (r_shaded_s σ v) = r_things σ := rfl
theorem Rq_many_shaded (σ : RSt) (v : Int32) : r_many (r_shaded_s σ v) = r_many σ := rfl
theorem Rq_field_shaded (σ : RSt) (v : Int32) : r_field (r_shaded_s σ v) = r_field σ := rfl
theorem Rq_place_shaded (σ : RSt) (v : Int32) : r_place (r_shaded_s σ v) = r_place σ := rfl
theorem Rq_colour_shaded (σ : RSt) (v : Int32) : r_colour (r_shaded_s σ v) = r_colour σ := rfl
theorem Rq_isFreed_shaded (σ : RSt) (v : Int32) : r_isFreed (r_shaded_s σ v) = r_isFreed σ := rfl
theorem Rq_hasWish_shaded (σ : RSt) (v : Int32) : r_hasWish (r_shaded_s σ v) = r_hasWish σ := rfl
theorem Rq_moved_shaded (σ : RSt) (v : Int32) : r_moved (r_shaded_s σ v) = r_moved σ := rfl
theorem Rq_register_shaded (σ : RSt) (v : Int32) : r_register (r_shaded_s σ v) = r_register σ := rfl
theorem Rq_slot_shaded (σ : RSt) (v : Int32) : r_slot (r_shaded_s σ v) = r_slot σ := rfl
theorem Rq_wishes_shaded (σ : RSt) (v : Int32) : r_wishes (r_shaded_s σ v) = r_wishes σ := rfl
theorem Rq_wishAt_shaded (σ : RSt) (v : Int32) : r_wishAt (r_shaded_s σ v) = r_wishAt σ := rfl
theorem Rq_weakAt_shaded (σ : RSt) (v : Int32) : r_weakAt (r_shaded_s σ v) = r_weakAt σ := rfl
theorem Rq_pairs_shaded (σ : RSt) (v : Int32) : r_pairs (r_shaded_s σ v) = r_pairs σ := rfl
theorem Rq_key_shaded (σ : RSt) (v : Int32) : r_key (r_shaded_s σ v) = r_key σ := rfl
theorem Rq_value_shaded (σ : RSt) (v : Int32) : r_value (r_shaded_s σ v) = r_value σ := rfl
theorem Rq_isPair_shaded (σ : RSt) (v : Int32) : r_isPair (r_shaded_s σ v) = r_isPair σ := rfl
theorem Rq_half_shaded (σ : RSt) (v : Int32) : r_half (r_shaded_s σ v) = r_half σ := rfl
theorem Rq_top_shaded (σ : RSt) (v : Int32) : r_top (r_shaded_s σ v) = r_top σ := rfl
theorem Rq_way_shaded (σ : RSt) (v : Int32) : r_way (r_shaded_s σ v) = r_way σ := rfl
theorem Rq_next_shaded (σ : RSt) (v : Int32) : r_next (r_shaded_s σ v) = r_next σ := rfl
theorem Rq_freedMany_shaded (σ : RSt) (v : Int32) : r_freedMany (r_shaded_s σ v) = r_freedMany σ := rfl
theorem Rq_rounds_shaded (σ : RSt) (v : Int32) : r_rounds (r_shaded_s σ v) = r_rounds σ := rfl
theorem Rq_steps_shaded (σ : RSt) (v : Int32) : r_steps (r_shaded_s σ v) = r_steps σ := rfl
theorem Rq_shaded_shaded (σ : RSt) (v : Int32) : r_shaded (r_shaded_s σ v) = v := rfl
theorem Rq_movedMany_shaded (σ : RSt) (v : Int32) : r_movedMany (r_shaded_s σ v) = r_movedMany σ := rfl
theorem Rq_isReached_shaded (σ : RSt) (v : Int32) : r_isReached (r_shaded_s σ v) = r_isReached σ := rfl
theorem Rq_more_shaded (σ : RSt) (v : Int32) : r_more (r_shaded_s σ v) = r_more σ := rfl
theorem Rq_manner_movedMany (σ : RSt) (v : Int32) : r_manner (r_movedMany_s σ v) = r_manner σ := rfl
theorem Rq_fault_movedMany (σ : RSt) (v : Int32) : r_fault (r_movedMany_s σ v) = r_fault σ := rfl
theorem Rq_things_movedMany (σ : RSt) (v : Int32) : r_things (r_movedMany_s σ v) = r_things σ := rfl
theorem Rq_many_movedMany (σ : RSt) (v : Int32) : r_many (r_movedMany_s σ v) = r_many σ := rfl
theorem Rq_field_movedMany (σ : RSt) (v : Int32) : r_field (r_movedMany_s σ v) = r_field σ := rfl
theorem Rq_place_movedMany (σ : RSt) (v : Int32) : r_place (r_movedMany_s σ v) = r_place σ := rfl
theorem Rq_colour_movedMany (σ : RSt) (v : Int32) : r_colour (r_movedMany_s σ v) = r_colour σ := rfl
theorem Rq_isFreed_movedMany (σ : RSt) (v : Int32) : r_isFreed (r_movedMany_s σ v) = r_isFreed σ := rfl
theorem Rq_hasWish_movedMany (σ : RSt) (v : Int32) : r_hasWish (r_movedMany_s σ v) = r_hasWish σ := rfl
theorem Rq_moved_movedMany (σ : RSt) (v : Int32) : r_moved (r_movedMany_s σ v) = r_moved σ := rfl
theorem Rq_register_movedMany (σ : RSt) (v : Int32) : r_register (r_movedMany_s σ v) = r_register σ := rfl
theorem Rq_slot_movedMany (σ : RSt) (v : Int32) : r_slot (r_movedMany_s σ v) = r_slot σ := rfl
theorem Rq_wishes_movedMany (σ : RSt) (v : Int32) : r_wishes (r_movedMany_s σ v) = r_wishes σ := rfl
theorem Rq_wishAt_movedMany (σ : RSt) (v : Int32) : r_wishAt (r_movedMany_s σ v) = r_wishAt σ := rfl
theorem Rq_weakAt_movedMany (σ : RSt) (v : Int32) : r_weakAt (r_movedMany_s σ v) = r_weakAt σ := rfl
theorem Rq_pairs_movedMany (σ : RSt) (v : Int32) : r_pairs (r_movedMany_s σ v) = r_pairs σ := rfl
theorem Rq_key_movedMany (σ : RSt) (v : Int32) : r_key (r_movedMany_s σ v) = r_key σ := rfl
theorem Rq_value_movedMany (σ : RSt) (v : Int32) : r_value (r_movedMany_s σ v) = r_value σ := rfl
theorem Rq_isPair_movedMany (σ : RSt) (v : Int32) : r_isPair (r_movedMany_s σ v) = r_isPair σ := rfl
theorem Rq_half_movedMany (σ : RSt) (v : Int32) : r_half (r_movedMany_s σ v) = r_half σ := rfl
theorem Rq_top_movedMany (σ : RSt) (v : Int32) : r_top (r_movedMany_s σ v) = r_top σ := rfl
theorem Rq_way_movedMany (σ : RSt) (v : Int32) : r_way (r_movedMany_s σ v) = r_way σ := rfl
theorem Rq_next_movedMany (σ : RSt) (v : Int32) : r_next (r_movedMany_s σ v) = r_next σ := rfl
theorem Rq_freedMany_movedMany (σ : RSt) (v : Int32) : r_freedMany (r_movedMany_s σ v) = r_freedMany σ := rfl
theorem Rq_rounds_movedMany (σ : RSt) (v : Int32) : r_rounds (r_movedMany_s σ v) = r_rounds σ := rfl
theorem Rq_steps_movedMany (σ : RSt) (v : Int32) : r_steps (r_movedMany_s σ v) = r_steps σ := rfl
theorem Rq_shaded_movedMany (σ : RSt) (v : Int32) : r_shaded (r_movedMany_s σ v) = r_shaded σ := rfl
theorem Rq_movedMany_movedMany (σ : RSt) (v : Int32) : r_movedMany (r_movedMany_s σ v) = v := rfl
theorem Rq_isReached_movedMany (σ : RSt) (v : Int32) : r_isReached (r_movedMany_s σ v) = r_isReached σ := rfl
theorem Rq_more_movedMany (σ : RSt) (v : Int32) : r_more (r_movedMany_s σ v) = r_more σ := rfl
theorem Rq_manner_isReached (σ : RSt) (v : (Nat → Int32)) : r_manner (r_isReached_s σ v) = r_manner σ := rfl
theorem Rq_fault_isReached (σ : RSt) (v : (Nat → Int32)) : r_fault (r_isReached_s σ v) = r_fault σ := rfl
theorem Rq_things_isReached (σ : RSt) (v : (Nat → Int32)) : r_things (r_isReached_s σ v) = r_things σ := rfl
theorem Rq_many_isReached (σ : RSt) (v : (Nat → Int32)) : r_many (r_isReached_s σ v) = r_many σ := rfl
theorem Rq_field_isReached (σ : RSt) (v : (Nat → Int32)) : r_field (r_isReached_s σ v) = r_field σ := rfl
theorem Rq_place_isReached (σ : RSt) (v : (Nat → Int32)) : r_place (r_isReached_s σ v) = r_place σ := rfl
theorem Rq_colour_isReached (σ : RSt) (v : (Nat → Int32)) : r_colour (r_isReached_s σ v) = r_colour σ := rfl
theorem Rq_isFreed_isReached (σ : RSt) (v : (Nat → Int32)) : r_isFreed (r_isReached_s σ v) = r_isFreed σ := rfl
theorem Rq_hasWish_isReached (σ : RSt) (v : (Nat → Int32)) : r_hasWish (r_isReached_s σ v) = r_hasWish σ := rfl
theorem Rq_moved_isReached (σ : RSt) (v : (Nat → Int32)) : r_moved (r_isReached_s σ v) = r_moved σ := rfl
theorem Rq_register_isReached (σ : RSt) (v : (Nat → Int32)) : r_register (r_isReached_s σ v) = r_register σ := rfl
theorem Rq_slot_isReached (σ : RSt) (v : (Nat → Int32)) : r_slot (r_isReached_s σ v) = r_slot σ := rfl
theorem Rq_wishes_isReached (σ : RSt) (v : (Nat → Int32)) : r_wishes (r_isReached_s σ v) = r_wishes σ := rfl
theorem Rq_wishAt_isReached (σ : RSt) (v : (Nat → Int32)) : r_wishAt (r_isReached_s σ v) = r_wishAt σ := rfl
theorem Rq_weakAt_isReached (σ : RSt) (v : (Nat → Int32)) : r_weakAt (r_isReached_s σ v) = r_weakAt σ := rfl
theorem Rq_pairs_isReached (σ : RSt) (v : (Nat → Int32)) : r_pairs (r_isReached_s σ v) = r_pairs σ := rfl
theorem Rq_key_isReached (σ : RSt) (v : (Nat → Int32)) : r_key (r_isReached_s σ v) = r_key σ := rfl
theorem Rq_value_isReached (σ : RSt) (v : (Nat → Int32)) : r_value (r_isReached_s σ v) = r_value σ := rfl
theorem Rq_isPair_isReached (σ : RSt) (v : (Nat → Int32)) : r_isPair (r_isReached_s σ v) = r_isPair σ := rfl
theorem Rq_half_isReached (σ : RSt) (v : (Nat → Int32)) : r_half (r_isReached_s σ v) = r_half σ := rfl
theorem Rq_top_isReached (σ : RSt) (v : (Nat → Int32)) : r_top (r_isReached_s σ v) = r_top σ := rfl
theorem Rq_way_isReached (σ : RSt) (v : (Nat → Int32)) : r_way (r_isReached_s σ v) = r_way σ := rfl
theorem Rq_next_isReached (σ : RSt) (v : (Nat → Int32)) : r_next (r_isReached_s σ v) = r_next σ := rfl
theorem Rq_freedMany_isReached (σ : RSt) (v : (Nat → Int32)) : r_freedMany (r_isReached_s σ v) = r_freedMany σ := rfl
theorem Rq_rounds_isReached (σ : RSt) (v : (Nat → Int32)) : r_rounds (r_isReached_s σ v) = r_rounds σ := rfl
theorem Rq_steps_isReached (σ : RSt) (v : (Nat → Int32)) : r_steps (r_isReached_s σ v) = r_steps σ := rfl
theorem Rq_shaded_isReached (σ : RSt) (v : (Nat → Int32)) : r_shaded (r_isReached_s σ v) = r_shaded σ := rfl
theorem Rq_movedMany_isReached (σ : RSt) (v : (Nat → Int32)) : r_movedMany (r_isReached_s σ v) = r_movedMany σ := rfl
theorem Rq_isReached_isReached (σ : RSt) (v : (Nat → Int32)) : r_isReached (r_isReached_s σ v) = v := rfl
theorem Rq_more_isReached (σ : RSt) (v : (Nat → Int32)) : r_more (r_isReached_s σ v) = r_more σ := rfl
theorem Rq_manner_more (σ : RSt) (v : Int32) : r_manner (r_more_s σ v) = r_manner σ := rfl
theorem Rq_fault_more (σ : RSt) (v : Int32) : r_fault (r_more_s σ v) = r_fault σ := rfl
theorem Rq_things_more (σ : RSt) (v : Int32) : r_things (r_more_s σ v) = r_things σ := rfl
theorem Rq_many_more (σ : RSt) (v : Int32) : r_many (r_more_s σ v) = r_many σ := rfl
theorem Rq_field_more (σ : RSt) (v : Int32) : r_field (r_more_s σ v) = r_field σ := rfl
theorem Rq_place_more (σ : RSt) (v : Int32) : r_place (r_more_s σ v) = r_place σ := rfl
theorem Rq_colour_more (σ : RSt) (v : Int32) : r_colour (r_more_s σ v) = r_colour σ := rfl
theorem Rq_isFreed_more (σ : RSt) (v : Int32) : r_isFreed (r_more_s σ v) = r_isFreed σ := rfl
theorem Rq_hasWish_more (σ : RSt) (v : Int32) : r_hasWish (r_more_s σ v) = r_hasWish σ := rfl
theorem Rq_moved_more (σ : RSt) (v : Int32) : r_moved (r_more_s σ v) = r_moved σ := rfl
theorem Rq_register_more (σ : RSt) (v : Int32) : r_register (r_more_s σ v) = r_register σ := rfl
theorem Rq_slot_more (σ : RSt) (v : Int32) : r_slot (r_more_s σ v) = r_slot σ := rfl
theorem Rq_wishes_more (σ : RSt) (v : Int32) : r_wishes (r_more_s σ v) = r_wishes σ := rfl
theorem Rq_wishAt_more (σ : RSt) (v : Int32) : r_wishAt (r_more_s σ v) = r_wishAt σ := rfl
theorem Rq_weakAt_more (σ : RSt) (v : Int32) : r_weakAt (r_more_s σ v) = r_weakAt σ := rfl
theorem Rq_pairs_more (σ : RSt) (v : Int32) : r_pairs (r_more_s σ v) = r_pairs σ := rfl
theorem Rq_key_more (σ : RSt) (v : Int32) : r_key (r_more_s σ v) = r_key σ := rfl
theorem Rq_value_more (σ : RSt) (v : Int32) : r_value (r_more_s σ v) = r_value σ := rfl
theorem Rq_isPair_more (σ : RSt) (v : Int32) : r_isPair (r_more_s σ v) = r_isPair σ := rfl
theorem Rq_half_more (σ : RSt) (v : Int32) : r_half (r_more_s σ v) = r_half σ := rfl
theorem Rq_top_more (σ : RSt) (v : Int32) : r_top (r_more_s σ v) = r_top σ := rfl
theorem Rq_way_more (σ : RSt) (v : Int32) : r_way (r_more_s σ v) = r_way σ := rfl
theorem Rq_next_more (σ : RSt) (v : Int32) : r_next (r_more_s σ v) = r_next σ := rfl
theorem Rq_freedMany_more (σ : RSt) (v : Int32) : r_freedMany (r_more_s σ v) = r_freedMany σ := rfl
theorem Rq_rounds_more (σ : RSt) (v : Int32) : r_rounds (r_more_s σ v) = r_rounds σ := rfl
theorem Rq_steps_more (σ : RSt) (v : Int32) : r_steps (r_more_s σ v) = r_steps σ := rfl
theorem Rq_shaded_more (σ : RSt) (v : Int32) : r_shaded (r_more_s σ v) = r_shaded σ := rfl
theorem Rq_movedMany_more (σ : RSt) (v : Int32) : r_movedMany (r_more_s σ v) = r_movedMany σ := rfl
theorem Rq_isReached_more (σ : RSt) (v : Int32) : r_isReached (r_more_s σ v) = r_isReached σ := rfl
theorem Rq_more_more (σ : RSt) (v : Int32) : r_more (r_more_s σ v) = v := rfl
theorem Cq_manner_manner (σ : CSt) (v : Int32) : c_manner (c_manner_s σ v) = v := rfl
theorem Cq_fault_manner (σ : CSt) (v : Int32) : c_fault (c_manner_s σ v) = c_fault σ := rfl
theorem Cq_under_manner (σ : CSt) (v : Int32) : c_under (c_manner_s σ v) = c_under σ := rfl
theorem Cq_nextS_manner (σ : CSt) (v : Int32) : c_nextS (c_manner_s σ v) = c_nextS σ := rfl
theorem Cq_rounds_manner (σ : CSt) (v : Int32) : c_rounds (c_manner_s σ v) = c_rounds σ := rfl
theorem Cq_steps_manner (σ : CSt) (v : Int32) : c_steps (c_manner_s σ v) = c_steps σ := rfl
theorem Cq_shaded_manner (σ : CSt) (v : Int32) : c_shaded (c_manner_s σ v) = c_shaded σ := rfl
theorem Cq_moved_manner (σ : CSt) (v : Int32) : c_moved (c_manner_s σ v) = c_moved σ := rfl
theorem Cq_tmade_manner (σ : CSt) (v : Int32) : c_tmade (c_manner_s σ v) = c_tmade σ := rfl
theorem Cq_sizes_manner (σ : CSt) (v : Int32) : c_sizes (c_manner_s σ v) = c_sizes σ := rfl
theorem Cq_places_manner (σ : CSt) (v : Int32) : c_places (c_manner_s σ v) = c_places σ := rfl
theorem Cq_colours_manner (σ : CSt) (v : Int32) : c_colours (c_manner_s σ v) = c_colours σ := rfl
theorem Cq_moves_manner (σ : CSt) (v : Int32) : c_moves (c_manner_s σ v) = c_moves σ := rfl
theorem Cq_freed_manner (σ : CSt) (v : Int32) : c_freed (c_manner_s σ v) = c_freed σ := rfl
theorem Cq_wishing_manner (σ : CSt) (v : Int32) : c_wishing (c_manner_s σ v) = c_wishing σ := rfl
theorem Cq_theld_manner (σ : CSt) (v : Int32) : c_theld (c_manner_s σ v) = c_theld σ := rfl
theorem Cq_cmap_manner (σ : CSt) (v : Int32) : c_cmap (c_manner_s σ v) = c_cmap σ := rfl
theorem Cq_halfEnd_manner (σ : CSt) (v : Int32) : c_halfEnd (c_manner_s σ v) = c_halfEnd σ := rfl
theorem Cq_behind_manner (σ : CSt) (v : Int32) : c_behind (c_manner_s σ v) = c_behind σ := rfl
theorem Cq_hheld_manner (σ : CSt) (v : Int32) : c_hheld (c_manner_s σ v) = c_hheld σ := rfl
theorem Cq_named_manner (σ : CSt) (v : Int32) : c_named (c_manner_s σ v) = c_named σ := rfl
theorem Cq_wishes_manner (σ : CSt) (v : Int32) : c_wishes (c_manner_s σ v) = c_wishes σ := rfl
theorem Cq_pmade_manner (σ : CSt) (v : Int32) : c_pmade (c_manner_s σ v) = c_pmade σ := rfl
theorem Cq_keys_manner (σ : CSt) (v : Int32) : c_keys (c_manner_s σ v) = c_keys σ := rfl
theorem Cq_values_manner (σ : CSt) (v : Int32) : c_values (c_manner_s σ v) = c_values σ := rfl
theorem Cq_found_manner (σ : CSt) (v : Int32) : c_found (c_manner_s σ v) = c_found σ := rfl
theorem Cq_order_manner (σ : CSt) (v : Int32) : c_order (c_manner_s σ v) = c_order σ := rfl
theorem Cq_rcount_manner (σ : CSt) (v : Int32) : c_rcount (c_manner_s σ v) = c_rcount σ := rfl
theorem Cq_manner_fault (σ : CSt) (v : Int32) : c_manner (c_fault_s σ v) = c_manner σ := rfl
theorem Cq_fault_fault (σ : CSt) (v : Int32) : c_fault (c_fault_s σ v) = v := rfl
theorem Cq_under_fault (σ : CSt) (v : Int32) : c_under (c_fault_s σ v) = c_under σ := rfl
theorem Cq_nextS_fault (σ : CSt) (v : Int32) : c_nextS (c_fault_s σ v) = c_nextS σ := rfl
theorem Cq_rounds_fault (σ : CSt) (v : Int32) : c_rounds (c_fault_s σ v) = c_rounds σ := rfl
theorem Cq_steps_fault (σ : CSt) (v : Int32) : c_steps (c_fault_s σ v) = c_steps σ := rfl
theorem Cq_shaded_fault (σ : CSt) (v : Int32) : c_shaded (c_fault_s σ v) = c_shaded σ := rfl
theorem Cq_moved_fault (σ : CSt) (v : Int32) : c_moved (c_fault_s σ v) = c_moved σ := rfl
theorem Cq_tmade_fault (σ : CSt) (v : Int32) : c_tmade (c_fault_s σ v) = c_tmade σ := rfl
theorem Cq_sizes_fault (σ : CSt) (v : Int32) : c_sizes (c_fault_s σ v) = c_sizes σ := rfl
theorem Cq_places_fault (σ : CSt) (v : Int32) : c_places (c_fault_s σ v) = c_places σ := rfl
theorem Cq_colours_fault (σ : CSt) (v : Int32) : c_colours (c_fault_s σ v) = c_colours σ := rfl
theorem Cq_moves_fault (σ : CSt) (v : Int32) : c_moves (c_fault_s σ v) = c_moves σ := rfl
theorem Cq_freed_fault (σ : CSt) (v : Int32) : c_freed (c_fault_s σ v) = c_freed σ := rfl
theorem Cq_wishing_fault (σ : CSt) (v : Int32) : c_wishing (c_fault_s σ v) = c_wishing σ := rfl
theorem Cq_theld_fault (σ : CSt) (v : Int32) : c_theld (c_fault_s σ v) = c_theld σ := rfl
theorem Cq_cmap_fault (σ : CSt) (v : Int32) : c_cmap (c_fault_s σ v) = c_cmap σ := rfl
theorem Cq_halfEnd_fault (σ : CSt) (v : Int32) : c_halfEnd (c_fault_s σ v) = c_halfEnd σ := rfl
theorem Cq_behind_fault (σ : CSt) (v : Int32) : c_behind (c_fault_s σ v) = c_behind σ := rfl
theorem Cq_hheld_fault (σ : CSt) (v : Int32) : c_hheld (c_fault_s σ v) = c_hheld σ := rfl
theorem Cq_named_fault (σ : CSt) (v : Int32) : c_named (c_fault_s σ v) = c_named σ := rfl
theorem Cq_wishes_fault (σ : CSt) (v : Int32) : c_wishes (c_fault_s σ v) = c_wishes σ := rfl
theorem Cq_pmade_fault (σ : CSt) (v : Int32) : c_pmade (c_fault_s σ v) = c_pmade σ := rfl
theorem Cq_keys_fault (σ : CSt) (v : Int32) : c_keys (c_fault_s σ v) = c_keys σ := rfl
theorem Cq_values_fault (σ : CSt) (v : Int32) : c_values (c_fault_s σ v) = c_values σ := rfl
theorem Cq_found_fault (σ : CSt) (v : Int32) : c_found (c_fault_s σ v) = c_found σ := rfl
theorem Cq_order_fault (σ : CSt) (v : Int32) : c_order (c_fault_s σ v) = c_order σ := rfl
theorem Cq_rcount_fault (σ : CSt) (v : Int32) : c_rcount (c_fault_s σ v) = c_rcount σ := rfl
theorem Cq_manner_under (σ : CSt) (v : Int32) : c_manner (c_under_s σ v) = c_manner σ := rfl
theorem Cq_fault_under (σ : CSt) (v : Int32) : c_fault (c_under_s σ v) = c_fault σ := rfl
theorem Cq_under_under (σ : CSt) (v : Int32) : c_under (c_under_s σ v) = v := rfl
theorem Cq_nextS_under (σ : CSt) (v : Int32) : c_nextS (c_under_s σ v) = c_nextS σ := rfl
theorem Cq_rounds_under (σ : CSt) (v : Int32) : c_rounds (c_under_s σ v) = c_rounds σ := rfl
theorem Cq_steps_under (σ : CSt) (v : Int32) : c_steps (c_under_s σ v) = c_steps σ := rfl
theorem Cq_shaded_under (σ : CSt) (v : Int32) : c_shaded (c_under_s σ v) = c_shaded σ := rfl
theorem Cq_moved_under (σ : CSt) (v : Int32) : c_moved (c_under_s σ v) = c_moved σ := rfl
theorem Cq_tmade_under (σ : CSt) (v : Int32) : c_tmade (c_under_s σ v) = c_tmade σ := rfl
theorem Cq_sizes_under (σ : CSt) (v : Int32) : c_sizes (c_under_s σ v) = c_sizes σ := rfl
theorem Cq_places_under (σ : CSt) (v : Int32) : c_places (c_under_s σ v) = c_places σ := rfl
theorem Cq_colours_under (σ : CSt) (v : Int32) : c_colours (c_under_s σ v) = c_colours σ := rfl
theorem Cq_moves_under (σ : CSt) (v : Int32) : c_moves (c_under_s σ v) = c_moves σ := rfl
theorem Cq_freed_under (σ : CSt) (v : Int32) : c_freed (c_under_s σ v) = c_freed σ := rfl
theorem Cq_wishing_under (σ : CSt) (v : Int32) : c_wishing (c_under_s σ v) = c_wishing σ := rfl
theorem Cq_theld_under (σ : CSt) (v : Int32) : c_theld (c_under_s σ v) = c_theld σ := rfl
theorem Cq_cmap_under (σ : CSt) (v : Int32) : c_cmap (c_under_s σ v) = c_cmap σ := rfl
theorem Cq_halfEnd_under (σ : CSt) (v : Int32) : c_halfEnd (c_under_s σ v) = c_halfEnd σ := rfl
theorem Cq_behind_under (σ : CSt) (v : Int32) : c_behind (c_under_s σ v) = c_behind σ := rfl
theorem Cq_hheld_under (σ : CSt) (v : Int32) : c_hheld (c_under_s σ v) = c_hheld σ := rfl
theorem Cq_named_under (σ : CSt) (v : Int32) : c_named (c_under_s σ v) = c_named σ := rfl
theorem Cq_wishes_under (σ : CSt) (v : Int32) : c_wishes (c_under_s σ v) = c_wishes σ := rfl
theorem Cq_pmade_under (σ : CSt) (v : Int32) : c_pmade (c_under_s σ v) = c_pmade σ := rfl
theorem Cq_keys_under (σ : CSt) (v : Int32) : c_keys (c_under_s σ v) = c_keys σ := rfl
theorem Cq_values_under (σ : CSt) (v : Int32) : c_values (c_under_s σ v) = c_values σ := rfl
theorem Cq_found_under (σ : CSt) (v : Int32) : c_found (c_under_s σ v) = c_found σ := rfl
theorem Cq_order_under (σ : CSt) (v : Int32) : c_order (c_under_s σ v) = c_order σ := rfl
theorem Cq_rcount_under (σ : CSt) (v : Int32) : c_rcount (c_under_s σ v) = c_rcount σ := rfl
theorem Cq_manner_nextS (σ : CSt) (v : Int32) : c_manner (c_nextS_s σ v) = c_manner σ := rfl
theorem Cq_fault_nextS (σ : CSt) (v : Int32) : c_fault (c_nextS_s σ v) = c_fault σ := rfl
theorem Cq_under_nextS (σ : CSt) (v : Int32) : c_under (c_nextS_s σ v) = c_under σ := rfl
theorem Cq_nextS_nextS (σ : CSt) (v : Int32) : c_nextS (c_nextS_s σ v) = v := rfl
theorem Cq_rounds_nextS (σ : CSt) (v : Int32) : c_rounds (c_nextS_s σ v) = c_rounds σ := rfl
theorem Cq_steps_nextS (σ : CSt) (v : Int32) : c_steps (c_nextS_s σ v) = c_steps σ := rfl
theorem Cq_shaded_nextS (σ : CSt) (v : Int32) : c_shaded (c_nextS_s σ v) = c_shaded σ := rfl
theorem Cq_moved_nextS (σ : CSt) (v : Int32) : c_moved (c_nextS_s σ v) = c_moved σ := rfl
theorem Cq_tmade_nextS (σ : CSt) (v : Int32) : c_tmade (c_nextS_s σ v) = c_tmade σ := rfl
theorem Cq_sizes_nextS (σ : CSt) (v : Int32) : c_sizes (c_nextS_s σ v) = c_sizes σ := rfl
theorem Cq_places_nextS (σ : CSt) (v : Int32) : c_places (c_nextS_s σ v) = c_places σ := rfl
theorem Cq_colours_nextS (σ : CSt) (v : Int32) : c_colours (c_nextS_s σ v) = c_colours σ := rfl
theorem Cq_moves_nextS (σ : CSt) (v : Int32) : c_moves (c_nextS_s σ v) = c_moves σ := rfl
theorem Cq_freed_nextS (σ : CSt) (v : Int32) : c_freed (c_nextS_s σ v) = c_freed σ := rfl
theorem Cq_wishing_nextS (σ : CSt) (v : Int32) : c_wishing (c_nextS_s σ v) = c_wishing σ := rfl
theorem Cq_theld_nextS (σ : CSt) (v : Int32) : c_theld (c_nextS_s σ v) = c_theld σ := rfl
theorem Cq_cmap_nextS (σ : CSt) (v : Int32) : c_cmap (c_nextS_s σ v) = c_cmap σ := rfl
theorem Cq_halfEnd_nextS (σ : CSt) (v : Int32) : c_halfEnd (c_nextS_s σ v) = c_halfEnd σ := rfl
theorem Cq_behind_nextS (σ : CSt) (v : Int32) : c_behind (c_nextS_s σ v) = c_behind σ := rfl
theorem Cq_hheld_nextS (σ : CSt) (v : Int32) : c_hheld (c_nextS_s σ v) = c_hheld σ := rfl
theorem Cq_named_nextS (σ : CSt) (v : Int32) : c_named (c_nextS_s σ v) = c_named σ := rfl
theorem Cq_wishes_nextS (σ : CSt) (v : Int32) : c_wishes (c_nextS_s σ v) = c_wishes σ := rfl
theorem Cq_pmade_nextS (σ : CSt) (v : Int32) : c_pmade (c_nextS_s σ v) = c_pmade σ := rfl
theorem Cq_keys_nextS (σ : CSt) (v : Int32) : c_keys (c_nextS_s σ v) = c_keys σ := rfl
theorem Cq_values_nextS (σ : CSt) (v : Int32) : c_values (c_nextS_s σ v) = c_values σ := rfl
theorem Cq_found_nextS (σ : CSt) (v : Int32) : c_found (c_nextS_s σ v) = c_found σ := rfl
theorem Cq_order_nextS (σ : CSt) (v : Int32) : c_order (c_nextS_s σ v) = c_order σ := rfl
theorem Cq_rcount_nextS (σ : CSt) (v : Int32) : c_rcount (c_nextS_s σ v) = c_rcount σ := rfl
theorem Cq_manner_rounds (σ : CSt) (v : Int32) : c_manner (c_rounds_s σ v) = c_manner σ := rfl
theorem Cq_fault_rounds (σ : CSt) (v : Int32) : c_fault (c_rounds_s σ v) = c_fault σ := rfl
theorem Cq_under_rounds (σ : CSt) (v : Int32) : c_under (c_rounds_s σ v) = c_under σ := rfl
theorem Cq_nextS_rounds (σ : CSt) (v : Int32) : c_nextS (c_rounds_s σ v) = c_nextS σ := rfl
theorem Cq_rounds_rounds (σ : CSt) (v : Int32) : c_rounds (c_rounds_s σ v) = v := rfl
theorem Cq_steps_rounds (σ : CSt) (v : Int32) : c_steps (c_rounds_s σ v) = c_steps σ := rfl
theorem Cq_shaded_rounds (σ : CSt) (v : Int32) : c_shaded (c_rounds_s σ v) = c_shaded σ := rfl
theorem Cq_moved_rounds (σ : CSt) (v : Int32) : c_moved (c_rounds_s σ v) = c_moved σ := rfl
theorem Cq_tmade_rounds (σ : CSt) (v : Int32) : c_tmade (c_rounds_s σ v) = c_tmade σ := rfl
theorem Cq_sizes_rounds (σ : CSt) (v : Int32) : c_sizes (c_rounds_s σ v) = c_sizes σ := rfl
theorem Cq_places_rounds (σ : CSt) (v : Int32) : c_places (c_rounds_s σ v) = c_places σ := rfl
theorem Cq_colours_rounds (σ : CSt) (v : Int32) : c_colours (c_rounds_s σ v) = c_colours σ := rfl
theorem Cq_moves_rounds (σ : CSt) (v : Int32) : c_moves (c_rounds_s σ v) = c_moves σ := rfl
theorem Cq_freed_rounds (σ : CSt) (v : Int32) : c_freed (c_rounds_s σ v) = c_freed σ := rfl
theorem Cq_wishing_rounds (σ : CSt) (v : Int32) : c_wishing (c_rounds_s σ v) = c_wishing σ := rfl
theorem Cq_theld_rounds (σ : CSt) (v : Int32) : c_theld (c_rounds_s σ v) = c_theld σ := rfl
theorem Cq_cmap_rounds (σ : CSt) (v : Int32) : c_cmap (c_rounds_s σ v) = c_cmap σ := rfl
theorem Cq_halfEnd_rounds (σ : CSt) (v : Int32) : c_halfEnd (c_rounds_s σ v) = c_halfEnd σ := rfl
theorem Cq_behind_rounds (σ : CSt) (v : Int32) : c_behind (c_rounds_s σ v) = c_behind σ := rfl
theorem Cq_hheld_rounds (σ : CSt) (v : Int32) : c_hheld (c_rounds_s σ v) = c_hheld σ := rfl
theorem Cq_named_rounds (σ : CSt) (v : Int32) : c_named (c_rounds_s σ v) = c_named σ := rfl
theorem Cq_wishes_rounds (σ : CSt) (v : Int32) : c_wishes (c_rounds_s σ v) = c_wishes σ := rfl
theorem Cq_pmade_rounds (σ : CSt) (v : Int32) : c_pmade (c_rounds_s σ v) = c_pmade σ := rfl
theorem Cq_keys_rounds (σ : CSt) (v : Int32) : c_keys (c_rounds_s σ v) = c_keys σ := rfl
theorem Cq_values_rounds (σ : CSt) (v : Int32) : c_values (c_rounds_s σ v) = c_values σ := rfl
theorem Cq_found_rounds (σ : CSt) (v : Int32) : c_found (c_rounds_s σ v) = c_found σ := rfl
theorem Cq_order_rounds (σ : CSt) (v : Int32) : c_order (c_rounds_s σ v) = c_order σ := rfl
theorem Cq_rcount_rounds (σ : CSt) (v : Int32) : c_rcount (c_rounds_s σ v) = c_rcount σ := rfl
theorem Cq_manner_steps (σ : CSt) (v : Int32) : c_manner (c_steps_s σ v) = c_manner σ := rfl
theorem Cq_fault_steps (σ : CSt) (v : Int32) : c_fault (c_steps_s σ v) = c_fault σ := rfl
theorem Cq_under_steps (σ : CSt) (v : Int32) : c_under (c_steps_s σ v) = c_under σ := rfl
theorem Cq_nextS_steps (σ : CSt) (v : Int32) : c_nextS (c_steps_s σ v) = c_nextS σ := rfl
theorem Cq_rounds_steps (σ : CSt) (v : Int32) : c_rounds (c_steps_s σ v) = c_rounds σ := rfl
theorem Cq_steps_steps (σ : CSt) (v : Int32) : c_steps (c_steps_s σ v) = v := rfl
theorem Cq_shaded_steps (σ : CSt) (v : Int32) : c_shaded (c_steps_s σ v) = c_shaded σ := rfl
theorem Cq_moved_steps (σ : CSt) (v : Int32) : c_moved (c_steps_s σ v) = c_moved σ := rfl
theorem Cq_tmade_steps (σ : CSt) (v : Int32) : c_tmade (c_steps_s σ v) = c_tmade σ := rfl
theorem Cq_sizes_steps (σ : CSt) (v : Int32) : c_sizes (c_steps_s σ v) = c_sizes σ := rfl
theorem Cq_places_steps (σ : CSt) (v : Int32) : c_places (c_steps_s σ v) = c_places σ := rfl
theorem Cq_colours_steps (σ : CSt) (v : Int32) : c_colours (c_steps_s σ v) = c_colours σ := rfl
theorem Cq_moves_steps (σ : CSt) (v : Int32) : c_moves (c_steps_s σ v) = c_moves σ := rfl
theorem Cq_freed_steps (σ : CSt) (v : Int32) : c_freed (c_steps_s σ v) = c_freed σ := rfl
theorem Cq_wishing_steps (σ : CSt) (v : Int32) : c_wishing (c_steps_s σ v) = c_wishing σ := rfl
theorem Cq_theld_steps (σ : CSt) (v : Int32) : c_theld (c_steps_s σ v) = c_theld σ := rfl
theorem Cq_cmap_steps (σ : CSt) (v : Int32) : c_cmap (c_steps_s σ v) = c_cmap σ := rfl
theorem Cq_halfEnd_steps (σ : CSt) (v : Int32) : c_halfEnd (c_steps_s σ v) = c_halfEnd σ := rfl
theorem Cq_behind_steps (σ : CSt) (v : Int32) : c_behind (c_steps_s σ v) = c_behind σ := rfl
theorem Cq_hheld_steps (σ : CSt) (v : Int32) : c_hheld (c_steps_s σ v) = c_hheld σ := rfl
theorem Cq_named_steps (σ : CSt) (v : Int32) : c_named (c_steps_s σ v) = c_named σ := rfl
theorem Cq_wishes_steps (σ : CSt) (v : Int32) : c_wishes (c_steps_s σ v) = c_wishes σ := rfl
theorem Cq_pmade_steps (σ : CSt) (v : Int32) : c_pmade (c_steps_s σ v) = c_pmade σ := rfl
theorem Cq_keys_steps (σ : CSt) (v : Int32) : c_keys (c_steps_s σ v) = c_keys σ := rfl
theorem Cq_values_steps (σ : CSt) (v : Int32) : c_values (c_steps_s σ v) = c_values σ := rfl
theorem Cq_found_steps (σ : CSt) (v : Int32) : c_found (c_steps_s σ v) = c_found σ := rfl
theorem Cq_order_steps (σ : CSt) (v : Int32) : c_order (c_steps_s σ v) = c_order σ := rfl
theorem Cq_rcount_steps (σ : CSt) (v : Int32) : c_rcount (c_steps_s σ v) = c_rcount σ := rfl
theorem Cq_manner_shaded (σ : CSt) (v : Int32) : c_manner (c_shaded_s σ v) = c_manner σ := rfl
theorem Cq_fault_shaded (σ : CSt) (v : Int32) : c_fault (c_shaded_s σ v) = c_fault σ := rfl
theorem Cq_under_shaded (σ : CSt) (v : Int32) : c_under (c_shaded_s σ v) = c_under σ := rfl
theorem Cq_nextS_shaded (σ : CSt) (v : Int32) : c_nextS (c_shaded_s σ v) = c_nextS σ := rfl
theorem Cq_rounds_shaded (σ : CSt) (v : Int32) : c_rounds (c_shaded_s σ v) = c_rounds σ := rfl
theorem Cq_steps_shaded (σ : CSt) (v : Int32) : c_steps (c_shaded_s σ v) = c_steps σ := rfl
theorem Cq_shaded_shaded (σ : CSt) (v : Int32) : c_shaded (c_shaded_s σ v) = v := rfl
theorem Cq_moved_shaded (σ : CSt) (v : Int32) : c_moved (c_shaded_s σ v) = c_moved σ := rfl
theorem Cq_tmade_shaded (σ : CSt) (v : Int32) : c_tmade (c_shaded_s σ v) = c_tmade σ := rfl
theorem Cq_sizes_shaded (σ : CSt) (v : Int32) : c_sizes (c_shaded_s σ v) = c_sizes σ := rfl
theorem Cq_places_shaded (σ : CSt) (v : Int32) : c_places (c_shaded_s σ v) = c_places σ := rfl
theorem Cq_colours_shaded (σ : CSt) (v : Int32) : c_colours (c_shaded_s σ v) = c_colours σ := rfl
theorem Cq_moves_shaded (σ : CSt) (v : Int32) : c_moves (c_shaded_s σ v) = c_moves σ := rfl
theorem Cq_freed_shaded (σ : CSt) (v : Int32) : c_freed (c_shaded_s σ v) = c_freed σ := rfl
theorem Cq_wishing_shaded (σ : CSt) (v : Int32) : c_wishing (c_shaded_s σ v) = c_wishing σ := rfl
theorem Cq_theld_shaded (σ : CSt) (v : Int32) : c_theld (c_shaded_s σ v) = c_theld σ := rfl
theorem Cq_cmap_shaded (σ : CSt) (v : Int32) : c_cmap (c_shaded_s σ v) = c_cmap σ := rfl
theorem Cq_halfEnd_shaded (σ : CSt) (v : Int32) : c_halfEnd (c_shaded_s σ v) = c_halfEnd σ := rfl
theorem Cq_behind_shaded (σ : CSt) (v : Int32) : c_behind (c_shaded_s σ v) = c_behind σ := rfl
theorem Cq_hheld_shaded (σ : CSt) (v : Int32) : c_hheld (c_shaded_s σ v) = c_hheld σ := rfl
theorem Cq_named_shaded (σ : CSt) (v : Int32) : c_named (c_shaded_s σ v) = c_named σ := rfl
theorem Cq_wishes_shaded (σ : CSt) (v : Int32) : c_wishes (c_shaded_s σ v) = c_wishes σ := rfl
theorem Cq_pmade_shaded (σ : CSt) (v : Int32) : c_pmade (c_shaded_s σ v) = c_pmade σ := rfl
theorem Cq_keys_shaded (σ : CSt) (v : Int32) : c_keys (c_shaded_s σ v) = c_keys σ := rfl
theorem Cq_values_shaded (σ : CSt) (v : Int32) : c_values (c_shaded_s σ v) = c_values σ := rfl
theorem Cq_found_shaded (σ : CSt) (v : Int32) : c_found (c_shaded_s σ v) = c_found σ := rfl
theorem Cq_order_shaded (σ : CSt) (v : Int32) : c_order (c_shaded_s σ v) = c_order σ := rfl
theorem Cq_rcount_shaded (σ : CSt) (v : Int32) : c_rcount (c_shaded_s σ v) = c_rcount σ := rfl
theorem Cq_manner_moved (σ : CSt) (v : Int32) : c_manner (c_moved_s σ v) = c_manner σ := rfl
theorem Cq_fault_moved (σ : CSt) (v : Int32) : c_fault (c_moved_s σ v) = c_fault σ := rfl
theorem Cq_under_moved (σ : CSt) (v : Int32) : c_under (c_moved_s σ v) = c_under σ := rfl
theorem Cq_nextS_moved (σ : CSt) (v : Int32) : c_nextS (c_moved_s σ v) = c_nextS σ := rfl
theorem Cq_rounds_moved (σ : CSt) (v : Int32) : c_rounds (c_moved_s σ v) = c_rounds σ := rfl
theorem Cq_steps_moved (σ : CSt) (v : Int32) : c_steps (c_moved_s σ v) = c_steps σ := rfl
theorem Cq_shaded_moved (σ : CSt) (v : Int32) : c_shaded (c_moved_s σ v) = c_shaded σ := rfl
theorem Cq_moved_moved (σ : CSt) (v : Int32) : c_moved (c_moved_s σ v) = v := rfl
theorem Cq_tmade_moved (σ : CSt) (v : Int32) : c_tmade (c_moved_s σ v) = c_tmade σ := rfl
theorem Cq_sizes_moved (σ : CSt) (v : Int32) : c_sizes (c_moved_s σ v) = c_sizes σ := rfl
theorem Cq_places_moved (σ : CSt) (v : Int32) : c_places (c_moved_s σ v) = c_places σ := rfl
theorem Cq_colours_moved (σ : CSt) (v : Int32) : c_colours (c_moved_s σ v) = c_colours σ := rfl
theorem Cq_moves_moved (σ : CSt) (v : Int32) : c_moves (c_moved_s σ v) = c_moves σ := rfl
theorem Cq_freed_moved (σ : CSt) (v : Int32) : c_freed (c_moved_s σ v) = c_freed σ := rfl
theorem Cq_wishing_moved (σ : CSt) (v : Int32) : c_wishing (c_moved_s σ v) = c_wishing σ := rfl
theorem Cq_theld_moved (σ : CSt) (v : Int32) : c_theld (c_moved_s σ v) = c_theld σ := rfl
theorem Cq_cmap_moved (σ : CSt) (v : Int32) : c_cmap (c_moved_s σ v) = c_cmap σ := rfl
theorem Cq_halfEnd_moved (σ : CSt) (v : Int32) : c_halfEnd (c_moved_s σ v) = c_halfEnd σ := rfl
theorem Cq_behind_moved (σ : CSt) (v : Int32) : c_behind (c_moved_s σ v) = c_behind σ := rfl
theorem Cq_hheld_moved (σ : CSt) (v : Int32) : c_hheld (c_moved_s σ v) = c_hheld σ := rfl
theorem Cq_named_moved (σ : CSt) (v : Int32) : c_named (c_moved_s σ v) = c_named σ := rfl
theorem Cq_wishes_moved (σ : CSt) (v : Int32) : c_wishes (c_moved_s σ v) = c_wishes σ := rfl
theorem Cq_pmade_moved (σ : CSt) (v : Int32) : c_pmade (c_moved_s σ v) = c_pmade σ := rfl
theorem Cq_keys_moved (σ : CSt) (v : Int32) : c_keys (c_moved_s σ v) = c_keys σ := rfl
theorem Cq_values_moved (σ : CSt) (v : Int32) : c_values (c_moved_s σ v) = c_values σ := rfl
theorem Cq_found_moved (σ : CSt) (v : Int32) : c_found (c_moved_s σ v) = c_found σ := rfl
theorem Cq_order_moved (σ : CSt) (v : Int32) : c_order (c_moved_s σ v) = c_order σ := rfl
theorem Cq_rcount_moved (σ : CSt) (v : Int32) : c_rcount (c_moved_s σ v) = c_rcount σ := rfl
theorem Cq_manner_tmade (σ : CSt) (v : Int32) : c_manner (c_tmade_s σ v) = c_manner σ := rfl
theorem Cq_fault_tmade (σ : CSt) (v : Int32) : c_fault (c_tmade_s σ v) = c_fault σ := rfl
theorem Cq_under_tmade (σ : CSt) (v : Int32) : c_under (c_tmade_s σ v) = c_under σ := rfl
theorem Cq_nextS_tmade (σ : CSt) (v : Int32) : c_nextS (c_tmade_s σ v) = c_nextS σ := rfl
theorem Cq_rounds_tmade (σ : CSt) (v : Int32) : c_rounds (c_tmade_s σ v) = c_rounds σ := rfl
theorem Cq_steps_tmade (σ : CSt) (v : Int32) : c_steps (c_tmade_s σ v) = c_steps σ := rfl
theorem Cq_shaded_tmade (σ : CSt) (v : Int32) : c_shaded (c_tmade_s σ v) = c_shaded σ := rfl
theorem Cq_moved_tmade (σ : CSt) (v : Int32) : c_moved (c_tmade_s σ v) = c_moved σ := rfl
theorem Cq_tmade_tmade (σ : CSt) (v : Int32) : c_tmade (c_tmade_s σ v) = v := rfl
theorem Cq_sizes_tmade (σ : CSt) (v : Int32) : c_sizes (c_tmade_s σ v) = c_sizes σ := rfl
theorem Cq_places_tmade (σ : CSt) (v : Int32) : c_places (c_tmade_s σ v) = c_places σ := rfl
theorem Cq_colours_tmade (σ : CSt) (v : Int32) : c_colours (c_tmade_s σ v) = c_colours σ := rfl
theorem Cq_moves_tmade (σ : CSt) (v : Int32) : c_moves (c_tmade_s σ v) = c_moves σ := rfl
theorem Cq_freed_tmade (σ : CSt) (v : Int32) : c_freed (c_tmade_s σ v) = c_freed σ := rfl
theorem Cq_wishing_tmade (σ : CSt) (v : Int32) : c_wishing (c_tmade_s σ v) = c_wishing σ := rfl
theorem Cq_theld_tmade (σ : CSt) (v : Int32) : c_theld (c_tmade_s σ v) = c_theld σ := rfl
theorem Cq_cmap_tmade (σ : CSt) (v : Int32) : c_cmap (c_tmade_s σ v) = c_cmap σ := rfl
theorem Cq_halfEnd_tmade (σ : CSt) (v : Int32) : c_halfEnd (c_tmade_s σ v) = c_halfEnd σ := rfl
theorem Cq_behind_tmade (σ : CSt) (v : Int32) : c_behind (c_tmade_s σ v) = c_behind σ := rfl
theorem Cq_hheld_tmade (σ : CSt) (v : Int32) : c_hheld (c_tmade_s σ v) = c_hheld σ := rfl
theorem Cq_named_tmade (σ : CSt) (v : Int32) : c_named (c_tmade_s σ v) = c_named σ := rfl
theorem Cq_wishes_tmade (σ : CSt) (v : Int32) : c_wishes (c_tmade_s σ v) = c_wishes σ := rfl
theorem Cq_pmade_tmade (σ : CSt) (v : Int32) : c_pmade (c_tmade_s σ v) = c_pmade σ := rfl
theorem Cq_keys_tmade (σ : CSt) (v : Int32) : c_keys (c_tmade_s σ v) = c_keys σ := rfl
theorem Cq_values_tmade (σ : CSt) (v : Int32) : c_values (c_tmade_s σ v) = c_values σ := rfl
theorem Cq_found_tmade (σ : CSt) (v : Int32) : c_found (c_tmade_s σ v) = c_found σ := rfl
theorem Cq_order_tmade (σ : CSt) (v : Int32) : c_order (c_tmade_s σ v) = c_order σ := rfl
theorem Cq_rcount_tmade (σ : CSt) (v : Int32) : c_rcount (c_tmade_s σ v) = c_rcount σ := rfl
theorem Cq_manner_sizes (σ : CSt) (v : (Nat → Int32)) : c_manner (c_sizes_s σ v) = c_manner σ := rfl
theorem Cq_fault_sizes (σ : CSt) (v : (Nat → Int32)) : c_fault (c_sizes_s σ v) = c_fault σ := rfl
theorem Cq_under_sizes (σ : CSt) (v : (Nat → Int32)) : c_under (c_sizes_s σ v) = c_under σ := rfl
theorem Cq_nextS_sizes (σ : CSt) (v : (Nat → Int32)) : c_nextS (c_sizes_s σ v) = c_nextS σ := rfl
theorem Cq_rounds_sizes (σ : CSt) (v : (Nat → Int32)) : c_rounds (c_sizes_s σ v) = c_rounds σ := rfl
theorem Cq_steps_sizes (σ : CSt) (v : (Nat → Int32)) : c_steps (c_sizes_s σ v) = c_steps σ := rfl
theorem Cq_shaded_sizes (σ : CSt) (v : (Nat → Int32)) : c_shaded (c_sizes_s σ v) = c_shaded σ := rfl
theorem Cq_moved_sizes (σ : CSt) (v : (Nat → Int32)) : c_moved (c_sizes_s σ v) = c_moved σ := rfl
theorem Cq_tmade_sizes (σ : CSt) (v : (Nat → Int32)) : c_tmade (c_sizes_s σ v) = c_tmade σ := rfl
theorem Cq_sizes_sizes (σ : CSt) (v : (Nat → Int32)) : c_sizes (c_sizes_s σ v) = v := rfl
theorem Cq_places_sizes (σ : CSt) (v : (Nat → Int32)) : c_places (c_sizes_s σ v) = c_places σ := rfl
theorem Cq_colours_sizes (σ : CSt) (v : (Nat → Int32)) : c_colours (c_sizes_s σ v) = c_colours σ := rfl
theorem Cq_moves_sizes (σ : CSt) (v : (Nat → Int32)) : c_moves (c_sizes_s σ v) = c_moves σ := rfl
theorem Cq_freed_sizes (σ : CSt) (v : (Nat → Int32)) : c_freed (c_sizes_s σ v) = c_freed σ := rfl
theorem Cq_wishing_sizes (σ : CSt) (v : (Nat → Int32)) : c_wishing (c_sizes_s σ v) = c_wishing σ := rfl
theorem Cq_theld_sizes (σ : CSt) (v : (Nat → Int32)) : c_theld (c_sizes_s σ v) = c_theld σ := rfl
theorem Cq_cmap_sizes (σ : CSt) (v : (Nat → Int32)) : c_cmap (c_sizes_s σ v) = c_cmap σ := rfl
theorem Cq_halfEnd_sizes (σ : CSt) (v : (Nat → Int32)) : c_halfEnd (c_sizes_s σ v) = c_halfEnd σ := rfl
theorem Cq_behind_sizes (σ : CSt) (v : (Nat → Int32)) : c_behind (c_sizes_s σ v) = c_behind σ := rfl
theorem Cq_hheld_sizes (σ : CSt) (v : (Nat → Int32)) : c_hheld (c_sizes_s σ v) = c_hheld σ := rfl
theorem Cq_named_sizes (σ : CSt) (v : (Nat → Int32)) : c_named (c_sizes_s σ v) = c_named σ := rfl
theorem Cq_wishes_sizes (σ : CSt) (v : (Nat → Int32)) : c_wishes (c_sizes_s σ v) = c_wishes σ := rfl
theorem Cq_pmade_sizes (σ : CSt) (v : (Nat → Int32)) : c_pmade (c_sizes_s σ v) = c_pmade σ := rfl
theorem Cq_keys_sizes (σ : CSt) (v : (Nat → Int32)) : c_keys (c_sizes_s σ v) = c_keys σ := rfl
theorem Cq_values_sizes (σ : CSt) (v : (Nat → Int32)) : c_values (c_sizes_s σ v) = c_values σ := rfl
theorem Cq_found_sizes (σ : CSt) (v : (Nat → Int32)) : c_found (c_sizes_s σ v) = c_found σ := rfl
theorem Cq_order_sizes (σ : CSt) (v : (Nat → Int32)) : c_order (c_sizes_s σ v) = c_order σ := rfl
theorem Cq_rcount_sizes (σ : CSt) (v : (Nat → Int32)) : c_rcount (c_sizes_s σ v) = c_rcount σ := rfl
theorem Cq_manner_places (σ : CSt) (v : (Nat → Int32)) : c_manner (c_places_s σ v) = c_manner σ := rfl
theorem Cq_fault_places (σ : CSt) (v : (Nat → Int32)) : c_fault (c_places_s σ v) = c_fault σ := rfl
theorem Cq_under_places (σ : CSt) (v : (Nat → Int32)) : c_under (c_places_s σ v) = c_under σ := rfl
theorem Cq_nextS_places (σ : CSt) (v : (Nat → Int32)) : c_nextS (c_places_s σ v) = c_nextS σ := rfl
theorem Cq_rounds_places (σ : CSt) (v : (Nat → Int32)) : c_rounds (c_places_s σ v) = c_rounds σ := rfl
theorem Cq_steps_places (σ : CSt) (v : (Nat → Int32)) : c_steps (c_places_s σ v) = c_steps σ := rfl
theorem Cq_shaded_places (σ : CSt) (v : (Nat → Int32)) : c_shaded (c_places_s σ v) = c_shaded σ := rfl
theorem Cq_moved_places (σ : CSt) (v : (Nat → Int32)) : c_moved (c_places_s σ v) = c_moved σ := rfl
theorem Cq_tmade_places (σ : CSt) (v : (Nat → Int32)) : c_tmade (c_places_s σ v) = c_tmade σ := rfl
theorem Cq_sizes_places (σ : CSt) (v : (Nat → Int32)) : c_sizes (c_places_s σ v) = c_sizes σ := rfl
theorem Cq_places_places (σ : CSt) (v : (Nat → Int32)) : c_places (c_places_s σ v) = v := rfl
theorem Cq_colours_places (σ : CSt) (v : (Nat → Int32)) : c_colours (c_places_s σ v) = c_colours σ := rfl
theorem Cq_moves_places (σ : CSt) (v : (Nat → Int32)) : c_moves (c_places_s σ v) = c_moves σ := rfl
theorem Cq_freed_places (σ : CSt) (v : (Nat → Int32)) : c_freed (c_places_s σ v) = c_freed σ := rfl
theorem Cq_wishing_places (σ : CSt) (v : (Nat → Int32)) : c_wishing (c_places_s σ v) = c_wishing σ := rfl
theorem Cq_theld_places (σ : CSt) (v : (Nat → Int32)) : c_theld (c_places_s σ v) = c_theld σ := rfl
theorem Cq_cmap_places (σ : CSt) (v : (Nat → Int32)) : c_cmap (c_places_s σ v) = c_cmap σ := rfl
theorem Cq_halfEnd_places (σ : CSt) (v : (Nat → Int32)) : c_halfEnd (c_places_s σ v) = c_halfEnd σ := rfl
theorem Cq_behind_places (σ : CSt) (v : (Nat → Int32)) : c_behind (c_places_s σ v) = c_behind σ := rfl
theorem Cq_hheld_places (σ : CSt) (v : (Nat → Int32)) : c_hheld (c_places_s σ v) = c_hheld σ := rfl
theorem Cq_named_places (σ : CSt) (v : (Nat → Int32)) : c_named (c_places_s σ v) = c_named σ := rfl
theorem Cq_wishes_places (σ : CSt) (v : (Nat → Int32)) : c_wishes (c_places_s σ v) = c_wishes σ := rfl
theorem Cq_pmade_places (σ : CSt) (v : (Nat → Int32)) : c_pmade (c_places_s σ v) = c_pmade σ := rfl
theorem Cq_keys_places (σ : CSt) (v : (Nat → Int32)) : c_keys (c_places_s σ v) = c_keys σ := rfl
theorem Cq_values_places (σ : CSt) (v : (Nat → Int32)) : c_values (c_places_s σ v) = c_values σ := rfl
theorem Cq_found_places (σ : CSt) (v : (Nat → Int32)) : c_found (c_places_s σ v) = c_found σ := rfl
theorem Cq_order_places (σ : CSt) (v : (Nat → Int32)) : c_order (c_places_s σ v) = c_order σ := rfl
theorem Cq_rcount_places (σ : CSt) (v : (Nat → Int32)) : c_rcount (c_places_s σ v) = c_rcount σ := rfl
theorem Cq_manner_colours (σ : CSt) (v : (Nat → Int32)) : c_manner (c_colours_s σ v) = c_manner σ := rfl
theorem Cq_fault_colours (σ : CSt) (v : (Nat → Int32)) : c_fault (c_colours_s σ v) = c_fault σ := rfl
theorem Cq_under_colours (σ : CSt) (v : (Nat → Int32)) : c_under (c_colours_s σ v) = c_under σ := rfl
theorem Cq_nextS_colours (σ : CSt) (v : (Nat → Int32)) : c_nextS (c_colours_s σ v) = c_nextS σ := rfl
theorem Cq_rounds_colours (σ : CSt) (v : (Nat → Int32)) : c_rounds (c_colours_s σ v) = c_rounds σ := rfl
theorem Cq_steps_colours (σ : CSt) (v : (Nat → Int32)) : c_steps (c_colours_s σ v) = c_steps σ := rfl
theorem Cq_shaded_colours (σ : CSt) (v : (Nat → Int32)) : c_shaded (c_colours_s σ v) = c_shaded σ := rfl
theorem Cq_moved_colours (σ : CSt) (v : (Nat → Int32)) : c_moved (c_colours_s σ v) = c_moved σ := rfl
theorem Cq_tmade_colours (σ : CSt) (v : (Nat → Int32)) : c_tmade (c_colours_s σ v) = c_tmade σ := rfl
theorem Cq_sizes_colours (σ : CSt) (v : (Nat → Int32)) : c_sizes (c_colours_s σ v) = c_sizes σ := rfl
theorem Cq_places_colours (σ : CSt) (v : (Nat → Int32)) : c_places (c_colours_s σ v) = c_places σ := rfl
theorem Cq_colours_colours (σ : CSt) (v : (Nat → Int32)) : c_colours (c_colours_s σ v) = v := rfl
theorem Cq_moves_colours (σ : CSt) (v : (Nat → Int32)) : c_moves (c_colours_s σ v) = c_moves σ := rfl
theorem Cq_freed_colours (σ : CSt) (v : (Nat → Int32)) : c_freed (c_colours_s σ v) = c_freed σ := rfl
theorem Cq_wishing_colours (σ : CSt) (v : (Nat → Int32)) : c_wishing (c_colours_s σ v) = c_wishing σ := rfl
theorem Cq_theld_colours (σ : CSt) (v : (Nat → Int32)) : c_theld (c_colours_s σ v) = c_theld σ := rfl
theorem Cq_cmap_colours (σ : CSt) (v : (Nat → Int32)) : c_cmap (c_colours_s σ v) = c_cmap σ := rfl
theorem Cq_halfEnd_colours (σ : CSt) (v : (Nat → Int32)) : c_halfEnd (c_colours_s σ v) = c_halfEnd σ := rfl
theorem Cq_behind_colours (σ : CSt) (v : (Nat → Int32)) : c_behind (c_colours_s σ v) = c_behind σ := rfl
theorem Cq_hheld_colours (σ : CSt) (v : (Nat → Int32)) : c_hheld (c_colours_s σ v) = c_hheld σ := rfl
theorem Cq_named_colours (σ : CSt) (v : (Nat → Int32)) : c_named (c_colours_s σ v) = c_named σ := rfl
theorem Cq_wishes_colours (σ : CSt) (v : (Nat → Int32)) : c_wishes (c_colours_s σ v) = c_wishes σ := rfl
theorem Cq_pmade_colours (σ : CSt) (v : (Nat → Int32)) : c_pmade (c_colours_s σ v) = c_pmade σ := rfl
theorem Cq_keys_colours (σ : CSt) (v : (Nat → Int32)) : c_keys (c_colours_s σ v) = c_keys σ := rfl
theorem Cq_values_colours (σ : CSt) (v : (Nat → Int32)) : c_values (c_colours_s σ v) = c_values σ := rfl
theorem Cq_found_colours (σ : CSt) (v : (Nat → Int32)) : c_found (c_colours_s σ v) = c_found σ := rfl
theorem Cq_order_colours (σ : CSt) (v : (Nat → Int32)) : c_order (c_colours_s σ v) = c_order σ := rfl
theorem Cq_rcount_colours (σ : CSt) (v : (Nat → Int32)) : c_rcount (c_colours_s σ v) = c_rcount σ := rfl
theorem Cq_manner_moves (σ : CSt) (v : (Nat → Int32)) : c_manner (c_moves_s σ v) = c_manner σ := rfl
theorem Cq_fault_moves (σ : CSt) (v : (Nat → Int32)) : c_fault (c_moves_s σ v) = c_fault σ := rfl
theorem Cq_under_moves (σ : CSt) (v : (Nat → Int32)) : c_under (c_moves_s σ v) = c_under σ := rfl
theorem Cq_nextS_moves (σ : CSt) (v : (Nat → Int32)) : c_nextS (c_moves_s σ v) = c_nextS σ := rfl
theorem Cq_rounds_moves (σ : CSt) (v : (Nat → Int32)) : c_rounds (c_moves_s σ v) = c_rounds σ := rfl
theorem Cq_steps_moves (σ : CSt) (v : (Nat → Int32)) : c_steps (c_moves_s σ v) = c_steps σ := rfl
theorem Cq_shaded_moves (σ : CSt) (v : (Nat → Int32)) : c_shaded (c_moves_s σ v) = c_shaded σ := rfl
theorem Cq_moved_moves (σ : CSt) (v : (Nat → Int32)) : c_moved (c_moves_s σ v) = c_moved σ := rfl
theorem Cq_tmade_moves (σ : CSt) (v : (Nat → Int32)) : c_tmade (c_moves_s σ v) = c_tmade σ := rfl
theorem Cq_sizes_moves (σ : CSt) (v : (Nat → Int32)) : c_sizes (c_moves_s σ v) = c_sizes σ := rfl
theorem Cq_places_moves (σ : CSt) (v : (Nat → Int32)) : c_places (c_moves_s σ v) = c_places σ := rfl
theorem Cq_colours_moves (σ : CSt) (v : (Nat → Int32)) : c_colours (c_moves_s σ v) = c_colours σ := rfl
theorem Cq_moves_moves (σ : CSt) (v : (Nat → Int32)) : c_moves (c_moves_s σ v) = v := rfl
theorem Cq_freed_moves (σ : CSt) (v : (Nat → Int32)) : c_freed (c_moves_s σ v) = c_freed σ := rfl
theorem Cq_wishing_moves (σ : CSt) (v : (Nat → Int32)) : c_wishing (c_moves_s σ v) = c_wishing σ := rfl
theorem Cq_theld_moves (σ : CSt) (v : (Nat → Int32)) : c_theld (c_moves_s σ v) = c_theld σ := rfl
theorem Cq_cmap_moves (σ : CSt) (v : (Nat → Int32)) : c_cmap (c_moves_s σ v) = c_cmap σ := rfl
theorem Cq_halfEnd_moves (σ : CSt) (v : (Nat → Int32)) : c_halfEnd (c_moves_s σ v) = c_halfEnd σ := rfl
theorem Cq_behind_moves (σ : CSt) (v : (Nat → Int32)) : c_behind (c_moves_s σ v) = c_behind σ := rfl
theorem Cq_hheld_moves (σ : CSt) (v : (Nat → Int32)) : c_hheld (c_moves_s σ v) = c_hheld σ := rfl
theorem Cq_named_moves (σ : CSt) (v : (Nat → Int32)) : c_named (c_moves_s σ v) = c_named σ := rfl
theorem Cq_wishes_moves (σ : CSt) (v : (Nat → Int32)) : c_wishes (c_moves_s σ v) = c_wishes σ := rfl
theorem Cq_pmade_moves (σ : CSt) (v : (Nat → Int32)) : c_pmade (c_moves_s σ v) = c_pmade σ := rfl
theorem Cq_keys_moves (σ : CSt) (v : (Nat → Int32)) : c_keys (c_moves_s σ v) = c_keys σ := rfl
theorem Cq_values_moves (σ : CSt) (v : (Nat → Int32)) : c_values (c_moves_s σ v) = c_values σ := rfl
theorem Cq_found_moves (σ : CSt) (v : (Nat → Int32)) : c_found (c_moves_s σ v) = c_found σ := rfl
theorem Cq_order_moves (σ : CSt) (v : (Nat → Int32)) : c_order (c_moves_s σ v) = c_order σ := rfl
theorem Cq_rcount_moves (σ : CSt) (v : (Nat → Int32)) : c_rcount (c_moves_s σ v) = c_rcount σ := rfl
theorem Cq_manner_freed (σ : CSt) (v : (Nat → Int32)) : c_manner (c_freed_s σ v) = c_manner σ := rfl
theorem Cq_fault_freed (σ : CSt) (v : (Nat → Int32)) : c_fault (c_freed_s σ v) = c_fault σ := rfl
theorem Cq_under_freed (σ : CSt) (v : (Nat → Int32)) : c_under (c_freed_s σ v) = c_under σ := rfl
theorem Cq_nextS_freed (σ : CSt) (v : (Nat → Int32)) : c_nextS (c_freed_s σ v) = c_nextS σ := rfl
theorem Cq_rounds_freed (σ : CSt) (v : (Nat → Int32)) : c_rounds (c_freed_s σ v) = c_rounds σ := rfl
theorem Cq_steps_freed (σ : CSt) (v : (Nat → Int32)) : c_steps (c_freed_s σ v) = c_steps σ := rfl
theorem Cq_shaded_freed (σ : CSt) (v : (Nat → Int32)) : c_shaded (c_freed_s σ v) = c_shaded σ := rfl
theorem Cq_moved_freed (σ : CSt) (v : (Nat → Int32)) : c_moved (c_freed_s σ v) = c_moved σ := rfl
theorem Cq_tmade_freed (σ : CSt) (v : (Nat → Int32)) : c_tmade (c_freed_s σ v) = c_tmade σ := rfl
theorem Cq_sizes_freed (σ : CSt) (v : (Nat → Int32)) : c_sizes (c_freed_s σ v) = c_sizes σ := rfl
theorem Cq_places_freed (σ : CSt) (v : (Nat → Int32)) : c_places (c_freed_s σ v) = c_places σ := rfl
theorem Cq_colours_freed (σ : CSt) (v : (Nat → Int32)) : c_colours (c_freed_s σ v) = c_colours σ := rfl
theorem Cq_moves_freed (σ : CSt) (v : (Nat → Int32)) : c_moves (c_freed_s σ v) = c_moves σ := rfl
theorem Cq_freed_freed (σ : CSt) (v : (Nat → Int32)) : c_freed (c_freed_s σ v) = v := rfl
theorem Cq_wishing_freed (σ : CSt) (v : (Nat → Int32)) : c_wishing (c_freed_s σ v) = c_wishing σ := rfl
theorem Cq_theld_freed (σ : CSt) (v : (Nat → Int32)) : c_theld (c_freed_s σ v) = c_theld σ := rfl
theorem Cq_cmap_freed (σ : CSt) (v : (Nat → Int32)) : c_cmap (c_freed_s σ v) = c_cmap σ := rfl
theorem Cq_halfEnd_freed (σ : CSt) (v : (Nat → Int32)) : c_halfEnd (c_freed_s σ v) = c_halfEnd σ := rfl
theorem Cq_behind_freed (σ : CSt) (v : (Nat → Int32)) : c_behind (c_freed_s σ v) = c_behind σ := rfl
theorem Cq_hheld_freed (σ : CSt) (v : (Nat → Int32)) : c_hheld (c_freed_s σ v) = c_hheld σ := rfl
theorem Cq_named_freed (σ : CSt) (v : (Nat → Int32)) : c_named (c_freed_s σ v) = c_named σ := rfl
theorem Cq_wishes_freed (σ : CSt) (v : (Nat → Int32)) : c_wishes (c_freed_s σ v) = c_wishes σ := rfl
theorem Cq_pmade_freed (σ : CSt) (v : (Nat → Int32)) : c_pmade (c_freed_s σ v) = c_pmade σ := rfl
theorem Cq_keys_freed (σ : CSt) (v : (Nat → Int32)) : c_keys (c_freed_s σ v) = c_keys σ := rfl
theorem Cq_values_freed (σ : CSt) (v : (Nat → Int32)) : c_values (c_freed_s σ v) = c_values σ := rfl
theorem Cq_found_freed (σ : CSt) (v : (Nat → Int32)) : c_found (c_freed_s σ v) = c_found σ := rfl
theorem Cq_order_freed (σ : CSt) (v : (Nat → Int32)) : c_order (c_freed_s σ v) = c_order σ := rfl
theorem Cq_rcount_freed (σ : CSt) (v : (Nat → Int32)) : c_rcount (c_freed_s σ v) = c_rcount σ := rfl
theorem Cq_manner_wishing (σ : CSt) (v : (Nat → Int32)) : c_manner (c_wishing_s σ v) = c_manner σ := rfl
theorem Cq_fault_wishing (σ : CSt) (v : (Nat → Int32)) : c_fault (c_wishing_s σ v) = c_fault σ := rfl
theorem Cq_under_wishing (σ : CSt) (v : (Nat → Int32)) : c_under (c_wishing_s σ v) = c_under σ := rfl
theorem Cq_nextS_wishing (σ : CSt) (v : (Nat → Int32)) : c_nextS (c_wishing_s σ v) = c_nextS σ := rfl
theorem Cq_rounds_wishing (σ : CSt) (v : (Nat → Int32)) : c_rounds (c_wishing_s σ v) = c_rounds σ := rfl
theorem Cq_steps_wishing (σ : CSt) (v : (Nat → Int32)) : c_steps (c_wishing_s σ v) = c_steps σ := rfl
theorem Cq_shaded_wishing (σ : CSt) (v : (Nat → Int32)) : c_shaded (c_wishing_s σ v) = c_shaded σ := rfl
theorem Cq_moved_wishing (σ : CSt) (v : (Nat → Int32)) : c_moved (c_wishing_s σ v) = c_moved σ := rfl
theorem Cq_tmade_wishing (σ : CSt) (v : (Nat → Int32)) : c_tmade (c_wishing_s σ v) = c_tmade σ := rfl
theorem Cq_sizes_wishing (σ : CSt) (v : (Nat → Int32)) : c_sizes (c_wishing_s σ v) = c_sizes σ := rfl
theorem Cq_places_wishing (σ : CSt) (v : (Nat → Int32)) : c_places (c_wishing_s σ v) = c_places σ := rfl
theorem Cq_colours_wishing (σ : CSt) (v : (Nat → Int32)) : c_colours (c_wishing_s σ v) = c_colours σ := rfl
theorem Cq_moves_wishing (σ : CSt) (v : (Nat → Int32)) : c_moves (c_wishing_s σ v) = c_moves σ := rfl
theorem Cq_freed_wishing (σ : CSt) (v : (Nat → Int32)) : c_freed (c_wishing_s σ v) = c_freed σ := rfl
theorem Cq_wishing_wishing (σ : CSt) (v : (Nat → Int32)) : c_wishing (c_wishing_s σ v) = v := rfl
theorem Cq_theld_wishing (σ : CSt) (v : (Nat → Int32)) : c_theld (c_wishing_s σ v) = c_theld σ := rfl
theorem Cq_cmap_wishing (σ : CSt) (v : (Nat → Int32)) : c_cmap (c_wishing_s σ v) = c_cmap σ := rfl
theorem Cq_halfEnd_wishing (σ : CSt) (v : (Nat → Int32)) : c_halfEnd (c_wishing_s σ v) = c_halfEnd σ := rfl
theorem Cq_behind_wishing (σ : CSt) (v : (Nat → Int32)) : c_behind (c_wishing_s σ v) = c_behind σ := rfl
theorem Cq_hheld_wishing (σ : CSt) (v : (Nat → Int32)) : c_hheld (c_wishing_s σ v) = c_hheld σ := rfl
theorem Cq_named_wishing (σ : CSt) (v : (Nat → Int32)) : c_named (c_wishing_s σ v) = c_named σ := rfl
theorem Cq_wishes_wishing (σ : CSt) (v : (Nat → Int32)) : c_wishes (c_wishing_s σ v) = c_wishes σ := rfl
theorem Cq_pmade_wishing (σ : CSt) (v : (Nat → Int32)) : c_pmade (c_wishing_s σ v) = c_pmade σ := rfl
theorem Cq_keys_wishing (σ : CSt) (v : (Nat → Int32)) : c_keys (c_wishing_s σ v) = c_keys σ := rfl
theorem Cq_values_wishing (σ : CSt) (v : (Nat → Int32)) : c_values (c_wishing_s σ v) = c_values σ := rfl
theorem Cq_found_wishing (σ : CSt) (v : (Nat → Int32)) : c_found (c_wishing_s σ v) = c_found σ := rfl
theorem Cq_order_wishing (σ : CSt) (v : (Nat → Int32)) : c_order (c_wishing_s σ v) = c_order σ := rfl
theorem Cq_rcount_wishing (σ : CSt) (v : (Nat → Int32)) : c_rcount (c_wishing_s σ v) = c_rcount σ := rfl
theorem Cq_manner_theld (σ : CSt) (v : (Nat → Int32)) : c_manner (c_theld_s σ v) = c_manner σ := rfl
theorem Cq_fault_theld (σ : CSt) (v : (Nat → Int32)) : c_fault (c_theld_s σ v) = c_fault σ := rfl
theorem Cq_under_theld (σ : CSt) (v : (Nat → Int32)) : c_under (c_theld_s σ v) = c_under σ := rfl
theorem Cq_nextS_theld (σ : CSt) (v : (Nat → Int32)) : c_nextS (c_theld_s σ v) = c_nextS σ := rfl
theorem Cq_rounds_theld (σ : CSt) (v : (Nat → Int32)) : c_rounds (c_theld_s σ v) = c_rounds σ := rfl
theorem Cq_steps_theld (σ : CSt) (v : (Nat → Int32)) : c_steps (c_theld_s σ v) = c_steps σ := rfl
theorem Cq_shaded_theld (σ : CSt) (v : (Nat → Int32)) : c_shaded (c_theld_s σ v) = c_shaded σ := rfl
theorem Cq_moved_theld (σ : CSt) (v : (Nat → Int32)) : c_moved (c_theld_s σ v) = c_moved σ := rfl
theorem Cq_tmade_theld (σ : CSt) (v : (Nat → Int32)) : c_tmade (c_theld_s σ v) = c_tmade σ := rfl
theorem Cq_sizes_theld (σ : CSt) (v : (Nat → Int32)) : c_sizes (c_theld_s σ v) = c_sizes σ := rfl
theorem Cq_places_theld (σ : CSt) (v : (Nat → Int32)) : c_places (c_theld_s σ v) = c_places σ := rfl
theorem Cq_colours_theld (σ : CSt) (v : (Nat → Int32)) : c_colours (c_theld_s σ v) = c_colours σ := rfl
theorem Cq_moves_theld (σ : CSt) (v : (Nat → Int32)) : c_moves (c_theld_s σ v) = c_moves σ := rfl
theorem Cq_freed_theld (σ : CSt) (v : (Nat → Int32)) : c_freed (c_theld_s σ v) = c_freed σ := rfl
theorem Cq_wishing_theld (σ : CSt) (v : (Nat → Int32)) : c_wishing (c_theld_s σ v) = c_wishing σ := rfl
theorem Cq_theld_theld (σ : CSt) (v : (Nat → Int32)) : c_theld (c_theld_s σ v) = v := rfl
theorem Cq_cmap_theld (σ : CSt) (v : (Nat → Int32)) : c_cmap (c_theld_s σ v) = c_cmap σ := rfl
theorem Cq_halfEnd_theld (σ : CSt) (v : (Nat → Int32)) : c_halfEnd (c_theld_s σ v) = c_halfEnd σ := rfl
theorem Cq_behind_theld (σ : CSt) (v : (Nat → Int32)) : c_behind (c_theld_s σ v) = c_behind σ := rfl
theorem Cq_hheld_theld (σ : CSt) (v : (Nat → Int32)) : c_hheld (c_theld_s σ v) = c_hheld σ := rfl
theorem Cq_named_theld (σ : CSt) (v : (Nat → Int32)) : c_named (c_theld_s σ v) = c_named σ := rfl
theorem Cq_wishes_theld (σ : CSt) (v : (Nat → Int32)) : c_wishes (c_theld_s σ v) = c_wishes σ := rfl
theorem Cq_pmade_theld (σ : CSt) (v : (Nat → Int32)) : c_pmade (c_theld_s σ v) = c_pmade σ := rfl
theorem Cq_keys_theld (σ : CSt) (v : (Nat → Int32)) : c_keys (c_theld_s σ v) = c_keys σ := rfl
theorem Cq_values_theld (σ : CSt) (v : (Nat → Int32)) : c_values (c_theld_s σ v) = c_values σ := rfl
theorem Cq_found_theld (σ : CSt) (v : (Nat → Int32)) : c_found (c_theld_s σ v) = c_found σ := rfl
theorem Cq_order_theld (σ : CSt) (v : (Nat → Int32)) : c_order (c_theld_s σ v) = c_order σ := rfl
theorem Cq_rcount_theld (σ : CSt) (v : (Nat → Int32)) : c_rcount (c_theld_s σ v) = c_rcount σ := rfl
theorem Cq_manner_cmap (σ : CSt) (v : (Nat → Int32)) : c_manner (c_cmap_s σ v) = c_manner σ := rfl
theorem Cq_fault_cmap (σ : CSt) (v : (Nat → Int32)) : c_fault (c_cmap_s σ v) = c_fault σ := rfl
theorem Cq_under_cmap (σ : CSt) (v : (Nat → Int32)) : c_under (c_cmap_s σ v) = c_under σ := rfl
theorem Cq_nextS_cmap (σ : CSt) (v : (Nat → Int32)) : c_nextS (c_cmap_s σ v) = c_nextS σ := rfl
theorem Cq_rounds_cmap (σ : CSt) (v : (Nat → Int32)) : c_rounds (c_cmap_s σ v) = c_rounds σ := rfl
theorem Cq_steps_cmap (σ : CSt) (v : (Nat → Int32)) : c_steps (c_cmap_s σ v) = c_steps σ := rfl
theorem Cq_shaded_cmap (σ : CSt) (v : (Nat → Int32)) : c_shaded (c_cmap_s σ v) = c_shaded σ := rfl
theorem Cq_moved_cmap (σ : CSt) (v : (Nat → Int32)) : c_moved (c_cmap_s σ v) = c_moved σ := rfl
theorem Cq_tmade_cmap (σ : CSt) (v : (Nat → Int32)) : c_tmade (c_cmap_s σ v) = c_tmade σ := rfl
theorem Cq_sizes_cmap (σ : CSt) (v : (Nat → Int32)) : c_sizes (c_cmap_s σ v) = c_sizes σ := rfl
theorem Cq_places_cmap (σ : CSt) (v : (Nat → Int32)) : c_places (c_cmap_s σ v) = c_places σ := rfl
theorem Cq_colours_cmap (σ : CSt) (v : (Nat → Int32)) : c_colours (c_cmap_s σ v) = c_colours σ := rfl
theorem Cq_moves_cmap (σ : CSt) (v : (Nat → Int32)) : c_moves (c_cmap_s σ v) = c_moves σ := rfl
theorem Cq_freed_cmap (σ : CSt) (v : (Nat → Int32)) : c_freed (c_cmap_s σ v) = c_freed σ := rfl
theorem Cq_wishing_cmap (σ : CSt) (v : (Nat → Int32)) : c_wishing (c_cmap_s σ v) = c_wishing σ := rfl
theorem Cq_theld_cmap (σ : CSt) (v : (Nat → Int32)) : c_theld (c_cmap_s σ v) = c_theld σ := rfl
theorem Cq_cmap_cmap (σ : CSt) (v : (Nat → Int32)) : c_cmap (c_cmap_s σ v) = v := rfl
theorem Cq_halfEnd_cmap (σ : CSt) (v : (Nat → Int32)) : c_halfEnd (c_cmap_s σ v) = c_halfEnd σ := rfl
theorem Cq_behind_cmap (σ : CSt) (v : (Nat → Int32)) : c_behind (c_cmap_s σ v) = c_behind σ := rfl
theorem Cq_hheld_cmap (σ : CSt) (v : (Nat → Int32)) : c_hheld (c_cmap_s σ v) = c_hheld σ := rfl
theorem Cq_named_cmap (σ : CSt) (v : (Nat → Int32)) : c_named (c_cmap_s σ v) = c_named σ := rfl
theorem Cq_wishes_cmap (σ : CSt) (v : (Nat → Int32)) : c_wishes (c_cmap_s σ v) = c_wishes σ := rfl
theorem Cq_pmade_cmap (σ : CSt) (v : (Nat → Int32)) : c_pmade (c_cmap_s σ v) = c_pmade σ := rfl
theorem Cq_keys_cmap (σ : CSt) (v : (Nat → Int32)) : c_keys (c_cmap_s σ v) = c_keys σ := rfl
theorem Cq_values_cmap (σ : CSt) (v : (Nat → Int32)) : c_values (c_cmap_s σ v) = c_values σ := rfl
theorem Cq_found_cmap (σ : CSt) (v : (Nat → Int32)) : c_found (c_cmap_s σ v) = c_found σ := rfl
theorem Cq_order_cmap (σ : CSt) (v : (Nat → Int32)) : c_order (c_cmap_s σ v) = c_order σ := rfl
theorem Cq_rcount_cmap (σ : CSt) (v : (Nat → Int32)) : c_rcount (c_cmap_s σ v) = c_rcount σ := rfl
theorem Cq_manner_halfEnd (σ : CSt) (v : Int32) : c_manner (c_halfEnd_s σ v) = c_manner σ := rfl
theorem Cq_fault_halfEnd (σ : CSt) (v : Int32) : c_fault (c_halfEnd_s σ v) = c_fault σ := rfl
theorem Cq_under_halfEnd (σ : CSt) (v : Int32) : c_under (c_halfEnd_s σ v) = c_under σ := rfl
theorem Cq_nextS_halfEnd (σ : CSt) (v : Int32) : c_nextS (c_halfEnd_s σ v) = c_nextS σ := rfl
theorem Cq_rounds_halfEnd (σ : CSt) (v : Int32) : c_rounds (c_halfEnd_s σ v) = c_rounds σ := rfl
theorem Cq_steps_halfEnd (σ : CSt) (v : Int32) : c_steps (c_halfEnd_s σ v) = c_steps σ := rfl
theorem Cq_shaded_halfEnd (σ : CSt) (v : Int32) : c_shaded (c_halfEnd_s σ v) = c_shaded σ := rfl
theorem Cq_moved_halfEnd (σ : CSt) (v : Int32) : c_moved (c_halfEnd_s σ v) = c_moved σ := rfl
theorem Cq_tmade_halfEnd (σ : CSt) (v : Int32) : c_tmade (c_halfEnd_s σ v) = c_tmade σ := rfl
theorem Cq_sizes_halfEnd (σ : CSt) (v : Int32) : c_sizes (c_halfEnd_s σ v) = c_sizes σ := rfl
theorem Cq_places_halfEnd (σ : CSt) (v : Int32) : c_places (c_halfEnd_s σ v) = c_places σ := rfl
theorem Cq_colours_halfEnd (σ : CSt) (v : Int32) : c_colours (c_halfEnd_s σ v) = c_colours σ := rfl
theorem Cq_moves_halfEnd (σ : CSt) (v : Int32) : c_moves (c_halfEnd_s σ v) = c_moves σ := rfl
theorem Cq_freed_halfEnd (σ : CSt) (v : Int32) : c_freed (c_halfEnd_s σ v) = c_freed σ := rfl
theorem Cq_wishing_halfEnd (σ : CSt) (v : Int32) : c_wishing (c_halfEnd_s σ v) = c_wishing σ := rfl
theorem Cq_theld_halfEnd (σ : CSt) (v : Int32) : c_theld (c_halfEnd_s σ v) = c_theld σ := rfl
theorem Cq_cmap_halfEnd (σ : CSt) (v : Int32) : c_cmap (c_halfEnd_s σ v) = c_cmap σ := rfl
theorem Cq_halfEnd_halfEnd (σ : CSt) (v : Int32) : c_halfEnd (c_halfEnd_s σ v) = v := rfl
theorem Cq_behind_halfEnd (σ : CSt) (v : Int32) : c_behind (c_halfEnd_s σ v) = c_behind σ := rfl
theorem Cq_hheld_halfEnd (σ : CSt) (v : Int32) : c_hheld (c_halfEnd_s σ v) = c_hheld σ := rfl
theorem Cq_named_halfEnd (σ : CSt) (v : Int32) : c_named (c_halfEnd_s σ v) = c_named σ := rfl
theorem Cq_wishes_halfEnd (σ : CSt) (v : Int32) : c_wishes (c_halfEnd_s σ v) = c_wishes σ := rfl
theorem Cq_pmade_halfEnd (σ : CSt) (v : Int32) : c_pmade (c_halfEnd_s σ v) = c_pmade σ := rfl
theorem Cq_keys_halfEnd (σ : CSt) (v : Int32) : c_keys (c_halfEnd_s σ v) = c_keys σ := rfl
theorem Cq_values_halfEnd (σ : CSt) (v : Int32) : c_values (c_halfEnd_s σ v) = c_values σ := rfl
theorem Cq_found_halfEnd (σ : CSt) (v : Int32) : c_found (c_halfEnd_s σ v) = c_found σ := rfl
theorem Cq_order_halfEnd (σ : CSt) (v : Int32) : c_order (c_halfEnd_s σ v) = c_order σ := rfl
theorem Cq_rcount_halfEnd (σ : CSt) (v : Int32) : c_rcount (c_halfEnd_s σ v) = c_rcount σ := rfl
theorem Cq_manner_behind (σ : CSt) (v : Int32) : c_manner (c_behind_s σ v) = c_manner σ := rfl
theorem Cq_fault_behind (σ : CSt) (v : Int32) : c_fault (c_behind_s σ v) = c_fault σ := rfl
theorem Cq_under_behind (σ : CSt) (v : Int32) : c_under (c_behind_s σ v) = c_under σ := rfl
theorem Cq_nextS_behind (σ : CSt) (v : Int32) : c_nextS (c_behind_s σ v) = c_nextS σ := rfl
theorem Cq_rounds_behind (σ : CSt) (v : Int32) : c_rounds (c_behind_s σ v) = c_rounds σ := rfl
theorem Cq_steps_behind (σ : CSt) (v : Int32) : c_steps (c_behind_s σ v) = c_steps σ := rfl
theorem Cq_shaded_behind (σ : CSt) (v : Int32) : c_shaded (c_behind_s σ v) = c_shaded σ := rfl
theorem Cq_moved_behind (σ : CSt) (v : Int32) : c_moved (c_behind_s σ v) = c_moved σ := rfl
theorem Cq_tmade_behind (σ : CSt) (v : Int32) : c_tmade (c_behind_s σ v) = c_tmade σ := rfl
theorem Cq_sizes_behind (σ : CSt) (v : Int32) : c_sizes (c_behind_s σ v) = c_sizes σ := rfl
theorem Cq_places_behind (σ : CSt) (v : Int32) : c_places (c_behind_s σ v) = c_places σ := rfl
theorem Cq_colours_behind (σ : CSt) (v : Int32) : c_colours (c_behind_s σ v) = c_colours σ := rfl
theorem Cq_moves_behind (σ : CSt) (v : Int32) : c_moves (c_behind_s σ v) = c_moves σ := rfl
theorem Cq_freed_behind (σ : CSt) (v : Int32) : c_freed (c_behind_s σ v) = c_freed σ := rfl
theorem Cq_wishing_behind (σ : CSt) (v : Int32) : c_wishing (c_behind_s σ v) = c_wishing σ := rfl
theorem Cq_theld_behind (σ : CSt) (v : Int32) : c_theld (c_behind_s σ v) = c_theld σ := rfl
theorem Cq_cmap_behind (σ : CSt) (v : Int32) : c_cmap (c_behind_s σ v) = c_cmap σ := rfl
theorem Cq_halfEnd_behind (σ : CSt) (v : Int32) : c_halfEnd (c_behind_s σ v) = c_halfEnd σ := rfl
theorem Cq_behind_behind (σ : CSt) (v : Int32) : c_behind (c_behind_s σ v) = v := rfl
theorem Cq_hheld_behind (σ : CSt) (v : Int32) : c_hheld (c_behind_s σ v) = c_hheld σ := rfl
theorem Cq_named_behind (σ : CSt) (v : Int32) : c_named (c_behind_s σ v) = c_named σ := rfl
theorem Cq_wishes_behind (σ : CSt) (v : Int32) : c_wishes (c_behind_s σ v) = c_wishes σ := rfl
theorem Cq_pmade_behind (σ : CSt) (v : Int32) : c_pmade (c_behind_s σ v) = c_pmade σ := rfl
theorem Cq_keys_behind (σ : CSt) (v : Int32) : c_keys (c_behind_s σ v) = c_keys σ := rfl
theorem Cq_values_behind (σ : CSt) (v : Int32) : c_values (c_behind_s σ v) = c_values σ := rfl
theorem Cq_found_behind (σ : CSt) (v : Int32) : c_found (c_behind_s σ v) = c_found σ := rfl
theorem Cq_order_behind (σ : CSt) (v : Int32) : c_order (c_behind_s σ v) = c_order σ := rfl
theorem Cq_rcount_behind (σ : CSt) (v : Int32) : c_rcount (c_behind_s σ v) = c_rcount σ := rfl
theorem Cq_manner_hheld (σ : CSt) (v : (Nat → Int32)) : c_manner (c_hheld_s σ v) = c_manner σ := rfl
theorem Cq_fault_hheld (σ : CSt) (v : (Nat → Int32)) : c_fault (c_hheld_s σ v) = c_fault σ := rfl
theorem Cq_under_hheld (σ : CSt) (v : (Nat → Int32)) : c_under (c_hheld_s σ v) = c_under σ := rfl
theorem Cq_nextS_hheld (σ : CSt) (v : (Nat → Int32)) : c_nextS (c_hheld_s σ v) = c_nextS σ := rfl
theorem Cq_rounds_hheld (σ : CSt) (v : (Nat → Int32)) : c_rounds (c_hheld_s σ v) = c_rounds σ := rfl
theorem Cq_steps_hheld (σ : CSt) (v : (Nat → Int32)) : c_steps (c_hheld_s σ v) = c_steps σ := rfl
theorem Cq_shaded_hheld (σ : CSt) (v : (Nat → Int32)) : c_shaded (c_hheld_s σ v) = c_shaded σ := rfl
theorem Cq_moved_hheld (σ : CSt) (v : (Nat → Int32)) : c_moved (c_hheld_s σ v) = c_moved σ := rfl
theorem Cq_tmade_hheld (σ : CSt) (v : (Nat → Int32)) : c_tmade (c_hheld_s σ v) = c_tmade σ := rfl
theorem Cq_sizes_hheld (σ : CSt) (v : (Nat → Int32)) : c_sizes (c_hheld_s σ v) = c_sizes σ := rfl
theorem Cq_places_hheld (σ : CSt) (v : (Nat → Int32)) : c_places (c_hheld_s σ v) = c_places σ := rfl
theorem Cq_colours_hheld (σ : CSt) (v : (Nat → Int32)) : c_colours (c_hheld_s σ v) = c_colours σ := rfl
theorem Cq_moves_hheld (σ : CSt) (v : (Nat → Int32)) : c_moves (c_hheld_s σ v) = c_moves σ := rfl
theorem Cq_freed_hheld (σ : CSt) (v : (Nat → Int32)) : c_freed (c_hheld_s σ v) = c_freed σ := rfl
theorem Cq_wishing_hheld (σ : CSt) (v : (Nat → Int32)) : c_wishing (c_hheld_s σ v) = c_wishing σ := rfl
theorem Cq_theld_hheld (σ : CSt) (v : (Nat → Int32)) : c_theld (c_hheld_s σ v) = c_theld σ := rfl
theorem Cq_cmap_hheld (σ : CSt) (v : (Nat → Int32)) : c_cmap (c_hheld_s σ v) = c_cmap σ := rfl
theorem Cq_halfEnd_hheld (σ : CSt) (v : (Nat → Int32)) : c_halfEnd (c_hheld_s σ v) = c_halfEnd σ := rfl
theorem Cq_behind_hheld (σ : CSt) (v : (Nat → Int32)) : c_behind (c_hheld_s σ v) = c_behind σ := rfl
theorem Cq_hheld_hheld (σ : CSt) (v : (Nat → Int32)) : c_hheld (c_hheld_s σ v) = v := rfl
theorem Cq_named_hheld (σ : CSt) (v : (Nat → Int32)) : c_named (c_hheld_s σ v) = c_named σ := rfl
theorem Cq_wishes_hheld (σ : CSt) (v : (Nat → Int32)) : c_wishes (c_hheld_s σ v) = c_wishes σ := rfl
theorem Cq_pmade_hheld (σ : CSt) (v : (Nat → Int32)) : c_pmade (c_hheld_s σ v) = c_pmade σ := rfl
theorem Cq_keys_hheld (σ : CSt) (v : (Nat → Int32)) : c_keys (c_hheld_s σ v) = c_keys σ := rfl
theorem Cq_values_hheld (σ : CSt) (v : (Nat → Int32)) : c_values (c_hheld_s σ v) = c_values σ := rfl
theorem Cq_found_hheld (σ : CSt) (v : (Nat → Int32)) : c_found (c_hheld_s σ v) = c_found σ := rfl
theorem Cq_order_hheld (σ : CSt) (v : (Nat → Int32)) : c_order (c_hheld_s σ v) = c_order σ := rfl
theorem Cq_rcount_hheld (σ : CSt) (v : (Nat → Int32)) : c_rcount (c_hheld_s σ v) = c_rcount σ := rfl
theorem Cq_manner_named (σ : CSt) (v : (Nat → Int32)) : c_manner (c_named_s σ v) = c_manner σ := rfl
theorem Cq_fault_named (σ : CSt) (v : (Nat → Int32)) : c_fault (c_named_s σ v) = c_fault σ := rfl
theorem Cq_under_named (σ : CSt) (v : (Nat → Int32)) : c_under (c_named_s σ v) = c_under σ := rfl
theorem Cq_nextS_named (σ : CSt) (v : (Nat → Int32)) : c_nextS (c_named_s σ v) = c_nextS σ := rfl
theorem Cq_rounds_named (σ : CSt) (v : (Nat → Int32)) : c_rounds (c_named_s σ v) = c_rounds σ := rfl
theorem Cq_steps_named (σ : CSt) (v : (Nat → Int32)) : c_steps (c_named_s σ v) = c_steps σ := rfl
theorem Cq_shaded_named (σ : CSt) (v : (Nat → Int32)) : c_shaded (c_named_s σ v) = c_shaded σ := rfl
theorem Cq_moved_named (σ : CSt) (v : (Nat → Int32)) : c_moved (c_named_s σ v) = c_moved σ := rfl
theorem Cq_tmade_named (σ : CSt) (v : (Nat → Int32)) : c_tmade (c_named_s σ v) = c_tmade σ := rfl
theorem Cq_sizes_named (σ : CSt) (v : (Nat → Int32)) : c_sizes (c_named_s σ v) = c_sizes σ := rfl
theorem Cq_places_named (σ : CSt) (v : (Nat → Int32)) : c_places (c_named_s σ v) = c_places σ := rfl
theorem Cq_colours_named (σ : CSt) (v : (Nat → Int32)) : c_colours (c_named_s σ v) = c_colours σ := rfl
theorem Cq_moves_named (σ : CSt) (v : (Nat → Int32)) : c_moves (c_named_s σ v) = c_moves σ := rfl
theorem Cq_freed_named (σ : CSt) (v : (Nat → Int32)) : c_freed (c_named_s σ v) = c_freed σ := rfl
theorem Cq_wishing_named (σ : CSt) (v : (Nat → Int32)) : c_wishing (c_named_s σ v) = c_wishing σ := rfl
theorem Cq_theld_named (σ : CSt) (v : (Nat → Int32)) : c_theld (c_named_s σ v) = c_theld σ := rfl
theorem Cq_cmap_named (σ : CSt) (v : (Nat → Int32)) : c_cmap (c_named_s σ v) = c_cmap σ := rfl
theorem Cq_halfEnd_named (σ : CSt) (v : (Nat → Int32)) : c_halfEnd (c_named_s σ v) = c_halfEnd σ := rfl
theorem Cq_behind_named (σ : CSt) (v : (Nat → Int32)) : c_behind (c_named_s σ v) = c_behind σ := rfl
theorem Cq_hheld_named (σ : CSt) (v : (Nat → Int32)) : c_hheld (c_named_s σ v) = c_hheld σ := rfl
theorem Cq_named_named (σ : CSt) (v : (Nat → Int32)) : c_named (c_named_s σ v) = v := rfl
theorem Cq_wishes_named (σ : CSt) (v : (Nat → Int32)) : c_wishes (c_named_s σ v) = c_wishes σ := rfl
theorem Cq_pmade_named (σ : CSt) (v : (Nat → Int32)) : c_pmade (c_named_s σ v) = c_pmade σ := rfl
theorem Cq_keys_named (σ : CSt) (v : (Nat → Int32)) : c_keys (c_named_s σ v) = c_keys σ := rfl
theorem Cq_values_named (σ : CSt) (v : (Nat → Int32)) : c_values (c_named_s σ v) = c_values σ := rfl
theorem Cq_found_named (σ : CSt) (v : (Nat → Int32)) : c_found (c_named_s σ v) = c_found σ := rfl
theorem Cq_order_named (σ : CSt) (v : (Nat → Int32)) : c_order (c_named_s σ v) = c_order σ := rfl
theorem Cq_rcount_named (σ : CSt) (v : (Nat → Int32)) : c_rcount (c_named_s σ v) = c_rcount σ := rfl
theorem Cq_manner_wishes (σ : CSt) (v : Int32) : c_manner (c_wishes_s σ v) = c_manner σ := rfl
theorem Cq_fault_wishes (σ : CSt) (v : Int32) : c_fault (c_wishes_s σ v) = c_fault σ := rfl
theorem Cq_under_wishes (σ : CSt) (v : Int32) : c_under (c_wishes_s σ v) = c_under σ := rfl
theorem Cq_nextS_wishes (σ : CSt) (v : Int32) : c_nextS (c_wishes_s σ v) = c_nextS σ := rfl
theorem Cq_rounds_wishes (σ : CSt) (v : Int32) : c_rounds (c_wishes_s σ v) = c_rounds σ := rfl
theorem Cq_steps_wishes (σ : CSt) (v : Int32) : c_steps (c_wishes_s σ v) = c_steps σ := rfl
theorem Cq_shaded_wishes (σ : CSt) (v : Int32) : c_shaded (c_wishes_s σ v) = c_shaded σ := rfl
theorem Cq_moved_wishes (σ : CSt) (v : Int32) : c_moved (c_wishes_s σ v) = c_moved σ := rfl
theorem Cq_tmade_wishes (σ : CSt) (v : Int32) : c_tmade (c_wishes_s σ v) = c_tmade σ := rfl
theorem Cq_sizes_wishes (σ : CSt) (v : Int32) : c_sizes (c_wishes_s σ v) = c_sizes σ := rfl
theorem Cq_places_wishes (σ : CSt) (v : Int32) : c_places (c_wishes_s σ v) = c_places σ := rfl
theorem Cq_colours_wishes (σ : CSt) (v : Int32) : c_colours (c_wishes_s σ v) = c_colours σ := rfl
theorem Cq_moves_wishes (σ : CSt) (v : Int32) : c_moves (c_wishes_s σ v) = c_moves σ := rfl
theorem Cq_freed_wishes (σ : CSt) (v : Int32) : c_freed (c_wishes_s σ v) = c_freed σ := rfl
theorem Cq_wishing_wishes (σ : CSt) (v : Int32) : c_wishing (c_wishes_s σ v) = c_wishing σ := rfl
theorem Cq_theld_wishes (σ : CSt) (v : Int32) : c_theld (c_wishes_s σ v) = c_theld σ := rfl
theorem Cq_cmap_wishes (σ : CSt) (v : Int32) : c_cmap (c_wishes_s σ v) = c_cmap σ := rfl
theorem Cq_halfEnd_wishes (σ : CSt) (v : Int32) : c_halfEnd (c_wishes_s σ v) = c_halfEnd σ := rfl
theorem Cq_behind_wishes (σ : CSt) (v : Int32) : c_behind (c_wishes_s σ v) = c_behind σ := rfl
theorem Cq_hheld_wishes (σ : CSt) (v : Int32) : c_hheld (c_wishes_s σ v) = c_hheld σ := rfl
theorem Cq_named_wishes (σ : CSt) (v : Int32) : c_named (c_wishes_s σ v) = c_named σ := rfl
theorem Cq_wishes_wishes (σ : CSt) (v : Int32) : c_wishes (c_wishes_s σ v) = v := rfl
theorem Cq_pmade_wishes (σ : CSt) (v : Int32) : c_pmade (c_wishes_s σ v) = c_pmade σ := rfl
theorem Cq_keys_wishes (σ : CSt) (v : Int32) : c_keys (c_wishes_s σ v) = c_keys σ := rfl
theorem Cq_values_wishes (σ : CSt) (v : Int32) : c_values (c_wishes_s σ v) = c_values σ := rfl
theorem Cq_found_wishes (σ : CSt) (v : Int32) : c_found (c_wishes_s σ v) = c_found σ := rfl
theorem Cq_order_wishes (σ : CSt) (v : Int32) : c_order (c_wishes_s σ v) = c_order σ := rfl
theorem Cq_rcount_wishes (σ : CSt) (v : Int32) : c_rcount (c_wishes_s σ v) = c_rcount σ := rfl
theorem Cq_manner_pmade (σ : CSt) (v : Int32) : c_manner (c_pmade_s σ v) = c_manner σ := rfl
theorem Cq_fault_pmade (σ : CSt) (v : Int32) : c_fault (c_pmade_s σ v) = c_fault σ := rfl
theorem Cq_under_pmade (σ : CSt) (v : Int32) : c_under (c_pmade_s σ v) = c_under σ := rfl
theorem Cq_nextS_pmade (σ : CSt) (v : Int32) : c_nextS (c_pmade_s σ v) = c_nextS σ := rfl
theorem Cq_rounds_pmade (σ : CSt) (v : Int32) : c_rounds (c_pmade_s σ v) = c_rounds σ := rfl
theorem Cq_steps_pmade (σ : CSt) (v : Int32) : c_steps (c_pmade_s σ v) = c_steps σ := rfl
theorem Cq_shaded_pmade (σ : CSt) (v : Int32) : c_shaded (c_pmade_s σ v) = c_shaded σ := rfl
theorem Cq_moved_pmade (σ : CSt) (v : Int32) : c_moved (c_pmade_s σ v) = c_moved σ := rfl
theorem Cq_tmade_pmade (σ : CSt) (v : Int32) : c_tmade (c_pmade_s σ v) = c_tmade σ := rfl
theorem Cq_sizes_pmade (σ : CSt) (v : Int32) : c_sizes (c_pmade_s σ v) = c_sizes σ := rfl
theorem Cq_places_pmade (σ : CSt) (v : Int32) : c_places (c_pmade_s σ v) = c_places σ := rfl
theorem Cq_colours_pmade (σ : CSt) (v : Int32) : c_colours (c_pmade_s σ v) = c_colours σ := rfl
theorem Cq_moves_pmade (σ : CSt) (v : Int32) : c_moves (c_pmade_s σ v) = c_moves σ := rfl
theorem Cq_freed_pmade (σ : CSt) (v : Int32) : c_freed (c_pmade_s σ v) = c_freed σ := rfl
theorem Cq_wishing_pmade (σ : CSt) (v : Int32) : c_wishing (c_pmade_s σ v) = c_wishing σ := rfl
theorem Cq_theld_pmade (σ : CSt) (v : Int32) : c_theld (c_pmade_s σ v) = c_theld σ := rfl
theorem Cq_cmap_pmade (σ : CSt) (v : Int32) : c_cmap (c_pmade_s σ v) = c_cmap σ := rfl
theorem Cq_halfEnd_pmade (σ : CSt) (v : Int32) : c_halfEnd (c_pmade_s σ v) = c_halfEnd σ := rfl
theorem Cq_behind_pmade (σ : CSt) (v : Int32) : c_behind (c_pmade_s σ v) = c_behind σ := rfl
theorem Cq_hheld_pmade (σ : CSt) (v : Int32) : c_hheld (c_pmade_s σ v) = c_hheld σ := rfl
theorem Cq_named_pmade (σ : CSt) (v : Int32) : c_named (c_pmade_s σ v) = c_named σ := rfl
theorem Cq_wishes_pmade (σ : CSt) (v : Int32) : c_wishes (c_pmade_s σ v) = c_wishes σ := rfl
theorem Cq_pmade_pmade (σ : CSt) (v : Int32) : c_pmade (c_pmade_s σ v) = v := rfl
theorem Cq_keys_pmade (σ : CSt) (v : Int32) : c_keys (c_pmade_s σ v) = c_keys σ := rfl
theorem Cq_values_pmade (σ : CSt) (v : Int32) : c_values (c_pmade_s σ v) = c_values σ := rfl
theorem Cq_found_pmade (σ : CSt) (v : Int32) : c_found (c_pmade_s σ v) = c_found σ := rfl
theorem Cq_order_pmade (σ : CSt) (v : Int32) : c_order (c_pmade_s σ v) = c_order σ := rfl
theorem Cq_rcount_pmade (σ : CSt) (v : Int32) : c_rcount (c_pmade_s σ v) = c_rcount σ := rfl
theorem Cq_manner_keys (σ : CSt) (v : (Nat → Int32)) : c_manner (c_keys_s σ v) = c_manner σ := rfl
theorem Cq_fault_keys (σ : CSt) (v : (Nat → Int32)) : c_fault (c_keys_s σ v) = c_fault σ := rfl
theorem Cq_under_keys (σ : CSt) (v : (Nat → Int32)) : c_under (c_keys_s σ v) = c_under σ := rfl
theorem Cq_nextS_keys (σ : CSt) (v : (Nat → Int32)) : c_nextS (c_keys_s σ v) = c_nextS σ := rfl
theorem Cq_rounds_keys (σ : CSt) (v : (Nat → Int32)) : c_rounds (c_keys_s σ v) = c_rounds σ := rfl
theorem Cq_steps_keys (σ : CSt) (v : (Nat → Int32)) : c_steps (c_keys_s σ v) = c_steps σ := rfl
theorem Cq_shaded_keys (σ : CSt) (v : (Nat → Int32)) : c_shaded (c_keys_s σ v) = c_shaded σ := rfl
theorem Cq_moved_keys (σ : CSt) (v : (Nat → Int32)) : c_moved (c_keys_s σ v) = c_moved σ := rfl
theorem Cq_tmade_keys (σ : CSt) (v : (Nat → Int32)) : c_tmade (c_keys_s σ v) = c_tmade σ := rfl
theorem Cq_sizes_keys (σ : CSt) (v : (Nat → Int32)) : c_sizes (c_keys_s σ v) = c_sizes σ := rfl
theorem Cq_places_keys (σ : CSt) (v : (Nat → Int32)) : c_places (c_keys_s σ v) = c_places σ := rfl
theorem Cq_colours_keys (σ : CSt) (v : (Nat → Int32)) : c_colours (c_keys_s σ v) = c_colours σ := rfl
theorem Cq_moves_keys (σ : CSt) (v : (Nat → Int32)) : c_moves (c_keys_s σ v) = c_moves σ := rfl
theorem Cq_freed_keys (σ : CSt) (v : (Nat → Int32)) : c_freed (c_keys_s σ v) = c_freed σ := rfl
theorem Cq_wishing_keys (σ : CSt) (v : (Nat → Int32)) : c_wishing (c_keys_s σ v) = c_wishing σ := rfl
theorem Cq_theld_keys (σ : CSt) (v : (Nat → Int32)) : c_theld (c_keys_s σ v) = c_theld σ := rfl
theorem Cq_cmap_keys (σ : CSt) (v : (Nat → Int32)) : c_cmap (c_keys_s σ v) = c_cmap σ := rfl
theorem Cq_halfEnd_keys (σ : CSt) (v : (Nat → Int32)) : c_halfEnd (c_keys_s σ v) = c_halfEnd σ := rfl
theorem Cq_behind_keys (σ : CSt) (v : (Nat → Int32)) : c_behind (c_keys_s σ v) = c_behind σ := rfl
theorem Cq_hheld_keys (σ : CSt) (v : (Nat → Int32)) : c_hheld (c_keys_s σ v) = c_hheld σ := rfl
theorem Cq_named_keys (σ : CSt) (v : (Nat → Int32)) : c_named (c_keys_s σ v) = c_named σ := rfl
theorem Cq_wishes_keys (σ : CSt) (v : (Nat → Int32)) : c_wishes (c_keys_s σ v) = c_wishes σ := rfl
theorem Cq_pmade_keys (σ : CSt) (v : (Nat → Int32)) : c_pmade (c_keys_s σ v) = c_pmade σ := rfl
theorem Cq_keys_keys (σ : CSt) (v : (Nat → Int32)) : c_keys (c_keys_s σ v) = v := rfl
theorem Cq_values_keys (σ : CSt) (v : (Nat → Int32)) : c_values (c_keys_s σ v) = c_values σ := rfl
theorem Cq_found_keys (σ : CSt) (v : (Nat → Int32)) : c_found (c_keys_s σ v) = c_found σ := rfl
theorem Cq_order_keys (σ : CSt) (v : (Nat → Int32)) : c_order (c_keys_s σ v) = c_order σ := rfl
theorem Cq_rcount_keys (σ : CSt) (v : (Nat → Int32)) : c_rcount (c_keys_s σ v) = c_rcount σ := rfl
theorem Cq_manner_values (σ : CSt) (v : (Nat → Int32)) : c_manner (c_values_s σ v) = c_manner σ := rfl
theorem Cq_fault_values (σ : CSt) (v : (Nat → Int32)) : c_fault (c_values_s σ v) = c_fault σ := rfl
theorem Cq_under_values (σ : CSt) (v : (Nat → Int32)) : c_under (c_values_s σ v) = c_under σ := rfl
theorem Cq_nextS_values (σ : CSt) (v : (Nat → Int32)) : c_nextS (c_values_s σ v) = c_nextS σ := rfl
theorem Cq_rounds_values (σ : CSt) (v : (Nat → Int32)) : c_rounds (c_values_s σ v) = c_rounds σ := rfl
theorem Cq_steps_values (σ : CSt) (v : (Nat → Int32)) : c_steps (c_values_s σ v) = c_steps σ := rfl
theorem Cq_shaded_values (σ : CSt) (v : (Nat → Int32)) : c_shaded (c_values_s σ v) = c_shaded σ := rfl
theorem Cq_moved_values (σ : CSt) (v : (Nat → Int32)) : c_moved (c_values_s σ v) = c_moved σ := rfl
theorem Cq_tmade_values (σ : CSt) (v : (Nat → Int32)) : c_tmade (c_values_s σ v) = c_tmade σ := rfl
theorem Cq_sizes_values (σ : CSt) (v : (Nat → Int32)) : c_sizes (c_values_s σ v) = c_sizes σ := rfl
theorem Cq_places_values (σ : CSt) (v : (Nat → Int32)) : c_places (c_values_s σ v) = c_places σ := rfl
theorem Cq_colours_values (σ : CSt) (v : (Nat → Int32)) : c_colours (c_values_s σ v) = c_colours σ := rfl
theorem Cq_moves_values (σ : CSt) (v : (Nat → Int32)) : c_moves (c_values_s σ v) = c_moves σ := rfl
theorem Cq_freed_values (σ : CSt) (v : (Nat → Int32)) : c_freed (c_values_s σ v) = c_freed σ := rfl
theorem Cq_wishing_values (σ : CSt) (v : (Nat → Int32)) : c_wishing (c_values_s σ v) = c_wishing σ := rfl
theorem Cq_theld_values (σ : CSt) (v : (Nat → Int32)) : c_theld (c_values_s σ v) = c_theld σ := rfl
theorem Cq_cmap_values (σ : CSt) (v : (Nat → Int32)) : c_cmap (c_values_s σ v) = c_cmap σ := rfl
theorem Cq_halfEnd_values (σ : CSt) (v : (Nat → Int32)) : c_halfEnd (c_values_s σ v) = c_halfEnd σ := rfl
theorem Cq_behind_values (σ : CSt) (v : (Nat → Int32)) : c_behind (c_values_s σ v) = c_behind σ := rfl
theorem Cq_hheld_values (σ : CSt) (v : (Nat → Int32)) : c_hheld (c_values_s σ v) = c_hheld σ := rfl
theorem Cq_named_values (σ : CSt) (v : (Nat → Int32)) : c_named (c_values_s σ v) = c_named σ := rfl
theorem Cq_wishes_values (σ : CSt) (v : (Nat → Int32)) : c_wishes (c_values_s σ v) = c_wishes σ := rfl
theorem Cq_pmade_values (σ : CSt) (v : (Nat → Int32)) : c_pmade (c_values_s σ v) = c_pmade σ := rfl
theorem Cq_keys_values (σ : CSt) (v : (Nat → Int32)) : c_keys (c_values_s σ v) = c_keys σ := rfl
theorem Cq_values_values (σ : CSt) (v : (Nat → Int32)) : c_values (c_values_s σ v) = v := rfl
theorem Cq_found_values (σ : CSt) (v : (Nat → Int32)) : c_found (c_values_s σ v) = c_found σ := rfl
theorem Cq_order_values (σ : CSt) (v : (Nat → Int32)) : c_order (c_values_s σ v) = c_order σ := rfl
theorem Cq_rcount_values (σ : CSt) (v : (Nat → Int32)) : c_rcount (c_values_s σ v) = c_rcount σ := rfl
theorem Cq_manner_found (σ : CSt) (v : (Nat → Int32)) : c_manner (c_found_s σ v) = c_manner σ := rfl
theorem Cq_fault_found (σ : CSt) (v : (Nat → Int32)) : c_fault (c_found_s σ v) = c_fault σ := rfl
theorem Cq_under_found (σ : CSt) (v : (Nat → Int32)) : c_under (c_found_s σ v) = c_under σ := rfl
theorem Cq_nextS_found (σ : CSt) (v : (Nat → Int32)) : c_nextS (c_found_s σ v) = c_nextS σ := rfl
theorem Cq_rounds_found (σ : CSt) (v : (Nat → Int32)) : c_rounds (c_found_s σ v) = c_rounds σ := rfl
theorem Cq_steps_found (σ : CSt) (v : (Nat → Int32)) : c_steps (c_found_s σ v) = c_steps σ := rfl
theorem Cq_shaded_found (σ : CSt) (v : (Nat → Int32)) : c_shaded (c_found_s σ v) = c_shaded σ := rfl
theorem Cq_moved_found (σ : CSt) (v : (Nat → Int32)) : c_moved (c_found_s σ v) = c_moved σ := rfl
theorem Cq_tmade_found (σ : CSt) (v : (Nat → Int32)) : c_tmade (c_found_s σ v) = c_tmade σ := rfl
theorem Cq_sizes_found (σ : CSt) (v : (Nat → Int32)) : c_sizes (c_found_s σ v) = c_sizes σ := rfl
theorem Cq_places_found (σ : CSt) (v : (Nat → Int32)) : c_places (c_found_s σ v) = c_places σ := rfl
theorem Cq_colours_found (σ : CSt) (v : (Nat → Int32)) : c_colours (c_found_s σ v) = c_colours σ := rfl
theorem Cq_moves_found (σ : CSt) (v : (Nat → Int32)) : c_moves (c_found_s σ v) = c_moves σ := rfl
theorem Cq_freed_found (σ : CSt) (v : (Nat → Int32)) : c_freed (c_found_s σ v) = c_freed σ := rfl
theorem Cq_wishing_found (σ : CSt) (v : (Nat → Int32)) : c_wishing (c_found_s σ v) = c_wishing σ := rfl
theorem Cq_theld_found (σ : CSt) (v : (Nat → Int32)) : c_theld (c_found_s σ v) = c_theld σ := rfl
theorem Cq_cmap_found (σ : CSt) (v : (Nat → Int32)) : c_cmap (c_found_s σ v) = c_cmap σ := rfl
theorem Cq_halfEnd_found (σ : CSt) (v : (Nat → Int32)) : c_halfEnd (c_found_s σ v) = c_halfEnd σ := rfl
theorem Cq_behind_found (σ : CSt) (v : (Nat → Int32)) : c_behind (c_found_s σ v) = c_behind σ := rfl
theorem Cq_hheld_found (σ : CSt) (v : (Nat → Int32)) : c_hheld (c_found_s σ v) = c_hheld σ := rfl
theorem Cq_named_found (σ : CSt) (v : (Nat → Int32)) : c_named (c_found_s σ v) = c_named σ := rfl
theorem Cq_wishes_found (σ : CSt) (v : (Nat → Int32)) : c_wishes (c_found_s σ v) = c_wishes σ := rfl
theorem Cq_pmade_found (σ : CSt) (v : (Nat → Int32)) : c_pmade (c_found_s σ v) = c_pmade σ := rfl
theorem Cq_keys_found (σ : CSt) (v : (Nat → Int32)) : c_keys (c_found_s σ v) = c_keys σ := rfl
theorem Cq_values_found (σ : CSt) (v : (Nat → Int32)) : c_values (c_found_s σ v) = c_values σ := rfl
theorem Cq_found_found (σ : CSt) (v : (Nat → Int32)) : c_found (c_found_s σ v) = v := rfl
theorem Cq_order_found (σ : CSt) (v : (Nat → Int32)) : c_order (c_found_s σ v) = c_order σ := rfl
theorem Cq_rcount_found (σ : CSt) (v : (Nat → Int32)) : c_rcount (c_found_s σ v) = c_rcount σ := rfl
theorem Cq_manner_order (σ : CSt) (v : (Nat → Int32)) : c_manner (c_order_s σ v) = c_manner σ := rfl
theorem Cq_fault_order (σ : CSt) (v : (Nat → Int32)) : c_fault (c_order_s σ v) = c_fault σ := rfl
theorem Cq_under_order (σ : CSt) (v : (Nat → Int32)) : c_under (c_order_s σ v) = c_under σ := rfl
theorem Cq_nextS_order (σ : CSt) (v : (Nat → Int32)) : c_nextS (c_order_s σ v) = c_nextS σ := rfl
theorem Cq_rounds_order (σ : CSt) (v : (Nat → Int32)) : c_rounds (c_order_s σ v) = c_rounds σ := rfl
theorem Cq_steps_order (σ : CSt) (v : (Nat → Int32)) : c_steps (c_order_s σ v) = c_steps σ := rfl
theorem Cq_shaded_order (σ : CSt) (v : (Nat → Int32)) : c_shaded (c_order_s σ v) = c_shaded σ := rfl
theorem Cq_moved_order (σ : CSt) (v : (Nat → Int32)) : c_moved (c_order_s σ v) = c_moved σ := rfl
theorem Cq_tmade_order (σ : CSt) (v : (Nat → Int32)) : c_tmade (c_order_s σ v) = c_tmade σ := rfl
theorem Cq_sizes_order (σ : CSt) (v : (Nat → Int32)) : c_sizes (c_order_s σ v) = c_sizes σ := rfl
theorem Cq_places_order (σ : CSt) (v : (Nat → Int32)) : c_places (c_order_s σ v) = c_places σ := rfl
theorem Cq_colours_order (σ : CSt) (v : (Nat → Int32)) : c_colours (c_order_s σ v) = c_colours σ := rfl
theorem Cq_moves_order (σ : CSt) (v : (Nat → Int32)) : c_moves (c_order_s σ v) = c_moves σ := rfl
theorem Cq_freed_order (σ : CSt) (v : (Nat → Int32)) : c_freed (c_order_s σ v) = c_freed σ := rfl
theorem Cq_wishing_order (σ : CSt) (v : (Nat → Int32)) : c_wishing (c_order_s σ v) = c_wishing σ := rfl
theorem Cq_theld_order (σ : CSt) (v : (Nat → Int32)) : c_theld (c_order_s σ v) = c_theld σ := rfl
theorem Cq_cmap_order (σ : CSt) (v : (Nat → Int32)) : c_cmap (c_order_s σ v) = c_cmap σ := rfl
theorem Cq_halfEnd_order (σ : CSt) (v : (Nat → Int32)) : c_halfEnd (c_order_s σ v) = c_halfEnd σ := rfl
theorem Cq_behind_order (σ : CSt) (v : (Nat → Int32)) : c_behind (c_order_s σ v) = c_behind σ := rfl
theorem Cq_hheld_order (σ : CSt) (v : (Nat → Int32)) : c_hheld (c_order_s σ v) = c_hheld σ := rfl
theorem Cq_named_order (σ : CSt) (v : (Nat → Int32)) : c_named (c_order_s σ v) = c_named σ := rfl
theorem Cq_wishes_order (σ : CSt) (v : (Nat → Int32)) : c_wishes (c_order_s σ v) = c_wishes σ := rfl
theorem Cq_pmade_order (σ : CSt) (v : (Nat → Int32)) : c_pmade (c_order_s σ v) = c_pmade σ := rfl
theorem Cq_keys_order (σ : CSt) (v : (Nat → Int32)) : c_keys (c_order_s σ v) = c_keys σ := rfl
theorem Cq_values_order (σ : CSt) (v : (Nat → Int32)) : c_values (c_order_s σ v) = c_values σ := rfl
theorem Cq_found_order (σ : CSt) (v : (Nat → Int32)) : c_found (c_order_s σ v) = c_found σ := rfl
theorem Cq_order_order (σ : CSt) (v : (Nat → Int32)) : c_order (c_order_s σ v) = v := rfl
theorem Cq_rcount_order (σ : CSt) (v : (Nat → Int32)) : c_rcount (c_order_s σ v) = c_rcount σ := rfl
theorem Cq_manner_rcount (σ : CSt) (v : Int32) : c_manner (c_rcount_s σ v) = c_manner σ := rfl
theorem Cq_fault_rcount (σ : CSt) (v : Int32) : c_fault (c_rcount_s σ v) = c_fault σ := rfl
theorem Cq_under_rcount (σ : CSt) (v : Int32) : c_under (c_rcount_s σ v) = c_under σ := rfl
theorem Cq_nextS_rcount (σ : CSt) (v : Int32) : c_nextS (c_rcount_s σ v) = c_nextS σ := rfl
theorem Cq_rounds_rcount (σ : CSt) (v : Int32) : c_rounds (c_rcount_s σ v) = c_rounds σ := rfl
theorem Cq_steps_rcount (σ : CSt) (v : Int32) : c_steps (c_rcount_s σ v) = c_steps σ := rfl
theorem Cq_shaded_rcount (σ : CSt) (v : Int32) : c_shaded (c_rcount_s σ v) = c_shaded σ := rfl
theorem Cq_moved_rcount (σ : CSt) (v : Int32) : c_moved (c_rcount_s σ v) = c_moved σ := rfl
theorem Cq_tmade_rcount (σ : CSt) (v : Int32) : c_tmade (c_rcount_s σ v) = c_tmade σ := rfl
theorem Cq_sizes_rcount (σ : CSt) (v : Int32) : c_sizes (c_rcount_s σ v) = c_sizes σ := rfl
theorem Cq_places_rcount (σ : CSt) (v : Int32) : c_places (c_rcount_s σ v) = c_places σ := rfl
theorem Cq_colours_rcount (σ : CSt) (v : Int32) : c_colours (c_rcount_s σ v) = c_colours σ := rfl
theorem Cq_moves_rcount (σ : CSt) (v : Int32) : c_moves (c_rcount_s σ v) = c_moves σ := rfl
theorem Cq_freed_rcount (σ : CSt) (v : Int32) : c_freed (c_rcount_s σ v) = c_freed σ := rfl
theorem Cq_wishing_rcount (σ : CSt) (v : Int32) : c_wishing (c_rcount_s σ v) = c_wishing σ := rfl
theorem Cq_theld_rcount (σ : CSt) (v : Int32) : c_theld (c_rcount_s σ v) = c_theld σ := rfl
theorem Cq_cmap_rcount (σ : CSt) (v : Int32) : c_cmap (c_rcount_s σ v) = c_cmap σ := rfl
theorem Cq_halfEnd_rcount (σ : CSt) (v : Int32) : c_halfEnd (c_rcount_s σ v) = c_halfEnd σ := rfl
theorem Cq_behind_rcount (σ : CSt) (v : Int32) : c_behind (c_rcount_s σ v) = c_behind σ := rfl
theorem Cq_hheld_rcount (σ : CSt) (v : Int32) : c_hheld (c_rcount_s σ v) = c_hheld σ := rfl
theorem Cq_named_rcount (σ : CSt) (v : Int32) : c_named (c_rcount_s σ v) = c_named σ := rfl
theorem Cq_wishes_rcount (σ : CSt) (v : Int32) : c_wishes (c_rcount_s σ v) = c_wishes σ := rfl
theorem Cq_pmade_rcount (σ : CSt) (v : Int32) : c_pmade (c_rcount_s σ v) = c_pmade σ := rfl
theorem Cq_keys_rcount (σ : CSt) (v : Int32) : c_keys (c_rcount_s σ v) = c_keys σ := rfl
theorem Cq_values_rcount (σ : CSt) (v : Int32) : c_values (c_rcount_s σ v) = c_values σ := rfl
theorem Cq_found_rcount (σ : CSt) (v : Int32) : c_found (c_rcount_s σ v) = c_found σ := rfl
theorem Cq_order_rcount (σ : CSt) (v : Int32) : c_order (c_rcount_s σ v) = c_order σ := rfl
theorem Cq_rcount_rcount (σ : CSt) (v : Int32) : c_rcount (c_rcount_s σ v) = v := rfl
