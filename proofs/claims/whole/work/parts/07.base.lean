abbrev ix (x : Int32) : Nat := x.toNatClampNeg
abbrev RSt : Type := Int32 × Int32 × Int32 × (Nat → Int32) × (Nat → Int32) × (Nat → Int32) × (Nat → Int32) × (Nat → Int32) × (Nat → Int32) × (Nat → Int32) × (Nat → Int32) × (Nat → Int32) × Int32 × (Nat → Int32) × (Nat → Int32) × Int32 × (Nat → Int32) × (Nat → Int32) × (Nat → Int32) × Int32 × Int32 × Int32 × Int32 × Int32 × Int32 × Int32 × Int32 × Int32 × (Nat → Int32) × Int32
def r_manner (σ : RSt) : Int32 := σ.1
def r_fault (σ : RSt) : Int32 := σ.2.1
def r_things (σ : RSt) : Int32 := σ.2.2.1
def r_many (σ : RSt) : (Nat → Int32) := σ.2.2.2.1
def r_field (σ : RSt) : (Nat → Int32) := σ.2.2.2.2.1
def r_place (σ : RSt) : (Nat → Int32) := σ.2.2.2.2.2.1
def r_colour (σ : RSt) : (Nat → Int32) := σ.2.2.2.2.2.2.1
def r_isFreed (σ : RSt) : (Nat → Int32) := σ.2.2.2.2.2.2.2.1
def r_hasWish (σ : RSt) : (Nat → Int32) := σ.2.2.2.2.2.2.2.2.1
def r_moved (σ : RSt) : (Nat → Int32) := σ.2.2.2.2.2.2.2.2.2.1
def r_register (σ : RSt) : (Nat → Int32) := σ.2.2.2.2.2.2.2.2.2.2.1
def r_slot (σ : RSt) : (Nat → Int32) := σ.2.2.2.2.2.2.2.2.2.2.2.1
def r_wishes (σ : RSt) : Int32 := σ.2.2.2.2.2.2.2.2.2.2.2.2.1
def r_wishAt (σ : RSt) : (Nat → Int32) := σ.2.2.2.2.2.2.2.2.2.2.2.2.2.1
def r_weakAt (σ : RSt) : (Nat → Int32) := σ.2.2.2.2.2.2.2.2.2.2.2.2.2.2.1
def r_pairs (σ : RSt) : Int32 := σ.2.2.2.2.2.2.2.2.2.2.2.2.2.2.2.1
def r_key (σ : RSt) : (Nat → Int32) := σ.2.2.2.2.2.2.2.2.2.2.2.2.2.2.2.2.1
def r_value (σ : RSt) : (Nat → Int32) := σ.2.2.2.2.2.2.2.2.2.2.2.2.2.2.2.2.2.1
def r_isPair (σ : RSt) : (Nat → Int32) := σ.2.2.2.2.2.2.2.2.2.2.2.2.2.2.2.2.2.2.1
def r_half (σ : RSt) : Int32 := σ.2.2.2.2.2.2.2.2.2.2.2.2.2.2.2.2.2.2.2.1
def r_top (σ : RSt) : Int32 := σ.2.2.2.2.2.2.2.2.2.2.2.2.2.2.2.2.2.2.2.2.1
def r_way (σ : RSt) : Int32 := σ.2.2.2.2.2.2.2.2.2.2.2.2.2.2.2.2.2.2.2.2.2.1
def r_next (σ : RSt) : Int32 := σ.2.2.2.2.2.2.2.2.2.2.2.2.2.2.2.2.2.2.2.2.2.2.1
def r_freedMany (σ : RSt) : Int32 := σ.2.2.2.2.2.2.2.2.2.2.2.2.2.2.2.2.2.2.2.2.2.2.2.1
def r_rounds (σ : RSt) : Int32 := σ.2.2.2.2.2.2.2.2.2.2.2.2.2.2.2.2.2.2.2.2.2.2.2.2.1
def r_steps (σ : RSt) : Int32 := σ.2.2.2.2.2.2.2.2.2.2.2.2.2.2.2.2.2.2.2.2.2.2.2.2.2.1
def r_shaded (σ : RSt) : Int32 := σ.2.2.2.2.2.2.2.2.2.2.2.2.2.2.2.2.2.2.2.2.2.2.2.2.2.2.1
def r_movedMany (σ : RSt) : Int32 := σ.2.2.2.2.2.2.2.2.2.2.2.2.2.2.2.2.2.2.2.2.2.2.2.2.2.2.2.1
def r_isReached (σ : RSt) : (Nat → Int32) := σ.2.2.2.2.2.2.2.2.2.2.2.2.2.2.2.2.2.2.2.2.2.2.2.2.2.2.2.2.1
def r_more (σ : RSt) : Int32 := σ.2.2.2.2.2.2.2.2.2.2.2.2.2.2.2.2.2.2.2.2.2.2.2.2.2.2.2.2.2
def r_manner_s (σ : RSt) (v : Int32) : RSt := (v, r_fault σ, r_things σ, r_many σ, r_field σ, r_place σ, r_colour σ, r_isFreed σ, r_hasWish σ, r_moved σ, r_register σ, r_slot σ, r_wishes σ, r_wishAt σ, r_weakAt σ, r_pairs σ, r_key σ, r_value σ, r_isPair σ, r_half σ, r_top σ, r_way σ, r_next σ, r_freedMany σ, r_rounds σ, r_steps σ, r_shaded σ, r_movedMany σ, r_isReached σ, r_more σ)
def r_fault_s (σ : RSt) (v : Int32) : RSt := (r_manner σ, v, r_things σ, r_many σ, r_field σ, r_place σ, r_colour σ, r_isFreed σ, r_hasWish σ, r_moved σ, r_register σ, r_slot σ, r_wishes σ, r_wishAt σ, r_weakAt σ, r_pairs σ, r_key σ, r_value σ, r_isPair σ, r_half σ, r_top σ, r_way σ, r_next σ, r_freedMany σ, r_rounds σ, r_steps σ, r_shaded σ, r_movedMany σ, r_isReached σ, r_more σ)
def r_things_s (σ : RSt) (v : Int32) : RSt := (r_manner σ, r_fault σ, v, r_many σ, r_field σ, r_place σ, r_colour σ, r_isFreed σ, r_hasWish σ, r_moved σ, r_register σ, r_slot σ, r_wishes σ, r_wishAt σ, r_weakAt σ, r_pairs σ, r_key σ, r_value σ, r_isPair σ, r_half σ, r_top σ, r_way σ, r_next σ, r_freedMany σ, r_rounds σ, r_steps σ, r_shaded σ, r_movedMany σ, r_isReached σ, r_more σ)
def r_many_s (σ : RSt) (v : (Nat → Int32)) : RSt := (r_manner σ, r_fault σ, r_things σ, v, r_field σ, r_place σ, r_colour σ, r_isFreed σ, r_hasWish σ, r_moved σ, r_register σ, r_slot σ, r_wishes σ, r_wishAt σ, r_weakAt σ, r_pairs σ, r_key σ, r_value σ, r_isPair σ, r_half σ, r_top σ, r_way σ, r_next σ, r_freedMany σ, r_rounds σ, r_steps σ, r_shaded σ, r_movedMany σ, r_isReached σ, r_more σ)
def r_field_s (σ : RSt) (v : (Nat → Int32)) : RSt := (r_manner σ, r_fault σ, r_things σ, r_many σ, v, r_place σ, r_colour σ, r_isFreed σ, r_hasWish σ, r_moved σ, r_register σ, r_slot σ, r_wishes σ, r_wishAt σ, r_weakAt σ, r_pairs σ, r_key σ, r_value σ, r_isPair σ, r_half σ, r_top σ, r_way σ, r_next σ, r_freedMany σ, r_rounds σ, r_steps σ, r_shaded σ, r_movedMany σ, r_isReached σ, r_more σ)
def r_place_s (σ : RSt) (v : (Nat → Int32)) : RSt := (r_manner σ, r_fault σ, r_things σ, r_many σ, r_field σ, v, r_colour σ, r_isFreed σ, r_hasWish σ, r_moved σ, r_register σ, r_slot σ, r_wishes σ, r_wishAt σ, r_weakAt σ, r_pairs σ, r_key σ, r_value σ, r_isPair σ, r_half σ, r_top σ, r_way σ, r_next σ, r_freedMany σ, r_rounds σ, r_steps σ, r_shaded σ, r_movedMany σ, r_isReached σ, r_more σ)
def r_colour_s (σ : RSt) (v : (Nat → Int32)) : RSt := (r_manner σ, r_fault σ, r_things σ, r_many σ, r_field σ, r_place σ, v, r_isFreed σ, r_hasWish σ, r_moved σ, r_register σ, r_slot σ, r_wishes σ, r_wishAt σ, r_weakAt σ, r_pairs σ, r_key σ, r_value σ, r_isPair σ, r_half σ, r_top σ, r_way σ, r_next σ, r_freedMany σ, r_rounds σ, r_steps σ, r_shaded σ, r_movedMany σ, r_isReached σ, r_more σ)
def r_isFreed_s (σ : RSt) (v : (Nat → Int32)) : RSt := (r_manner σ, r_fault σ, r_things σ, r_many σ, r_field σ, r_place σ, r_colour σ, v, r_hasWish σ, r_moved σ, r_register σ, r_slot σ, r_wishes σ, r_wishAt σ, r_weakAt σ, r_pairs σ, r_key σ, r_value σ, r_isPair σ, r_half σ, r_top σ, r_way σ, r_next σ, r_freedMany σ, r_rounds σ, r_steps σ, r_shaded σ, r_movedMany σ, r_isReached σ, r_more σ)
def r_hasWish_s (σ : RSt) (v : (Nat → Int32)) : RSt := (r_manner σ, r_fault σ, r_things σ, r_many σ, r_field σ, r_place σ, r_colour σ, r_isFreed σ, v, r_moved σ, r_register σ, r_slot σ, r_wishes σ, r_wishAt σ, r_weakAt σ, r_pairs σ, r_key σ, r_value σ, r_isPair σ, r_half σ, r_top σ, r_way σ, r_next σ, r_freedMany σ, r_rounds σ, r_steps σ, r_shaded σ, r_movedMany σ, r_isReached σ, r_more σ)
def r_moved_s (σ : RSt) (v : (Nat → Int32)) : RSt := (r_manner σ, r_fault σ, r_things σ, r_many σ, r_field σ, r_place σ, r_colour σ, r_isFreed σ, r_hasWish σ, v, r_register σ, r_slot σ, r_wishes σ, r_wishAt σ, r_weakAt σ, r_pairs σ, r_key σ, r_value σ, r_isPair σ, r_half σ, r_top σ, r_way σ, r_next σ, r_freedMany σ, r_rounds σ, r_steps σ, r_shaded σ, r_movedMany σ, r_isReached σ, r_more σ)
def r_register_s (σ : RSt) (v : (Nat → Int32)) : RSt := (r_manner σ, r_fault σ, r_things σ, r_many σ, r_field σ, r_place σ, r_colour σ, r_isFreed σ, r_hasWish σ, r_moved σ, v, r_slot σ, r_wishes σ, r_wishAt σ, r_weakAt σ, r_pairs σ, r_key σ, r_value σ, r_isPair σ, r_half σ, r_top σ, r_way σ, r_next σ, r_freedMany σ, r_rounds σ, r_steps σ, r_shaded σ, r_movedMany σ, r_isReached σ, r_more σ)
def r_slot_s (σ : RSt) (v : (Nat → Int32)) : RSt := (r_manner σ, r_fault σ, r_things σ, r_many σ, r_field σ, r_place σ, r_colour σ, r_isFreed σ, r_hasWish σ, r_moved σ, r_register σ, v, r_wishes σ, r_wishAt σ, r_weakAt σ, r_pairs σ, r_key σ, r_value σ, r_isPair σ, r_half σ, r_top σ, r_way σ, r_next σ, r_freedMany σ, r_rounds σ, r_steps σ, r_shaded σ, r_movedMany σ, r_isReached σ, r_more σ)
def r_wishes_s (σ : RSt) (v : Int32) : RSt := (r_manner σ, r_fault σ, r_things σ, r_many σ, r_field σ, r_place σ, r_colour σ, r_isFreed σ, r_hasWish σ, r_moved σ, r_register σ, r_slot σ, v, r_wishAt σ, r_weakAt σ, r_pairs σ, r_key σ, r_value σ, r_isPair σ, r_half σ, r_top σ, r_way σ, r_next σ, r_freedMany σ, r_rounds σ, r_steps σ, r_shaded σ, r_movedMany σ, r_isReached σ, r_more σ)
def r_wishAt_s (σ : RSt) (v : (Nat → Int32)) : RSt := (r_manner σ, r_fault σ, r_things σ, r_many σ, r_field σ, r_place σ, r_colour σ, r_isFreed σ, r_hasWish σ, r_moved σ, r_register σ, r_slot σ, r_wishes σ, v, r_weakAt σ, r_pairs σ, r_key σ, r_value σ, r_isPair σ, r_half σ, r_top σ, r_way σ, r_next σ, r_freedMany σ, r_rounds σ, r_steps σ, r_shaded σ, r_movedMany σ, r_isReached σ, r_more σ)
def r_weakAt_s (σ : RSt) (v : (Nat → Int32)) : RSt := (r_manner σ, r_fault σ, r_things σ, r_many σ, r_field σ, r_place σ, r_colour σ, r_isFreed σ, r_hasWish σ, r_moved σ, r_register σ, r_slot σ, r_wishes σ, r_wishAt σ, v, r_pairs σ, r_key σ, r_value σ, r_isPair σ, r_half σ, r_top σ, r_way σ, r_next σ, r_freedMany σ, r_rounds σ, r_steps σ, r_shaded σ, r_movedMany σ, r_isReached σ, r_more σ)
def r_pairs_s (σ : RSt) (v : Int32) : RSt := (r_manner σ, r_fault σ, r_things σ, r_many σ, r_field σ, r_place σ, r_colour σ, r_isFreed σ, r_hasWish σ, r_moved σ, r_register σ, r_slot σ, r_wishes σ, r_wishAt σ, r_weakAt σ, v, r_key σ, r_value σ, r_isPair σ, r_half σ, r_top σ, r_way σ, r_next σ, r_freedMany σ, r_rounds σ, r_steps σ, r_shaded σ, r_movedMany σ, r_isReached σ, r_more σ)
def r_key_s (σ : RSt) (v : (Nat → Int32)) : RSt := (r_manner σ, r_fault σ, r_things σ, r_many σ, r_field σ, r_place σ, r_colour σ, r_isFreed σ, r_hasWish σ, r_moved σ, r_register σ, r_slot σ, r_wishes σ, r_wishAt σ, r_weakAt σ, r_pairs σ, v, r_value σ, r_isPair σ, r_half σ, r_top σ, r_way σ, r_next σ, r_freedMany σ, r_rounds σ, r_steps σ, r_shaded σ, r_movedMany σ, r_isReached σ, r_more σ)
def r_value_s (σ : RSt) (v : (Nat → Int32)) : RSt := (r_manner σ, r_fault σ, r_things σ, r_many σ, r_field σ, r_place σ, r_colour σ, r_isFreed σ, r_hasWish σ, r_moved σ, r_register σ, r_slot σ, r_wishes σ, r_wishAt σ, r_weakAt σ, r_pairs σ, r_key σ, v, r_isPair σ, r_half σ, r_top σ, r_way σ, r_next σ, r_freedMany σ, r_rounds σ, r_steps σ, r_shaded σ, r_movedMany σ, r_isReached σ, r_more σ)
def r_isPair_s (σ : RSt) (v : (Nat → Int32)) : RSt := (r_manner σ, r_fault σ, r_things σ, r_many σ, r_field σ, r_place σ, r_colour σ, r_isFreed σ, r_hasWish σ, r_moved σ, r_register σ, r_slot σ, r_wishes σ, r_wishAt σ, r_weakAt σ, r_pairs σ, r_key σ, r_value σ, v, r_half σ, r_top σ, r_way σ, r_next σ, r_freedMany σ, r_rounds σ, r_steps σ, r_shaded σ, r_movedMany σ, r_isReached σ, r_more σ)
def r_half_s (σ : RSt) (v : Int32) : RSt := (r_manner σ, r_fault σ, r_things σ, r_many σ, r_field σ, r_place σ, r_colour σ, r_isFreed σ, r_hasWish σ, r_moved σ, r_register σ, r_slot σ, r_wishes σ, r_wishAt σ, r_weakAt σ, r_pairs σ, r_key σ, r_value σ, r_isPair σ, v, r_top σ, r_way σ, r_next σ, r_freedMany σ, r_rounds σ, r_steps σ, r_shaded σ, r_movedMany σ, r_isReached σ, r_more σ)
def r_top_s (σ : RSt) (v : Int32) : RSt := (r_manner σ, r_fault σ, r_things σ, r_many σ, r_field σ, r_place σ, r_colour σ, r_isFreed σ, r_hasWish σ, r_moved σ, r_register σ, r_slot σ, r_wishes σ, r_wishAt σ, r_weakAt σ, r_pairs σ, r_key σ, r_value σ, r_isPair σ, r_half σ, v, r_way σ, r_next σ, r_freedMany σ, r_rounds σ, r_steps σ, r_shaded σ, r_movedMany σ, r_isReached σ, r_more σ)
def r_way_s (σ : RSt) (v : Int32) : RSt := (r_manner σ, r_fault σ, r_things σ, r_many σ, r_field σ, r_place σ, r_colour σ, r_isFreed σ, r_hasWish σ, r_moved σ, r_register σ, r_slot σ, r_wishes σ, r_wishAt σ, r_weakAt σ, r_pairs σ, r_key σ, r_value σ, r_isPair σ, r_half σ, r_top σ, v, r_next σ, r_freedMany σ, r_rounds σ, r_steps σ, r_shaded σ, r_movedMany σ, r_isReached σ, r_more σ)
def r_next_s (σ : RSt) (v : Int32) : RSt := (r_manner σ, r_fault σ, r_things σ, r_many σ, r_field σ, r_place σ, r_colour σ, r_isFreed σ, r_hasWish σ, r_moved σ, r_register σ, r_slot σ, r_wishes σ, r_wishAt σ, r_weakAt σ, r_pairs σ, r_key σ, r_value σ, r_isPair σ, r_half σ, r_top σ, r_way σ, v, r_freedMany σ, r_rounds σ, r_steps σ, r_shaded σ, r_movedMany σ, r_isReached σ, r_more σ)
def r_freedMany_s (σ : RSt) (v : Int32) : RSt := (r_manner σ, r_fault σ, r_things σ, r_many σ, r_field σ, r_place σ, r_colour σ, r_isFreed σ, r_hasWish σ, r_moved σ, r_register σ, r_slot σ, r_wishes σ, r_wishAt σ, r_weakAt σ, r_pairs σ, r_key σ, r_value σ, r_isPair σ, r_half σ, r_top σ, r_way σ, r_next σ, v, r_rounds σ, r_steps σ, r_shaded σ, r_movedMany σ, r_isReached σ, r_more σ)
def r_rounds_s (σ : RSt) (v : Int32) : RSt := (r_manner σ, r_fault σ, r_things σ, r_many σ, r_field σ, r_place σ, r_colour σ, r_isFreed σ, r_hasWish σ, r_moved σ, r_register σ, r_slot σ, r_wishes σ, r_wishAt σ, r_weakAt σ, r_pairs σ, r_key σ, r_value σ, r_isPair σ, r_half σ, r_top σ, r_way σ, r_next σ, r_freedMany σ, v, r_steps σ, r_shaded σ, r_movedMany σ, r_isReached σ, r_more σ)
def r_steps_s (σ : RSt) (v : Int32) : RSt := (r_manner σ, r_fault σ, r_things σ, r_many σ, r_field σ, r_place σ, r_colour σ, r_isFreed σ, r_hasWish σ, r_moved σ, r_register σ, r_slot σ, r_wishes σ, r_wishAt σ, r_weakAt σ, r_pairs σ, r_key σ, r_value σ, r_isPair σ, r_half σ, r_top σ, r_way σ, r_next σ, r_freedMany σ, r_rounds σ, v, r_shaded σ, r_movedMany σ, r_isReached σ, r_more σ)
def r_shaded_s (σ : RSt) (v : Int32) : RSt := (r_manner σ, r_fault σ, r_things σ, r_many σ, r_field σ, r_place σ, r_colour σ, r_isFreed σ, r_hasWish σ, r_moved σ, r_register σ, r_slot σ, r_wishes σ, r_wishAt σ, r_weakAt σ, r_pairs σ, r_key σ, r_value σ, r_isPair σ, r_half σ, r_top σ, r_way σ, r_next σ, r_freedMany σ, r_rounds σ, r_steps σ, v, r_movedMany σ, r_isReached σ, r_more σ)
def r_movedMany_s (σ : RSt) (v : Int32) : RSt := (r_manner σ, r_fault σ, r_things σ, r_many σ, r_field σ, r_place σ, r_colour σ, r_isFreed σ, r_hasWish σ, r_moved σ, r_register σ, r_slot σ, r_wishes σ, r_wishAt σ, r_weakAt σ, r_pairs σ, r_key σ, r_value σ, r_isPair σ, r_half σ, r_top σ, r_way σ, r_next σ, r_freedMany σ, r_rounds σ, r_steps σ, r_shaded σ, v, r_isReached σ, r_more σ)
def r_isReached_s (σ : RSt) (v : (Nat → Int32)) : RSt := (r_manner σ, r_fault σ, r_things σ, r_many σ, r_field σ, r_place σ, r_colour σ, r_isFreed σ, r_hasWish σ, r_moved σ, r_register σ, r_slot σ, r_wishes σ, r_wishAt σ, r_weakAt σ, r_pairs σ, r_key σ, r_value σ, r_isPair σ, r_half σ, r_top σ, r_way σ, r_next σ, r_freedMany σ, r_rounds σ, r_steps σ, r_shaded σ, r_movedMany σ, v, r_more σ)
def r_more_s (σ : RSt) (v : Int32) : RSt := (r_manner σ, r_fault σ, r_things σ, r_many σ, r_field σ, r_place σ, r_colour σ, r_isFreed σ, r_hasWish σ, r_moved σ, r_register σ, r_slot σ, r_wishes σ, r_wishAt σ, r_weakAt σ, r_pairs σ, r_key σ, r_value σ, r_isPair σ, r_half σ, r_top σ, r_way σ, r_next σ, r_freedMany σ, r_rounds σ, r_steps σ, r_shaded σ, r_movedMany σ, r_isReached σ, v)
abbrev CSt : Type := Int32 × Int32 × Int32 × Int32 × Int32 × Int32 × Int32 × Int32 × Int32 × (Nat → Int32) × (Nat → Int32) × (Nat → Int32) × (Nat → Int32) × (Nat → Int32) × (Nat → Int32) × (Nat → Int32) × (Nat → Int32) × Int32 × Int32 × (Nat → Int32) × (Nat → Int32) × Int32 × Int32 × (Nat → Int32) × (Nat → Int32) × (Nat → Int32) × (Nat → Int32) × Int32
def c_manner (σ : CSt) : Int32 := σ.1
def c_fault (σ : CSt) : Int32 := σ.2.1
def c_under (σ : CSt) : Int32 := σ.2.2.1
def c_nextS (σ : CSt) : Int32 := σ.2.2.2.1
def c_rounds (σ : CSt) : Int32 := σ.2.2.2.2.1
def c_steps (σ : CSt) : Int32 := σ.2.2.2.2.2.1
def c_shaded (σ : CSt) : Int32 := σ.2.2.2.2.2.2.1
def c_moved (σ : CSt) : Int32 := σ.2.2.2.2.2.2.2.1
def c_tmade (σ : CSt) : Int32 := σ.2.2.2.2.2.2.2.2.1
def c_sizes (σ : CSt) : (Nat → Int32) := σ.2.2.2.2.2.2.2.2.2.1
def c_places (σ : CSt) : (Nat → Int32) := σ.2.2.2.2.2.2.2.2.2.2.1
def c_colours (σ : CSt) : (Nat → Int32) := σ.2.2.2.2.2.2.2.2.2.2.2.1
def c_moves (σ : CSt) : (Nat → Int32) := σ.2.2.2.2.2.2.2.2.2.2.2.2.1
def c_freed (σ : CSt) : (Nat → Int32) := σ.2.2.2.2.2.2.2.2.2.2.2.2.2.1
def c_wishing (σ : CSt) : (Nat → Int32) := σ.2.2.2.2.2.2.2.2.2.2.2.2.2.2.1
def c_theld (σ : CSt) : (Nat → Int32) := σ.2.2.2.2.2.2.2.2.2.2.2.2.2.2.2.1
def c_cmap (σ : CSt) : (Nat → Int32) := σ.2.2.2.2.2.2.2.2.2.2.2.2.2.2.2.2.1
def c_halfEnd (σ : CSt) : Int32 := σ.2.2.2.2.2.2.2.2.2.2.2.2.2.2.2.2.2.1
def c_behind (σ : CSt) : Int32 := σ.2.2.2.2.2.2.2.2.2.2.2.2.2.2.2.2.2.2.1
def c_hheld (σ : CSt) : (Nat → Int32) := σ.2.2.2.2.2.2.2.2.2.2.2.2.2.2.2.2.2.2.2.1
def c_named (σ : CSt) : (Nat → Int32) := σ.2.2.2.2.2.2.2.2.2.2.2.2.2.2.2.2.2.2.2.2.1
def c_wishes (σ : CSt) : Int32 := σ.2.2.2.2.2.2.2.2.2.2.2.2.2.2.2.2.2.2.2.2.2.1
def c_pmade (σ : CSt) : Int32 := σ.2.2.2.2.2.2.2.2.2.2.2.2.2.2.2.2.2.2.2.2.2.2.1
def c_keys (σ : CSt) : (Nat → Int32) := σ.2.2.2.2.2.2.2.2.2.2.2.2.2.2.2.2.2.2.2.2.2.2.2.1
def c_values (σ : CSt) : (Nat → Int32) := σ.2.2.2.2.2.2.2.2.2.2.2.2.2.2.2.2.2.2.2.2.2.2.2.2.1
def c_found (σ : CSt) : (Nat → Int32) := σ.2.2.2.2.2.2.2.2.2.2.2.2.2.2.2.2.2.2.2.2.2.2.2.2.2.1
def c_order (σ : CSt) : (Nat → Int32) := σ.2.2.2.2.2.2.2.2.2.2.2.2.2.2.2.2.2.2.2.2.2.2.2.2.2.2.1
def c_rcount (σ : CSt) : Int32 := σ.2.2.2.2.2.2.2.2.2.2.2.2.2.2.2.2.2.2.2.2.2.2.2.2.2.2.2
def c_manner_s (σ : CSt) (v : Int32) : CSt := (v, c_fault σ, c_under σ, c_nextS σ, c_rounds σ, c_steps σ, c_shaded σ, c_moved σ, c_tmade σ, c_sizes σ, c_places σ, c_colours σ, c_moves σ, c_freed σ, c_wishing σ, c_theld σ, c_cmap σ, c_halfEnd σ, c_behind σ, c_hheld σ, c_named σ, c_wishes σ, c_pmade σ, c_keys σ, c_values σ, c_found σ, c_order σ, c_rcount σ)
def c_fault_s (σ : CSt) (v : Int32) : CSt := (c_manner σ, v, c_under σ, c_nextS σ, c_rounds σ, c_steps σ, c_shaded σ, c_moved σ, c_tmade σ, c_sizes σ, c_places σ, c_colours σ, c_moves σ, c_freed σ, c_wishing σ, c_theld σ, c_cmap σ, c_halfEnd σ, c_behind σ, c_hheld σ, c_named σ, c_wishes σ, c_pmade σ, c_keys σ, c_values σ, c_found σ, c_order σ, c_rcount σ)
def c_under_s (σ : CSt) (v : Int32) : CSt := (c_manner σ, c_fault σ, v, c_nextS σ, c_rounds σ, c_steps σ, c_shaded σ, c_moved σ, c_tmade σ, c_sizes σ, c_places σ, c_colours σ, c_moves σ, c_freed σ, c_wishing σ, c_theld σ, c_cmap σ, c_halfEnd σ, c_behind σ, c_hheld σ, c_named σ, c_wishes σ, c_pmade σ, c_keys σ, c_values σ, c_found σ, c_order σ, c_rcount σ)
def c_nextS_s (σ : CSt) (v : Int32) : CSt := (c_manner σ, c_fault σ, c_under σ, v, c_rounds σ, c_steps σ, c_shaded σ, c_moved σ, c_tmade σ, c_sizes σ, c_places σ, c_colours σ, c_moves σ, c_freed σ, c_wishing σ, c_theld σ, c_cmap σ, c_halfEnd σ, c_behind σ, c_hheld σ, c_named σ, c_wishes σ, c_pmade σ, c_keys σ, c_values σ, c_found σ, c_order σ, c_rcount σ)
def c_rounds_s (σ : CSt) (v : Int32) : CSt := (c_manner σ, c_fault σ, c_under σ, c_nextS σ, v, c_steps σ, c_shaded σ, c_moved σ, c_tmade σ, c_sizes σ, c_places σ, c_colours σ, c_moves σ, c_freed σ, c_wishing σ, c_theld σ, c_cmap σ, c_halfEnd σ, c_behind σ, c_hheld σ, c_named σ, c_wishes σ, c_pmade σ, c_keys σ, c_values σ, c_found σ, c_order σ, c_rcount σ)
def c_steps_s (σ : CSt) (v : Int32) : CSt := (c_manner σ, c_fault σ, c_under σ, c_nextS σ, c_rounds σ, v, c_shaded σ, c_moved σ, c_tmade σ, c_sizes σ, c_places σ, c_colours σ, c_moves σ, c_freed σ, c_wishing σ, c_theld σ, c_cmap σ, c_halfEnd σ, c_behind σ, c_hheld σ, c_named σ, c_wishes σ, c_pmade σ, c_keys σ, c_values σ, c_found σ, c_order σ, c_rcount σ)
def c_shaded_s (σ : CSt) (v : Int32) : CSt := (c_manner σ, c_fault σ, c_under σ, c_nextS σ, c_rounds σ, c_steps σ, v, c_moved σ, c_tmade σ, c_sizes σ, c_places σ, c_colours σ, c_moves σ, c_freed σ, c_wishing σ, c_theld σ, c_cmap σ, c_halfEnd σ, c_behind σ, c_hheld σ, c_named σ, c_wishes σ, c_pmade σ, c_keys σ, c_values σ, c_found σ, c_order σ, c_rcount σ)
def c_moved_s (σ : CSt) (v : Int32) : CSt := (c_manner σ, c_fault σ, c_under σ, c_nextS σ, c_rounds σ, c_steps σ, c_shaded σ, v, c_tmade σ, c_sizes σ, c_places σ, c_colours σ, c_moves σ, c_freed σ, c_wishing σ, c_theld σ, c_cmap σ, c_halfEnd σ, c_behind σ, c_hheld σ, c_named σ, c_wishes σ, c_pmade σ, c_keys σ, c_values σ, c_found σ, c_order σ, c_rcount σ)
def c_tmade_s (σ : CSt) (v : Int32) : CSt := (c_manner σ, c_fault σ, c_under σ, c_nextS σ, c_rounds σ, c_steps σ, c_shaded σ, c_moved σ, v, c_sizes σ, c_places σ, c_colours σ, c_moves σ, c_freed σ, c_wishing σ, c_theld σ, c_cmap σ, c_halfEnd σ, c_behind σ, c_hheld σ, c_named σ, c_wishes σ, c_pmade σ, c_keys σ, c_values σ, c_found σ, c_order σ, c_rcount σ)
def c_sizes_s (σ : CSt) (v : (Nat → Int32)) : CSt := (c_manner σ, c_fault σ, c_under σ, c_nextS σ, c_rounds σ, c_steps σ, c_shaded σ, c_moved σ, c_tmade σ, v, c_places σ, c_colours σ, c_moves σ, c_freed σ, c_wishing σ, c_theld σ, c_cmap σ, c_halfEnd σ, c_behind σ, c_hheld σ, c_named σ, c_wishes σ, c_pmade σ, c_keys σ, c_values σ, c_found σ, c_order σ, c_rcount σ)
def c_places_s (σ : CSt) (v : (Nat → Int32)) : CSt := (c_manner σ, c_fault σ, c_under σ, c_nextS σ, c_rounds σ, c_steps σ, c_shaded σ, c_moved σ, c_tmade σ, c_sizes σ, v, c_colours σ, c_moves σ, c_freed σ, c_wishing σ, c_theld σ, c_cmap σ, c_halfEnd σ, c_behind σ, c_hheld σ, c_named σ, c_wishes σ, c_pmade σ, c_keys σ, c_values σ, c_found σ, c_order σ, c_rcount σ)
def c_colours_s (σ : CSt) (v : (Nat → Int32)) : CSt := (c_manner σ, c_fault σ, c_under σ, c_nextS σ, c_rounds σ, c_steps σ, c_shaded σ, c_moved σ, c_tmade σ, c_sizes σ, c_places σ, v, c_moves σ, c_freed σ, c_wishing σ, c_theld σ, c_cmap σ, c_halfEnd σ, c_behind σ, c_hheld σ, c_named σ, c_wishes σ, c_pmade σ, c_keys σ, c_values σ, c_found σ, c_order σ, c_rcount σ)
def c_moves_s (σ : CSt) (v : (Nat → Int32)) : CSt := (c_manner σ, c_fault σ, c_under σ, c_nextS σ, c_rounds σ, c_steps σ, c_shaded σ, c_moved σ, c_tmade σ, c_sizes σ, c_places σ, c_colours σ, v, c_freed σ, c_wishing σ, c_theld σ, c_cmap σ, c_halfEnd σ, c_behind σ, c_hheld σ, c_named σ, c_wishes σ, c_pmade σ, c_keys σ, c_values σ, c_found σ, c_order σ, c_rcount σ)
def c_freed_s (σ : CSt) (v : (Nat → Int32)) : CSt := (c_manner σ, c_fault σ, c_under σ, c_nextS σ, c_rounds σ, c_steps σ, c_shaded σ, c_moved σ, c_tmade σ, c_sizes σ, c_places σ, c_colours σ, c_moves σ, v, c_wishing σ, c_theld σ, c_cmap σ, c_halfEnd σ, c_behind σ, c_hheld σ, c_named σ, c_wishes σ, c_pmade σ, c_keys σ, c_values σ, c_found σ, c_order σ, c_rcount σ)
def c_wishing_s (σ : CSt) (v : (Nat → Int32)) : CSt := (c_manner σ, c_fault σ, c_under σ, c_nextS σ, c_rounds σ, c_steps σ, c_shaded σ, c_moved σ, c_tmade σ, c_sizes σ, c_places σ, c_colours σ, c_moves σ, c_freed σ, v, c_theld σ, c_cmap σ, c_halfEnd σ, c_behind σ, c_hheld σ, c_named σ, c_wishes σ, c_pmade σ, c_keys σ, c_values σ, c_found σ, c_order σ, c_rcount σ)
def c_theld_s (σ : CSt) (v : (Nat → Int32)) : CSt := (c_manner σ, c_fault σ, c_under σ, c_nextS σ, c_rounds σ, c_steps σ, c_shaded σ, c_moved σ, c_tmade σ, c_sizes σ, c_places σ, c_colours σ, c_moves σ, c_freed σ, c_wishing σ, v, c_cmap σ, c_halfEnd σ, c_behind σ, c_hheld σ, c_named σ, c_wishes σ, c_pmade σ, c_keys σ, c_values σ, c_found σ, c_order σ, c_rcount σ)
def c_cmap_s (σ : CSt) (v : (Nat → Int32)) : CSt := (c_manner σ, c_fault σ, c_under σ, c_nextS σ, c_rounds σ, c_steps σ, c_shaded σ, c_moved σ, c_tmade σ, c_sizes σ, c_places σ, c_colours σ, c_moves σ, c_freed σ, c_wishing σ, c_theld σ, v, c_halfEnd σ, c_behind σ, c_hheld σ, c_named σ, c_wishes σ, c_pmade σ, c_keys σ, c_values σ, c_found σ, c_order σ, c_rcount σ)
def c_halfEnd_s (σ : CSt) (v : Int32) : CSt := (c_manner σ, c_fault σ, c_under σ, c_nextS σ, c_rounds σ, c_steps σ, c_shaded σ, c_moved σ, c_tmade σ, c_sizes σ, c_places σ, c_colours σ, c_moves σ, c_freed σ, c_wishing σ, c_theld σ, c_cmap σ, v, c_behind σ, c_hheld σ, c_named σ, c_wishes σ, c_pmade σ, c_keys σ, c_values σ, c_found σ, c_order σ, c_rcount σ)
def c_behind_s (σ : CSt) (v : Int32) : CSt := (c_manner σ, c_fault σ, c_under σ, c_nextS σ, c_rounds σ, c_steps σ, c_shaded σ, c_moved σ, c_tmade σ, c_sizes σ, c_places σ, c_colours σ, c_moves σ, c_freed σ, c_wishing σ, c_theld σ, c_cmap σ, c_halfEnd σ, v, c_hheld σ, c_named σ, c_wishes σ, c_pmade σ, c_keys σ, c_values σ, c_found σ, c_order σ, c_rcount σ)
def c_hheld_s (σ : CSt) (v : (Nat → Int32)) : CSt := (c_manner σ, c_fault σ, c_under σ, c_nextS σ, c_rounds σ, c_steps σ, c_shaded σ, c_moved σ, c_tmade σ, c_sizes σ, c_places σ, c_colours σ, c_moves σ, c_freed σ, c_wishing σ, c_theld σ, c_cmap σ, c_halfEnd σ, c_behind σ, v, c_named σ, c_wishes σ, c_pmade σ, c_keys σ, c_values σ, c_found σ, c_order σ, c_rcount σ)
def c_named_s (σ : CSt) (v : (Nat → Int32)) : CSt := (c_manner σ, c_fault σ, c_under σ, c_nextS σ, c_rounds σ, c_steps σ, c_shaded σ, c_moved σ, c_tmade σ, c_sizes σ, c_places σ, c_colours σ, c_moves σ, c_freed σ, c_wishing σ, c_theld σ, c_cmap σ, c_halfEnd σ, c_behind σ, c_hheld σ, v, c_wishes σ, c_pmade σ, c_keys σ, c_values σ, c_found σ, c_order σ, c_rcount σ)
def c_wishes_s (σ : CSt) (v : Int32) : CSt := (c_manner σ, c_fault σ, c_under σ, c_nextS σ, c_rounds σ, c_steps σ, c_shaded σ, c_moved σ, c_tmade σ, c_sizes σ, c_places σ, c_colours σ, c_moves σ, c_freed σ, c_wishing σ, c_theld σ, c_cmap σ, c_halfEnd σ, c_behind σ, c_hheld σ, c_named σ, v, c_pmade σ, c_keys σ, c_values σ, c_found σ, c_order σ, c_rcount σ)
def c_pmade_s (σ : CSt) (v : Int32) : CSt := (c_manner σ, c_fault σ, c_under σ, c_nextS σ, c_rounds σ, c_steps σ, c_shaded σ, c_moved σ, c_tmade σ, c_sizes σ, c_places σ, c_colours σ, c_moves σ, c_freed σ, c_wishing σ, c_theld σ, c_cmap σ, c_halfEnd σ, c_behind σ, c_hheld σ, c_named σ, c_wishes σ, v, c_keys σ, c_values σ, c_found σ, c_order σ, c_rcount σ)
def c_keys_s (σ : CSt) (v : (Nat → Int32)) : CSt := (c_manner σ, c_fault σ, c_under σ, c_nextS σ, c_rounds σ, c_steps σ, c_shaded σ, c_moved σ, c_tmade σ, c_sizes σ, c_places σ, c_colours σ, c_moves σ, c_freed σ, c_wishing σ, c_theld σ, c_cmap σ, c_halfEnd σ, c_behind σ, c_hheld σ, c_named σ, c_wishes σ, c_pmade σ, v, c_values σ, c_found σ, c_order σ, c_rcount σ)
def c_values_s (σ : CSt) (v : (Nat → Int32)) : CSt := (c_manner σ, c_fault σ, c_under σ, c_nextS σ, c_rounds σ, c_steps σ, c_shaded σ, c_moved σ, c_tmade σ, c_sizes σ, c_places σ, c_colours σ, c_moves σ, c_freed σ, c_wishing σ, c_theld σ, c_cmap σ, c_halfEnd σ, c_behind σ, c_hheld σ, c_named σ, c_wishes σ, c_pmade σ, c_keys σ, v, c_found σ, c_order σ, c_rcount σ)
def c_found_s (σ : CSt) (v : (Nat → Int32)) : CSt := (c_manner σ, c_fault σ, c_under σ, c_nextS σ, c_rounds σ, c_steps σ, c_shaded σ, c_moved σ, c_tmade σ, c_sizes σ, c_places σ, c_colours σ, c_moves σ, c_freed σ, c_wishing σ, c_theld σ, c_cmap σ, c_halfEnd σ, c_behind σ, c_hheld σ, c_named σ, c_wishes σ, c_pmade σ, c_keys σ, c_values σ, v, c_order σ, c_rcount σ)
def c_order_s (σ : CSt) (v : (Nat → Int32)) : CSt := (c_manner σ, c_fault σ, c_under σ, c_nextS σ, c_rounds σ, c_steps σ, c_shaded σ, c_moved σ, c_tmade σ, c_sizes σ, c_places σ, c_colours σ, c_moves σ, c_freed σ, c_wishing σ, c_theld σ, c_cmap σ, c_halfEnd σ, c_behind σ, c_hheld σ, c_named σ, c_wishes σ, c_pmade σ, c_keys σ, c_values σ, c_found σ, v, c_rcount σ)
def c_rcount_s (σ : CSt) (v : Int32) : CSt := (c_manner σ, c_fault σ, c_under σ, c_nextS σ, c_rounds σ, c_steps σ, c_shaded σ, c_moved σ, c_tmade σ, c_sizes σ, c_places σ, c_colours σ, c_moves σ, c_freed σ, c_wishing σ, c_theld σ, c_cmap σ, c_halfEnd σ, c_behind σ, c_hheld σ, c_named σ, c_wishes σ, c_pmade σ, c_keys σ, c_values σ, c_found σ, c_order σ, v)
def wR (a : Nat → Nat) (cI cZ : ClassId) (σ : RSt) : va_W := [(a 0, .inr (6, [.int (r_manner σ), .int (r_fault σ), .int (r_things σ), .ref (a 1), .ref (a 2), .ref (a 3), .ref (a 4), .ref (a 5), .ref (a 6), .ref (a 7), .ref (a 8), .ref (a 9), .int (r_wishes σ), .ref (a 10), .ref (a 11), .int (r_pairs σ), .ref (a 12), .ref (a 13), .ref (a 14), .int (r_half σ), .int (r_top σ), .int (r_way σ), .int (r_next σ), .int (r_freedMany σ), .int (r_rounds σ), .int (r_steps σ), .int (r_shaded σ), .int (r_movedMany σ), .ref (a 15), .int (r_more σ)])), (a 1, .inl (cI, 120, .inl (r_many σ))), (a 2, .inl (cI, 720, .inl (r_field σ))), (a 3, .inl (cI, 120, .inl (r_place σ))), (a 4, .inl (cI, 120, .inl (r_colour σ))), (a 5, .inl (cZ, 120, .inl (r_isFreed σ))), (a 6, .inl (cZ, 120, .inl (r_hasWish σ))), (a 7, .inl (cI, 120, .inl (r_moved σ))), (a 8, .inl (cI, 12, .inl (r_register σ))), (a 9, .inl (cI, 4, .inl (r_slot σ))), (a 10, .inl (cI, 120, .inl (r_wishAt σ))), (a 11, .inl (cI, 6, .inl (r_weakAt σ))), (a 12, .inl (cI, 8, .inl (r_key σ))), (a 13, .inl (cI, 8, .inl (r_value σ))), (a 14, .inl (cZ, 8, .inl (r_isPair σ))), (a 15, .inl (cZ, 120, .inl (r_isReached σ)))]
def wC (a : Nat → Nat) (cI cZ : ClassId) (σ : CSt) : va_W := [(a 0, .inr (5, [.ref (a 1), .ref (a 2), .ref (a 3), .ref (a 4), .ref (a 5), .int (c_manner σ), .int (c_fault σ), .int (c_under σ), .int (c_nextS σ), .int (c_rounds σ), .int (c_steps σ), .int (c_shaded σ), .int (c_moved σ)])), (a 1, .inr (4, [.int (c_tmade σ), .ref (a 6), .ref (a 7), .ref (a 8), .ref (a 9), .ref (a 10), .ref (a 11), .ref (a 12)])), (a 2, .inr (0, [.ref (a 13), .int (c_halfEnd σ), .int (c_behind σ)])), (a 3, .inr (1, [.ref (a 14), .ref (a 15), .int (c_wishes σ)])), (a 4, .inr (2, [.int (c_pmade σ), .ref (a 16), .ref (a 17)])), (a 5, .inr (3, [.ref (a 18), .ref (a 19), .int (c_rcount σ)])), (a 6, .inl (cI, 120, .inl (c_sizes σ))), (a 7, .inl (cI, 120, .inl (c_places σ))), (a 8, .inl (cI, 120, .inl (c_colours σ))), (a 9, .inl (cI, 120, .inl (c_moves σ))), (a 10, .inl (cZ, 120, .inl (c_freed σ))), (a 11, .inl (cZ, 120, .inl (c_wishing σ))), (a 12, .inl (cI, 720, .inl (c_theld σ))), (a 13, .inl (cI, 200, .inl (c_cmap σ))), (a 14, .inl (cI, 136, .inl (c_hheld σ))), (a 15, .inl (cI, 6, .inl (c_named σ))), (a 16, .inl (cI, 8, .inl (c_keys σ))), (a 17, .inl (cI, 8, .inl (c_values σ))), (a 18, .inl (cZ, 120, .inl (c_found σ))), (a 19, .inl (cI, 120, .inl (c_order σ)))]
theorem wR_sh (a : Nat → Nat) (cI cZ : ClassId) : ∀ u v : RSt, (wR a cI cZ u).map Prod.fst = (wR a cI cZ v).map Prod.fst := fun _ _ => rfl
theorem wC_sh (a : Nat → Nat) (cI cZ : ClassId) : ∀ u v : CSt, (wC a cI cZ u).map Prod.fst = (wC a cI cZ v).map Prod.fst := fun _ _ => rfl
abbrev tyIZ (cI cZ : ClassId) : List (ClassId × FieldType) := [(cI, .int), (cZ, .boolean)]
def NWs (U : State) : Prop := ∀ w ∈ NWl, va_Nw w U
theorem NWs_warm {s U : State} (hW : s.WarmedH U.vm) (h : NWs s) : NWs U := by
  intro w hw
  have h1 := h w hw
  simp only [NWl, List.mem_cons, List.not_mem_nil, or_false] at hw
  rcases hw with rfl | rfl | rfl | rfl | rfl | rfl | rfl | rfl | rfl | rfl | rfl | rfl <;> first | exact va_Nw.warmM hW h1 | exact va_Nw.warmF hW h1
theorem NWs_same {u U : State} (e : u.vm = U.vm) (h : NWs u) : NWs U := by
  intro w hw
  have h1 := h w hw
  simp only [NWl, List.mem_cons, List.not_mem_nil, or_false] at hw
  rcases hw with rfl | rfl | rfl | rfl | rfl | rfl | rfl | rfl | rfl | rfl | rfl | rfl <;> exact va_Nw.same rfl e h1
/-- what a method's walk has of the machine and of the tables -/
def Cx (p : Program) (s : State) (m : MethodId) (args : Array Value) (meth : Method) (c : Code) (cc : ByteArray) (nL : Nat) (own : String) (D : va_G) (tys : List (ClassId × FieldType)) : Prop :=
  p.tables.exec = Jvm.exec ∧ c.code = cc ∧ c.maxLocals = nL ∧ s.vm.findClass own = some m.cls ∧ (∀ w ∈ WW, w.before args s = true) ∧ va_K D vwCl tys s ∧ NWs s
/-- the world of a walk -/
def Sx (A : Nat → Prop) (D : va_G) (ws : va_W) (s : State) (H : Heap) (locs : List Loc) : Prop := va_P D vwCl ws H ∧ va_D A ws ∧ va_S A s.heap H locs
theorem va_D_sh {A : Nat → Prop} {ws ws' : va_W} (h : ws.map Prod.fst = ws'.map Prod.fst) (hD : va_D A ws) : va_D A ws' := by
  have key : ∀ (k : Nat) (q : Nat × va_E), ws'[k]? = some q → ∃ q', ws[k]? = some q' ∧ q'.1 = q.1 := by
    intro k q hq
    have h1 : (ws'.map Prod.fst)[k]? = some q.1 := by simp [hq]
    rw [← h] at h1
    simp only [List.getElem?_map, Option.map_eq_some_iff] at h1
    obtain ⟨q', a1, a2⟩ := h1
    exact ⟨q', a1, a2⟩
  refine ⟨fun i j p q hi hj e => ?_, fun k q hk => ?_⟩
  · obtain ⟨p', a1, a2⟩ := key i p hi
    obtain ⟨q', b1, b2⟩ := key j q hj
    exact hD.1 i j p' q' a1 b1 (by rw [a2, b2, e])
  · obtain ⟨q', a1, a2⟩ := key k q hk
    rw [← a2]
    exact hD.2 k q' a1
abbrev rmk (f lo : Nat) : Room := { frames := f, cells := 0, slots := 0, locals := lo }
def PcX (D : va_G) (tys : List (ClassId × FieldType)) (ws : va_W) (sz : Nat) (U : State) : Prop := U.heap.size = sz ∧ va_P D vwCl ws U.heap ∧ va_K D vwCl tys U ∧ NWs U ∧ va_D (fun _ => True) ws
/-- a method that makes nothing: it answers val (an int, a boolean), the world that was of σ is of τ -/
def CR (l : Launch) (D : va_G) (tys : List (ClassId × FieldType)) {S : Type} (wd : S → va_W) (y : MethodName) (b : ByteArray) (n : Nat) (rt : FieldType) (rm : Room) (av : List Value) (σ : S) (val : Int32) (τ : S) : Prop :=
  ∀ sz : Nat, Met l y (.code y b n (some rt) :: WW) rm (va_Pc av (PcX D tys (wd σ) sz)) (va_Qi (fun (r : Int32) (_ : Unit) => r = val) (fun _ t => va_P D vwCl (wd τ) t.heap) (va_A (wd σ) sz)) 0 0 (va_A (wd σ) sz)
def CJ (l : Launch) (D : va_G) (tys : List (ClassId × FieldType)) {S : Type} (wd : S → va_W) (y : MethodName) (b : ByteArray) (n : Nat) (rm : Room) (av : List Value) (σ : S) (val : Int64) (τ : S) : Prop :=
  ∀ sz : Nat, Met l y (.code y b n (some .long) :: WW) rm (va_Pc av (PcX D tys (wd σ) sz)) (va_Ql (fun (r : Int64) (_ : Unit) => r = val) (fun _ t => va_P D vwCl (wd τ) t.heap) (va_A (wd σ) sz)) 0 0 (va_A (wd σ) sz)
def CU (l : Launch) (D : va_G) (tys : List (ClassId × FieldType)) {S : Type} (wd : S → va_W) (y : MethodName) (b : ByteArray) (n : Nat) (rm : Room) (av : List Value) (σ : S) (τ : S) : Prop :=
  ∀ sz : Nat, Met l y (.code y b n none :: WW) rm (va_Pc av (PcX D tys (wd σ) sz)) (va_Qv (fun (_ : Unit) => True) (fun _ t => va_P D vwCl (wd τ) t.heap) (va_A (wd σ) sz)) 0 0 (va_A (wd σ) sz)
theorem good_WW {w : Cond} (h : w ∈ WW) : (w.onTables && w.keeps) = true ∨ ∃ ty, w = .arrayClass ty := good_of_word (List.mem_filter.mp h).2
theorem gCode {w : Cond} (h : w ∈ WW) : GoodIn WW (w :: WW) := by
  intro x hx
  rcases List.mem_cons.mp hx with rfl | hx
  · exact ⟨h, good_WW h⟩
  · exact ⟨hx, good_WW hx⟩
theorem gV {own : String} {idx : Nat} {C : String} {y : MethodName} {w : Cond} (h1 : Cond.methodLink own idx y ∈ WW) (h2 : Cond.instanceMethod y ∈ WW) (h3 : Cond.selects C y y ∈ WW) (h4 : Cond.initialized C ∈ WW) (h5 : w ∈ WW) : GoodIn WW (wsV own idx C y (w :: WW)) := by
  intro x hx
  unfold wsV at hx
  simp only [List.cons_append, List.nil_append, List.mem_cons] at hx
  rcases hx with rfl | rfl | rfl | rfl | rfl | hx
  · exact ⟨h1, good_WW h1⟩
  · exact ⟨h2, good_WW h2⟩
  · exact ⟨h3, good_WW h3⟩
  · exact ⟨h4, good_WW h4⟩
  · exact ⟨h5, good_WW h5⟩
  · exact ⟨hx, good_WW hx⟩
theorem gS {own : String} {idx : Nat} {y : MethodName} {w : Cond} (h1 : Cond.methodLink own idx y ∈ WW) (h2 : Cond.static y ∈ WW) (h4 : Cond.initialized own ∈ WW) (h5 : w ∈ WW) : GoodIn WW (wsS own idx y (w :: WW)) := by
  intro x hx
  unfold wsS at hx
  simp only [List.cons_append, List.nil_append, List.mem_cons] at hx
  rcases hx with rfl | rfl | rfl | rfl | hx
  · exact ⟨h1, good_WW h1⟩
  · exact ⟨h2, good_WW h2⟩
  · exact ⟨h4, good_WW h4⟩
  · exact ⟨h5, good_WW h5⟩
  · exact ⟨hx, good_WW hx⟩
theorem Pc_blind {D : va_G} {tys : List (ClassId × FieldType)} {ws : va_W} {sz : Nat} {av : List Value} : FrameBlind (va_Pc av (PcX D tys ws sz)) := fun a U g mk q => by
  obtain ⟨q0, q1, qP, qK, qN, qD⟩ := q
  exact ⟨q0, q1, qP, va_K.moved (u := U) (U := U.calling g mk a) (Vm.Alike.refl U.vm) qK, NWs_same (u := U) rfl qN, qD⟩
section BX
variable {p : Program} {l : Launch} {e : Env} {R : Room} {s : State} {m : MethodId} {args : Array Value} {below : List Frame} {meth : Method} {c : Code} {H : Heap} {locs : List Loc} {cells slots : Nat} {Q : State → Prop}
variable {cc : ByteArray} {nL : Nat} {own : String} {D : va_G} {tys : List (ClassId × FieldType)} {A : Nat → Prop} {pc : Nat} {ls : Array Slot} {rest : List Value}
theorem Pc_call (C : Cx p s m args meth c cc nL own D tys) {ws : va_W} (X : Sx A D ws s H locs) {av : List Value} : ∀ U : State, U.heap = H → s.WarmedH U.vm → va_Pc av (PcX D tys ws H.size) av.toArray U := fun U hU hW =>
  ⟨rfl, by rw [hU], by rw [hU]; exact X.1, va_K.moved hW.alike C.2.2.2.2.2.1, NWs_warm hW C.2.2.2.2.2.2, ⟨X.2.1.1, fun _ _ _ => trivial⟩⟩
theorem A_call {ws : va_W} (X : Sx A D ws s H locs) (hA : ∀ q, s.heap.size ≤ q → A q) : ∀ q, va_A ws H.size q → A q := by
  intro q h
  rcases h with ⟨k, e, h⟩ | h
  · exact X.2.1.2 k _ h
  · exact hA q (Nat.le_trans X.2.2.1 h)
theorem Sx_after {S : Type} {wd : S → va_W} (hsh : ∀ u v, (wd u).map Prod.fst = (wd v).map Prod.fst) {σ τ : S} (X : Sx A D (wd σ) s H locs) {t : State} {H1 : Heap} {locs1 : List Loc} (ht : t.heap = H1) (hB : va_P D vwCl (wd τ) t.heap) (hS : va_S A s.heap H1 locs1) : Sx A D (wd τ) s H1 locs1 := ⟨by rw [← ht]; exact hB, va_D_sh (hsh σ τ) X.2.1, hS⟩
/-- a call of a method of one's own world: an int or a boolean comes back -/
theorem callVR (C : Cx p s m args meth c cc nL own D tys) (hA : ∀ q, s.heap.size ≤ q → A q) {S : Type} {wd : S → va_W} (hsh : ∀ u v, (wd u).map Prod.fst = (wd v).map Prod.fst) {σ τ : S} (X : Sx A D (wd σ) s H locs) {y : MethodName} {b : ByteArray} {n na index : Nat} {rt : FieldType} {rm : Room} {val : Int32} {Cc : String} {r q0 ci NN : Nat} {TT : u_T} {As : List Value} {fs : List Value}
    (hM : CR l D tys wd y b n rt rm (.ref r :: As) σ val τ) (cw : CallW R s args own Cc index y b n (some rt) (.code y b n (some rt) :: WW) rm 0 0 na)
    (hc : vwCl[ci]? = some (Cc, TT, NN)) (he : (wd σ)[q0]? = some (r, .inr (ci, fs))) (hn : As.length = na) (hls : ls.size = nL) {st : List Value} (hst : st = As.reverse ++ .ref r :: rest) (hcat : (rest.map fun v => v.category).sum ≤ 8) (hd : decode cc pc = .ok (.invokevirtual index, 3)) (hcs : cells ≤ R.cells ∧ slots ≤ R.slots)
    (k : ∀ (H1 : Heap) (locs1 : List Loc), Sx A D (wd τ) s H1 locs1 → W p l e R s m args below meth c H1 locs1 cells slots Q (F0 m (pc + 3) ls (.int val :: rest))) : W p l e R s m args below meth c H locs cells slots Q (F0 m pc ls st) := by
  subst hst
  refine va_calli (va_runV (As := As) (rest := rest) (g := F0 m pc ls (As.reverse ++ .ref r :: rest)) ⟨C.1, C.2.1, C.2.2.1, C.2.2.2.1, C.2.2.2.2.1⟩ (hM H.size) cw ⟨Pc_blind, va_recv C.2.2.2.2.2.1 X.1 hc he, Pc_call C X⟩ rfl hn hls rfl (lv_room hcat) hd hcs) X.2.2 (fun q _ h => A_call X hA q h) (A_call X hA) (fun rr u t H1 locs1 ht hvm hw hB hz1 hk1 hS => ?_)
  subst hw
  exact k H1 locs1 (Sx_after hsh X ht hB hS)
theorem callVJ (C : Cx p s m args meth c cc nL own D tys) (hA : ∀ q, s.heap.size ≤ q → A q) {S : Type} {wd : S → va_W} (hsh : ∀ u v, (wd u).map Prod.fst = (wd v).map Prod.fst) {σ τ : S} (X : Sx A D (wd σ) s H locs) {y : MethodName} {b : ByteArray} {n na index : Nat} {rm : Room} {val : Int64} {Cc : String} {r q0 ci NN : Nat} {TT : u_T} {As : List Value} {fs : List Value}
    (hM : CJ l D tys wd y b n rm (.ref r :: As) σ val τ) (cw : CallW R s args own Cc index y b n (some .long) (.code y b n (some .long) :: WW) rm 0 0 na)
    (hc : vwCl[ci]? = some (Cc, TT, NN)) (he : (wd σ)[q0]? = some (r, .inr (ci, fs))) (hn : As.length = na) (hls : ls.size = nL) {st : List Value} (hst : st = As.reverse ++ .ref r :: rest) (hcat : (rest.map fun v => v.category).sum ≤ 8) (hd : decode cc pc = .ok (.invokevirtual index, 3)) (hcs : cells ≤ R.cells ∧ slots ≤ R.slots)
    (k : ∀ (H1 : Heap) (locs1 : List Loc), Sx A D (wd τ) s H1 locs1 → W p l e R s m args below meth c H1 locs1 cells slots Q (F0 m (pc + 3) ls (.long val :: rest))) : W p l e R s m args below meth c H locs cells slots Q (F0 m pc ls st) := by
  subst hst
  refine va_calll (va_runV (As := As) (rest := rest) (g := F0 m pc ls (As.reverse ++ .ref r :: rest)) ⟨C.1, C.2.1, C.2.2.1, C.2.2.2.1, C.2.2.2.2.1⟩ (hM H.size) cw ⟨Pc_blind, va_recv C.2.2.2.2.2.1 X.1 hc he, Pc_call C X⟩ rfl hn hls rfl (lv_room hcat) hd hcs) X.2.2 (fun q _ h => A_call X hA q h) (A_call X hA) (fun rr u t H1 locs1 ht hvm hw hB hz1 hk1 hS => ?_)
  subst hw
  exact k H1 locs1 (Sx_after hsh X ht hB hS)
theorem callVU (C : Cx p s m args meth c cc nL own D tys) (hA : ∀ q, s.heap.size ≤ q → A q) {S : Type} {wd : S → va_W} (hsh : ∀ u v, (wd u).map Prod.fst = (wd v).map Prod.fst) {σ τ : S} (X : Sx A D (wd σ) s H locs) {y : MethodName} {b : ByteArray} {n na index : Nat} {rm : Room} {Cc : String} {r q0 ci NN : Nat} {TT : u_T} {As : List Value} {fs : List Value}
    (hM : CU l D tys wd y b n rm (.ref r :: As) σ τ) (cw : CallW R s args own Cc index y b n none (.code y b n none :: WW) rm 0 0 na)
    (hc : vwCl[ci]? = some (Cc, TT, NN)) (he : (wd σ)[q0]? = some (r, .inr (ci, fs))) (hn : As.length = na) (hls : ls.size = nL) {st : List Value} (hst : st = As.reverse ++ .ref r :: rest) (hcat : (rest.map fun v => v.category).sum ≤ 8) (hd : decode cc pc = .ok (.invokevirtual index, 3)) (hcs : cells ≤ R.cells ∧ slots ≤ R.slots)
    (k : ∀ (H1 : Heap) (locs1 : List Loc), Sx A D (wd τ) s H1 locs1 → W p l e R s m args below meth c H1 locs1 cells slots Q (F0 m (pc + 3) ls rest)) : W p l e R s m args below meth c H locs cells slots Q (F0 m pc ls st) := by
  subst hst
  refine va_callv (va_runV (As := As) (rest := rest) (g := F0 m pc ls (As.reverse ++ .ref r :: rest)) ⟨C.1, C.2.1, C.2.2.1, C.2.2.2.1, C.2.2.2.2.1⟩ (hM H.size) cw ⟨Pc_blind, va_recv C.2.2.2.2.2.1 X.1 hc he, Pc_call C X⟩ rfl hn hls rfl (lv_room hcat) hd hcs) X.2.2 (fun q _ h => A_call X hA q h) (A_call X hA) (fun u t H1 locs1 ht hvm hw hB hz1 hk1 hS => ?_)
  exact k H1 locs1 (Sx_after hsh X ht hB hS)
/-- a static call -/
theorem callSR (C : Cx p s m args meth c cc nL own D tys) (hA : ∀ q, s.heap.size ≤ q → A q) {S : Type} {wd : S → va_W} (hsh : ∀ u v, (wd u).map Prod.fst = (wd v).map Prod.fst) {σ τ : S} (X : Sx A D (wd σ) s H locs) {y : MethodName} {b : ByteArray} {n na index : Nat} {rt : FieldType} {rm : Room} {val : Int32} {As : List Value}
    (hM : CR l D tys wd y b n rt rm As σ val τ) (cw : CallB R s args own index y b n (some rt) (.code y b n (some rt) :: WW) rm 0 0 na ∧ (Cond.static y).before args s = true)
    (hn : As.length = na) (hls : ls.size = nL) {st : List Value} (hst : st = As.reverse ++ rest) (hcat : (rest.map fun v => v.category).sum ≤ 8) (hd : decode cc pc = .ok (.invokestatic index, 3)) (hcs : cells ≤ R.cells ∧ slots ≤ R.slots)
    (k : ∀ (H1 : Heap) (locs1 : List Loc), Sx A D (wd τ) s H1 locs1 → W p l e R s m args below meth c H1 locs1 cells slots Q (F0 m (pc + 3) ls (.int val :: rest))) : W p l e R s m args below meth c H locs cells slots Q (F0 m pc ls st) := by
  subst hst
  refine va_calli (va_runS (As := As) (rest := rest) (g := F0 m pc ls (As.reverse ++ rest)) ⟨C.1, C.2.1, C.2.2.1, C.2.2.2.1, C.2.2.2.2.1⟩ (hM H.size) cw ⟨Pc_blind, Pc_call C X⟩ rfl hn hls rfl (lv_room hcat) hd hcs) X.2.2 (fun q _ h => A_call X hA q h) (A_call X hA) (fun rr u t H1 locs1 ht hvm hw hB hz1 hk1 hS => ?_)
  subst hw
  exact k H1 locs1 (Sx_after hsh X ht hB hS)
/-- a static call of a nest mate -/
theorem callNR (C : Cx p s m args meth c cc nL own D tys) (hA : ∀ q, s.heap.size ≤ q → A q) {S : Type} {wd : S → va_W} (hsh : ∀ u v, (wd u).map Prod.fst = (wd v).map Prod.fst) {σ τ : S} (X : Sx A D (wd σ) s H locs) {y : MethodName} {b : ByteArray} {n na index : Nat} {rt : FieldType} {rm : Room} {val : Int32} {As : List Value} {host : String}
    (hM : CR l D tys wd y b n rt rm As σ val τ) (cw : va_CN R s args own index y host b n (some rt) (.code y b n (some rt) :: WW) rm 0 0 na ∧ (Cond.static y).before args s = true ∧ True)
    (hn : As.length = na) (hls : ls.size = nL) {st : List Value} (hst : st = As.reverse ++ rest) (hcat : (rest.map fun v => v.category).sum ≤ 8) (hd : decode cc pc = .ok (.invokestatic index, 3)) (hcs : cells ≤ R.cells ∧ slots ≤ R.slots)
    (k : ∀ (H1 : Heap) (locs1 : List Loc), Sx A D (wd τ) s H1 locs1 → W p l e R s m args below meth c H1 locs1 cells slots Q (F0 m (pc + 3) ls (.int val :: rest))) : W p l e R s m args below meth c H locs cells slots Q (F0 m pc ls st) := by
  subst hst
  refine va_calli (va_runSN (As := As) (rest := rest) (g := F0 m pc ls (As.reverse ++ rest)) ⟨C.1, C.2.1, C.2.2.1, C.2.2.2.1, C.2.2.2.2.1⟩ (hM H.size) cw ⟨Pc_blind, Pc_call C X⟩ rfl hn hls rfl (lv_room hcat) hd hcs) X.2.2 (fun q _ h => A_call X hA q h) (A_call X hA) (fun rr u t H1 locs1 ht hvm hw hB hz1 hk1 hS => ?_)
  subst hw
  exact k H1 locs1 (Sx_after hsh X ht hB hS)
end BX
/-- the contract out of a walk of the body -/
theorem CR.of {l : Launch} {D : va_G} {tys : List (ClassId × FieldType)} {S : Type} {wd : S → va_W} {y : MethodName} {b : ByteArray} {n : Nat} {rt : FieldType} {rm : Room} {av : List Value} {σ : S} {val : Int32} {τ : S} (hy : plainName y.cls = true) (hrm : rm.cells = 0 ∧ rm.slots = 0) (hlen : (lg_sl av).length ≤ n) (hnar : narrow rt (.int val) = .int val)
    (body : ∀ (p : Program) (e : Env) (s : State) (m : MethodId) (args : Array Value) (below : List Frame) (meth : Method) (c : Code) (A : Nat → Prop) (Q : State → Prop) (ls : Array Slot), Cx p s m args meth c b n y.cls D tys → Sx A D (wd σ) s s.heap [] → (∀ q, s.heap.size ≤ q → A q) → lv_has ls n (lv_args 0 av) →
      (∀ {pc : Nat} {ls1 : Array Slot} {H : Heap} {locs : List Loc} {v : Int32} {u : S}, decode b pc = .ok (.ireturn, 1) → (v, u) = (val, τ) → Sx A D (wd u) s H locs → W p l e rm s m args below meth c H locs 0 0 Q (F0 m pc ls1 [.int v])) → W p l e rm s m args below meth c s.heap [] 0 0 Q (F0 m 0 ls [])) : CR l D tys wd y b n rt rm av σ val τ := by
  intro sz
  refine Met.ofW (cc := b) (maxL := n) (ret := some rt) hy rfl ?_
  intro p e s m args below meth c s₁ B hml hv
  obtain ⟨rfl, hsz, hP, hK, hN, hD0⟩ := hv
  have hts := atoms_spec (ws := .code y b n (some rt) :: WW) B.pre
  have hown : s.vm.findClass y.cls = some m.cls := findClass_of_methodNamed B.named
  have hlocks := B.notSynchronized
  subst hsz
  have hD := hD0.self (sz := s.heap.size)
  have hA : ∀ q : Nat, s.heap.size ≤ q → va_A (wd σ) s.heap.size q := fun q h => Or.inr h
  have hl := lv_entry av (n := n) hlen
  rw [lg_entry_eq]
  refine body p e s m _ below meth c (va_A (wd σ) s.heap.size) _ _ ⟨B.exec, B.bytes, hml, hown, fun w hw => hts w (List.mem_cons_of_mem _ hw), hK, hN⟩ ⟨hP, hD, va_S.rf⟩ hA hl ?_
  intro pc ls1 H locs v u hd hvu X
  cases hvu
  exact W.zret B.exec B.bytes B.returns hnar (fun t ht hW => ⟨⟨val, (), rfl, rfl, by subst ht; exact X.1⟩, X.2.2.F ht⟩) X.2.2.2.2 hd
theorem CJ.of {l : Launch} {D : va_G} {tys : List (ClassId × FieldType)} {S : Type} {wd : S → va_W} {y : MethodName} {b : ByteArray} {n : Nat} {rm : Room} {av : List Value} {σ : S} {val : Int64} {τ : S} (hy : plainName y.cls = true) (hrm : rm.cells = 0 ∧ rm.slots = 0) (hlen : (lg_sl av).length ≤ n)
    (body : ∀ (p : Program) (e : Env) (s : State) (m : MethodId) (args : Array Value) (below : List Frame) (meth : Method) (c : Code) (A : Nat → Prop) (Q : State → Prop) (ls : Array Slot), Cx p s m args meth c b n y.cls D tys → Sx A D (wd σ) s s.heap [] → (∀ q, s.heap.size ≤ q → A q) → lv_has ls n (lv_args 0 av) →
      (∀ {pc : Nat} {ls1 : Array Slot} {H : Heap} {locs : List Loc} {v : Int64} {u : S}, decode b pc = .ok (.lreturn, 1) → (v, u) = (val, τ) → Sx A D (wd u) s H locs → W p l e rm s m args below meth c H locs 0 0 Q (F0 m pc ls1 [.long v])) → W p l e rm s m args below meth c s.heap [] 0 0 Q (F0 m 0 ls [])) : CJ l D tys wd y b n rm av σ val τ := by
  intro sz
  refine Met.ofW (cc := b) (maxL := n) (ret := some .long) hy rfl ?_
  intro p e s m args below meth c s₁ B hml hv
  obtain ⟨rfl, hsz, hP, hK, hN, hD0⟩ := hv
  have hts := atoms_spec (ws := .code y b n (some .long) :: WW) B.pre
  have hown : s.vm.findClass y.cls = some m.cls := findClass_of_methodNamed B.named
  have hlocks := B.notSynchronized
  subst hsz
  have hD := hD0.self (sz := s.heap.size)
  have hA : ∀ q : Nat, s.heap.size ≤ q → va_A (wd σ) s.heap.size q := fun q h => Or.inr h
  have hl := lv_entry av (n := n) hlen
  rw [lg_entry_eq]
  refine body p e s m _ below meth c (va_A (wd σ) s.heap.size) _ _ ⟨B.exec, B.bytes, hml, hown, fun w hw => hts w (List.mem_cons_of_mem _ hw), hK, hN⟩ ⟨hP, hD, va_S.rf⟩ hA hl ?_
  intro pc ls1 H locs v u hd hvu X
  cases hvu
  exact W.lret B.exec B.bytes B.returns (fun t ht hW => ⟨⟨val, (), rfl, rfl, by subst ht; exact X.1⟩, X.2.2.F ht⟩) X.2.2.2.2 hd
theorem CU.of {l : Launch} {D : va_G} {tys : List (ClassId × FieldType)} {S : Type} {wd : S → va_W} {y : MethodName} {b : ByteArray} {n : Nat} {rm : Room} {av : List Value} {σ : S} {τ : S} (hy : plainName y.cls = true) (hrm : rm.cells = 0 ∧ rm.slots = 0) (hlen : (lg_sl av).length ≤ n)
    (body : ∀ (p : Program) (e : Env) (s : State) (m : MethodId) (args : Array Value) (below : List Frame) (meth : Method) (c : Code) (A : Nat → Prop) (Q : State → Prop) (ls : Array Slot), Cx p s m args meth c b n y.cls D tys → Sx A D (wd σ) s s.heap [] → (∀ q, s.heap.size ≤ q → A q) → lv_has ls n (lv_args 0 av) →
      (∀ {pc : Nat} {ls1 : Array Slot} {H : Heap} {locs : List Loc} {u : S}, decode b pc = .ok (.return_, 1) → u = τ → Sx A D (wd u) s H locs → W p l e rm s m args below meth c H locs 0 0 Q (F0 m pc ls1 [])) → W p l e rm s m args below meth c s.heap [] 0 0 Q (F0 m 0 ls [])) : CU l D tys wd y b n rm av σ τ := by
  intro sz
  refine Met.ofW (cc := b) (maxL := n) (ret := none) hy rfl ?_
  intro p e s m args below meth c s₁ B hml hv
  obtain ⟨rfl, hsz, hP, hK, hN, hD0⟩ := hv
  have hts := atoms_spec (ws := .code y b n none :: WW) B.pre
  have hown : s.vm.findClass y.cls = some m.cls := findClass_of_methodNamed B.named
  have hlocks := B.notSynchronized
  subst hsz
  have hD := hD0.self (sz := s.heap.size)
  have hA : ∀ q : Nat, s.heap.size ≤ q → va_A (wd σ) s.heap.size q := fun q h => Or.inr h
  have hl := lv_entry av (n := n) hlen
  rw [lg_entry_eq]
  refine body p e s m _ below meth c (va_A (wd σ) s.heap.size) _ _ ⟨B.exec, B.bytes, hml, hown, fun w hw => hts w (List.mem_cons_of_mem _ hw), hK, hN⟩ ⟨hP, hD, va_S.rf⟩ hA hl ?_
  intro pc ls1 H locs u hd hvu X
  cases hvu
  exact W.vret B.exec B.bytes B.returns (fun t ht hW => ⟨⟨(), rfl, trivial, by subst ht; exact X.1⟩, X.2.2.F ht⟩) X.2.2.2.2 hd

