/-! PURE, part 59: an emptied attic -/
def emR (σ : RSt) (n w p hf tp wy ro st sh mv : Int32) (F1 F2 F3 F4 : Nat → Int32) (x1 x2 : Int32) : RSt := r_fault_s (r_manner_s (r_isPair_s (r_weakAt_s (r_slot_s (r_register_s (r_movedMany_s (r_shaded_s (r_steps_s (r_rounds_s (r_way_s (r_top_s (r_half_s (r_pairs_s (r_wishes_s (r_things_s σ n) w) p) hf) tp) wy) ro) st) sh) mv) F1) F2) F3) F4) x1) x2
def emC (c : CSt) (x1 x2 u v0 v1 v2 v3 v4 v5 v6 : Int32) (G1 : Nat → Int32) (be he : Int32) (G2 G3f : Nat → Int32) (v7 : Int32) : CSt := c_wishes_s (c_named_s (c_hheld_s (c_halfEnd_s (c_behind_s (c_cmap_s (c_pmade_s (c_tmade_s (c_moved_s (c_shaded_s (c_steps_s (c_rounds_s (c_nextS_s (c_under_s (c_fault_s (c_manner_s c x1) x2) u) v0) v1) v2) v3) v4) v5) v6) G1) be) he) G2) G3f) v7
theorem s0_emp {σ : RSt} (h : S0 σ) (F1 F2 F3 F4 : Nat → Int32) (h1 : ∀ k, VT (F1 k)) (h2 : ∀ k, VT (F2 k)) (h3 : ∀ k, VT (F3 k)) (n w p hf tp wy ro st sh mv x1 x2 : Int32) (hn : n = 0) (hw : w = 0) (hp : p = 0) (hy : wy = 0) : S0 (emR σ n w p hf tp wy ro st sh mv F1 F2 F3 F4 x1 x2) := by
  obtain ⟨s1, s2, s3, s4, s5, s6, s7, s8, s9, s10, s11, s12, s13⟩ := h
  unfold S0 emR
  simp only [Rp_manner_things, Rp_fault_things, Rp_things_things, Rp_many_things, Rp_field_things, Rp_place_things, Rp_colour_things, Rp_isFreed_things, Rp_hasWish_things, Rp_moved_things, Rp_register_things, Rp_slot_things, Rp_wishes_things, Rp_wishAt_things, Rp_weakAt_things, Rp_pairs_things, Rp_key_things, Rp_value_things, Rp_isPair_things, Rp_half_things, Rp_top_things, Rp_way_things, Rp_next_things, Rp_freedMany_things, Rp_rounds_things, Rp_steps_things, Rp_shaded_things, Rp_movedMany_things, Rp_isReached_things, Rp_more_things, Rp_manner_wishes, Rp_fault_wishes, Rp_things_wishes, Rp_many_wishes, Rp_field_wishes, Rp_place_wishes, Rp_colour_wishes, Rp_isFreed_wishes, Rp_hasWish_wishes, Rp_moved_wishes, Rp_register_wishes, Rp_slot_wishes, Rp_wishes_wishes, Rp_wishAt_wishes, Rp_weakAt_wishes, Rp_pairs_wishes, Rp_key_wishes, Rp_value_wishes, Rp_isPair_wishes, Rp_half_wishes, Rp_top_wishes, Rp_way_wishes, Rp_next_wishes, Rp_freedMany_wishes, Rp_rounds_wishes, Rp_steps_wishes, Rp_shaded_wishes, Rp_movedMany_wishes, Rp_isReached_wishes, Rp_more_wishes, Rp_manner_pairs, Rp_fault_pairs, Rp_things_pairs, Rp_many_pairs, Rp_field_pairs, Rp_place_pairs, Rp_colour_pairs, Rp_isFreed_pairs, Rp_hasWish_pairs, Rp_moved_pairs, Rp_register_pairs, Rp_slot_pairs, Rp_wishes_pairs, Rp_wishAt_pairs, Rp_weakAt_pairs, Rp_pairs_pairs, Rp_key_pairs, Rp_value_pairs, Rp_isPair_pairs, Rp_half_pairs, Rp_top_pairs, Rp_way_pairs, Rp_next_pairs, Rp_freedMany_pairs, Rp_rounds_pairs, Rp_steps_pairs, Rp_shaded_pairs, Rp_movedMany_pairs, Rp_isReached_pairs, Rp_more_pairs, Rp_manner_half, Rp_fault_half, Rp_things_half, Rp_many_half, Rp_field_half, Rp_place_half, Rp_colour_half, Rp_isFreed_half, Rp_hasWish_half, Rp_moved_half, Rp_register_half, Rp_slot_half, Rp_wishes_half, Rp_wishAt_half, Rp_weakAt_half, Rp_pairs_half, Rp_key_half, Rp_value_half, Rp_isPair_half, Rp_half_half, Rp_top_half, Rp_way_half, Rp_next_half, Rp_freedMany_half, Rp_rounds_half, Rp_steps_half, Rp_shaded_half, Rp_movedMany_half, Rp_isReached_half, Rp_more_half, Rp_manner_top, Rp_fault_top, Rp_things_top, Rp_many_top, Rp_field_top, Rp_place_top, Rp_colour_top, Rp_isFreed_top, Rp_hasWish_top, Rp_moved_top, Rp_register_top, Rp_slot_top, Rp_wishes_top, Rp_wishAt_top, Rp_weakAt_top, Rp_pairs_top, Rp_key_top, Rp_value_top, Rp_isPair_top, Rp_half_top, Rp_top_top, Rp_way_top, Rp_next_top, Rp_freedMany_top, Rp_rounds_top, Rp_steps_top, Rp_shaded_top, Rp_movedMany_top, Rp_isReached_top, Rp_more_top, Rp_manner_way, Rp_fault_way, Rp_things_way, Rp_many_way, Rp_field_way, Rp_place_way, Rp_colour_way, Rp_isFreed_way, Rp_hasWish_way, Rp_moved_way, Rp_register_way, Rp_slot_way, Rp_wishes_way, Rp_wishAt_way, Rp_weakAt_way, Rp_pairs_way, Rp_key_way, Rp_value_way, Rp_isPair_way, Rp_half_way, Rp_top_way, Rp_way_way, Rp_next_way, Rp_freedMany_way, Rp_rounds_way, Rp_steps_way, Rp_shaded_way, Rp_movedMany_way, Rp_isReached_way, Rp_more_way, Rp_manner_rounds, Rp_fault_rounds, Rp_things_rounds, Rp_many_rounds, Rp_field_rounds, Rp_place_rounds, Rp_colour_rounds, Rp_isFreed_rounds, Rp_hasWish_rounds, Rp_moved_rounds, Rp_register_rounds, Rp_slot_rounds, Rp_wishes_rounds, Rp_wishAt_rounds, Rp_weakAt_rounds, Rp_pairs_rounds, Rp_key_rounds, Rp_value_rounds, Rp_isPair_rounds, Rp_half_rounds, Rp_top_rounds, Rp_way_rounds, Rp_next_rounds, Rp_freedMany_rounds, Rp_rounds_rounds, Rp_steps_rounds, Rp_shaded_rounds, Rp_movedMany_rounds, Rp_isReached_rounds, Rp_more_rounds, Rp_manner_steps, Rp_fault_steps, Rp_things_steps, Rp_many_steps, Rp_field_steps, Rp_place_steps, Rp_colour_steps, Rp_isFreed_steps, Rp_hasWish_steps, Rp_moved_steps, Rp_register_steps, Rp_slot_steps, Rp_wishes_steps, Rp_wishAt_steps, Rp_weakAt_steps, Rp_pairs_steps, Rp_key_steps, Rp_value_steps, Rp_isPair_steps, Rp_half_steps, Rp_top_steps, Rp_way_steps, Rp_next_steps, Rp_freedMany_steps, Rp_rounds_steps, Rp_steps_steps, Rp_shaded_steps, Rp_movedMany_steps, Rp_isReached_steps, Rp_more_steps, Rp_manner_shaded, Rp_fault_shaded, Rp_things_shaded, Rp_many_shaded, Rp_field_shaded, Rp_place_shaded, Rp_colour_shaded, Rp_isFreed_shaded, Rp_hasWish_shaded, Rp_moved_shaded, Rp_register_shaded, Rp_slot_shaded, Rp_wishes_shaded, Rp_wishAt_shaded, Rp_weakAt_shaded, Rp_pairs_shaded, Rp_key_shaded, Rp_value_shaded, Rp_isPair_shaded, Rp_half_shaded, Rp_top_shaded, Rp_way_shaded, Rp_next_shaded, Rp_freedMany_shaded, Rp_rounds_shaded, Rp_steps_shaded, Rp_shaded_shaded, Rp_movedMany_shaded, Rp_isReached_shaded, Rp_more_shaded, Rp_manner_movedMany, Rp_fault_movedMany, Rp_things_movedMany, Rp_many_movedMany, Rp_field_movedMany, Rp_place_movedMany, Rp_colour_movedMany, Rp_isFreed_movedMany, Rp_hasWish_movedMany, Rp_moved_movedMany, Rp_register_movedMany, Rp_slot_movedMany, Rp_wishes_movedMany, Rp_wishAt_movedMany, Rp_weakAt_movedMany, Rp_pairs_movedMany, Rp_key_movedMany, Rp_value_movedMany, Rp_isPair_movedMany, Rp_half_movedMany, Rp_top_movedMany, Rp_way_movedMany, Rp_next_movedMany, Rp_freedMany_movedMany, Rp_rounds_movedMany, Rp_steps_movedMany, Rp_shaded_movedMany, Rp_movedMany_movedMany, Rp_isReached_movedMany, Rp_more_movedMany, Rp_manner_register, Rp_fault_register, Rp_things_register, Rp_many_register, Rp_field_register, Rp_place_register, Rp_colour_register, Rp_isFreed_register, Rp_hasWish_register, Rp_moved_register, Rp_register_register, Rp_slot_register, Rp_wishes_register, Rp_wishAt_register, Rp_weakAt_register, Rp_pairs_register, Rp_key_register, Rp_value_register, Rp_isPair_register, Rp_half_register, Rp_top_register, Rp_way_register, Rp_next_register, Rp_freedMany_register, Rp_rounds_register, Rp_steps_register, Rp_shaded_register, Rp_movedMany_register, Rp_isReached_register, Rp_more_register, Rp_manner_slot, Rp_fault_slot, Rp_things_slot, Rp_many_slot, Rp_field_slot, Rp_place_slot, Rp_colour_slot, Rp_isFreed_slot, Rp_hasWish_slot, Rp_moved_slot, Rp_register_slot, Rp_slot_slot, Rp_wishes_slot, Rp_wishAt_slot, Rp_weakAt_slot, Rp_pairs_slot, Rp_key_slot, Rp_value_slot, Rp_isPair_slot, Rp_half_slot, Rp_top_slot, Rp_way_slot, Rp_next_slot, Rp_freedMany_slot, Rp_rounds_slot, Rp_steps_slot, Rp_shaded_slot, Rp_movedMany_slot, Rp_isReached_slot, Rp_more_slot, Rp_manner_weakAt, Rp_fault_weakAt, Rp_things_weakAt, Rp_many_weakAt, Rp_field_weakAt, Rp_place_weakAt, Rp_colour_weakAt, Rp_isFreed_weakAt, Rp_hasWish_weakAt, Rp_moved_weakAt, Rp_register_weakAt, Rp_slot_weakAt, Rp_wishes_weakAt, Rp_wishAt_weakAt, Rp_weakAt_weakAt, Rp_pairs_weakAt, Rp_key_weakAt, Rp_value_weakAt, Rp_isPair_weakAt, Rp_half_weakAt, Rp_top_weakAt, Rp_way_weakAt, Rp_next_weakAt, Rp_freedMany_weakAt, Rp_rounds_weakAt, Rp_steps_weakAt, Rp_shaded_weakAt, Rp_movedMany_weakAt, Rp_isReached_weakAt, Rp_more_weakAt, Rp_manner_isPair, Rp_fault_isPair, Rp_things_isPair, Rp_many_isPair, Rp_field_isPair, Rp_place_isPair, Rp_colour_isPair, Rp_isFreed_isPair, Rp_hasWish_isPair, Rp_moved_isPair, Rp_register_isPair, Rp_slot_isPair, Rp_wishes_isPair, Rp_wishAt_isPair, Rp_weakAt_isPair, Rp_pairs_isPair, Rp_key_isPair, Rp_value_isPair, Rp_isPair_isPair, Rp_half_isPair, Rp_top_isPair, Rp_way_isPair, Rp_next_isPair, Rp_freedMany_isPair, Rp_rounds_isPair, Rp_steps_isPair, Rp_shaded_isPair, Rp_movedMany_isPair, Rp_isReached_isPair, Rp_more_isPair, Rp_manner_manner, Rp_fault_manner, Rp_things_manner, Rp_many_manner, Rp_field_manner, Rp_place_manner, Rp_colour_manner, Rp_isFreed_manner, Rp_hasWish_manner, Rp_moved_manner, Rp_register_manner, Rp_slot_manner, Rp_wishes_manner, Rp_wishAt_manner, Rp_weakAt_manner, Rp_pairs_manner, Rp_key_manner, Rp_value_manner, Rp_isPair_manner, Rp_half_manner, Rp_top_manner, Rp_way_manner, Rp_next_manner, Rp_freedMany_manner, Rp_rounds_manner, Rp_steps_manner, Rp_shaded_manner, Rp_movedMany_manner, Rp_isReached_manner, Rp_more_manner, Rp_manner_fault, Rp_fault_fault, Rp_things_fault, Rp_many_fault, Rp_field_fault, Rp_place_fault, Rp_colour_fault, Rp_isFreed_fault, Rp_hasWish_fault, Rp_moved_fault, Rp_register_fault, Rp_slot_fault, Rp_wishes_fault, Rp_wishAt_fault, Rp_weakAt_fault, Rp_pairs_fault, Rp_key_fault, Rp_value_fault, Rp_isPair_fault, Rp_half_fault, Rp_top_fault, Rp_way_fault, Rp_next_fault, Rp_freedMany_fault, Rp_rounds_fault, Rp_steps_fault, Rp_shaded_fault, Rp_movedMany_fault, Rp_isReached_fault, Rp_more_fault]
  subst hn hw hp hy
  have z0 := t0
  have e : cntB (r_hasWish σ) (0 : Int32).toInt.toNat = 0 := rfl
  rw [e]
  exact ⟨⟨by omega, by omega⟩, s2, s3, h1, h2, s6, h3, s8, s9, ⟨by omega, by omega⟩, ⟨by omega, by omega⟩, s12, Or.inl rfl⟩
theorem rel_emp {σ : RSt} {c : CSt} (F1 F2 F3 F4 G1 G2 G3f : Nat → Int32) (n w p hf tp wy ro st sh mv x1 x2 u v0 v1 v2 v3 v4 v5 v6 be he v7 : Int32) (hS : S0 (emR σ n w p hf tp wy ro st sh mv F1 F2 F3 F4 x1 x2))
    (hn : n = 0) (hw : w = 0) (hp : p = 0) (hh : hf = 0) (ht : tp = 0) (hy : wy = 0) (hro : ro = 0) (hst : st = 0) (hsh : sh = 0) (hmv : mv = 0) (e1 : u = 0) (e2 : v1 = 0) (e3 : v2 = 0) (e4 : v3 = 0) (e5 : v4 = 0) (e6 : v5 = 0) (e7 : v6 = 0) (e8 : v7 = 0) (eb : be = 0) (ee : he = 100)
    (f1 : ∀ k, k < 12 → F1 k = -1) (f2 : ∀ k, k < 4 → F2 k = -1) (f3 : ∀ k, k < 6 → F3 k = -1) (f4 : ∀ k, k < 8 → F4 k = 0) (g1 : ∀ k, k < 200 → G1 k = -1) (g2 : ∀ k, k < 16 → G2 k = -1) (g3 : ∀ k, k < 6 → G3f k = -1) :
    RelO 0 (emR σ n w p hf tp wy ro st sh mv F1 F2 F3 F4 x1 x2) (emC c x1 x2 u v0 v1 v2 v3 v4 v5 v6 G1 be he G2 G3f v7) := by
  refine ⟨hS, ?_⟩
  clear hS
  unfold GA rGT rGH rGP rGC emR emC
  simp only [Rp_manner_things, Rp_fault_things, Rp_things_things, Rp_many_things, Rp_field_things, Rp_place_things, Rp_colour_things, Rp_isFreed_things, Rp_hasWish_things, Rp_moved_things, Rp_register_things, Rp_slot_things, Rp_wishes_things, Rp_wishAt_things, Rp_weakAt_things, Rp_pairs_things, Rp_key_things, Rp_value_things, Rp_isPair_things, Rp_half_things, Rp_top_things, Rp_way_things, Rp_next_things, Rp_freedMany_things, Rp_rounds_things, Rp_steps_things, Rp_shaded_things, Rp_movedMany_things, Rp_isReached_things, Rp_more_things, Rp_manner_wishes, Rp_fault_wishes, Rp_things_wishes, Rp_many_wishes, Rp_field_wishes, Rp_place_wishes, Rp_colour_wishes, Rp_isFreed_wishes, Rp_hasWish_wishes, Rp_moved_wishes, Rp_register_wishes, Rp_slot_wishes, Rp_wishes_wishes, Rp_wishAt_wishes, Rp_weakAt_wishes, Rp_pairs_wishes, Rp_key_wishes, Rp_value_wishes, Rp_isPair_wishes, Rp_half_wishes, Rp_top_wishes, Rp_way_wishes, Rp_next_wishes, Rp_freedMany_wishes, Rp_rounds_wishes, Rp_steps_wishes, Rp_shaded_wishes, Rp_movedMany_wishes, Rp_isReached_wishes, Rp_more_wishes, Rp_manner_pairs, Rp_fault_pairs, Rp_things_pairs, Rp_many_pairs, Rp_field_pairs, Rp_place_pairs, Rp_colour_pairs, Rp_isFreed_pairs, Rp_hasWish_pairs, Rp_moved_pairs, Rp_register_pairs, Rp_slot_pairs, Rp_wishes_pairs, Rp_wishAt_pairs, Rp_weakAt_pairs, Rp_pairs_pairs, Rp_key_pairs, Rp_value_pairs, Rp_isPair_pairs, Rp_half_pairs, Rp_top_pairs, Rp_way_pairs, Rp_next_pairs, Rp_freedMany_pairs, Rp_rounds_pairs, Rp_steps_pairs, Rp_shaded_pairs, Rp_movedMany_pairs, Rp_isReached_pairs, Rp_more_pairs, Rp_manner_half, Rp_fault_half, Rp_things_half, Rp_many_half, Rp_field_half, Rp_place_half, Rp_colour_half, Rp_isFreed_half, Rp_hasWish_half, Rp_moved_half, Rp_register_half, Rp_slot_half, Rp_wishes_half, Rp_wishAt_half, Rp_weakAt_half, Rp_pairs_half, Rp_key_half, Rp_value_half, Rp_isPair_half, Rp_half_half, Rp_top_half, Rp_way_half, Rp_next_half, Rp_freedMany_half, Rp_rounds_half, Rp_steps_half, Rp_shaded_half, Rp_movedMany_half, Rp_isReached_half, Rp_more_half, Rp_manner_top, Rp_fault_top, Rp_things_top, Rp_many_top, Rp_field_top, Rp_place_top, Rp_colour_top, Rp_isFreed_top, Rp_hasWish_top, Rp_moved_top, Rp_register_top, Rp_slot_top, Rp_wishes_top, Rp_wishAt_top, Rp_weakAt_top, Rp_pairs_top, Rp_key_top, Rp_value_top, Rp_isPair_top, Rp_half_top, Rp_top_top, Rp_way_top, Rp_next_top, Rp_freedMany_top, Rp_rounds_top, Rp_steps_top, Rp_shaded_top, Rp_movedMany_top, Rp_isReached_top, Rp_more_top, Rp_manner_way, Rp_fault_way, Rp_things_way, Rp_many_way, Rp_field_way, Rp_place_way, Rp_colour_way, Rp_isFreed_way, Rp_hasWish_way, Rp_moved_way, Rp_register_way, Rp_slot_way, Rp_wishes_way, Rp_wishAt_way, Rp_weakAt_way, Rp_pairs_way, Rp_key_way, Rp_value_way, Rp_isPair_way, Rp_half_way, Rp_top_way, Rp_way_way, Rp_next_way, Rp_freedMany_way, Rp_rounds_way, Rp_steps_way, Rp_shaded_way, Rp_movedMany_way, Rp_isReached_way, Rp_more_way, Rp_manner_rounds, Rp_fault_rounds, Rp_things_rounds, Rp_many_rounds, Rp_field_rounds, Rp_place_rounds, Rp_colour_rounds, Rp_isFreed_rounds, Rp_hasWish_rounds, Rp_moved_rounds, Rp_register_rounds, Rp_slot_rounds, Rp_wishes_rounds, Rp_wishAt_rounds, Rp_weakAt_rounds, Rp_pairs_rounds, Rp_key_rounds, Rp_value_rounds, Rp_isPair_rounds, Rp_half_rounds, Rp_top_rounds, Rp_way_rounds, Rp_next_rounds, Rp_freedMany_rounds, Rp_rounds_rounds, Rp_steps_rounds, Rp_shaded_rounds, Rp_movedMany_rounds, Rp_isReached_rounds, Rp_more_rounds, Rp_manner_steps, Rp_fault_steps, Rp_things_steps, Rp_many_steps, Rp_field_steps, Rp_place_steps, Rp_colour_steps, Rp_isFreed_steps, Rp_hasWish_steps, Rp_moved_steps, Rp_register_steps, Rp_slot_steps, Rp_wishes_steps, Rp_wishAt_steps, Rp_weakAt_steps, Rp_pairs_steps, Rp_key_steps, Rp_value_steps, Rp_isPair_steps, Rp_half_steps, Rp_top_steps, Rp_way_steps, Rp_next_steps, Rp_freedMany_steps, Rp_rounds_steps, Rp_steps_steps, Rp_shaded_steps, Rp_movedMany_steps, Rp_isReached_steps, Rp_more_steps, Rp_manner_shaded, Rp_fault_shaded, Rp_things_shaded, Rp_many_shaded, Rp_field_shaded, Rp_place_shaded, Rp_colour_shaded, Rp_isFreed_shaded, Rp_hasWish_shaded, Rp_moved_shaded, Rp_register_shaded, Rp_slot_shaded, Rp_wishes_shaded, Rp_wishAt_shaded, Rp_weakAt_shaded, Rp_pairs_shaded, Rp_key_shaded, Rp_value_shaded, Rp_isPair_shaded, Rp_half_shaded, Rp_top_shaded, Rp_way_shaded, Rp_next_shaded, Rp_freedMany_shaded, Rp_rounds_shaded, Rp_steps_shaded, Rp_shaded_shaded, Rp_movedMany_shaded, Rp_isReached_shaded, Rp_more_shaded, Rp_manner_movedMany, Rp_fault_movedMany, Rp_things_movedMany, Rp_many_movedMany, Rp_field_movedMany, Rp_place_movedMany, Rp_colour_movedMany, Rp_isFreed_movedMany, Rp_hasWish_movedMany, Rp_moved_movedMany, Rp_register_movedMany, Rp_slot_movedMany, Rp_wishes_movedMany, Rp_wishAt_movedMany, Rp_weakAt_movedMany, Rp_pairs_movedMany, Rp_key_movedMany, Rp_value_movedMany, Rp_isPair_movedMany, Rp_half_movedMany, Rp_top_movedMany, Rp_way_movedMany, Rp_next_movedMany, Rp_freedMany_movedMany, Rp_rounds_movedMany, Rp_steps_movedMany, Rp_shaded_movedMany, Rp_movedMany_movedMany, Rp_isReached_movedMany, Rp_more_movedMany, Rp_manner_register, Rp_fault_register, Rp_things_register, Rp_many_register, Rp_field_register, Rp_place_register, Rp_colour_register, Rp_isFreed_register, Rp_hasWish_register, Rp_moved_register, Rp_register_register, Rp_slot_register, Rp_wishes_register, Rp_wishAt_register, Rp_weakAt_register, Rp_pairs_register, Rp_key_register, Rp_value_register, Rp_isPair_register, Rp_half_register, Rp_top_register, Rp_way_register, Rp_next_register, Rp_freedMany_register, Rp_rounds_register, Rp_steps_register, Rp_shaded_register, Rp_movedMany_register, Rp_isReached_register, Rp_more_register, Rp_manner_slot, Rp_fault_slot, Rp_things_slot, Rp_many_slot, Rp_field_slot, Rp_place_slot, Rp_colour_slot, Rp_isFreed_slot, Rp_hasWish_slot, Rp_moved_slot, Rp_register_slot, Rp_slot_slot, Rp_wishes_slot, Rp_wishAt_slot, Rp_weakAt_slot, Rp_pairs_slot, Rp_key_slot, Rp_value_slot, Rp_isPair_slot, Rp_half_slot, Rp_top_slot, Rp_way_slot, Rp_next_slot, Rp_freedMany_slot, Rp_rounds_slot, Rp_steps_slot, Rp_shaded_slot, Rp_movedMany_slot, Rp_isReached_slot, Rp_more_slot, Rp_manner_weakAt, Rp_fault_weakAt, Rp_things_weakAt, Rp_many_weakAt, Rp_field_weakAt, Rp_place_weakAt, Rp_colour_weakAt, Rp_isFreed_weakAt, Rp_hasWish_weakAt, Rp_moved_weakAt, Rp_register_weakAt, Rp_slot_weakAt, Rp_wishes_weakAt, Rp_wishAt_weakAt, Rp_weakAt_weakAt, Rp_pairs_weakAt, Rp_key_weakAt, Rp_value_weakAt, Rp_isPair_weakAt, Rp_half_weakAt, Rp_top_weakAt, Rp_way_weakAt, Rp_next_weakAt, Rp_freedMany_weakAt, Rp_rounds_weakAt, Rp_steps_weakAt, Rp_shaded_weakAt, Rp_movedMany_weakAt, Rp_isReached_weakAt, Rp_more_weakAt, Rp_manner_isPair, Rp_fault_isPair, Rp_things_isPair, Rp_many_isPair, Rp_field_isPair, Rp_place_isPair, Rp_colour_isPair, Rp_isFreed_isPair, Rp_hasWish_isPair, Rp_moved_isPair, Rp_register_isPair, Rp_slot_isPair, Rp_wishes_isPair, Rp_wishAt_isPair, Rp_weakAt_isPair, Rp_pairs_isPair, Rp_key_isPair, Rp_value_isPair, Rp_isPair_isPair, Rp_half_isPair, Rp_top_isPair, Rp_way_isPair, Rp_next_isPair, Rp_freedMany_isPair, Rp_rounds_isPair, Rp_steps_isPair, Rp_shaded_isPair, Rp_movedMany_isPair, Rp_isReached_isPair, Rp_more_isPair, Rp_manner_manner, Rp_fault_manner, Rp_things_manner, Rp_many_manner, Rp_field_manner, Rp_place_manner, Rp_colour_manner, Rp_isFreed_manner, Rp_hasWish_manner, Rp_moved_manner, Rp_register_manner, Rp_slot_manner, Rp_wishes_manner, Rp_wishAt_manner, Rp_weakAt_manner, Rp_pairs_manner, Rp_key_manner, Rp_value_manner, Rp_isPair_manner, Rp_half_manner, Rp_top_manner, Rp_way_manner, Rp_next_manner, Rp_freedMany_manner, Rp_rounds_manner, Rp_steps_manner, Rp_shaded_manner, Rp_movedMany_manner, Rp_isReached_manner, Rp_more_manner, Rp_manner_fault, Rp_fault_fault, Rp_things_fault, Rp_many_fault, Rp_field_fault, Rp_place_fault, Rp_colour_fault, Rp_isFreed_fault, Rp_hasWish_fault, Rp_moved_fault, Rp_register_fault, Rp_slot_fault, Rp_wishes_fault, Rp_wishAt_fault, Rp_weakAt_fault, Rp_pairs_fault, Rp_key_fault, Rp_value_fault, Rp_isPair_fault, Rp_half_fault, Rp_top_fault, Rp_way_fault, Rp_next_fault, Rp_freedMany_fault, Rp_rounds_fault, Rp_steps_fault, Rp_shaded_fault, Rp_movedMany_fault, Rp_isReached_fault, Rp_more_fault, Cp_manner_manner, Cp_fault_manner, Cp_under_manner, Cp_nextS_manner, Cp_rounds_manner, Cp_steps_manner, Cp_shaded_manner, Cp_moved_manner, Cp_tmade_manner, Cp_sizes_manner, Cp_places_manner, Cp_colours_manner, Cp_moves_manner, Cp_freed_manner, Cp_wishing_manner, Cp_theld_manner, Cp_cmap_manner, Cp_halfEnd_manner, Cp_behind_manner, Cp_hheld_manner, Cp_named_manner, Cp_wishes_manner, Cp_pmade_manner, Cp_keys_manner, Cp_values_manner, Cp_found_manner, Cp_order_manner, Cp_rcount_manner, Cp_manner_fault, Cp_fault_fault, Cp_under_fault, Cp_nextS_fault, Cp_rounds_fault, Cp_steps_fault, Cp_shaded_fault, Cp_moved_fault, Cp_tmade_fault, Cp_sizes_fault, Cp_places_fault, Cp_colours_fault, Cp_moves_fault, Cp_freed_fault, Cp_wishing_fault, Cp_theld_fault, Cp_cmap_fault, Cp_halfEnd_fault, Cp_behind_fault, Cp_hheld_fault, Cp_named_fault, Cp_wishes_fault, Cp_pmade_fault, Cp_keys_fault, Cp_values_fault, Cp_found_fault, Cp_order_fault, Cp_rcount_fault, Cp_manner_under, Cp_fault_under, Cp_under_under, Cp_nextS_under, Cp_rounds_under, Cp_steps_under, Cp_shaded_under, Cp_moved_under, Cp_tmade_under, Cp_sizes_under, Cp_places_under, Cp_colours_under, Cp_moves_under, Cp_freed_under, Cp_wishing_under, Cp_theld_under, Cp_cmap_under, Cp_halfEnd_under, Cp_behind_under, Cp_hheld_under, Cp_named_under, Cp_wishes_under, Cp_pmade_under, Cp_keys_under, Cp_values_under, Cp_found_under, Cp_order_under, Cp_rcount_under, Cp_manner_nextS, Cp_fault_nextS, Cp_under_nextS, Cp_nextS_nextS, Cp_rounds_nextS, Cp_steps_nextS, Cp_shaded_nextS, Cp_moved_nextS, Cp_tmade_nextS, Cp_sizes_nextS, Cp_places_nextS, Cp_colours_nextS, Cp_moves_nextS, Cp_freed_nextS, Cp_wishing_nextS, Cp_theld_nextS, Cp_cmap_nextS, Cp_halfEnd_nextS, Cp_behind_nextS, Cp_hheld_nextS, Cp_named_nextS, Cp_wishes_nextS, Cp_pmade_nextS, Cp_keys_nextS, Cp_values_nextS, Cp_found_nextS, Cp_order_nextS, Cp_rcount_nextS, Cp_manner_rounds, Cp_fault_rounds, Cp_under_rounds, Cp_nextS_rounds, Cp_rounds_rounds, Cp_steps_rounds, Cp_shaded_rounds, Cp_moved_rounds, Cp_tmade_rounds, Cp_sizes_rounds, Cp_places_rounds, Cp_colours_rounds, Cp_moves_rounds, Cp_freed_rounds, Cp_wishing_rounds, Cp_theld_rounds, Cp_cmap_rounds, Cp_halfEnd_rounds, Cp_behind_rounds, Cp_hheld_rounds, Cp_named_rounds, Cp_wishes_rounds, Cp_pmade_rounds, Cp_keys_rounds, Cp_values_rounds, Cp_found_rounds, Cp_order_rounds, Cp_rcount_rounds, Cp_manner_steps, Cp_fault_steps, Cp_under_steps, Cp_nextS_steps, Cp_rounds_steps, Cp_steps_steps, Cp_shaded_steps, Cp_moved_steps, Cp_tmade_steps, Cp_sizes_steps, Cp_places_steps, Cp_colours_steps, Cp_moves_steps, Cp_freed_steps, Cp_wishing_steps, Cp_theld_steps, Cp_cmap_steps, Cp_halfEnd_steps, Cp_behind_steps, Cp_hheld_steps, Cp_named_steps, Cp_wishes_steps, Cp_pmade_steps, Cp_keys_steps, Cp_values_steps, Cp_found_steps, Cp_order_steps, Cp_rcount_steps, Cp_manner_shaded, Cp_fault_shaded, Cp_under_shaded, Cp_nextS_shaded, Cp_rounds_shaded, Cp_steps_shaded, Cp_shaded_shaded, Cp_moved_shaded, Cp_tmade_shaded, Cp_sizes_shaded, Cp_places_shaded, Cp_colours_shaded, Cp_moves_shaded, Cp_freed_shaded, Cp_wishing_shaded, Cp_theld_shaded, Cp_cmap_shaded, Cp_halfEnd_shaded, Cp_behind_shaded, Cp_hheld_shaded, Cp_named_shaded, Cp_wishes_shaded, Cp_pmade_shaded, Cp_keys_shaded, Cp_values_shaded, Cp_found_shaded, Cp_order_shaded, Cp_rcount_shaded, Cp_manner_moved, Cp_fault_moved, Cp_under_moved, Cp_nextS_moved, Cp_rounds_moved, Cp_steps_moved, Cp_shaded_moved, Cp_moved_moved, Cp_tmade_moved, Cp_sizes_moved, Cp_places_moved, Cp_colours_moved, Cp_moves_moved, Cp_freed_moved, Cp_wishing_moved, Cp_theld_moved, Cp_cmap_moved, Cp_halfEnd_moved, Cp_behind_moved, Cp_hheld_moved, Cp_named_moved, Cp_wishes_moved, Cp_pmade_moved, Cp_keys_moved, Cp_values_moved, Cp_found_moved, Cp_order_moved, Cp_rcount_moved, Cp_manner_tmade, Cp_fault_tmade, Cp_under_tmade, Cp_nextS_tmade, Cp_rounds_tmade, Cp_steps_tmade, Cp_shaded_tmade, Cp_moved_tmade, Cp_tmade_tmade, Cp_sizes_tmade, Cp_places_tmade, Cp_colours_tmade, Cp_moves_tmade, Cp_freed_tmade, Cp_wishing_tmade, Cp_theld_tmade, Cp_cmap_tmade, Cp_halfEnd_tmade, Cp_behind_tmade, Cp_hheld_tmade, Cp_named_tmade, Cp_wishes_tmade, Cp_pmade_tmade, Cp_keys_tmade, Cp_values_tmade, Cp_found_tmade, Cp_order_tmade, Cp_rcount_tmade, Cp_manner_pmade, Cp_fault_pmade, Cp_under_pmade, Cp_nextS_pmade, Cp_rounds_pmade, Cp_steps_pmade, Cp_shaded_pmade, Cp_moved_pmade, Cp_tmade_pmade, Cp_sizes_pmade, Cp_places_pmade, Cp_colours_pmade, Cp_moves_pmade, Cp_freed_pmade, Cp_wishing_pmade, Cp_theld_pmade, Cp_cmap_pmade, Cp_halfEnd_pmade, Cp_behind_pmade, Cp_hheld_pmade, Cp_named_pmade, Cp_wishes_pmade, Cp_pmade_pmade, Cp_keys_pmade, Cp_values_pmade, Cp_found_pmade, Cp_order_pmade, Cp_rcount_pmade, Cp_manner_cmap, Cp_fault_cmap, Cp_under_cmap, Cp_nextS_cmap, Cp_rounds_cmap, Cp_steps_cmap, Cp_shaded_cmap, Cp_moved_cmap, Cp_tmade_cmap, Cp_sizes_cmap, Cp_places_cmap, Cp_colours_cmap, Cp_moves_cmap, Cp_freed_cmap, Cp_wishing_cmap, Cp_theld_cmap, Cp_cmap_cmap, Cp_halfEnd_cmap, Cp_behind_cmap, Cp_hheld_cmap, Cp_named_cmap, Cp_wishes_cmap, Cp_pmade_cmap, Cp_keys_cmap, Cp_values_cmap, Cp_found_cmap, Cp_order_cmap, Cp_rcount_cmap, Cp_manner_behind, Cp_fault_behind, Cp_under_behind, Cp_nextS_behind, Cp_rounds_behind, Cp_steps_behind, Cp_shaded_behind, Cp_moved_behind, Cp_tmade_behind, Cp_sizes_behind, Cp_places_behind, Cp_colours_behind, Cp_moves_behind, Cp_freed_behind, Cp_wishing_behind, Cp_theld_behind, Cp_cmap_behind, Cp_halfEnd_behind, Cp_behind_behind, Cp_hheld_behind, Cp_named_behind, Cp_wishes_behind, Cp_pmade_behind, Cp_keys_behind, Cp_values_behind, Cp_found_behind, Cp_order_behind, Cp_rcount_behind, Cp_manner_halfEnd, Cp_fault_halfEnd, Cp_under_halfEnd, Cp_nextS_halfEnd, Cp_rounds_halfEnd, Cp_steps_halfEnd, Cp_shaded_halfEnd, Cp_moved_halfEnd, Cp_tmade_halfEnd, Cp_sizes_halfEnd, Cp_places_halfEnd, Cp_colours_halfEnd, Cp_moves_halfEnd, Cp_freed_halfEnd, Cp_wishing_halfEnd, Cp_theld_halfEnd, Cp_cmap_halfEnd, Cp_halfEnd_halfEnd, Cp_behind_halfEnd, Cp_hheld_halfEnd, Cp_named_halfEnd, Cp_wishes_halfEnd, Cp_pmade_halfEnd, Cp_keys_halfEnd, Cp_values_halfEnd, Cp_found_halfEnd, Cp_order_halfEnd, Cp_rcount_halfEnd, Cp_manner_hheld, Cp_fault_hheld, Cp_under_hheld, Cp_nextS_hheld, Cp_rounds_hheld, Cp_steps_hheld, Cp_shaded_hheld, Cp_moved_hheld, Cp_tmade_hheld, Cp_sizes_hheld, Cp_places_hheld, Cp_colours_hheld, Cp_moves_hheld, Cp_freed_hheld, Cp_wishing_hheld, Cp_theld_hheld, Cp_cmap_hheld, Cp_halfEnd_hheld, Cp_behind_hheld, Cp_hheld_hheld, Cp_named_hheld, Cp_wishes_hheld, Cp_pmade_hheld, Cp_keys_hheld, Cp_values_hheld, Cp_found_hheld, Cp_order_hheld, Cp_rcount_hheld, Cp_manner_named, Cp_fault_named, Cp_under_named, Cp_nextS_named, Cp_rounds_named, Cp_steps_named, Cp_shaded_named, Cp_moved_named, Cp_tmade_named, Cp_sizes_named, Cp_places_named, Cp_colours_named, Cp_moves_named, Cp_freed_named, Cp_wishing_named, Cp_theld_named, Cp_cmap_named, Cp_halfEnd_named, Cp_behind_named, Cp_hheld_named, Cp_named_named, Cp_wishes_named, Cp_pmade_named, Cp_keys_named, Cp_values_named, Cp_found_named, Cp_order_named, Cp_rcount_named, Cp_manner_wishes, Cp_fault_wishes, Cp_under_wishes, Cp_nextS_wishes, Cp_rounds_wishes, Cp_steps_wishes, Cp_shaded_wishes, Cp_moved_wishes, Cp_tmade_wishes, Cp_sizes_wishes, Cp_places_wishes, Cp_colours_wishes, Cp_moves_wishes, Cp_freed_wishes, Cp_wishing_wishes, Cp_theld_wishes, Cp_cmap_wishes, Cp_halfEnd_wishes, Cp_behind_wishes, Cp_hheld_wishes, Cp_named_wishes, Cp_wishes_wishes, Cp_pmade_wishes, Cp_keys_wishes, Cp_values_wishes, Cp_found_wishes, Cp_order_wishes, Cp_rcount_wishes]
  subst hn hw hp hh ht hy hro hst hsh hmv e1 e2 e3 e4 e5 e6 e7 e8 eb ee
  have z0 := t0
  refine ⟨⟨trivial, trivial, rfl, rfl, by decide, rfl, rfl, rfl, rfl, rfl, fun z => absurd z two_ne0, Or.inl rfl, by omega, by omega⟩, fun k hk => absurd hk (by omega), ⟨fun k hk => ?_, fun k hk => ?_, fun k hk => absurd hk (by omega), fun k hk => ?_⟩, ⟨fun k hk => absurd hk (by omega), fun k _ hk => f4 k hk⟩, ⟨⟨fun k hk => absurd hk.1 (by omega), fun k _ hk => absurd hk.1 (by omega), fun j hj => Or.inr ⟨fun k hk => absurd hk.1.1 (by omega), g1 j hj⟩⟩, ⟨Or.inl rfl, by omega, by decide, by decide⟩, fun _ => ⟨Or.inl rfl, fun k hk => absurd hk.1 (by omega), fun _ => ?_, fun z => absurd z (by decide)⟩⟩⟩
  · rw [f1 k hk, g2 k (by omega)]
    exact ⟨rfl, Or.inl rfl⟩
  · rw [f2 k hk, g2 (12 + k) (by omega)]
    exact ⟨rfl, Or.inl rfl⟩
  · rw [f3 k hk, g3 k hk]
    exact ⟨rfl, Or.inl rfl⟩
  · have a1 : ∀ g, sumN g (0 : Int32).toInt.toNat = 0 := fun _ => rfl
    rw [a1, a1]
    omega
theorem asg_0 (f : Nat → Int32) (a : Int) (v : Int32) : asgF f a (a + (0 : Nat)) v = f := by
  funext j
  unfold asgF
  rw [if_neg (by omega)]
theorem asg_s {f : Nat → Int32} {a : Int} {m k : Nat} (hk : (k : Int) = a) (v : Int32) : asgF (upd f k v) (a + 1) (a + 1 + m) v = asgF f a (a + (m + 1 : Nat)) v := by
  funext j
  unfold asgF
  by_cases e : j = k
  · subst e
    rw [if_neg (by omega), pk_us, if_pos (by omega)]
  · rw [pk_un e]
    by_cases c1 : a + 1 ≤ (j : Int) ∧ (j : Int) < a + 1 + m
    · rw [if_pos c1, if_pos (by omega)]
    · rw [if_neg c1, if_neg (by omega)]
theorem asg_in {f : Nat → Int32} {b : Int} {v : Int32} {k : Nat} (hk : (k : Int) < b) : asgF f (0 : Int32).toInt b v k = v := by
  have z0 := t0
  unfold asgF
  rw [if_pos ⟨by omega, hk⟩]
theorem asg_vt {f : Nat → Int32} {a b : Int} (h : ∀ k, VT (f k)) (k : Nat) : VT (asgF f a b (-1) k) := by
  unfold asgF
  split
  · exact Or.inl rfl
  · exact h k
theorem em52 (f : Nat) : ∀ (y : Int32) (σ : RSt), 0 ≤ y.toInt → y.toInt + f ≤ 200 → fX6_empties_L52 f y σ = r_register_s σ (asgF (r_register σ) y.toInt (y.toInt + f) (-1)) := by
  induction f with
  | zero =>
    intro y σ h0 h1
    rw [asg_0, register_id]
    rfl
  | succ f ih =>
    intro y σ h0 h1
    have ey := ix_nat h0
    have e1 := i32_1 (x := y) (B := 300) (by have q : (300 : Int32).toInt = 300 := rfl; omega)
    unfold fX6_empties_L52
    rw [ih (y + 1) _ (by omega) (by omega), Rp_register_register, register_2, e1, asg_s ey]
theorem em73 (f : Nat) : ∀ (y : Int32) (σ : RSt), 0 ≤ y.toInt → y.toInt + f ≤ 200 → fX6_empties_L73 f y σ = r_slot_s σ (asgF (r_slot σ) y.toInt (y.toInt + f) (-1)) := by
  induction f with
  | zero =>
    intro y σ h0 h1
    rw [asg_0, slot_id]
    rfl
  | succ f ih =>
    intro y σ h0 h1
    have ey := ix_nat h0
    have e1 := i32_1 (x := y) (B := 300) (by have q : (300 : Int32).toInt = 300 := rfl; omega)
    unfold fX6_empties_L73
    rw [ih (y + 1) _ (by omega) (by omega), Rp_slot_slot, slot_2, e1, asg_s ey]
theorem em93 (f : Nat) : ∀ (y : Int32) (σ : RSt), 0 ≤ y.toInt → y.toInt + f ≤ 200 → fX6_empties_L93 f y σ = r_weakAt_s σ (asgF (r_weakAt σ) y.toInt (y.toInt + f) (-1)) := by
  induction f with
  | zero =>
    intro y σ h0 h1
    rw [asg_0, weakAt_id]
    rfl
  | succ f ih =>
    intro y σ h0 h1
    have ey := ix_nat h0
    have e1 := i32_1 (x := y) (B := 300) (by have q : (300 : Int32).toInt = 300 := rfl; omega)
    unfold fX6_empties_L93
    rw [ih (y + 1) _ (by omega) (by omega), Rp_weakAt_weakAt, weakAt_2, e1, asg_s ey]
theorem em114 (f : Nat) : ∀ (y : Int32) (σ : RSt), 0 ≤ y.toInt → y.toInt + f ≤ 200 → fX6_empties_L114 f y σ = r_isPair_s σ (asgF (r_isPair σ) y.toInt (y.toInt + f) 0) := by
  induction f with
  | zero =>
    intro y σ h0 h1
    rw [asg_0, isPair_id]
    rfl
  | succ f ih =>
    intro y σ h0 h1
    have ey := ix_nat h0
    have e1 := i32_1 (x := y) (B := 300) (by have q : (300 : Int32).toInt = 300 := rfl; omega)
    unfold fX6_empties_L114
    rw [ih (y + 1) _ (by omega) (by omega), Rp_isPair_isPair, isPair_2, e1, asg_s ey]
theorem h2 (f : Nat) : ∀ (y : Int32) (σ : CSt), 0 ≤ y.toInt → y.toInt + f ≤ 200 → fX1_empty_L2 f y σ = c_hheld_s σ (asgF (c_hheld σ) y.toInt (y.toInt + f) (-1)) := by
  induction f with
  | zero =>
    intro y σ h0 h1
    rw [asg_0, hheld_id]
    rfl
  | succ f ih =>
    intro y σ h0 h1
    have ey := ix_nat h0
    have e1 := i32_1 (x := y) (B := 300) (by have q : (300 : Int32).toInt = 300 := rfl; omega)
    unfold fX1_empty_L2
    rw [ih (y + 1) _ (by omega) (by omega), Cp_hheld_hheld, hheld_2, e1, asg_s ey]
theorem x0e (f : Nat) : ∀ (y : Int32) (σ : CSt), 0 ≤ y.toInt → y.toInt + f ≤ 200 → fX0_empty_L2 f y σ = c_halfEnd_s (c_behind_s (c_cmap_s σ (asgF (c_cmap σ) y.toInt (y.toInt + f) (-1))) 0) 100 := by
  induction f with
  | zero =>
    intro y σ h0 h1
    rw [asg_0, cmap_id]
    rfl
  | succ f ih =>
    intro y σ h0 h1
    have ey := ix_nat h0
    have e1 := i32_1 (x := y) (B := 300) (by have q : (300 : Int32).toInt = 300 := rfl; omega)
    unfold fX0_empty_L2
    rw [ih (y + 1) _ (by omega) (by omega), Cp_cmap_cmap, cmap_2, e1, asg_s ey]
theorem x1e (f : Nat) : ∀ (y : Int32) (σ : CSt), 0 ≤ y.toInt → y.toInt + f ≤ 200 → fX1_empty_L23 f y σ = c_wishes_s (c_named_s σ (asgF (c_named σ) y.toInt (y.toInt + f) (-1))) 0 := by
  induction f with
  | zero =>
    intro y σ h0 h1
    rw [asg_0, named_id]
    rfl
  | succ f ih =>
    intro y σ h0 h1
    have ey := ix_nat h0
    have e1 := i32_1 (x := y) (B := 300) (by have q : (300 : Int32).toInt = 300 := rfl; omega)
    unfold fX1_empty_L23
    rw [ih (y + 1) _ (by omega) (by omega), Cp_named_named, named_2, e1, asg_s ey]
theorem emptiesR (σ : RSt) : ∃ F1 F2 F3 F4 : Nat → Int32, (∀ x1 x2, r_fault_s (r_manner_s (fX6_empties σ) x1) x2 = emR σ 0 0 0 0 0 0 0 0 0 0 F1 F2 F3 F4 x1 x2) ∧ (∀ k, k < 12 → F1 k = -1) ∧ (∀ k, k < 4 → F2 k = -1) ∧ (∀ k, k < 6 → F3 k = -1) ∧ (∀ k, k < 8 → F4 k = 0) ∧ (S0 σ → (∀ k, VT (F1 k)) ∧ (∀ k, VT (F2 k)) ∧ ∀ k, VT (F3 k)) := by
  have z0 := t0
  have q12 : ((12 : Int32).toInt - (0 : Int32).toInt).toNat = 12 := rfl
  have q4 : ((4 : Int32).toInt - (0 : Int32).toInt).toNat = 4 := rfl
  have q6 : ((6 : Int32).toInt - (0 : Int32).toInt).toNat = 6 := rfl
  have q8 : ((8 : Int32).toInt - (0 : Int32).toInt).toNat = 8 := rfl
  refine ⟨asgF (r_register σ) (0 : Int32).toInt ((0 : Int32).toInt + (12 : Nat)) (-1), asgF (r_slot σ) (0 : Int32).toInt ((0 : Int32).toInt + (4 : Nat)) (-1), asgF (r_weakAt σ) (0 : Int32).toInt ((0 : Int32).toInt + (6 : Nat)) (-1), asgF (r_isPair σ) (0 : Int32).toInt ((0 : Int32).toInt + (8 : Nat)) 0, fun x1 x2 => ?_, fun k hk => asg_in (by omega), fun k hk => asg_in (by omega), fun k hk => asg_in (by omega), fun k hk => asg_in (by omega), fun h => ⟨asg_vt (s0_register h), asg_vt (s0_slot h), asg_vt (s0_weakAt h)⟩⟩
  unfold fX6_empties emR
  rw [q12, q4, q6, q8, em52 12 0 _ (by omega) (by omega), em73 4 0 _ (by omega) (by omega), em93 6 0 _ (by omega) (by omega), em114 8 0 _ (by omega) (by omega)]
  rw [Rp_isPair_weakAt, Rp_isPair_slot, Rp_isPair_register, Rp_weakAt_slot, Rp_weakAt_register, Rp_slot_register]
  rw [Rp_isPair_movedMany, Rp_isPair_shaded, Rp_isPair_steps, Rp_isPair_rounds, Rp_isPair_way, Rp_isPair_top, Rp_isPair_half, Rp_isPair_pairs, Rp_isPair_wishes, Rp_isPair_things, Rp_weakAt_movedMany, Rp_weakAt_shaded, Rp_weakAt_steps, Rp_weakAt_rounds, Rp_weakAt_way, Rp_weakAt_top, Rp_weakAt_half, Rp_weakAt_pairs, Rp_weakAt_wishes, Rp_weakAt_things, Rp_slot_movedMany, Rp_slot_shaded, Rp_slot_steps, Rp_slot_rounds, Rp_slot_way, Rp_slot_top, Rp_slot_half, Rp_slot_pairs, Rp_slot_wishes, Rp_slot_things, Rp_register_movedMany, Rp_register_shaded, Rp_register_steps, Rp_register_rounds, Rp_register_way, Rp_register_top, Rp_register_half, Rp_register_pairs, Rp_register_wishes, Rp_register_things]
theorem emptyC (c : CSt) (x1 x2 : Int32) : ∃ G1 G2 G3f : Nat → Int32, fX5_empty c x1 x2 = emC c x1 x2 0 0 0 0 0 0 0 0 G1 0 100 G2 G3f 0 ∧ (∀ k, k < 200 → G1 k = -1) ∧ (∀ k, k < 16 → G2 k = -1) ∧ (∀ k, k < 6 → G3f k = -1) := by
  have z0 := t0
  have q200 : ((200 : Int32).toInt - (0 : Int32).toInt).toNat = 200 := rfl
  have q16 : ((16 : Int32).toInt - (0 : Int32).toInt).toNat = 16 := rfl
  have q6 : ((6 : Int32).toInt - (0 : Int32).toInt).toNat = 6 := rfl
  refine ⟨asgF (c_cmap c) (0 : Int32).toInt ((0 : Int32).toInt + (200 : Nat)) (-1), asgF (c_hheld c) (0 : Int32).toInt ((0 : Int32).toInt + (16 : Nat)) (-1), asgF (c_named c) (0 : Int32).toInt ((0 : Int32).toInt + (6 : Nat)) (-1), ?_, fun k hk => asg_in (by omega), fun k hk => asg_in (by omega), fun k hk => asg_in (by omega)⟩
  unfold fX5_empty fX1_empty fX0_empty emC
  rw [q200, q16, q6, x0e 200 0 _ (by omega) (by omega), h2 16 0 _ (by omega) (by omega), x1e 6 0 _ (by omega) (by omega)]
  rw [Cp_named_hheld, Cp_named_halfEnd, Cp_named_behind, Cp_named_cmap, Cp_hheld_halfEnd, Cp_hheld_behind, Cp_hheld_cmap]
  rw [Cp_named_pmade, Cp_named_tmade, Cp_named_moved, Cp_named_shaded, Cp_named_steps, Cp_named_rounds, Cp_named_nextS, Cp_named_under, Cp_named_fault, Cp_named_manner, Cp_hheld_pmade, Cp_hheld_tmade, Cp_hheld_moved, Cp_hheld_shaded, Cp_hheld_steps, Cp_hheld_rounds, Cp_hheld_nextS, Cp_hheld_under, Cp_hheld_fault, Cp_hheld_manner, Cp_cmap_pmade, Cp_cmap_tmade, Cp_cmap_moved, Cp_cmap_shaded, Cp_cmap_steps, Cp_cmap_rounds, Cp_cmap_nextS, Cp_cmap_under, Cp_cmap_fault, Cp_cmap_manner]
theorem rel_empty {σ : RSt} (hS : S0 σ) (c : CSt) (x1 x2 : Int32) : RelO 0 (r_fault_s (r_manner_s (fX6_empties σ) x1) x2) (fX5_empty c x1 x2) := by
  obtain ⟨F1, F2, F3, F4, e, f1, f2, f3, f4, f5⟩ := emptiesR σ
  obtain ⟨G1, G2, G3f, e5, g1, g2, g3⟩ := emptyC c x1 x2
  obtain ⟨v1, v2, v3⟩ := f5 hS
  rw [e, e5]
  exact rel_emp F1 F2 F3 F4 G1 G2 G3f 0 0 0 0 0 0 0 0 0 0 x1 x2 0 0 0 0 0 0 0 0 0 100 0 (s0_emp hS F1 F2 F3 F4 v1 v2 v3 0 0 0 0 0 0 0 0 0 0 x1 x2 rfl rfl rfl rfl) rfl rfl rfl rfl rfl rfl rfl rfl rfl rfl rfl rfl rfl rfl rfl rfl rfl rfl rfl rfl f1 f2 f3 f4 g1 g2 g3
theorem s0_r0 : S0 r0 := by
  have z : vp_in (0 : Int32) 120 := vp_in_iff.mpr ⟨by decide, by decide⟩
  exact ⟨by decide, fun _ => by show 0 ≤ (0 : Int32).toInt ∧ (0 : Int32).toInt ≤ 6; decide, fun _ => Or.inr z, fun _ => Or.inr z, fun _ => Or.inr z, fun _ => Or.inr z, fun _ => Or.inr z, fun _ => z, fun _ => Or.inr z, by decide, by decide, by decide, Or.inl rfl⟩
theorem manner_id (σ : RSt) : r_manner_s σ (r_manner σ) = σ := rfl
theorem fault_id (σ : RSt) : r_fault_s σ (r_fault σ) = σ := rfl
def MF0 (σ : RSt) : Prop := r_manner σ = 0 ∧ r_fault σ = 0
theorem rel_0 : Rel (fX6_empties r0) (fX5_empty c0 0 0) := by
  have g := rel_empty s0_r0 c0 0 0
  have q12 : ((12 : Int32).toInt - (0 : Int32).toInt).toNat = 12 := rfl
  have q4 : ((4 : Int32).toInt - (0 : Int32).toInt).toNat = 4 := rfl
  have q6 : ((6 : Int32).toInt - (0 : Int32).toInt).toNat = 6 := rfl
  have q8 : ((8 : Int32).toInt - (0 : Int32).toInt).toNat = 8 := rfl
  have z0 := t0
  have e1 : r_manner (fX6_empties r0) = 0 := by
    unfold fX6_empties
    rw [q12, q4, q6, q8, em52 12 0 _ (by omega) (by omega), em73 4 0 _ (by omega) (by omega), em93 6 0 _ (by omega) (by omega), em114 8 0 _ (by omega) (by omega)]
    rw [Rp_manner_isPair, Rp_manner_weakAt, Rp_manner_slot, Rp_manner_register]
    rw [Rp_manner_movedMany, Rp_manner_shaded, Rp_manner_steps, Rp_manner_rounds, Rp_manner_way, Rp_manner_top, Rp_manner_half, Rp_manner_pairs, Rp_manner_wishes, Rp_manner_things]
    rfl
  have e2 : r_fault (fX6_empties r0) = 0 := by
    unfold fX6_empties
    rw [q12, q4, q6, q8, em52 12 0 _ (by omega) (by omega), em73 4 0 _ (by omega) (by omega), em93 6 0 _ (by omega) (by omega), em114 8 0 _ (by omega) (by omega)]
    rw [Rp_fault_isPair, Rp_fault_weakAt, Rp_fault_slot, Rp_fault_register]
    rw [Rp_fault_movedMany, Rp_fault_shaded, Rp_fault_steps, Rp_fault_rounds, Rp_fault_way, Rp_fault_top, Rp_fault_half, Rp_fault_pairs, Rp_fault_wishes, Rp_fault_things]
    rfl
  have e3 : r_fault_s (r_manner_s (fX6_empties r0) 0) 0 = fX6_empties r0 := by
    have a := manner_id (fX6_empties r0)
    rw [e1] at a
    have b := fault_id (fX6_empties r0)
    rw [e2] at b
    rw [a, b]
  rw [e3] at g
  exact g
theorem sim_attic {σ : RSt} {c : CSt} (hR : Rel σ c) (x1 x2 : Int32) : (fX5_attic c x1 x2).1 = (fX6_attic σ x1 x2).1 ∧ Rel ((fX6_attic σ x1 x2).2) ((fX5_attic c x1 x2).2) := by
  have z0 := t0
  have z3 := t3
  have z2 := t2
  have z4 := t4
  unfold fX5_attic fX6_attic
  by_cases h1 : 0 ≤ x1.toInt ∧ x1.toInt ≤ 3
  · rw [in6_1 (v := x1) (a := 0) (b := 3) (by omega) (by omega), if_neg one_ne, if_neg (fun z => by have := i32_lt z; omega), if_neg (fun z => by have := i32_le z; omega)]
    by_cases h2 : 0 ≤ x2.toInt ∧ x2.toInt ≤ 2
    · rw [in6_1 (v := x2) (a := 0) (b := 2) (by omega) (by omega), if_neg one_ne, if_neg (fun z => by have := i32_lt z; omega), if_pos (Int32.lt_iff_toInt_lt.mpr (by omega))]
      exact ⟨en hR, rel_empty hR.1 c x1 x2⟩
    · rw [in6_0 (v := x2) (a := 0) (b := 2) (fun z => h2 ⟨by omega, by omega⟩), if_pos rfl]
      by_cases h3 : x2 < 0
      · rw [if_pos h3]
        exact ⟨rfl, hR⟩
      · rw [if_neg h3, if_neg (fun z => h2 ⟨by have := i32_nlt h3; omega, by have := i32_lt z; omega⟩)]
        exact ⟨rfl, hR⟩
  · rw [in6_0 (v := x1) (a := 0) (b := 3) (fun z => h1 ⟨by omega, by omega⟩), if_pos rfl]
    by_cases h3 : x1 < 0
    · rw [if_pos h3]
      exact ⟨rfl, hR⟩
    · rw [if_neg h3, if_pos (Int32.le_iff_toInt_le.mpr (Int.not_lt.mp fun z => h1 ⟨by have := i32_nlt h3; omega, by omega⟩))]
      exact ⟨rfl, hR⟩
