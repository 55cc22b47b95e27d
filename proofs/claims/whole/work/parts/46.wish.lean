/-! PURE, part 46: the oldest wish is taken -/
def shF (f : Nat → Int32) (a b : Int) : Nat → Int32 := fun j => if a ≤ (j : Int) ∧ (j : Int) < b then f (j + 1) else f j
theorem shF_st {f : Nat → Int32} {y y1 : Int32} {m : Nat} (h0 : 0 ≤ y.toInt) (e1 : y1.toInt = y.toInt + 1) : shF (upd f (ix y) (f (ix y1))) y1.toInt (y1.toInt + m) = shF f y.toInt (y.toInt + (m + 1 : Nat)) := by
  have e2 := ix_nat h0
  have e3 := ix_nat (x := y1) (by omega)
  have e4 : ix y1 = ix y + 1 := by omega
  funext j
  unfold shF
  rw [e1, e4]
  by_cases ej : j = ix y
  · subst ej
    rw [if_neg (by omega), if_pos (by omega), pk_us]
  · rw [pk_un ej]
    by_cases c2 : y.toInt + 1 ≤ (j : Int) ∧ (j : Int) < y.toInt + 1 + m
    · rw [if_pos c2, if_pos (by omega), pk_un (by omega)]
    · rw [if_neg c2, if_neg (by omega)]
theorem shF_0 {f : Nat → Int32} {y : Int} : shF f y (y + (0 : Nat)) = f := by
  funext j
  unfold shF
  rw [if_neg (by omega)]
theorem wish6_L (z1 z2 z3 : Int32) (f : Nat) : ∀ (y : Int32) (σ : RSt), 0 ≤ y.toInt → y.toInt + f ≤ 120 → fX6_wish_L40 z1 z2 z3 f y σ = r_wishAt_s σ (shF (r_wishAt σ) y.toInt (y.toInt + f)) := by
  induction f with
  | zero =>
    intro y σ h0 h1
    rw [shF_0]
    rfl
  | succ f ih =>
    intro y σ h0 h1
    have e1 := i32_1 (x := y) (B := 120) (by have := t120; omega)
    unfold fX6_wish_L40
    rw [ih (y + 1) _ (by omega) (by omega)]
    rw [← shF_st (y1 := y + 1) h0 e1]
    rfl
theorem wish5_L (z1 : Int32) (f : Nat) : ∀ (y : Int32) (c : CSt), 0 ≤ y.toInt → y.toInt + f ≤ 135 → 0 < (c_wishes c).toInt → fX1_takeFirstWish_L10 z1 f y c = (z1, c_wishes_s (c_hheld_s c (shF (c_hheld c) y.toInt (y.toInt + f))) (c_wishes c - 1)) := by
  induction f with
  | zero =>
    intro y c h0 h1 hw
    have z0 := t0
    unfold fX1_takeFirstWish_L10
    rw [shF_0, if_neg (fun z => by have := i32_le z; omega)]
    rfl
  | succ f ih =>
    intro y c h0 h1 hw
    have z0 := t0
    have z1 := t136
    have e1 := i32_1 (x := y) (B := 136) (by omega)
    unfold fX1_takeFirstWish_L10
    rw [if_neg (fun z => by have := i32_le z; omega), ih (y + 1) _ (by omega) (by omega) (by simp only [Cq_manner_hheld, Cq_fault_hheld, Cq_under_hheld, Cq_nextS_hheld, Cq_rounds_hheld, Cq_steps_hheld, Cq_shaded_hheld, Cq_moved_hheld, Cq_tmade_hheld, Cq_sizes_hheld, Cq_places_hheld, Cq_colours_hheld, Cq_moves_hheld, Cq_freed_hheld, Cq_wishing_hheld, Cq_theld_hheld, Cq_cmap_hheld, Cq_halfEnd_hheld, Cq_behind_hheld, Cq_hheld_hheld, Cq_named_hheld, Cq_wishes_hheld, Cq_pmade_hheld, Cq_keys_hheld, Cq_values_hheld, Cq_found_hheld, Cq_order_hheld, Cq_rcount_hheld]; exact hw)]
    rw [← shF_st (y1 := y + 1) h0 e1]
    rfl
section W
variable {oo : Int32} {σ : RSt} {c : CSt}
theorem rel_wl (h : RelO oo σ c) (w : Int32) (g hh : Nat → Int32) (hg : ∀ j, VT (g j)) (hw : 0 ≤ w.toInt ∧ w.toInt ≤ (r_wishes σ).toInt) (hH : GH (r_things σ) w (r_register σ) (r_slot σ) g (r_weakAt σ) hh (c_named c)) : RelO oo (r_wishAt_s (r_wishes_s σ w) g) (c_wishes_s (c_hheld_s c hh) w) := by
  obtain ⟨hS, ⟨a1, a2, a3, a4, a5, a6, a7, a8, a9, a10, a11, a12⟩, hT, hH0, hP, hC⟩ := h
  refine ⟨?_, ?_⟩
  · obtain ⟨s1, s2, s3, s4, s5, s6, s7, s8, s9, s10, s11, s12⟩ := hS
    unfold S0
    simp only [Rq_manner_wishes, Rq_fault_wishes, Rq_things_wishes, Rq_many_wishes, Rq_field_wishes, Rq_place_wishes, Rq_colour_wishes, Rq_isFreed_wishes, Rq_hasWish_wishes, Rq_moved_wishes, Rq_register_wishes, Rq_slot_wishes, Rq_wishes_wishes, Rq_wishAt_wishes, Rq_weakAt_wishes, Rq_pairs_wishes, Rq_key_wishes, Rq_value_wishes, Rq_isPair_wishes, Rq_half_wishes, Rq_top_wishes, Rq_way_wishes, Rq_next_wishes, Rq_freedMany_wishes, Rq_rounds_wishes, Rq_steps_wishes, Rq_shaded_wishes, Rq_movedMany_wishes, Rq_isReached_wishes, Rq_more_wishes, Rq_manner_wishAt, Rq_fault_wishAt, Rq_things_wishAt, Rq_many_wishAt, Rq_field_wishAt, Rq_place_wishAt, Rq_colour_wishAt, Rq_isFreed_wishAt, Rq_hasWish_wishAt, Rq_moved_wishAt, Rq_register_wishAt, Rq_slot_wishAt, Rq_wishes_wishAt, Rq_wishAt_wishAt, Rq_weakAt_wishAt, Rq_pairs_wishAt, Rq_key_wishAt, Rq_value_wishAt, Rq_isPair_wishAt, Rq_half_wishAt, Rq_top_wishAt, Rq_way_wishAt, Rq_next_wishAt, Rq_freedMany_wishAt, Rq_rounds_wishAt, Rq_steps_wishAt, Rq_shaded_wishAt, Rq_movedMany_wishAt, Rq_isReached_wishAt, Rq_more_wishAt]
    exact ⟨s1, s2, s3, s4, s5, hg, s7, s8, s9, ⟨hw.1, by omega⟩, s11, s12⟩
  · unfold GA rGT rGH rGP rGC
    unfold rGT at hT
    unfold rGP at hP
    unfold rGC at hC
    simp only [Rq_manner_wishes, Rq_fault_wishes, Rq_things_wishes, Rq_many_wishes, Rq_field_wishes, Rq_place_wishes, Rq_colour_wishes, Rq_isFreed_wishes, Rq_hasWish_wishes, Rq_moved_wishes, Rq_register_wishes, Rq_slot_wishes, Rq_wishes_wishes, Rq_wishAt_wishes, Rq_weakAt_wishes, Rq_pairs_wishes, Rq_key_wishes, Rq_value_wishes, Rq_isPair_wishes, Rq_half_wishes, Rq_top_wishes, Rq_way_wishes, Rq_next_wishes, Rq_freedMany_wishes, Rq_rounds_wishes, Rq_steps_wishes, Rq_shaded_wishes, Rq_movedMany_wishes, Rq_isReached_wishes, Rq_more_wishes, Rq_manner_wishAt, Rq_fault_wishAt, Rq_things_wishAt, Rq_many_wishAt, Rq_field_wishAt, Rq_place_wishAt, Rq_colour_wishAt, Rq_isFreed_wishAt, Rq_hasWish_wishAt, Rq_moved_wishAt, Rq_register_wishAt, Rq_slot_wishAt, Rq_wishes_wishAt, Rq_wishAt_wishAt, Rq_weakAt_wishAt, Rq_pairs_wishAt, Rq_key_wishAt, Rq_value_wishAt, Rq_isPair_wishAt, Rq_half_wishAt, Rq_top_wishAt, Rq_way_wishAt, Rq_next_wishAt, Rq_freedMany_wishAt, Rq_rounds_wishAt, Rq_steps_wishAt, Rq_shaded_wishAt, Rq_movedMany_wishAt, Rq_isReached_wishAt, Rq_more_wishAt, Cq_manner_hheld, Cq_fault_hheld, Cq_under_hheld, Cq_nextS_hheld, Cq_rounds_hheld, Cq_steps_hheld, Cq_shaded_hheld, Cq_moved_hheld, Cq_tmade_hheld, Cq_sizes_hheld, Cq_places_hheld, Cq_colours_hheld, Cq_moves_hheld, Cq_freed_hheld, Cq_wishing_hheld, Cq_theld_hheld, Cq_cmap_hheld, Cq_halfEnd_hheld, Cq_behind_hheld, Cq_hheld_hheld, Cq_named_hheld, Cq_wishes_hheld, Cq_pmade_hheld, Cq_keys_hheld, Cq_values_hheld, Cq_found_hheld, Cq_order_hheld, Cq_rcount_hheld, Cq_manner_wishes, Cq_fault_wishes, Cq_under_wishes, Cq_nextS_wishes, Cq_rounds_wishes, Cq_steps_wishes, Cq_shaded_wishes, Cq_moved_wishes, Cq_tmade_wishes, Cq_sizes_wishes, Cq_places_wishes, Cq_colours_wishes, Cq_moves_wishes, Cq_freed_wishes, Cq_wishing_wishes, Cq_theld_wishes, Cq_cmap_wishes, Cq_halfEnd_wishes, Cq_behind_wishes, Cq_hheld_wishes, Cq_named_wishes, Cq_wishes_wishes, Cq_pmade_wishes, Cq_keys_wishes, Cq_values_wishes, Cq_found_wishes, Cq_order_wishes, Cq_rcount_wishes]
    exact ⟨⟨a1, a2, a3, a4, a5, a6, a7, a8, trivial, a10, a11, a12⟩, hT, hH, hP, hC⟩
theorem sim_wish (hR : RelO oo σ c) (x1 x2 : Int32) : (fX5_wish c x1 x2).1 = (fX6_wish σ x1 x2).1 ∧ RelO oo ((fX6_wish σ x1 x2).2) ((fX5_wish c x1 x2).2) := by
  have z0 := t0
  have z16 := t16
  have hw := w0 hR
  have hw2 := s0_wishes hR.1
  unfold fX5_wish fX6_wish
  by_cases h1 : RegOK x1 x2
  · rw [reg5_1 h1, reg6_1 h1, if_neg one_ne, if_neg one_ne, ew hR]
    by_cases h2 : r_wishes σ = 0
    · rw [if_pos h2, if_pos h2]
      exact ⟨rfl, hR⟩
    · have n2 := i32_ne h2
      have em := i32_m1 hw
      rw [if_neg h2, if_neg h2]
      have ef : ((((16 : Int32) + c_wishes c).toInt - ((16 : Int32) + 1).toInt).toNat : Int) = (r_wishes σ).toInt - 1 := by
        rw [w16 hR]
        have q : ((16 : Int32) + 1).toInt = 17 := rfl
        omega
      have e5 : fX1_takeFirstWish c = (r_wishAt σ (ix 0), c_wishes_s (c_hheld_s c (shF (c_hheld c) 16 (16 + ((r_wishes σ).toInt - 1)))) (r_wishes σ - 1)) := by
        unfold fX1_takeFirstWish
        rw [wish5_L _ _ 16 c (by omega) (by omega) (by rw [ew hR]; omega), ef, held_lt hR (x := 16) (by omega) (by omega), ew hR, z16]
        have e := (hR.2.2.2.1.2.2.1 0 (by omega)).1
        have e' : ix 16 = 16 + 0 := rfl
        have e'' : ix (0 : Int32) = 0 := rfl
        rw [e', e'', e]
      have ef6 : ((((r_wishes σ) - 1).toInt - (0 : Int32).toInt).toNat : Int) = (r_wishes σ).toInt - 1 := by omega
      have e6 : fX6_wish_L40 x1 x2 (r_wishAt σ (ix 0)) ((r_wishes (r_wishes_s σ (r_wishes σ - 1))).toInt - (0 : Int32).toInt).toNat 0 (r_wishes_s σ (r_wishes σ - 1)) = r_wishAt_s (r_wishes_s σ (r_wishes σ - 1)) (shF (r_wishAt σ) 0 (0 + ((r_wishes σ).toInt - 1))) := by
        simp only [Rq_manner_wishes, Rq_fault_wishes, Rq_things_wishes, Rq_many_wishes, Rq_field_wishes, Rq_place_wishes, Rq_colour_wishes, Rq_isFreed_wishes, Rq_hasWish_wishes, Rq_moved_wishes, Rq_register_wishes, Rq_slot_wishes, Rq_wishes_wishes, Rq_wishAt_wishes, Rq_weakAt_wishes, Rq_pairs_wishes, Rq_key_wishes, Rq_value_wishes, Rq_isPair_wishes, Rq_half_wishes, Rq_top_wishes, Rq_way_wishes, Rq_next_wishes, Rq_freedMany_wishes, Rq_rounds_wishes, Rq_steps_wishes, Rq_shaded_wishes, Rq_movedMany_wishes, Rq_isReached_wishes, Rq_more_wishes]
        rw [wish6_L _ _ _ _ 0 _ (by omega) (by omega), ef6, z0]
        simp only [Rq_manner_wishes, Rq_fault_wishes, Rq_things_wishes, Rq_many_wishes, Rq_field_wishes, Rq_place_wishes, Rq_colour_wishes, Rq_isFreed_wishes, Rq_hasWish_wishes, Rq_moved_wishes, Rq_register_wishes, Rq_slot_wishes, Rq_wishes_wishes, Rq_wishAt_wishes, Rq_weakAt_wishes, Rq_pairs_wishes, Rq_key_wishes, Rq_value_wishes, Rq_isPair_wishes, Rq_half_wishes, Rq_top_wishes, Rq_way_wishes, Rq_next_wishes, Rq_freedMany_wishes, Rq_rounds_wishes, Rq_steps_wishes, Rq_shaded_wishes, Rq_movedMany_wishes, Rq_isReached_wishes, Rq_more_wishes]
      rw [e5, e6]
      have hv : TH (r_things σ) (r_wishAt σ (ix 0)) := by
        have e'' : ix (0 : Int32) = 0 := rfl
        rw [e'']
        exact (hR.2.2.2.1.2.2.1 0 (by omega)).2
      have hH := hR.2.2.2.1
      have hn := rel_wl hR (r_wishes σ - 1) (shF (r_wishAt σ) 0 (0 + ((r_wishes σ).toInt - 1))) (shF (c_hheld c) 16 (16 + ((r_wishes σ).toInt - 1)))
        (fun j => by
          unfold shF
          split
          · exact s0_wishAt hR.1 _
          · exact s0_wishAt hR.1 _) ⟨by omega, by omega⟩ (by
          refine ⟨fun k hk => ?_, fun k hk => ?_, fun k hk => ?_, hH.2.2.2⟩
          · unfold shF
            rw [if_neg (by omega)]
            exact hH.1 k hk
          · unfold shF
            rw [if_neg (by omega)]
            exact hH.2.1 k hk
          · unfold shF
            rw [if_pos (by omega), if_pos (by omega)]
            exact hH.2.2.1 (k + 1) (by omega))
      exact sim_hold hn h1 (Or.inr hv)
  · rw [reg5_0 h1, reg6_0 h1, if_pos rfl, if_pos rfl]
    exact ⟨rfl, hR⟩
end W
