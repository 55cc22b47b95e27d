/-! PURE, part 48: what finds more to shade when nothing is gray -/
section M
variable {oo : Int32} {σ : RSt} {c : CSt}
theorem wk_of {τ : RSt} (h : FQ σ τ) (w : WK σ) : WK τ := wk_fq h w
theorem pr_sa {τ : RSt} {k : Int32} (e : SA σ τ) (h : PrOK (r_pairs σ) k) : PrOK (r_pairs τ) k := by
  rw [e.2.2.2.2.2.2.2.2.2.2.2.1]
  exact h
theorem vals_ph (z : Int32) (f : Nat) : ∀ (y : Int32) (σ : RSt) (c : CSt), RelO oo σ c → WK σ → 0 ≤ y.toInt → ((r_pairs σ).toInt - y.toInt).toNat = f → ∃ τ, fX6_findsMore_L27 z f y σ = fX6_findsMore_J73 z τ ∧ RelO oo τ (fX5_shadeValues_L2 f y c) ∧ FQ σ τ := by
  induction f with
  | zero => intro y σ c h w h1 h2; exact ⟨σ, rfl, h, fq_rf σ⟩
  | succ f ih =>
    intro y σ c h w h1 h2
    have hp : PrOK (r_pairs σ) y := ⟨h1, by omega⟩
    unfold fX6_findsMore_L27 fX5_shadeValues_L2
    rw [key5 h hp, value5 h hp]
    rcases pr_at h hp with ⟨g1, g2, g3⟩ | ⟨g1, g2, g3, g4, g5⟩
    · rw [if_pos g1, g2, if_pos rfl]
      exact ih (y + 1) σ c h w (lp_nn h1 h2) (lp_b h2)
    · rw [g1, if_neg one_ne, g2, g3, if_neg (th_ne g4), q_white h g4, q_rwhite]
      by_cases c1 : r_colour σ (ix (r_key σ (ix y))) = 0
      · rw [if_pos c1, if_neg one_ne, if_neg one_ne]
        exact ih (y + 1) σ c h w (lp_nn h1 h2) (lp_b h2)
      · rw [if_neg c1, if_pos rfl, if_pos rfl]
        have f1 := ((fq_shade h (r_value σ (ix y))).1)
        have s1 := sa_shade σ (r_value σ (ix y))
        obtain ⟨τ, a1, a2, a3⟩ := ih (y + 1) _ _ (sim_shade h (Or.inr g5) w) (wk_fq f1 w) (lp_nn h1 h2) (by rw [s1.2.2.2.2.2.2.2.2.2.2.2.1]; exact lp_b h2)
        exact ⟨τ, a1, a2, fq_tr f1 a3⟩
theorem sim_vals (h : RelO oo σ c) (w : WK σ) (z : Int32) : ∃ τ, fX6_findsMore_L27 z ((r_pairs σ).toInt - (0 : Int32).toInt).toNat 0 σ = fX6_findsMore_J73 z τ ∧ RelO oo τ (fX5_shadeValues c) ∧ FQ σ τ := by
  unfold fX5_shadeValues
  rw [eq_ h]
  exact vals_ph z _ 0 σ c h w (by rw [t0]; omega) rfl
-- a wish is granted
theorem gh_add {n w w' : Int32} {register slot wishAt weakAt hheld named : Nat → Int32} (h : GH n w register slot wishAt weakAt hheld named) {k : Nat} (e : (k : Int) = w.toInt) (e2 : w'.toInt = w.toInt + 1) {x : Int32} (hx : TH n x) : GH n w' register slot (upd wishAt k x) weakAt (upd hheld (16 + k) x) named := by
  obtain ⟨h1, h2, h3, h4⟩ := h
  refine ⟨fun j hj => ?_, fun j hj => ?_, fun j hj => ?_, h4⟩
  · rw [pk_un (by omega)]
    exact h1 j hj
  · rw [pk_un (by omega)]
    exact h2 j hj
  · by_cases ej : j = k
    · subst ej
      rw [pk_us, pk_us]
      exact ⟨rfl, hx⟩
    · rw [pk_un ej, pk_un (by omega)]
      exact h3 j (by omega)
theorem gt_wish (h : rGT σ c) (k : Nat) : GT (r_things σ) (r_many σ) (r_place σ) (r_colour σ) (r_isFreed σ) (upd (r_hasWish σ) k 0) (r_moved σ) (r_field σ) (c_sizes c) (c_places c) (c_colours c) (c_freed c) (upd (c_wishing c) k 0) (c_moves c) (c_theld c) := by
  intro j hj
  obtain ⟨⟨b1, b2, b3, b4, b5, b6⟩, g2, g3, g4, g5⟩ := h j hj
  by_cases e : j = k
  · subst e
    exact ⟨⟨b1, b2, b3, b4, b5, by rw [pk_us, pk_us]⟩, g2, by rw [pk_us]; exact Or.inl rfl, g4, g5⟩
  · exact ⟨⟨b1, b2, b3, b4, b5, by rw [pk_un e, pk_un e]; exact b6⟩, g2, by rw [pk_un e]; exact g3, g4, g5⟩
theorem rel_ws (h : RelO oo σ c) (a b a5 b5 : Nat → Int32) (w : Int32) (hb : ∀ j, VT (b j)) (hw : 0 ≤ w.toInt ∧ w.toInt + cntB a (r_things σ).toInt.toNat ≤ (r_things σ).toInt)
    (hT : GT (r_things σ) (r_many σ) (r_place σ) (r_colour σ) (r_isFreed σ) a (r_moved σ) (r_field σ) (c_sizes c) (c_places c) (c_colours c) (c_freed c) a5 (c_moves c) (c_theld c)) (hH : GH (r_things σ) w (r_register σ) (r_slot σ) b (r_weakAt σ) b5 (c_named c)) :
    RelO oo (r_wishes_s (r_wishAt_s (r_hasWish_s σ a) b) w) (c_wishes_s (c_hheld_s (c_wishing_s c a5) b5) w) := by
  obtain ⟨hS, ⟨a1, a2, a3, a4, a5, a6, a7, a8, a9, a10, a11, a12⟩, _, _, hP, hC⟩ := h
  refine ⟨?_, ?_⟩
  · obtain ⟨s1, s2, s3, s4, s5, s6, s7, s8, s9, s10, s11, s12⟩ := hS
    unfold S0
    simp only [Rq_manner_wishes, Rq_fault_wishes, Rq_things_wishes, Rq_many_wishes, Rq_field_wishes, Rq_place_wishes, Rq_colour_wishes, Rq_isFreed_wishes, Rq_hasWish_wishes, Rq_moved_wishes, Rq_register_wishes, Rq_slot_wishes, Rq_wishes_wishes, Rq_wishAt_wishes, Rq_weakAt_wishes, Rq_pairs_wishes, Rq_key_wishes, Rq_value_wishes, Rq_isPair_wishes, Rq_half_wishes, Rq_top_wishes, Rq_way_wishes, Rq_next_wishes, Rq_freedMany_wishes, Rq_rounds_wishes, Rq_steps_wishes, Rq_shaded_wishes, Rq_movedMany_wishes, Rq_isReached_wishes, Rq_more_wishes, Rq_manner_wishAt, Rq_fault_wishAt, Rq_things_wishAt, Rq_many_wishAt, Rq_field_wishAt, Rq_place_wishAt, Rq_colour_wishAt, Rq_isFreed_wishAt, Rq_hasWish_wishAt, Rq_moved_wishAt, Rq_register_wishAt, Rq_slot_wishAt, Rq_wishes_wishAt, Rq_wishAt_wishAt, Rq_weakAt_wishAt, Rq_pairs_wishAt, Rq_key_wishAt, Rq_value_wishAt, Rq_isPair_wishAt, Rq_half_wishAt, Rq_top_wishAt, Rq_way_wishAt, Rq_next_wishAt, Rq_freedMany_wishAt, Rq_rounds_wishAt, Rq_steps_wishAt, Rq_shaded_wishAt, Rq_movedMany_wishAt, Rq_isReached_wishAt, Rq_more_wishAt, Rq_manner_hasWish, Rq_fault_hasWish, Rq_things_hasWish, Rq_many_hasWish, Rq_field_hasWish, Rq_place_hasWish, Rq_colour_hasWish, Rq_isFreed_hasWish, Rq_hasWish_hasWish, Rq_moved_hasWish, Rq_register_hasWish, Rq_slot_hasWish, Rq_wishes_hasWish, Rq_wishAt_hasWish, Rq_weakAt_hasWish, Rq_pairs_hasWish, Rq_key_hasWish, Rq_value_hasWish, Rq_isPair_hasWish, Rq_half_hasWish, Rq_top_hasWish, Rq_way_hasWish, Rq_next_hasWish, Rq_freedMany_hasWish, Rq_rounds_hasWish, Rq_steps_hasWish, Rq_shaded_hasWish, Rq_movedMany_hasWish, Rq_isReached_hasWish, Rq_more_hasWish]
    exact ⟨s1, s2, s3, s4, s5, hb, s7, s8, s9, hw, s11, s12⟩
  · unfold GA rGT rGH rGP rGC
    unfold rGP at hP
    unfold rGC at hC
    simp only [Rq_manner_wishes, Rq_fault_wishes, Rq_things_wishes, Rq_many_wishes, Rq_field_wishes, Rq_place_wishes, Rq_colour_wishes, Rq_isFreed_wishes, Rq_hasWish_wishes, Rq_moved_wishes, Rq_register_wishes, Rq_slot_wishes, Rq_wishes_wishes, Rq_wishAt_wishes, Rq_weakAt_wishes, Rq_pairs_wishes, Rq_key_wishes, Rq_value_wishes, Rq_isPair_wishes, Rq_half_wishes, Rq_top_wishes, Rq_way_wishes, Rq_next_wishes, Rq_freedMany_wishes, Rq_rounds_wishes, Rq_steps_wishes, Rq_shaded_wishes, Rq_movedMany_wishes, Rq_isReached_wishes, Rq_more_wishes, Rq_manner_wishAt, Rq_fault_wishAt, Rq_things_wishAt, Rq_many_wishAt, Rq_field_wishAt, Rq_place_wishAt, Rq_colour_wishAt, Rq_isFreed_wishAt, Rq_hasWish_wishAt, Rq_moved_wishAt, Rq_register_wishAt, Rq_slot_wishAt, Rq_wishes_wishAt, Rq_wishAt_wishAt, Rq_weakAt_wishAt, Rq_pairs_wishAt, Rq_key_wishAt, Rq_value_wishAt, Rq_isPair_wishAt, Rq_half_wishAt, Rq_top_wishAt, Rq_way_wishAt, Rq_next_wishAt, Rq_freedMany_wishAt, Rq_rounds_wishAt, Rq_steps_wishAt, Rq_shaded_wishAt, Rq_movedMany_wishAt, Rq_isReached_wishAt, Rq_more_wishAt, Rq_manner_hasWish, Rq_fault_hasWish, Rq_things_hasWish, Rq_many_hasWish, Rq_field_hasWish, Rq_place_hasWish, Rq_colour_hasWish, Rq_isFreed_hasWish, Rq_hasWish_hasWish, Rq_moved_hasWish, Rq_register_hasWish, Rq_slot_hasWish, Rq_wishes_hasWish, Rq_wishAt_hasWish, Rq_weakAt_hasWish, Rq_pairs_hasWish, Rq_key_hasWish, Rq_value_hasWish, Rq_isPair_hasWish, Rq_half_hasWish, Rq_top_hasWish, Rq_way_hasWish, Rq_next_hasWish, Rq_freedMany_hasWish, Rq_rounds_hasWish, Rq_steps_hasWish, Rq_shaded_hasWish, Rq_movedMany_hasWish, Rq_isReached_hasWish, Rq_more_hasWish, Cq_manner_hheld, Cq_fault_hheld, Cq_under_hheld, Cq_nextS_hheld, Cq_rounds_hheld, Cq_steps_hheld, Cq_shaded_hheld, Cq_moved_hheld, Cq_tmade_hheld, Cq_sizes_hheld, Cq_places_hheld, Cq_colours_hheld, Cq_moves_hheld, Cq_freed_hheld, Cq_wishing_hheld, Cq_theld_hheld, Cq_cmap_hheld, Cq_halfEnd_hheld, Cq_behind_hheld, Cq_hheld_hheld, Cq_named_hheld, Cq_wishes_hheld, Cq_pmade_hheld, Cq_keys_hheld, Cq_values_hheld, Cq_found_hheld, Cq_order_hheld, Cq_rcount_hheld, Cq_manner_wishes, Cq_fault_wishes, Cq_under_wishes, Cq_nextS_wishes, Cq_rounds_wishes, Cq_steps_wishes, Cq_shaded_wishes, Cq_moved_wishes, Cq_tmade_wishes, Cq_sizes_wishes, Cq_places_wishes, Cq_colours_wishes, Cq_moves_wishes, Cq_freed_wishes, Cq_wishing_wishes, Cq_theld_wishes, Cq_cmap_wishes, Cq_halfEnd_wishes, Cq_behind_wishes, Cq_hheld_wishes, Cq_named_wishes, Cq_wishes_wishes, Cq_pmade_wishes, Cq_keys_wishes, Cq_values_wishes, Cq_found_wishes, Cq_order_wishes, Cq_rcount_wishes, Cq_manner_wishing, Cq_fault_wishing, Cq_under_wishing, Cq_nextS_wishing, Cq_rounds_wishing, Cq_steps_wishing, Cq_shaded_wishing, Cq_moved_wishing, Cq_tmade_wishing, Cq_sizes_wishing, Cq_places_wishing, Cq_colours_wishing, Cq_moves_wishing, Cq_freed_wishing, Cq_wishing_wishing, Cq_theld_wishing, Cq_cmap_wishing, Cq_halfEnd_wishing, Cq_behind_wishing, Cq_hheld_wishing, Cq_named_wishing, Cq_wishes_wishing, Cq_pmade_wishing, Cq_keys_wishing, Cq_values_wishing, Cq_found_wishing, Cq_order_wishing, Cq_rcount_wishing]
    exact ⟨⟨a1, a2, a3, a4, a5, a6, a7, a8, trivial, a10, a11, a12⟩, hT, hH, hP, hC⟩
theorem fq_ws (σ : RSt) (a b : Nat → Int32) (w : Int32) : FQ σ (r_wishes_s (r_wishAt_s (r_hasWish_s σ a) b) w) := by
  unfold FQ
  simp only [Rq_manner_wishes, Rq_fault_wishes, Rq_things_wishes, Rq_many_wishes, Rq_field_wishes, Rq_place_wishes, Rq_colour_wishes, Rq_isFreed_wishes, Rq_hasWish_wishes, Rq_moved_wishes, Rq_register_wishes, Rq_slot_wishes, Rq_wishes_wishes, Rq_wishAt_wishes, Rq_weakAt_wishes, Rq_pairs_wishes, Rq_key_wishes, Rq_value_wishes, Rq_isPair_wishes, Rq_half_wishes, Rq_top_wishes, Rq_way_wishes, Rq_next_wishes, Rq_freedMany_wishes, Rq_rounds_wishes, Rq_steps_wishes, Rq_shaded_wishes, Rq_movedMany_wishes, Rq_isReached_wishes, Rq_more_wishes, Rq_manner_wishAt, Rq_fault_wishAt, Rq_things_wishAt, Rq_many_wishAt, Rq_field_wishAt, Rq_place_wishAt, Rq_colour_wishAt, Rq_isFreed_wishAt, Rq_hasWish_wishAt, Rq_moved_wishAt, Rq_register_wishAt, Rq_slot_wishAt, Rq_wishes_wishAt, Rq_wishAt_wishAt, Rq_weakAt_wishAt, Rq_pairs_wishAt, Rq_key_wishAt, Rq_value_wishAt, Rq_isPair_wishAt, Rq_half_wishAt, Rq_top_wishAt, Rq_way_wishAt, Rq_next_wishAt, Rq_freedMany_wishAt, Rq_rounds_wishAt, Rq_steps_wishAt, Rq_shaded_wishAt, Rq_movedMany_wishAt, Rq_isReached_wishAt, Rq_more_wishAt, Rq_manner_hasWish, Rq_fault_hasWish, Rq_things_hasWish, Rq_many_hasWish, Rq_field_hasWish, Rq_place_hasWish, Rq_colour_hasWish, Rq_isFreed_hasWish, Rq_hasWish_hasWish, Rq_moved_hasWish, Rq_register_hasWish, Rq_slot_hasWish, Rq_wishes_hasWish, Rq_wishAt_hasWish, Rq_weakAt_hasWish, Rq_pairs_hasWish, Rq_key_hasWish, Rq_value_hasWish, Rq_isPair_hasWish, Rq_half_hasWish, Rq_top_hasWish, Rq_way_hasWish, Rq_next_hasWish, Rq_freedMany_hasWish, Rq_rounds_hasWish, Rq_steps_hasWish, Rq_shaded_hasWish, Rq_movedMany_hasWish, Rq_isReached_hasWish, Rq_more_hasWish]
  exact ⟨trivial, trivial, Int.le_refl _, trivial, fun _ _ => trivial, trivial, trivial, trivial, trivial, trivial⟩
theorem sim_wishes (h : RelO oo σ c) (w : WK σ) {x : Int32} (hx : TH (r_things σ) x) (hh : ¬ r_hasWish σ (ix x) = 0) : RelO oo (fX6_wishes σ x) (fX5_shade (fX1_addWish (fX4_endWish c x) x) x) ∧ FQ σ (fX6_wishes σ x) := by
  have z0 := t0
  have z120 := t120
  have hp := cntB_pos (g := r_hasWish σ) (n := (r_things σ).toInt.toNat) (k := ix x) (by have := th_lt hx; omega) hh
  have hd := cntB_dec (g := r_hasWish σ) (n := (r_things σ).toInt.toNat) (k := ix x) (by have := th_lt hx; omega) hh
  have hs := h.1.2.2.2.2.2.2.2.2.2.1
  have hn := s0_th h.1
  have e1 := i32_1 (x := r_wishes σ) (B := 120) (by omega)
  have ew' := ix_nat hs.1
  have e16 : ((16 : Int32) + r_wishes σ).toInt = 16 + (r_wishes σ).toInt := by
    have := w16 h
    rw [ew h] at this
    exact this
  have ew2 := ix_nat (x := 16 + r_wishes σ) (by omega)
  have ew3 : ix (16 + r_wishes σ) = 16 + ix (r_wishes σ) := by omega
  have e5 : fX1_addWish (fX4_endWish c x) x = c_wishes_s (c_hheld_s (c_wishing_s c (upd (c_wishing c) (ix x) 0)) (upd (c_hheld c) (16 + ix (r_wishes σ)) x)) (r_wishes σ + 1) := by
    have ea : ∀ d : CSt, c_wishes d = r_wishes σ → fX1_addWish d x = c_wishes_s (c_hheld_s d (upd (c_hheld d) (16 + ix (r_wishes σ)) x)) (r_wishes σ + 1) := by
      intro d hd
      unfold fX1_addWish
      rw [hd, ew3, if_neg (fun z => by have := i32_lt z; omega), if_neg (fun z => by have := i32_le z; omega)]
    unfold fX4_endWish
    rw [q_thing1 h hx, if_neg one_ne, ea _ (by simp only [Cq_manner_wishing, Cq_fault_wishing, Cq_under_wishing, Cq_nextS_wishing, Cq_rounds_wishing, Cq_steps_wishing, Cq_shaded_wishing, Cq_moved_wishing, Cq_tmade_wishing, Cq_sizes_wishing, Cq_places_wishing, Cq_colours_wishing, Cq_moves_wishing, Cq_freed_wishing, Cq_wishing_wishing, Cq_theld_wishing, Cq_cmap_wishing, Cq_halfEnd_wishing, Cq_behind_wishing, Cq_hheld_wishing, Cq_named_wishing, Cq_wishes_wishing, Cq_pmade_wishing, Cq_keys_wishing, Cq_values_wishing, Cq_found_wishing, Cq_order_wishing, Cq_rcount_wishing]; exact ew h)]
    simp only [Cq_manner_wishing, Cq_fault_wishing, Cq_under_wishing, Cq_nextS_wishing, Cq_rounds_wishing, Cq_steps_wishing, Cq_shaded_wishing, Cq_moved_wishing, Cq_tmade_wishing, Cq_sizes_wishing, Cq_places_wishing, Cq_colours_wishing, Cq_moves_wishing, Cq_freed_wishing, Cq_wishing_wishing, Cq_theld_wishing, Cq_cmap_wishing, Cq_halfEnd_wishing, Cq_behind_wishing, Cq_hheld_wishing, Cq_named_wishing, Cq_wishes_wishing, Cq_pmade_wishing, Cq_keys_wishing, Cq_values_wishing, Cq_found_wishing, Cq_order_wishing, Cq_rcount_wishing]
  have hR := rel_ws h (upd (r_hasWish σ) (ix x) 0) (upd (r_wishAt σ) (ix (r_wishes σ)) x) (upd (c_wishing c) (ix x) 0) (upd (c_hheld c) (16 + ix (r_wishes σ)) x) (r_wishes σ + 1)
    (fun j => by
      unfold upd
      split
      · exact Or.inr (th_vp h.1 hx)
      · exact s0_wishAt h.1 j) ⟨by omega, by omega⟩ (gt_wish h.2.2.1 (ix x)) (gh_add h.2.2.2.1 ew' e1 hx)
  have hF := fq_ws σ (upd (r_hasWish σ) (ix x) 0) (upd (r_wishAt σ) (ix (r_wishes σ)) x) (r_wishes σ + 1)
  rw [e5]
  unfold fX6_wishes
  exact ⟨sim_shade hR (Or.inr (by simp only [Rq_manner_hasWish, Rq_fault_hasWish, Rq_things_hasWish, Rq_many_hasWish, Rq_field_hasWish, Rq_place_hasWish, Rq_colour_hasWish, Rq_isFreed_hasWish, Rq_hasWish_hasWish, Rq_moved_hasWish, Rq_register_hasWish, Rq_slot_hasWish, Rq_wishes_hasWish, Rq_wishAt_hasWish, Rq_weakAt_hasWish, Rq_pairs_hasWish, Rq_key_hasWish, Rq_value_hasWish, Rq_isPair_hasWish, Rq_half_hasWish, Rq_top_hasWish, Rq_way_hasWish, Rq_next_hasWish, Rq_freedMany_hasWish, Rq_rounds_hasWish, Rq_steps_hasWish, Rq_shaded_hasWish, Rq_movedMany_hasWish, Rq_isReached_hasWish, Rq_more_hasWish, Rq_manner_wishAt, Rq_fault_wishAt, Rq_things_wishAt, Rq_many_wishAt, Rq_field_wishAt, Rq_place_wishAt, Rq_colour_wishAt, Rq_isFreed_wishAt, Rq_hasWish_wishAt, Rq_moved_wishAt, Rq_register_wishAt, Rq_slot_wishAt, Rq_wishes_wishAt, Rq_wishAt_wishAt, Rq_weakAt_wishAt, Rq_pairs_wishAt, Rq_key_wishAt, Rq_value_wishAt, Rq_isPair_wishAt, Rq_half_wishAt, Rq_top_wishAt, Rq_way_wishAt, Rq_next_wishAt, Rq_freedMany_wishAt, Rq_rounds_wishAt, Rq_steps_wishAt, Rq_shaded_wishAt, Rq_movedMany_wishAt, Rq_isReached_wishAt, Rq_more_wishAt, Rq_manner_wishes, Rq_fault_wishes, Rq_things_wishes, Rq_many_wishes, Rq_field_wishes, Rq_place_wishes, Rq_colour_wishes, Rq_isFreed_wishes, Rq_hasWish_wishes, Rq_moved_wishes, Rq_register_wishes, Rq_slot_wishes, Rq_wishes_wishes, Rq_wishAt_wishes, Rq_weakAt_wishes, Rq_pairs_wishes, Rq_key_wishes, Rq_value_wishes, Rq_isPair_wishes, Rq_half_wishes, Rq_top_wishes, Rq_way_wishes, Rq_next_wishes, Rq_freedMany_wishes, Rq_rounds_wishes, Rq_steps_wishes, Rq_shaded_wishes, Rq_movedMany_wishes, Rq_isReached_wishes, Rq_more_wishes]; exact hx)) (wk_fq hF w), fq_tr hF ((fq_shade hR x).1)⟩
theorem grant_ph (z : Int32) (f : Nat) : ∀ (y : Int32) (σ : RSt) (c : CSt), RelO oo σ c → WK σ → 0 ≤ y.toInt → ((r_things σ).toInt - y.toInt).toNat = f → ∃ τ, fX6_findsMore_L83 z f y σ = fX6_findsMore_J128 z τ ∧ RelO oo τ (fX5_grantWishes_L2 f y c) ∧ FQ σ τ := by
  induction f with
  | zero => intro y σ c h w h1 h2; exact ⟨σ, rfl, h, fq_rf σ⟩
  | succ f ih =>
    intro y σ c h w h1 h2
    have hx : TH (r_things σ) y := ⟨h1, by omega⟩
    have go := ih (y + 1) σ c h w (lp_nn h1 h2) (lp_b h2)
    unfold fX6_findsMore_L83 fX5_grantWishes_L2
    rw [q_wish h hx, q_white h hx, q_freed h hx, q_rwhite]
    by_cases c1 : r_hasWish σ (ix y) = 0
    · rw [if_pos c1, if_pos c1]
      exact go
    · rw [if_neg c1, if_neg c1]
      by_cases c2 : r_colour σ (ix y) = 0
      · rw [if_pos c2, if_neg one_ne, if_neg one_ne]
        by_cases c3 : r_isFreed σ (ix y) = 0
        · rw [if_pos c3, if_pos c3]
          have g := sim_wishes h w hx c1
          obtain ⟨τ, a1, a2, a3⟩ := ih (y + 1) _ _ g.1 (wk_fq g.2 w) (lp_nn h1 h2) (by rw [g.2.2.2.2.2.2.2.1]; exact lp_b h2)
          exact ⟨τ, a1, a2, fq_tr g.2 a3⟩
        · rw [if_neg c3, if_neg c3]
          exact go
      · rw [if_neg c2, if_pos rfl, if_pos rfl]
        exact go
theorem sim_grant (h : RelO oo σ c) (w : WK σ) (z : Int32) : ∃ τ, fX6_findsMore_L83 z ((r_things σ).toInt - (0 : Int32).toInt).toNat 0 σ = fX6_findsMore_J128 z τ ∧ RelO oo τ (fX5_grantWishes c) ∧ FQ σ τ := by
  unfold fX5_grantWishes
  rw [en h]
  exact grant_ph z _ 0 σ c h w (by rw [t0]; omega) rfl
theorem csh (h : RelO oo σ c) : c_shaded c = r_shaded σ := h.2.1.2.2.2.2.2.1
theorem more_128 (h : RelO oo σ c) (z : Int32) (hz : z.toInt ≤ (r_shaded σ).toInt) : ∃ τ d, fX6_findsMore_J128 z σ = ((if r_shaded τ = z then 0 else 1), τ) ∧ fX5_markStep_J69 z c = (if r_shaded τ = z then fX5_endMarking d else d) ∧ RelO oo τ d ∧ FQ σ τ := by
  refine ⟨σ, c, ?_, ?_, h, fq_rf σ⟩
  · unfold fX6_findsMore_J128
    by_cases c1 : r_shaded σ = z
    · rw [if_pos c1, if_pos (by rw [c1]; exact Int32.le_iff_toInt_le.mpr (Int.le_refl _))]
    · rw [if_neg c1, if_neg (fun q => by have := i32_le q; have := i32_ne c1; omega)]
  · unfold fX5_markStep_J69
    rw [csh h]
theorem more_73 (h : RelO oo σ c) (w : WK σ) (z : Int32) (hz : z.toInt ≤ (r_shaded σ).toInt) : ∃ τ d, fX6_findsMore_J73 z σ = ((if r_shaded τ = z then 0 else 1), τ) ∧ fX5_markStep_J57 z c = (if r_shaded τ = z then fX5_endMarking d else d) ∧ RelO oo τ d ∧ FQ σ τ := by
  unfold fX6_findsMore_J73 fX5_markStep_J57
  rw [csh h]
  by_cases c1 : r_shaded σ = z
  · rw [if_pos c1, if_pos c1]
    obtain ⟨τ, a1, a2, a3⟩ := sim_grant h w z
    obtain ⟨υ, d, b1, b2, b3, b4⟩ := more_128 a2 z (Int.le_trans hz a3.2.2.1)
    exact ⟨υ, d, a1.trans b1, b2, b3, fq_tr a3 b4⟩
  · rw [if_neg c1, if_neg c1]
    exact more_128 h z hz
theorem more_17 (h : RelO oo σ c) (w : WK σ) (z : Int32) (hz : z.toInt ≤ (r_shaded σ).toInt) : ∃ τ d, fX6_findsMore_J17 z σ = ((if r_shaded τ = z then 0 else 1), τ) ∧ fX5_markStep_J45 z c = (if r_shaded τ = z then fX5_endMarking d else d) ∧ RelO oo τ d ∧ FQ σ τ := by
  unfold fX6_findsMore_J17 fX5_markStep_J45
  rw [csh h]
  by_cases c1 : r_shaded σ = z
  · rw [if_pos c1, if_pos c1]
    obtain ⟨τ, a1, a2, a3⟩ := sim_vals h w z
    obtain ⟨υ, d, b1, b2, b3, b4⟩ := more_73 a2 (wk_fq a3 w) z (Int.le_trans hz a3.2.2.1)
    exact ⟨υ, d, a1.trans b1, b2, b3, fq_tr a3 b4⟩
  · rw [if_neg c1, if_neg c1]
    exact more_73 h w z hz
theorem more (h : RelO oo σ c) (w : WK σ) : ∃ τ d, fX6_findsMore σ = ((if r_shaded τ = r_shaded σ then 0 else 1), τ) ∧ (if c_manner c = 2 then fX5_markStep_J45 (c_shaded c) (fX5_shadeHeld c) else fX5_markStep_J45 (c_shaded c) c) = (if r_shaded τ = r_shaded σ then fX5_endMarking d else d) ∧ RelO oo τ d ∧ FQ σ τ := by
  unfold fX6_findsMore
  rw [h.2.1.1, csh h]
  by_cases c1 : r_manner σ = 2
  · rw [if_pos c1, if_pos c1]
    have g := sim_shadeHeld h w
    obtain ⟨τ, d, a1, a2, a3, a4⟩ := more_17 g.1 (wk_fq g.2 w) (r_shaded σ) g.2.2.2.1
    exact ⟨τ, d, a1, a2, a3, fq_tr g.2 a4⟩
  · rw [if_neg c1, if_neg c1]
    exact more_17 h w (r_shaded σ) (Int.le_refl _)
end M
