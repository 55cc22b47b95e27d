/-! PURE, part 43: shade, both sides -/
theorem shade5_3 (d : CSt) {x p z b : Int32} (hm : c_manner d = 3) (ht : fX4_isThing d x = 1) (ep : c_places d (ix x) = p) (ez : c_sizes d (ix x) = z) (eb : c_behind d = b) (h0 : 0 ≤ p.toInt) (h1 : 0 ≤ z.toInt) (h2 : p.toInt + z.toInt ≤ 200) (h3 : 0 ≤ b.toInt) (h4 : b.toInt + z.toInt ≤ 200) :
    fX5_shade_J42 x d = c_moved_s (c_behind_s (c_cmap_s (c_moves_s (c_places_s (c_cmap_s d (asgF (c_cmap d) p.toInt (p.toInt + z.toInt) (-1))) (upd (c_places d) (ix x) b)) (upd (c_moves d) (ix x) (c_moves d (ix x) + 1))) (asgF (asgF (c_cmap d) p.toInt (p.toInt + z.toInt) (-1)) b.toInt (b.toInt + z.toInt) x)) (b + z)) (c_moved d + 1) := by
  have e1 : fX4_placeOf d x = p := by
    unfold fX4_placeOf
    rw [ht, if_neg one_ne, ep]
  have e2 : fX4_sizeOf d x = z := by
    unfold fX4_sizeOf
    rw [ht, if_neg one_ne, ez]
  unfold fX5_shade_J42
  rw [if_pos hm, e1, e2, assign_eq d (-1) h0 h1 h2]
  unfold fX5_shade_J74
  have ht1 : fX4_isThing (c_cmap_s d (asgF (c_cmap d) p.toInt (p.toInt + z.toInt) (-1))) x = 1 := by
    rw [thing_tm (c := d) (by simp only [Cq_manner_cmap, Cq_fault_cmap, Cq_under_cmap, Cq_nextS_cmap, Cq_rounds_cmap, Cq_steps_cmap, Cq_shaded_cmap, Cq_moved_cmap, Cq_tmade_cmap, Cq_sizes_cmap, Cq_places_cmap, Cq_colours_cmap, Cq_moves_cmap, Cq_freed_cmap, Cq_wishing_cmap, Cq_theld_cmap, Cq_cmap_cmap, Cq_halfEnd_cmap, Cq_behind_cmap, Cq_hheld_cmap, Cq_named_cmap, Cq_wishes_cmap, Cq_pmade_cmap, Cq_keys_cmap, Cq_values_cmap, Cq_found_cmap, Cq_order_cmap, Cq_rcount_cmap])]
    exact ht
  have e3 : ∀ d1 : CSt, fX4_isThing d1 x = 1 → c_behind d1 = b → fX4_moveTo d1 x (c_behind d1) = c_moves_s (c_places_s d1 (upd (c_places d1) (ix x) b)) (upd (c_moves d1) (ix x) (c_moves d1 (ix x) + 1)) := by
    intro d1 g1 g2
    unfold fX4_moveTo
    rw [g1, if_neg one_ne, g2]
  rw [e3 _ ht1 (by simp only [Cq_manner_cmap, Cq_fault_cmap, Cq_under_cmap, Cq_nextS_cmap, Cq_rounds_cmap, Cq_steps_cmap, Cq_shaded_cmap, Cq_moved_cmap, Cq_tmade_cmap, Cq_sizes_cmap, Cq_places_cmap, Cq_colours_cmap, Cq_moves_cmap, Cq_freed_cmap, Cq_wishing_cmap, Cq_theld_cmap, Cq_cmap_cmap, Cq_halfEnd_cmap, Cq_behind_cmap, Cq_hheld_cmap, Cq_named_cmap, Cq_wishes_cmap, Cq_pmade_cmap, Cq_keys_cmap, Cq_values_cmap, Cq_found_cmap, Cq_order_cmap, Cq_rcount_cmap]; exact eb)]
  simp only [Cq_manner_cmap, Cq_fault_cmap, Cq_under_cmap, Cq_nextS_cmap, Cq_rounds_cmap, Cq_steps_cmap, Cq_shaded_cmap, Cq_moved_cmap, Cq_tmade_cmap, Cq_sizes_cmap, Cq_places_cmap, Cq_colours_cmap, Cq_moves_cmap, Cq_freed_cmap, Cq_wishing_cmap, Cq_theld_cmap, Cq_cmap_cmap, Cq_halfEnd_cmap, Cq_behind_cmap, Cq_hheld_cmap, Cq_named_cmap, Cq_wishes_cmap, Cq_pmade_cmap, Cq_keys_cmap, Cq_values_cmap, Cq_found_cmap, Cq_order_cmap, Cq_rcount_cmap]
  have e4 : ∀ d2 : CSt, fX4_isThing d2 x = 1 → c_sizes d2 (ix x) = z → c_behind d2 = b → fX5_shade_J89 x d2 = c_moved_s (c_behind_s (c_cmap_s d2 (asgF (c_cmap d2) b.toInt (b.toInt + z.toInt) x)) (b + z)) (c_moved d2 + 1) := by
    intro d2 g1 g2 g3
    have e5 : fX4_sizeOf d2 x = z := by
      unfold fX4_sizeOf
      rw [g1, if_neg one_ne, g2]
    have e6 : fX0_takeBehind d2 z x = c_behind_s (c_cmap_s d2 (asgF (c_cmap d2) b.toInt (b.toInt + z.toInt) x)) (b + z) := by
      unfold fX0_takeBehind
      rw [g3, assign_eq d2 x h3 h1 h4]
      simp only [Cq_manner_cmap, Cq_fault_cmap, Cq_under_cmap, Cq_nextS_cmap, Cq_rounds_cmap, Cq_steps_cmap, Cq_shaded_cmap, Cq_moved_cmap, Cq_tmade_cmap, Cq_sizes_cmap, Cq_places_cmap, Cq_colours_cmap, Cq_moves_cmap, Cq_freed_cmap, Cq_wishing_cmap, Cq_theld_cmap, Cq_cmap_cmap, Cq_halfEnd_cmap, Cq_behind_cmap, Cq_hheld_cmap, Cq_named_cmap, Cq_wishes_cmap, Cq_pmade_cmap, Cq_keys_cmap, Cq_values_cmap, Cq_found_cmap, Cq_order_cmap, Cq_rcount_cmap]
      rw [g3]
    unfold fX5_shade_J89
    rw [e5, e6]
    simp only [Cq_manner_cmap, Cq_fault_cmap, Cq_under_cmap, Cq_nextS_cmap, Cq_rounds_cmap, Cq_steps_cmap, Cq_shaded_cmap, Cq_moved_cmap, Cq_tmade_cmap, Cq_sizes_cmap, Cq_places_cmap, Cq_colours_cmap, Cq_moves_cmap, Cq_freed_cmap, Cq_wishing_cmap, Cq_theld_cmap, Cq_cmap_cmap, Cq_halfEnd_cmap, Cq_behind_cmap, Cq_hheld_cmap, Cq_named_cmap, Cq_wishes_cmap, Cq_pmade_cmap, Cq_keys_cmap, Cq_values_cmap, Cq_found_cmap, Cq_order_cmap, Cq_rcount_cmap, Cq_manner_behind, Cq_fault_behind, Cq_under_behind, Cq_nextS_behind, Cq_rounds_behind, Cq_steps_behind, Cq_shaded_behind, Cq_moved_behind, Cq_tmade_behind, Cq_sizes_behind, Cq_places_behind, Cq_colours_behind, Cq_moves_behind, Cq_freed_behind, Cq_wishing_behind, Cq_theld_behind, Cq_cmap_behind, Cq_halfEnd_behind, Cq_behind_behind, Cq_hheld_behind, Cq_named_behind, Cq_wishes_behind, Cq_pmade_behind, Cq_keys_behind, Cq_values_behind, Cq_found_behind, Cq_order_behind, Cq_rcount_behind]
  rw [e4 _ (by rw [thing_tm (c := d) (by simp only [Cq_manner_cmap, Cq_fault_cmap, Cq_under_cmap, Cq_nextS_cmap, Cq_rounds_cmap, Cq_steps_cmap, Cq_shaded_cmap, Cq_moved_cmap, Cq_tmade_cmap, Cq_sizes_cmap, Cq_places_cmap, Cq_colours_cmap, Cq_moves_cmap, Cq_freed_cmap, Cq_wishing_cmap, Cq_theld_cmap, Cq_cmap_cmap, Cq_halfEnd_cmap, Cq_behind_cmap, Cq_hheld_cmap, Cq_named_cmap, Cq_wishes_cmap, Cq_pmade_cmap, Cq_keys_cmap, Cq_values_cmap, Cq_found_cmap, Cq_order_cmap, Cq_rcount_cmap, Cq_manner_places, Cq_fault_places, Cq_under_places, Cq_nextS_places, Cq_rounds_places, Cq_steps_places, Cq_shaded_places, Cq_moved_places, Cq_tmade_places, Cq_sizes_places, Cq_places_places, Cq_colours_places, Cq_moves_places, Cq_freed_places, Cq_wishing_places, Cq_theld_places, Cq_cmap_places, Cq_halfEnd_places, Cq_behind_places, Cq_hheld_places, Cq_named_places, Cq_wishes_places, Cq_pmade_places, Cq_keys_places, Cq_values_places, Cq_found_places, Cq_order_places, Cq_rcount_places, Cq_manner_moves, Cq_fault_moves, Cq_under_moves, Cq_nextS_moves, Cq_rounds_moves, Cq_steps_moves, Cq_shaded_moves, Cq_moved_moves, Cq_tmade_moves, Cq_sizes_moves, Cq_places_moves, Cq_colours_moves, Cq_moves_moves, Cq_freed_moves, Cq_wishing_moves, Cq_theld_moves, Cq_cmap_moves, Cq_halfEnd_moves, Cq_behind_moves, Cq_hheld_moves, Cq_named_moves, Cq_wishes_moves, Cq_pmade_moves, Cq_keys_moves, Cq_values_moves, Cq_found_moves, Cq_order_moves, Cq_rcount_moves])]; exact ht) (by simp only [Cq_manner_cmap, Cq_fault_cmap, Cq_under_cmap, Cq_nextS_cmap, Cq_rounds_cmap, Cq_steps_cmap, Cq_shaded_cmap, Cq_moved_cmap, Cq_tmade_cmap, Cq_sizes_cmap, Cq_places_cmap, Cq_colours_cmap, Cq_moves_cmap, Cq_freed_cmap, Cq_wishing_cmap, Cq_theld_cmap, Cq_cmap_cmap, Cq_halfEnd_cmap, Cq_behind_cmap, Cq_hheld_cmap, Cq_named_cmap, Cq_wishes_cmap, Cq_pmade_cmap, Cq_keys_cmap, Cq_values_cmap, Cq_found_cmap, Cq_order_cmap, Cq_rcount_cmap, Cq_manner_places, Cq_fault_places, Cq_under_places, Cq_nextS_places, Cq_rounds_places, Cq_steps_places, Cq_shaded_places, Cq_moved_places, Cq_tmade_places, Cq_sizes_places, Cq_places_places, Cq_colours_places, Cq_moves_places, Cq_freed_places, Cq_wishing_places, Cq_theld_places, Cq_cmap_places, Cq_halfEnd_places, Cq_behind_places, Cq_hheld_places, Cq_named_places, Cq_wishes_places, Cq_pmade_places, Cq_keys_places, Cq_values_places, Cq_found_places, Cq_order_places, Cq_rcount_places, Cq_manner_moves, Cq_fault_moves, Cq_under_moves, Cq_nextS_moves, Cq_rounds_moves, Cq_steps_moves, Cq_shaded_moves, Cq_moved_moves, Cq_tmade_moves, Cq_sizes_moves, Cq_places_moves, Cq_colours_moves, Cq_moves_moves, Cq_freed_moves, Cq_wishing_moves, Cq_theld_moves, Cq_cmap_moves, Cq_halfEnd_moves, Cq_behind_moves, Cq_hheld_moves, Cq_named_moves, Cq_wishes_moves, Cq_pmade_moves, Cq_keys_moves, Cq_values_moves, Cq_found_moves, Cq_order_moves, Cq_rcount_moves]; exact ez) (by simp only [Cq_manner_cmap, Cq_fault_cmap, Cq_under_cmap, Cq_nextS_cmap, Cq_rounds_cmap, Cq_steps_cmap, Cq_shaded_cmap, Cq_moved_cmap, Cq_tmade_cmap, Cq_sizes_cmap, Cq_places_cmap, Cq_colours_cmap, Cq_moves_cmap, Cq_freed_cmap, Cq_wishing_cmap, Cq_theld_cmap, Cq_cmap_cmap, Cq_halfEnd_cmap, Cq_behind_cmap, Cq_hheld_cmap, Cq_named_cmap, Cq_wishes_cmap, Cq_pmade_cmap, Cq_keys_cmap, Cq_values_cmap, Cq_found_cmap, Cq_order_cmap, Cq_rcount_cmap, Cq_manner_places, Cq_fault_places, Cq_under_places, Cq_nextS_places, Cq_rounds_places, Cq_steps_places, Cq_shaded_places, Cq_moved_places, Cq_tmade_places, Cq_sizes_places, Cq_places_places, Cq_colours_places, Cq_moves_places, Cq_freed_places, Cq_wishing_places, Cq_theld_places, Cq_cmap_places, Cq_halfEnd_places, Cq_behind_places, Cq_hheld_places, Cq_named_places, Cq_wishes_places, Cq_pmade_places, Cq_keys_places, Cq_values_places, Cq_found_places, Cq_order_places, Cq_rcount_places, Cq_manner_moves, Cq_fault_moves, Cq_under_moves, Cq_nextS_moves, Cq_rounds_moves, Cq_steps_moves, Cq_shaded_moves, Cq_moved_moves, Cq_tmade_moves, Cq_sizes_moves, Cq_places_moves, Cq_colours_moves, Cq_moves_moves, Cq_freed_moves, Cq_wishing_moves, Cq_theld_moves, Cq_cmap_moves, Cq_halfEnd_moves, Cq_behind_moves, Cq_hheld_moves, Cq_named_moves, Cq_wishes_moves, Cq_pmade_moves, Cq_keys_moves, Cq_values_moves, Cq_found_moves, Cq_order_moves, Cq_rcount_moves]; exact eb)]
  simp only [Cq_manner_cmap, Cq_fault_cmap, Cq_under_cmap, Cq_nextS_cmap, Cq_rounds_cmap, Cq_steps_cmap, Cq_shaded_cmap, Cq_moved_cmap, Cq_tmade_cmap, Cq_sizes_cmap, Cq_places_cmap, Cq_colours_cmap, Cq_moves_cmap, Cq_freed_cmap, Cq_wishing_cmap, Cq_theld_cmap, Cq_cmap_cmap, Cq_halfEnd_cmap, Cq_behind_cmap, Cq_hheld_cmap, Cq_named_cmap, Cq_wishes_cmap, Cq_pmade_cmap, Cq_keys_cmap, Cq_values_cmap, Cq_found_cmap, Cq_order_cmap, Cq_rcount_cmap, Cq_manner_places, Cq_fault_places, Cq_under_places, Cq_nextS_places, Cq_rounds_places, Cq_steps_places, Cq_shaded_places, Cq_moved_places, Cq_tmade_places, Cq_sizes_places, Cq_places_places, Cq_colours_places, Cq_moves_places, Cq_freed_places, Cq_wishing_places, Cq_theld_places, Cq_cmap_places, Cq_halfEnd_places, Cq_behind_places, Cq_hheld_places, Cq_named_places, Cq_wishes_places, Cq_pmade_places, Cq_keys_places, Cq_values_places, Cq_found_places, Cq_order_places, Cq_rcount_places, Cq_manner_moves, Cq_fault_moves, Cq_under_moves, Cq_nextS_moves, Cq_rounds_moves, Cq_steps_moves, Cq_shaded_moves, Cq_moved_moves, Cq_tmade_moves, Cq_sizes_moves, Cq_places_moves, Cq_colours_moves, Cq_moves_moves, Cq_freed_moves, Cq_wishing_moves, Cq_theld_moves, Cq_cmap_moves, Cq_halfEnd_moves, Cq_behind_moves, Cq_hheld_moves, Cq_named_moves, Cq_wishes_moves, Cq_pmade_moves, Cq_keys_moves, Cq_values_moves, Cq_found_moves, Cq_order_moves, Cq_rcount_moves]
theorem shade6_3 (d : RSt) {x : Int32} (hm : r_manner d = 3) : fX6_shade_J41 x d = r_movedMany_s (r_moved_s (r_top_s (r_place_s d (upd (r_place d) (ix x) (100 * r_half d + r_top d))) (r_top d + (r_many d (ix x) + 1))) (upd (r_moved d) (ix x) (r_moved d (ix x) + 1))) (r_movedMany d + 1) := by
  unfold fX6_shade_J41
  rw [if_pos hm]
theorem sumN_upd {g g' : Nat → Nat} {n k : Nat} (hk : k < n) (h : ∀ j, j ≠ k → g j = g' j) : sumN g n + g' k = sumN g' n + g k := sumN_at hk h
theorem g3_shade {n way half top : Int32} {many place colour freed : Nat → Int32} (h : G3 n way half top many place colour freed) (hw : way = 1) (hh : half = 0 ∨ half = 1) (ht : 0 ≤ top.toInt ∧ top.toInt ≤ 100) {k : Nat} (hk : LV n freed k) (hc : colour k = 0) (hm : 0 ≤ (many k).toInt ∧ (many k).toInt ≤ 6) :
    (top.toInt + (many k).toInt + 1 ≤ 100) ∧ (top + (many k + 1)).toInt = top.toInt + (many k).toInt + 1 ∧ (∀ j : Nat, LV n freed j → j ≠ k → (place j).toInt + (many j).toInt < (100 * half + top).toInt ∨ (100 * half + top).toInt + (many k).toInt < (place j).toInt) ∧ G3 n way half (top + (many k + 1)) many (upd place k (100 * half + top)) (upd colour k 1) freed := by
  obtain ⟨h1, h2, h3, h4⟩ := h
  obtain ⟨h5, h6⟩ := h4 hw
  have hb := half_top hh ht
  have hi := half_int hh
  have hkn : k < n.toInt.toNat := by have := hk.1; omega
  have en : nwN many (upd colour k 1) freed k = szN many k := by
    unfold nwN
    rw [if_pos hk.2, pk_us, if_neg one_ne]
  have en0 : nwN many colour freed k = 0 := by
    unfold nwN
    rw [if_pos hk.2, if_pos hc]
  have ew1 : whN many (upd colour k 1) freed k = 0 := by
    unfold whN
    rw [if_pos hk.2, pk_us, if_neg one_ne]
  have ew0 : whN many colour freed k = szN many k := by
    unfold whN
    rw [if_pos hk.2, if_pos hc]
  have s1 := sumN_upd (g := nwN many colour freed) (g' := nwN many (upd colour k 1) freed) hkn (fun j e => by unfold nwN; rw [pk_un e])
  have s2 := sumN_upd (g := whN many colour freed) (g' := whN many (upd colour k 1) freed) hkn (fun j e => by unfold whN; rw [pk_un e])
  rw [en, en0] at s1
  rw [ew0, ew1] at s2
  have hs : (szN many k : Int) = (many k).toInt + 1 := by
    unfold szN
    omega
  have hM : (many k + 1).toInt = (many k).toInt + 1 := i32_1 (B := 100) (by have q : (100 : Int32).toInt = 100 := rfl; omega)
  have hT : (top + (many k + 1)).toInt = top.toInt + (many k).toInt + 1 := by
    rw [Int32.toInt_add, hM]
    have := Int.bmod_eq_of_le (n := top.toInt + ((many k).toInt + 1)) (m := 2 ^ 32) (by omega) (by omega)
    omega
  have hcap : top.toInt + (many k).toInt + 1 ≤ 100 := by omega
  refine ⟨hcap, hT, fun j hj e => ?_, h1, fun j hj => ?_, fun z => ?_, fun _ => ⟨?_, ?_⟩⟩
  · rw [hb]
    rcases h2 j hj with a | ⟨_, _, a⟩
    · unfold inHalf at a
      omega
    · unfold inHalf at a
      omega
  · by_cases e : j = k
    · subst e
      rw [pk_us]
      refine Or.inl ?_
      unfold inHalf
      rw [hb, hT]
      omega
    · rw [pk_un e, pk_un e]
      rcases h2 j hj with a | a
      · refine Or.inl ?_
        unfold inHalf at a ⊢
        rw [hT]
        omega
      · exact Or.inr a
  · rw [hw] at z
    exact absurd z one_ne
  · rw [hT]
    omega
  · rw [hT]
    omega
section S
variable {oo : Int32} {σ : RSt} {c : CSt}
theorem gq (h : RelO oo σ c) : 0 ≤ (r_shaded σ).toInt ∧ (r_shaded σ).toInt ≤ cntB (r_colour σ) (r_things σ).toInt.toNat := h.2.1.2.2.2.2.2.2.2.2.2.2.2.2
theorem sh_int (h : RelO oo σ c) : (r_shaded σ + 1).toInt = (r_shaded σ).toInt + 1 := by
  have h1 := gq h
  have h2 := cntB_le (g := r_colour σ) (n := (r_things σ).toInt.toNat)
  have h3 := s0_th h.1
  have h4 := h.1.1.1
  exact i32_1 (B := 200) (by have q : (200 : Int32).toInt = 200 := rfl; omega)
theorem sim_shade (h : RelO oo σ c) {x : Int32} (hx : VN (r_things σ) x) (hw : r_manner σ = 3 → r_way σ = 1) : RelO oo (fX6_shade σ x) (fX5_shade c x) := by
  rcases hx with rfl | hx
  · have e6 : fX6_shade σ (-1) = σ := by
      unfold fX6_shade
      rw [if_pos rfl]
    have e5 : fX5_shade c (-1) = c := by
      unfold fX5_shade
      rw [q_white0 h vn_no, if_pos rfl]
    rw [e6, e5]
    exact h
  by_cases hc : ¬ (r_colour σ (ix x) = 0)
  · have e6 : fX6_shade σ x = σ := by
      unfold fX6_shade
      rw [if_neg (th_ne hx), if_neg hc]
    have e5 : fX5_shade c x = c := by
      unfold fX5_shade
      rw [q_white h hx, if_neg hc, if_pos rfl]
    rw [e6, e5]
    exact h
  have hc := Classical.not_not.mp hc
  by_cases hf : ¬ (r_isFreed σ (ix x) = 0)
  · have e6 : fX6_shade σ x = σ := by
      unfold fX6_shade
      rw [if_neg (th_ne hx), if_pos hc, if_neg hf]
    have e5 : fX5_shade c x = c := by
      unfold fX5_shade
      rw [q_white h hx, if_pos hc, if_neg one_ne, q_freed h hx, if_neg hf]
    rw [e6, e5]
    exact h
  have hf := Classical.not_not.mp hf
  have e6 : fX6_shade σ x = fX6_shade_J41 x (r_shaded_s (r_colour_s σ (upd (r_colour σ) (ix x) 1)) (r_shaded σ + 1)) := by
    unfold fX6_shade
    rw [if_neg (th_ne hx), if_pos hc, if_pos hf]
  have e5 : fX5_shade c x = fX5_shade_J42 x (c_shaded_s (c_colours_s c (upd (c_colours c) (ix x) 1)) (c_shaded c + 1)) := by
    unfold fX5_shade
    rw [q_white h hx, if_pos hc, if_neg one_ne, q_freed h hx, if_pos hf, paint_th h hx]
    simp only [Cq_manner_colours, Cq_fault_colours, Cq_under_colours, Cq_nextS_colours, Cq_rounds_colours, Cq_steps_colours, Cq_shaded_colours, Cq_moved_colours, Cq_tmade_colours, Cq_sizes_colours, Cq_places_colours, Cq_colours_colours, Cq_moves_colours, Cq_freed_colours, Cq_wishing_colours, Cq_theld_colours, Cq_cmap_colours, Cq_halfEnd_colours, Cq_behind_colours, Cq_hheld_colours, Cq_named_colours, Cq_wishes_colours, Cq_pmade_colours, Cq_keys_colours, Cq_values_colours, Cq_found_colours, Cq_order_colours, Cq_rcount_colours]
  rw [e6, e5]
  clear e6 e5
  have hA := h.2.1
  have esh : c_shaded c + 1 = r_shaded σ + 1 := by rw [hA.2.2.2.2.2.1]
  have hT := gt_colour h.2.2.1 hf 1
  have hq : 0 ≤ (r_shaded σ + 1).toInt ∧ (r_shaded σ + 1).toInt ≤ cntB (upd (r_colour σ) (ix x) 1) (r_things σ).toInt.toNat := by
    have h1 := gq h
    have h2 := sh_int h
    have h3 := cntB_inc (g := r_colour σ) (n := (r_things σ).toInt.toNat) (k := ix x) (by have := th_lt hx; omega) hc
    omega
  by_cases hm : ¬ (r_manner σ = 3)
  · have e6 : ∀ v w, fX6_shade_J41 x (r_shaded_s (r_colour_s σ v) w) = r_shaded_s (r_colour_s σ v) w := by
      intro v w
      unfold fX6_shade_J41
      rw [if_neg (by simp only [Rq_manner_shaded, Rq_fault_shaded, Rq_things_shaded, Rq_many_shaded, Rq_field_shaded, Rq_place_shaded, Rq_colour_shaded, Rq_isFreed_shaded, Rq_hasWish_shaded, Rq_moved_shaded, Rq_register_shaded, Rq_slot_shaded, Rq_wishes_shaded, Rq_wishAt_shaded, Rq_weakAt_shaded, Rq_pairs_shaded, Rq_key_shaded, Rq_value_shaded, Rq_isPair_shaded, Rq_half_shaded, Rq_top_shaded, Rq_way_shaded, Rq_next_shaded, Rq_freedMany_shaded, Rq_rounds_shaded, Rq_steps_shaded, Rq_shaded_shaded, Rq_movedMany_shaded, Rq_isReached_shaded, Rq_more_shaded, Rq_manner_colour, Rq_fault_colour, Rq_things_colour, Rq_many_colour, Rq_field_colour, Rq_place_colour, Rq_colour_colour, Rq_isFreed_colour, Rq_hasWish_colour, Rq_moved_colour, Rq_register_colour, Rq_slot_colour, Rq_wishes_colour, Rq_wishAt_colour, Rq_weakAt_colour, Rq_pairs_colour, Rq_key_colour, Rq_value_colour, Rq_isPair_colour, Rq_half_colour, Rq_top_colour, Rq_way_colour, Rq_next_colour, Rq_freedMany_colour, Rq_rounds_colour, Rq_steps_colour, Rq_shaded_colour, Rq_movedMany_colour, Rq_isReached_colour, Rq_more_colour]; exact hm)]
    have e5 : ∀ v w, fX5_shade_J42 x (c_shaded_s (c_colours_s c v) w) = c_shaded_s (c_colours_s c v) w := by
      intro v w
      unfold fX5_shade_J42
      rw [if_neg (by simp only [Cq_manner_shaded, Cq_fault_shaded, Cq_under_shaded, Cq_nextS_shaded, Cq_rounds_shaded, Cq_steps_shaded, Cq_shaded_shaded, Cq_moved_shaded, Cq_tmade_shaded, Cq_sizes_shaded, Cq_places_shaded, Cq_colours_shaded, Cq_moves_shaded, Cq_freed_shaded, Cq_wishing_shaded, Cq_theld_shaded, Cq_cmap_shaded, Cq_halfEnd_shaded, Cq_behind_shaded, Cq_hheld_shaded, Cq_named_shaded, Cq_wishes_shaded, Cq_pmade_shaded, Cq_keys_shaded, Cq_values_shaded, Cq_found_shaded, Cq_order_shaded, Cq_rcount_shaded, Cq_manner_colours, Cq_fault_colours, Cq_under_colours, Cq_nextS_colours, Cq_rounds_colours, Cq_steps_colours, Cq_shaded_colours, Cq_moved_colours, Cq_tmade_colours, Cq_sizes_colours, Cq_places_colours, Cq_colours_colours, Cq_moves_colours, Cq_freed_colours, Cq_wishing_colours, Cq_theld_colours, Cq_cmap_colours, Cq_halfEnd_colours, Cq_behind_colours, Cq_hheld_colours, Cq_named_colours, Cq_wishes_colours, Cq_pmade_colours, Cq_keys_colours, Cq_values_colours, Cq_found_colours, Cq_order_colours, Cq_rcount_colours]; exact fun z => hm (hA.1.symm.trans z))]
    rw [e6, e5]
    exact rel_col h _ _ _ _ esh hq hT (fun z => absurd z hm)
  · have hm := Classical.not_not.mp hm
    have g := q_gt h hx
    obtain ⟨hC, hS, hG⟩ := h.2.2.2.2.2
    have hk : LV (r_things σ) (r_isFreed σ) (ix x) := ⟨th_lt hx, hf⟩
    have hmn := h.1.2.1 (ix x)
    have hz := many_add h.1 (ix x)
    obtain ⟨hcap, hTt, hout, hG'⟩ := g3_shade (hG hm) (hw hm) hS.1 hS.2.1 hk hc hmn
    have hb := half_top hS.1 hS.2.1
    have hi := half_int hS.1
    have htt : 0 ≤ (r_top σ).toInt ∧ (r_top σ).toInt ≤ 100 := hS.2.1
    have hpl := hC.1 _ hk
    have e6 : ∀ v w, fX6_shade_J41 x (r_shaded_s (r_colour_s σ v) w) = r_movedMany_s (r_moved_s (r_top_s (r_place_s (r_shaded_s (r_colour_s σ v) w) (upd (r_place σ) (ix x) (100 * r_half σ + r_top σ))) (r_top σ + (r_many σ (ix x) + 1))) (upd (r_moved σ) (ix x) (r_moved σ (ix x) + 1))) (r_movedMany σ + 1) := by
      intro v w
      rw [shade6_3 _ (by simp only [Rq_manner_shaded, Rq_fault_shaded, Rq_things_shaded, Rq_many_shaded, Rq_field_shaded, Rq_place_shaded, Rq_colour_shaded, Rq_isFreed_shaded, Rq_hasWish_shaded, Rq_moved_shaded, Rq_register_shaded, Rq_slot_shaded, Rq_wishes_shaded, Rq_wishAt_shaded, Rq_weakAt_shaded, Rq_pairs_shaded, Rq_key_shaded, Rq_value_shaded, Rq_isPair_shaded, Rq_half_shaded, Rq_top_shaded, Rq_way_shaded, Rq_next_shaded, Rq_freedMany_shaded, Rq_rounds_shaded, Rq_steps_shaded, Rq_shaded_shaded, Rq_movedMany_shaded, Rq_isReached_shaded, Rq_more_shaded, Rq_manner_colour, Rq_fault_colour, Rq_things_colour, Rq_many_colour, Rq_field_colour, Rq_place_colour, Rq_colour_colour, Rq_isFreed_colour, Rq_hasWish_colour, Rq_moved_colour, Rq_register_colour, Rq_slot_colour, Rq_wishes_colour, Rq_wishAt_colour, Rq_weakAt_colour, Rq_pairs_colour, Rq_key_colour, Rq_value_colour, Rq_isPair_colour, Rq_half_colour, Rq_top_colour, Rq_way_colour, Rq_next_colour, Rq_freedMany_colour, Rq_rounds_colour, Rq_steps_colour, Rq_shaded_colour, Rq_movedMany_colour, Rq_isReached_colour, Rq_more_colour]; exact hm)]
      simp only [Rq_manner_shaded, Rq_fault_shaded, Rq_things_shaded, Rq_many_shaded, Rq_field_shaded, Rq_place_shaded, Rq_colour_shaded, Rq_isFreed_shaded, Rq_hasWish_shaded, Rq_moved_shaded, Rq_register_shaded, Rq_slot_shaded, Rq_wishes_shaded, Rq_wishAt_shaded, Rq_weakAt_shaded, Rq_pairs_shaded, Rq_key_shaded, Rq_value_shaded, Rq_isPair_shaded, Rq_half_shaded, Rq_top_shaded, Rq_way_shaded, Rq_next_shaded, Rq_freedMany_shaded, Rq_rounds_shaded, Rq_steps_shaded, Rq_shaded_shaded, Rq_movedMany_shaded, Rq_isReached_shaded, Rq_more_shaded, Rq_manner_colour, Rq_fault_colour, Rq_things_colour, Rq_many_colour, Rq_field_colour, Rq_place_colour, Rq_colour_colour, Rq_isFreed_colour, Rq_hasWish_colour, Rq_moved_colour, Rq_register_colour, Rq_slot_colour, Rq_wishes_colour, Rq_wishAt_colour, Rq_weakAt_colour, Rq_pairs_colour, Rq_key_colour, Rq_value_colour, Rq_isPair_colour, Rq_half_colour, Rq_top_colour, Rq_way_colour, Rq_next_colour, Rq_freedMany_colour, Rq_rounds_colour, Rq_steps_colour, Rq_shaded_colour, Rq_movedMany_colour, Rq_isReached_colour, Rq_more_colour]
    have e5 : ∀ v w, fX5_shade_J42 x (c_shaded_s (c_colours_s c v) w) = c_moved_s (c_behind_s (c_cmap_s (c_moves_s (c_places_s (c_cmap_s (c_shaded_s (c_colours_s c v) w) (asgF (c_cmap c) (r_place σ (ix x)).toInt ((r_place σ (ix x)).toInt + (r_many σ (ix x) + 1).toInt) (-1))) (upd (c_places c) (ix x) (100 * r_half σ + r_top σ))) (upd (c_moves c) (ix x) (c_moves c (ix x) + 1))) (asgF (asgF (c_cmap c) (r_place σ (ix x)).toInt ((r_place σ (ix x)).toInt + (r_many σ (ix x) + 1).toInt) (-1)) (100 * r_half σ + r_top σ).toInt ((100 * r_half σ + r_top σ).toInt + (r_many σ (ix x) + 1).toInt) x)) (100 * r_half σ + r_top σ + (r_many σ (ix x) + 1))) (c_moved c + 1) := by
      intro v w
      rw [shade5_3 (c_shaded_s (c_colours_s c v) w) (p := r_place σ (ix x)) (z := r_many σ (ix x) + 1) (b := 100 * r_half σ + r_top σ)
        (by simp only [Cq_manner_shaded, Cq_fault_shaded, Cq_under_shaded, Cq_nextS_shaded, Cq_rounds_shaded, Cq_steps_shaded, Cq_shaded_shaded, Cq_moved_shaded, Cq_tmade_shaded, Cq_sizes_shaded, Cq_places_shaded, Cq_colours_shaded, Cq_moves_shaded, Cq_freed_shaded, Cq_wishing_shaded, Cq_theld_shaded, Cq_cmap_shaded, Cq_halfEnd_shaded, Cq_behind_shaded, Cq_hheld_shaded, Cq_named_shaded, Cq_wishes_shaded, Cq_pmade_shaded, Cq_keys_shaded, Cq_values_shaded, Cq_found_shaded, Cq_order_shaded, Cq_rcount_shaded, Cq_manner_colours, Cq_fault_colours, Cq_under_colours, Cq_nextS_colours, Cq_rounds_colours, Cq_steps_colours, Cq_shaded_colours, Cq_moved_colours, Cq_tmade_colours, Cq_sizes_colours, Cq_places_colours, Cq_colours_colours, Cq_moves_colours, Cq_freed_colours, Cq_wishing_colours, Cq_theld_colours, Cq_cmap_colours, Cq_halfEnd_colours, Cq_behind_colours, Cq_hheld_colours, Cq_named_colours, Cq_wishes_colours, Cq_pmade_colours, Cq_keys_colours, Cq_values_colours, Cq_found_colours, Cq_order_colours, Cq_rcount_colours]; exact hA.1.trans hm) (by rw [thing_tm (c := c) (by simp only [Cq_manner_shaded, Cq_fault_shaded, Cq_under_shaded, Cq_nextS_shaded, Cq_rounds_shaded, Cq_steps_shaded, Cq_shaded_shaded, Cq_moved_shaded, Cq_tmade_shaded, Cq_sizes_shaded, Cq_places_shaded, Cq_colours_shaded, Cq_moves_shaded, Cq_freed_shaded, Cq_wishing_shaded, Cq_theld_shaded, Cq_cmap_shaded, Cq_halfEnd_shaded, Cq_behind_shaded, Cq_hheld_shaded, Cq_named_shaded, Cq_wishes_shaded, Cq_pmade_shaded, Cq_keys_shaded, Cq_values_shaded, Cq_found_shaded, Cq_order_shaded, Cq_rcount_shaded, Cq_manner_colours, Cq_fault_colours, Cq_under_colours, Cq_nextS_colours, Cq_rounds_colours, Cq_steps_colours, Cq_shaded_colours, Cq_moved_colours, Cq_tmade_colours, Cq_sizes_colours, Cq_places_colours, Cq_colours_colours, Cq_moves_colours, Cq_freed_colours, Cq_wishing_colours, Cq_theld_colours, Cq_cmap_colours, Cq_halfEnd_colours, Cq_behind_colours, Cq_hheld_colours, Cq_named_colours, Cq_wishes_colours, Cq_pmade_colours, Cq_keys_colours, Cq_values_colours, Cq_found_colours, Cq_order_colours, Cq_rcount_colours])]; exact q_thing1 h hx)
        (by simp only [Cq_manner_shaded, Cq_fault_shaded, Cq_under_shaded, Cq_nextS_shaded, Cq_rounds_shaded, Cq_steps_shaded, Cq_shaded_shaded, Cq_moved_shaded, Cq_tmade_shaded, Cq_sizes_shaded, Cq_places_shaded, Cq_colours_shaded, Cq_moves_shaded, Cq_freed_shaded, Cq_wishing_shaded, Cq_theld_shaded, Cq_cmap_shaded, Cq_halfEnd_shaded, Cq_behind_shaded, Cq_hheld_shaded, Cq_named_shaded, Cq_wishes_shaded, Cq_pmade_shaded, Cq_keys_shaded, Cq_values_shaded, Cq_found_shaded, Cq_order_shaded, Cq_rcount_shaded, Cq_manner_colours, Cq_fault_colours, Cq_under_colours, Cq_nextS_colours, Cq_rounds_colours, Cq_steps_colours, Cq_shaded_colours, Cq_moved_colours, Cq_tmade_colours, Cq_sizes_colours, Cq_places_colours, Cq_colours_colours, Cq_moves_colours, Cq_freed_colours, Cq_wishing_colours, Cq_theld_colours, Cq_cmap_colours, Cq_halfEnd_colours, Cq_behind_colours, Cq_hheld_colours, Cq_named_colours, Cq_wishes_colours, Cq_pmade_colours, Cq_keys_colours, Cq_values_colours, Cq_found_colours, Cq_order_colours, Cq_rcount_colours]; exact g.1.2.1) (by simp only [Cq_manner_shaded, Cq_fault_shaded, Cq_under_shaded, Cq_nextS_shaded, Cq_rounds_shaded, Cq_steps_shaded, Cq_shaded_shaded, Cq_moved_shaded, Cq_tmade_shaded, Cq_sizes_shaded, Cq_places_shaded, Cq_colours_shaded, Cq_moves_shaded, Cq_freed_shaded, Cq_wishing_shaded, Cq_theld_shaded, Cq_cmap_shaded, Cq_halfEnd_shaded, Cq_behind_shaded, Cq_hheld_shaded, Cq_named_shaded, Cq_wishes_shaded, Cq_pmade_shaded, Cq_keys_shaded, Cq_values_shaded, Cq_found_shaded, Cq_order_shaded, Cq_rcount_shaded, Cq_manner_colours, Cq_fault_colours, Cq_under_colours, Cq_nextS_colours, Cq_rounds_colours, Cq_steps_colours, Cq_shaded_colours, Cq_moved_colours, Cq_tmade_colours, Cq_sizes_colours, Cq_places_colours, Cq_colours_colours, Cq_moves_colours, Cq_freed_colours, Cq_wishing_colours, Cq_theld_colours, Cq_cmap_colours, Cq_halfEnd_colours, Cq_behind_colours, Cq_hheld_colours, Cq_named_colours, Cq_wishes_colours, Cq_pmade_colours, Cq_keys_colours, Cq_values_colours, Cq_found_colours, Cq_order_colours, Cq_rcount_colours]; exact g.1.1) (by simp only [Cq_manner_shaded, Cq_fault_shaded, Cq_under_shaded, Cq_nextS_shaded, Cq_rounds_shaded, Cq_steps_shaded, Cq_shaded_shaded, Cq_moved_shaded, Cq_tmade_shaded, Cq_sizes_shaded, Cq_places_shaded, Cq_colours_shaded, Cq_moves_shaded, Cq_freed_shaded, Cq_wishing_shaded, Cq_theld_shaded, Cq_cmap_shaded, Cq_halfEnd_shaded, Cq_behind_shaded, Cq_hheld_shaded, Cq_named_shaded, Cq_wishes_shaded, Cq_pmade_shaded, Cq_keys_shaded, Cq_values_shaded, Cq_found_shaded, Cq_order_shaded, Cq_rcount_shaded, Cq_manner_colours, Cq_fault_colours, Cq_under_colours, Cq_nextS_colours, Cq_rounds_colours, Cq_steps_colours, Cq_shaded_colours, Cq_moved_colours, Cq_tmade_colours, Cq_sizes_colours, Cq_places_colours, Cq_colours_colours, Cq_moves_colours, Cq_freed_colours, Cq_wishing_colours, Cq_theld_colours, Cq_cmap_colours, Cq_halfEnd_colours, Cq_behind_colours, Cq_hheld_colours, Cq_named_colours, Cq_wishes_colours, Cq_pmade_colours, Cq_keys_colours, Cq_values_colours, Cq_found_colours, Cq_order_colours, Cq_rcount_colours]; exact hS.2.2.2)
        (by omega) (by omega) (by omega) (by omega) (by omega)]
      simp only [Cq_manner_shaded, Cq_fault_shaded, Cq_under_shaded, Cq_nextS_shaded, Cq_rounds_shaded, Cq_steps_shaded, Cq_shaded_shaded, Cq_moved_shaded, Cq_tmade_shaded, Cq_sizes_shaded, Cq_places_shaded, Cq_colours_shaded, Cq_moves_shaded, Cq_freed_shaded, Cq_wishing_shaded, Cq_theld_shaded, Cq_cmap_shaded, Cq_halfEnd_shaded, Cq_behind_shaded, Cq_hheld_shaded, Cq_named_shaded, Cq_wishes_shaded, Cq_pmade_shaded, Cq_keys_shaded, Cq_values_shaded, Cq_found_shaded, Cq_order_shaded, Cq_rcount_shaded, Cq_manner_colours, Cq_fault_colours, Cq_under_colours, Cq_nextS_colours, Cq_rounds_colours, Cq_steps_colours, Cq_shaded_colours, Cq_moved_colours, Cq_tmade_colours, Cq_sizes_colours, Cq_places_colours, Cq_colours_colours, Cq_moves_colours, Cq_freed_colours, Cq_wishing_colours, Cq_theld_colours, Cq_cmap_colours, Cq_halfEnd_colours, Cq_behind_colours, Cq_hheld_colours, Cq_named_colours, Cq_wishes_colours, Cq_pmade_colours, Cq_keys_colours, Cq_values_colours, Cq_found_colours, Cq_order_colours, Cq_rcount_colours]
    rw [e6, e5]
    clear e6 e5
    refine rel_mv h _ _ _ _ _ _ _ _ _ _ _ _ _ _ esh (by rw [hA.2.2.2.2.2.2.1]) hq ?_ ?_ ?_ (fun _ => hG')
    · intro j hj
      have gj := hT j hj
      by_cases e : j = ix x
      · subst e
        obtain ⟨⟨b1, b2, b3, b4, b5, b6⟩, g2, g3, g4, g5⟩ := gj
        refine ⟨⟨b1, by rw [pk_us, pk_us], b3, by rw [pk_us, pk_us, b4], b5, b6⟩, g2, g3, fun z => ?_, g5⟩
        rw [hf] at z
        exact absurd z (by decide)
      · obtain ⟨⟨b1, b2, b3, b4, b5, b6⟩, g2, g3, g4, g5⟩ := gj
        refine ⟨⟨b1, by rw [pk_un e, pk_un e]; exact b2, b3, by rw [pk_un e, pk_un e]; exact b4, b5, b6⟩, g2, g3, fun z => ?_, g5⟩
        rw [pk_un e]
        exact g4 z
    · rw [hz]
      exact gc_move hC hk hmn.1 ⟨by omega, by omega⟩ hout (nI_ix hx.1).symm
    · refine ⟨hS.1, ⟨by omega, by omega⟩, hS.2.2.1, ?_⟩
      rw [Int32.add_assoc]
end S
