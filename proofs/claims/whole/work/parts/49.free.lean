/-! PURE, part 49: what is white is freed -/
def freeR (σ : RSt) (x : Int32) : RSt := if fX6_isWhite σ x = 0 then σ else if r_isFreed σ (ix x) = 0 then fX6_frees σ x else σ
theorem gc_free {n : Int32} {many place freed cmap : Nat → Int32} (h : GC n many place freed cmap) {k : Nat} (hk : LV n freed k) (hm : 0 ≤ (many k).toInt) : GC n many (upd place k (-1)) (upd freed k 1) (asgF cmap (place k).toInt ((place k).toInt + ((many k).toInt + 1)) (-1)) := by
  obtain ⟨h1, h2, h3⟩ := h
  have lv : ∀ j, LV n (upd freed k 1) j → LV n freed j ∧ j ≠ k := by
    intro j hj
    by_cases e : j = k
    · subst e
      have := hj.2
      rw [pk_us] at this
      exact absurd this one_ne
    · refine ⟨⟨hj.1, ?_⟩, e⟩
      have := hj.2
      rw [pk_un e] at this
      exact this
  refine ⟨fun j hj => ?_, fun i j hi hj e => ?_, fun j hj => ?_⟩
  · obtain ⟨a1, a2⟩ := lv j hj
    rw [pk_un a2]
    exact h1 j a1
  · obtain ⟨a1, a2⟩ := lv i hi
    obtain ⟨b1, b2⟩ := lv j hj
    rw [pk_un a2, pk_un b2]
    exact h2 i j a1 b1 e
  · unfold asgF
    by_cases c2 : (place k).toInt ≤ (j : Int) ∧ (j : Int) < (place k).toInt + ((many k).toInt + 1)
    · rw [if_pos c2]
      refine Or.inr ⟨fun i hi => ?_, rfl⟩
      obtain ⟨a1, a2, a3⟩ := hi
      obtain ⟨a1, e⟩ := lv i a1
      rw [pk_un e] at a2 a3
      have := h2 i k a1 hk e
      omega
    · rw [if_neg c2]
      rcases h3 j hj with ⟨i, hi, ei⟩ | ⟨hn, ei⟩
      · have e : i ≠ k := by
          rintro rfl
          exact c2 ⟨hi.2.1, by have := hi.2.2; omega⟩
        refine Or.inl ⟨i, ⟨⟨hi.1.1, by rw [pk_un e]; exact hi.1.2⟩, ?_, ?_⟩, ei⟩
        · rw [pk_un e]
          exact hi.2.1
        · rw [pk_un e]
          exact hi.2.2
      · refine Or.inr ⟨fun i hi => ?_, ei⟩
        obtain ⟨a1, a2, a3⟩ := hi
        obtain ⟨a1, e⟩ := lv i a1
        rw [pk_un e] at a2 a3
        exact hn i ⟨a1, a2, a3⟩
theorem g3_free {n way half top : Int32} {many place colour freed : Nat → Int32} (h : G3 n way half top many place colour freed) (hw : way = 1) {k : Nat} (hk : LV n freed k) (hc : colour k = 0) : G3 n way half top many (upd place k (-1)) colour (upd freed k 1) := by
  obtain ⟨h1, h2, h3, h4⟩ := h
  have lv : ∀ j, LV n (upd freed k 1) j → LV n freed j ∧ j ≠ k := by
    intro j hj
    by_cases e : j = k
    · subst e
      have := hj.2
      rw [pk_us] at this
      exact absurd this one_ne
    · refine ⟨⟨hj.1, ?_⟩, e⟩
      have := hj.2
      rw [pk_un e] at this
      exact this
  have hkn : k < n.toInt.toNat := by have := hk.1; omega
  have en : nwN many colour (upd freed k 1) k = 0 := by
    unfold nwN
    rw [pk_us, if_neg one_ne]
  have en0 : nwN many colour freed k = 0 := by
    unfold nwN
    rw [if_pos hk.2, if_pos hc]
  have ew1 : whN many colour (upd freed k 1) k = 0 := by
    unfold whN
    rw [pk_us, if_neg one_ne]
  have s1 := sumN_upd (g := nwN many colour freed) (g' := nwN many colour (upd freed k 1)) hkn (fun j e => by unfold nwN; rw [pk_un e])
  have s2 := sumN_upd (g := whN many colour freed) (g' := whN many colour (upd freed k 1)) hkn (fun j e => by unfold whN; rw [pk_un e])
  rw [en, en0] at s1
  rw [ew1] at s2
  refine ⟨h1, fun j hj => ?_, fun z => ?_, fun z => ?_⟩
  · obtain ⟨a1, a2⟩ := lv j hj
    rw [pk_un a2]
    exact h2 j a1
  · rw [hw] at z
    exact absurd z one_ne
  · have := h4 z
    omega
section G
variable {oo : Int32} {σ : RSt} {c : CSt}
theorem gt_free (h : rGT σ c) {k : Nat} (hc : r_colour σ k = 0) : GT (r_things σ) (r_many σ) (upd (r_place σ) k (-1)) (r_colour σ) (upd (r_isFreed σ) k 1) (r_hasWish σ) (r_moved σ) (r_field σ) (c_sizes c) (upd (c_places c) k (-1)) (c_colours c) (upd (c_freed c) k 1) (c_wishing c) (c_moves c) (c_theld c) := by
  intro j hj
  obtain ⟨⟨b1, b2, b3, b4, b5, b6⟩, g2, g3, g4, g5⟩ := h j hj
  by_cases e : j = k
  · subst e
    exact ⟨⟨b1, by rw [pk_us, pk_us], b3, b4, by rw [pk_us, pk_us], b6⟩, by rw [pk_us]; exact Or.inr rfl, g3, fun _ => ⟨pk_us, hc⟩, g5⟩
  · exact ⟨⟨b1, by rw [pk_un e, pk_un e]; exact b2, b3, b4, by rw [pk_un e, pk_un e]; exact b5, b6⟩, by rw [pk_un e]; exact g2, g3, fun z => by rw [pk_un e] at z ⊢; exact g4 z, g5⟩
theorem rel_fr (h : RelO oo σ c) (a b : Nat → Int32) (v : Int32) (m a5 b5 : Nat → Int32) (hT : GT (r_things σ) (r_many σ) b (r_colour σ) a (r_hasWish σ) (r_moved σ) (r_field σ) (c_sizes c) b5 (c_colours c) a5 (c_wishing c) (c_moves c) (c_theld c)) (h1 : GC (r_things σ) (r_many σ) b a m) (h3 : r_manner σ = 3 → G3 (r_things σ) (r_way σ) (r_half σ) (r_top σ) (r_many σ) b (r_colour σ) a) :
    RelO oo (r_freedMany_s (r_place_s (r_isFreed_s σ a) b) v) (c_places_s (c_freed_s (c_cmap_s c m) a5) b5) := by
  have hS2 : S0 (r_freedMany_s (r_place_s (r_isFreed_s σ a) b) v) := s0_sa (sa_freedMany _ _) (s0_sa (sa_place _ _) (s0_sa (sa_isFreed _ _) h.1))
  refine ⟨hS2, ?_⟩
  clear hS2
  obtain ⟨hS, ⟨a1, a2, a3, a4, a5, a6, a7, a8, a9, a10, a11, a12⟩, _, hH, hP, _, h2, _⟩ := h
  unfold GA rGT rGH rGP rGC
  unfold rGH at hH
  unfold rGP at hP
  simp only [Rq_manner_isFreed, Rq_fault_isFreed, Rq_things_isFreed, Rq_many_isFreed, Rq_field_isFreed, Rq_place_isFreed, Rq_colour_isFreed, Rq_isFreed_isFreed, Rq_hasWish_isFreed, Rq_moved_isFreed, Rq_register_isFreed, Rq_slot_isFreed, Rq_wishes_isFreed, Rq_wishAt_isFreed, Rq_weakAt_isFreed, Rq_pairs_isFreed, Rq_key_isFreed, Rq_value_isFreed, Rq_isPair_isFreed, Rq_half_isFreed, Rq_top_isFreed, Rq_way_isFreed, Rq_next_isFreed, Rq_freedMany_isFreed, Rq_rounds_isFreed, Rq_steps_isFreed, Rq_shaded_isFreed, Rq_movedMany_isFreed, Rq_isReached_isFreed, Rq_more_isFreed, Rq_manner_place, Rq_fault_place, Rq_things_place, Rq_many_place, Rq_field_place, Rq_place_place, Rq_colour_place, Rq_isFreed_place, Rq_hasWish_place, Rq_moved_place, Rq_register_place, Rq_slot_place, Rq_wishes_place, Rq_wishAt_place, Rq_weakAt_place, Rq_pairs_place, Rq_key_place, Rq_value_place, Rq_isPair_place, Rq_half_place, Rq_top_place, Rq_way_place, Rq_next_place, Rq_freedMany_place, Rq_rounds_place, Rq_steps_place, Rq_shaded_place, Rq_movedMany_place, Rq_isReached_place, Rq_more_place, Rq_manner_freedMany, Rq_fault_freedMany, Rq_things_freedMany, Rq_many_freedMany, Rq_field_freedMany, Rq_place_freedMany, Rq_colour_freedMany, Rq_isFreed_freedMany, Rq_hasWish_freedMany, Rq_moved_freedMany, Rq_register_freedMany, Rq_slot_freedMany, Rq_wishes_freedMany, Rq_wishAt_freedMany, Rq_weakAt_freedMany, Rq_pairs_freedMany, Rq_key_freedMany, Rq_value_freedMany, Rq_isPair_freedMany, Rq_half_freedMany, Rq_top_freedMany, Rq_way_freedMany, Rq_next_freedMany, Rq_freedMany_freedMany, Rq_rounds_freedMany, Rq_steps_freedMany, Rq_shaded_freedMany, Rq_movedMany_freedMany, Rq_isReached_freedMany, Rq_more_freedMany, Cq_manner_cmap, Cq_fault_cmap, Cq_under_cmap, Cq_nextS_cmap, Cq_rounds_cmap, Cq_steps_cmap, Cq_shaded_cmap, Cq_moved_cmap, Cq_tmade_cmap, Cq_sizes_cmap, Cq_places_cmap, Cq_colours_cmap, Cq_moves_cmap, Cq_freed_cmap, Cq_wishing_cmap, Cq_theld_cmap, Cq_cmap_cmap, Cq_halfEnd_cmap, Cq_behind_cmap, Cq_hheld_cmap, Cq_named_cmap, Cq_wishes_cmap, Cq_pmade_cmap, Cq_keys_cmap, Cq_values_cmap, Cq_found_cmap, Cq_order_cmap, Cq_rcount_cmap, Cq_manner_freed, Cq_fault_freed, Cq_under_freed, Cq_nextS_freed, Cq_rounds_freed, Cq_steps_freed, Cq_shaded_freed, Cq_moved_freed, Cq_tmade_freed, Cq_sizes_freed, Cq_places_freed, Cq_colours_freed, Cq_moves_freed, Cq_freed_freed, Cq_wishing_freed, Cq_theld_freed, Cq_cmap_freed, Cq_halfEnd_freed, Cq_behind_freed, Cq_hheld_freed, Cq_named_freed, Cq_wishes_freed, Cq_pmade_freed, Cq_keys_freed, Cq_values_freed, Cq_found_freed, Cq_order_freed, Cq_rcount_freed, Cq_manner_places, Cq_fault_places, Cq_under_places, Cq_nextS_places, Cq_rounds_places, Cq_steps_places, Cq_shaded_places, Cq_moved_places, Cq_tmade_places, Cq_sizes_places, Cq_places_places, Cq_colours_places, Cq_moves_places, Cq_freed_places, Cq_wishing_places, Cq_theld_places, Cq_cmap_places, Cq_halfEnd_places, Cq_behind_places, Cq_hheld_places, Cq_named_places, Cq_wishes_places, Cq_pmade_places, Cq_keys_places, Cq_values_places, Cq_found_places, Cq_order_places, Cq_rcount_places]
  exact ⟨⟨a1, a2, a3, a4, a5, a6, a7, a8, a9, a10, a11, a12⟩, hT, hH, hP, h1, h2, h3⟩
theorem free5 (d : CSt) {x p z : Int32} (ht : fX4_isThing d x = 1) (ec : c_colours d (ix x) = 0) (ef : c_freed d (ix x) = 0) (ep : c_places d (ix x) = p) (ez : c_sizes d (ix x) = z) (h0 : 0 ≤ p.toInt) (h1 : 0 ≤ z.toInt) (h2 : p.toInt + z.toInt ≤ 200) :
    fX5_freeIfWhite d x = c_places_s (c_freed_s (c_cmap_s d (asgF (c_cmap d) p.toInt (p.toInt + z.toInt) (-1))) (upd (c_freed d) (ix x) 1)) (upd (c_places d) (ix x) (-1)) := by
  have e1 : fX4_placeOf d x = p := by
    unfold fX4_placeOf
    rw [ht, if_neg one_ne, ep]
  have e2 : fX4_sizeOf d x = z := by
    unfold fX4_sizeOf
    rw [ht, if_neg one_ne, ez]
  have e3 : fX4_isWhite d x = 1 := by
    unfold fX4_isWhite
    rw [ht, if_neg one_ne, if_pos ec]
  have e4 : fX4_isFreed d x = 0 := by
    unfold fX4_isFreed
    rw [ht, if_neg one_ne, if_pos ef]
  have e5 : ∀ d1 : CSt, fX4_isThing d1 x = 1 → fX4_free d1 x = c_places_s (c_freed_s d1 (upd (c_freed d1) (ix x) 1)) (upd (c_places d1) (ix x) (-1)) := by
    intro d1 g
    unfold fX4_free
    rw [g, if_neg one_ne]
    try simp only [Cq_manner_freed, Cq_fault_freed, Cq_under_freed, Cq_nextS_freed, Cq_rounds_freed, Cq_steps_freed, Cq_shaded_freed, Cq_moved_freed, Cq_tmade_freed, Cq_sizes_freed, Cq_places_freed, Cq_colours_freed, Cq_moves_freed, Cq_freed_freed, Cq_wishing_freed, Cq_theld_freed, Cq_cmap_freed, Cq_halfEnd_freed, Cq_behind_freed, Cq_hheld_freed, Cq_named_freed, Cq_wishes_freed, Cq_pmade_freed, Cq_keys_freed, Cq_values_freed, Cq_found_freed, Cq_order_freed, Cq_rcount_freed]
  unfold fX5_freeIfWhite
  rw [e3, if_neg one_ne, e4, if_pos rfl, e1, e2, assign_eq d (-1) h0 h1 h2, e5 _ (by rw [thing_tm (c := d) (by simp only [Cq_manner_cmap, Cq_fault_cmap, Cq_under_cmap, Cq_nextS_cmap, Cq_rounds_cmap, Cq_steps_cmap, Cq_shaded_cmap, Cq_moved_cmap, Cq_tmade_cmap, Cq_sizes_cmap, Cq_places_cmap, Cq_colours_cmap, Cq_moves_cmap, Cq_freed_cmap, Cq_wishing_cmap, Cq_theld_cmap, Cq_cmap_cmap, Cq_halfEnd_cmap, Cq_behind_cmap, Cq_hheld_cmap, Cq_named_cmap, Cq_wishes_cmap, Cq_pmade_cmap, Cq_keys_cmap, Cq_values_cmap, Cq_found_cmap, Cq_order_cmap, Cq_rcount_cmap])]; exact ht)]
  simp only [Cq_manner_cmap, Cq_fault_cmap, Cq_under_cmap, Cq_nextS_cmap, Cq_rounds_cmap, Cq_steps_cmap, Cq_shaded_cmap, Cq_moved_cmap, Cq_tmade_cmap, Cq_sizes_cmap, Cq_places_cmap, Cq_colours_cmap, Cq_moves_cmap, Cq_freed_cmap, Cq_wishing_cmap, Cq_theld_cmap, Cq_cmap_cmap, Cq_halfEnd_cmap, Cq_behind_cmap, Cq_hheld_cmap, Cq_named_cmap, Cq_wishes_cmap, Cq_pmade_cmap, Cq_keys_cmap, Cq_values_cmap, Cq_found_cmap, Cq_order_cmap, Cq_rcount_cmap]
theorem free0 (d : CSt) {x : Int32} (ht : fX4_isThing d x = 1) (e : ¬ (c_colours d (ix x) = 0 ∧ c_freed d (ix x) = 0)) : fX5_freeIfWhite d x = d := by
  unfold fX5_freeIfWhite fX4_isWhite fX4_isFreed
  rw [ht, if_neg one_ne, if_neg one_ne]
  by_cases c1 : c_colours d (ix x) = 0
  · rw [if_pos c1, if_neg one_ne]
    by_cases c2 : c_freed d (ix x) = 0
    · exact absurd ⟨c1, c2⟩ e
    · rw [if_neg c2, if_neg one_ne]
  · rw [if_neg c1, if_pos rfl]
theorem freeR_1 {x : Int32} (h1 : r_colour σ (ix x) = 0) (h2 : r_isFreed σ (ix x) = 0) : freeR σ x = fX6_frees σ x := by
  unfold freeR
  rw [q_rwhite, if_pos h1, if_neg one_ne, if_pos h2]
theorem freeR_0 {x : Int32} (h : ¬ (r_colour σ (ix x) = 0 ∧ r_isFreed σ (ix x) = 0)) : freeR σ x = σ := by
  unfold freeR
  rw [q_rwhite]
  by_cases c1 : r_colour σ (ix x) = 0
  · rw [if_pos c1, if_neg one_ne, if_neg (fun z => h ⟨c1, z⟩)]
  · rw [if_neg c1, if_pos rfl]
end G
