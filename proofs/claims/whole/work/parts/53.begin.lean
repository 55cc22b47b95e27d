/-! PURE, part 53: a round begins -/
def wtF (fr col : Nat → Int32) (a b : Int) : Nat → Int32 := fun k => if a ≤ (k : Int) ∧ (k : Int) < b ∧ fr k = 0 then 0 else col k
theorem wtF_0 (fr col : Nat → Int32) (a : Int) : wtF fr col a (a + (0 : Nat)) = col := by
  funext k
  unfold wtF
  rw [if_neg (by omega)]
theorem wtF_s {fr col : Nat → Int32} {a : Int} {f k : Nat} (hk : (k : Int) = a) {v : Int32} (hv : v = if fr k = 0 then 0 else col k) : wtF fr (upd col k v) (a + 1) (a + 1 + f) = wtF fr col a (a + (f + 1 : Nat)) := by
  funext j
  unfold wtF
  by_cases e : j = k
  · subst e
    rw [if_neg (by omega), pk_us, hv]
    by_cases c1 : fr j = 0
    · rw [if_pos c1, if_pos ⟨by omega, by omega, c1⟩]
    · rw [if_neg c1, if_neg (fun z => c1 z.2.2)]
  · rw [pk_un e]
    by_cases c1 : a + 1 ≤ (j : Int) ∧ (j : Int) < a + 1 + f ∧ fr j = 0
    · rw [if_pos c1, if_pos ⟨by omega, by omega, c1.2.2⟩]
    · rw [if_neg c1, if_neg (fun z => c1 ⟨by omega, by omega, z.2.2⟩)]
theorem wh6 (f : Nat) : ∀ (y : Int32) (σ : RSt), 0 ≤ y.toInt → y.toInt + f ≤ 120 → fX6_begin_L27 f y σ = r_colour_s σ (wtF (r_isFreed σ) (r_colour σ) y.toInt (y.toInt + f)) := by
  induction f with
  | zero =>
    intro y σ h0 h1
    rw [wtF_0, colour_id]
    rfl
  | succ f ih =>
    intro y σ h0 h1
    have e1 := i32_1 (x := y) (B := 300) (by have q : (300 : Int32).toInt = 300 := rfl; omega)
    have ey := ix_nat h0
    have st : ∀ v, v = (if r_isFreed σ (ix y) = 0 then 0 else r_colour σ (ix y)) → fX6_begin_L27 f (y + 1) (r_colour_s σ (upd (r_colour σ) (ix y) v)) = r_colour_s σ (wtF (r_isFreed σ) (r_colour σ) y.toInt (y.toInt + (f + 1 : Nat))) := by
      intro v hv
      rw [ih (y + 1) _ (by omega) (by omega), Rp_isFreed_colour, Rp_colour_colour, colour_2, e1, wtF_s ey hv]
    unfold fX6_begin_L27
    by_cases c1 : r_isFreed σ (ix y) = 0
    · rw [if_pos c1]
      exact st 0 (by rw [if_pos c1])
    · rw [if_neg c1]
      exact st _ (by rw [if_neg c1])
theorem wh5 {n : Int32} (hn : n.toInt ≤ 120) (f : Nat) : ∀ (y : Int32) (c : CSt), c_tmade c = n → 0 ≤ y.toInt → y.toInt + f ≤ n.toInt → fX4_whitenAll_L2 f y c = c_colours_s c (wtF (c_freed c) (c_colours c) y.toInt (y.toInt + f)) := by
  induction f with
  | zero =>
    intro y c e h0 h1
    rw [wtF_0, colours_id]
    rfl
  | succ f ih =>
    intro y c e h0 h1
    have q120 := t120
    have q0 := t0
    have e1 := i32_1 (x := y) (B := 300) (by have q : (300 : Int32).toInt = 300 := rfl; omega)
    have ey := ix_nat h0
    have ht : fX4_isThing c y = 1 := by
      unfold fX4_isThing
      rw [e, if_neg (fun z => by have := i32_lt z; omega), if_neg (fun z => by have := i32_le z; omega), if_neg (fun z => by have := i32_le z; omega)]
    have ef : fX4_isFreed c y = if c_freed c (ix y) = 0 then 0 else 1 := by
      unfold fX4_isFreed
      rw [ht, if_neg one_ne]
    have ep : fX4_paint c y 0 = c_colours_s c (upd (c_colours c) (ix y) 0) := by
      unfold fX4_paint
      rw [ht, if_neg one_ne]
    unfold fX4_whitenAll_L2
    rw [ef, ep]
    by_cases c1 : c_freed c (ix y) = 0
    · rw [if_pos c1, if_pos rfl, ih (y + 1) _ (by rw [Cp_tmade_colours]; exact e) (by omega) (by omega), Cp_freed_colours, Cp_colours_colours, colours_2, e1, wtF_s ey (by rw [if_pos c1])]
    · have g := wtF_s (fr := c_freed c) (col := c_colours c) (f := f) ey (v := c_colours c (ix y)) (by rw [if_neg c1])
      rw [upd_self] at g
      rw [if_neg c1, if_neg one_ne, ih (y + 1) _ e (by omega) (by omega), e1, g]
-- shading doesn't look at the way
theorem J41_way (z w : Int32) (σ : RSt) : fX6_shade_J41 z (r_way_s σ w) = r_way_s (fX6_shade_J41 z σ) w := by
  unfold fX6_shade_J41
  rw [Rp_manner_way, Rp_place_way, Rp_half_way, Rp_top_way, Rp_many_way, Rp_moved_way, Rp_movedMany_way]
  by_cases c1 : r_manner σ = 3
  · rw [if_pos c1, if_pos c1, mv_way]
  · rw [if_neg c1, if_neg c1]
theorem shade_way (w : Int32) (σ : RSt) (x : Int32) : fX6_shade (r_way_s σ w) x = r_way_s (fX6_shade σ x) w := by
  unfold fX6_shade
  rw [Rp_colour_way, Rp_isFreed_way, Rp_shaded_way, sh_way, J41_way]
  by_cases c1 : x = -1
  · rw [if_pos c1, if_pos c1]
  · rw [if_neg c1, if_neg c1]
    by_cases c2 : r_colour σ (ix x) = 0
    · rw [if_pos c2, if_pos c2]
      by_cases c3 : r_isFreed σ (ix x) = 0
      · rw [if_pos c3, if_pos c3]
      · rw [if_neg c3, if_neg c3]
    · rw [if_neg c2, if_neg c2]
theorem sh2_way (w : Int32) (f : Nat) : ∀ (y : Int32) (σ : RSt), fX6_shadeHeld_L2 f y (r_way_s σ w) = r_way_s (fX6_shadeHeld_L2 f y σ) w := by
  induction f with
  | zero => intro y σ; rfl
  | succ f ih =>
    intro y σ
    unfold fX6_shadeHeld_L2
    rw [Rp_register_way, shade_way, ih]
theorem sh26_way (w : Int32) (f : Nat) : ∀ (y : Int32) (σ : RSt), fX6_shadeHeld_L26 f y (r_way_s σ w) = r_way_s (fX6_shadeHeld_L26 f y σ) w := by
  induction f with
  | zero => intro y σ; rfl
  | succ f ih =>
    intro y σ
    unfold fX6_shadeHeld_L26
    rw [Rp_slot_way, shade_way, ih]
theorem sh49_way (w : Int32) (f : Nat) : ∀ (y : Int32) (σ : RSt), fX6_shadeHeld_L49 f y (r_way_s σ w) = r_way_s (fX6_shadeHeld_L49 f y σ) w := by
  induction f with
  | zero => intro y σ; rfl
  | succ f ih =>
    intro y σ
    unfold fX6_shadeHeld_L49
    rw [Rp_wishAt_way, shade_way, ih]
theorem shadeHeld_way (w : Int32) (σ : RSt) : fX6_shadeHeld (r_way_s σ w) = r_way_s (fX6_shadeHeld σ) w := by
  unfold fX6_shadeHeld
  rw [sh2_way, sh26_way, Rp_wishes_way, sh49_way]
-- the start, on both sides
section G
variable {oo : Int32} {σ : RSt} {c : CSt}
theorem gt_wt {n : Int32} {many place colour freed wish moved field sizes places colours freedC wishing moves theld : Nat → Int32} (h : GT n many place colour freed wish moved field sizes places colours freedC wishing moves theld) (a b : Int) : GT n many place (wtF freed colour a b) freed wish moved field sizes places (wtF freedC colours a b) freedC wishing moves theld := by
  intro j hj
  obtain ⟨⟨b1, b2, b3, b4, b5, b6⟩, g2, g3, g4, g5⟩ := h j hj
  refine ⟨⟨b1, b2, ?_, b4, b5, b6⟩, g2, g3, fun z => ⟨(g4 z).1, ?_⟩, g5⟩
  · unfold wtF
    rw [b5, b3]
  · unfold wtF
    split
    · rfl
    · exact (g4 z).2
theorem g3_wt {n half half' top : Int32} {many place colour freed : Nat → Int32} (h : G3 n 0 half top many place colour freed) (ht : top.toInt ≤ 100) (eh : half'.toInt = 1 - half.toInt) : G3 n 1 half' 0 many place (wtF freed colour 0 n.toInt) freed := by
  obtain ⟨h1, h2, h3, h4⟩ := h
  have z0 := t0
  have wc : ∀ k : Nat, LV n freed k → wtF freed colour 0 n.toInt k = 0 := fun k hk => by
    unfold wtF
    rw [if_pos ⟨by omega, hk.1, hk.2⟩]
  have s1 : sumN (nwN many (wtF freed colour 0 n.toInt) freed) n.toInt.toNat = sumN (fun _ => 0) n.toInt.toNat := sumN_congr (fun k hk => by
    unfold nwN
    by_cases e : freed k = 0
    · rw [if_pos e, if_pos (wc k ⟨by omega, e⟩)]
    · rw [if_neg e])
  have s2 : ∀ m : Nat, (m : Int) ≤ n.toInt.toNat → sumN (whN many (wtF freed colour 0 n.toInt) freed) m = sumN (nwN many colour freed) m + sumN (whN many colour freed) m := by
    intro m
    induction m with
    | zero => intro _; rfl
    | succ m ih =>
      intro hm
      have := ih (by omega)
      simp only [sumN]
      rw [this]
      have : whN many (wtF freed colour 0 n.toInt) freed m = nwN many colour freed m + whN many colour freed m := by
        unfold whN nwN
        by_cases e : freed m = 0
        · rw [if_pos e, if_pos e, if_pos e, if_pos (wc m ⟨by omega, e⟩)]
          by_cases e2 : colour m = 0
          · rw [if_pos e2, if_pos e2, Nat.zero_add]
          · rw [if_neg e2, if_neg e2, Nat.add_zero]
        · rw [if_neg e, if_neg e, if_neg e]
      omega
  refine ⟨Or.inr rfl, fun k hk => ?_, fun z => absurd z (by decide), fun _ => ⟨?_, ?_⟩⟩
  · refine Or.inr ⟨rfl, wc k hk, ?_⟩
    rcases h2 k hk with a | ⟨a, _⟩
    · unfold inHalf at a ⊢
      omega
    · exact absurd a (by decide)
  · rw [s1, sumN_0]
    omega
  · rw [s2 _ (by omega)]
    have := h3 rfl
    omega
theorem rel_bg0 (h : RelO oo σ c) (hm : ¬ r_manner σ = 3) (s1 s2 s3 w u v5 v6 : Int32) (f g : Nat → Int32) (hS2 : S0 (r_way_s (r_colour_s (r_freedMany_s (r_shaded_s (r_steps_s σ s1) s2) s3) f) w)) (es : v5 + 0 = s1) (e2 : v6 = s2) (eu : u = w) (hw : w = 1) (hq : 0 ≤ s2.toInt ∧ s2.toInt ≤ cntB f (r_things σ).toInt.toNat) (hT : GT (r_things σ) (r_many σ) (r_place σ) f (r_isFreed σ) (r_hasWish σ) (r_moved σ) (r_field σ) (c_sizes c) (c_places c) g (c_freed c) (c_wishing c) (c_moves c) (c_theld c)) : RelO 0 (r_way_s (r_colour_s (r_freedMany_s (r_shaded_s (r_steps_s σ s1) s2) s3) f) w) (c_colours_s (c_shaded_s (c_steps_s (c_under_s c u) v5) v6) g) := by
  refine ⟨hS2, ?_⟩
  clear hS2
  obtain ⟨hS, ⟨a1, a2, a3, a4, a5, a6, a7, a8, a9, a10, a11, a12, a13⟩, _, hH, hP, hC1, hC2, _⟩ := h
  unfold GA rGT rGH rGP rGC
  unfold rGH at hH
  unfold rGP at hP
  simp only [Rp_manner_steps, Rp_fault_steps, Rp_things_steps, Rp_many_steps, Rp_field_steps, Rp_place_steps, Rp_colour_steps, Rp_isFreed_steps, Rp_hasWish_steps, Rp_moved_steps, Rp_register_steps, Rp_slot_steps, Rp_wishes_steps, Rp_wishAt_steps, Rp_weakAt_steps, Rp_pairs_steps, Rp_key_steps, Rp_value_steps, Rp_isPair_steps, Rp_half_steps, Rp_top_steps, Rp_way_steps, Rp_next_steps, Rp_freedMany_steps, Rp_rounds_steps, Rp_steps_steps, Rp_shaded_steps, Rp_movedMany_steps, Rp_isReached_steps, Rp_more_steps, Rp_manner_shaded, Rp_fault_shaded, Rp_things_shaded, Rp_many_shaded, Rp_field_shaded, Rp_place_shaded, Rp_colour_shaded, Rp_isFreed_shaded, Rp_hasWish_shaded, Rp_moved_shaded, Rp_register_shaded, Rp_slot_shaded, Rp_wishes_shaded, Rp_wishAt_shaded, Rp_weakAt_shaded, Rp_pairs_shaded, Rp_key_shaded, Rp_value_shaded, Rp_isPair_shaded, Rp_half_shaded, Rp_top_shaded, Rp_way_shaded, Rp_next_shaded, Rp_freedMany_shaded, Rp_rounds_shaded, Rp_steps_shaded, Rp_shaded_shaded, Rp_movedMany_shaded, Rp_isReached_shaded, Rp_more_shaded, Rp_manner_freedMany, Rp_fault_freedMany, Rp_things_freedMany, Rp_many_freedMany, Rp_field_freedMany, Rp_place_freedMany, Rp_colour_freedMany, Rp_isFreed_freedMany, Rp_hasWish_freedMany, Rp_moved_freedMany, Rp_register_freedMany, Rp_slot_freedMany, Rp_wishes_freedMany, Rp_wishAt_freedMany, Rp_weakAt_freedMany, Rp_pairs_freedMany, Rp_key_freedMany, Rp_value_freedMany, Rp_isPair_freedMany, Rp_half_freedMany, Rp_top_freedMany, Rp_way_freedMany, Rp_next_freedMany, Rp_freedMany_freedMany, Rp_rounds_freedMany, Rp_steps_freedMany, Rp_shaded_freedMany, Rp_movedMany_freedMany, Rp_isReached_freedMany, Rp_more_freedMany, Rp_manner_colour, Rp_fault_colour, Rp_things_colour, Rp_many_colour, Rp_field_colour, Rp_place_colour, Rp_colour_colour, Rp_isFreed_colour, Rp_hasWish_colour, Rp_moved_colour, Rp_register_colour, Rp_slot_colour, Rp_wishes_colour, Rp_wishAt_colour, Rp_weakAt_colour, Rp_pairs_colour, Rp_key_colour, Rp_value_colour, Rp_isPair_colour, Rp_half_colour, Rp_top_colour, Rp_way_colour, Rp_next_colour, Rp_freedMany_colour, Rp_rounds_colour, Rp_steps_colour, Rp_shaded_colour, Rp_movedMany_colour, Rp_isReached_colour, Rp_more_colour, Rp_manner_way, Rp_fault_way, Rp_things_way, Rp_many_way, Rp_field_way, Rp_place_way, Rp_colour_way, Rp_isFreed_way, Rp_hasWish_way, Rp_moved_way, Rp_register_way, Rp_slot_way, Rp_wishes_way, Rp_wishAt_way, Rp_weakAt_way, Rp_pairs_way, Rp_key_way, Rp_value_way, Rp_isPair_way, Rp_half_way, Rp_top_way, Rp_way_way, Rp_next_way, Rp_freedMany_way, Rp_rounds_way, Rp_steps_way, Rp_shaded_way, Rp_movedMany_way, Rp_isReached_way, Rp_more_way, Cp_manner_under, Cp_fault_under, Cp_under_under, Cp_nextS_under, Cp_rounds_under, Cp_steps_under, Cp_shaded_under, Cp_moved_under, Cp_tmade_under, Cp_sizes_under, Cp_places_under, Cp_colours_under, Cp_moves_under, Cp_freed_under, Cp_wishing_under, Cp_theld_under, Cp_cmap_under, Cp_halfEnd_under, Cp_behind_under, Cp_hheld_under, Cp_named_under, Cp_wishes_under, Cp_pmade_under, Cp_keys_under, Cp_values_under, Cp_found_under, Cp_order_under, Cp_rcount_under, Cp_manner_steps, Cp_fault_steps, Cp_under_steps, Cp_nextS_steps, Cp_rounds_steps, Cp_steps_steps, Cp_shaded_steps, Cp_moved_steps, Cp_tmade_steps, Cp_sizes_steps, Cp_places_steps, Cp_colours_steps, Cp_moves_steps, Cp_freed_steps, Cp_wishing_steps, Cp_theld_steps, Cp_cmap_steps, Cp_halfEnd_steps, Cp_behind_steps, Cp_hheld_steps, Cp_named_steps, Cp_wishes_steps, Cp_pmade_steps, Cp_keys_steps, Cp_values_steps, Cp_found_steps, Cp_order_steps, Cp_rcount_steps, Cp_manner_shaded, Cp_fault_shaded, Cp_under_shaded, Cp_nextS_shaded, Cp_rounds_shaded, Cp_steps_shaded, Cp_shaded_shaded, Cp_moved_shaded, Cp_tmade_shaded, Cp_sizes_shaded, Cp_places_shaded, Cp_colours_shaded, Cp_moves_shaded, Cp_freed_shaded, Cp_wishing_shaded, Cp_theld_shaded, Cp_cmap_shaded, Cp_halfEnd_shaded, Cp_behind_shaded, Cp_hheld_shaded, Cp_named_shaded, Cp_wishes_shaded, Cp_pmade_shaded, Cp_keys_shaded, Cp_values_shaded, Cp_found_shaded, Cp_order_shaded, Cp_rcount_shaded, Cp_manner_colours, Cp_fault_colours, Cp_under_colours, Cp_nextS_colours, Cp_rounds_colours, Cp_steps_colours, Cp_shaded_colours, Cp_moved_colours, Cp_tmade_colours, Cp_sizes_colours, Cp_places_colours, Cp_colours_colours, Cp_moves_colours, Cp_freed_colours, Cp_wishing_colours, Cp_theld_colours, Cp_cmap_colours, Cp_halfEnd_colours, Cp_behind_colours, Cp_hheld_colours, Cp_named_colours, Cp_wishes_colours, Cp_pmade_colours, Cp_keys_colours, Cp_values_colours, Cp_found_colours, Cp_order_colours, Cp_rcount_colours]
  exact ⟨⟨a1, a2, eu, a4, es, e2, a7, a8, a9, a10, fun z => absurd (hw.symm.trans z) (by decide), Or.inr (Or.inl hw), hq⟩, hT, hH, hP, hC1, hC2, fun z => absurd z hm⟩
theorem rel_bg3 (h : RelO oo σ c) (s1 s2 s3 w u v5 v6 hf tp be he : Int32) (f g : Nat → Int32) (hS2 : S0 (r_way_s (r_top_s (r_half_s (r_colour_s (r_freedMany_s (r_shaded_s (r_steps_s σ s1) s2) s3) f) hf) tp) w)) (es : v5 + 0 = s1) (e2 : v6 = s2) (eu : u = w) (hw : w = 1) (hq : 0 ≤ s2.toInt ∧ s2.toInt ≤ cntB f (r_things σ).toInt.toNat) (hT : GT (r_things σ) (r_many σ) (r_place σ) f (r_isFreed σ) (r_hasWish σ) (r_moved σ) (r_field σ) (c_sizes c) (c_places c) g (c_freed c) (c_wishing c) (c_moves c) (c_theld c)) (hG : GS hf tp he be) (h3 : G3 (r_things σ) w hf tp (r_many σ) (r_place σ) f (r_isFreed σ)) : RelO 0 (r_way_s (r_top_s (r_half_s (r_colour_s (r_freedMany_s (r_shaded_s (r_steps_s σ s1) s2) s3) f) hf) tp) w) (c_halfEnd_s (c_behind_s (c_colours_s (c_shaded_s (c_steps_s (c_under_s c u) v5) v6) g) be) he) := by
  refine ⟨hS2, ?_⟩
  clear hS2
  obtain ⟨hS, ⟨a1, a2, a3, a4, a5, a6, a7, a8, a9, a10, a11, a12, a13⟩, _, hH, hP, hC1, hC2, _⟩ := h
  unfold GA rGT rGH rGP rGC
  unfold rGH at hH
  unfold rGP at hP
  simp only [Rp_manner_steps, Rp_fault_steps, Rp_things_steps, Rp_many_steps, Rp_field_steps, Rp_place_steps, Rp_colour_steps, Rp_isFreed_steps, Rp_hasWish_steps, Rp_moved_steps, Rp_register_steps, Rp_slot_steps, Rp_wishes_steps, Rp_wishAt_steps, Rp_weakAt_steps, Rp_pairs_steps, Rp_key_steps, Rp_value_steps, Rp_isPair_steps, Rp_half_steps, Rp_top_steps, Rp_way_steps, Rp_next_steps, Rp_freedMany_steps, Rp_rounds_steps, Rp_steps_steps, Rp_shaded_steps, Rp_movedMany_steps, Rp_isReached_steps, Rp_more_steps, Rp_manner_shaded, Rp_fault_shaded, Rp_things_shaded, Rp_many_shaded, Rp_field_shaded, Rp_place_shaded, Rp_colour_shaded, Rp_isFreed_shaded, Rp_hasWish_shaded, Rp_moved_shaded, Rp_register_shaded, Rp_slot_shaded, Rp_wishes_shaded, Rp_wishAt_shaded, Rp_weakAt_shaded, Rp_pairs_shaded, Rp_key_shaded, Rp_value_shaded, Rp_isPair_shaded, Rp_half_shaded, Rp_top_shaded, Rp_way_shaded, Rp_next_shaded, Rp_freedMany_shaded, Rp_rounds_shaded, Rp_steps_shaded, Rp_shaded_shaded, Rp_movedMany_shaded, Rp_isReached_shaded, Rp_more_shaded, Rp_manner_freedMany, Rp_fault_freedMany, Rp_things_freedMany, Rp_many_freedMany, Rp_field_freedMany, Rp_place_freedMany, Rp_colour_freedMany, Rp_isFreed_freedMany, Rp_hasWish_freedMany, Rp_moved_freedMany, Rp_register_freedMany, Rp_slot_freedMany, Rp_wishes_freedMany, Rp_wishAt_freedMany, Rp_weakAt_freedMany, Rp_pairs_freedMany, Rp_key_freedMany, Rp_value_freedMany, Rp_isPair_freedMany, Rp_half_freedMany, Rp_top_freedMany, Rp_way_freedMany, Rp_next_freedMany, Rp_freedMany_freedMany, Rp_rounds_freedMany, Rp_steps_freedMany, Rp_shaded_freedMany, Rp_movedMany_freedMany, Rp_isReached_freedMany, Rp_more_freedMany, Rp_manner_colour, Rp_fault_colour, Rp_things_colour, Rp_many_colour, Rp_field_colour, Rp_place_colour, Rp_colour_colour, Rp_isFreed_colour, Rp_hasWish_colour, Rp_moved_colour, Rp_register_colour, Rp_slot_colour, Rp_wishes_colour, Rp_wishAt_colour, Rp_weakAt_colour, Rp_pairs_colour, Rp_key_colour, Rp_value_colour, Rp_isPair_colour, Rp_half_colour, Rp_top_colour, Rp_way_colour, Rp_next_colour, Rp_freedMany_colour, Rp_rounds_colour, Rp_steps_colour, Rp_shaded_colour, Rp_movedMany_colour, Rp_isReached_colour, Rp_more_colour, Rp_manner_way, Rp_fault_way, Rp_things_way, Rp_many_way, Rp_field_way, Rp_place_way, Rp_colour_way, Rp_isFreed_way, Rp_hasWish_way, Rp_moved_way, Rp_register_way, Rp_slot_way, Rp_wishes_way, Rp_wishAt_way, Rp_weakAt_way, Rp_pairs_way, Rp_key_way, Rp_value_way, Rp_isPair_way, Rp_half_way, Rp_top_way, Rp_way_way, Rp_next_way, Rp_freedMany_way, Rp_rounds_way, Rp_steps_way, Rp_shaded_way, Rp_movedMany_way, Rp_isReached_way, Rp_more_way, Rp_manner_half, Rp_fault_half, Rp_things_half, Rp_many_half, Rp_field_half, Rp_place_half, Rp_colour_half, Rp_isFreed_half, Rp_hasWish_half, Rp_moved_half, Rp_register_half, Rp_slot_half, Rp_wishes_half, Rp_wishAt_half, Rp_weakAt_half, Rp_pairs_half, Rp_key_half, Rp_value_half, Rp_isPair_half, Rp_half_half, Rp_top_half, Rp_way_half, Rp_next_half, Rp_freedMany_half, Rp_rounds_half, Rp_steps_half, Rp_shaded_half, Rp_movedMany_half, Rp_isReached_half, Rp_more_half, Rp_manner_top, Rp_fault_top, Rp_things_top, Rp_many_top, Rp_field_top, Rp_place_top, Rp_colour_top, Rp_isFreed_top, Rp_hasWish_top, Rp_moved_top, Rp_register_top, Rp_slot_top, Rp_wishes_top, Rp_wishAt_top, Rp_weakAt_top, Rp_pairs_top, Rp_key_top, Rp_value_top, Rp_isPair_top, Rp_half_top, Rp_top_top, Rp_way_top, Rp_next_top, Rp_freedMany_top, Rp_rounds_top, Rp_steps_top, Rp_shaded_top, Rp_movedMany_top, Rp_isReached_top, Rp_more_top, Cp_manner_under, Cp_fault_under, Cp_under_under, Cp_nextS_under, Cp_rounds_under, Cp_steps_under, Cp_shaded_under, Cp_moved_under, Cp_tmade_under, Cp_sizes_under, Cp_places_under, Cp_colours_under, Cp_moves_under, Cp_freed_under, Cp_wishing_under, Cp_theld_under, Cp_cmap_under, Cp_halfEnd_under, Cp_behind_under, Cp_hheld_under, Cp_named_under, Cp_wishes_under, Cp_pmade_under, Cp_keys_under, Cp_values_under, Cp_found_under, Cp_order_under, Cp_rcount_under, Cp_manner_steps, Cp_fault_steps, Cp_under_steps, Cp_nextS_steps, Cp_rounds_steps, Cp_steps_steps, Cp_shaded_steps, Cp_moved_steps, Cp_tmade_steps, Cp_sizes_steps, Cp_places_steps, Cp_colours_steps, Cp_moves_steps, Cp_freed_steps, Cp_wishing_steps, Cp_theld_steps, Cp_cmap_steps, Cp_halfEnd_steps, Cp_behind_steps, Cp_hheld_steps, Cp_named_steps, Cp_wishes_steps, Cp_pmade_steps, Cp_keys_steps, Cp_values_steps, Cp_found_steps, Cp_order_steps, Cp_rcount_steps, Cp_manner_shaded, Cp_fault_shaded, Cp_under_shaded, Cp_nextS_shaded, Cp_rounds_shaded, Cp_steps_shaded, Cp_shaded_shaded, Cp_moved_shaded, Cp_tmade_shaded, Cp_sizes_shaded, Cp_places_shaded, Cp_colours_shaded, Cp_moves_shaded, Cp_freed_shaded, Cp_wishing_shaded, Cp_theld_shaded, Cp_cmap_shaded, Cp_halfEnd_shaded, Cp_behind_shaded, Cp_hheld_shaded, Cp_named_shaded, Cp_wishes_shaded, Cp_pmade_shaded, Cp_keys_shaded, Cp_values_shaded, Cp_found_shaded, Cp_order_shaded, Cp_rcount_shaded, Cp_manner_colours, Cp_fault_colours, Cp_under_colours, Cp_nextS_colours, Cp_rounds_colours, Cp_steps_colours, Cp_shaded_colours, Cp_moved_colours, Cp_tmade_colours, Cp_sizes_colours, Cp_places_colours, Cp_colours_colours, Cp_moves_colours, Cp_freed_colours, Cp_wishing_colours, Cp_theld_colours, Cp_cmap_colours, Cp_halfEnd_colours, Cp_behind_colours, Cp_hheld_colours, Cp_named_colours, Cp_wishes_colours, Cp_pmade_colours, Cp_keys_colours, Cp_values_colours, Cp_found_colours, Cp_order_colours, Cp_rcount_colours, Cp_manner_behind, Cp_fault_behind, Cp_under_behind, Cp_nextS_behind, Cp_rounds_behind, Cp_steps_behind, Cp_shaded_behind, Cp_moved_behind, Cp_tmade_behind, Cp_sizes_behind, Cp_places_behind, Cp_colours_behind, Cp_moves_behind, Cp_freed_behind, Cp_wishing_behind, Cp_theld_behind, Cp_cmap_behind, Cp_halfEnd_behind, Cp_behind_behind, Cp_hheld_behind, Cp_named_behind, Cp_wishes_behind, Cp_pmade_behind, Cp_keys_behind, Cp_values_behind, Cp_found_behind, Cp_order_behind, Cp_rcount_behind, Cp_manner_halfEnd, Cp_fault_halfEnd, Cp_under_halfEnd, Cp_nextS_halfEnd, Cp_rounds_halfEnd, Cp_steps_halfEnd, Cp_shaded_halfEnd, Cp_moved_halfEnd, Cp_tmade_halfEnd, Cp_sizes_halfEnd, Cp_places_halfEnd, Cp_colours_halfEnd, Cp_moves_halfEnd, Cp_freed_halfEnd, Cp_wishing_halfEnd, Cp_theld_halfEnd, Cp_cmap_halfEnd, Cp_halfEnd_halfEnd, Cp_behind_halfEnd, Cp_hheld_halfEnd, Cp_named_halfEnd, Cp_wishes_halfEnd, Cp_pmade_halfEnd, Cp_keys_halfEnd, Cp_values_halfEnd, Cp_found_halfEnd, Cp_order_halfEnd, Cp_rcount_halfEnd]
  exact ⟨⟨a1, a2, eu, a4, es, e2, a7, a8, a9, a10, fun z => absurd (hw.symm.trans z) (by decide), Or.inr (Or.inl hw), hq⟩, hT, hH, hP, hC1, hG, fun _ => h3⟩
theorem q00 (n : Nat) : 0 ≤ (0 : Int32).toInt ∧ (0 : Int32).toInt ≤ n := by
  have z0 := t0
  omega
theorem rel_beg0 (h : RelO oo σ c) (hm : ¬ r_manner σ = 3) (f g : Nat → Int32) (hT : GT (r_things σ) (r_many σ) (r_place σ) f (r_isFreed σ) (r_hasWish σ) (r_moved σ) (r_field σ) (c_sizes c) (c_places c) g (c_freed c) (c_wishing c) (c_moves c) (c_theld c)) : RelO 0 (r_way_s (r_colour_s (r_freedMany_s (r_shaded_s (r_steps_s σ 0) 0) 0) f) 1) (c_colours_s (c_shaded_s (c_steps_s (c_under_s c 1) 0) 0) g) := by
  have hS2 : S0 (r_way_s (r_colour_s (r_freedMany_s (r_shaded_s (r_steps_s σ 0) 0) 0) f) 1) := s0_wy (s0_sa (sa_colour _ _) (s0_sa (sa_freedMany _ _) (s0_sa (sa_shaded _ _) (s0_sa (sa_steps _ _) h.1)))) 1 (Or.inr (Or.inl rfl))
  exact rel_bg0 h hm 0 0 0 1 1 0 0 f g hS2 (by decide) rfl rfl rfl (q00 _) hT
theorem rel_beg3 (h : RelO oo σ c) (f g : Nat → Int32) (hf be he : Int32) (hT : GT (r_things σ) (r_many σ) (r_place σ) f (r_isFreed σ) (r_hasWish σ) (r_moved σ) (r_field σ) (c_sizes c) (c_places c) g (c_freed c) (c_wishing c) (c_moves c) (c_theld c)) (hG : GS hf 0 he be) (h3 : G3 (r_things σ) 1 hf 0 (r_many σ) (r_place σ) f (r_isFreed σ)) : RelO 0 (r_way_s (r_top_s (r_half_s (r_colour_s (r_freedMany_s (r_shaded_s (r_steps_s σ 0) 0) 0) f) hf) 0) 1) (c_halfEnd_s (c_behind_s (c_colours_s (c_shaded_s (c_steps_s (c_under_s c 1) 0) 0) g) be) he) := by
  have hS2 : S0 (r_way_s (r_top_s (r_half_s (r_colour_s (r_freedMany_s (r_shaded_s (r_steps_s σ 0) 0) 0) f) hf) 0) 1) := s0_wy (s0_sa (sa_top _ _) (s0_sa (sa_half _ _) (s0_sa (sa_colour _ _) (s0_sa (sa_freedMany _ _) (s0_sa (sa_shaded _ _) (s0_sa (sa_steps _ _) h.1)))))) 1 (Or.inr (Or.inl rfl))
  exact rel_bg3 h 0 0 0 1 1 0 0 hf 0 be he f g hS2 (by decide) rfl rfl rfl (q00 _) hT hG h3
theorem ch_gs {half top halfEnd behind : Int32} (h : GS half top halfEnd behind) : (1 - half).toInt = 1 - half.toInt ∧ ((halfEnd = 100 ∧ GS (1 - half) 0 (100 + 100) 100) ∨ (¬ halfEnd = 100 ∧ GS (1 - half) 0 (0 + 100) 0)) := by
  obtain ⟨h1, h2, h3, h4⟩ := h
  have z0 := t0
  rcases h1 with rfl | rfl
  · refine ⟨by decide, Or.inl ⟨by rw [h3]; decide, Or.inr (by decide), by omega, by decide, by decide⟩⟩
  · refine ⟨by decide, Or.inr ⟨by rw [h3]; decide, Or.inl (by decide), by omega, by decide, by decide⟩⟩
-- what marking keeps of what is freed
def KF (σ τ : RSt) : Prop := r_freedMany τ = r_freedMany σ ∧ r_isFreed τ = r_isFreed σ ∧ r_things τ = r_things σ ∧ r_manner τ = r_manner σ
theorem kf_rf (σ : RSt) : KF σ σ := ⟨rfl, rfl, rfl, rfl⟩
theorem kf_tr {σ τ υ : RSt} (h : KF σ τ) (g : KF τ υ) : KF σ υ := ⟨g.1.trans h.1, g.2.1.trans h.2.1, g.2.2.1.trans h.2.2.1, g.2.2.2.trans h.2.2.2⟩
theorem kf_J41 (z : Int32) (σ : RSt) : KF σ (fX6_shade_J41 z σ) := by
  unfold fX6_shade_J41
  split <;> exact ⟨rfl, rfl, rfl, rfl⟩
theorem kf_cs (σ : RSt) (f : Nat → Int32) (v : Int32) : KF σ (r_shaded_s (r_colour_s σ f) v) := ⟨rfl, rfl, rfl, rfl⟩
theorem kf_shade (σ : RSt) (x : Int32) : KF σ (fX6_shade σ x) := by
  unfold fX6_shade
  split
  · exact kf_rf σ
  · split
    · split
      · exact kf_tr (kf_cs σ _ _) (kf_J41 _ _)
      · exact kf_rf σ
    · exact kf_rf σ
theorem kf_L2 (f : Nat) : ∀ (y : Int32) (σ : RSt), KF σ (fX6_shadeHeld_L2 f y σ) := by
  induction f with
  | zero => intro y σ; exact kf_rf σ
  | succ f ih => intro y σ; exact kf_tr (kf_shade σ _) (ih _ _)
theorem kf_L26 (f : Nat) : ∀ (y : Int32) (σ : RSt), KF σ (fX6_shadeHeld_L26 f y σ) := by
  induction f with
  | zero => intro y σ; exact kf_rf σ
  | succ f ih => intro y σ; exact kf_tr (kf_shade σ _) (ih _ _)
theorem kf_L49 (f : Nat) : ∀ (y : Int32) (σ : RSt), KF σ (fX6_shadeHeld_L49 f y σ) := by
  induction f with
  | zero => intro y σ; exact kf_rf σ
  | succ f ih => intro y σ; exact kf_tr (kf_shade σ _) (ih _ _)
theorem kf_shadeHeld (σ : RSt) : KF σ (fX6_shadeHeld σ) := kf_tr (kf_L2 _ _ _) (kf_tr (kf_L26 _ _ _) (kf_L49 _ _ _))
theorem kf_L12 (z : Int32) (f : Nat) : ∀ (y : Int32) (σ : RSt), KF σ (fX6_marks_L12 z f y σ) := by
  induction f with
  | zero => intro y σ; exact kf_rf σ
  | succ f ih => intro y σ; exact kf_tr (kf_shade σ _) (ih _ _)
theorem kf_ws (σ : RSt) (a b : Nat → Int32) (w : Int32) : KF σ (r_wishes_s (r_wishAt_s (r_hasWish_s σ a) b) w) := ⟨rfl, rfl, rfl, rfl⟩
theorem kf_wishes (σ : RSt) (x : Int32) : KF σ (fX6_wishes σ x) := by
  unfold fX6_wishes
  exact kf_tr (kf_ws σ _ _ _) (kf_shade _ _)
theorem kf_J128 (z : Int32) (σ : RSt) : KF σ (fX6_findsMore_J128 z σ).2 := by
  unfold fX6_findsMore_J128
  split <;> exact kf_rf σ
theorem kf_L83 (z : Int32) (f : Nat) : ∀ (y : Int32) (σ : RSt), KF σ (fX6_findsMore_L83 z f y σ).2 := by
  induction f with
  | zero => intro y σ; exact kf_J128 z σ
  | succ f ih =>
    intro y σ
    unfold fX6_findsMore_L83
    split
    · exact ih _ _
    · split
      · exact ih _ _
      · split
        · exact kf_tr (kf_wishes σ y) (ih _ _)
        · exact ih _ _
theorem kf_J73 (z : Int32) (σ : RSt) : KF σ (fX6_findsMore_J73 z σ).2 := by
  unfold fX6_findsMore_J73
  split
  · exact kf_L83 _ _ _ _
  · exact kf_J128 z σ
theorem kf_L27 (z : Int32) (f : Nat) : ∀ (y : Int32) (σ : RSt), KF σ (fX6_findsMore_L27 z f y σ).2 := by
  induction f with
  | zero => intro y σ; exact kf_J73 z σ
  | succ f ih =>
    intro y σ
    unfold fX6_findsMore_L27
    split
    · exact ih _ _
    · split
      · exact kf_tr (kf_shade σ _) (ih _ _)
      · exact ih _ _
theorem kf_J17 (z : Int32) (σ : RSt) : KF σ (fX6_findsMore_J17 z σ).2 := by
  unfold fX6_findsMore_J17
  split
  · exact kf_L27 _ _ _ _
  · exact kf_J73 z σ
theorem kf_findsMore (σ : RSt) : KF σ (fX6_findsMore σ).2 := by
  unfold fX6_findsMore
  split
  · exact kf_tr (kf_shadeHeld σ) (kf_J17 _ _)
  · exact kf_J17 _ σ
theorem kf_wkS (σ : RSt) (v : Nat → Int32) : KF σ (r_weakAt_s σ v) := ⟨rfl, rfl, rfl, rfl⟩
theorem kf_ipS (σ : RSt) (v : Nat → Int32) : KF σ (r_isPair_s σ v) := ⟨rfl, rfl, rfl, rfl⟩
theorem kf_nw (σ : RSt) (v w : Int32) : KF σ (r_next_s (r_way_s σ v) w) := ⟨rfl, rfl, rfl, rfl⟩
theorem kf_co (σ : RSt) (f : Nat → Int32) : KF σ (r_colour_s σ f) := ⟨rfl, rfl, rfl, rfl⟩
theorem kf_st (σ : RSt) (v : Int32) : KF σ (r_steps_s σ v) := ⟨rfl, rfl, rfl, rfl⟩
theorem kf_nx (σ : RSt) (v : Int32) : KF σ (r_next_s σ v) := ⟨rfl, rfl, rfl, rfl⟩
theorem kf_over (σ : RSt) : KF σ (fX6_over σ) := ⟨rfl, rfl, rfl, rfl⟩
theorem kf_L61 (f : Nat) : ∀ (y : Int32) (σ : RSt), KF σ (fX6_marks_L61 f y σ) := by
  induction f with
  | zero => intro y σ; exact kf_rf σ
  | succ f ih =>
    intro y σ
    unfold fX6_marks_L61
    split
    · exact kf_tr (kf_wkS σ _) (ih _ _)
    · split <;> exact kf_tr (kf_wkS σ _) (ih _ _)
theorem kf_L114 (f : Nat) : ∀ (y : Int32) (σ : RSt), KF σ (fX6_marks_L114 f y σ) := by
  induction f with
  | zero => intro y σ; exact kf_rf σ
  | succ f ih =>
    intro y σ
    unfold fX6_marks_L114
    split
    · exact kf_tr (kf_ipS σ _) (ih _ _)
    · split <;> exact kf_tr (kf_ipS σ _) (ih _ _)
theorem kf_J161 {σ : RSt} (hm : ¬ r_manner σ = 3) : KF σ (fX6_marks_J161 σ) := by
  unfold fX6_marks_J161
  rw [if_neg hm]
  exact kf_nw σ 2 0
theorem kf_marks {σ : RSt} (hm : ¬ r_manner σ = 3) : KF σ (fX6_marks σ) := by
  unfold fX6_marks
  split
  · split
    · unfold fX6_marks_J112
      have k1 := kf_tr (kf_findsMore σ) (kf_tr (kf_L61 (((6 : Int32).toInt) - ((0 : Int32).toInt)).toNat 0 (fX6_findsMore σ).2) (kf_L114 (((r_pairs (fX6_marks_L61 (((6 : Int32).toInt) - ((0 : Int32).toInt)).toNat 0 (fX6_findsMore σ).2)).toInt) - ((0 : Int32).toInt)).toNat 0 _))
      exact kf_tr k1 (kf_J161 (by rw [k1.2.2.2]; exact hm))
    · exact kf_findsMore σ
  · exact kf_tr (kf_L12 _ _ _ σ) (kf_co _ _)
def FC (F0 : Int) (σ : RSt) : Prop := (r_freedMany σ).toInt = cntB (r_isFreed σ) (r_things σ).toInt.toNat - F0
theorem fc_kf {F0 : Int} {σ τ : RSt} (k : KF σ τ) (h : FC F0 σ) : FC F0 τ := by
  unfold FC
  rw [k.1, k.2.1, k.2.2.1]
  exact h
theorem fc_freeR {F0 : Int} (hF : 0 ≤ F0 ∧ F0 ≤ 120) {σ : RSt} (hS : S0 σ) {x : Int32} (hx : TH (r_things σ) x) (h : FC F0 σ) : FC F0 (freeR σ x) ∧ r_manner (freeR σ x) = r_manner σ ∧ r_things (freeR σ x) = r_things σ := by
  refine ⟨?_, (mn_freeR σ x).1, (sa_freeR σ x).1⟩
  by_cases e : r_colour σ (ix x) = 0 ∧ r_isFreed σ (ix x) = 0
  · rw [freeR_1 e.1 e.2, frees_eq]
    unfold FC at h ⊢
    rw [Rp_freedMany_freedMany, Rp_isFreed_freedMany, Rp_isFreed_place, Rp_isFreed_isFreed, Rp_things_freedMany, Rp_things_place, Rp_things_isFreed]
    have hl := th_lt hx
    rw [cntB_inc (by omega) e.2]
    have h1 := cntB_le (g := r_isFreed σ) (n := (r_things σ).toInt.toNat)
    have h2 := s0_th hS
    have h3 := hS.1.1
    have e1 := i32_1 (x := r_freedMany σ) (B := 300) (by have q : (300 : Int32).toInt = 300 := rfl; omega)
    omega
  · rw [freeR_0 e]
    exact h
theorem fc_step (h : RelO oo σ c) (hw : ¬ r_way σ = 0) (hm : ¬ r_manner σ = 3) {F0 : Int} (hF : 0 ≤ F0 ∧ F0 ≤ 120) (hc : FC F0 σ) : FC F0 (fX6_step σ) ∧ r_manner (fX6_step σ) = r_manner σ ∧ r_things (fX6_step σ) = r_things σ := by
  have hs := rel_st h
  have k0 := kf_st σ (r_steps σ + 1)
  have hm' : ¬ r_manner (r_steps_s σ (r_steps σ + 1)) = 3 := by rw [k0.2.2.2]; exact hm
  have hc' := fc_kf k0 hc
  unfold fX6_step
  by_cases c1 : r_way σ = 1
  · rw [if_pos c1]
    have k1 := kf_tr k0 (kf_marks hm')
    exact ⟨fc_kf k1 hc, k1.2.2.2, k1.2.2.1⟩
  · rw [if_neg c1]
    have w2 : r_way (r_steps_s σ (r_steps σ + 1)) = 2 := by
      rw [way_steps]
      rcases h.2.1.2.2.2.2.2.2.2.2.2.2.2.1 with e | e | e
      · exact absurd e hw
      · exact absurd e c1
      · exact e
    rcases sw_eq hs w2 with ⟨e1, _⟩ | ⟨m, q1, q2, e1, _⟩
    · rw [e1]
      have k1 := kf_tr k0 (kf_tr (kf_nx (r_steps_s σ (r_steps σ + 1)) (r_things (r_steps_s σ (r_steps σ + 1)))) (kf_over _))
      exact ⟨fc_kf k1 hc, k1.2.2.2, k1.2.2.1⟩
    · rw [e1]
      have g := fc_freeR hF hs.1 q1 hc'
      have k1 := kf_nx (freeR (r_steps_s σ (r_steps σ + 1)) m) (m + 1)
      exact ⟨fc_kf k1 g.1, k1.2.2.2.trans (g.2.1.trans k0.2.2.2), k1.2.2.1.trans (g.2.2.trans k0.2.2.1)⟩
/-- the state behind the start -/
theorem sim_start (h : RelO oo σ c) (hw : r_way σ = 0) : ∃ τ, fX6_begin σ = fX6_begin_J98 τ ∧ RelO 0 τ (fX5_startRound c) ∧ r_manner τ = r_manner σ ∧ r_way τ = 1 ∧ r_freedMany τ = 0 ∧ r_isFreed τ = r_isFreed σ ∧ r_things τ = r_things σ := by
  have z0 := t0
  have hn := h.1.1
  obtain ⟨B, eB⟩ : ∃ B, r_freedMany_s (r_shaded_s (r_steps_s σ 0) 0) 0 = B := ⟨_, rfl⟩
  obtain ⟨D, eD⟩ : ∃ D, c_shaded_s (c_steps_s (c_under_s c 1) 0) 0 = D := ⟨_, rfl⟩
  have b1 : r_things B = r_things σ := by rw [← eB, Rp_things_freedMany, Rp_things_shaded, Rp_things_steps]
  have b2 : r_isFreed B = r_isFreed σ := by rw [← eB, Rp_isFreed_freedMany, Rp_isFreed_shaded, Rp_isFreed_steps]
  have b3 : r_colour B = r_colour σ := by rw [← eB, Rp_colour_freedMany, Rp_colour_shaded, Rp_colour_steps]
  have b4 : r_manner B = r_manner σ := by rw [← eB, Rp_manner_freedMany, Rp_manner_shaded, Rp_manner_steps]
  have b5 : r_half B = r_half σ := by rw [← eB, Rp_half_freedMany, Rp_half_shaded, Rp_half_steps]
  have b6 : r_freedMany B = 0 := by rw [← eB, Rp_freedMany_freedMany]
  have d1 : c_tmade D = r_things σ := by rw [← eD, Cp_tmade_shaded, Cp_tmade_steps, Cp_tmade_under, en h]
  have d2 : c_freed D = c_freed c := by rw [← eD, Cp_freed_shaded, Cp_freed_steps, Cp_freed_under]
  have d3 : c_colours D = c_colours c := by rw [← eD, Cp_colours_shaded, Cp_colours_steps, Cp_colours_under]
  have d4 : c_manner D = r_manner σ := by rw [← eD, Cp_manner_shaded, Cp_manner_steps, Cp_manner_under, h.2.1.1]
  have d5 : c_halfEnd D = c_halfEnd c := by rw [← eD, Cp_halfEnd_shaded, Cp_halfEnd_steps, Cp_halfEnd_under]
  have en1 : (0 : Int32).toInt + (((r_things σ).toInt - (0 : Int32).toInt).toNat : Int) = (r_things σ).toInt := by omega
  have eV : fX6_begin_L27 ((r_things σ).toInt - (0 : Int32).toInt).toNat 0 B = r_colour_s B (wtF (r_isFreed σ) (r_colour σ) 0 (r_things σ).toInt) := by
    rw [wh6 _ 0 B (by omega) (by omega), en1, b2, b3, z0]
  have eW : fX4_whitenAll D = c_colours_s D (wtF (c_freed c) (c_colours c) 0 (r_things σ).toInt) := by
    unfold fX4_whitenAll
    rw [d1, wh5 hn.2 _ 0 D d1 (by omega) (by omega), en1, d2, d3, z0]
  have hT := gt_wt h.2.2.1 0 (r_things σ).toInt
  obtain ⟨hC1, hC2, hC3⟩ := h.2.2.2.2.2
  unfold fX6_begin fX5_startRound
  rw [if_pos hw, eB, eD, b1, eV, eW, Rp_manner_colour, Cp_manner_colours, b4, d4]
  by_cases hm : r_manner σ = 3
  · obtain ⟨i1, i2⟩ := ch_gs hC2
    have h3 := g3_wt (half' := 1 - r_half σ) (by have := hC3 hm; rw [hw] at this; exact this) hC2.2.1.2 i1
    rw [if_pos hm, if_pos hm]
    unfold fX6_begin_J89
    rw [← shadeHeld_way, Rp_half_colour, b5]
    have fin : ∀ be he, fX0_changeHalves (c_colours_s D (wtF (c_freed c) (c_colours c) 0 (r_things σ).toInt)) = c_halfEnd_s (c_behind_s (c_colours_s D (wtF (c_freed c) (c_colours c) 0 (r_things σ).toInt)) be) he → GS (1 - r_half σ) 0 he be → ∃ τ, fX6_begin_J98 (fX6_shadeHeld (r_way_s (r_top_s (r_half_s (r_colour_s B (wtF (r_isFreed σ) (r_colour σ) 0 (r_things σ).toInt)) (1 - r_half σ)) 0) 1)) = fX6_begin_J98 τ ∧ RelO 0 τ (fX5_shadeHeld (fX0_changeHalves (c_colours_s D (wtF (c_freed c) (c_colours c) 0 (r_things σ).toInt)))) ∧ r_manner τ = r_manner σ ∧ r_way τ = 1 ∧ r_freedMany τ = 0 ∧ r_isFreed τ = r_isFreed σ ∧ r_things τ = r_things σ := by
      intro be he e1 e2
      have rel := rel_beg3 h _ _ (1 - r_half σ) be he hT e2 h3
      rw [eB, eD, ← e1] at rel
      obtain ⟨s1, s2⟩ := sim_shadeHeld rel (fun _ => by rw [Rp_way_way])
      have k := kf_shadeHeld (r_way_s (r_top_s (r_half_s (r_colour_s B (wtF (r_isFreed σ) (r_colour σ) 0 (r_things σ).toInt)) (1 - r_half σ)) 0) 1)
      refine ⟨_, rfl, s1, ?_, ?_, ?_, ?_, ?_⟩
      · rw [k.2.2.2, Rp_manner_way, Rp_manner_top, Rp_manner_half, Rp_manner_colour, b4]
      · rw [s2.2.2.2.2.2.1, Rp_way_way]
      · rw [k.1, Rp_freedMany_way, Rp_freedMany_top, Rp_freedMany_half, Rp_freedMany_colour, b6]
      · rw [k.2.1, Rp_isFreed_way, Rp_isFreed_top, Rp_isFreed_half, Rp_isFreed_colour, b2]
      · rw [k.2.2.1, Rp_things_way, Rp_things_top, Rp_things_half, Rp_things_colour, b1]
    rcases i2 with ⟨j1, j2⟩ | ⟨j1, j2⟩
    · refine fin 100 (100 + 100) ?_ j2
      unfold fX0_changeHalves
      rw [Cp_halfEnd_colours, d5, if_pos j1]
    · refine fin 0 (0 + 100) ?_ j2
      unfold fX0_changeHalves
      rw [Cp_halfEnd_colours, d5, if_neg j1]
  · rw [if_neg hm, if_neg hm]
    unfold fX6_begin_J89
    rw [← shadeHeld_way]
    have rel := rel_beg0 h hm _ _ hT
    rw [eB, eD] at rel
    obtain ⟨s1, s2⟩ := sim_shadeHeld rel (fun _ => by rw [Rp_way_way])
    have k := kf_shadeHeld (r_way_s (r_colour_s B (wtF (r_isFreed σ) (r_colour σ) 0 (r_things σ).toInt)) 1)
    refine ⟨_, rfl, s1, ?_, ?_, ?_, ?_, ?_⟩
    · rw [k.2.2.2, Rp_manner_way, Rp_manner_colour, b4]
    · rw [s2.2.2.2.2.2.1, Rp_way_way]
    · rw [k.1, Rp_freedMany_way, Rp_freedMany_colour, b6]
    · rw [k.2.1, Rp_isFreed_way, Rp_isFreed_colour, b2]
    · rw [k.2.2.1, Rp_things_way, Rp_things_colour, b1]
-- all steps at once
theorem sim_all (z : Int32) {F0 : Int} (hF : 0 ≤ F0 ∧ F0 ≤ 120) (f : Nat) : ∀ (σ : RSt) (c : CSt), RelO oo σ c → ¬ r_manner σ = 3 → FC F0 σ → muR σ < f → ∃ τ d, fX6_begin_L105 f σ = (r_freedMany τ, τ) ∧ RelO oo τ d ∧ FC F0 τ ∧ r_things τ = r_things σ ∧ ∀ (g : Nat) (y : Int32), f ≤ g → (fX5_takeSteps_L2 z g y c).2 = d := by
  induction f with
  | zero => intro σ c h hm hc hf; exact absurd hf (Nat.not_lt_zero _)
  | succ f ih =>
    intro σ c h hm hc hf
    unfold fX6_begin_L105
    by_cases c0 : r_way σ = 0
    · rw [if_pos c0]
      refine ⟨σ, c, rfl, h, hc, rfl, fun g y hg => ?_⟩
      obtain ⟨g', rfl⟩ : ∃ g', g = g' + 1 := ⟨g - 1, by omega⟩
      unfold fX5_takeSteps_L2
      rw [wayS h, if_pos c0]
    · rw [if_neg c0]
      have s := sim_step h c0
      have k := fc_step h c0 hm hF hc
      have mu := mu_step h.1 c0
      obtain ⟨τ, d, a1, a2, a3, a5, a4⟩ := ih _ _ s (by rw [k.2.1]; exact hm) k.1 (by omega)
      refine ⟨τ, d, a1, a2, a3, a5.trans k.2.2, fun g y hg => ?_⟩
      obtain ⟨g', rfl⟩ : ∃ g', g = g' + 1 := ⟨g - 1, by omega⟩
      unfold fX5_takeSteps_L2
      rw [wayS h, if_neg c0, ← a4 g' (y + 1) (by omega)]
      by_cases c1 : r_way σ = 1
      · rw [if_pos c1, if_pos c1]
      · rw [if_neg c1, if_neg c1]
theorem cnf (h : RelO oo σ c) (f : Nat) : ∀ (y1 y2 : Int32), 0 ≤ y2.toInt → y2.toInt ≤ (r_things σ).toInt → ((r_things σ).toInt - y2.toInt).toNat = f → 0 ≤ y1.toInt → y1.toInt ≤ y2.toInt → (fX4_countNotFreed_L4 f y1 y2 c).toInt + (cntB (r_isFreed σ) (r_things σ).toInt.toNat : Int) = y1.toInt + (f : Int) + (cntB (r_isFreed σ) y2.toInt.toNat : Int) := by
  induction f with
  | zero =>
    intro y1 y2 h0 hn h1 h2 h3
    have e : y2.toInt.toNat = (r_things σ).toInt.toNat := by omega
    show y1.toInt + _ = _
    rw [e]
    omega
  | succ f ih =>
    intro y1 y2 h0 hn h1 h2 h3
    have hx : TH (r_things σ) y2 := ⟨h0, by omega⟩
    have h120 := s0_th h.1
    have e1 := i32_1 (x := y2) (B := 300) (by have q : (300 : Int32).toInt = 300 := rfl; omega)
    have e2 := i32_1 (x := y1) (B := 300) (by have q : (300 : Int32).toInt = 300 := rfl; omega)
    have e3 : (y2 + 1).toInt.toNat = y2.toInt.toNat + 1 := by omega
    have e4 : ix y2 = y2.toInt.toNat := by
      have := ix_nat h0
      omega
    have ec : cntB (r_isFreed σ) (y2 + 1).toInt.toNat = cntB (r_isFreed σ) y2.toInt.toNat + (if r_isFreed σ (ix y2) = 0 then 0 else 1) := by
      rw [e3, e4]
      rfl
    unfold fX4_countNotFreed_L4
    rw [q_freed h hx]
    by_cases c1 : r_isFreed σ (ix y2) = 0
    · rw [if_pos c1] at ec ⊢
      have g := ih (y1 + 1) (y2 + 1) (lp_nn h0 h1) (by omega) (lp_b h1) (by omega) (by omega)
      rw [ec] at g
      omega
    · rw [if_neg c1] at ec ⊢
      have g := ih y1 (y2 + 1) (lp_nn h0 h1) (by omega) (lp_b h1) (by omega) (by omega)
      rw [ec] at g
      omega
theorem cnf0 (h : RelO oo σ c) : (fX4_countNotFreed c).toInt + (cntB (r_isFreed σ) (r_things σ).toInt.toNat : Int) = (r_things σ).toInt := by
  have z0 := t0
  have hn := h.1.1
  unfold fX4_countNotFreed
  rw [en h]
  have g := cnf h _ 0 0 (by omega) (by omega) rfl (by omega) (by omega)
  have e : cntB (r_isFreed σ) (0 : Int32).toInt.toNat = 0 := rfl
  rw [e] at g
  omega
theorem cg (h : RelO oo σ c) (f : Nat) : ∀ (y1 y2 : Int32), 0 ≤ y2.toInt → ((r_things σ).toInt - y2.toInt).toNat = f → fX6_begin_L128 f y1 y2 σ = (fX4_countGray_L4 f y1 y2 c, σ) := by
  induction f with
  | zero => intro y1 y2 h1 h2; rfl
  | succ f ih =>
    intro y1 y2 h1 h2
    have hx : TH (r_things σ) y2 := ⟨h1, by omega⟩
    have t := q_gt h hx
    have go := fun z => ih z (y2 + 1) (lp_nn h1 h2) (lp_b h2)
    unfold fX6_begin_L128 fX4_countGray_L4
    rw [q_colour h hx]
    by_cases c1 : r_colour σ (ix y2) = 1
    · have hf : r_isFreed σ (ix y2) = 0 := by
        rcases t.2.1 with e | e
        · exact e
        · have := (t.2.2.2.1 e).2
          rw [c1] at this
          exact absurd this one_ne
      rw [if_pos c1, if_pos c1, if_pos hf]
      exact go _
    · rw [if_neg c1, if_neg c1, Int32.add_zero]
      exact go _
theorem sim_begin (hR : RelO 0 σ c) : (fX5_begin c).1 = (fX6_begin σ).1 ∧ RelO 0 ((fX6_begin σ).2) ((fX5_begin c).2) := by
  have z0 := t0
  unfold fX5_begin
  rw [wayS hR]
  by_cases hw : r_way σ = 0
  · obtain ⟨τ, e1, r, m1, m2, m3, m4, m5⟩ := sim_start hR hw
    rw [if_pos hw, e1]
    unfold fX6_begin_J98
    rw [r.2.1.1]
    by_cases hm : r_manner τ = 0
    · rw [if_pos hm, if_pos hm]
      have h1 := cntB_le (g := r_isFreed τ) (n := (r_things τ).toInt.toNat)
      have h2 := s0_th r.1
      have h3 := r.1.1.1
      have fc : FC (cntB (r_isFreed τ) (r_things τ).toInt.toNat : Int) τ := by
        unfold FC
        rw [m3, z0]
        omega
      obtain ⟨υ, d, a1, a2, a3, a5, a4⟩ := sim_all 1000000 ⟨by omega, by omega⟩ 1000 τ _ r (by rw [hm]; decide) fc (mu_lt τ)
      have e5 : (fX5_takeSteps (fX5_startRound c) 1000000).2 = d := by
        unfold fX5_takeSteps
        refine a4 _ 0 ?_
        have q : (1000000 : Int32).toInt = 1000000 := rfl
        omega
      rw [a1, e5]
      refine ⟨?_, a2⟩
      show fX4_countNotFreed (fX5_startRound c) - fX4_countNotFreed d = r_freedMany υ
      have g1 := cnf0 r
      have g2 := cnf0 a2
      have g3 := cntB_le (g := r_isFreed υ) (n := (r_things υ).toInt.toNat)
      unfold FC at a3
      rw [a5] at g2 g3 a3
      refine Int32.toInt_inj.mp ?_
      rw [Int32.toInt_sub, a3]
      have e := Int.bmod_eq_of_le (n := (fX4_countNotFreed (fX5_startRound c)).toInt - (fX4_countNotFreed d).toInt) (m := 2 ^ 32) (by omega) (by omega)
      omega
    · rw [if_neg hm, if_neg hm, cg r _ 0 0 (by omega) rfl]
      unfold fX4_countGray
      rw [en r]
      exact ⟨rfl, r⟩
  · unfold fX6_begin
    rw [if_neg hw, if_neg hw]
    exact ⟨rfl, hR⟩
end G
