/-! PURE, part 51: the loops of frees commute with the way; marking ends -/
section G
variable {oo : Int32} {σ : RSt} {c : CSt}
theorem frees_eq (σ : RSt) (x : Int32) : fX6_frees σ x = r_freedMany_s (r_place_s (r_isFreed_s σ (upd (r_isFreed σ) (ix x) 1)) (upd (r_place σ) (ix x) (-1))) (r_freedMany σ + 1) := rfl
theorem frees_c (σ : RSt) (x u n : Int32) : fX6_frees (r_next_s (r_way_s σ u) n) x = r_next_s (r_way_s (fX6_frees σ x) u) n := by
  have e1 : r_isFreed (r_next_s (r_way_s σ u) n) = r_isFreed σ := by rw [Rp_isFreed_next, Rp_isFreed_way]
  have e2 : r_place (r_next_s (r_way_s σ u) n) = r_place σ := by rw [Rp_place_next, Rp_place_way]
  have e3 : r_freedMany (r_next_s (r_way_s σ u) n) = r_freedMany σ := by rw [Rp_freedMany_next, Rp_freedMany_way]
  rw [frees_eq, frees_eq, e1, e2, e3]
  exact frees_cc σ _ _ _ u n
/-- one is freed if white, on both sides; and the same behind another way -/
theorem sim_freeR (h : RelO oo σ c) (w : WK σ) {x : Int32} (hx : TH (r_things σ) x) (u n : Int32) : RelO oo (freeR σ x) (fX5_freeIfWhite c x) ∧ freeR (r_next_s (r_way_s σ u) n) x = r_next_s (r_way_s (freeR σ x) u) n ∧ fX5_freeIfWhite (c_nextS_s (c_under_s c u) n) x = c_nextS_s (c_under_s (fX5_freeIfWhite c x) u) n := by
  have g := q_gt h hx
  have ht := q_thing1 h hx
  have r1 : r_colour (r_next_s (r_way_s σ u) n) = r_colour σ := by rw [Rp_colour_next, Rp_colour_way]
  have r2 : r_isFreed (r_next_s (r_way_s σ u) n) = r_isFreed σ := by rw [Rp_isFreed_next, Rp_isFreed_way]
  have k0 : c_tmade (c_nextS_s (c_under_s c u) n) = c_tmade c := by rw [Cp_tmade_nextS, Cp_tmade_under]
  have k1 : c_colours (c_nextS_s (c_under_s c u) n) = c_colours c := by rw [Cp_colours_nextS, Cp_colours_under]
  have k2 : c_freed (c_nextS_s (c_under_s c u) n) = c_freed c := by rw [Cp_freed_nextS, Cp_freed_under]
  have k3 : c_places (c_nextS_s (c_under_s c u) n) = c_places c := by rw [Cp_places_nextS, Cp_places_under]
  have k4 : c_sizes (c_nextS_s (c_under_s c u) n) = c_sizes c := by rw [Cp_sizes_nextS, Cp_sizes_under]
  have k5 : c_cmap (c_nextS_s (c_under_s c u) n) = c_cmap c := by rw [Cp_cmap_nextS, Cp_cmap_under]
  have ht2 : fX4_isThing (c_nextS_s (c_under_s c u) n) x = 1 := (thing_tm k0 x).trans ht
  by_cases e : r_colour σ (ix x) = 0 ∧ r_isFreed σ (ix x) = 0
  · have hk : LV (r_things σ) (r_isFreed σ) (ix x) := ⟨th_lt hx, e.2⟩
    have hm := h.1.2.1 (ix x)
    have hz := many_add h.1 (ix x)
    obtain ⟨hC, hS, hG⟩ := h.2.2.2.2.2
    have hp := hC.1 _ hk
    have ec : c_colours c (ix x) = 0 := g.1.2.2.1.trans e.1
    have ef : c_freed c (ix x) = 0 := g.1.2.2.2.2.1.trans e.2
    have e5 := free5 c ht ec ef g.1.2.1 g.1.1 (by omega) (by omega) (by omega)
    have e6 := free5 (c_nextS_s (c_under_s c u) n) (p := r_place σ (ix x)) (z := r_many σ (ix x) + 1) ht2 (by rw [k1]; exact ec) (by rw [k2]; exact ef) (by rw [k3]; exact g.1.2.1) (by rw [k4]; exact g.1.1) (by omega) (by omega) (by omega)
    refine ⟨?_, ?_, ?_⟩
    · rw [freeR_1 e.1 e.2, e5]
      unfold fX6_frees
      refine rel_fr h _ _ _ _ _ _ (gt_free h.2.2.1 e.1) ?_ (fun z => g3_free (hG z) (w z) hk e.1)
      rw [hz]
      exact gc_free hC hk hm.1
    · rw [freeR_1 e.1 e.2, freeR_1 (by rw [r1]; exact e.1) (by rw [r2]; exact e.2), frees_c]
    · rw [e6, e5, k5, k2, k3]
      exact free5_cc c _ _ _ u n
  · have ne5 : ¬ (c_colours c (ix x) = 0 ∧ c_freed c (ix x) = 0) := fun z => e ⟨g.1.2.2.1.symm.trans z.1, g.1.2.2.2.2.1.symm.trans z.2⟩
    rw [freeR_0 e, free0 c ht ne5, freeR_0 (by rw [r1, r2]; exact e), free0 _ ht2 (by rw [k1, k2]; exact ne5)]
    exact ⟨h, rfl, rfl⟩
theorem sa_freeR (σ : RSt) (x : Int32) : SA σ (freeR σ x) := by
  unfold freeR
  split
  · exact sa_rf σ
  · split
    · exact sa_frees σ x
    · exact sa_rf σ
theorem mn_freeR (σ : RSt) (x : Int32) : r_manner (freeR σ x) = r_manner σ ∧ r_colour (freeR σ x) = r_colour σ ∧ (∀ k, r_isFreed (freeR σ x) k = 0 → r_isFreed σ k = 0) ∧ (r_isFreed (freeR σ x) (ix x) = 0 → ¬ r_colour σ (ix x) = 0) := by
  by_cases e : r_colour σ (ix x) = 0 ∧ r_isFreed σ (ix x) = 0
  · rw [freeR_1 e.1 e.2]
    unfold fX6_frees
    simp only [Rq_manner_isFreed, Rq_fault_isFreed, Rq_things_isFreed, Rq_many_isFreed, Rq_field_isFreed, Rq_place_isFreed, Rq_colour_isFreed, Rq_isFreed_isFreed, Rq_hasWish_isFreed, Rq_moved_isFreed, Rq_register_isFreed, Rq_slot_isFreed, Rq_wishes_isFreed, Rq_wishAt_isFreed, Rq_weakAt_isFreed, Rq_pairs_isFreed, Rq_key_isFreed, Rq_value_isFreed, Rq_isPair_isFreed, Rq_half_isFreed, Rq_top_isFreed, Rq_way_isFreed, Rq_next_isFreed, Rq_freedMany_isFreed, Rq_rounds_isFreed, Rq_steps_isFreed, Rq_shaded_isFreed, Rq_movedMany_isFreed, Rq_isReached_isFreed, Rq_more_isFreed, Rq_manner_place, Rq_fault_place, Rq_things_place, Rq_many_place, Rq_field_place, Rq_place_place, Rq_colour_place, Rq_isFreed_place, Rq_hasWish_place, Rq_moved_place, Rq_register_place, Rq_slot_place, Rq_wishes_place, Rq_wishAt_place, Rq_weakAt_place, Rq_pairs_place, Rq_key_place, Rq_value_place, Rq_isPair_place, Rq_half_place, Rq_top_place, Rq_way_place, Rq_next_place, Rq_freedMany_place, Rq_rounds_place, Rq_steps_place, Rq_shaded_place, Rq_movedMany_place, Rq_isReached_place, Rq_more_place, Rq_manner_freedMany, Rq_fault_freedMany, Rq_things_freedMany, Rq_many_freedMany, Rq_field_freedMany, Rq_place_freedMany, Rq_colour_freedMany, Rq_isFreed_freedMany, Rq_hasWish_freedMany, Rq_moved_freedMany, Rq_register_freedMany, Rq_slot_freedMany, Rq_wishes_freedMany, Rq_wishAt_freedMany, Rq_weakAt_freedMany, Rq_pairs_freedMany, Rq_key_freedMany, Rq_value_freedMany, Rq_isPair_freedMany, Rq_half_freedMany, Rq_top_freedMany, Rq_way_freedMany, Rq_next_freedMany, Rq_freedMany_freedMany, Rq_rounds_freedMany, Rq_steps_freedMany, Rq_shaded_freedMany, Rq_movedMany_freedMany, Rq_isReached_freedMany, Rq_more_freedMany]
    refine ⟨trivial, trivial, fun k hk => ?_, fun z => ?_⟩
    · by_cases ek : k = ix x
      · subst ek
        exact e.2
      · rw [pk_un ek] at hk
        exact hk
    · rw [pk_us] at z
      exact absurd z one_ne
  · rw [freeR_0 e]
    exact ⟨rfl, rfl, fun _ z => z, fun z c => e ⟨c, z⟩⟩
def freesL : Nat → Int32 → RSt → RSt
  | 0, _, σ => σ
  | f + 1, y, σ => freesL f (y + 1) (freeR σ y)
def freesC : Nat → Int32 → CSt → CSt
  | 0, _, c => c
  | f + 1, y, c => freesC f (y + 1) (fX5_freeIfWhite c y)
theorem l181_step (f : Nat) (y : Int32) (σ : RSt) : fX6_marks_L181 (f + 1) y σ = fX6_marks_L181 f (y + 1) (freeR σ y) := by
  unfold freeR
  show (if fX6_isWhite σ y = 0 then _ else _) = _
  split
  · rfl
  · split <;> rfl
theorem sim_freesL (f : Nat) : ∀ (y : Int32) (σ : RSt) (c : CSt), RelO oo σ c → WK σ → 0 ≤ y.toInt → ((r_things σ).toInt - y.toInt).toNat = f → (∀ k : Nat, (k : Int) < y.toInt → r_isFreed σ k = 0 → ¬ r_colour σ k = 0) →
    RelO oo (freesL f y σ) (freesC f y c) ∧ SA σ (freesL f y σ) ∧ r_manner (freesL f y σ) = r_manner σ ∧ (∀ k : Nat, (k : Int) < (r_things σ).toInt → r_isFreed (freesL f y σ) k = 0 → ¬ r_colour (freesL f y σ) k = 0) ∧ fX6_marks_L181 f y (r_next_s (r_way_s σ 2) 0) = fX6_over (r_next_s (r_way_s (freesL f y σ) 2) 0) ∧ fX5_endMarking_L106 f y (c_nextS_s (c_under_s c 2) 0) = fX5_endRound (c_nextS_s (c_under_s (freesC f y c) 2) 0) := by
  induction f with
  | zero =>
    intro y σ c h w h1 h2 h3
    exact ⟨h, sa_rf σ, rfl, fun k hk => h3 k (by omega), rfl, rfl⟩
  | succ f ih =>
    intro y σ c h w h1 h2 h3
    have hx : TH (r_things σ) y := ⟨h1, by omega⟩
    obtain ⟨g1, g2, g3⟩ := sim_freeR h w hx 2 0
    have s := sa_freeR σ y
    have m := mn_freeR σ y
    have e1 := i32_p h1 (lp_nn h1 h2)
    have ey := ix_nat h1
    have w' : WK (freeR σ y) := by
      unfold WK
      rw [m.1, s.2.2.2.2.2.2.2.2.2.2.2.2.2]
      exact w
    obtain ⟨a1, a2, a3, a4, a5, a6⟩ := ih (y + 1) (freeR σ y) (fX5_freeIfWhite c y) g1 w' (lp_nn h1 h2) (by rw [s.1]; exact lp_b h2) (fun k hk z => by
      rw [m.2.1]
      by_cases ek : k = ix y
      · subst ek
        exact m.2.2.2 z
      · exact h3 k (by omega) (m.2.2.1 k z))
    refine ⟨a1, sa_tr s a2, a3.trans m.1, fun k hk => a4 k (by rw [s.1]; exact hk), ?_, ?_⟩
    · rw [l181_step, g2]
      exact a5
    · show fX5_endMarking_L106 f (y + 1) (fX5_freeIfWhite (c_nextS_s (c_under_s c 2) 0) y) = _
      rw [g3]
      exact a6
-- weak holders that name a white thing
theorem upd_self (f : Nat → Int32) (k : Nat) : upd f k (f k) = f := by
  funext j
  by_cases e : j = k
  · subst e
    exact pk_us
  · exact pk_un e
theorem fq_wkS (σ : RSt) (v : Nat → Int32) : FQ σ (r_weakAt_s σ v) := ⟨rfl, rfl, Int.le_refl _, rfl, fun _ _ => rfl, rfl, rfl, rfl, rfl, rfl⟩
theorem fq_ipS (σ : RSt) (v : Nat → Int32) : FQ σ (r_isPair_s σ v) := ⟨rfl, rfl, Int.le_refl _, rfl, fun _ _ => rfl, rfl, rfl, rfl, rfl, rfl⟩
theorem weak_ph (f : Nat) : ∀ (y : Int32) (σ : RSt) (c : CSt), RelO oo σ c → 0 ≤ y.toInt → y.toInt + f ≤ 6 → RelO oo (fX6_marks_L61 f y σ) (fX5_endMarking_L2 f y c) ∧ FQ σ (fX6_marks_L61 f y σ) := by
  induction f with
  | zero => intro y σ c h h1 h2; exact ⟨h, fq_rf σ⟩
  | succ f ih =>
    intro y σ c h h1 h2
    have hk : WkOK y := ⟨h1, by omega⟩
    have e1 := i32_1 (x := y) (B := 300) (by have q : (300 : Int32).toInt = 300 := rfl; omega)
    have hv := vweak h hk
    have self : r_weakAt_s σ (upd (r_weakAt σ) (ix y) (r_weakAt σ (ix y))) = σ := by rw [upd_self, weakAt_id]
    have go := ih (y + 1) σ c h (by omega) (by omega)
    unfold fX6_marks_L61 fX5_endMarking_L2
    rw [named5 h hk]
    rcases hv with e | ht
    · have g0 : fX4_isWhite c (r_weakAt σ (ix y)) = 0 := by
        rw [e]
        exact q_white0 h vn_no
      rw [if_pos e, if_pos g0, self]
      exact go
    · rw [if_neg (th_ne ht), q_white h ht, q_rwhite]
      by_cases c1 : r_colour σ (ix (r_weakAt σ (ix y))) = 0
      · have e5 : fX1_name c y (-1) = c_named_s c (upd (c_named c) (ix y) (-1)) := by
          unfold fX1_name
          rw [wk5_1 hk, if_neg one_ne]
        rw [if_pos c1, if_neg one_ne, if_neg one_ne, e5]
        obtain ⟨a1, a2⟩ := ih (y + 1) _ _ (rel_wk h (k := ix y) (v := -1) (Or.inl rfl)) (by omega) (by omega)
        exact ⟨a1, fq_tr (fq_wkS σ _) a2⟩
      · rw [if_neg c1, if_pos rfl, if_pos rfl, self]
        exact go
-- pairs whose key is white
theorem gp_end {n q : Int32} {isPair key value keys values : Nat → Int32} (hP : GP n q isPair key value keys values) (k : Nat) : GP n q (upd isPair k 0) key value (upd keys k (-1)) (upd values k (-1)) := by
  obtain ⟨h1, h2⟩ := hP
  refine ⟨fun j hj => ?_, fun j hj h8 => ?_⟩
  · by_cases e : j = k
    · subst e
      exact Or.inl ⟨pk_us, pk_us, pk_us⟩
    · rw [pk_un e, pk_un e, pk_un e]
      exact h1 j hj
  · by_cases e : j = k
    · subst e
      exact pk_us
    · rw [pk_un e]
      exact h2 j hj h8
theorem rel_pe (h : RelO oo σ c) (k : Nat) : RelO oo (r_isPair_s σ (upd (r_isPair σ) k 0)) (c_values_s (c_keys_s c (upd (c_keys c) k (-1))) (upd (c_values c) k (-1))) := by
  obtain ⟨hS, hA, hT, hH, hP, hC⟩ := h
  exact ⟨s0_sa (sa_isPair _ _) hS, hA, hT, hH, gp_end hP k, hC⟩
theorem pairs_ph (f : Nat) : ∀ (y : Int32) (σ : RSt) (c : CSt), RelO oo σ c → 0 ≤ y.toInt → ((r_pairs σ).toInt - y.toInt).toNat = f → RelO oo (fX6_marks_L114 f y σ) (fX5_endMarking_L43 f y c) ∧ FQ σ (fX6_marks_L114 f y σ) := by
  induction f with
  | zero => intro y σ c h h1 h2; exact ⟨h, fq_rf σ⟩
  | succ f ih =>
    intro y σ c h h1 h2
    have hp : PrOK (r_pairs σ) y := ⟨h1, by omega⟩
    have self : ∀ v, v = r_isPair σ (ix y) → r_isPair_s σ (upd (r_isPair σ) (ix y) v) = σ := by
      rintro v rfl
      rw [upd_self, isPair_id]
    have go := ih (y + 1) σ c h (lp_nn h1 h2) (lp_b h2)
    unfold fX6_marks_L114 fX5_endMarking_L43
    rw [key5 h hp]
    rcases pr_at h hp with ⟨g1, g2, g3⟩ | ⟨g1, g2, g3, g4, g5⟩
    · rw [if_pos g1, g2, q_white0 h vn_no, if_pos rfl, self 0 g1.symm]
      exact go
    · rw [if_neg (by rw [g1]; exact one_ne), g2, q_white h g4, q_rwhite]
      by_cases c1 : r_colour σ (ix (r_key σ (ix y))) = 0
      · have e5 : fX2_end c y = c_values_s (c_keys_s c (upd (c_keys c) (ix y) (-1))) (upd (c_values c) (ix y) (-1)) := by
          unfold fX2_end
          rw [pr5_1 h hp, if_neg one_ne]
        rw [if_pos c1, if_neg one_ne, if_neg one_ne, e5]
        obtain ⟨a1, a2⟩ := ih (y + 1) _ _ (rel_pe h (ix y)) (lp_nn h1 h2) (lp_b h2)
        exact ⟨a1, fq_tr (fq_ipS σ _) a2⟩
      · rw [if_neg c1, if_pos rfl, if_pos rfl, self 1 g1.symm]
        exact go
-- the round goes on, or is over
theorem two_ne0 : ¬ (0 : Int32) = 2 := by decide
theorem rel_2 (h : RelO oo σ c) (hm : ¬ r_manner σ = 3) : RelO oo (r_next_s (r_way_s σ 2) 0) (c_nextS_s (c_under_s c 2) 0) := by
  obtain ⟨hS, ⟨a1, a2, a3, a4, a5, a6, a7, a8, a9, a10, a11, a12, a13⟩, hT, hH, hP, hC1, hC2, _⟩ := h
  exact ⟨s0_w2 hS, ⟨a1, a2, rfl, a4, a5, a6, a7, a8, a9, a10, fun _ => rfl, Or.inr (Or.inr rfl), a13⟩, hT, hH, hP, hC1, hC2, fun z => absurd z hm⟩
theorem rel_ov (h : RelO oo σ c) (m w u v v5 : Int32) (hS2 : S0 (r_rounds_s (r_way_s (r_next_s σ m) w) v)) (eu : u = w) (ev : v5 = v) (hw : w = 0) (h3 : r_manner σ = 3 → G3 (r_things σ) w (r_half σ) (r_top σ) (r_many σ) (r_place σ) (r_colour σ) (r_isFreed σ)) : RelO oo (r_rounds_s (r_way_s (r_next_s σ m) w) v) (c_rounds_s (c_under_s c u) v5) := by
  refine ⟨hS2, ?_⟩
  clear hS2
  obtain ⟨hS, ⟨a1, a2, a3, a4, a5, a6, a7, a8, a9, a10, a11, a12, a13⟩, hT, hH, hP, hC1, hC2, _⟩ := h
  unfold GA rGT rGH rGP rGC
  unfold rGT at hT
  unfold rGH at hH
  unfold rGP at hP
  simp only [Rp_manner_next, Rp_fault_next, Rp_things_next, Rp_many_next, Rp_field_next, Rp_place_next, Rp_colour_next, Rp_isFreed_next, Rp_hasWish_next, Rp_moved_next, Rp_register_next, Rp_slot_next, Rp_wishes_next, Rp_wishAt_next, Rp_weakAt_next, Rp_pairs_next, Rp_key_next, Rp_value_next, Rp_isPair_next, Rp_half_next, Rp_top_next, Rp_way_next, Rp_next_next, Rp_freedMany_next, Rp_rounds_next, Rp_steps_next, Rp_shaded_next, Rp_movedMany_next, Rp_isReached_next, Rp_more_next, Rp_manner_way, Rp_fault_way, Rp_things_way, Rp_many_way, Rp_field_way, Rp_place_way, Rp_colour_way, Rp_isFreed_way, Rp_hasWish_way, Rp_moved_way, Rp_register_way, Rp_slot_way, Rp_wishes_way, Rp_wishAt_way, Rp_weakAt_way, Rp_pairs_way, Rp_key_way, Rp_value_way, Rp_isPair_way, Rp_half_way, Rp_top_way, Rp_way_way, Rp_next_way, Rp_freedMany_way, Rp_rounds_way, Rp_steps_way, Rp_shaded_way, Rp_movedMany_way, Rp_isReached_way, Rp_more_way, Rp_manner_rounds, Rp_fault_rounds, Rp_things_rounds, Rp_many_rounds, Rp_field_rounds, Rp_place_rounds, Rp_colour_rounds, Rp_isFreed_rounds, Rp_hasWish_rounds, Rp_moved_rounds, Rp_register_rounds, Rp_slot_rounds, Rp_wishes_rounds, Rp_wishAt_rounds, Rp_weakAt_rounds, Rp_pairs_rounds, Rp_key_rounds, Rp_value_rounds, Rp_isPair_rounds, Rp_half_rounds, Rp_top_rounds, Rp_way_rounds, Rp_next_rounds, Rp_freedMany_rounds, Rp_rounds_rounds, Rp_steps_rounds, Rp_shaded_rounds, Rp_movedMany_rounds, Rp_isReached_rounds, Rp_more_rounds, Cp_manner_under, Cp_fault_under, Cp_under_under, Cp_nextS_under, Cp_rounds_under, Cp_steps_under, Cp_shaded_under, Cp_moved_under, Cp_tmade_under, Cp_sizes_under, Cp_places_under, Cp_colours_under, Cp_moves_under, Cp_freed_under, Cp_wishing_under, Cp_theld_under, Cp_cmap_under, Cp_halfEnd_under, Cp_behind_under, Cp_hheld_under, Cp_named_under, Cp_wishes_under, Cp_pmade_under, Cp_keys_under, Cp_values_under, Cp_found_under, Cp_order_under, Cp_rcount_under, Cp_manner_rounds, Cp_fault_rounds, Cp_under_rounds, Cp_nextS_rounds, Cp_rounds_rounds, Cp_steps_rounds, Cp_shaded_rounds, Cp_moved_rounds, Cp_tmade_rounds, Cp_sizes_rounds, Cp_places_rounds, Cp_colours_rounds, Cp_moves_rounds, Cp_freed_rounds, Cp_wishing_rounds, Cp_theld_rounds, Cp_cmap_rounds, Cp_halfEnd_rounds, Cp_behind_rounds, Cp_hheld_rounds, Cp_named_rounds, Cp_wishes_rounds, Cp_pmade_rounds, Cp_keys_rounds, Cp_values_rounds, Cp_found_rounds, Cp_order_rounds, Cp_rcount_rounds]
  exact ⟨⟨a1, a2, eu, ev, a5, a6, a7, a8, a9, a10, fun z => absurd (hw.symm.trans z) two_ne0, Or.inl hw, a13⟩, hT, hH, hP, hC1, hC2, h3⟩
theorem rel_ov2 (h : RelO oo σ c) (p q p5 q5 w u v v5 : Int32) (hS2 : S0 (r_rounds_s (r_way_s (r_next_s (r_way_s σ p) q) w) v)) (eu : u = w) (ev : v5 = v) (hw : w = 0) (h3 : r_manner σ = 3 → G3 (r_things σ) w (r_half σ) (r_top σ) (r_many σ) (r_place σ) (r_colour σ) (r_isFreed σ)) : RelO oo (r_rounds_s (r_way_s (r_next_s (r_way_s σ p) q) w) v) (c_rounds_s (c_under_s (c_nextS_s (c_under_s c p5) q5) u) v5) := by
  refine ⟨hS2, ?_⟩
  clear hS2
  obtain ⟨hS, ⟨a1, a2, a3, a4, a5, a6, a7, a8, a9, a10, a11, a12, a13⟩, hT, hH, hP, hC1, hC2, _⟩ := h
  unfold GA rGT rGH rGP rGC
  unfold rGT at hT
  unfold rGH at hH
  unfold rGP at hP
  simp only [Rp_manner_next, Rp_fault_next, Rp_things_next, Rp_many_next, Rp_field_next, Rp_place_next, Rp_colour_next, Rp_isFreed_next, Rp_hasWish_next, Rp_moved_next, Rp_register_next, Rp_slot_next, Rp_wishes_next, Rp_wishAt_next, Rp_weakAt_next, Rp_pairs_next, Rp_key_next, Rp_value_next, Rp_isPair_next, Rp_half_next, Rp_top_next, Rp_way_next, Rp_next_next, Rp_freedMany_next, Rp_rounds_next, Rp_steps_next, Rp_shaded_next, Rp_movedMany_next, Rp_isReached_next, Rp_more_next, Rp_manner_way, Rp_fault_way, Rp_things_way, Rp_many_way, Rp_field_way, Rp_place_way, Rp_colour_way, Rp_isFreed_way, Rp_hasWish_way, Rp_moved_way, Rp_register_way, Rp_slot_way, Rp_wishes_way, Rp_wishAt_way, Rp_weakAt_way, Rp_pairs_way, Rp_key_way, Rp_value_way, Rp_isPair_way, Rp_half_way, Rp_top_way, Rp_way_way, Rp_next_way, Rp_freedMany_way, Rp_rounds_way, Rp_steps_way, Rp_shaded_way, Rp_movedMany_way, Rp_isReached_way, Rp_more_way, Rp_manner_rounds, Rp_fault_rounds, Rp_things_rounds, Rp_many_rounds, Rp_field_rounds, Rp_place_rounds, Rp_colour_rounds, Rp_isFreed_rounds, Rp_hasWish_rounds, Rp_moved_rounds, Rp_register_rounds, Rp_slot_rounds, Rp_wishes_rounds, Rp_wishAt_rounds, Rp_weakAt_rounds, Rp_pairs_rounds, Rp_key_rounds, Rp_value_rounds, Rp_isPair_rounds, Rp_half_rounds, Rp_top_rounds, Rp_way_rounds, Rp_next_rounds, Rp_freedMany_rounds, Rp_rounds_rounds, Rp_steps_rounds, Rp_shaded_rounds, Rp_movedMany_rounds, Rp_isReached_rounds, Rp_more_rounds, Cp_manner_under, Cp_fault_under, Cp_under_under, Cp_nextS_under, Cp_rounds_under, Cp_steps_under, Cp_shaded_under, Cp_moved_under, Cp_tmade_under, Cp_sizes_under, Cp_places_under, Cp_colours_under, Cp_moves_under, Cp_freed_under, Cp_wishing_under, Cp_theld_under, Cp_cmap_under, Cp_halfEnd_under, Cp_behind_under, Cp_hheld_under, Cp_named_under, Cp_wishes_under, Cp_pmade_under, Cp_keys_under, Cp_values_under, Cp_found_under, Cp_order_under, Cp_rcount_under, Cp_manner_nextS, Cp_fault_nextS, Cp_under_nextS, Cp_nextS_nextS, Cp_rounds_nextS, Cp_steps_nextS, Cp_shaded_nextS, Cp_moved_nextS, Cp_tmade_nextS, Cp_sizes_nextS, Cp_places_nextS, Cp_colours_nextS, Cp_moves_nextS, Cp_freed_nextS, Cp_wishing_nextS, Cp_theld_nextS, Cp_cmap_nextS, Cp_halfEnd_nextS, Cp_behind_nextS, Cp_hheld_nextS, Cp_named_nextS, Cp_wishes_nextS, Cp_pmade_nextS, Cp_keys_nextS, Cp_values_nextS, Cp_found_nextS, Cp_order_nextS, Cp_rcount_nextS, Cp_manner_rounds, Cp_fault_rounds, Cp_under_rounds, Cp_nextS_rounds, Cp_rounds_rounds, Cp_steps_rounds, Cp_shaded_rounds, Cp_moved_rounds, Cp_tmade_rounds, Cp_sizes_rounds, Cp_places_rounds, Cp_colours_rounds, Cp_moves_rounds, Cp_freed_rounds, Cp_wishing_rounds, Cp_theld_rounds, Cp_cmap_rounds, Cp_halfEnd_rounds, Cp_behind_rounds, Cp_hheld_rounds, Cp_named_rounds, Cp_wishes_rounds, Cp_pmade_rounds, Cp_keys_rounds, Cp_values_rounds, Cp_found_rounds, Cp_order_rounds, Cp_rcount_rounds]
  exact ⟨⟨a1, a2, eu, ev, a5, a6, a7, a8, a9, a10, fun z => absurd (hw.symm.trans z) two_ne0, Or.inl hw, a13⟩, hT, hH, hP, hC1, hC2, h3⟩
theorem rounds5 (h : RelO oo σ c) : c_rounds c = r_rounds σ := h.2.1.2.2.2.1
theorem rel_overN (h : RelO oo σ c) (hm : ¬ r_manner σ = 3) (m : Int32) (hm0 : 0 ≤ m.toInt) (hm1 : m.toInt ≤ (r_things σ).toInt) : RelO oo (fX6_over (r_next_s σ m)) (fX5_endRound c) := by
  have hS := s0_over (s0_nx h.1 m hm0 (Or.inr (Or.inr hm1)))
  unfold fX6_over fX5_endRound
  unfold fX6_over at hS
  exact rel_ov h m 0 0 _ _ hS rfl (by rw [Rp_rounds_next, rounds5 h]) rfl (fun z => absurd z hm)
theorem rel_over2 (h : RelO oo σ c) (h3 : r_manner σ = 3 → G3 (r_things σ) 0 (r_half σ) (r_top σ) (r_many σ) (r_place σ) (r_colour σ) (r_isFreed σ)) : RelO oo (fX6_over (r_next_s (r_way_s σ 2) 0)) (fX5_endRound (c_nextS_s (c_under_s c 2) 0)) := by
  have hS := s0_over (s0_w2 h.1)
  unfold fX6_over fX5_endRound
  unfold fX6_over at hS
  exact rel_ov2 h 2 0 2 0 0 0 _ _ hS rfl (by rw [Rp_rounds_next, Rp_rounds_way, Cp_rounds_nextS, Cp_rounds_under, rounds5 h]) rfl h3
theorem sumN_0 (m : Nat) : sumN (fun _ => 0) m = 0 := by
  induction m with
  | zero => rfl
  | succ m ih =>
    show sumN (fun _ => 0) m + 0 = 0
    rw [ih]
theorem g3_over {n way half top : Int32} {many place colour freed : Nat → Int32} (h : G3 n way half top many place colour freed) (hw : way = 1) (hn : ∀ k : Nat, (k : Int) < n.toInt → freed k = 0 → ¬ colour k = 0) : G3 n 0 half top many place colour freed := by
  obtain ⟨h1, h2, h3, h4⟩ := h
  refine ⟨Or.inl rfl, fun k hk => ?_, fun _ => ?_, fun z => absurd z (by decide)⟩
  · rcases h2 k hk with a | ⟨_, a, _⟩
    · exact Or.inl a
    · exact absurd a (hn k hk.1 hk.2)
  · have z : sumN (whN many colour freed) n.toInt.toNat = sumN (fun _ => 0) n.toInt.toNat := sumN_congr (fun k hk => by
      unfold whN
      by_cases e : freed k = 0
      · rw [if_pos e, if_neg (hn k (by omega) e)]
      · rw [if_neg e])
    rw [z, sumN_0]
    have := (h4 hw).1
    omega
theorem sim_endMarking (h : RelO oo σ c) (w : WK σ) : RelO oo (fX6_marks_J112 (fX6_marks_L61 ((6 : Int32).toInt - (0 : Int32).toInt).toNat 0 σ)) (fX5_endMarking c) := by
  have z0 := t0
  have q6 : ((6 : Int32).toInt - (0 : Int32).toInt).toNat = 6 := rfl
  unfold fX5_endMarking fX6_marks_J112
  rw [q6]
  obtain ⟨a1, a2⟩ := weak_ph 6 0 σ c h (by omega) (by omega)
  obtain ⟨σ1, e1⟩ : ∃ σ1, fX6_marks_L61 6 0 σ = σ1 := ⟨_, rfl⟩
  obtain ⟨c1, e2⟩ : ∃ c1, fX5_endMarking_L2 6 0 c = c1 := ⟨_, rfl⟩
  rw [e1] at a1 a2
  rw [e2] at a1
  rw [e1, e2, eq_ a1]
  obtain ⟨b1, b2⟩ := pairs_ph _ 0 σ1 c1 a1 (by omega) rfl
  obtain ⟨σ2, e3⟩ : ∃ σ2, fX6_marks_L114 ((r_pairs σ1).toInt - (0 : Int32).toInt).toNat 0 σ1 = σ2 := ⟨_, rfl⟩
  obtain ⟨c2, e4⟩ : ∃ c2, fX5_endMarking_L43 ((r_pairs σ1).toInt - (0 : Int32).toInt).toNat 0 c1 = c2 := ⟨_, rfl⟩
  rw [e3] at b1 b2
  rw [e4] at b1
  rw [e3, e4]
  have w2 : WK σ2 := wk_fq (fq_tr a2 b2) w
  unfold fX6_marks_J161
  rw [b1.2.1.1]
  by_cases c3 : r_manner σ2 = 3
  · have e5 : r_things (r_next_s (r_way_s σ2 2) 0) = r_things σ2 := by rw [Rp_things_next, Rp_things_way]
    have e6 : c_tmade (c_nextS_s (c_under_s c2 2) 0) = r_things σ2 := by rw [Cp_tmade_nextS, Cp_tmade_under, en b1]
    obtain ⟨d1, d2, d3, d4, d5, d6⟩ := sim_freesL _ 0 σ2 c2 b1 w2 (by omega) rfl (fun k hk => by omega)
    rw [if_pos c3, if_pos c3, e5, e6, d5, d6]
    refine rel_over2 d1 (fun z => ?_)
    refine g3_over (d1.2.2.2.2.2.2.2 z) ?_ (fun k hk => d4 k (by rw [← d2.1]; exact hk))
    rw [d2.2.2.2.2.2.2.2.2.2.2.2.2.2]
    exact w2 c3
  · rw [if_neg c3, if_neg c3]
    exact rel_2 b1 c3
end G
