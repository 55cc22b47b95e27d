/-! PURE, part 45: what only looks, pairs, and the oldest wish -/
section L
variable {oo : Int32} {σ : RSt} {c : CSt}
theorem th6_1 (h : RelO oo σ c) {x : Int32} (hx : TH (r_things σ) x) : fX6_isThing σ x = 1 := by
  have e := i32_m1 h.1.1.1
  unfold fX6_isThing
  exact in6_1 hx.1 (by have := hx.2; omega)
theorem th6_0 (h : RelO oo σ c) {x : Int32} (hx : ¬ TH (r_things σ) x) : fX6_isThing σ x = 0 := by
  have e := i32_m1 h.1.1.1
  unfold fX6_isThing
  exact in6_0 (fun z => hx ⟨z.1, by have := z.2; omega⟩)
theorem sim_field (hR : RelO oo σ c) (x1 x2 : Int32) : fX5_field c x1 x2 = fX6_field σ x1 x2 ∧ RelO oo (σ) (c) := by
  refine ⟨?_, hR⟩
  unfold fX5_field fX6_field
  by_cases h1 : TH (r_things σ) x1
  · rw [q_thing1 hR h1, th6_1 hR h1, if_neg one_ne, if_neg one_ne]
    have e := i32_m1 (hR.1.2.1 (ix x1)).1
    by_cases hf : FdOK σ x1 x2
    · rw [in6_1 (v := x2) (a := 0) (b := r_many σ (ix x1) - 1) hf.2.1 (by have := hf.2.2; omega), if_neg one_ne]
      exact (inField5 hR hf).1
    · rw [in6_0 (v := x2) (a := 0) (b := r_many σ (ix x1) - 1) (fun z => hf ⟨h1, z.1, by have := z.2; omega⟩), if_pos rfl]
      exact inField0 hR hf
  · rw [q_thing0 hR h1, th6_0 hR h1, if_pos rfl, if_pos rfl]
theorem t8 : (8 : Int32).toInt = 8 := rfl
theorem t22 : (22 : Int32).toInt = 22 := rfl
theorem t30 : (30 : Int32).toInt = 30 := rfl
theorem t120 : (120 : Int32).toInt = 120 := rfl
theorem t199 : (199 : Int32).toInt = 199 := rfl
theorem t200 : (200 : Int32).toInt = 200 := rfl
theorem t100 : (100 : Int32).toInt = 100 := rfl
theorem sim_holder (hR : RelO oo σ c) (x1 : Int32) : fX5_holder c x1 = fX6_holder σ x1 ∧ RelO oo (σ) (c) := by
  refine ⟨?_, hR⟩
  have hw := w0 hR
  have hw2 := s0_wishes hR.1
  have hx := Int32.toInt_lt x1
  unfold fX5_holder fX6_holder
  by_cases c0 : (0 : Int32) ≤ x1
  · have n0 := i32_le c0
    have z0 := t0
    have e0 := ix_nat (x := x1) (by omega)
    rw [if_pos c0, if_pos c0]
    by_cases c1 : (16 : Int32) ≤ x1
    · have n1 := i32_le c1
      have z1 := t16
      have z2 := t12
      have z6 := t6
      have c12 : (12 : Int32) ≤ x1 := Int32.le_iff_toInt_le.mpr (by omega)
      rw [if_pos c1, if_pos c12, if_pos c1]
      by_cases c2 : (22 : Int32) ≤ x1
      · have n2 := i32_le c2
        have z3 := t22
        rw [if_pos c2, if_pos c2]
        by_cases c3 : (30 : Int32) ≤ x1
        · have n3 := i32_le c3
          have z4 := t30
          rw [if_pos c3, if_pos c3]
          have e := i32_subI (x := x1) (a := 30) (by omega) (by omega)
          generalize x1 - 30 = y at e
          have e1 := ix_nat (x := y) (by omega)
          unfold fX1_wishAt
          rw [ew hR, if_neg (fun z => by have := i32_lt z; omega)]
          by_cases c4 : r_wishes σ ≤ y
          · rw [if_pos c4, if_pos c4]
          · have n4 := i32_nle c4
            rw [if_neg c4, if_neg c4]
            have e2 : ((16 : Int32) + y).toInt = 16 + y.toInt := by
              rw [Int32.toInt_add, t16]
              exact Int.bmod_eq_of_le (by omega) (by omega)
            have e3 := ix_nat (x := 16 + y) (by omega)
            have e4 : ix (16 + y) = 16 + ix y := by omega
            rw [held_lt hR (by omega) (by omega), e4]
            exact (hR.2.2.2.1.2.2.1 (ix y) (by omega)).1
        · have n3 := i32_nle c3
          have z4 := t30
          rw [if_neg c3, if_neg c3]
          have e := i32_subI (x := x1) (a := 22) (by omega) (by omega)
          generalize x1 - 22 = y at e
          have e1 := ix_nat (x := y) (by omega)
          by_cases hp : PrOK (r_pairs σ) y
          · rw [key5 hR hp]
            rcases pr_at hR hp with ⟨g1, g2, g3⟩ | ⟨g1, g2, g3, g4, g5⟩
            · rw [if_pos g1, g2]
            · rw [g1, if_neg one_ne, g2]
          · have g1 : r_isPair σ (ix y) = 0 := hR.2.2.2.2.1.2 (ix y) (by
              by_cases z : (r_pairs σ).toInt ≤ y.toInt
              · omega
              · exact absurd ⟨by omega, by omega⟩ hp) (by omega)
            unfold fX2_keyOf
            rw [pr5_0 hR hp, if_pos rfl, if_pos g1]
      · have n2 := i32_nle c2
        have z3 := t22
        rw [if_neg c2, if_neg c2]
        have e := i32_subI (x := x1) (a := 16) (by omega) (by omega)
        exact named5 hR ⟨by omega, by omega⟩
    · have n1 := i32_nle c1
      have z1 := t16
      have z2 := t12
      rw [if_neg c1, held_lt hR (by omega) (by omega)]
      by_cases c12 : (12 : Int32) ≤ x1
      · have n2 := i32_le c12
        rw [if_pos c12, if_neg c1]
        have e := i32_subI (x := x1) (a := 12) (by omega) (by omega)
        have e1 := ix_nat (x := x1 - 12) (by omega)
        have e2 : ix x1 = 12 + ix (x1 - 12) := by omega
        rw [e2]
        exact (hR.2.2.2.1.2.1 (ix (x1 - 12)) (by omega)).1
      · have n2 := i32_nle c12
        rw [if_neg c12]
        exact (hR.2.2.2.1.1 (ix x1) (by omega)).1
  · rw [if_neg c0, if_neg c0]
-- the cells
theorem pm_int {n : Int32} {many place freed cmap : Nat → Int32} (hS : ∀ k, 0 ≤ (many k).toInt ∧ (many k).toInt ≤ 6) (hC : GC n many place freed cmap) {k : Nat} (hk : LV n freed k) : (place k + many k).toInt = (place k).toInt + (many k).toInt := by
  have h1 := hC.1 k hk
  have h2 := hS k
  rw [Int32.toInt_add]
  exact Int.bmod_eq_of_le (by omega) (by omega)
theorem cellOf_none (h : RelO oo σ c) {x : Int32} (f : Nat) : ∀ y : Int32, 0 ≤ y.toInt → ((r_things σ).toInt - y.toInt).toNat = f → (∀ k : Nat, ¬ cov (r_things σ) (r_many σ) (r_place σ) (r_isFreed σ) k x.toInt) → fX6_cellOf_L2 x f y σ = -1 := by
  induction f with
  | zero => intro y h0 hf hn; rfl
  | succ f ih =>
    intro y h0 hf hn
    unfold fX6_cellOf_L2
    have e := ix_nat h0
    split
    · rename_i c1
      have hk : LV (r_things σ) (r_isFreed σ) (ix y) := ⟨by omega, c1⟩
      split
      · exact ih _ (lp_nn h0 hf) (lp_b hf) hn
      · rename_i c2
        split
        · exact ih _ (lp_nn h0 hf) (lp_b hf) hn
        · rename_i c3
          have n2 := i32_nlt c2
          have n3 := i32_nlt c3
          have e2 := pm_int h.1.2.1 h.2.2.2.2.2.1 hk
          exact absurd ⟨hk, n2, by omega⟩ (hn (ix y))
    · exact ih _ (lp_nn h0 hf) (lp_b hf) hn
theorem cellOf_some (h : RelO oo σ c) {x : Int32} {k : Nat} (hk : cov (r_things σ) (r_many σ) (r_place σ) (r_isFreed σ) k x.toInt) (f : Nat) : ∀ y : Int32, 0 ≤ y.toInt → ((r_things σ).toInt - y.toInt).toNat = f → y.toInt ≤ k → fX6_cellOf_L2 x f y σ = nI k := by
  have hC : GC (r_things σ) (r_many σ) (r_place σ) (r_isFreed σ) (c_cmap c) := h.2.2.2.2.2.1
  induction f with
  | zero =>
    intro y h0 hf hn
    have := hk.1.1
    omega
  | succ f ih =>
    intro y h0 hf hn
    unfold fX6_cellOf_L2
    have e := ix_nat h0
    have hkn := hk.1.1
    by_cases ek : k = ix y
    · subst ek
      have e2 := pm_int h.1.2.1 hC hk.1
      have a1 := hk.2.1
      have a2 := hk.2.2
      rw [if_pos hk.1.2, if_neg (fun z => by have := i32_lt z; omega), if_neg (fun z => by have := i32_lt z; omega)]
      exact (nI_ix h0).symm
    · have e1 := i32_p h0 (lp_nn h0 hf)
      have go := ih (y + 1) (lp_nn h0 hf) (lp_b hf) (by omega)
      split
      · rename_i c1
        have hy : LV (r_things σ) (r_isFreed σ) (ix y) := ⟨by omega, c1⟩
        split
        · exact go
        · rename_i c2
          split
          · exact go
          · rename_i c3
            have n2 := i32_nlt c2
            have n3 := i32_nlt c3
            have e2 := pm_int h.1.2.1 hC hy
            have d := hC.2.1 k (ix y) hk.1 hy ek
            have a1 := hk.2.1
            have a2 := hk.2.2
            omega
      · exact go
theorem sim_cell (hR : RelO oo σ c) (x1 : Int32) : fX5_cell c x1 = fX6_cell σ x1 ∧ RelO oo (σ) (c) := by
  refine ⟨?_, hR⟩
  have z0 := t0
  have z1 := t199
  have z2 := t200
  unfold fX5_cell fX6_cell
  by_cases c0 : x1 < (0 : Int32)
  · have n0 := i32_lt c0
    rw [if_pos c0, in6_0 (v := x1) (a := 0) (b := 199) (fun z => by omega), if_pos rfl]
  · have n0 := i32_nlt c0
    rw [if_neg c0]
    by_cases c1 : x1 < (200 : Int32)
    · have n1 := i32_lt c1
      rw [if_pos c1, in6_1 (v := x1) (a := 0) (b := 199) (by omega) (by omega), if_neg one_ne]
      have e := ix_nat (x := x1) (by omega)
      unfold fX0_thingAt fX6_cellOf
      rw [if_neg c0, if_neg (fun z => by have := i32_le z; omega)]
      rcases hR.2.2.2.2.2.1.2.2 (ix x1) (by omega) with ⟨k, hk, ek⟩ | ⟨hn, ek⟩
      · rw [e] at hk
        rw [ek, cellOf_some hR hk _ 0 (by omega) rfl (by omega)]
      · rw [e] at hn
        rw [ek, cellOf_none hR _ 0 (by omega) rfl hn]
    · have n1 := i32_nlt c1
      rw [if_neg c1, in6_0 (v := x1) (a := 0) (b := 199) (fun z => by omega), if_pos rfl]
-- the digest
theorem dig_in (h : RelO oo σ c) {x : Int32} (hx : TH (r_things σ) x) (f : Nat) : ∀ (d : Int64) (y : Int32), 0 ≤ y.toInt → ((r_many σ (ix x)).toInt - y.toInt).toNat = f → fX5_digest_L76 x f d y c = fX6_digest_L63 x f d y σ := by
  induction f with
  | zero => intro d y h0 hf; rfl
  | succ f ih =>
    intro d y h0 hf
    unfold fX5_digest_L76 fX6_digest_L63
    rw [(inField5 h ⟨hx, h0, by omega⟩).1]
    exact ih _ _ (lp_nn h0 hf) (lp_b hf)
theorem dig_th (h : RelO oo σ c) (f : Nat) : ∀ (d : Int64) (y : Int32), 0 ≤ y.toInt → ((r_things σ).toInt - y.toInt).toNat = f → fX5_digest_L6 f d y c = fX6_digest_L6 f d y σ := by
  induction f with
  | zero => intro d y h0 hf; rfl
  | succ f ih =>
    intro d y h0 hf
    have hx : TH (r_things σ) y := ⟨h0, by omega⟩
    unfold fX5_digest_L6 fX6_digest_L6
    rw [q_fields h hx, q_place h hx, q_colour h hx, q_freed h hx, dig_in h hx _ _ 0 (by rw [t0]; omega) rfl]
    exact ih _ _ (lp_nn h0 hf) (lp_b hf)
theorem dig_ho (h : RelO oo σ c) (f : Nat) : ∀ (d : Int64) (y : Int32), fX5_digest_L121 f d y c = fX6_digest_L108 f d y σ := by
  induction f with
  | zero =>
    intro d y
    unfold fX5_digest_L121 fX6_digest_L108
    rw [h.2.1.2.2.1]
  | succ f ih =>
    intro d y
    unfold fX5_digest_L121 fX6_digest_L108
    rw [(sim_holder h y).1]
    exact ih _ _
theorem sim_digest (hR : RelO oo σ c) : fX5_digest c = fX6_digest σ ∧ RelO oo (σ) (c) := by
  refine ⟨?_, hR⟩
  unfold fX5_digest fX6_digest
  rw [en hR, dig_th hR _ _ 0 (by rw [t0]; omega) rfl, dig_ho hR]
-- pairs
theorem gp_add {n q q' : Int32} {isPair key value keys values : Nat → Int32} (hP : GP n q isPair key value keys values) {k : Nat} (e : (k : Int) = q.toInt) {u v : Int32} (hu : TH n u) (hv : TH n v) (e2 : q'.toInt = q.toInt + 1) : GP n q' (upd isPair k 1) (upd key k u) (upd value k v) (upd keys k u) (upd values k v) := by
  refine ⟨fun j hj => ?_, fun j hj hj2 => ?_⟩
  · by_cases ej : j = k
    · subst ej
      simp only [pk_us]
      exact Or.inr ⟨trivial, trivial, trivial, hu, hv⟩
    · simp only [pk_un ej]
      exact hP.1 j (by omega)
  · rw [pk_un (by omega)]
    exact hP.2 j (by omega) hj2
theorem s0_add (hS : S0 σ) (a b f : Nat → Int32) (q' : Int32) (ha : ∀ j, vp_in (a j) 120) (hb : ∀ j, VT (b j)) (hq : 0 ≤ q'.toInt ∧ q'.toInt ≤ 8) : S0 (r_pairs_s (r_isPair_s (r_value_s (r_key_s σ a) b) f) q') := by
  obtain ⟨s1, s2, s3, s4, s5, s6, s7, s8, s9, s10, s11, s12⟩ := hS
  unfold S0
  simp only [Rq_manner_key, Rq_fault_key, Rq_things_key, Rq_many_key, Rq_field_key, Rq_place_key, Rq_colour_key, Rq_isFreed_key, Rq_hasWish_key, Rq_moved_key, Rq_register_key, Rq_slot_key, Rq_wishes_key, Rq_wishAt_key, Rq_weakAt_key, Rq_pairs_key, Rq_key_key, Rq_value_key, Rq_isPair_key, Rq_half_key, Rq_top_key, Rq_way_key, Rq_next_key, Rq_freedMany_key, Rq_rounds_key, Rq_steps_key, Rq_shaded_key, Rq_movedMany_key, Rq_isReached_key, Rq_more_key, Rq_manner_value, Rq_fault_value, Rq_things_value, Rq_many_value, Rq_field_value, Rq_place_value, Rq_colour_value, Rq_isFreed_value, Rq_hasWish_value, Rq_moved_value, Rq_register_value, Rq_slot_value, Rq_wishes_value, Rq_wishAt_value, Rq_weakAt_value, Rq_pairs_value, Rq_key_value, Rq_value_value, Rq_isPair_value, Rq_half_value, Rq_top_value, Rq_way_value, Rq_next_value, Rq_freedMany_value, Rq_rounds_value, Rq_steps_value, Rq_shaded_value, Rq_movedMany_value, Rq_isReached_value, Rq_more_value, Rq_manner_isPair, Rq_fault_isPair, Rq_things_isPair, Rq_many_isPair, Rq_field_isPair, Rq_place_isPair, Rq_colour_isPair, Rq_isFreed_isPair, Rq_hasWish_isPair, Rq_moved_isPair, Rq_register_isPair, Rq_slot_isPair, Rq_wishes_isPair, Rq_wishAt_isPair, Rq_weakAt_isPair, Rq_pairs_isPair, Rq_key_isPair, Rq_value_isPair, Rq_isPair_isPair, Rq_half_isPair, Rq_top_isPair, Rq_way_isPair, Rq_next_isPair, Rq_freedMany_isPair, Rq_rounds_isPair, Rq_steps_isPair, Rq_shaded_isPair, Rq_movedMany_isPair, Rq_isReached_isPair, Rq_more_isPair, Rq_manner_pairs, Rq_fault_pairs, Rq_things_pairs, Rq_many_pairs, Rq_field_pairs, Rq_place_pairs, Rq_colour_pairs, Rq_isFreed_pairs, Rq_hasWish_pairs, Rq_moved_pairs, Rq_register_pairs, Rq_slot_pairs, Rq_wishes_pairs, Rq_wishAt_pairs, Rq_weakAt_pairs, Rq_pairs_pairs, Rq_key_pairs, Rq_value_pairs, Rq_isPair_pairs, Rq_half_pairs, Rq_top_pairs, Rq_way_pairs, Rq_next_pairs, Rq_freedMany_pairs, Rq_rounds_pairs, Rq_steps_pairs, Rq_shaded_pairs, Rq_movedMany_pairs, Rq_isReached_pairs, Rq_more_pairs]
  exact ⟨s1, s2, s3, s4, s5, s6, s7, ha, hb, s10, hq, s12⟩
theorem rel_pr (h : RelO oo σ c) (a b f a5 b5 : Nat → Int32) (q' : Int32) (ha : ∀ j, vp_in (a j) 120) (hb : ∀ j, VT (b j)) (hq : 0 ≤ q'.toInt ∧ q'.toInt ≤ 8) (hG : GP (r_things σ) q' f a b a5 b5) : RelO oo (r_pairs_s (r_isPair_s (r_value_s (r_key_s σ a) b) f) q') (c_pmade_s (c_values_s (c_keys_s c a5) b5) q') := by
  refine ⟨s0_add h.1 a b f q' ha hb hq, ?_⟩
  obtain ⟨hS, ⟨a1, a2, a3, a4, a5, a6, a7, a8, a9, a10, a11, a12⟩, hT, hH, hP, hC⟩ := h
  unfold GA rGT rGH rGP rGC
  unfold rGT at hT
  unfold rGH at hH
  unfold rGC at hC
  simp only [Rq_manner_key, Rq_fault_key, Rq_things_key, Rq_many_key, Rq_field_key, Rq_place_key, Rq_colour_key, Rq_isFreed_key, Rq_hasWish_key, Rq_moved_key, Rq_register_key, Rq_slot_key, Rq_wishes_key, Rq_wishAt_key, Rq_weakAt_key, Rq_pairs_key, Rq_key_key, Rq_value_key, Rq_isPair_key, Rq_half_key, Rq_top_key, Rq_way_key, Rq_next_key, Rq_freedMany_key, Rq_rounds_key, Rq_steps_key, Rq_shaded_key, Rq_movedMany_key, Rq_isReached_key, Rq_more_key, Rq_manner_value, Rq_fault_value, Rq_things_value, Rq_many_value, Rq_field_value, Rq_place_value, Rq_colour_value, Rq_isFreed_value, Rq_hasWish_value, Rq_moved_value, Rq_register_value, Rq_slot_value, Rq_wishes_value, Rq_wishAt_value, Rq_weakAt_value, Rq_pairs_value, Rq_key_value, Rq_value_value, Rq_isPair_value, Rq_half_value, Rq_top_value, Rq_way_value, Rq_next_value, Rq_freedMany_value, Rq_rounds_value, Rq_steps_value, Rq_shaded_value, Rq_movedMany_value, Rq_isReached_value, Rq_more_value, Rq_manner_isPair, Rq_fault_isPair, Rq_things_isPair, Rq_many_isPair, Rq_field_isPair, Rq_place_isPair, Rq_colour_isPair, Rq_isFreed_isPair, Rq_hasWish_isPair, Rq_moved_isPair, Rq_register_isPair, Rq_slot_isPair, Rq_wishes_isPair, Rq_wishAt_isPair, Rq_weakAt_isPair, Rq_pairs_isPair, Rq_key_isPair, Rq_value_isPair, Rq_isPair_isPair, Rq_half_isPair, Rq_top_isPair, Rq_way_isPair, Rq_next_isPair, Rq_freedMany_isPair, Rq_rounds_isPair, Rq_steps_isPair, Rq_shaded_isPair, Rq_movedMany_isPair, Rq_isReached_isPair, Rq_more_isPair, Rq_manner_pairs, Rq_fault_pairs, Rq_things_pairs, Rq_many_pairs, Rq_field_pairs, Rq_place_pairs, Rq_colour_pairs, Rq_isFreed_pairs, Rq_hasWish_pairs, Rq_moved_pairs, Rq_register_pairs, Rq_slot_pairs, Rq_wishes_pairs, Rq_wishAt_pairs, Rq_weakAt_pairs, Rq_pairs_pairs, Rq_key_pairs, Rq_value_pairs, Rq_isPair_pairs, Rq_half_pairs, Rq_top_pairs, Rq_way_pairs, Rq_next_pairs, Rq_freedMany_pairs, Rq_rounds_pairs, Rq_steps_pairs, Rq_shaded_pairs, Rq_movedMany_pairs, Rq_isReached_pairs, Rq_more_pairs, Cq_manner_keys, Cq_fault_keys, Cq_under_keys, Cq_nextS_keys, Cq_rounds_keys, Cq_steps_keys, Cq_shaded_keys, Cq_moved_keys, Cq_tmade_keys, Cq_sizes_keys, Cq_places_keys, Cq_colours_keys, Cq_moves_keys, Cq_freed_keys, Cq_wishing_keys, Cq_theld_keys, Cq_cmap_keys, Cq_halfEnd_keys, Cq_behind_keys, Cq_hheld_keys, Cq_named_keys, Cq_wishes_keys, Cq_pmade_keys, Cq_keys_keys, Cq_values_keys, Cq_found_keys, Cq_order_keys, Cq_rcount_keys, Cq_manner_values, Cq_fault_values, Cq_under_values, Cq_nextS_values, Cq_rounds_values, Cq_steps_values, Cq_shaded_values, Cq_moved_values, Cq_tmade_values, Cq_sizes_values, Cq_places_values, Cq_colours_values, Cq_moves_values, Cq_freed_values, Cq_wishing_values, Cq_theld_values, Cq_cmap_values, Cq_halfEnd_values, Cq_behind_values, Cq_hheld_values, Cq_named_values, Cq_wishes_values, Cq_pmade_values, Cq_keys_values, Cq_values_values, Cq_found_values, Cq_order_values, Cq_rcount_values, Cq_manner_pmade, Cq_fault_pmade, Cq_under_pmade, Cq_nextS_pmade, Cq_rounds_pmade, Cq_steps_pmade, Cq_shaded_pmade, Cq_moved_pmade, Cq_tmade_pmade, Cq_sizes_pmade, Cq_places_pmade, Cq_colours_pmade, Cq_moves_pmade, Cq_freed_pmade, Cq_wishing_pmade, Cq_theld_pmade, Cq_cmap_pmade, Cq_halfEnd_pmade, Cq_behind_pmade, Cq_hheld_pmade, Cq_named_pmade, Cq_wishes_pmade, Cq_pmade_pmade, Cq_keys_pmade, Cq_values_pmade, Cq_found_pmade, Cq_order_pmade, Cq_rcount_pmade]
  exact ⟨⟨a1, a2, a3, a4, a5, a6, a7, a8, a9, trivial, a11, a12⟩, hT, hH, hG, hC⟩
theorem rel_pair (h : RelO oo σ c) (c8 : ¬ r_pairs σ = 8) {u v : Int32} (hu : TH (r_things σ) u) (hv : TH (r_things σ) v) (q' : Int32) (eq' : q'.toInt = (r_pairs σ).toInt + 1) : RelO oo (r_pairs_s (r_isPair_s (r_value_s (r_key_s σ (upd (r_key σ) (ix (r_pairs σ)) u)) (upd (r_value σ) (ix (r_pairs σ)) v)) (upd (r_isPair σ) (ix (r_pairs σ)) 1)) q') (c_pmade_s (c_values_s (c_keys_s c (upd (c_keys c) (ix (r_pairs σ)) u)) (upd (c_values c) (ix (r_pairs σ)) v)) q') := by
  have hq := s0_plt h.1 c8
  have hq2 := vp_in_iff.mp hq
  have e := ix_nat hq2.1
  refine rel_pr h _ _ _ _ _ q' (fun j => ?_) (fun j => ?_) (by omega) (gp_add h.2.2.2.2.1 e hu hv eq')
  · unfold upd
    split
    · exact th_vp h.1 hu
    · exact s0_key h.1 j
  · unfold upd
    split
    · exact Or.inr (th_vp h.1 hv)
    · exact s0_value h.1 j
theorem vn_th {n x : Int32} (h : VN n x) (hn : ¬ x = -1) : TH n x := h.resolve_left hn
theorem sim_pair (hR : RelO oo σ c) (x1 x2 x3 : Int32) : (fX5_pair c x1 x2 x3).1 = (fX6_pair σ x1 x2 x3).1 ∧ RelO oo ((fX6_pair σ x1 x2 x3).2) ((fX5_pair c x1 x2 x3).2) := by
  have z0 := t0
  have z8 := t8
  have hq := q8 hR
  unfold fX5_pair fX6_pair
  by_cases h1 : RegOK x1 x2
  · rw [reg5_1 h1, reg6_1 h1, if_neg one_ne, if_neg one_ne]
    by_cases h2 : RegOK x1 x3
    · rw [reg5_1 h2, reg6_1 h2, if_neg one_ne, if_neg one_ne, inreg hR h1, inreg hR h2, held6 σ x1 x2, held6 σ x1 x3, held6 (r_key_s σ _) x1 x3]
      by_cases h3 : r_register σ (rix x1 x2) = -1
      · rw [if_pos h3, if_pos h3]
        exact ⟨rfl, hR⟩
      · rw [if_neg h3, if_neg h3]
        by_cases h4 : r_register σ (rix x1 x3) = -1
        · rw [if_pos h4, if_pos h4]
          exact ⟨rfl, hR⟩
        · rw [if_neg h4, if_neg h4]
          unfold fX2_add
          rw [eq_ hR]
          by_cases h5 : r_pairs σ = 8
          · rw [if_pos h5, if_neg (fun z => by have := i32_lt z; rw [h5] at this; omega)]
            exact ⟨rfl, hR⟩
          · have n5 := i32_ne h5
            have lt : r_pairs σ < (8 : Int32) := Int32.lt_iff_toInt_lt.mpr (by omega)
            rw [if_neg h5, if_pos lt, if_neg (fun z => by have := i32_lt z; omega), if_pos lt]
            simp only [Rq_manner_key, Rq_fault_key, Rq_things_key, Rq_many_key, Rq_field_key, Rq_place_key, Rq_colour_key, Rq_isFreed_key, Rq_hasWish_key, Rq_moved_key, Rq_register_key, Rq_slot_key, Rq_wishes_key, Rq_wishAt_key, Rq_weakAt_key, Rq_pairs_key, Rq_key_key, Rq_value_key, Rq_isPair_key, Rq_half_key, Rq_top_key, Rq_way_key, Rq_next_key, Rq_freedMany_key, Rq_rounds_key, Rq_steps_key, Rq_shaded_key, Rq_movedMany_key, Rq_isReached_key, Rq_more_key]
            exact ⟨trivial, rel_pair hR h5 (vn_th (vreg hR h1) h3) (vn_th (vreg hR h2) h4) _ (i32_1 (B := 8) (by omega))⟩
    · rw [reg5_0 h2, reg6_0 h2, if_pos rfl, if_pos rfl]
      exact ⟨rfl, hR⟩
  · rw [reg5_0 h1, reg6_0 h1, if_pos rfl, if_pos rfl]
    exact ⟨rfl, hR⟩
end L
