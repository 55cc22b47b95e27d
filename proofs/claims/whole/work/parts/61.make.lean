/-! PURE, part 61: make -/
theorem vn_mono {n n' x : Int32} (hn : n.toInt ≤ n'.toInt) (h : VN n x) : VN n' x := h.imp id (fun t => ⟨t.1, by have := t.2; omega⟩)
theorem th_mono {n n' x : Int32} (hn : n.toInt ≤ n'.toInt) (t : TH n x) : TH n' x := ⟨t.1, by have := t.2; omega⟩
theorem gh_mono {n n' w : Int32} {register slot wishAt weakAt hheld named : Nat → Int32} (hn : n.toInt ≤ n'.toInt) (h : GH n w register slot wishAt weakAt hheld named) : GH n' w register slot wishAt weakAt hheld named :=
  ⟨fun k hk => ⟨(h.1 k hk).1, vn_mono hn (h.1 k hk).2⟩, fun k hk => ⟨(h.2.1 k hk).1, vn_mono hn (h.2.1 k hk).2⟩, fun k hk => ⟨(h.2.2.1 k hk).1, th_mono hn (h.2.2.1 k hk).2⟩, fun k hk => ⟨(h.2.2.2 k hk).1, vn_mono hn (h.2.2.2 k hk).2⟩⟩
theorem gp_mono {n n' q : Int32} {isPair key value keys values : Nat → Int32} (hn : n.toInt ≤ n'.toInt) (h : GP n q isPair key value keys values) : GP n' q isPair key value keys values :=
  ⟨fun k hk => (h.1 k hk).imp id (fun ⟨a, b, d, e, f⟩ => ⟨a, b, d, th_mono hn e, th_mono hn f⟩), h.2⟩
theorem gt_mk {n n' : Int32} {many place colour freed wish moved field sizes places colours freedC wishing moves theld : Nat → Int32} (h : GT n many place colour freed wish moved field sizes places colours freedC wishing moves theld) {N : Nat} (hN : (N : Int) = n.toInt) (hn : n'.toInt = n.toInt + 1) (x3 pl col w : Int32) (hw : w = 0 ∨ w = 1) :
    GT n' (upd many N x3) (upd place N pl) (upd colour N col) (upd freed N 0) (upd wish N w) (upd moved N 0) (asgF field (6 * (N : Int)) (6 * (N : Int) + (6 : Nat)) (-1)) (upd sizes N (x3 + 1)) (upd places N pl) (upd colours N col) (upd freedC N 0) (upd wishing N w) (upd moves N 0) (asgF theld (6 * (N : Int)) (6 * (N : Int) + (6 : Nat)) (-1)) := by
  intro k hk
  by_cases e : k = N
  · subst e
    refine ⟨⟨by rw [pk_us, pk_us], by rw [pk_us, pk_us], by rw [pk_us, pk_us], by rw [pk_us, pk_us], by rw [pk_us, pk_us], by rw [pk_us, pk_us]⟩, Or.inl pk_us, by rw [pk_us]; exact hw, fun z => absurd (pk_us.symm.trans z) (by decide), fun i hi => ?_⟩
    unfold asgF
    rw [if_pos ⟨by omega, by omega⟩, if_pos ⟨by omega, by omega⟩]
    exact ⟨rfl, Or.inl rfl⟩
  · obtain ⟨⟨b1, b2, b3, b4, b5, b6⟩, g2, g3, g4, g5⟩ := h k (by omega)
    refine ⟨⟨by rw [pk_un e, pk_un e]; exact b1, by rw [pk_un e, pk_un e]; exact b2, by rw [pk_un e, pk_un e]; exact b3, by rw [pk_un e, pk_un e]; exact b4, by rw [pk_un e, pk_un e]; exact b5, by rw [pk_un e, pk_un e]; exact b6⟩, by rw [pk_un e]; exact g2, by rw [pk_un e]; exact g3, fun z => ?_, fun i hi => ?_⟩
    · rw [pk_un e] at z
      rw [pk_un e, pk_un e]
      exact g4 z
    · unfold asgF
      rw [if_neg (by omega), if_neg (by omega)]
      exact ⟨(g5 i hi).1, vn_mono (by omega) (g5 i hi).2⟩
theorem lv_mk {n n' : Int32} {freed : Nat → Int32} {N : Nat} (hN : (N : Int) = n.toInt) (hn : n'.toInt = n.toInt + 1) {k : Nat} (h : LV n' (upd freed N 0) k) : k = N ∨ (k ≠ N ∧ LV n freed k) := by
  by_cases e : k = N
  · exact Or.inl e
  · have h2 := h.2
    rw [pk_un e] at h2
    exact Or.inr ⟨e, by have := h.1; omega, h2⟩
theorem lv_mk2 {n n' : Int32} {freed : Nat → Int32} {N : Nat} (hN : (N : Int) = n.toInt) (hn : n'.toInt = n.toInt + 1) {k : Nat} (h : LV n freed k) : k ≠ N ∧ LV n' (upd freed N 0) k := by
  have e : k ≠ N := fun e => by have := h.1; omega
  exact ⟨e, by have := h.1; omega, by rw [pk_un e]; exact h.2⟩
theorem gc_mk {n n' : Int32} {many place freed cmap : Nat → Int32} (h : GC n many place freed cmap) {N : Nat} (hN : (N : Int) = n.toInt) (hn : n'.toInt = n.toInt + 1) {x3 pl : Int32} (hx3 : 0 ≤ x3.toInt ∧ x3.toInt ≤ 6) (hp0 : 0 ≤ pl.toInt) (hp1 : pl.toInt + (x3.toInt + 1) ≤ 200) (hp2 : ∀ k : Nat, LV n freed k → pl.toInt + (x3.toInt + 1) ≤ (place k).toInt ∨ (place k).toInt + (many k).toInt + 1 ≤ pl.toInt) {x : Int32} (hx : x = nI N) : GC n' (upd many N x3) (upd place N pl) (upd freed N 0) (asgF cmap pl.toInt (pl.toInt + (x3.toInt + 1)) x) := by
  obtain ⟨h1, h2, h3⟩ := h
  refine ⟨fun k hk => ?_, fun i j hi hj e => ?_, fun j hj => ?_⟩
  · rcases lv_mk hN hn hk with e | ⟨e, hk'⟩
    · rw [e, pk_us, pk_us]
      omega
    · rw [pk_un e, pk_un e]
      exact h1 k hk'
  · rcases lv_mk hN hn hi with e1 | ⟨e1, hi'⟩
    · rcases lv_mk hN hn hj with e2 | ⟨e2, hj'⟩
      · exact absurd (e1.trans e2.symm) e
      · rw [e1, pk_us, pk_us, pk_un e2, pk_un e2]
        have := hp2 j hj'
        omega
    · rcases lv_mk hN hn hj with e2 | ⟨e2, hj'⟩
      · rw [e2, pk_us, pk_us, pk_un e1, pk_un e1]
        have := hp2 i hi'
        omega
      · rw [pk_un e1, pk_un e1, pk_un e2, pk_un e2]
        exact h2 i j hi' hj' e
  · unfold asgF
    by_cases c1 : pl.toInt ≤ (j : Int) ∧ (j : Int) < pl.toInt + (x3.toInt + 1)
    · rw [if_pos c1]
      refine Or.inl ⟨N, ⟨⟨by omega, pk_us⟩, ?_, ?_⟩, hx⟩
      · rw [pk_us]
        exact c1.1
      · rw [pk_us, pk_us]
        omega
    · rw [if_neg c1]
      rcases h3 j hj with ⟨k, hk, ek⟩ | ⟨hc, ek⟩
      · obtain ⟨e, hk'⟩ := lv_mk2 hN hn hk.1
        refine Or.inl ⟨k, ⟨hk', ?_, ?_⟩, ek⟩
        · rw [pk_un e]
          exact hk.2.1
        · rw [pk_un e, pk_un e]
          exact hk.2.2
      · refine Or.inr ⟨fun k hk => ?_, ek⟩
        obtain ⟨a1, a2, a3⟩ := hk
        rcases lv_mk hN hn a1 with e | ⟨e, hk'⟩
        · rw [e, pk_us] at a2
          rw [e, pk_us, pk_us] at a3
          exact c1 ⟨a2, by omega⟩
        · rw [pk_un e] at a2
          rw [pk_un e, pk_un e] at a3
          exact hc k ⟨hk', a2, a3⟩
theorem g3_mk {n n' way half top : Int32} {many place colour freed : Nat → Int32} (h : G3 n way half top many place colour freed) {N : Nat} (hN : (N : Int) = n.toInt) (hn : n'.toInt = n.toInt + 1) {x3 col pl tp : Int32} (hx3 : 0 ≤ x3.toInt ∧ x3.toInt ≤ 6) (hc : col = 0 ∨ col = 2) (hw0 : way = 0 → col = 0) (ht0 : 0 ≤ top.toInt) (hcap : top.toInt + (x3.toInt + 1) ≤ 100)
    (hw1 : way = 1 → (col = 0 → top.toInt + (x3.toInt + 1) + (sumN (whN many colour freed) n.toInt.toNat : Int) + (x3.toInt + 1) ≤ 100) ∧ top.toInt + (x3.toInt + 1) + (sumN (whN many colour freed) n.toInt.toNat : Int) ≤ 100) (hpl : pl.toInt = 100 * half.toInt + top.toInt) (htp : tp.toInt = top.toInt + (x3.toInt + 1)) : G3 n' way half tp (upd many N x3) (upd place N pl) (upd colour N col) (upd freed N 0) := by
  obtain ⟨h1, h2, h3, h4⟩ := h
  have en : n'.toInt.toNat = N + 1 := by omega
  have en0 : n.toInt.toNat = N := by omega
  have s1 : sumN (nwN (upd many N x3) (upd colour N col) (upd freed N 0)) (N + 1) = sumN (nwN many colour freed) N + (if col = 0 then 0 else x3.toInt.toNat + 1) := by
    have e1 : sumN (nwN (upd many N x3) (upd colour N col) (upd freed N 0)) N = sumN (nwN many colour freed) N := sumN_congr (fun k hk => by
      have e : k ≠ N := by omega
      unfold nwN szN
      rw [pk_un e, pk_un e, pk_un e])
    have e2 : nwN (upd many N x3) (upd colour N col) (upd freed N 0) N = (if col = 0 then 0 else x3.toInt.toNat + 1) := by
      unfold nwN szN
      rw [pk_us, pk_us, pk_us, if_pos rfl]
    show sumN (nwN (upd many N x3) (upd colour N col) (upd freed N 0)) N + nwN (upd many N x3) (upd colour N col) (upd freed N 0) N = _
    rw [e1, e2]
  have s2 : sumN (whN (upd many N x3) (upd colour N col) (upd freed N 0)) (N + 1) = sumN (whN many colour freed) N + (if col = 0 then x3.toInt.toNat + 1 else 0) := by
    have e1 : sumN (whN (upd many N x3) (upd colour N col) (upd freed N 0)) N = sumN (whN many colour freed) N := sumN_congr (fun k hk => by
      have e : k ≠ N := by omega
      unfold whN szN
      rw [pk_un e, pk_un e, pk_un e])
    have e2 : whN (upd many N x3) (upd colour N col) (upd freed N 0) N = (if col = 0 then x3.toInt.toNat + 1 else 0) := by
      unfold whN szN
      rw [pk_us, pk_us, pk_us, if_pos rfl]
    show sumN (whN (upd many N x3) (upd colour N col) (upd freed N 0)) N + whN (upd many N x3) (upd colour N col) (upd freed N 0) N = _
    rw [e1, e2]
  rw [en0] at h3 h4 hw1
  unfold G3
  rw [en, s1, s2]
  refine ⟨h1, fun k hk => ?_, fun z => ?_, fun z => ?_⟩
  · rcases lv_mk hN hn hk with e | ⟨e, hk'⟩
    · rw [e, pk_us, pk_us]
      refine Or.inl ?_
      unfold inHalf
      omega
    · rw [pk_un e, pk_un e, pk_un e]
      rcases h2 k hk' with a | a
      · refine Or.inl ?_
        unfold inHalf at a ⊢
        omega
      · exact Or.inr a
  · have := h3 z
    rw [hw0 z, if_pos rfl, if_pos rfl]
    omega
  · have h5 := h4 z
    have h6 := hw1 z
    rcases hc with e | e
    · have := h6.1 e
      rw [if_pos e, if_pos e]
      omega
    · rw [if_neg (by rw [e]; decide), if_neg (by rw [e]; decide)]
      omega
section M
variable {oo : Int32} {σ : RSt} {c : CSt}
theorem s0_mk (h : S0 σ) (A B C D E F G : Nat → Int32) (tp n' : Int32) (hA : ∀ k, 0 ≤ (A k).toInt ∧ (A k).toInt ≤ 6) (hG : ∀ k, VT (G k)) (hn : 0 ≤ n'.toInt ∧ n'.toInt ≤ 120) (hw : (r_wishes σ).toInt + (cntB E n'.toInt.toNat : Int) ≤ n'.toInt) (hx : (r_things σ).toInt ≤ n'.toInt) : S0 (r_things_s (r_top_s (r_field_s (r_moved_s (r_hasWish_s (r_isFreed_s (r_colour_s (r_place_s (r_many_s σ A) B) C) D) E) F) G) tp) n') := by
  obtain ⟨s1, s2, s3, s4, s5, s6, s7, s8, s9, s10, s11, s12, s13⟩ := h
  unfold S0
  simp only [Rp_manner_many, Rp_fault_many, Rp_things_many, Rp_many_many, Rp_field_many, Rp_place_many, Rp_colour_many, Rp_isFreed_many, Rp_hasWish_many, Rp_moved_many, Rp_register_many, Rp_slot_many, Rp_wishes_many, Rp_wishAt_many, Rp_weakAt_many, Rp_pairs_many, Rp_key_many, Rp_value_many, Rp_isPair_many, Rp_half_many, Rp_top_many, Rp_way_many, Rp_next_many, Rp_freedMany_many, Rp_rounds_many, Rp_steps_many, Rp_shaded_many, Rp_movedMany_many, Rp_isReached_many, Rp_more_many, Rp_manner_place, Rp_fault_place, Rp_things_place, Rp_many_place, Rp_field_place, Rp_place_place, Rp_colour_place, Rp_isFreed_place, Rp_hasWish_place, Rp_moved_place, Rp_register_place, Rp_slot_place, Rp_wishes_place, Rp_wishAt_place, Rp_weakAt_place, Rp_pairs_place, Rp_key_place, Rp_value_place, Rp_isPair_place, Rp_half_place, Rp_top_place, Rp_way_place, Rp_next_place, Rp_freedMany_place, Rp_rounds_place, Rp_steps_place, Rp_shaded_place, Rp_movedMany_place, Rp_isReached_place, Rp_more_place, Rp_manner_colour, Rp_fault_colour, Rp_things_colour, Rp_many_colour, Rp_field_colour, Rp_place_colour, Rp_colour_colour, Rp_isFreed_colour, Rp_hasWish_colour, Rp_moved_colour, Rp_register_colour, Rp_slot_colour, Rp_wishes_colour, Rp_wishAt_colour, Rp_weakAt_colour, Rp_pairs_colour, Rp_key_colour, Rp_value_colour, Rp_isPair_colour, Rp_half_colour, Rp_top_colour, Rp_way_colour, Rp_next_colour, Rp_freedMany_colour, Rp_rounds_colour, Rp_steps_colour, Rp_shaded_colour, Rp_movedMany_colour, Rp_isReached_colour, Rp_more_colour, Rp_manner_isFreed, Rp_fault_isFreed, Rp_things_isFreed, Rp_many_isFreed, Rp_field_isFreed, Rp_place_isFreed, Rp_colour_isFreed, Rp_isFreed_isFreed, Rp_hasWish_isFreed, Rp_moved_isFreed, Rp_register_isFreed, Rp_slot_isFreed, Rp_wishes_isFreed, Rp_wishAt_isFreed, Rp_weakAt_isFreed, Rp_pairs_isFreed, Rp_key_isFreed, Rp_value_isFreed, Rp_isPair_isFreed, Rp_half_isFreed, Rp_top_isFreed, Rp_way_isFreed, Rp_next_isFreed, Rp_freedMany_isFreed, Rp_rounds_isFreed, Rp_steps_isFreed, Rp_shaded_isFreed, Rp_movedMany_isFreed, Rp_isReached_isFreed, Rp_more_isFreed, Rp_manner_hasWish, Rp_fault_hasWish, Rp_things_hasWish, Rp_many_hasWish, Rp_field_hasWish, Rp_place_hasWish, Rp_colour_hasWish, Rp_isFreed_hasWish, Rp_hasWish_hasWish, Rp_moved_hasWish, Rp_register_hasWish, Rp_slot_hasWish, Rp_wishes_hasWish, Rp_wishAt_hasWish, Rp_weakAt_hasWish, Rp_pairs_hasWish, Rp_key_hasWish, Rp_value_hasWish, Rp_isPair_hasWish, Rp_half_hasWish, Rp_top_hasWish, Rp_way_hasWish, Rp_next_hasWish, Rp_freedMany_hasWish, Rp_rounds_hasWish, Rp_steps_hasWish, Rp_shaded_hasWish, Rp_movedMany_hasWish, Rp_isReached_hasWish, Rp_more_hasWish, Rp_manner_moved, Rp_fault_moved, Rp_things_moved, Rp_many_moved, Rp_field_moved, Rp_place_moved, Rp_colour_moved, Rp_isFreed_moved, Rp_hasWish_moved, Rp_moved_moved, Rp_register_moved, Rp_slot_moved, Rp_wishes_moved, Rp_wishAt_moved, Rp_weakAt_moved, Rp_pairs_moved, Rp_key_moved, Rp_value_moved, Rp_isPair_moved, Rp_half_moved, Rp_top_moved, Rp_way_moved, Rp_next_moved, Rp_freedMany_moved, Rp_rounds_moved, Rp_steps_moved, Rp_shaded_moved, Rp_movedMany_moved, Rp_isReached_moved, Rp_more_moved, Rp_manner_field, Rp_fault_field, Rp_things_field, Rp_many_field, Rp_field_field, Rp_place_field, Rp_colour_field, Rp_isFreed_field, Rp_hasWish_field, Rp_moved_field, Rp_register_field, Rp_slot_field, Rp_wishes_field, Rp_wishAt_field, Rp_weakAt_field, Rp_pairs_field, Rp_key_field, Rp_value_field, Rp_isPair_field, Rp_half_field, Rp_top_field, Rp_way_field, Rp_next_field, Rp_freedMany_field, Rp_rounds_field, Rp_steps_field, Rp_shaded_field, Rp_movedMany_field, Rp_isReached_field, Rp_more_field, Rp_manner_top, Rp_fault_top, Rp_things_top, Rp_many_top, Rp_field_top, Rp_place_top, Rp_colour_top, Rp_isFreed_top, Rp_hasWish_top, Rp_moved_top, Rp_register_top, Rp_slot_top, Rp_wishes_top, Rp_wishAt_top, Rp_weakAt_top, Rp_pairs_top, Rp_key_top, Rp_value_top, Rp_isPair_top, Rp_half_top, Rp_top_top, Rp_way_top, Rp_next_top, Rp_freedMany_top, Rp_rounds_top, Rp_steps_top, Rp_shaded_top, Rp_movedMany_top, Rp_isReached_top, Rp_more_top, Rp_manner_things, Rp_fault_things, Rp_things_things, Rp_many_things, Rp_field_things, Rp_place_things, Rp_colour_things, Rp_isFreed_things, Rp_hasWish_things, Rp_moved_things, Rp_register_things, Rp_slot_things, Rp_wishes_things, Rp_wishAt_things, Rp_weakAt_things, Rp_pairs_things, Rp_key_things, Rp_value_things, Rp_isPair_things, Rp_half_things, Rp_top_things, Rp_way_things, Rp_next_things, Rp_freedMany_things, Rp_rounds_things, Rp_steps_things, Rp_shaded_things, Rp_movedMany_things, Rp_isReached_things, Rp_more_things]
  exact ⟨hn, hA, hG, s4, s5, s6, s7, s8, s9, ⟨s10.1, hw⟩, s11, s12, s13.imp id (fun q => q.imp id (fun q => Int.le_trans q hx))⟩
theorem rel_mk0 (h : RelO oo σ c) (A B C D E F G a b cc d e f g m : Nat → Int32) (tp n' n5 : Int32) (hS : S0 (r_things_s (r_top_s (r_field_s (r_moved_s (r_hasWish_s (r_isFreed_s (r_colour_s (r_place_s (r_many_s σ A) B) C) D) E) F) G) tp) n')) (en : n5 = n') (hq : (r_shaded σ).toInt ≤ cntB C n'.toInt.toNat) (hT : GT n' A B C D E F G a b cc e f d g) (hH : GH n' (r_wishes σ) (r_register σ) (r_slot σ) (r_wishAt σ) (r_weakAt σ) (c_hheld c) (c_named c)) (hP : GP n' (r_pairs σ) (r_isPair σ) (r_key σ) (r_value σ) (c_keys c) (c_values c)) (hC : GC n' A B D m) (hG : GS (r_half σ) tp (c_halfEnd c) (c_behind c)) (h3 : r_manner σ = 3 → G3 n' (r_way σ) (r_half σ) tp A B C D) :
    RelO oo (r_things_s (r_top_s (r_field_s (r_moved_s (r_hasWish_s (r_isFreed_s (r_colour_s (r_place_s (r_many_s σ A) B) C) D) E) F) G) tp) n') (c_cmap_s (c_tmade_s (c_theld_s (c_wishing_s (c_freed_s (c_moves_s (c_colours_s (c_places_s (c_sizes_s c a) b) cc) d) e) f) g) n5) m) := by
  refine ⟨hS, ?_⟩
  clear hS
  obtain ⟨_, ⟨a1, a2, a3, a4, a5, a6, a7, a8, a9, a10, a11, a12, a13⟩, _, _, _, _, _, _⟩ := h
  unfold GA rGT rGH rGP rGC
  simp only [Rp_manner_many, Rp_fault_many, Rp_things_many, Rp_many_many, Rp_field_many, Rp_place_many, Rp_colour_many, Rp_isFreed_many, Rp_hasWish_many, Rp_moved_many, Rp_register_many, Rp_slot_many, Rp_wishes_many, Rp_wishAt_many, Rp_weakAt_many, Rp_pairs_many, Rp_key_many, Rp_value_many, Rp_isPair_many, Rp_half_many, Rp_top_many, Rp_way_many, Rp_next_many, Rp_freedMany_many, Rp_rounds_many, Rp_steps_many, Rp_shaded_many, Rp_movedMany_many, Rp_isReached_many, Rp_more_many, Rp_manner_place, Rp_fault_place, Rp_things_place, Rp_many_place, Rp_field_place, Rp_place_place, Rp_colour_place, Rp_isFreed_place, Rp_hasWish_place, Rp_moved_place, Rp_register_place, Rp_slot_place, Rp_wishes_place, Rp_wishAt_place, Rp_weakAt_place, Rp_pairs_place, Rp_key_place, Rp_value_place, Rp_isPair_place, Rp_half_place, Rp_top_place, Rp_way_place, Rp_next_place, Rp_freedMany_place, Rp_rounds_place, Rp_steps_place, Rp_shaded_place, Rp_movedMany_place, Rp_isReached_place, Rp_more_place, Rp_manner_colour, Rp_fault_colour, Rp_things_colour, Rp_many_colour, Rp_field_colour, Rp_place_colour, Rp_colour_colour, Rp_isFreed_colour, Rp_hasWish_colour, Rp_moved_colour, Rp_register_colour, Rp_slot_colour, Rp_wishes_colour, Rp_wishAt_colour, Rp_weakAt_colour, Rp_pairs_colour, Rp_key_colour, Rp_value_colour, Rp_isPair_colour, Rp_half_colour, Rp_top_colour, Rp_way_colour, Rp_next_colour, Rp_freedMany_colour, Rp_rounds_colour, Rp_steps_colour, Rp_shaded_colour, Rp_movedMany_colour, Rp_isReached_colour, Rp_more_colour, Rp_manner_isFreed, Rp_fault_isFreed, Rp_things_isFreed, Rp_many_isFreed, Rp_field_isFreed, Rp_place_isFreed, Rp_colour_isFreed, Rp_isFreed_isFreed, Rp_hasWish_isFreed, Rp_moved_isFreed, Rp_register_isFreed, Rp_slot_isFreed, Rp_wishes_isFreed, Rp_wishAt_isFreed, Rp_weakAt_isFreed, Rp_pairs_isFreed, Rp_key_isFreed, Rp_value_isFreed, Rp_isPair_isFreed, Rp_half_isFreed, Rp_top_isFreed, Rp_way_isFreed, Rp_next_isFreed, Rp_freedMany_isFreed, Rp_rounds_isFreed, Rp_steps_isFreed, Rp_shaded_isFreed, Rp_movedMany_isFreed, Rp_isReached_isFreed, Rp_more_isFreed, Rp_manner_hasWish, Rp_fault_hasWish, Rp_things_hasWish, Rp_many_hasWish, Rp_field_hasWish, Rp_place_hasWish, Rp_colour_hasWish, Rp_isFreed_hasWish, Rp_hasWish_hasWish, Rp_moved_hasWish, Rp_register_hasWish, Rp_slot_hasWish, Rp_wishes_hasWish, Rp_wishAt_hasWish, Rp_weakAt_hasWish, Rp_pairs_hasWish, Rp_key_hasWish, Rp_value_hasWish, Rp_isPair_hasWish, Rp_half_hasWish, Rp_top_hasWish, Rp_way_hasWish, Rp_next_hasWish, Rp_freedMany_hasWish, Rp_rounds_hasWish, Rp_steps_hasWish, Rp_shaded_hasWish, Rp_movedMany_hasWish, Rp_isReached_hasWish, Rp_more_hasWish, Rp_manner_moved, Rp_fault_moved, Rp_things_moved, Rp_many_moved, Rp_field_moved, Rp_place_moved, Rp_colour_moved, Rp_isFreed_moved, Rp_hasWish_moved, Rp_moved_moved, Rp_register_moved, Rp_slot_moved, Rp_wishes_moved, Rp_wishAt_moved, Rp_weakAt_moved, Rp_pairs_moved, Rp_key_moved, Rp_value_moved, Rp_isPair_moved, Rp_half_moved, Rp_top_moved, Rp_way_moved, Rp_next_moved, Rp_freedMany_moved, Rp_rounds_moved, Rp_steps_moved, Rp_shaded_moved, Rp_movedMany_moved, Rp_isReached_moved, Rp_more_moved, Rp_manner_field, Rp_fault_field, Rp_things_field, Rp_many_field, Rp_field_field, Rp_place_field, Rp_colour_field, Rp_isFreed_field, Rp_hasWish_field, Rp_moved_field, Rp_register_field, Rp_slot_field, Rp_wishes_field, Rp_wishAt_field, Rp_weakAt_field, Rp_pairs_field, Rp_key_field, Rp_value_field, Rp_isPair_field, Rp_half_field, Rp_top_field, Rp_way_field, Rp_next_field, Rp_freedMany_field, Rp_rounds_field, Rp_steps_field, Rp_shaded_field, Rp_movedMany_field, Rp_isReached_field, Rp_more_field, Rp_manner_top, Rp_fault_top, Rp_things_top, Rp_many_top, Rp_field_top, Rp_place_top, Rp_colour_top, Rp_isFreed_top, Rp_hasWish_top, Rp_moved_top, Rp_register_top, Rp_slot_top, Rp_wishes_top, Rp_wishAt_top, Rp_weakAt_top, Rp_pairs_top, Rp_key_top, Rp_value_top, Rp_isPair_top, Rp_half_top, Rp_top_top, Rp_way_top, Rp_next_top, Rp_freedMany_top, Rp_rounds_top, Rp_steps_top, Rp_shaded_top, Rp_movedMany_top, Rp_isReached_top, Rp_more_top, Rp_manner_things, Rp_fault_things, Rp_things_things, Rp_many_things, Rp_field_things, Rp_place_things, Rp_colour_things, Rp_isFreed_things, Rp_hasWish_things, Rp_moved_things, Rp_register_things, Rp_slot_things, Rp_wishes_things, Rp_wishAt_things, Rp_weakAt_things, Rp_pairs_things, Rp_key_things, Rp_value_things, Rp_isPair_things, Rp_half_things, Rp_top_things, Rp_way_things, Rp_next_things, Rp_freedMany_things, Rp_rounds_things, Rp_steps_things, Rp_shaded_things, Rp_movedMany_things, Rp_isReached_things, Rp_more_things, Cp_manner_sizes, Cp_fault_sizes, Cp_under_sizes, Cp_nextS_sizes, Cp_rounds_sizes, Cp_steps_sizes, Cp_shaded_sizes, Cp_moved_sizes, Cp_tmade_sizes, Cp_sizes_sizes, Cp_places_sizes, Cp_colours_sizes, Cp_moves_sizes, Cp_freed_sizes, Cp_wishing_sizes, Cp_theld_sizes, Cp_cmap_sizes, Cp_halfEnd_sizes, Cp_behind_sizes, Cp_hheld_sizes, Cp_named_sizes, Cp_wishes_sizes, Cp_pmade_sizes, Cp_keys_sizes, Cp_values_sizes, Cp_found_sizes, Cp_order_sizes, Cp_rcount_sizes, Cp_manner_places, Cp_fault_places, Cp_under_places, Cp_nextS_places, Cp_rounds_places, Cp_steps_places, Cp_shaded_places, Cp_moved_places, Cp_tmade_places, Cp_sizes_places, Cp_places_places, Cp_colours_places, Cp_moves_places, Cp_freed_places, Cp_wishing_places, Cp_theld_places, Cp_cmap_places, Cp_halfEnd_places, Cp_behind_places, Cp_hheld_places, Cp_named_places, Cp_wishes_places, Cp_pmade_places, Cp_keys_places, Cp_values_places, Cp_found_places, Cp_order_places, Cp_rcount_places, Cp_manner_colours, Cp_fault_colours, Cp_under_colours, Cp_nextS_colours, Cp_rounds_colours, Cp_steps_colours, Cp_shaded_colours, Cp_moved_colours, Cp_tmade_colours, Cp_sizes_colours, Cp_places_colours, Cp_colours_colours, Cp_moves_colours, Cp_freed_colours, Cp_wishing_colours, Cp_theld_colours, Cp_cmap_colours, Cp_halfEnd_colours, Cp_behind_colours, Cp_hheld_colours, Cp_named_colours, Cp_wishes_colours, Cp_pmade_colours, Cp_keys_colours, Cp_values_colours, Cp_found_colours, Cp_order_colours, Cp_rcount_colours, Cp_manner_moves, Cp_fault_moves, Cp_under_moves, Cp_nextS_moves, Cp_rounds_moves, Cp_steps_moves, Cp_shaded_moves, Cp_moved_moves, Cp_tmade_moves, Cp_sizes_moves, Cp_places_moves, Cp_colours_moves, Cp_moves_moves, Cp_freed_moves, Cp_wishing_moves, Cp_theld_moves, Cp_cmap_moves, Cp_halfEnd_moves, Cp_behind_moves, Cp_hheld_moves, Cp_named_moves, Cp_wishes_moves, Cp_pmade_moves, Cp_keys_moves, Cp_values_moves, Cp_found_moves, Cp_order_moves, Cp_rcount_moves, Cp_manner_freed, Cp_fault_freed, Cp_under_freed, Cp_nextS_freed, Cp_rounds_freed, Cp_steps_freed, Cp_shaded_freed, Cp_moved_freed, Cp_tmade_freed, Cp_sizes_freed, Cp_places_freed, Cp_colours_freed, Cp_moves_freed, Cp_freed_freed, Cp_wishing_freed, Cp_theld_freed, Cp_cmap_freed, Cp_halfEnd_freed, Cp_behind_freed, Cp_hheld_freed, Cp_named_freed, Cp_wishes_freed, Cp_pmade_freed, Cp_keys_freed, Cp_values_freed, Cp_found_freed, Cp_order_freed, Cp_rcount_freed, Cp_manner_wishing, Cp_fault_wishing, Cp_under_wishing, Cp_nextS_wishing, Cp_rounds_wishing, Cp_steps_wishing, Cp_shaded_wishing, Cp_moved_wishing, Cp_tmade_wishing, Cp_sizes_wishing, Cp_places_wishing, Cp_colours_wishing, Cp_moves_wishing, Cp_freed_wishing, Cp_wishing_wishing, Cp_theld_wishing, Cp_cmap_wishing, Cp_halfEnd_wishing, Cp_behind_wishing, Cp_hheld_wishing, Cp_named_wishing, Cp_wishes_wishing, Cp_pmade_wishing, Cp_keys_wishing, Cp_values_wishing, Cp_found_wishing, Cp_order_wishing, Cp_rcount_wishing, Cp_manner_theld, Cp_fault_theld, Cp_under_theld, Cp_nextS_theld, Cp_rounds_theld, Cp_steps_theld, Cp_shaded_theld, Cp_moved_theld, Cp_tmade_theld, Cp_sizes_theld, Cp_places_theld, Cp_colours_theld, Cp_moves_theld, Cp_freed_theld, Cp_wishing_theld, Cp_theld_theld, Cp_cmap_theld, Cp_halfEnd_theld, Cp_behind_theld, Cp_hheld_theld, Cp_named_theld, Cp_wishes_theld, Cp_pmade_theld, Cp_keys_theld, Cp_values_theld, Cp_found_theld, Cp_order_theld, Cp_rcount_theld, Cp_manner_tmade, Cp_fault_tmade, Cp_under_tmade, Cp_nextS_tmade, Cp_rounds_tmade, Cp_steps_tmade, Cp_shaded_tmade, Cp_moved_tmade, Cp_tmade_tmade, Cp_sizes_tmade, Cp_places_tmade, Cp_colours_tmade, Cp_moves_tmade, Cp_freed_tmade, Cp_wishing_tmade, Cp_theld_tmade, Cp_cmap_tmade, Cp_halfEnd_tmade, Cp_behind_tmade, Cp_hheld_tmade, Cp_named_tmade, Cp_wishes_tmade, Cp_pmade_tmade, Cp_keys_tmade, Cp_values_tmade, Cp_found_tmade, Cp_order_tmade, Cp_rcount_tmade, Cp_manner_cmap, Cp_fault_cmap, Cp_under_cmap, Cp_nextS_cmap, Cp_rounds_cmap, Cp_steps_cmap, Cp_shaded_cmap, Cp_moved_cmap, Cp_tmade_cmap, Cp_sizes_cmap, Cp_places_cmap, Cp_colours_cmap, Cp_moves_cmap, Cp_freed_cmap, Cp_wishing_cmap, Cp_theld_cmap, Cp_cmap_cmap, Cp_halfEnd_cmap, Cp_behind_cmap, Cp_hheld_cmap, Cp_named_cmap, Cp_wishes_cmap, Cp_pmade_cmap, Cp_keys_cmap, Cp_values_cmap, Cp_found_cmap, Cp_order_cmap, Cp_rcount_cmap]
  exact ⟨⟨a1, a2, a3, a4, a5, a6, a7, en, a9, a10, a11, a12, a13.1, hq⟩, hT, hH, hP, hC, hG, h3⟩
theorem rel_mk3 (h : RelO oo σ c) (A B C D E F G a b cc d e f g m : Nat → Int32) (tp n' n5 be : Int32) (hS : S0 (r_things_s (r_top_s (r_field_s (r_moved_s (r_hasWish_s (r_isFreed_s (r_colour_s (r_place_s (r_many_s σ A) B) C) D) E) F) G) tp) n')) (en : n5 = n') (hq : (r_shaded σ).toInt ≤ cntB C n'.toInt.toNat) (hT : GT n' A B C D E F G a b cc e f d g) (hH : GH n' (r_wishes σ) (r_register σ) (r_slot σ) (r_wishAt σ) (r_weakAt σ) (c_hheld c) (c_named c)) (hP : GP n' (r_pairs σ) (r_isPair σ) (r_key σ) (r_value σ) (c_keys c) (c_values c)) (hC : GC n' A B D m) (hG : GS (r_half σ) tp (c_halfEnd c) be) (h3 : r_manner σ = 3 → G3 n' (r_way σ) (r_half σ) tp A B C D) :
    RelO oo (r_things_s (r_top_s (r_field_s (r_moved_s (r_hasWish_s (r_isFreed_s (r_colour_s (r_place_s (r_many_s σ A) B) C) D) E) F) G) tp) n') (c_behind_s (c_cmap_s (c_tmade_s (c_theld_s (c_wishing_s (c_freed_s (c_moves_s (c_colours_s (c_places_s (c_sizes_s c a) b) cc) d) e) f) g) n5) m) be) := by
  refine ⟨hS, ?_⟩
  clear hS
  obtain ⟨_, ⟨a1, a2, a3, a4, a5, a6, a7, a8, a9, a10, a11, a12, a13⟩, _, _, _, _, _, _⟩ := h
  unfold GA rGT rGH rGP rGC
  simp only [Rp_manner_many, Rp_fault_many, Rp_things_many, Rp_many_many, Rp_field_many, Rp_place_many, Rp_colour_many, Rp_isFreed_many, Rp_hasWish_many, Rp_moved_many, Rp_register_many, Rp_slot_many, Rp_wishes_many, Rp_wishAt_many, Rp_weakAt_many, Rp_pairs_many, Rp_key_many, Rp_value_many, Rp_isPair_many, Rp_half_many, Rp_top_many, Rp_way_many, Rp_next_many, Rp_freedMany_many, Rp_rounds_many, Rp_steps_many, Rp_shaded_many, Rp_movedMany_many, Rp_isReached_many, Rp_more_many, Rp_manner_place, Rp_fault_place, Rp_things_place, Rp_many_place, Rp_field_place, Rp_place_place, Rp_colour_place, Rp_isFreed_place, Rp_hasWish_place, Rp_moved_place, Rp_register_place, Rp_slot_place, Rp_wishes_place, Rp_wishAt_place, Rp_weakAt_place, Rp_pairs_place, Rp_key_place, Rp_value_place, Rp_isPair_place, Rp_half_place, Rp_top_place, Rp_way_place, Rp_next_place, Rp_freedMany_place, Rp_rounds_place, Rp_steps_place, Rp_shaded_place, Rp_movedMany_place, Rp_isReached_place, Rp_more_place, Rp_manner_colour, Rp_fault_colour, Rp_things_colour, Rp_many_colour, Rp_field_colour, Rp_place_colour, Rp_colour_colour, Rp_isFreed_colour, Rp_hasWish_colour, Rp_moved_colour, Rp_register_colour, Rp_slot_colour, Rp_wishes_colour, Rp_wishAt_colour, Rp_weakAt_colour, Rp_pairs_colour, Rp_key_colour, Rp_value_colour, Rp_isPair_colour, Rp_half_colour, Rp_top_colour, Rp_way_colour, Rp_next_colour, Rp_freedMany_colour, Rp_rounds_colour, Rp_steps_colour, Rp_shaded_colour, Rp_movedMany_colour, Rp_isReached_colour, Rp_more_colour, Rp_manner_isFreed, Rp_fault_isFreed, Rp_things_isFreed, Rp_many_isFreed, Rp_field_isFreed, Rp_place_isFreed, Rp_colour_isFreed, Rp_isFreed_isFreed, Rp_hasWish_isFreed, Rp_moved_isFreed, Rp_register_isFreed, Rp_slot_isFreed, Rp_wishes_isFreed, Rp_wishAt_isFreed, Rp_weakAt_isFreed, Rp_pairs_isFreed, Rp_key_isFreed, Rp_value_isFreed, Rp_isPair_isFreed, Rp_half_isFreed, Rp_top_isFreed, Rp_way_isFreed, Rp_next_isFreed, Rp_freedMany_isFreed, Rp_rounds_isFreed, Rp_steps_isFreed, Rp_shaded_isFreed, Rp_movedMany_isFreed, Rp_isReached_isFreed, Rp_more_isFreed, Rp_manner_hasWish, Rp_fault_hasWish, Rp_things_hasWish, Rp_many_hasWish, Rp_field_hasWish, Rp_place_hasWish, Rp_colour_hasWish, Rp_isFreed_hasWish, Rp_hasWish_hasWish, Rp_moved_hasWish, Rp_register_hasWish, Rp_slot_hasWish, Rp_wishes_hasWish, Rp_wishAt_hasWish, Rp_weakAt_hasWish, Rp_pairs_hasWish, Rp_key_hasWish, Rp_value_hasWish, Rp_isPair_hasWish, Rp_half_hasWish, Rp_top_hasWish, Rp_way_hasWish, Rp_next_hasWish, Rp_freedMany_hasWish, Rp_rounds_hasWish, Rp_steps_hasWish, Rp_shaded_hasWish, Rp_movedMany_hasWish, Rp_isReached_hasWish, Rp_more_hasWish, Rp_manner_moved, Rp_fault_moved, Rp_things_moved, Rp_many_moved, Rp_field_moved, Rp_place_moved, Rp_colour_moved, Rp_isFreed_moved, Rp_hasWish_moved, Rp_moved_moved, Rp_register_moved, Rp_slot_moved, Rp_wishes_moved, Rp_wishAt_moved, Rp_weakAt_moved, Rp_pairs_moved, Rp_key_moved, Rp_value_moved, Rp_isPair_moved, Rp_half_moved, Rp_top_moved, Rp_way_moved, Rp_next_moved, Rp_freedMany_moved, Rp_rounds_moved, Rp_steps_moved, Rp_shaded_moved, Rp_movedMany_moved, Rp_isReached_moved, Rp_more_moved, Rp_manner_field, Rp_fault_field, Rp_things_field, Rp_many_field, Rp_field_field, Rp_place_field, Rp_colour_field, Rp_isFreed_field, Rp_hasWish_field, Rp_moved_field, Rp_register_field, Rp_slot_field, Rp_wishes_field, Rp_wishAt_field, Rp_weakAt_field, Rp_pairs_field, Rp_key_field, Rp_value_field, Rp_isPair_field, Rp_half_field, Rp_top_field, Rp_way_field, Rp_next_field, Rp_freedMany_field, Rp_rounds_field, Rp_steps_field, Rp_shaded_field, Rp_movedMany_field, Rp_isReached_field, Rp_more_field, Rp_manner_top, Rp_fault_top, Rp_things_top, Rp_many_top, Rp_field_top, Rp_place_top, Rp_colour_top, Rp_isFreed_top, Rp_hasWish_top, Rp_moved_top, Rp_register_top, Rp_slot_top, Rp_wishes_top, Rp_wishAt_top, Rp_weakAt_top, Rp_pairs_top, Rp_key_top, Rp_value_top, Rp_isPair_top, Rp_half_top, Rp_top_top, Rp_way_top, Rp_next_top, Rp_freedMany_top, Rp_rounds_top, Rp_steps_top, Rp_shaded_top, Rp_movedMany_top, Rp_isReached_top, Rp_more_top, Rp_manner_things, Rp_fault_things, Rp_things_things, Rp_many_things, Rp_field_things, Rp_place_things, Rp_colour_things, Rp_isFreed_things, Rp_hasWish_things, Rp_moved_things, Rp_register_things, Rp_slot_things, Rp_wishes_things, Rp_wishAt_things, Rp_weakAt_things, Rp_pairs_things, Rp_key_things, Rp_value_things, Rp_isPair_things, Rp_half_things, Rp_top_things, Rp_way_things, Rp_next_things, Rp_freedMany_things, Rp_rounds_things, Rp_steps_things, Rp_shaded_things, Rp_movedMany_things, Rp_isReached_things, Rp_more_things, Cp_manner_sizes, Cp_fault_sizes, Cp_under_sizes, Cp_nextS_sizes, Cp_rounds_sizes, Cp_steps_sizes, Cp_shaded_sizes, Cp_moved_sizes, Cp_tmade_sizes, Cp_sizes_sizes, Cp_places_sizes, Cp_colours_sizes, Cp_moves_sizes, Cp_freed_sizes, Cp_wishing_sizes, Cp_theld_sizes, Cp_cmap_sizes, Cp_halfEnd_sizes, Cp_behind_sizes, Cp_hheld_sizes, Cp_named_sizes, Cp_wishes_sizes, Cp_pmade_sizes, Cp_keys_sizes, Cp_values_sizes, Cp_found_sizes, Cp_order_sizes, Cp_rcount_sizes, Cp_manner_places, Cp_fault_places, Cp_under_places, Cp_nextS_places, Cp_rounds_places, Cp_steps_places, Cp_shaded_places, Cp_moved_places, Cp_tmade_places, Cp_sizes_places, Cp_places_places, Cp_colours_places, Cp_moves_places, Cp_freed_places, Cp_wishing_places, Cp_theld_places, Cp_cmap_places, Cp_halfEnd_places, Cp_behind_places, Cp_hheld_places, Cp_named_places, Cp_wishes_places, Cp_pmade_places, Cp_keys_places, Cp_values_places, Cp_found_places, Cp_order_places, Cp_rcount_places, Cp_manner_colours, Cp_fault_colours, Cp_under_colours, Cp_nextS_colours, Cp_rounds_colours, Cp_steps_colours, Cp_shaded_colours, Cp_moved_colours, Cp_tmade_colours, Cp_sizes_colours, Cp_places_colours, Cp_colours_colours, Cp_moves_colours, Cp_freed_colours, Cp_wishing_colours, Cp_theld_colours, Cp_cmap_colours, Cp_halfEnd_colours, Cp_behind_colours, Cp_hheld_colours, Cp_named_colours, Cp_wishes_colours, Cp_pmade_colours, Cp_keys_colours, Cp_values_colours, Cp_found_colours, Cp_order_colours, Cp_rcount_colours, Cp_manner_moves, Cp_fault_moves, Cp_under_moves, Cp_nextS_moves, Cp_rounds_moves, Cp_steps_moves, Cp_shaded_moves, Cp_moved_moves, Cp_tmade_moves, Cp_sizes_moves, Cp_places_moves, Cp_colours_moves, Cp_moves_moves, Cp_freed_moves, Cp_wishing_moves, Cp_theld_moves, Cp_cmap_moves, Cp_halfEnd_moves, Cp_behind_moves, Cp_hheld_moves, Cp_named_moves, Cp_wishes_moves, Cp_pmade_moves, Cp_keys_moves, Cp_values_moves, Cp_found_moves, Cp_order_moves, Cp_rcount_moves, Cp_manner_freed, Cp_fault_freed, Cp_under_freed, Cp_nextS_freed, Cp_rounds_freed, Cp_steps_freed, Cp_shaded_freed, Cp_moved_freed, Cp_tmade_freed, Cp_sizes_freed, Cp_places_freed, Cp_colours_freed, Cp_moves_freed, Cp_freed_freed, Cp_wishing_freed, Cp_theld_freed, Cp_cmap_freed, Cp_halfEnd_freed, Cp_behind_freed, Cp_hheld_freed, Cp_named_freed, Cp_wishes_freed, Cp_pmade_freed, Cp_keys_freed, Cp_values_freed, Cp_found_freed, Cp_order_freed, Cp_rcount_freed, Cp_manner_wishing, Cp_fault_wishing, Cp_under_wishing, Cp_nextS_wishing, Cp_rounds_wishing, Cp_steps_wishing, Cp_shaded_wishing, Cp_moved_wishing, Cp_tmade_wishing, Cp_sizes_wishing, Cp_places_wishing, Cp_colours_wishing, Cp_moves_wishing, Cp_freed_wishing, Cp_wishing_wishing, Cp_theld_wishing, Cp_cmap_wishing, Cp_halfEnd_wishing, Cp_behind_wishing, Cp_hheld_wishing, Cp_named_wishing, Cp_wishes_wishing, Cp_pmade_wishing, Cp_keys_wishing, Cp_values_wishing, Cp_found_wishing, Cp_order_wishing, Cp_rcount_wishing, Cp_manner_theld, Cp_fault_theld, Cp_under_theld, Cp_nextS_theld, Cp_rounds_theld, Cp_steps_theld, Cp_shaded_theld, Cp_moved_theld, Cp_tmade_theld, Cp_sizes_theld, Cp_places_theld, Cp_colours_theld, Cp_moves_theld, Cp_freed_theld, Cp_wishing_theld, Cp_theld_theld, Cp_cmap_theld, Cp_halfEnd_theld, Cp_behind_theld, Cp_hheld_theld, Cp_named_theld, Cp_wishes_theld, Cp_pmade_theld, Cp_keys_theld, Cp_values_theld, Cp_found_theld, Cp_order_theld, Cp_rcount_theld, Cp_manner_tmade, Cp_fault_tmade, Cp_under_tmade, Cp_nextS_tmade, Cp_rounds_tmade, Cp_steps_tmade, Cp_shaded_tmade, Cp_moved_tmade, Cp_tmade_tmade, Cp_sizes_tmade, Cp_places_tmade, Cp_colours_tmade, Cp_moves_tmade, Cp_freed_tmade, Cp_wishing_tmade, Cp_theld_tmade, Cp_cmap_tmade, Cp_halfEnd_tmade, Cp_behind_tmade, Cp_hheld_tmade, Cp_named_tmade, Cp_wishes_tmade, Cp_pmade_tmade, Cp_keys_tmade, Cp_values_tmade, Cp_found_tmade, Cp_order_tmade, Cp_rcount_tmade, Cp_manner_cmap, Cp_fault_cmap, Cp_under_cmap, Cp_nextS_cmap, Cp_rounds_cmap, Cp_steps_cmap, Cp_shaded_cmap, Cp_moved_cmap, Cp_tmade_cmap, Cp_sizes_cmap, Cp_places_cmap, Cp_colours_cmap, Cp_moves_cmap, Cp_freed_cmap, Cp_wishing_cmap, Cp_theld_cmap, Cp_cmap_cmap, Cp_halfEnd_cmap, Cp_behind_cmap, Cp_hheld_cmap, Cp_named_cmap, Cp_wishes_cmap, Cp_pmade_cmap, Cp_keys_cmap, Cp_values_cmap, Cp_found_cmap, Cp_order_cmap, Cp_rcount_cmap, Cp_manner_behind, Cp_fault_behind, Cp_under_behind, Cp_nextS_behind, Cp_rounds_behind, Cp_steps_behind, Cp_shaded_behind, Cp_moved_behind, Cp_tmade_behind, Cp_sizes_behind, Cp_places_behind, Cp_colours_behind, Cp_moves_behind, Cp_freed_behind, Cp_wishing_behind, Cp_theld_behind, Cp_cmap_behind, Cp_halfEnd_behind, Cp_behind_behind, Cp_hheld_behind, Cp_named_behind, Cp_wishes_behind, Cp_pmade_behind, Cp_keys_behind, Cp_values_behind, Cp_found_behind, Cp_order_behind, Cp_rcount_behind]
  exact ⟨⟨a1, a2, a3, a4, a5, a6, a7, en, a9, a10, a11, a12, a13.1, hq⟩, hT, hH, hP, hC, hG, h3⟩
-- the fields of the new thing
theorem mk6_L (z1 z2 z3 : Int32) {z6 : Int32} (hz : vp_in z6 120) (f : Nat) : ∀ (y : Int32) (σ : RSt) (a : Int), a = 6 * (ix z6 : Int) + y.toInt → 0 ≤ y.toInt → y.toInt + f ≤ 6 → fX6_make_L114 z1 z2 z3 z6 f y σ = r_field_s σ (asgF (r_field σ) a (a + f) (-1)) := by
  induction f with
  | zero =>
    intro y σ a ha h0 h1
    rw [asg_0, field_id]
    rfl
  | succ f ih =>
    intro y σ a ha h0 h1
    have z1 := t1
    have ey := ix_nat h0
    have e1 : (y + 1).toInt = y.toInt + 1 := by rw [addI (by omega) (by omega), z1]
    have e6 := ix6 hz (i := y) (vp_in_iff.mpr ⟨h0, by omega⟩)
    unfold fX6_make_L114
    rw [e6, ih (y + 1) _ (a + 1) (by omega) (by omega) (by omega), Rp_field_field, field_2, asg_s (by omega)]
theorem mk5_L {z5 : Int32} (hz : vp_in z5 120) (f : Nat) : ∀ (y : Int32) (c : CSt) (a : Int), a = 6 * (ix z5 : Int) + y.toInt → 0 ≤ y.toInt → y.toInt + f ≤ 6 → fX4_add_L78 z5 f y c = (z5, c_tmade_s (c_theld_s c (asgF (c_theld c) a (a + f) (-1))) (c_tmade c + 1)) := by
  induction f with
  | zero =>
    intro y c a ha h0 h1
    rw [asg_0, theld_id]
    rfl
  | succ f ih =>
    intro y c a ha h0 h1
    have z1 := t1
    have ey := ix_nat h0
    have e1 : (y + 1).toInt = y.toInt + 1 := by rw [addI (by omega) (by omega), z1]
    have e6 := ix6 hz (i := y) (vp_in_iff.mpr ⟨h0, by omega⟩)
    unfold fX4_add_L78
    rw [Int32.mul_comm z5 6, e6, ih (y + 1) _ (a + 1) (by omega) (by omega) (by omega), Cp_theld_theld, theld_2, Cp_tmade_theld, asg_s (by omega)]
def mkY (σ : RSt) (N : Nat) (x3 pl col w : Int32) : RSt := r_field_s (r_moved_s (r_hasWish_s (r_isFreed_s (r_colour_s (r_place_s (r_many_s σ (upd (r_many σ) N x3)) (upd (r_place σ) N pl)) (upd (r_colour σ) N col)) (upd (r_isFreed σ) N 0)) (upd (r_hasWish σ) N w)) (upd (r_moved σ) N 0)) (asgF (r_field σ) (6 * (N : Int)) (6 * (N : Int) + (6 : Nat)) (-1))
def mkX (c : CSt) (N : Nat) (x3 pl col w n5 : Int32) : CSt := c_tmade_s (c_theld_s (c_wishing_s (c_freed_s (c_moves_s (c_colours_s (c_places_s (c_sizes_s c (upd (c_sizes c) N (x3 + 1))) (upd (c_places c) N pl)) (upd (c_colours c) N col)) (upd (c_moves c) N 0)) (upd (c_freed c) N 0)) (upd (c_wishing c) N w)) (asgF (c_theld c) (6 * (N : Int)) (6 * (N : Int) + (6 : Nat)) (-1))) n5
theorem mkY_eq (z1 z2 z3 : Int32) (hz : vp_in (r_things σ) 120) (x3 pl col w : Int32) : fX6_make_L114 z1 z2 z3 (r_things σ) ((6 : Int32).toInt - (0 : Int32).toInt).toNat 0 (r_moved_s (r_hasWish_s (r_isFreed_s (r_colour_s (r_place_s (r_many_s σ (upd (r_many σ) (ix (r_things σ)) x3)) (upd (r_place σ) (ix (r_things σ)) pl)) (upd (r_colour σ) (ix (r_things σ)) col)) (upd (r_isFreed σ) (ix (r_things σ)) 0)) (upd (r_hasWish σ) (ix (r_things σ)) w)) (upd (r_moved σ) (ix (r_things σ)) 0)) = mkY σ (ix (r_things σ)) x3 pl col w := by
  have z0 := t0
  have q6 : ((6 : Int32).toInt - (0 : Int32).toInt).toNat = 6 := rfl
  unfold mkY
  rw [q6, mk6_L z1 z2 z3 hz 6 0 _ (6 * (ix (r_things σ) : Int)) (by omega) (by omega) (by omega), Rp_field_moved, Rp_field_hasWish, Rp_field_isFreed, Rp_field_colour, Rp_field_place, Rp_field_many]
theorem mkX_eq (hz : vp_in (c_tmade c) 120) (x3 x4 col pl : Int32) (hw : x4 = 0 ∨ x4 = 1) : fX4_add c x3 x4 col pl = (c_tmade c, mkX c (ix (c_tmade c)) x3 pl col x4 (c_tmade c + 1)) := by
  have z0 := t0
  have z120 := t120
  have h1 := vp_in_iff.mp hz
  have q6 : ((6 : Int32).toInt - (0 : Int32).toInt).toNat = 6 := rfl
  unfold fX4_add mkX
  rw [if_neg (fun z => by have := i32_lt z; omega), if_pos (Int32.lt_iff_toInt_lt.mpr (by omega)), vnar_b hw, q6, mk5_L hz 6 0 _ (6 * (ix (c_tmade c) : Int)) (by omega) (by omega) (by omega)]
  rw [Cp_theld_wishing, Cp_theld_freed, Cp_theld_moves, Cp_theld_colours, Cp_theld_places, Cp_theld_sizes, Cp_tmade_wishing, Cp_tmade_freed, Cp_tmade_moves, Cp_tmade_colours, Cp_tmade_places, Cp_tmade_sizes]
theorem ncol (A B : Nat → Int32) : fX6_newColour (r_place_s (r_many_s σ A) B) = fX6_newColour σ := by
  unfold fX6_newColour
  rw [Rp_way_place, Rp_way_many, Rp_fault_place, Rp_fault_many]
theorem col6 : fX6_newColour σ = 0 ∨ fX6_newColour σ = 2 := by
  unfold fX6_newColour
  split
  · exact Or.inl rfl
  · split
    · exact Or.inl rfl
    · exact Or.inr rfl
theorem col60 (h : r_way σ = 0) : fX6_newColour σ = 0 := by
  unfold fX6_newColour
  rw [if_pos h]
theorem mkY_3 (σ : RSt) (N : Nat) (x3 pl col w : Int32) : r_manner (mkY σ N x3 pl col w) = r_manner σ ∧ r_top (mkY σ N x3 pl col w) = r_top σ ∧ r_things (mkY σ N x3 pl col w) = r_things σ := by
  unfold mkY
  rw [Rp_manner_field, Rp_manner_moved, Rp_manner_hasWish, Rp_manner_isFreed, Rp_manner_colour, Rp_manner_place, Rp_manner_many, Rp_top_field, Rp_top_moved, Rp_top_hasWish, Rp_top_isFreed, Rp_top_colour, Rp_top_place, Rp_top_many, Rp_things_field, Rp_things_moved, Rp_things_hasWish, Rp_things_isFreed, Rp_things_colour, Rp_things_place, Rp_things_many]
  exact ⟨rfl, rfl, rfl⟩
theorem mkX_3 (c : CSt) (N : Nat) (x3 pl col w n5 : Int32) : c_manner (mkX c N x3 pl col w n5) = c_manner c ∧ c_behind (mkX c N x3 pl col w n5) = c_behind c ∧ c_cmap (mkX c N x3 pl col w n5) = c_cmap c := by
  unfold mkX
  rw [Cp_manner_tmade, Cp_manner_theld, Cp_manner_wishing, Cp_manner_freed, Cp_manner_moves, Cp_manner_colours, Cp_manner_places, Cp_manner_sizes, Cp_behind_tmade, Cp_behind_theld, Cp_behind_wishing, Cp_behind_freed, Cp_behind_moves, Cp_behind_colours, Cp_behind_places, Cp_behind_sizes, Cp_cmap_tmade, Cp_cmap_theld, Cp_cmap_wishing, Cp_cmap_freed, Cp_cmap_moves, Cp_cmap_colours, Cp_cmap_places, Cp_cmap_sizes]
  exact ⟨rfl, rfl, rfl⟩
theorem cntB_up {g : Nat → Int32} (N : Nat) (v : Int32) : cntB g N ≤ cntB (upd g N v) (N + 1) ∧ cntB (upd g N v) (N + 1) ≤ cntB g N + 1 := by
  have e : cntB (upd g N v) N = cntB g N := cntB_congr (fun k hk => by rw [pk_un (by omega)])
  show cntB g N ≤ cntB (upd g N v) N + (if upd g N v N = 0 then 0 else 1) ∧ cntB (upd g N v) N + (if upd g N v N = 0 then 0 else 1) ≤ cntB g N + 1
  rw [e]
  split <;> omega
/-- the new thing, on both sides -/
theorem rel_new (h : RelO oo σ c) (h120 : ¬ r_things σ = 120) {x3 pl : Int32} (hx3 : 0 ≤ x3.toInt ∧ x3.toInt ≤ 6) {w : Int32} (hw : w = 0 ∨ w = 1) (hpp : PP σ pl.toInt (x3.toInt + 1)) (h3 : r_manner σ = 3 → pl = 100 * r_half σ + r_top σ ∧ (r_top σ).toInt + (x3.toInt + 1) ≤ 100 ∧ (r_way σ = 1 → (fX6_newColour σ = 0 → (r_top σ).toInt + (x3.toInt + 1) + (whS σ (r_things σ).toInt.toNat : Int) + (x3.toInt + 1) ≤ 100) ∧ (r_top σ).toInt + (x3.toInt + 1) + (whS σ (r_things σ).toInt.toNat : Int) ≤ 100)) :
    (r_manner σ = 3 → RelO oo (r_things_s (r_top_s (mkY σ (ix (r_things σ)) x3 pl (fX6_newColour σ) w) (r_top σ + (x3 + 1))) (r_things σ + 1)) (c_behind_s (c_cmap_s (mkX c (ix (r_things σ)) x3 pl (fX6_newColour σ) w (r_things σ + 1)) (asgF (c_cmap c) pl.toInt (pl.toInt + (x3.toInt + 1)) (r_things σ))) (c_behind c + (x3 + 1)))) ∧
    (¬ r_manner σ = 3 → RelO oo (r_things_s (r_top_s (mkY σ (ix (r_things σ)) x3 pl (fX6_newColour σ) w) (r_top σ + 0)) (r_things σ + 1)) (c_cmap_s (mkX c (ix (r_things σ)) x3 pl (fX6_newColour σ) w (r_things σ + 1)) (asgF (c_cmap c) pl.toInt (pl.toInt + (x3.toInt + 1)) (r_things σ)))) := by
  have z1 := t1
  have z120 := t120
  have hn := h.1.1
  have hne := i32_ne h120
  have eN := ix_nat hn.1
  have en : (r_things σ + 1).toInt = (r_things σ).toInt + 1 := by rw [addI (by omega) (by omega), z1]
  have ez : (x3 + 1).toInt = x3.toInt + 1 := by rw [addI (by omega) (by omega), z1]
  have eT : (r_things σ + 1).toInt.toNat = ix (r_things σ) + 1 := by omega
  have eT0 : (r_things σ).toInt.toNat = ix (r_things σ) := by omega
  obtain ⟨hC, hGS, hG3⟩ := h.2.2.2.2.2
  obtain ⟨p0, p1, p2⟩ := hpp
  have hT := gt_mk h.2.2.1 eN en x3 pl (fX6_newColour σ) w hw
  have hH := gh_mono (n' := r_things σ + 1) (by omega) h.2.2.2.1
  have hP := gp_mono (n' := r_things σ + 1) (by omega) h.2.2.2.2.1
  have hC2 := gc_mk hC eN en hx3 p0 p1 p2 (x := r_things σ) (nI_ix hn.1).symm
  have hS : ∀ tp, S0 (r_things_s (r_top_s (mkY σ (ix (r_things σ)) x3 pl (fX6_newColour σ) w) tp) (r_things σ + 1)) := fun tp => by
    unfold mkY
    refine s0_mk h.1 _ _ _ _ _ _ _ tp _ (fun k => ?_) (fun k => ?_) (by omega) ?_ (by omega)
    · by_cases e : k = ix (r_things σ)
      · rw [e, pk_us]
        exact hx3
      · rw [pk_un e]
        exact h.1.2.1 k
    · unfold asgF
      split
      · exact Or.inl rfl
      · exact s0_field h.1 k
    · have a := (cntB_up (g := r_hasWish σ) (ix (r_things σ)) w).2
      have b := h.1.2.2.2.2.2.2.2.2.2.1.2
      rw [eT0] at b
      rw [eT]
      omega
  have hq : (r_shaded σ).toInt ≤ cntB (upd (r_colour σ) (ix (r_things σ)) (fX6_newColour σ)) (r_things σ + 1).toInt.toNat := by
    have a := (cntB_up (g := r_colour σ) (ix (r_things σ)) (fX6_newColour σ)).1
    have b := (gq h).2
    rw [eT0] at b
    rw [eT]
    omega
  refine ⟨fun hm => ?_, fun hm => ?_⟩
  · obtain ⟨q1, q2, q3⟩ := h3 hm
    have et : (r_top σ + (x3 + 1)).toInt = (r_top σ).toInt + (x3.toInt + 1) := by
      have := hGS.2.1
      rw [addI (by omega) (by omega), ez]
    have ep := half_top hGS.1 hGS.2.1
    have hG3' : r_manner σ = 3 → G3 (r_things σ + 1) (r_way σ) (r_half σ) (r_top σ + (x3 + 1)) (upd (r_many σ) (ix (r_things σ)) x3) (upd (r_place σ) (ix (r_things σ)) pl) (upd (r_colour σ) (ix (r_things σ)) (fX6_newColour σ)) (upd (r_isFreed σ) (ix (r_things σ)) 0) := fun _ => g3_mk (hG3 hm) eN en hx3 col6 col60 hGS.2.1.1 q2 q3 (by rw [q1]; exact ep) et
    have hGS2 : GS (r_half σ) (r_top σ + (x3 + 1)) (c_halfEnd c) (c_behind c + (x3 + 1)) := ⟨hGS.1, by have := hGS.2.1; omega, hGS.2.2.1, by rw [hGS.2.2.2, Int32.add_assoc]⟩
    have hS3 := hS (r_top σ + (x3 + 1))
    unfold mkY at hS3 ⊢
    unfold mkX
    exact rel_mk3 h _ _ _ _ _ _ _ _ _ _ _ _ _ _ _ _ _ _ _ hS3 rfl hq hT hH hP hC2 hGS2 hG3'
  · have hGS2 : GS (r_half σ) (r_top σ + 0) (c_halfEnd c) (c_behind c) := by
      rw [Int32.add_zero]
      exact hGS
    have hS3 := hS (r_top σ + 0)
    unfold mkY at hS3 ⊢
    unfold mkX
    exact rel_mk0 h _ _ _ _ _ _ _ _ _ _ _ _ _ _ _ _ _ _ hS3 rfl hq hT hH hP hC2 hGS2 (fun z => absurd z hm)
theorem sim_make (hR : RelO oo σ c) (x1 x2 x3 x4 : Int32) (hw : x4 = 0 ∨ x4 = 1) : (fX5_make c x1 x2 x3 x4).1 = (fX6_make σ x1 x2 x3 x4).1 ∧ RelO oo ((fX6_make σ x1 x2 x3 x4).2) ((fX5_make c x1 x2 x3 x4).2) := by
  have z0 := t0
  have z1 := t1
  have z6 := t6
  have z120 := t120
  have hn := hR.1.1
  unfold fX5_make fX6_make
  by_cases h1 : RegOK x1 x2
  · rw [reg5_1 h1, reg6_1 h1, if_neg one_ne, if_neg one_ne]
    by_cases h3 : 0 ≤ x3.toInt ∧ x3.toInt ≤ 6
    · rw [in6_1 (v := x3) (a := 0) (b := 6) (by omega) (by omega), if_neg one_ne, if_neg (fun z => by have := i32_lt z; omega), if_pos (Int32.le_iff_toInt_le.mpr (by omega)), en hR]
      by_cases h120 : r_things σ = 120
      · rw [if_pos h120, if_neg (fun z => by have := i32_lt z; rw [h120] at this; omega)]
        exact ⟨rfl, hR⟩
      · have hne := i32_ne h120
        have hlt : r_things σ < 120 := Int32.lt_iff_toInt_lt.mpr (by omega)
        have ez : (x3 + 1).toInt = x3.toInt + 1 := by rw [addI (by omega) (by omega), z1]
        obtain ⟨p1, p2⟩ := sim_place hR (z := x3 + 1) ⟨by omega, by omega⟩
        rw [if_neg h120, if_pos hlt, col5 hR, p1]
        by_cases hp : fX6_newPlace σ (x3 + 1) = -1
        · rw [if_pos hp, if_pos hp]
          exact ⟨rfl, hR⟩
        · have p3 := p2.resolve_left hp
          rw [ez] at p3
          have hz : vp_in (r_things σ) 120 := vp_in_iff.mpr ⟨hn.1, by omega⟩
          obtain ⟨n3, n0⟩ := rel_new hR h120 h3 hw p3.1 p3.2
          obtain ⟨y1, y2, y3⟩ := mkY_3 σ (ix (r_things σ)) x3 (fX6_newPlace σ (x3 + 1)) (fX6_newColour σ) x4
          obtain ⟨w1, w2, w3⟩ := mkX_3 c (ix (r_things σ)) x3 (fX6_newPlace σ (x3 + 1)) (fX6_newColour σ) x4 (r_things σ + 1)
          have ea := mkX_eq (c := c) (by rw [en hR]; exact hz) x3 x4 (fX6_newColour σ) (fX6_newPlace σ (x3 + 1)) hw
          rw [en hR] at ea
          obtain ⟨P1, P2, P3⟩ := p3.1
          rw [if_neg hp, if_neg hp, ea, ncol, vnar_b hw, mkY_eq x1 x2 x3 hz]
          dsimp only
          rw [y1, y2, y3, w1, hR.2.1.1]
          by_cases hm : r_manner σ = 3
          · have eb : c_behind c = fX6_newPlace σ (x3 + 1) := hR.2.2.2.2.2.2.1.2.2.2.trans (p3.2 hm).1.symm
            have et : fX0_takeBehind (mkX c (ix (r_things σ)) x3 (fX6_newPlace σ (x3 + 1)) (fX6_newColour σ) x4 (r_things σ + 1)) (x3 + 1) (r_things σ) = c_behind_s (c_cmap_s (mkX c (ix (r_things σ)) x3 (fX6_newPlace σ (x3 + 1)) (fX6_newColour σ) x4 (r_things σ + 1)) (asgF (c_cmap c) (fX6_newPlace σ (x3 + 1)).toInt ((fX6_newPlace σ (x3 + 1)).toInt + (x3.toInt + 1)) (r_things σ))) (c_behind c + (x3 + 1)) := by
              unfold fX0_takeBehind
              rw [w2, eb, assign_eq _ (r_things σ) (by omega) (by omega) (by omega), Cp_behind_cmap, w2, w3, ez, eb]
            rw [if_pos hm, if_pos hm, et, hold5 _ h1, holds6]
            refine ⟨rfl, ?_⟩
            dsimp only
            refine rel_reg (n3 hm) (vp_ix (reg_lt h1)) ?_
            rw [Rp_things_things]
            exact Or.inr ⟨hn.1, by rw [addI (by omega) (by omega)]; omega⟩
          · have et : fX0_assign (mkX c (ix (r_things σ)) x3 (fX6_newPlace σ (x3 + 1)) (fX6_newColour σ) x4 (r_things σ + 1)) (fX6_newPlace σ (x3 + 1)) (x3 + 1) (r_things σ) = c_cmap_s (mkX c (ix (r_things σ)) x3 (fX6_newPlace σ (x3 + 1)) (fX6_newColour σ) x4 (r_things σ + 1)) (asgF (c_cmap c) (fX6_newPlace σ (x3 + 1)).toInt ((fX6_newPlace σ (x3 + 1)).toInt + (x3.toInt + 1)) (r_things σ)) := by
              rw [assign_eq _ (r_things σ) (by omega) (by omega) (by omega), w3, ez]
            rw [if_neg hm, if_neg hm, et, hold5 _ h1, holds6]
            refine ⟨rfl, ?_⟩
            dsimp only
            refine rel_reg (n0 hm) (vp_ix (reg_lt h1)) ?_
            rw [Rp_things_things]
            exact Or.inr ⟨hn.1, by rw [addI (by omega) (by omega)]; omega⟩
    · rw [in6_0 (v := x3) (a := 0) (b := 6) (fun z => h3 ⟨by omega, by omega⟩), if_pos rfl]
      by_cases h4 : x3 < 0
      · rw [if_pos h4]
        exact ⟨rfl, hR⟩
      · rw [if_neg h4, if_neg (fun z => h3 ⟨by have := i32_nlt h4; omega, by have := i32_le z; omega⟩)]
        exact ⟨rfl, hR⟩
  · rw [reg5_0 h1, reg6_0 h1, if_pos rfl, if_pos rfl]
    exact ⟨rfl, hR⟩
end M
