/-! PURE, part 57: lost, about, count -/
section C
variable {oo : Int32} {σ : RSt} {c : CSt}
theorem rel_St (h : RelO oo σ c) (f : Nat → Int32) (v : Int32) : RelO oo (St σ f v) c := by
  obtain ⟨hS, hA, hT, hH, hP, hC⟩ := h
  refine ⟨st_s0 hS f v, ?_⟩
  unfold GA rGT rGH rGP rGC
  unfold GA at hA
  unfold rGT at hT
  unfold rGH at hH
  unfold rGP at hP
  unfold rGC at hC
  rw [st_manner, st_fault, st_things, st_many, st_field, st_place, st_colour, st_isFreed, st_hasWish, st_moved, st_register, st_slot, st_wishes, st_wishAt, st_weakAt, st_pairs, st_key, st_value, st_isPair, st_half, st_top, st_way, st_next, st_rounds, st_steps, st_shaded, st_movedMany]
  exact ⟨hA, hT, hH, hP, hC⟩
theorem rel_S5 (h : RelO oo σ c) (f o : Nat → Int32) (m : Int32) : RelO oo σ (S5 c f o m) := by
  obtain ⟨hS, hA, hT, hH, hP, hC⟩ := h
  refine ⟨hS, ?_⟩
  unfold GA rGT rGH rGP rGC
  unfold GA at hA
  unfold rGT at hT
  unfold rGH at hH
  unfold rGP at hP
  unfold rGC at hC
  rw [s5_manner, s5_fault, s5_under, s5_nextS, s5_rounds, s5_steps, s5_shaded, s5_moved, s5_tmade, s5_sizes, s5_places, s5_colours, s5_moves, s5_freed, s5_wishing, s5_theld, s5_cmap, s5_halfEnd, s5_behind, s5_hheld, s5_named, s5_wishes, s5_pmade, s5_keys, s5_values]
  exact ⟨hA, hT, hH, hP, hC⟩
theorem fR (h : RelO oo σ c) : ∃ τ, fX6_findReached σ = τ ∧ RelO oo τ c ∧ r_things τ = r_things σ ∧ r_isFreed τ = r_isFreed σ ∧ ∀ k : Nat, (k : Int) < (r_things σ).toInt → (¬ r_isReached τ k = 0 ↔ Rch σ k) := by
  obtain ⟨f, e, g⟩ := find6 h
  refine ⟨_, e, rel_St h f 0, st_things σ f 0, st_isFreed σ f 0, ?_⟩
  rw [st_isReached]
  exact g
theorem fC (h : RelO oo σ c) : ∃ d, fX3_find c = d ∧ RelO oo σ d ∧ ∀ x : Int32, TH (r_things σ) x → (¬ fX3_has d x = 0 ↔ Rch σ (ix x)) := by
  obtain ⟨f, o, m, e, g⟩ := find5 h
  refine ⟨_, e, rel_S5 h f o m, fun x hx => ?_⟩
  rw [has_s5 h.1.1.2 c f o m hx, ← g (ix x) (th_lt hx)]
  by_cases c1 : f (ix x) = 0
  · rw [if_pos c1]
    exact ⟨fun z => absurd rfl z, fun z => absurd c1 z⟩
  · rw [if_neg c1]
    exact ⟨fun _ => c1, fun _ => one_ne⟩
/-- both at once -/
theorem fRC (h : RelO oo σ c) : ∃ τ d, fX6_findReached σ = τ ∧ fX3_find c = d ∧ RelO oo τ d ∧ ∀ x : Int32, TH (r_things τ) x → (fX3_has d x = 0 ↔ r_isReached τ (ix x) = 0) := by
  obtain ⟨τ, e1, a1, a2, a3, a4⟩ := fR h
  obtain ⟨d, e2, b1, b2⟩ := fC h
  obtain ⟨f, e3, _⟩ := find6 h
  refine ⟨τ, d, e1, e2, ?_, fun x hx => ?_⟩
  · rw [← e1, e3]
    exact rel_St b1 f 0
  · rw [a2] at hx
    have q1 := a4 (ix x) (th_lt hx)
    have q2 := b2 x hx
    have q3 := q2.trans q1.symm
    exact ⟨fun z => Classical.byContradiction fun w => (q3.mpr w) z, fun z => Classical.byContradiction fun w => (q3.mp w) z⟩
theorem lost_L (h : RelO oo σ c) (hq : ∀ x : Int32, TH (r_things σ) x → (fX3_has c x = 0 ↔ r_isReached σ (ix x) = 0)) (f : Nat) : ∀ y : Int32, 0 ≤ y.toInt → ((r_things σ).toInt - y.toInt).toNat = f → ∃ v, fX5_lost_L21 f y c = (v, c) ∧ fX6_lost_L6 f y σ = (v, σ) := by
  induction f with
  | zero => intro y h0 h1; exact ⟨-1, rfl, rfl⟩
  | succ f ih =>
    intro y h0 h1
    have hx : TH (r_things σ) y := ⟨h0, by omega⟩
    have go := ih (y + 1) (lp_nn h0 h1) (lp_b h1)
    unfold fX5_lost_L21 fX6_lost_L6
    rw [q_freed h hx]
    by_cases c1 : r_isReached σ (ix y) = 0
    · rw [if_pos c1, if_pos ((hq y hx).mpr c1)]
      exact go
    · rw [if_neg c1, if_neg (fun z => c1 ((hq y hx).mp z))]
      by_cases c2 : r_isFreed σ (ix y) = 0
      · rw [if_pos c2, if_pos c2]
        exact go
      · rw [if_neg c2, if_neg c2]
        exact ⟨y, rfl, rfl⟩
theorem sim_lost (hR : RelO oo σ c) : (fX5_lost c).1 = (fX6_lost σ).1 ∧ RelO oo ((fX6_lost σ).2) ((fX5_lost c).2) := by
  have z0 := t0
  obtain ⟨τ, d, e1, e2, r, q⟩ := fRC hR
  unfold fX5_lost fX6_lost
  rw [e1, e2, en r]
  obtain ⟨v, a1, a2⟩ := lost_L r q _ 0 (by omega) rfl
  rw [a1, a2]
  exact ⟨rfl, r⟩
theorem cbr_L (h : RelO oo σ c) (hq : ∀ x : Int32, TH (r_things σ) x → (fX3_has c x = 0 ↔ r_isReached σ (ix x) = 0)) {z : Int32} (hz : ¬ z = 1) (f : Nat) : ∀ w y : Int32, 0 ≤ y.toInt → ((r_things σ).toInt - y.toInt).toNat = f → ∃ v, fX5_countByReach_L23 z f w y c = (v, c) ∧ fX6_countThings_L8 z f w y σ = (v, σ) := by
  induction f with
  | zero => intro w y h0 h1; exact ⟨w, rfl, rfl⟩
  | succ f ih =>
    intro w y h0 h1
    have hx : TH (r_things σ) y := ⟨h0, by omega⟩
    have go := fun w => ih w (y + 1) (lp_nn h0 h1) (lp_b h1)
    unfold fX5_countByReach_L23 fX6_countThings_L8
    rw [q_freed h hx, if_neg hz, Int32.add_zero]
    by_cases c1 : r_isReached σ (ix y) = 0
    · have c1' := (hq y hx).mpr c1
      rw [c1, c1', if_pos rfl, if_pos rfl, if_pos rfl, if_pos rfl]
      by_cases z2 : z = 2
      · rw [if_pos z2, if_pos z2]
        exact go w
      · rw [if_neg z2, if_neg z2]
        by_cases z3 : z = 3
        · rw [if_pos z3, if_pos z3]
          exact go w
        · rw [if_neg z3, if_neg z3]
          by_cases c2 : r_isFreed σ (ix y) = 0
          · rw [if_pos c2, if_pos c2]
            exact go (w + 1)
          · rw [if_neg c2, if_neg c2]
            exact go w
    · have c1' : ¬ fX3_has c y = 0 := fun z => c1 ((hq y hx).mp z)
      rw [if_neg c1, if_neg c1, if_neg c1', if_neg c1', if_neg c1', if_neg c1]
      by_cases z2 : z = 2
      · rw [if_pos z2, if_pos z2]
        exact go (w + 1)
      · rw [if_neg z2, if_neg z2]
        by_cases z3 : z = 3
        · rw [if_pos z3, if_pos z3]
          by_cases c2 : r_isFreed σ (ix y) = 0
          · rw [if_pos c2, if_pos c2]
            exact go w
          · rw [if_neg c2, if_neg c2]
            exact go (w + 1)
        · rw [if_neg z3, if_neg z3]
          exact go w
theorem sim_cbr (hR : RelO oo σ c) {z : Int32} (hz : ¬ z = 1) : (fX5_countByReach c z).1 = (fX6_countThings σ z).1 ∧ RelO oo ((fX6_countThings σ z).2) ((fX5_countByReach c z).2) := by
  have z0 := t0
  obtain ⟨τ, d, e1, e2, r, q⟩ := fRC hR
  unfold fX5_countByReach fX6_countThings
  rw [e1, e2, en r]
  obtain ⟨v, a1, a2⟩ := cbr_L r q hz _ 0 0 (by omega) rfl
  rw [a1, a2]
  exact ⟨rfl, r⟩
theorem c1_L (h : RelO oo σ c) (f : Nat) : ∀ w y : Int32, 0 ≤ y.toInt → ((r_things σ).toInt - y.toInt).toNat = f → fX6_countThings_L8 1 f w y σ = (fX4_countNotFreed_L4 f w y c, σ) := by
  induction f with
  | zero => intro w y h0 h1; rfl
  | succ f ih =>
    intro w y h0 h1
    have hx : TH (r_things σ) y := ⟨h0, by omega⟩
    have go := fun w => ih w (y + 1) (lp_nn h0 h1) (lp_b h1)
    unfold fX4_countNotFreed_L4 fX6_countThings_L8
    rw [q_freed h hx, if_pos rfl, Int32.add_zero]
    by_cases c2 : r_isFreed σ (ix y) = 0
    · rw [if_pos c2, if_pos c2]
      exact go _
    · rw [if_neg c2, if_neg c2]
      exact go _
theorem sim_c1 (hR : RelO oo σ c) : fX4_countNotFreed c = (fX6_countThings σ 1).1 ∧ RelO oo ((fX6_countThings σ 1).2) c := by
  have z0 := t0
  obtain ⟨τ, e1, r, _⟩ := fR hR
  unfold fX4_countNotFreed fX6_countThings
  rw [e1, en r, c1_L r _ 0 0 (by omega) rfl]
  exact ⟨rfl, r⟩
theorem c12_L (h : RelO oo σ c) (f : Nat) : ∀ w y : Int32, 0 ≤ y.toInt → ((r_pairs σ).toInt - y.toInt).toNat = f → fX6_count_L122 f w y σ = (fX2_countNotDropped_L4 f w y c, σ) := by
  induction f with
  | zero => intro w y h0 h1; rfl
  | succ f ih =>
    intro w y h0 h1
    have hp : PrOK (r_pairs σ) y := ⟨h0, by omega⟩
    have go := fun w => ih w (y + 1) (lp_nn h0 h1) (lp_b h1)
    unfold fX6_count_L122 fX2_countNotDropped_L4
    rw [key5 h hp, Int32.add_zero]
    rcases pr_at h hp with ⟨g1, g2, g3⟩ | ⟨g1, g2, g3, g4, g5⟩
    · rw [if_pos g1, if_pos g2]
      exact go w
    · rw [if_neg (by rw [g1]; exact one_ne), if_neg (by rw [g2]; exact th_ne g4)]
      exact go (w + 1)
-- free cells
theorem cellOf_eq (h : RelO oo σ c) {x : Int32} (h0 : 0 ≤ x.toInt) (h1 : x.toInt < 200) : fX6_cellOf σ x = c_cmap c (ix x) := by
  have z0 := t0
  have e := ix_nat h0
  unfold fX6_cellOf
  rcases h.2.2.2.2.2.1.2.2 (ix x) (by omega) with ⟨k, hk, ek⟩ | ⟨hn, ek⟩
  · rw [e] at hk
    rw [ek, cellOf_some h hk _ 0 (by omega) rfl (by omega)]
  · rw [e] at hn
    rw [ek, cellOf_none h _ 0 (by omega) rfl hn]
theorem fc5_L (h : RelO oo σ c) (f : Nat) : ∀ y2 y3 y4 y5 : Int32, 0 ≤ y5.toInt → y5.toInt + f = 200 → fX6_freeCells_L26 0 f y2 y3 y4 y5 σ = fX0_countFree_L4 f y2 y5 c := by
  induction f with
  | zero =>
    intro y2 y3 y4 y5 h0 h1
    unfold fX6_freeCells_L26 fX0_countFree_L4
    rw [if_pos rfl]
  | succ f ih =>
    intro y2 y3 y4 y5 h0 h1
    have e1 := i32_1 (x := y5) (B := 300) (by have q : (300 : Int32).toInt = 300 := rfl; omega)
    have go := fun a b d => ih a b d (y5 + 1) (by omega) (by omega)
    unfold fX6_freeCells_L26 fX0_countFree_L4
    rw [cellOf_eq h h0 (by omega), Int32.add_zero]
    by_cases c1 : c_cmap c (ix y5) = -1
    · rw [if_pos c1, if_pos c1]
      split
      · exact go _ _ _
      · exact go _ _ _
    · rw [if_neg c1, if_neg c1]
      split
      · exact go _ _ _
      · exact go _ _ _
theorem fc6_L (h : RelO oo σ c) (f : Nat) : ∀ y2 y3 y4 y5 : Int32, 0 ≤ y5.toInt → y5.toInt + f = 200 → fX6_freeCells_L26 1 f y2 y3 y4 y5 σ = fX0_longestFree_L6 f y4 y3 y5 c := by
  induction f with
  | zero =>
    intro y2 y3 y4 y5 h0 h1
    unfold fX6_freeCells_L26 fX0_longestFree_L6
    rw [if_neg one_ne]
  | succ f ih =>
    intro y2 y3 y4 y5 h0 h1
    have e1 := i32_1 (x := y5) (B := 300) (by have q : (300 : Int32).toInt = 300 := rfl; omega)
    have go := fun a b d => ih a b d (y5 + 1) (by omega) (by omega)
    unfold fX6_freeCells_L26 fX0_longestFree_L6
    rw [cellOf_eq h h0 (by omega)]
    by_cases c1 : c_cmap c (ix y5) = -1
    · rw [if_pos c1, if_pos c1]
      by_cases c2 : y3 + 1 ≤ y4
      · rw [if_pos c2, if_neg (fun z => by have := i32_le c2; have := i32_lt z; omega)]
        exact go _ _ _
      · rw [if_neg c2, if_pos (Int32.lt_iff_toInt_lt.mpr (i32_nle c2))]
        exact go _ _ _
    · rw [if_neg c1, if_neg c1]
      by_cases c2 : 0 ≤ y4
      · rw [if_pos c2, if_neg (fun z => by have := i32_le c2; have := i32_lt z; omega)]
        exact go _ _ _
      · rw [if_neg c2, if_pos (Int32.lt_iff_toInt_lt.mpr (i32_nle c2))]
        exact go _ _ _
theorem left5 (h : RelO oo σ c) : fX0_leftBehind c = 100 - r_top σ := by
  obtain ⟨g1, g2, g3, g4⟩ := h.2.2.2.2.2.2.1
  have z100 := t100
  have a1 := half_top g1 g2
  have a2 := half_top (top := 100) g1 (by omega)
  have a3 := half_int g1
  unfold fX0_leftBehind
  rw [g3, g4]
  refine Int32.toInt_inj.mp ?_
  rw [i32_subI (by omega) (by omega), i32_subI (by omega) (by omega), a1, a2]
  omega
theorem sim_free (h : RelO oo σ c) (z : Int32) (hz : z = 0 ∨ z = 1) : (if c_manner c = 3 then fX0_leftBehind c else if z = 0 then fX0_countFree c else fX0_longestFree c) = fX6_freeCells σ z := by
  have z0 := t0
  have q : ((200 : Int32).toInt - (0 : Int32).toInt).toNat = 200 := rfl
  unfold fX6_freeCells
  rw [h.2.1.1]
  by_cases hm : r_manner σ = 3
  · rw [if_pos hm, if_pos hm]
    exact left5 h
  · rw [if_neg hm, if_neg hm]
    rcases hz with rfl | rfl
    · rw [if_pos rfl]
      unfold fX0_countFree
      rw [q, fc5_L h 200 0 0 0 0 (by omega) (by omega)]
    · rw [if_neg one_ne]
      unfold fX0_longestFree
      rw [q, fc6_L h 200 0 0 0 0 (by omega) (by omega)]
theorem lit_ne {x : Int32} {n a b : Int} (v : Int32) (hv : v.toInt = n) (h : ¬ (a ≤ x.toInt ∧ x.toInt ≤ b)) (hn : a ≤ n ∧ n ≤ b) : ¬ x = v := by
  rintro rfl
  exact h ⟨by omega, by omega⟩
theorem sim_about (hR : RelO oo σ c) (x1 x2 : Int32) : (fX5_about c x1 x2).1 = (fX6_about σ x1 x2).1 ∧ RelO oo ((fX6_about σ x1 x2).2) ((fX5_about c x1 x2).2) := by
  have z0 := t0
  have z6 := t6
  unfold fX5_about fX6_about
  by_cases hx : TH (r_things σ) x1
  · rw [q_thing1 hR hx, th6_1 hR hx, if_neg one_ne, if_neg one_ne]
    by_cases r : 0 ≤ x2.toInt ∧ x2.toInt ≤ 6
    · rw [in6_1 (by omega) (by omega), if_neg one_ne]
      unfold fX6_aboutOf
      by_cases e0 : x2 = 0
      · rw [if_pos e0, if_pos e0]
        exact ⟨q_fields hR hx, hR⟩
      rw [if_neg e0, if_neg e0]
      by_cases e1 : x2 = 1
      · rw [if_pos e1, if_pos e1]
        exact ⟨q_place hR hx, hR⟩
      rw [if_neg e1, if_neg e1]
      by_cases e2 : x2 = 2
      · rw [if_pos e2, if_pos e2]
        exact ⟨q_colour hR hx, hR⟩
      rw [if_neg e2, if_neg e2]
      by_cases e3 : x2 = 3
      · rw [if_pos e3, if_pos e3, q_freed hR hx]
        by_cases c1 : r_isFreed σ (ix x1) = 0
        · rw [if_pos c1, if_pos c1]
          exact ⟨rfl, hR⟩
        · rw [if_neg c1, if_neg c1]
          exact ⟨rfl, hR⟩
      rw [if_neg e3, if_neg e3]
      by_cases e4 : x2 = 4
      · rw [if_pos e4, if_pos e4]
        unfold fX5_isReached
        obtain ⟨τ, d, f1, f2, f3, f4⟩ := fRC hR
        obtain ⟨τ', g1, _, g2, _⟩ := fR hR
        have et : r_things τ = r_things σ := by rw [← f1, g1, g2]
        rw [f1, f2]
        have hq := f4 x1 (by rw [et]; exact hx)
        by_cases c1 : r_isReached τ (ix x1) = 0
        · rw [if_pos c1, if_pos (hq.mpr c1)]
          exact ⟨rfl, f3⟩
        · rw [if_neg c1, if_neg (fun z => c1 (hq.mp z))]
          exact ⟨rfl, f3⟩
      rw [if_neg e4, if_neg e4]
      by_cases e5 : x2 = 5
      · rw [if_pos e5, if_pos e5, q_wish hR hx]
        by_cases c1 : r_hasWish σ (ix x1) = 0
        · rw [if_pos c1, if_pos c1]
          exact ⟨rfl, hR⟩
        · rw [if_neg c1, if_neg c1]
          exact ⟨rfl, hR⟩
      have e6 : x2 = 6 := by
        have n0 := i32_ne e0
        have n1 := i32_ne e1
        have n2 := i32_ne e2
        have n3 := i32_ne e3
        have n4 := i32_ne e4
        have n5 := i32_ne e5
        have := t1
        have := t2
        have := t3
        have := t4
        have := t5
        exact Int32.toInt_inj.mp (by omega)
      rw [if_neg e5, if_neg e5, if_pos e6]
      exact ⟨q_moves hR hx, hR⟩
    · rw [in6_0 (fun z => r ⟨by omega, by omega⟩), if_pos rfl, if_neg (lit_ne 0 t0 r (by omega)), if_neg (lit_ne 1 t1 r (by omega)), if_neg (lit_ne 2 t2 r (by omega)), if_neg (lit_ne 3 t3 r (by omega)), if_neg (lit_ne 4 t4 r (by omega)), if_neg (lit_ne 5 t5 r (by omega)), if_neg (lit_ne 6 t6 r (by omega))]
      exact ⟨rfl, hR⟩
  · rw [q_thing0 hR hx, th6_0 hR hx, if_pos rfl, if_pos rfl]
    exact ⟨rfl, hR⟩
theorem sim_count (hR : RelO 0 σ c) (x1 : Int32) : (fX5_count c x1).1 = (fX6_count σ x1).1 ∧ RelO 0 ((fX6_count σ x1).2) ((fX5_count c x1).2) := by
  have z0 := t0
  have hA := hR.2.1
  unfold fX5_count fX6_count
  by_cases e0 : x1 = 0
  · rw [if_pos e0, if_pos e0]
    exact ⟨en hR, hR⟩
  rw [if_neg e0, if_neg e0]
  by_cases e1 : x1 = 1
  · rw [if_pos e1, if_pos e1, e1]
    dsimp only
    exact sim_c1 hR
  rw [if_neg e1, if_neg e1]
  by_cases e2 : x1 = 2
  · rw [if_pos e2, if_pos e2]
    dsimp only
    exact sim_cbr hR e1
  rw [if_neg e2, if_neg e2]
  by_cases e3 : x1 = 3
  · rw [if_pos e3, if_pos e3]
    dsimp only
    exact sim_cbr hR e1
  rw [if_neg e3, if_neg e3]
  by_cases e4 : x1 = 4
  · rw [if_pos e4, if_pos e4]
    dsimp only
    exact sim_cbr hR e1
  rw [if_neg e4, if_neg e4]
  by_cases e5 : x1 = 5
  · have e6 : ¬ x1 = 6 := by
      rw [e5]
      decide
    have g := sim_free hR 0 (Or.inl rfl)
    rw [if_pos e5, if_pos e5, if_neg e6]
    by_cases hm : c_manner c = 3
    · rw [if_pos hm] at g ⊢
      exact ⟨g, hR⟩
    · rw [if_neg hm, if_pos rfl] at g
      rw [if_neg hm]
      exact ⟨g, hR⟩
  rw [if_neg e5, if_neg e5]
  by_cases e6 : x1 = 6
  · have g := sim_free hR 1 (Or.inr rfl)
    rw [if_pos e6, if_pos e6, if_pos e6]
    by_cases hm : c_manner c = 3
    · rw [if_pos hm] at g ⊢
      exact ⟨g, hR⟩
    · rw [if_neg hm, if_neg one_ne] at g
      rw [if_neg hm]
      exact ⟨g, hR⟩
  rw [if_neg e6, if_neg e6]
  by_cases e7 : x1 = 7
  · rw [if_pos e7, if_pos e7]
    exact ⟨rounds5 hR, hR⟩
  rw [if_neg e7, if_neg e7]
  by_cases e8 : x1 = 8
  · rw [if_pos e8, if_pos e8]
    exact ⟨(Int32.add_zero _).symm.trans hA.2.2.2.2.1, hR⟩
  rw [if_neg e8, if_neg e8]
  by_cases e9 : x1 = 9
  · rw [if_pos e9, if_pos e9]
    exact ⟨csh hR, hR⟩
  rw [if_neg e9, if_neg e9]
  by_cases e10 : x1 = 10
  · rw [if_pos e10, if_pos e10]
    exact ⟨hA.2.2.2.2.2.2.1, hR⟩
  rw [if_neg e10, if_neg e10]
  by_cases e11 : x1 = 11
  · rw [if_pos e11, if_pos e11]
    exact ⟨ew hR, hR⟩
  rw [if_neg e11, if_neg e11]
  by_cases e12 : x1 = 12
  · rw [if_pos e12, if_pos e12, c12_L hR _ 0 0 (by omega) rfl]
    unfold fX2_countNotDropped
    rw [eq_ hR]
    exact ⟨rfl, hR⟩
  rw [if_neg e12, if_neg e12]
  exact ⟨rfl, hR⟩
end C
