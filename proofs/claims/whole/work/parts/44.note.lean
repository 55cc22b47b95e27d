/-! PURE, part 44: what notes, and the four that read and write behind it -/
def noteR (σ : RSt) (x : Int32) : RSt := if fX6_notes σ = 0 then σ else fX6_shade σ x
theorem sa_note (σ : RSt) (x : Int32) : SA σ (noteR σ x) := by
  unfold noteR
  split
  · exact sa_rf σ
  · exact sa_shade σ x
theorem notes_way {σ : RSt} (h : ¬ fX6_notes σ = 0) : r_way σ = 1 ∧ ¬ r_fault σ = 1 := by
  unfold fX6_notes at h
  split at h
  · rename_i h1
    split at h
    · exact absurd rfl h
    · rename_i h2
      exact ⟨h1, h2⟩
  · exact absurd rfl h
theorem ix6 {x i : Int32} (hx : vp_in x 120) (hi : vp_in i 6) : ix (6 * x + i) = 6 * ix x + ix i := by
  have h := ix_mul6 hx hi
  rw [Int32.mul_comm x 6] at h
  have h1 := vp_in_iff.mp hx
  have h2 := vp_in_iff.mp hi
  have e1 := ix_nat h1.1
  have e2 := ix_nat h2.1
  have e3 := ix_nat (x := 6 * x + i) (by omega)
  omega
section N
variable {oo : Int32} {σ : RSt} {c : CSt}
theorem sim_note (h : RelO oo σ c) {x : Int32} (hx : VN (r_things σ) x) : RelO oo (noteR σ x) (fX5_note c x) := by
  have hA := h.2.1
  unfold noteR fX5_note
  rw [hA.2.2.1, hA.2.1]
  by_cases h1 : r_way σ = 1
  · by_cases h2 : r_fault σ = 1
    · have e : fX6_notes σ = 0 := by
        unfold fX6_notes
        rw [if_pos h1, if_pos h2]
      rw [if_pos e, if_pos h1, if_pos h2]
      exact h
    · have e : fX6_notes σ = 1 := by
        unfold fX6_notes
        rw [if_pos h1, if_neg h2]
      rw [e, if_neg one_ne, if_pos h1, if_neg h2]
      exact sim_shade h hx (fun _ => h1)
  · have e : fX6_notes σ = 0 := by
      unfold fX6_notes
      rw [if_neg h1]
    rw [if_pos e, if_neg h1]
    exact h
theorem sim_noteRead (h : RelO oo σ c) {x : Int32} (hx : VN (r_things σ) x) : RelO oo (fX6_notesRead σ x) (fX5_noteWeakRead c x) := by
  have hA := h.2.1
  have hn := sim_note h hx
  unfold noteR at hn
  unfold fX6_notesRead fX5_noteWeakRead
  rw [hA.1]
  by_cases h1 : r_manner σ = 1
  · rw [if_pos h1, if_pos h1]
    exact hn
  · rw [if_neg h1, if_neg h1]
    by_cases h2 : r_manner σ = 3
    · rw [if_pos h2, if_pos h2]
      exact hn
    · rw [if_neg h2, if_neg h2]
      exact h
theorem sa_notesRead (σ : RSt) (x : Int32) : SA σ (fX6_notesRead σ x) := by
  have h := sa_note σ x
  unfold noteR at h
  unfold fX6_notesRead
  split
  · exact h
  · split
    · exact h
    · exact sa_rf σ
theorem vn_sa {τ : RSt} {x : Int32} (e : SA σ τ) (h : VN (r_things σ) x) : VN (r_things τ) x := by
  rw [e.1]
  exact h
theorem th_sa {τ : RSt} {x : Int32} (e : SA σ τ) (h : TH (r_things σ) x) : TH (r_things τ) x := by
  rw [e.1]
  exact h
theorem sim_strong (hR : RelO oo σ c) (x1 x2 x3 : Int32) : (fX5_strong c x1 x2 x3).1 = (fX6_strong σ x1 x2 x3).1 ∧ RelO oo ((fX6_strong σ x1 x2 x3).2) ((fX5_strong c x1 x2 x3).2) := by
  unfold fX5_strong fX6_strong
  by_cases h1 : RegOK x1 x2
  · rw [reg5_1 h1, if_neg one_ne]
    by_cases h2 : WkOK x3
    · rw [wk5_1 h2, wk6_1 h2, reg6_1 h1, if_neg one_ne, if_neg one_ne, if_neg one_ne, named5 hR h2]
      have hv := vweak hR h2
      have hs := sa_notesRead σ (r_weakAt σ (ix x3))
      have e : r_weakAt (fX6_notesRead σ (r_weakAt σ (ix x3))) = r_weakAt σ := hs.2.2.2.2.2.2.1
      rw [e]
      exact sim_hold (sim_noteRead hR hv) h1 (vn_sa hs hv)
    · rw [wk5_0 h2, wk6_0 h2, if_pos rfl, if_pos rfl]
      exact ⟨rfl, hR⟩
  · rw [reg5_0 h1, if_pos rfl]
    by_cases h2 : WkOK x3
    · rw [wk6_1 h2, reg6_0 h1, if_neg one_ne, if_pos rfl]
      exact ⟨rfl, hR⟩
    · rw [wk6_0 h2, if_pos rfl]
      exact ⟨rfl, hR⟩
-- pairs
def PrOK (q k : Int32) : Prop := 0 ≤ k.toInt ∧ k.toInt < q.toInt
theorem q8 (h : RelO oo σ c) : 0 ≤ (r_pairs σ).toInt ∧ (r_pairs σ).toInt ≤ 8 := h.1.2.2.2.2.2.2.2.2.2.2.1
theorem pr5_1 (h : RelO oo σ c) {k : Int32} (hk : PrOK (r_pairs σ) k) : fX2_isPair c k = 1 := by
  have q := q8 h
  have t8 : (8 : Int32).toInt = 8 := rfl
  unfold fX2_isPair
  rw [eq_ h, if_neg (fun z => by have := i32_lt z; have := t0; have := hk.1; omega), if_neg (fun z => by have := i32_le z; have := hk.2; omega), if_neg (fun z => by have := i32_le z; have := hk.2; omega)]
theorem pr5_0 (h : RelO oo σ c) {k : Int32} (hk : ¬ PrOK (r_pairs σ) k) : fX2_isPair c k = 0 := by
  unfold fX2_isPair
  rw [eq_ h]
  split
  · rfl
  · rename_i z1
    split
    · rfl
    · rename_i z2
      exact absurd ⟨i32_nlt z1, i32_nle z2⟩ hk
theorem pr6_1 (h : RelO oo σ c) {k : Int32} (hk : PrOK (r_pairs σ) k) : fX6_in σ k 0 (r_pairs σ - 1) = 1 := by
  have e := i32_m1 (q8 h).1
  exact in6_1 hk.1 (by have := hk.2; omega)
theorem pr6_0 (h : RelO oo σ c) {k : Int32} (hk : ¬ PrOK (r_pairs σ) k) : fX6_in σ k 0 (r_pairs σ - 1) = 0 := by
  have e := i32_m1 (q8 h).1
  exact in6_0 (fun z => hk ⟨z.1, by have := z.2; omega⟩)
theorem pr_at (h : RelO oo σ c) {k : Int32} (hk : PrOK (r_pairs σ) k) : (r_isPair σ (ix k) = 0 ∧ c_keys c (ix k) = -1 ∧ c_values c (ix k) = -1) ∨ (r_isPair σ (ix k) = 1 ∧ c_keys c (ix k) = r_key σ (ix k) ∧ c_values c (ix k) = r_value σ (ix k) ∧ TH (r_things σ) (r_key σ (ix k)) ∧ TH (r_things σ) (r_value σ (ix k))) := h.2.2.2.2.1.1 (ix k) (by have := ix_nat hk.1; have := hk.2; omega)
theorem key5 (h : RelO oo σ c) {k : Int32} (hk : PrOK (r_pairs σ) k) : fX2_keyOf c k = c_keys c (ix k) := by
  unfold fX2_keyOf
  rw [pr5_1 h hk, if_neg one_ne]
theorem value5 (h : RelO oo σ c) {k : Int32} (hk : PrOK (r_pairs σ) k) : fX2_valueOf c k = c_values c (ix k) := by
  unfold fX2_valueOf
  rw [pr5_1 h hk, if_neg one_ne]
theorem sim_value (hR : RelO oo σ c) (x1 x2 x3 : Int32) : (fX5_value c x1 x2 x3).1 = (fX6_value σ x1 x2 x3).1 ∧ RelO oo ((fX6_value σ x1 x2 x3).2) ((fX5_value c x1 x2 x3).2) := by
  unfold fX5_value fX6_value
  by_cases h1 : RegOK x1 x2
  · rw [reg5_1 h1, reg6_1 h1, if_neg one_ne, if_neg one_ne]
    by_cases h2 : PrOK (r_pairs σ) x3
    · rw [pr5_1 hR h2, pr6_1 hR h2, if_neg one_ne, if_neg one_ne, value5 hR h2]
      rcases pr_at hR h2 with ⟨g1, g2, g3⟩ | ⟨g1, g2, g3, g4, g5⟩
      · rw [if_pos g1, g3]
        exact sim_hold (sim_noteRead hR (Or.inl rfl)) h1 (Or.inl rfl)
      · rw [g1, if_neg one_ne, g3]
        exact sim_hold (sim_noteRead hR (Or.inr g5)) h1 (vn_sa (sa_notesRead _ _) (Or.inr g5))
    · rw [pr5_0 hR h2, pr6_0 hR h2, if_pos rfl, if_pos rfl]
      exact ⟨rfl, hR⟩
  · rw [reg5_0 h1, reg6_0 h1, if_pos rfl, if_pos rfl]
    exact ⟨rfl, hR⟩
-- fields
def FdOK (σ : RSt) (x i : Int32) : Prop := TH (r_things σ) x ∧ 0 ≤ i.toInt ∧ i.toInt < (r_many σ (ix x)).toInt
theorem fd5_1 (h : RelO oo σ c) {x i : Int32} (hf : FdOK σ x i) : fX4_hasField c x i = 1 := by
  obtain ⟨h1, h2, h3⟩ := hf
  have hm := h.1.2.1 (ix x)
  unfold fX4_hasField
  rw [q_thing1 h h1, if_neg one_ne, (q_gt h h1).1.1, Int32.add_sub_cancel, if_neg (fun z => by have := i32_lt z; have := t0; omega), if_neg (fun z => by have := i32_le z; have := t6; omega), if_neg (fun z => by have := i32_le z; omega)]
theorem fd5_0 (h : RelO oo σ c) {x i : Int32} (hf : ¬ FdOK σ x i) : fX4_hasField c x i = 0 := by
  unfold fX4_hasField
  by_cases h1 : TH (r_things σ) x
  · rw [q_thing1 h h1, if_neg one_ne, (q_gt h h1).1.1, Int32.add_sub_cancel]
    split
    · rfl
    · rename_i z1
      split
      · rfl
      · split
        · rfl
        · rename_i z2
          exact absurd ⟨h1, i32_nlt z1, i32_nle z2⟩ hf
  · rw [q_thing0 h h1, if_pos rfl]
theorem fd_vp (h : S0 σ) {x i : Int32} (hf : FdOK σ x i) : vp_in i 6 := vp_in_iff.mpr ⟨hf.2.1, by have := h.2.1 (ix x); have := hf.2.2; omega⟩
theorem fd_ix (h : S0 σ) {x i : Int32} (hf : FdOK σ x i) : ix (6 * x + i) = 6 * ix x + ix i ∧ ix (x * 6 + i) = 6 * ix x + ix i ∧ ix i < 6 := by
  have e := ix6 (th_vp h hf.1) (fd_vp h hf)
  exact ⟨e, by rw [Int32.mul_comm x 6]; exact e, vp_ix (fd_vp h hf)⟩
theorem inField5 (h : RelO oo σ c) {x i : Int32} (hf : FdOK σ x i) : fX4_inField c x i = r_field σ (ix (6 * x + i)) ∧ VN (r_things σ) (r_field σ (ix (6 * x + i))) := by
  have e := fd_ix h.1 hf
  have g := (q_gt h hf.1).2.2.2.2 (ix i) e.2.2
  unfold fX4_inField
  rw [fd5_1 h hf, if_neg one_ne, e.1, e.2.1]
  exact g
theorem inField0 (h : RelO oo σ c) {x i : Int32} (hf : ¬ FdOK σ x i) : fX4_inField c x i = -1 := by
  unfold fX4_inField
  rw [fd5_0 h hf, if_pos rfl]
theorem refuse (h : RelO oo σ c) {o r i : Int32} (hr : RegOK o r) : fX5_refusalOfField c (fX5_inRegister c o r) i = fX6_against σ o r i ∧ (fX6_against σ o r i = 0 → FdOK σ (r_register σ (rix o r)) i ∧ r_isFreed σ (ix (r_register σ (rix o r))) = 0) := by
  have n3 : ¬ (-3 : Int32) = 0 := by decide
  have n5 : ¬ (-5 : Int32) = 0 := by decide
  rw [inreg h hr]
  unfold fX5_refusalOfField fX6_against
  rw [held6]
  generalize hx : r_register σ (rix o r) = x
  have hv := vreg h hr
  rw [hx] at hv
  rcases hv with rfl | hv
  · rw [fd5_0 h (fun z => vn_no z.1), if_pos rfl, if_pos rfl]
    exact ⟨rfl, fun z => absurd z n3⟩
  · rw [if_neg (th_ne hv)]
    have e := i32_m1 (h.1.2.1 (ix x)).1
    by_cases hf : FdOK σ x i
    · rw [fd5_1 h hf, if_neg one_ne, in6_1 (v := i) (a := 0) (b := r_many σ (ix x) - 1) hf.2.1 (by have := hf.2.2; omega), if_neg one_ne, q_freed h hv]
      refine ⟨rfl, fun z => ⟨hf, ?_⟩⟩
      split at z
      · assumption
      · exact absurd z n5
    · rw [fd5_0 h hf, if_pos rfl, in6_0 (v := i) (a := 0) (b := r_many σ (ix x) - 1) (fun z => hf ⟨hv, z.1, by have := z.2; omega⟩), if_pos rfl]
      exact ⟨rfl, fun z => absurd z n3⟩
theorem sim_get (hR : RelO oo σ c) (x1 x2 x3 x4 : Int32) : (fX5_get c x1 x2 x3 x4).1 = (fX6_get σ x1 x2 x3 x4).1 ∧ RelO oo ((fX6_get σ x1 x2 x3 x4).2) ((fX5_get c x1 x2 x3 x4).2) := by
  unfold fX5_get fX6_get
  by_cases h1 : RegOK x1 x2
  · rw [reg5_1 h1, reg6_1 h1, if_neg one_ne, if_neg one_ne]
    by_cases h2 : RegOK x1 x3
    · rw [reg5_1 h2, reg6_1 h2, if_neg one_ne, if_neg one_ne]
      have hr := refuse hR (i := x4) h2
      rw [hr.1]
      by_cases h3 : fX6_against σ x1 x3 x4 = 0
      · rw [if_pos h3, if_pos h3]
        have hf := (hr.2 h3).1
        rw [inreg hR h2, held6]
        have hi := inField5 hR hf
        rw [hi.1, hR.2.1.1]
        by_cases h4 : r_manner σ = 3
        · rw [if_pos h4, if_pos h4]
          have hn := sim_note hR hi.2
          have hq := sim_hold hn h1 (vn_sa (sa_note σ _) hi.2)
          unfold noteR at hq
          by_cases h5 : fX6_notes σ = 0
          · rw [if_pos h5] at hq ⊢
            exact hq
          · rw [if_neg h5] at hq ⊢
            exact hq
        · rw [if_neg h4, if_neg h4]
          exact sim_hold hR h1 hi.2
      · rw [if_neg h3, if_neg h3]
        exact ⟨rfl, hR⟩
    · rw [reg5_0 h2, reg6_0 h2, if_pos rfl, if_pos rfl]
      exact ⟨rfl, hR⟩
  · rw [reg5_0 h1, reg6_0 h1, if_pos rfl, if_pos rfl]
    exact ⟨rfl, hR⟩
theorem s0_fld (h : S0 σ) (k : Nat) {x : Int32} (hx : VT x) : S0 (r_field_s σ (upd (r_field σ) k x)) := by
  obtain ⟨a1, a2, a3, a4, a5, a6, a7, a8, a9, a10, a11, a12⟩ := h
  refine ⟨a1, a2, fun j => ?_, a4, a5, a6, a7, a8, a9, a10, a11, a12⟩
  show VT (upd (r_field σ) k x j)
  unfold upd
  split
  · exact hx
  · exact a3 j
theorem rel_fld (h : RelO oo σ c) {x i v : Int32} (hf : FdOK σ x i) (hv : VN (r_things σ) v) : RelO oo (r_field_s σ (upd (r_field σ) (ix (6 * x + i)) v)) (fX4_setField c x i v) := by
  have e := fd_ix h.1 hf
  unfold fX4_setField
  rw [fd5_1 h hf, if_neg one_ne, e.1, e.2.1]
  obtain ⟨hS, hA, hT, hH, hP, hC⟩ := h
  refine ⟨s0_fld hS _ (vn_vt hS hv), hA, fun k hk => ?_, hH, hP, hC⟩
  obtain ⟨b, g2, g3, g4, g5⟩ := hT k hk
  refine ⟨b, g2, g3, g4, fun j hj => ?_⟩
  show upd (c_theld c) (6 * ix x + ix i) v (6 * k + j) = upd (r_field σ) (6 * ix x + ix i) v (6 * k + j) ∧ VN (r_things σ) (upd (r_field σ) (6 * ix x + ix i) v (6 * k + j))
  by_cases e1 : 6 * k + j = 6 * ix x + ix i
  · rw [e1, pk_us, pk_us]
    exact ⟨rfl, hv⟩
  · rw [pk_un e1, pk_un e1]
    exact g5 j hj
theorem fd_sa {τ : RSt} {x i : Int32} (e : SA σ τ) (h : FdOK σ x i) : FdOK τ x i := ⟨th_sa e h.1, h.2.1, by rw [e.2.1]; exact h.2.2⟩
theorem sim_put (hR : RelO oo σ c) (x1 x2 x3 x4 : Int32) : (fX5_put c x1 x2 x3 x4).1 = (fX6_put σ x1 x2 x3 x4).1 ∧ RelO oo ((fX6_put σ x1 x2 x3 x4).2) ((fX5_put c x1 x2 x3 x4).2) := by
  have n12 : ¬ (1 : Int32) = 2 := by decide
  unfold fX5_put fX6_put
  by_cases h1 : RegOK x1 x2
  · rw [reg5_1 h1, reg6_1 h1, if_neg one_ne, if_neg one_ne]
    by_cases h2 : RegOK x1 x4
    · rw [reg5_1 h2, reg6_1 h2, if_neg one_ne, if_neg one_ne]
      have hr := refuse hR (i := x3) h1
      rw [hr.1]
      by_cases h3 : fX6_against σ x1 x2 x3 = 0
      · rw [if_pos h3, if_pos h3]
        have hf := (hr.2 h3).1
        have hv := vreg hR h2
        rw [inreg hR h1, inreg hR h2]
        simp only [held6]
        have hi := inField5 hR hf
        rw [hi.1, hR.2.1.1]
        have n1 := sim_note hR hi.2
        have n2 := sim_note hR hv
        have s1 := sa_note σ (r_field σ (ix (6 * r_register σ (rix x1 x2) + x3)))
        have s2 := sa_note σ (r_register σ (rix x1 x4))
        have p1 := rel_fld n1 (fd_sa s1 hf) (vn_sa s1 hv)
        have p2 := rel_fld n2 (fd_sa s2 hf) (vn_sa s2 hv)
        have p0 := rel_fld hR hf hv
        have em1 : ∀ (τ : RSt) (d : CSt), RelO oo τ d → c_manner d = r_manner τ := fun τ d h => h.2.1.1
        have mn : ∀ x, r_manner (noteR σ x) = r_manner σ := by
          intro x
          unfold noteR fX6_shade fX6_shade_J41
          (repeat' split) <;> simp only [Rq_manner_shaded, Rq_fault_shaded, Rq_things_shaded, Rq_many_shaded, Rq_field_shaded, Rq_place_shaded, Rq_colour_shaded, Rq_isFreed_shaded, Rq_hasWish_shaded, Rq_moved_shaded, Rq_register_shaded, Rq_slot_shaded, Rq_wishes_shaded, Rq_wishAt_shaded, Rq_weakAt_shaded, Rq_pairs_shaded, Rq_key_shaded, Rq_value_shaded, Rq_isPair_shaded, Rq_half_shaded, Rq_top_shaded, Rq_way_shaded, Rq_next_shaded, Rq_freedMany_shaded, Rq_rounds_shaded, Rq_steps_shaded, Rq_shaded_shaded, Rq_movedMany_shaded, Rq_isReached_shaded, Rq_more_shaded, Rq_manner_colour, Rq_fault_colour, Rq_things_colour, Rq_many_colour, Rq_field_colour, Rq_place_colour, Rq_colour_colour, Rq_isFreed_colour, Rq_hasWish_colour, Rq_moved_colour, Rq_register_colour, Rq_slot_colour, Rq_wishes_colour, Rq_wishAt_colour, Rq_weakAt_colour, Rq_pairs_colour, Rq_key_colour, Rq_value_colour, Rq_isPair_colour, Rq_half_colour, Rq_top_colour, Rq_way_colour, Rq_next_colour, Rq_freedMany_colour, Rq_rounds_colour, Rq_steps_colour, Rq_shaded_colour, Rq_movedMany_colour, Rq_isReached_colour, Rq_more_colour, Rq_manner_place, Rq_fault_place, Rq_things_place, Rq_many_place, Rq_field_place, Rq_place_place, Rq_colour_place, Rq_isFreed_place, Rq_hasWish_place, Rq_moved_place, Rq_register_place, Rq_slot_place, Rq_wishes_place, Rq_wishAt_place, Rq_weakAt_place, Rq_pairs_place, Rq_key_place, Rq_value_place, Rq_isPair_place, Rq_half_place, Rq_top_place, Rq_way_place, Rq_next_place, Rq_freedMany_place, Rq_rounds_place, Rq_steps_place, Rq_shaded_place, Rq_movedMany_place, Rq_isReached_place, Rq_more_place, Rq_manner_top, Rq_fault_top, Rq_things_top, Rq_many_top, Rq_field_top, Rq_place_top, Rq_colour_top, Rq_isFreed_top, Rq_hasWish_top, Rq_moved_top, Rq_register_top, Rq_slot_top, Rq_wishes_top, Rq_wishAt_top, Rq_weakAt_top, Rq_pairs_top, Rq_key_top, Rq_value_top, Rq_isPair_top, Rq_half_top, Rq_top_top, Rq_way_top, Rq_next_top, Rq_freedMany_top, Rq_rounds_top, Rq_steps_top, Rq_shaded_top, Rq_movedMany_top, Rq_isReached_top, Rq_more_top, Rq_manner_moved, Rq_fault_moved, Rq_things_moved, Rq_many_moved, Rq_field_moved, Rq_place_moved, Rq_colour_moved, Rq_isFreed_moved, Rq_hasWish_moved, Rq_moved_moved, Rq_register_moved, Rq_slot_moved, Rq_wishes_moved, Rq_wishAt_moved, Rq_weakAt_moved, Rq_pairs_moved, Rq_key_moved, Rq_value_moved, Rq_isPair_moved, Rq_half_moved, Rq_top_moved, Rq_way_moved, Rq_next_moved, Rq_freedMany_moved, Rq_rounds_moved, Rq_steps_moved, Rq_shaded_moved, Rq_movedMany_moved, Rq_isReached_moved, Rq_more_moved, Rq_manner_movedMany, Rq_fault_movedMany, Rq_things_movedMany, Rq_many_movedMany, Rq_field_movedMany, Rq_place_movedMany, Rq_colour_movedMany, Rq_isFreed_movedMany, Rq_hasWish_movedMany, Rq_moved_movedMany, Rq_register_movedMany, Rq_slot_movedMany, Rq_wishes_movedMany, Rq_wishAt_movedMany, Rq_weakAt_movedMany, Rq_pairs_movedMany, Rq_key_movedMany, Rq_value_movedMany, Rq_isPair_movedMany, Rq_half_movedMany, Rq_top_movedMany, Rq_way_movedMany, Rq_next_movedMany, Rq_freedMany_movedMany, Rq_rounds_movedMany, Rq_steps_movedMany, Rq_shaded_movedMany, Rq_movedMany_movedMany, Rq_isReached_movedMany, Rq_more_movedMany]
        by_cases h4 : r_manner σ = 1
        · rw [if_pos h4, if_neg (fun z => by rw [em1 _ _ n1, mn, h4] at z; exact n12 z)]
          unfold noteR at p1
          by_cases h5 : fX6_notes σ = 0
          · rw [if_pos h5] at p1 ⊢
            exact ⟨rfl, p1⟩
          · rw [if_neg h5] at p1 ⊢
            rw [if_pos h4]
            refine ⟨rfl, ?_⟩
            have s := sa_shade σ (r_field σ (ix (6 * r_register σ (rix x1 x2) + x3)))
            have es : r_register (fX6_shade σ (r_field σ (ix (6 * r_register σ (rix x1 x2) + x3)))) = r_register σ := s.2.2.2.1
            rw [es]
            exact p1
        · rw [if_neg h4]
          by_cases h6 : r_manner σ = 2
          · rw [if_pos h6]
            unfold noteR at p2
            by_cases h5 : fX6_notes σ = 0
            · rw [if_pos h5] at p2 ⊢
              exact ⟨rfl, p2⟩
            · rw [if_neg h5] at p2 ⊢
              rw [if_neg h4, if_pos h6]
              refine ⟨rfl, ?_⟩
              have s := sa_shade σ (r_register σ (rix x1 x4))
              have es : r_register (fX6_shade σ (r_register σ (rix x1 x4))) = r_register σ := s.2.2.2.1
              rw [es]
              exact p2
          · rw [if_neg h6]
            by_cases h5 : fX6_notes σ = 0
            · rw [if_pos h5]
              exact ⟨rfl, p0⟩
            · rw [if_neg h5, if_neg h4, if_neg h6]
              exact ⟨rfl, p0⟩
      · rw [if_neg h3, if_neg h3]
        exact ⟨rfl, hR⟩
    · rw [reg5_0 h2, reg6_0 h2, if_pos rfl, if_pos rfl]
      exact ⟨rfl, hR⟩
  · rw [reg5_0 h1, reg6_0 h1, if_pos rfl, if_pos rfl]
    exact ⟨rfl, hR⟩
end N
