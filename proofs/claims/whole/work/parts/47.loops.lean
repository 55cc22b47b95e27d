/-! PURE, part 47: loops of shades -/
def WK (σ : RSt) : Prop := r_manner σ = 3 → r_way σ = 1
/-- what a shade keeps -/
def FQ (σ τ : RSt) : Prop := r_manner τ = r_manner σ ∧ r_fault τ = r_fault σ ∧ (r_shaded σ).toInt ≤ (r_shaded τ).toInt ∧ r_isFreed τ = r_isFreed σ ∧ (∀ k, ¬ r_colour σ k = 0 → r_colour τ k = r_colour σ k) ∧ r_way τ = r_way σ ∧ r_things τ = r_things σ ∧ r_many τ = r_many σ ∧ r_next τ = r_next σ ∧ r_steps τ = r_steps σ
theorem fq_rf (σ : RSt) : FQ σ σ := ⟨rfl, rfl, Int.le_refl _, rfl, fun _ _ => rfl, rfl, rfl, rfl, rfl, rfl⟩
theorem fq_tr {σ τ υ : RSt} (h : FQ σ τ) (g : FQ τ υ) : FQ σ υ := by
  obtain ⟨a1, a2, a3, a4, a5, a6, a7, a8, a9, a10⟩ := h
  obtain ⟨b1, b2, b3, b4, b5, b6, b7, b8, b9, b10⟩ := g
  exact ⟨b1.trans a1, b2.trans a2, Int.le_trans a3 b3, b4.trans a4, fun k hk => (b5 k (by rw [a5 k hk]; exact hk)).trans (a5 k hk), b6.trans a6, b7.trans a7, b8.trans a8, b9.trans a9, b10.trans a10⟩
theorem wk_fq {σ τ : RSt} (h : FQ σ τ) (w : WK σ) : WK τ := by
  unfold WK
  rw [h.1, h.2.2.2.2.2.1]
  exact w
theorem msp_J41 (z : Int32) (σ : RSt) : r_manner (fX6_shade_J41 z σ) = r_manner σ ∧ r_fault (fX6_shade_J41 z σ) = r_fault σ ∧ r_shaded (fX6_shade_J41 z σ) = r_shaded σ ∧ r_isPair (fX6_shade_J41 z σ) = r_isPair σ ∧ r_steps (fX6_shade_J41 z σ) = r_steps σ := by
  unfold fX6_shade_J41
  split <;> (simp only [Rq_manner_place, Rq_fault_place, Rq_things_place, Rq_many_place, Rq_field_place, Rq_place_place, Rq_colour_place, Rq_isFreed_place, Rq_hasWish_place, Rq_moved_place, Rq_register_place, Rq_slot_place, Rq_wishes_place, Rq_wishAt_place, Rq_weakAt_place, Rq_pairs_place, Rq_key_place, Rq_value_place, Rq_isPair_place, Rq_half_place, Rq_top_place, Rq_way_place, Rq_next_place, Rq_freedMany_place, Rq_rounds_place, Rq_steps_place, Rq_shaded_place, Rq_movedMany_place, Rq_isReached_place, Rq_more_place, Rq_manner_top, Rq_fault_top, Rq_things_top, Rq_many_top, Rq_field_top, Rq_place_top, Rq_colour_top, Rq_isFreed_top, Rq_hasWish_top, Rq_moved_top, Rq_register_top, Rq_slot_top, Rq_wishes_top, Rq_wishAt_top, Rq_weakAt_top, Rq_pairs_top, Rq_key_top, Rq_value_top, Rq_isPair_top, Rq_half_top, Rq_top_top, Rq_way_top, Rq_next_top, Rq_freedMany_top, Rq_rounds_top, Rq_steps_top, Rq_shaded_top, Rq_movedMany_top, Rq_isReached_top, Rq_more_top, Rq_manner_moved, Rq_fault_moved, Rq_things_moved, Rq_many_moved, Rq_field_moved, Rq_place_moved, Rq_colour_moved, Rq_isFreed_moved, Rq_hasWish_moved, Rq_moved_moved, Rq_register_moved, Rq_slot_moved, Rq_wishes_moved, Rq_wishAt_moved, Rq_weakAt_moved, Rq_pairs_moved, Rq_key_moved, Rq_value_moved, Rq_isPair_moved, Rq_half_moved, Rq_top_moved, Rq_way_moved, Rq_next_moved, Rq_freedMany_moved, Rq_rounds_moved, Rq_steps_moved, Rq_shaded_moved, Rq_movedMany_moved, Rq_isReached_moved, Rq_more_moved, Rq_manner_movedMany, Rq_fault_movedMany, Rq_things_movedMany, Rq_many_movedMany, Rq_field_movedMany, Rq_place_movedMany, Rq_colour_movedMany, Rq_isFreed_movedMany, Rq_hasWish_movedMany, Rq_moved_movedMany, Rq_register_movedMany, Rq_slot_movedMany, Rq_wishes_movedMany, Rq_wishAt_movedMany, Rq_weakAt_movedMany, Rq_pairs_movedMany, Rq_key_movedMany, Rq_value_movedMany, Rq_isPair_movedMany, Rq_half_movedMany, Rq_top_movedMany, Rq_way_movedMany, Rq_next_movedMany, Rq_freedMany_movedMany, Rq_rounds_movedMany, Rq_steps_movedMany, Rq_shaded_movedMany, Rq_movedMany_movedMany, Rq_isReached_movedMany, Rq_more_movedMany]; exact ⟨trivial, trivial, trivial, trivial, trivial⟩)
section F
variable {oo : Int32} {σ : RSt} {c : CSt}
theorem fq_shade (h : RelO oo σ c) (x : Int32) : FQ σ (fX6_shade σ x) ∧ r_isPair (fX6_shade σ x) = r_isPair σ := by
  have hs := sa_shade σ x
  have hc := cf_shade σ x
  have hi := sh_int h
  have e : r_manner (fX6_shade σ x) = r_manner σ ∧ r_fault (fX6_shade σ x) = r_fault σ ∧ (r_shaded (fX6_shade σ x) = r_shaded σ ∨ r_shaded (fX6_shade σ x) = r_shaded σ + 1) ∧ r_isPair (fX6_shade σ x) = r_isPair σ ∧ r_steps (fX6_shade σ x) = r_steps σ := by
    unfold fX6_shade
    split
    · exact ⟨rfl, rfl, Or.inl rfl, rfl, rfl⟩
    · split
      · split
        · have g := msp_J41 x (r_shaded_s (r_colour_s σ (upd (r_colour σ) (ix x) 1)) (r_shaded σ + 1))
          rw [g.1, g.2.1, g.2.2.1, g.2.2.2.1, g.2.2.2.2]
          simp only [Rq_manner_shaded, Rq_fault_shaded, Rq_things_shaded, Rq_many_shaded, Rq_field_shaded, Rq_place_shaded, Rq_colour_shaded, Rq_isFreed_shaded, Rq_hasWish_shaded, Rq_moved_shaded, Rq_register_shaded, Rq_slot_shaded, Rq_wishes_shaded, Rq_wishAt_shaded, Rq_weakAt_shaded, Rq_pairs_shaded, Rq_key_shaded, Rq_value_shaded, Rq_isPair_shaded, Rq_half_shaded, Rq_top_shaded, Rq_way_shaded, Rq_next_shaded, Rq_freedMany_shaded, Rq_rounds_shaded, Rq_steps_shaded, Rq_shaded_shaded, Rq_movedMany_shaded, Rq_isReached_shaded, Rq_more_shaded, Rq_manner_colour, Rq_fault_colour, Rq_things_colour, Rq_many_colour, Rq_field_colour, Rq_place_colour, Rq_colour_colour, Rq_isFreed_colour, Rq_hasWish_colour, Rq_moved_colour, Rq_register_colour, Rq_slot_colour, Rq_wishes_colour, Rq_wishAt_colour, Rq_weakAt_colour, Rq_pairs_colour, Rq_key_colour, Rq_value_colour, Rq_isPair_colour, Rq_half_colour, Rq_top_colour, Rq_way_colour, Rq_next_colour, Rq_freedMany_colour, Rq_rounds_colour, Rq_steps_colour, Rq_shaded_colour, Rq_movedMany_colour, Rq_isReached_colour, Rq_more_colour]
          exact ⟨trivial, trivial, Or.inr trivial, trivial, trivial⟩
        · exact ⟨rfl, rfl, Or.inl rfl, rfl, rfl⟩
      · exact ⟨rfl, rfl, Or.inl rfl, rfl, rfl⟩
  refine ⟨⟨e.1, e.2.1, ?_, hc.1, fun k hk => ?_, hs.2.2.2.2.2.2.2.2.2.2.2.2.2, hs.1, hs.2.1, hs.2.2.2.2.2.2.2.2.2.2.2.2.1, e.2.2.2.2⟩, e.2.2.2.1⟩
  · rcases e.2.2.1 with q | q <;> rw [q] <;> omega
  · rcases hc.2 with q | ⟨q, q2, _, _⟩
    · rw [q]
    · rw [q]
      by_cases ek : k = ix x
      · subst ek
        exact absurd q2 hk
      · rw [pk_un ek]
/-- one stretch of what holds is shaded -/
theorem held_ph (get : RSt → Nat → Int32) (RL : Nat → Int32 → RSt → RSt) (r0 : ∀ y σ, RL 0 y σ = σ) (r1 : ∀ f y σ, RL (f + 1) y σ = RL f (y + 1) (fX6_shade σ (get σ (ix y)))) (off : Int) (n : RSt → Int) (hn : ∀ τ x, n (fX6_shade τ x) = n τ) (h0 : 0 ≤ off) (hb : ∀ τ, S0 τ → off + n τ ≤ 200)
    (hget : ∀ (τ : RSt) (d : CSt) (k y : Int32), RelO oo τ d → 0 ≤ k.toInt → k.toInt < n τ → y.toInt = off + k.toInt → fX1_heldAt d y = get τ (ix k) ∧ VN (r_things τ) (get τ (ix k))) :
    ∀ (f : Nat) (y z : Int32) (σ : RSt) (c : CSt), RelO oo σ c → WK σ → 0 ≤ y.toInt → y.toInt + f ≤ n σ → z.toInt = off + y.toInt → ∃ τ d, RL f y σ = τ ∧ RelO oo τ d ∧ FQ σ τ ∧ SA σ τ ∧ ∀ (b : Nat) (u : Int32), u.toInt = z.toInt + f → fX5_shadeHeld_L2 (f + b) z c = fX5_shadeHeld_L2 b u d := by
  intro f
  induction f with
  | zero =>
    intro y z σ c h w h1 h2 h3
    refine ⟨σ, c, r0 y σ, h, fq_rf σ, sa_rf σ, fun b u hu => ?_⟩
    have e : u = z := Int32.toInt_inj.mp (by omega)
    rw [e, Nat.zero_add]
  | succ f ih =>
    intro y z σ c h w h1 h2 h3
    have hbb := hb σ h.1
    have e1 := i32_1 (x := y) (B := 300) (by have q : (300 : Int32).toInt = 300 := rfl; omega)
    have e2 := i32_1 (x := z) (B := 300) (by have q : (300 : Int32).toInt = 300 := rfl; omega)
    have g := hget σ c y z h h1 (by omega) h3
    have f1 := (fq_shade h (get σ (ix y))).1
    obtain ⟨τ, d, d0, d1, d2, ds, d3⟩ := ih (y + 1) (z + 1) _ _ (sim_shade h g.2 w) (wk_fq f1 w) (by omega) (by rw [hn]; omega) (by omega)
    refine ⟨τ, d, (r1 f y σ).trans d0, d1, fq_tr f1 d2, sa_tr (sa_shade _ _) ds, fun b u hu => ?_⟩
    have e : f + 1 + b = (f + b) + 1 := by omega
    rw [e, ← d3 b u (by omega), ← g.1]
    rfl
theorem ph_reg (h : RelO oo σ c) (w : WK σ) : ∃ τ d, fX6_shadeHeld_L2 12 0 σ = τ ∧ RelO oo τ d ∧ FQ σ τ ∧ SA σ τ ∧ ∀ (b : Nat) (u : Int32), u.toInt = 12 → fX5_shadeHeld_L2 (12 + b) 0 c = fX5_shadeHeld_L2 b u d := by
  have z0 := t0
  have g := held_ph (oo := oo) r_register fX6_shadeHeld_L2 (fun _ _ => rfl) (fun _ _ _ => rfl) 0 (fun _ => 12) (fun _ _ => rfl) (by omega) (fun _ _ => by show (0 : Int) + 12 ≤ 200; omega)
    (fun τ d k y hr h0 h1 e => by
      have h1 : k.toInt < 12 := h1
      have hk := ix_nat h0
      have hy := ix_nat (x := y) (by omega)
      have ey : ix y = ix k := by omega
      rw [held_lt hr (by omega) (by have := w0 hr; omega), ey]
      exact hr.2.2.2.1.1 (ix k) (by omega))
  obtain ⟨τ, d, e, a1, a2, a3, a4⟩ := g 12 0 0 σ c h w (by omega) (by show (0 : Int32).toInt + (12 : Nat) ≤ 12; omega) (by omega)
  exact ⟨τ, d, e, a1, a2, a3, fun b u hu => a4 b u (by omega)⟩
theorem ph_slt (h : RelO oo σ c) (w : WK σ) : ∃ τ d, fX6_shadeHeld_L26 4 0 σ = τ ∧ RelO oo τ d ∧ FQ σ τ ∧ SA σ τ ∧ ∀ (b : Nat) (u : Int32), u.toInt = 16 → fX5_shadeHeld_L2 (4 + b) 12 c = fX5_shadeHeld_L2 b u d := by
  have z0 := t0
  have z12 := t12
  have g := held_ph (oo := oo) r_slot fX6_shadeHeld_L26 (fun _ _ => rfl) (fun _ _ _ => rfl) 12 (fun _ => 4) (fun _ _ => rfl) (by omega) (fun _ _ => by show (12 : Int) + 4 ≤ 200; omega)
    (fun τ d k y hr h0 h1 e => by
      have h1 : k.toInt < 4 := h1
      have hk := ix_nat h0
      have hy := ix_nat (x := y) (by omega)
      have ey : ix y = 12 + ix k := by omega
      rw [held_lt hr (by omega) (by have := w0 hr; omega), ey]
      exact hr.2.2.2.1.2.1 (ix k) (by omega))
  obtain ⟨τ, d, e, a1, a2, a3, a4⟩ := g 4 0 12 σ c h w (by omega) (by show (0 : Int32).toInt + (4 : Nat) ≤ 4; omega) (by omega)
  exact ⟨τ, d, e, a1, a2, a3, fun b u hu => a4 b u (by omega)⟩
theorem ph_wsh (h : RelO oo σ c) (w : WK σ) (f : Nat) (hf : (f : Int) = (r_wishes σ).toInt) : ∃ τ d, fX6_shadeHeld_L49 f 0 σ = τ ∧ RelO oo τ d ∧ FQ σ τ ∧ SA σ τ ∧ ∀ (b : Nat) (u : Int32), u.toInt = 16 + f → fX5_shadeHeld_L2 (f + b) 16 c = fX5_shadeHeld_L2 b u d := by
  have z0 := t0
  have z16 := t16
  have g := held_ph (oo := oo) r_wishAt fX6_shadeHeld_L49 (fun _ _ => rfl) (fun _ _ _ => rfl) 16 (fun τ => (r_wishes τ).toInt) (fun τ x => by show (r_wishes (fX6_shade τ x)).toInt = (r_wishes τ).toInt; rw [(sa_shade τ x).2.2.2.2.2.2.2.2.2.1]) (by omega) (fun τ hs => by have := s0_wishes hs; show (16 : Int) + (r_wishes τ).toInt ≤ 200; omega)
    (fun τ d k y hr h0 h1 e => by
      have h1 : k.toInt < (r_wishes τ).toInt := h1
      have hk := ix_nat h0
      have hy := ix_nat (x := y) (by omega)
      have ey : ix y = 16 + ix k := by omega
      rw [held_lt hr (by omega) (by omega), ey]
      have g := hr.2.2.2.1.2.2.1 (ix k) (by omega)
      exact ⟨g.1, Or.inr g.2⟩)
  obtain ⟨τ, d, e, a1, a2, a3, a4⟩ := g f 0 16 σ c h w (by omega) (by show (0 : Int32).toInt + (f : Int) ≤ (r_wishes σ).toInt; omega) (by omega)
  exact ⟨τ, d, e, a1, a2, a3, fun b u hu => a4 b u (by omega)⟩
theorem sim_shadeHeld (h : RelO oo σ c) (w : WK σ) : RelO oo (fX6_shadeHeld σ) (fX5_shadeHeld c) ∧ FQ σ (fX6_shadeHeld σ) := by
  have z0 := t0
  have hw := w0 h
  obtain ⟨τ1, d1, e1, a1, a2, as, a3⟩ := ph_reg h w
  obtain ⟨τ2, d2, e2, b1, b2, bs, b3⟩ := ph_slt a1 (wk_fq a2 w)
  have ews : r_wishes τ2 = r_wishes σ := (sa_tr as bs).2.2.2.2.2.2.2.2.2.1
  obtain ⟨n, hn⟩ : ∃ n : Nat, (r_wishes τ2).toInt.toNat = n := ⟨_, rfl⟩
  have hn2 : (n : Int) = (r_wishes τ2).toInt := by rw [ews] at hn ⊢; omega
  obtain ⟨τ3, d3, e3, g1, g2, gs, g3⟩ := ph_wsh b1 (wk_fq (fq_tr a2 b2) w) n hn2
  have e6 : fX6_shadeHeld σ = τ3 := by
    have q1 : ((12 : Int32).toInt - (0 : Int32).toInt).toNat = 12 := rfl
    have q2 : ((4 : Int32).toInt - (0 : Int32).toInt).toNat = 4 := rfl
    unfold fX6_shadeHeld
    rw [q1, q2, e1, e2, z0, Int.sub_zero, hn, e3]
  have e5 : fX5_shadeHeld c = d3 := by
    unfold fX5_shadeHeld
    have q : (((16 : Int32) + c_wishes c).toInt - (0 : Int32).toInt).toNat = 12 + (4 + (n + 0)) := by
      rw [w16 h]
      rw [ews] at hn2
      omega
    rw [q, a3 _ 12 t12, b3 _ 16 t16, g3 0 (16 + c_wishes c) (by rw [w16 h]; rw [ews] at hn2; omega)]
    rfl
  rw [e6, e5]
  exact ⟨g1, fq_tr a2 (fq_tr b2 g2)⟩
-- the fields of one thing
theorem shade_no (h : RelO oo σ c) : fX5_shade c (-1) = c := by
  unfold fX5_shade
  rw [q_white0 h vn_no, if_pos rfl]
theorem flds_B (h : RelO oo σ c) {x : Int32} (f : Nat) : ∀ y : Int32, (r_many σ (ix x)).toInt ≤ y.toInt → y.toInt + f ≤ 6 → fX5_shadeFieldsOf_L2 x f y c = c := by
  induction f with
  | zero => intro y h1 h2; rfl
  | succ f ih =>
    intro y h1 h2
    have e1 := i32_1 (x := y) (B := 300) (by have q : (300 : Int32).toInt = 300 := rfl; omega)
    unfold fX5_shadeFieldsOf_L2
    rw [inField0 h (fun z => by have := z.2.2; omega), shade_no h]
    exact ih (y + 1) (by omega) (by omega)
theorem flds_A {x : Int32} (f : Nat) : ∀ (y : Int32) (σ : RSt) (c : CSt), RelO oo σ c → WK σ → TH (r_things σ) x → 0 ≤ y.toInt → y.toInt + f ≤ (r_many σ (ix x)).toInt → ∃ d, RelO oo (fX6_marks_L12 x f y σ) d ∧ FQ σ (fX6_marks_L12 x f y σ) ∧ ∀ (b : Nat) (u : Int32), u.toInt = y.toInt + f → fX5_shadeFieldsOf_L2 x (f + b) y c = fX5_shadeFieldsOf_L2 x b u d := by
  induction f with
  | zero =>
    intro y σ c h w hx h1 h2
    refine ⟨c, h, fq_rf σ, fun b u hu => ?_⟩
    have e : u = y := Int32.toInt_inj.mp (by omega)
    rw [e, Nat.zero_add]
  | succ f ih =>
    intro y σ c h w hx h1 h2
    have hm := (h.1.2.1 (ix x)).2
    have e1 := i32_1 (x := y) (B := 300) (by have q : (300 : Int32).toInt = 300 := rfl; omega)
    have g := inField5 h (x := x) (i := y) ⟨hx, h1, by omega⟩
    have f1 := (fq_shade h (r_field σ (ix (6 * x + y)))).1
    have s1 := sa_shade σ (r_field σ (ix (6 * x + y)))
    obtain ⟨d, d1, d2, d3⟩ := ih (y + 1) _ _ (sim_shade h g.2 w) (wk_fq f1 w) (th_sa s1 hx) (by omega) (by rw [s1.2.1]; omega)
    refine ⟨d, d1, fq_tr f1 d2, fun b u hu => ?_⟩
    have e : f + 1 + b = (f + b) + 1 := by omega
    rw [e, ← d3 b u (by omega), ← g.1]
    rfl
theorem sim_flds (h : RelO oo σ c) (w : WK σ) {x : Int32} (hx : TH (r_things σ) x) : RelO oo (fX6_marks_L12 x ((r_many σ (ix x)).toInt - (0 : Int32).toInt).toNat 0 σ) (fX5_shadeFieldsOf c x) ∧ FQ σ (fX6_marks_L12 x ((r_many σ (ix x)).toInt - (0 : Int32).toInt).toNat 0 σ) := by
  have z0 := t0
  have hm := h.1.2.1 (ix x)
  rw [z0, Int.sub_zero]
  obtain ⟨d, d1, d2, d3⟩ := flds_A (x := x) (r_many σ (ix x)).toInt.toNat 0 σ c h w hx (by omega) (by omega)
  have e5 : fX5_shadeFieldsOf c x = d := by
    unfold fX5_shadeFieldsOf
    have q : ((6 : Int32).toInt - (0 : Int32).toInt).toNat = (r_many σ (ix x)).toInt.toNat + (6 - (r_many σ (ix x)).toInt.toNat) := by
      have := t6
      omega
    rw [q, d3 _ (r_many σ (ix x)) (by omega)]
    exact flds_B d1 _ _ (by rw [d2.2.2.2.2.2.2.2.1]; exact Int.le_refl _) (by omega)
  rw [e5]
  exact ⟨d1, d2⟩
-- the least gray one
theorem lg_eq (h : RelO oo σ c) (f : Nat) : ∀ y : Int32, 0 ≤ y.toInt → ((r_things σ).toInt - y.toInt).toNat = f → fX4_leastGray_L2 f y c = fX6_leastGray_L2 f y σ ∧ (fX6_leastGray_L2 f y σ = -1 ∨ (TH (r_things σ) (fX6_leastGray_L2 f y σ) ∧ r_colour σ (ix (fX6_leastGray_L2 f y σ)) = 1 ∧ r_isFreed σ (ix (fX6_leastGray_L2 f y σ)) = 0)) := by
  induction f with
  | zero => intro y h1 h2; exact ⟨rfl, Or.inl rfl⟩
  | succ f ih =>
    intro y h1 h2
    have hx : TH (r_things σ) y := ⟨h1, by omega⟩
    have g := ih (y + 1) (lp_nn h1 h2) (lp_b h2)
    have t := q_gt h hx
    unfold fX4_leastGray_L2 fX6_leastGray_L2
    rw [q_colour h hx]
    by_cases c1 : r_colour σ (ix y) = 1
    · have hf : r_isFreed σ (ix y) = 0 := by
        rcases t.2.1 with e | e
        · exact e
        · have := (t.2.2.2.1 e).2
          rw [c1] at this
          exact absurd this one_ne
      rw [if_pos c1, if_pos c1, if_pos hf]
      exact ⟨rfl, Or.inr ⟨hx, c1, hf⟩⟩
    · rw [if_neg c1, if_neg c1]
      exact g
theorem lg (h : RelO oo σ c) : fX4_leastGray c = fX6_leastGray σ ∧ (fX6_leastGray σ = -1 ∨ (TH (r_things σ) (fX6_leastGray σ) ∧ r_colour σ (ix (fX6_leastGray σ)) = 1 ∧ r_isFreed σ (ix (fX6_leastGray σ)) = 0)) := by
  unfold fX4_leastGray fX6_leastGray
  rw [en h]
  exact lg_eq h _ 0 (by rw [t0]; omega) rfl
theorem g3_same {n way half top : Int32} {many place colour colour' freed : Nat → Int32} (h : G3 n way half top many place colour freed) (e : ∀ k, colour' k = 0 ↔ colour k = 0) : G3 n way half top many place colour' freed := by
  have e1 : nwN many colour' freed = nwN many colour freed := by
    funext k
    unfold nwN
    by_cases c1 : colour k = 0
    · rw [if_pos c1, if_pos ((e k).mpr c1)]
    · rw [if_neg c1, if_neg (fun z => c1 ((e k).mp z))]
  have e2 : whN many colour' freed = whN many colour freed := by
    funext k
    unfold whN
    by_cases c1 : colour k = 0
    · rw [if_pos c1, if_pos ((e k).mpr c1)]
    · rw [if_neg c1, if_neg (fun z => c1 ((e k).mp z))]
  obtain ⟨h1, h2, h3, h4⟩ := h
  unfold G3
  rw [e1, e2]
  exact ⟨h1, fun k hk => (h2 k hk).imp id (fun z => ⟨z.1, (e k).mpr z.2.1, z.2.2⟩), h3, h4⟩
theorem rel_c0 (h : RelO oo σ c) (f g : Nat → Int32) (hT : GT (r_things σ) (r_many σ) (r_place σ) f (r_isFreed σ) (r_hasWish σ) (r_moved σ) (r_field σ) (c_sizes c) (c_places c) g (c_freed c) (c_wishing c) (c_moves c) (c_theld c)) (e : ∀ k, f k = 0 ↔ r_colour σ k = 0) : RelO oo (r_colour_s σ f) (c_colours_s c g) := by
  obtain ⟨hS, ⟨a1, a2, a3, a4, a5, a6, a7, a8, a9, a10, a11, a12⟩, _, hH, hP, hC1, hC2, h3⟩ := h
  refine ⟨s0_sa (sa_colour _ _) hS, ⟨a1, a2, a3, a4, a5, a6, a7, a8, a9, a10, a11, a12.1, a12.2.1, ?_⟩, hT, hH, hP, hC1, hC2, fun z => g3_same (h3 z) e⟩
  have ec := cntB_congr (g := r_colour σ) (g' := f) (n := (r_things σ).toInt.toNat) (fun k _ => (e k).symm)
  show (r_shaded σ).toInt ≤ cntB f (r_things σ).toInt.toNat
  rw [← ec]
  exact a12.2.2
theorem rel_paint (h : RelO oo σ c) {x : Int32} (hx : TH (r_things σ) x) (hc : ¬ r_colour σ (ix x) = 0) (hf : r_isFreed σ (ix x) = 0) : RelO oo (r_colour_s σ (upd (r_colour σ) (ix x) 2)) (fX4_paint c x 2) := by
  rw [paint_th h hx]
  refine rel_c0 h _ _ (gt_colour h.2.2.1 hf 2) (fun k => ?_)
  by_cases e : k = ix x
  · subst e
    rw [pk_us]
    exact ⟨fun z => absurd z (by decide), fun z => absurd z hc⟩
  · rw [pk_un e]
end F
