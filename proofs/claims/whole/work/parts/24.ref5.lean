theorem s0_frees {σ : RSt} (h : S0 σ) (x : Int32) : S0 (fX6_frees σ x) := s0_sa (sa_frees _ _) h
theorem s0_over {σ : RSt} (h : S0 σ) : S0 (fX6_over σ) := by
  unfold fX6_over
  exact s0_sa (sa_rounds _ _) (s0_wy h 0 (Or.inl rfl))
theorem s0_marks_L181 (f : Nat) : ∀ (y : Int32) (σ : RSt), S0 σ → S0 (fX6_marks_L181 f y σ) ∧ r_way (fX6_marks_L181 f y σ) = 0 := by
  induction f with
  | zero => intro y σ h; exact ⟨s0_over h, rfl⟩
  | succ f ih =>
    intro y σ h
    unfold fX6_marks_L181
    split
    · exact ih _ _ h
    · split
      · exact ih _ _ (s0_frees h _)
      · exact ih _ _ h
theorem s0_marks_L12 (z : Int32) (f : Nat) : ∀ (y : Int32) (σ : RSt), SA σ (fX6_marks_L12 z f y σ) := by
  induction f with
  | zero => intro y σ; exact sa_rf σ
  | succ f ih => intro y σ; exact sa_tr (sa_shade _ _) (ih _ _)
theorem s0_marks_J161 {σ : RSt} (h : S0 σ) : S0 (fX6_marks_J161 σ) := by
  unfold fX6_marks_J161
  split
  · exact (s0_marks_L181 _ _ _ (s0_w2 h)).1
  · exact s0_w2 h
theorem s0_marks {σ : RSt} (h : S0 σ) : S0 (fX6_marks σ) := by
  unfold fX6_marks
  split
  · split
    · unfold fX6_marks_J112
      exact s0_marks_J161 (s0_sa (sa_marks_L114 _ _ _) (s0_marks_L61 _ _ _ (s0_findsMore h)))
    · exact s0_findsMore h
  · exact s0_sa (sa_tr (s0_marks_L12 _ _ _ _) (sa_colour _ _)) h
theorem s0_sweeps_J36 {σ : RSt} (h : S0 σ) (h1 : Int32.toInt (r_next σ) ≤ Int32.toInt (r_things σ)) : S0 (fX6_sweeps_J36 σ) := by
  unfold fX6_sweeps_J36
  split
  · exact s0_over h
  · rename_i c
    have c2 := i32_ne c
    have e := i32_1 (x := r_next σ) (B := r_things σ) (by omega)
    have h0 := s0_next h
    split
    · exact s0_nx h _ (by omega) (Or.inr (Or.inr (by omega)))
    · have e1 : r_next (fX6_frees σ (r_next σ)) = r_next σ := (sa_frees _ _).2.2.2.2.2.2.2.2.2.2.2.2.1
      have e2 : r_things (fX6_frees σ (r_next σ)) = r_things σ := (sa_frees _ _).1
      refine s0_nx (s0_frees h _) _ ?_ (Or.inr (Or.inr ?_))
      · rw [e1]; omega
      · rw [e1, e2]; omega
theorem s0_step {σ : RSt} (h : S0 σ) (hw0 : ¬ r_way σ = 0) : S0 (fX6_step σ) := by
  unfold fX6_step
  have h1 : S0 (r_steps_s σ (r_steps σ + 1)) := s0_sa (sa_steps _ _) h
  split
  · exact s0_marks h1
  · rename_i c
    unfold fX6_sweeps
    have hn := ((s0_way h).resolve_left hw0 |>.resolve_left c)
    have h2 := sw_L0 _ (r_steps_s σ (r_steps σ + 1)) h1 (s0_next h1) hn rfl
    exact s0_sweeps_J36 h2.1 h2.2.2.1
/-- how much a round has left -/
def wtR (σ : RSt) (k : Nat) : Nat := if r_isFreed σ k = 0 then (if r_colour σ k = 0 then 2 else if r_colour σ k = 1 then 1 else 0) else 0
def sumN (g : Nat → Nat) : Nat → Nat
  | 0 => 0
  | n + 1 => sumN g n + g n
theorem sumN_congr {g g' : Nat → Nat} {n : Nat} (h : ∀ k, k < n → g k = g' k) : sumN g n = sumN g' n := by
  induction n with
  | zero => rfl
  | succ n ih =>
    simp only [sumN]
    rw [ih (fun k hk => h k (by omega)), h n (by omega)]
theorem sumN_at {g g' : Nat → Nat} {n j : Nat} (hj : j < n) (h : ∀ k, k ≠ j → g k = g' k) : sumN g n + g' j = sumN g' n + g j := by
  induction n with
  | zero => omega
  | succ n ih =>
    simp only [sumN]
    rcases Nat.lt_succ_iff_lt_or_eq.mp hj with h1 | rfl
    · have := ih h1
      have := h n (by omega)
      omega
    · have := sumN_congr (n := j) (fun k hk => h k (by omega))
      omega
theorem sumN_le {g : Nat → Nat} {b n : Nat} (h : ∀ k, g k ≤ b) : sumN g n ≤ b * n := by
  induction n with
  | zero => exact Nat.le_refl 0
  | succ n ih =>
    simp only [sumN]
    have := h n
    rw [Nat.mul_succ]
    omega
def MM (σ : RSt) : Nat := sumN (wtR σ) 120
theorem wtR_le (σ : RSt) (k : Nat) : wtR σ k ≤ 2 := by
  unfold wtR
  (repeat' split) <;> omega
theorem MM_le (σ : RSt) : MM σ ≤ 240 := sumN_le (b := 2) (n := 120) (wtR_le σ)
def SH (σ τ : RSt) : Prop := (MM τ = MM σ ∧ r_shaded τ = r_shaded σ) ∨ MM τ < MM σ
theorem sh_rf (σ : RSt) : SH σ σ := Or.inl ⟨rfl, rfl⟩
theorem sh_tr {σ τ υ : RSt} (h : SH σ τ) (g : SH τ υ) : SH σ υ := by
  rcases h with ⟨h1, h2⟩ | h1 <;> rcases g with ⟨g1, g2⟩ | g1
  · exact Or.inl ⟨g1.trans h1, g2.trans h2⟩
  · exact Or.inr (by omega)
  · exact Or.inr (by omega)
  · exact Or.inr (by omega)
theorem sh_le {σ τ : RSt} (h : SH σ τ) : MM τ ≤ MM σ := by rcases h with ⟨h1, _⟩ | h1 <;> omega
theorem cf_J41 (z : Int32) (σ : RSt) : r_colour (fX6_shade_J41 z σ) = r_colour σ ∧ r_isFreed (fX6_shade_J41 z σ) = r_isFreed σ := by
  unfold fX6_shade_J41
  split <;> exact ⟨rfl, rfl⟩
theorem cf_shade (σ : RSt) (x : Int32) : r_isFreed (fX6_shade σ x) = r_isFreed σ ∧ (r_colour (fX6_shade σ x) = r_colour σ ∨ (r_colour (fX6_shade σ x) = upd (r_colour σ) (ix x) 1 ∧ r_colour σ (ix x) = 0 ∧ r_isFreed σ (ix x) = 0 ∧ ¬ x = -1)) := by
  unfold fX6_shade
  split
  · exact ⟨rfl, Or.inl rfl⟩
  · rename_i c1
    split
    · rename_i c2
      split
      · rename_i c3
        have h := cf_J41 x (r_shaded_s (r_colour_s σ (upd (r_colour σ) (ix x) 1)) (r_shaded σ + 1))
        exact ⟨h.2.trans rfl, Or.inr ⟨h.1.trans rfl, c2, c3, c1⟩⟩
      · exact ⟨rfl, Or.inl rfl⟩
    · exact ⟨rfl, Or.inl rfl⟩
theorem wt_eq {σ τ : RSt} {k : Nat} (h1 : r_isFreed τ k = r_isFreed σ k) (h2 : r_colour τ k = r_colour σ k) : wtR τ k = wtR σ k := by
  unfold wtR
  rw [h1, h2]
theorem MM_eq {σ τ : RSt} (h1 : r_isFreed τ = r_isFreed σ) (h2 : r_colour τ = r_colour σ) : MM τ = MM σ := sumN_congr (fun k _ => wt_eq (by rw [h1]) (by rw [h2]))
theorem sh_shade {σ : RSt} {x : Int32} (hv : VT x) : SH σ (fX6_shade σ x) := by
  have h := cf_shade σ x
  rcases h with ⟨h1, h2 | ⟨h2, h3, h4, h5⟩⟩
  · by_cases e : r_shaded (fX6_shade σ x) = r_shaded σ
    · exact Or.inl ⟨MM_eq h1 h2, e⟩
    · exfalso
      unfold fX6_shade at e h2
      split at e
      · exact e rfl
      · rename_i c1
        rw [if_neg c1] at h2
        split at e
        · rename_i c2
          rw [if_pos c2] at h2
          split at e
          · rename_i c3
            rw [if_pos c3] at h2
            have h6 := (cf_J41 x (r_shaded_s (r_colour_s σ (upd (r_colour σ) (ix x) 1)) (r_shaded σ + 1))).1
            have h7 : upd (r_colour σ) (ix x) 1 = r_colour σ := h6.symm.trans h2
            have h8 := congrFun h7 (ix x)
            rw [pk_us, c2] at h8
            exact absurd h8 (by decide)
          · exact e rfl
        · exact e rfl
  · refine Or.inr ?_
    have hx := vp_ix (vt_in hv h5)
    have h6 := sumN_at (g := wtR (fX6_shade σ x)) (g' := wtR σ) hx (fun k hk => wt_eq (by rw [h1]) (by rw [h2, pk_un hk]))
    have h7 : wtR σ (ix x) = 2 := by unfold wtR; rw [if_pos h4, if_pos h3]
    have h8 : wtR (fX6_shade σ x) (ix x) = 1 := by unfold wtR; rw [h1, h2, pk_us, if_pos h4]; rfl
    unfold MM
    omega
theorem sh_shadeHeld_L2 (f : Nat) : ∀ (y : Int32) (σ : RSt), S0 σ → SH σ (fX6_shadeHeld_L2 f y σ) := by
  induction f with
  | zero => intro y σ _; exact sh_rf σ
  | succ f ih => intro y σ h; exact sh_tr (sh_shade (s0_register h _)) (ih _ _ (s0_sa (sa_shade _ _) h))
theorem sh_shadeHeld_L26 (f : Nat) : ∀ (y : Int32) (σ : RSt), S0 σ → SH σ (fX6_shadeHeld_L26 f y σ) := by
  induction f with
  | zero => intro y σ _; exact sh_rf σ
  | succ f ih => intro y σ h; exact sh_tr (sh_shade (s0_slot h _)) (ih _ _ (s0_sa (sa_shade _ _) h))
theorem sh_shadeHeld_L49 (f : Nat) : ∀ (y : Int32) (σ : RSt), S0 σ → SH σ (fX6_shadeHeld_L49 f y σ) := by
  induction f with
  | zero => intro y σ _; exact sh_rf σ
  | succ f ih => intro y σ h; exact sh_tr (sh_shade (s0_wishAt h _)) (ih _ _ (s0_sa (sa_shade _ _) h))
theorem sh_shadeHeld {σ : RSt} (h : S0 σ) : SH σ (fX6_shadeHeld σ) := by
  unfold fX6_shadeHeld
  exact sh_tr (sh_shadeHeld_L2 _ _ _ h) (sh_tr (sh_shadeHeld_L26 _ _ _ (s0_sa (sa_shadeHeld_L2 _ _ _) h)) (sh_shadeHeld_L49 _ _ _ (s0_sa (sa_tr (sa_shadeHeld_L2 _ _ _) (sa_shadeHeld_L26 _ _ _)) h)))
/-- what findsMore answers: 1 only where something was shaded, and then there is less left; the way is kept -/
def FM (z : Int32) (σ0 : RSt) (p : Int32 × RSt) : Prop := SH σ0 p.2 ∧ (¬ p.1 = 0 → ¬ r_shaded p.2 = z) ∧ r_way p.2 = r_way σ0
theorem fm_J128 {z : Int32} {σ0 σ : RSt} (h : SH σ0 σ) (hw : r_way σ = r_way σ0) : FM z σ0 (fX6_findsMore_J128 z σ) := by
  unfold fX6_findsMore_J128
  split
  · exact ⟨h, fun c => absurd rfl c, hw⟩
  · rename_i c
    exact ⟨h, fun _ e => c (by rw [e]; exact Int32.le_refl _), hw⟩
theorem way_shade (σ : RSt) (x : Int32) : r_way (fX6_shade σ x) = r_way σ := (sa_shade σ x).2.2.2.2.2.2.2.2.2.2.2.2.2
theorem way_wishes (σ : RSt) (x : Int32) : r_way (fX6_wishes σ x) = r_way σ := by
  unfold fX6_wishes
  rw [way_shade]
  rfl
theorem sh_hasWish (σ : RSt) (v : Nat → Int32) : SH σ (r_hasWish_s σ v) := Or.inl ⟨rfl, rfl⟩
theorem sh_wishAt (σ : RSt) (v : Nat → Int32) : SH σ (r_wishAt_s σ v) := Or.inl ⟨rfl, rfl⟩
theorem sh_wishesS (σ : RSt) (v : Int32) : SH σ (r_wishes_s σ v) := Or.inl ⟨rfl, rfl⟩
theorem sh_wishes {σ : RSt} {x : Int32} (h : vp_in x 120) : SH σ (fX6_wishes σ x) := by
  unfold fX6_wishes
  exact sh_tr (sh_tr (sh_tr (sh_hasWish σ (upd (r_hasWish σ) (ix x) 0)) (sh_wishAt _ (upd (r_wishAt σ) (ix (r_wishes σ)) x))) (sh_wishesS _ (r_wishes σ + 1))) (sh_shade (Or.inr h))
theorem fm_L83 {z : Int32} {σ0 : RSt} (f : Nat) : ∀ (y : Int32) (σ : RSt), S0 σ → 0 ≤ Int32.toInt y → ((Int32.toInt (r_things σ)) - (Int32.toInt y)).toNat = f → SH σ0 σ → r_way σ = r_way σ0 → FM z σ0 (fX6_findsMore_L83 z f y σ) := by
  induction f with
  | zero => intro y σ _ _ _ h hw; exact fm_J128 h hw
  | succ f ih =>
    intro y σ hS hnn hf h hw
    unfold fX6_findsMore_L83
    have h1 := ih (y + 1) σ hS (lp_nn hnn hf) (lp_b hf) h hw
    split
    · exact h1
    · rename_i c
      split
      · exact h1
      · split
        · exact ih (y + 1) _ (s0_wishes_f hS hnn hf c) (lp_nn hnn hf) (by rw [things_wishes]; exact lp_b hf) (sh_tr h (sh_wishes (lp_in hnn hf (s0_th hS)))) ((way_wishes _ _).trans hw)
        · exact h1
theorem fm_J73 {z : Int32} {σ0 σ : RSt} (hS : S0 σ) (h : SH σ0 σ) (hw : r_way σ = r_way σ0) : FM z σ0 (fX6_findsMore_J73 z σ) := by
  unfold fX6_findsMore_J73
  split
  · exact fm_L83 _ _ _ hS (by decide) rfl h hw
  · exact fm_J128 h hw
theorem fm_L27 {z : Int32} {σ0 : RSt} (f : Nat) : ∀ (y : Int32) (σ : RSt), S0 σ → SH σ0 σ → r_way σ = r_way σ0 → FM z σ0 (fX6_findsMore_L27 z f y σ) := by
  induction f with
  | zero => intro y σ hS h hw; exact fm_J73 hS h hw
  | succ f ih =>
    intro y σ hS h hw
    unfold fX6_findsMore_L27
    split
    · exact ih _ _ hS h hw
    · split
      · exact ih _ _ (s0_sa (sa_shade _ _) hS) (sh_tr h (sh_shade (s0_value hS _))) ((way_shade _ _).trans hw)
      · exact ih _ _ hS h hw
theorem fm_J17 {z : Int32} {σ0 σ : RSt} (hS : S0 σ) (h : SH σ0 σ) (hw : r_way σ = r_way σ0) : FM z σ0 (fX6_findsMore_J17 z σ) := by
  unfold fX6_findsMore_J17
  split
  · exact fm_L27 _ _ _ hS h hw
  · exact fm_J73 hS h hw
theorem fm_findsMore {σ : RSt} (hS : S0 σ) : FM (r_shaded σ) σ (fX6_findsMore σ) := by
  unfold fX6_findsMore
  split
  · exact fm_J17 (s0_sa (sa_shadeHeld _) hS) (sh_shadeHeld hS) (sa_shadeHeld σ).2.2.2.2.2.2.2.2.2.2.2.2.2
  · exact fm_J17 hS (sh_rf σ) rfl
def muR (σ : RSt) : Nat := if r_way σ = 1 then 200 + MM σ else if r_way σ = 0 then 0 else 122 - (Int32.toInt (r_next σ)).toNat
theorem mu_lt (σ : RSt) : muR σ < 1000 := by
  have := MM_le σ
  unfold muR
  split
  · omega
  · split <;> omega
theorem kg_L12 (z : Int32) (k : Nat) (f : Nat) : ∀ (y : Int32) (σ : RSt), S0 σ → r_colour σ k = 1 → r_isFreed σ k = 0 → MM (fX6_marks_L12 z f y σ) ≤ MM σ ∧ r_colour (fX6_marks_L12 z f y σ) k = 1 ∧ r_isFreed (fX6_marks_L12 z f y σ) k = 0 := by
  induction f with
  | zero => intro y σ _ h1 h2; exact ⟨Nat.le_refl _, h1, h2⟩
  | succ f ih =>
    intro y σ hS h1 h2
    have h3 := sh_le (sh_shade (σ := σ) (s0_field hS (ix (6 * z + y))))
    have h4 := cf_shade σ (r_field σ (ix (6 * z + y)))
    have h5 : r_colour (fX6_shade σ (r_field σ (ix (6 * z + y)))) k = 1 := by
      rcases h4.2 with e | ⟨e, e2, _, _⟩
      · rw [e]; exact h1
      · rw [e]
        unfold upd
        split
        · rfl
        · exact h1
    have h6 := ih (y + 1) (fX6_shade σ (r_field σ (ix (6 * z + y)))) (s0_sa (sa_shade _ _) hS) h5 (by rw [h4.1]; exact h2)
    exact ⟨Nat.le_trans h6.1 h3, h6.2.1, h6.2.2⟩
theorem lg_L (f : Nat) : ∀ (y : Int32) (σ : RSt), ¬ fX6_leastGray_L2 f y σ = -1 → r_colour σ (ix (fX6_leastGray_L2 f y σ)) = 1 ∧ r_isFreed σ (ix (fX6_leastGray_L2 f y σ)) = 0 := by
  induction f with
  | zero => intro y σ h; exact absurd rfl h
  | succ f ih =>
    intro y σ
    unfold fX6_leastGray_L2
    split
    · rename_i c1
      split
      · rename_i c2
        exact fun _ => ⟨c1, c2⟩
      · exact ih _ _
    · exact ih _ _
theorem mu_way0 {τ : RSt} (h : r_way τ = 0) : muR τ = 0 := by
  unfold muR
  rw [if_neg (by rw [h]; decide), if_pos h]
theorem mu_way1 {τ : RSt} (h : r_way τ = 1) : muR τ = 200 + MM τ := by
  unfold muR
  rw [if_pos h]
theorem mu_wayn {τ : RSt} (h1 : ¬ r_way τ = 1) (h0 : ¬ r_way τ = 0) : muR τ = 122 - (Int32.toInt (r_next τ)).toNat := by
  unfold muR
  rw [if_neg h1, if_neg h0]
theorem way_next (τ : RSt) (v : Int32) : r_way (r_next_s τ v) = r_way τ := rfl
theorem next_next (τ : RSt) (v : Int32) : r_next (r_next_s τ v) = v := rfl
theorem way_way (τ : RSt) (v : Int32) : r_way (r_way_s τ v) = v := rfl
theorem way_over (τ : RSt) : r_way (fX6_over τ) = 0 := rfl
theorem mu_J161 {σ : RSt} (h : S0 σ) : muR (fX6_marks_J161 σ) < 200 := by
  unfold fX6_marks_J161
  split
  · rw [mu_way0 (s0_marks_L181 _ _ _ (s0_w2 h)).2]
    decide
  · rw [mu_wayn (by rw [way_next, way_way]; decide) (by rw [way_next, way_way]; decide)]
    omega
theorem way_colour (τ : RSt) (v : Nat → Int32) : r_way (r_colour_s τ v) = r_way τ := rfl
theorem colour_colour (τ : RSt) (v : Nat → Int32) : r_colour (r_colour_s τ v) = v := rfl
theorem freed_colour (τ : RSt) (v : Nat → Int32) : r_isFreed (r_colour_s τ v) = r_isFreed τ := rfl
theorem MM_black {τ : RSt} {k : Nat} (hk : k < 120) (h1 : r_colour τ k = 1) (h2 : r_isFreed τ k = 0) : MM (r_colour_s τ (upd (r_colour τ) k 2)) + 1 = MM τ := by
  have h6 := sumN_at (g := wtR (r_colour_s τ (upd (r_colour τ) k 2))) (g' := wtR τ) hk (fun j hj => wt_eq (by rw [freed_colour]) (by rw [colour_colour, pk_un hj]))
  have h7 : wtR τ k = 1 := by unfold wtR; rw [if_pos h2, h1]; rfl
  have h8 : wtR (r_colour_s τ (upd (r_colour τ) k 2)) k = 0 := by
    unfold wtR
    rw [freed_colour, colour_colour, pk_us, if_pos h2]
    rfl
  unfold MM
  omega
theorem mu_marks {σ : RSt} (hS : S0 σ) (hw : r_way σ = 1) : muR (fX6_marks σ) < muR σ := by
  rw [mu_way1 hw]
  unfold fX6_marks
  split
  · split
    · unfold fX6_marks_J112
      have h := mu_J161 (s0_sa (sa_marks_L114 (((Int32.toInt (r_pairs (fX6_marks_L61 (((Int32.toInt (6 : Int32)) - (Int32.toInt (0 : Int32))).toNat) (0 : Int32) ((fX6_findsMore σ).2)))) - (Int32.toInt (0 : Int32))).toNat) 0 _) (s0_marks_L61 (((Int32.toInt (6 : Int32)) - (Int32.toInt (0 : Int32))).toNat) 0 _ (s0_findsMore hS)))
      omega
    · rename_i c
      have h := fm_findsMore hS
      have h1 : MM (fX6_findsMore σ).2 < MM σ := by
        rcases h.1 with ⟨_, e⟩ | e
        · exact absurd e (h.2.1 c)
        · exact e
      rw [mu_way1 (h.2.2.trans hw)]
      omega
  · rename_i c
    have ht := vp_ix (vt_in (vt_leastGray hS) c)
    have h1 := lg_L _ _ _ c
    have h2 := kg_L12 (fX6_leastGray σ) (ix (fX6_leastGray σ)) ((Int32.toInt ((r_many σ) (ix (fX6_leastGray σ))) - Int32.toInt 0).toNat) 0 σ hS h1.1 h1.2
    have h3 : r_way (fX6_marks_L12 (fX6_leastGray σ) ((Int32.toInt ((r_many σ) (ix (fX6_leastGray σ))) - Int32.toInt 0).toNat) 0 σ) = 1 := ((s0_marks_L12 _ _ _ _).2.2.2.2.2.2.2.2.2.2.2.2.2).trans hw
    have h4 := MM_black ht h2.2.1 h2.2.2
    rw [mu_way1 (by rw [way_colour]; exact h3)]
    omega
theorem mu_J36 {τ : RSt} (h : S0 τ) (hn : Int32.toInt (r_next τ) ≤ Int32.toInt (r_things τ)) (h1 : ¬ r_way τ = 1) (h0 : ¬ r_way τ = 0) : muR (fX6_sweeps_J36 τ) < 122 - (Int32.toInt (r_next τ)).toNat := by
  have b7 := s0_th h
  have b8 := s0_next h
  unfold fX6_sweeps_J36
  split
  · rw [mu_way0 (way_over τ)]
    omega
  · rename_i c2
    have c3 := i32_ne c2
    have e := i32_1 (x := r_next τ) (B := r_things τ) (by omega)
    split
    · rw [mu_wayn (by rw [way_next]; exact h1) (by rw [way_next]; exact h0), next_next]
      omega
    · have g1 : r_next (fX6_frees τ (r_next τ)) = r_next τ := (sa_frees _ _).2.2.2.2.2.2.2.2.2.2.2.2.1
      have g2 : r_way (fX6_frees τ (r_next τ)) = r_way τ := (sa_frees _ _).2.2.2.2.2.2.2.2.2.2.2.2.2
      rw [mu_wayn (by rw [way_next, g2]; exact h1) (by rw [way_next, g2]; exact h0), next_next, g1]
      omega
theorem way_steps (τ : RSt) (v : Int32) : r_way (r_steps_s τ v) = r_way τ := rfl
theorem next_steps (τ : RSt) (v : Int32) : r_next (r_steps_s τ v) = r_next τ := rfl
theorem things_steps (τ : RSt) (v : Int32) : r_things (r_steps_s τ v) = r_things τ := rfl
theorem mu_steps (τ : RSt) (v : Int32) : muR (r_steps_s τ v) = muR τ := by
  unfold muR
  rw [way_steps, next_steps, MM_eq (σ := τ) (τ := r_steps_s τ v) rfl rfl]
theorem mu_step {σ : RSt} (hS : S0 σ) (hw0 : ¬ r_way σ = 0) : muR (fX6_step σ) < muR σ := by
  unfold fX6_step
  have h1 : S0 (r_steps_s σ (r_steps σ + 1)) := s0_sa (sa_steps _ _) hS
  split
  · rename_i c
    have h2 := mu_marks h1 (by rw [way_steps]; exact c)
    rw [mu_steps] at h2
    exact h2
  · rename_i c
    have hn := ((s0_way hS).resolve_left hw0 |>.resolve_left c)
    have b8 := s0_next hS
    rw [mu_wayn c hw0]
    unfold fX6_sweeps
    have h2 := sw_L0 (((Int32.toInt (r_things (r_steps_s σ (r_steps σ + 1)))) - (Int32.toInt (r_next (r_steps_s σ (r_steps σ + 1))))).toNat) (r_steps_s σ (r_steps σ + 1)) h1 (s0_next h1) (by rw [next_steps, things_steps]; exact hn) rfl
    obtain ⟨b1, b2, b3, b4, b5, b6⟩ := h2
    have h3 := mu_J36 b1 b3 (by rw [b5, way_steps]; exact c) (by rw [b5, way_steps]; exact hw0)
    rw [next_steps] at b4
    refine Nat.lt_of_lt_of_le h3 ?_
    rw [next_steps] at *
    omega

def fX6_sweep_L16 (z1 : Int32) : Nat → Int32 → RSt → Int32 × RSt
  | 0, y2, σ16 => (if (r_way σ16) = (0 : Int32) then (y2, σ16) else (y2, σ16))
  | f + 1, y2, σ16 => (if (r_way σ16) = (0 : Int32) then (y2, σ16) else (fX6_sweep_L16 z1 f (y2 + 1) (fX6_step σ16)))
def fX6_sweep (σ : RSt) (x1 : Int32) : Int32 × RSt := (if (fX6_in σ x1 (1 : Int32) (400 : Int32)) = (0 : Int32) then ((-2 : Int32), σ) else (fX6_sweep_L16 x1 (((Int32.toInt x1) - (Int32.toInt (0 : Int32))).toNat) (0 : Int32) σ))
theorem hdX6_sweep : yX6_sweep.cls = RX6 ∧ yX6_sweep.cls ≠ "java/lang/invoke/MethodHandle" ∧ yX6_sweep.cls ≠ "java/lang/invoke/VarHandle" ∧ (parseMethodDescriptor yX6_sweep.desc).map (fun d => d.parameters.length) = some 1 := by decide +kernel
set_option maxHeartbeats 250000 in
set_option maxRecDepth 100000 in
theorem kX6_sweep (l : Launch) (D : va_G) (a : Nat → Nat) (cI cZ : ClassId) (σ : RSt) (x1 : Int32) (hS : S0 σ) : CR l D (tyIZ cI cZ) (wR a cI cZ) yX6_sweep cX6_sweep 3 .int (rmk 5 106) [.ref (a 0), .int x1] σ (fX6_sweep σ x1).1 (fX6_sweep σ x1).2 := by
  refine CR.of pnX6 ⟨rfl, rfl⟩ (Nat.le_of_ble_eq_true rfl) rfl (fun p e s m args below meth c A Q ls C X hA hl ret => ?_)
  have C : Cx p s m args meth c cX6_sweep 3 RX6 D (tyIZ cI cZ) := C
  have hx := C.1
  have hb := C.2.1
  have hl : lv_has ls 3 [(0, .ref (a 0)), (1, .int x1)] := hl
  refine lv_iload_n hx hb dX6_sweep_0 rfl (lv_at hl 1 rfl) ?_
  refine lv_iconst (v := (1)) hx hb dX6_sweep_1 (by decide) ?_
  refine lv_sipush (v := (400)) hx hb dX6_sweep_2 (by decide) ?_
  refine callSR (rest := []) C hA (wR_sh a cI cZ) X (kX6_in l D a cI cZ _ x1 (1 : Int32) (400 : Int32)) (cwS 3 C.2.2.2.2.1 (gS wl_X6_90 wz_yX6_in wi_X6 wk_yX6_in) rfl rfl rfl hdX6_in ⟨Nat.le_of_ble_eq_true rfl, Nat.le_of_ble_eq_true rfl⟩) rfl hl.1 rfl (Nat.le_of_ble_eq_true rfl) dX6_sweep_5 ⟨Nat.le_refl 0, Nat.le_refl 0⟩ (fun H locs X => ?_)
  refine lv_if_ne (tgt := 14) hx hb dX6_sweep_8 (by decide) (fun c8 => ?_) (fun c8 => ?_)
  · refine lv_iconst (v := (0)) hx hb dX6_sweep_14 (by decide) ?_
    refine lv_istore_n (lv' := [(2, .int (0 : Int32)), (0, .ref (a 0)), (1, .int x1)]) hx hb dX6_sweep_15 rfl hl (by decide) rfl (fun ls hl => ?_)
    have L16 : ∀ (f : Nat) (y2 : Int32) (σ16 : RSt) (hf : ((Int32.toInt x1) - (Int32.toInt y2)).toNat = f) (hnn : 0 ≤ Int32.toInt y2) (hS : S0 σ16) (he : fX6_sweep_L16 x1 f y2 σ16 = (fX6_sweep σ x1)) (H : Heap) (locs : List Loc) (ls : Array Slot) (X : Sx A D (wR a cI cZ σ16) s H locs) (hl : lv_has ls 3 [(0, .ref (a 0)), (1, .int x1), (2, .int y2)]), W p l e (rmk 5 106) s m args below meth c H locs 0 0 Q (F0 m 16 ls []) := by
      intro f
      induction f with
      | zero =>
        intro y2 σ16 hf hnn hS he H locs ls X hl
        refine lv_aload_n hx hb dX6_sweep_16 rfl (lv_at hl 0 rfl) ?_
        refine rg_X6_X6_way (v := (r_way σ16)) C X rfl dX6_sweep_17 ?_
        refine lv_if_eq (tgt := 38) hx hb dX6_sweep_20 (by decide) (fun c20 => ?_) (fun c20 => ?_)
        · refine lv_iload_n hx hb dX6_sweep_38 rfl (lv_at hl 2 rfl) ?_
          exact ret dX6_sweep_39 (pe_ (Eq.trans (Eq.symm (if_pos c20)) he)) X
        · refine lv_iload_n hx hb dX6_sweep_23 rfl (lv_at hl 2 rfl) ?_
          refine lv_iload_n hx hb dX6_sweep_24 rfl (lv_at hl 1 rfl) ?_
          refine lv_icmp_ge (tgt := 38) hx hb dX6_sweep_25 (by decide) (fun c25 => ?_) (fun c25 => (lp_z hf c25).elim)
          refine lv_iload_n hx hb dX6_sweep_38 rfl (lv_at hl 2 rfl) ?_
          exact ret dX6_sweep_39 (pe_ (Eq.trans (Eq.symm (if_neg c20)) he)) X
      | succ f ih16 =>
        intro y2 σ16 hf hnn hS he H locs ls X hl
        refine lv_aload_n hx hb dX6_sweep_16 rfl (lv_at hl 0 rfl) ?_
        refine rg_X6_X6_way (v := (r_way σ16)) C X rfl dX6_sweep_17 ?_
        refine lv_if_eq (tgt := 38) hx hb dX6_sweep_20 (by decide) (fun c20 => ?_) (fun c20 => ?_)
        · refine lv_iload_n hx hb dX6_sweep_38 rfl (lv_at hl 2 rfl) ?_
          exact ret dX6_sweep_39 (pe_ (Eq.trans (Eq.symm (if_pos c20)) he)) X
        · refine lv_iload_n hx hb dX6_sweep_23 rfl (lv_at hl 2 rfl) ?_
          refine lv_iload_n hx hb dX6_sweep_24 rfl (lv_at hl 1 rfl) ?_
          refine lv_icmp_ge (tgt := 38) hx hb dX6_sweep_25 (by decide) (fun c25 => (lp_s hf c25).elim) (fun c25 => ?_)
          refine lv_aload_n hx hb dX6_sweep_28 rfl (lv_at hl 0 rfl) ?_
          refine callVU (rest := []) C hA (wR_sh a cI cZ) X (kX6_step l D a cI cZ _  hS c20) (cwV 0 C.2.2.2.2.1 (gV wl_X6_139 wt_yX6_step ws_yX6_step wi_X6 wk_yX6_step) rfl rfl rfl hdX6_step ⟨Nat.le_of_ble_eq_true rfl, Nat.le_of_ble_eq_true rfl⟩) (ci := 6) (q0 := 0) rfl rfl rfl hl.1 rfl (Nat.le_of_ble_eq_true rfl) dX6_sweep_29 ⟨Nat.le_refl 0, Nat.le_refl 0⟩ (fun H locs X => ?_)
          refine lv_iinc (v := (y2 + 1)) (lv' := [(2, .int (y2 + 1)), (0, .ref (a 0)), (1, .int x1)]) hx hb dX6_sweep_32 hl (k := 2) rfl rfl (by decide) rfl (fun ls hl => ?_)
          refine lv_goto (tgt := 16) hx hb dX6_sweep_35 (by decide) ?_
          exact ih16 (y2 + 1) (fX6_step σ16) (lp_b hf) (lp_nn hnn hf) (s0_step hS c20) (Eq.trans (Eq.symm (if_neg c20)) he) _ _ _ X (lv_sub hl [1, 2, 0] rfl)
    exact L16 (((Int32.toInt x1) - (Int32.toInt (0 : Int32))).toNat) (0 : Int32) σ rfl (by decide) (hS) (Eq.symm (if_neg c8)) _ _ _ X (lv_sub hl [1, 2, 0] rfl)
  · refine lv_bipush (v := (-2)) hx hb dX6_sweep_11 (by decide) ?_
    exact ret dX6_sweep_13 (pe_ (Eq.symm (if_pos c8))) X
def fX6_begin_L27 : Nat → Int32 → RSt → RSt
  | 0, y1, σ27 => σ27
  | f + 1, y1, σ27 => (if ((r_isFreed σ27) (ix y1)) = (0 : Int32) then (fX6_begin_L27 f (y1 + 1) (r_colour_s σ27 (upd (r_colour σ27) (ix y1) (0 : Int32)))) else (fX6_begin_L27 f (y1 + 1) (r_colour_s σ27 (upd (r_colour σ27) (ix y1) ((r_colour σ27) (ix y1))))))
def fX6_begin_L128 : Nat → Int32 → Int32 → RSt → Int32 × RSt
  | 0, y1, y2, σ0 => (y1, σ0)
  | f + 1, y1, y2, σ0 => (if ((r_colour σ0) (ix y2)) = (1 : Int32) then (if ((r_isFreed σ0) (ix y2)) = (0 : Int32) then (fX6_begin_L128 f (y1 + (1 : Int32)) (y2 + 1) σ0) else (fX6_begin_L128 f (y1 + (0 : Int32)) (y2 + 1) σ0)) else (fX6_begin_L128 f (y1 + (0 : Int32)) (y2 + 1) σ0))
def fX6_begin_L105 : Nat → RSt → Int32 × RSt
  | 0, σ105 => ((0 : Int32), σ105)
  | f + 1, σ105 => (if (r_way σ105) = (0 : Int32) then ((r_freedMany σ105), σ105) else (fX6_begin_L105 f (fX6_step σ105)))
def fX6_begin_J98 (σ98 : RSt) : Int32 × RSt := (if (r_manner σ98) = (0 : Int32) then (fX6_begin_L105 1000 σ98) else (fX6_begin_L128 (((Int32.toInt (r_things σ98)) - (Int32.toInt (0 : Int32))).toNat) (0 : Int32) (0 : Int32) σ98))
def fX6_begin_J89 (σ89 : RSt) : Int32 × RSt := (fX6_begin_J98 (r_way_s (fX6_shadeHeld σ89) (1 : Int32)))
def fX6_begin (σ : RSt) : Int32 × RSt := (if (r_way σ) = (0 : Int32) then (if (r_manner (fX6_begin_L27 (((Int32.toInt (r_things (r_freedMany_s (r_shaded_s (r_steps_s σ (0 : Int32)) (0 : Int32)) (0 : Int32)))) - (Int32.toInt (0 : Int32))).toNat) (0 : Int32) (r_freedMany_s (r_shaded_s (r_steps_s σ (0 : Int32)) (0 : Int32)) (0 : Int32)))) = (3 : Int32) then (fX6_begin_J89 (r_top_s (r_half_s (fX6_begin_L27 (((Int32.toInt (r_things (r_freedMany_s (r_shaded_s (r_steps_s σ (0 : Int32)) (0 : Int32)) (0 : Int32)))) - (Int32.toInt (0 : Int32))).toNat) (0 : Int32) (r_freedMany_s (r_shaded_s (r_steps_s σ (0 : Int32)) (0 : Int32)) (0 : Int32))) ((1 : Int32) - (r_half (fX6_begin_L27 (((Int32.toInt (r_things (r_freedMany_s (r_shaded_s (r_steps_s σ (0 : Int32)) (0 : Int32)) (0 : Int32)))) - (Int32.toInt (0 : Int32))).toNat) (0 : Int32) (r_freedMany_s (r_shaded_s (r_steps_s σ (0 : Int32)) (0 : Int32)) (0 : Int32)))))) (0 : Int32))) else (fX6_begin_J89 (fX6_begin_L27 (((Int32.toInt (r_things (r_freedMany_s (r_shaded_s (r_steps_s σ (0 : Int32)) (0 : Int32)) (0 : Int32)))) - (Int32.toInt (0 : Int32))).toNat) (0 : Int32) (r_freedMany_s (r_shaded_s (r_steps_s σ (0 : Int32)) (0 : Int32)) (0 : Int32))))) else ((-3 : Int32), σ))
theorem hdX6_begin : yX6_begin.cls = RX6 ∧ yX6_begin.cls ≠ "java/lang/invoke/MethodHandle" ∧ yX6_begin.cls ≠ "java/lang/invoke/VarHandle" ∧ (parseMethodDescriptor yX6_begin.desc).map (fun d => d.parameters.length) = some 0 := by decide +kernel
theorem sa_begin_L27 (f : Nat) : ∀ (y : Int32) (σ : RSt), SA σ (fX6_begin_L27 f y σ) := by
  induction f with
  | zero => intro y σ; exact sa_rf σ
  | succ f ih =>
    intro y σ
    unfold fX6_begin_L27
    split <;> exact sa_tr (sa_colour _ _) (ih _ _)

set_option maxHeartbeats 250000 in
set_option maxRecDepth 100000 in
theorem kX6_begin (l : Launch) (D : va_G) (a : Nat → Nat) (cI cZ : ClassId) (σ : RSt) (hS : S0 σ) : CR l D (tyIZ cI cZ) (wR a cI cZ) yX6_begin cX6_begin 3 .int (rmk 5 106) [.ref (a 0)] σ (fX6_begin σ).1 (fX6_begin σ).2 := by
  refine CR.of pnX6 ⟨rfl, rfl⟩ (Nat.le_of_ble_eq_true rfl) rfl (fun p e s m args below meth c A Q ls C X hA hl ret => ?_)
  have C : Cx p s m args meth c cX6_begin 3 RX6 D (tyIZ cI cZ) := C
  have hx := C.1
  have hb := C.2.1
  have hl : lv_has ls 3 [(0, .ref (a 0))] := hl
  refine lv_aload_n hx hb dX6_begin_0 rfl (lv_at hl 0 rfl) ?_
  refine rg_X6_X6_way (v := (r_way σ)) C X rfl dX6_begin_1 ?_
  refine lv_if_eq (tgt := 10) hx hb dX6_begin_4 (by decide) (fun c4 => ?_) (fun c4 => ?_)
  · refine lv_aload_n hx hb dX6_begin_10 rfl (lv_at hl 0 rfl) ?_
    refine lv_iconst (v := (0)) hx hb dX6_begin_11 (by decide) ?_
    refine rp_X6_X6_steps C X dX6_begin_12 (fun H locs X => ?_)
    refine lv_aload_n hx hb dX6_begin_15 rfl (lv_at hl 0 rfl) ?_
    refine lv_iconst (v := (0)) hx hb dX6_begin_16 (by decide) ?_
    refine rp_X6_X6_shaded C X dX6_begin_17 (fun H locs X => ?_)
    refine lv_aload_n hx hb dX6_begin_20 rfl (lv_at hl 0 rfl) ?_
    refine lv_iconst (v := (0)) hx hb dX6_begin_21 (by decide) ?_
    refine rp_X6_X6_freedMany C X dX6_begin_22 (fun H locs X => ?_)
    refine lv_iconst (v := (0)) hx hb dX6_begin_25 (by decide) ?_
    refine lv_istore_n (lv' := [(1, .int (0 : Int32)), (0, .ref (a 0))]) hx hb dX6_begin_26 rfl hl (by decide) rfl (fun ls hl => ?_)
    have L27 : ∀ (res : RSt) (hx27 : ∀ (H : Heap) (locs : List Loc) (ls : Array Slot), Sx A D (wR a cI cZ res) s H locs → lv_has ls 3 [(0, .ref (a 0))] → W p l e (rmk 5 106) s m args below meth c H locs 0 0 Q (F0 m 66 ls [])) (f : Nat) (y1 : Int32) (σ27 : RSt) (hf : ((Int32.toInt (r_things σ27)) - (Int32.toInt y1)).toNat = f) (hnn : 0 ≤ Int32.toInt y1) (hS : S0 σ27) (he : fX6_begin_L27 f y1 σ27 = res) (H : Heap) (locs : List Loc) (ls : Array Slot) (X : Sx A D (wR a cI cZ σ27) s H locs) (hl : lv_has ls 3 [(0, .ref (a 0)), (1, .int y1)]), W p l e (rmk 5 106) s m args below meth c H locs 0 0 Q (F0 m 27 ls []) := by
      intro res hx27 f
      induction f with
      | zero =>
        intro y1 σ27 hf hnn hS he H locs ls X hl
        refine lv_iload_n hx hb dX6_begin_27 rfl (lv_at hl 1 rfl) ?_
        refine lv_aload_n hx hb dX6_begin_28 rfl (lv_at hl 0 rfl) ?_
        refine rg_X6_X6_things (v := (r_things σ27)) C X rfl dX6_begin_29 ?_
        refine lv_icmp_ge (tgt := 66) hx hb dX6_begin_32 (by decide) (fun c32 => ?_) (fun c32 => (lp_z hf c32).elim)
        exact hx27 _ _ _ (Eq.subst (motive := fun z => Sx A D (wR a cI cZ z) s _ _) he X) (Eq.subst (motive := fun z => lv_has _ 3 [(0, .ref (a 0))]) he (lv_sub hl [0] rfl))
      | succ f ih27 =>
        intro y1 σ27 hf hnn hS he H locs ls X hl
        refine lv_iload_n hx hb dX6_begin_27 rfl (lv_at hl 1 rfl) ?_
        refine lv_aload_n hx hb dX6_begin_28 rfl (lv_at hl 0 rfl) ?_
        refine rg_X6_X6_things (v := (r_things σ27)) C X rfl dX6_begin_29 ?_
        refine lv_icmp_ge (tgt := 66) hx hb dX6_begin_32 (by decide) (fun c32 => (lp_s hf c32).elim) (fun c32 => ?_)
        refine lv_aload_n hx hb dX6_begin_35 rfl (lv_at hl 0 rfl) ?_
        refine rg_X6_X6_colour C X dX6_begin_36 ?_
        refine lv_iload_n hx hb dX6_begin_39 rfl (lv_at hl 1 rfl) ?_
        refine lv_aload_n hx hb dX6_begin_40 rfl (lv_at hl 0 rfl) ?_
        refine rg_X6_X6_isFreed C X dX6_begin_41 ?_
        refine lv_iload_n hx hb dX6_begin_44 rfl (lv_at hl 1 rfl) ?_
        refine ra_isFreed (v := ((r_isFreed σ27) (ix y1))) C X (lp_in hnn hf (s0_th hS)) rfl dX6_begin_45 ?_
        refine lv_if_eq (tgt := 58) hx hb dX6_begin_46 (by decide) (fun c46 => ?_) (fun c46 => ?_)
        · refine lv_iconst (v := (0)) hx hb dX6_begin_58 (by decide) ?_
          refine rs_colour (g := (upd (r_colour σ27) (ix y1) (0 : Int32))) C X (lp_in hnn hf (s0_th hS)) rfl dX6_begin_59 (fun H locs X => ?_)
          refine lv_iinc (v := (y1 + 1)) (lv' := [(1, .int (y1 + 1)), (0, .ref (a 0))]) hx hb dX6_begin_60 hl (k := 1) rfl rfl (by decide) rfl (fun ls hl => ?_)
          refine lv_goto (tgt := 27) hx hb dX6_begin_63 (by decide) ?_
          exact ih27 (y1 + 1) (r_colour_s σ27 (upd (r_colour σ27) (ix y1) (0 : Int32))) (lp_b hf) (lp_nn hnn hf) (s0_sa (sa_colour _ _) hS) (Eq.trans (Eq.symm (if_pos c46)) he) _ _ _ X (lv_sub hl [1, 0] rfl)
        · refine lv_aload_n hx hb dX6_begin_49 rfl (lv_at hl 0 rfl) ?_
          refine rg_X6_X6_colour C X dX6_begin_50 ?_
          refine lv_iload_n hx hb dX6_begin_53 rfl (lv_at hl 1 rfl) ?_
          refine ra_colour (v := ((r_colour σ27) (ix y1))) C X (lp_in hnn hf (s0_th hS)) rfl dX6_begin_54 ?_
          refine lv_goto (tgt := 59) hx hb dX6_begin_55 (by decide) ?_
          refine rs_colour (g := (upd (r_colour σ27) (ix y1) ((r_colour σ27) (ix y1)))) C X (lp_in hnn hf (s0_th hS)) rfl dX6_begin_59 (fun H locs X => ?_)
          refine lv_iinc (v := (y1 + 1)) (lv' := [(1, .int (y1 + 1)), (0, .ref (a 0))]) hx hb dX6_begin_60 hl (k := 1) rfl rfl (by decide) rfl (fun ls hl => ?_)
          refine lv_goto (tgt := 27) hx hb dX6_begin_63 (by decide) ?_
          exact ih27 (y1 + 1) (r_colour_s σ27 (upd (r_colour σ27) (ix y1) ((r_colour σ27) (ix y1)))) (lp_b hf) (lp_nn hnn hf) (s0_sa (sa_colour _ _) hS) (Eq.trans (Eq.symm (if_neg c46)) he) _ _ _ X (lv_sub hl [1, 0] rfl)
    refine L27 (fX6_begin_L27 (((Int32.toInt (r_things (r_freedMany_s (r_shaded_s (r_steps_s σ (0 : Int32)) (0 : Int32)) (0 : Int32)))) - (Int32.toInt (0 : Int32))).toNat) (0 : Int32) (r_freedMany_s (r_shaded_s (r_steps_s σ (0 : Int32)) (0 : Int32)) (0 : Int32))) (fun H locs ls X hl => ?_) (((Int32.toInt (r_things (r_freedMany_s (r_shaded_s (r_steps_s σ (0 : Int32)) (0 : Int32)) (0 : Int32)))) - (Int32.toInt (0 : Int32))).toNat) (0 : Int32) (r_freedMany_s (r_shaded_s (r_steps_s σ (0 : Int32)) (0 : Int32)) (0 : Int32)) rfl (by decide) (s0_sa (sa_tr (sa_tr (sa_steps σ 0) (sa_shaded _ 0)) (sa_freedMany _ 0)) hS) rfl _ _ _ X (lv_sub hl [1, 0] rfl)
    have hS66 := s0_sa (sa_begin_L27 (((Int32.toInt (r_things (r_freedMany_s (r_shaded_s (r_steps_s σ 0) 0) 0))) - (Int32.toInt (0 : Int32))).toNat) 0 _) (s0_sa (sa_tr (sa_tr (sa_steps σ 0) (sa_shaded _ 0)) (sa_freedMany _ 0)) hS)
    have J89 : ∀ (σ89 : RSt) (hS : S0 σ89) (he : fX6_begin_J89 σ89 = (fX6_begin σ)) (H : Heap) (locs : List Loc) (ls : Array Slot) (X : Sx A D (wR a cI cZ σ89) s H locs) (hl : lv_has ls 3 [(0, .ref (a 0))]), W p l e (rmk 5 106) s m args below meth c H locs 0 0 Q (F0 m 89 ls []) := by
      intro σ89 hS he H locs ls X hl
      have J98 : ∀ (σ98 : RSt) (hS : S0 σ98) (he : fX6_begin_J98 σ98 = (fX6_begin σ)) (H : Heap) (locs : List Loc) (ls : Array Slot) (X : Sx A D (wR a cI cZ σ98) s H locs) (hl : lv_has ls 3 [(0, .ref (a 0))]), W p l e (rmk 5 106) s m args below meth c H locs 0 0 Q (F0 m 98 ls []) := by
        intro σ98 hS he H locs ls X hl
        refine lv_aload_n hx hb dX6_begin_98 rfl (lv_at hl 0 rfl) ?_
        refine rg_X6_X6_manner (v := (r_manner σ98)) C X rfl dX6_begin_99 ?_
        refine lv_if_ne (tgt := 124) hx hb dX6_begin_102 (by decide) (fun c102 => ?_) (fun c102 => ?_)
        · refine lv_iconst (v := (0)) hx hb dX6_begin_124 (by decide) ?_
          refine lv_istore_n (lv' := [(1, .int (0 : Int32)), (0, .ref (a 0))]) hx hb dX6_begin_125 rfl hl (by decide) rfl (fun ls hl => ?_)
          refine lv_iconst (v := (0)) hx hb dX6_begin_126 (by decide) ?_
          refine lv_istore_n (lv' := [(2, .int (0 : Int32)), (1, .int (0 : Int32)), (0, .ref (a 0))]) hx hb dX6_begin_127 rfl hl (by decide) rfl (fun ls hl => ?_)
          have L128 : ∀ (f : Nat) (y1 : Int32) (y2 : Int32) (hf : ((Int32.toInt (r_things σ98)) - (Int32.toInt y2)).toNat = f) (hnn : 0 ≤ Int32.toInt y2) (he : fX6_begin_L128 f y1 y2 σ98 = (fX6_begin σ)) (H : Heap) (locs : List Loc) (ls : Array Slot) (X : Sx A D (wR a cI cZ σ98) s H locs) (hl : lv_has ls 3 [(0, .ref (a 0)), (1, .int y1), (2, .int y2)]), W p l e (rmk 5 106) s m args below meth c H locs 0 0 Q (F0 m 128 ls []) := by
            intro f
            induction f with
            | zero =>
              intro y1 y2 hf hnn he H locs ls X hl
              refine lv_iload_n hx hb dX6_begin_128 rfl (lv_at hl 2 rfl) ?_
              refine lv_aload_n hx hb dX6_begin_129 rfl (lv_at hl 0 rfl) ?_
              refine rg_X6_X6_things (v := (r_things σ98)) C X rfl dX6_begin_130 ?_
              refine lv_icmp_ge (tgt := 169) hx hb dX6_begin_133 (by decide) (fun c133 => ?_) (fun c133 => (lp_z hf c133).elim)
              refine lv_iload_n hx hb dX6_begin_169 rfl (lv_at hl 1 rfl) ?_
              exact ret dX6_begin_170 (pe_ he) X
            | succ f ih128 =>
              intro y1 y2 hf hnn he H locs ls X hl
              refine lv_iload_n hx hb dX6_begin_128 rfl (lv_at hl 2 rfl) ?_
              refine lv_aload_n hx hb dX6_begin_129 rfl (lv_at hl 0 rfl) ?_
              refine rg_X6_X6_things (v := (r_things σ98)) C X rfl dX6_begin_130 ?_
              refine lv_icmp_ge (tgt := 169) hx hb dX6_begin_133 (by decide) (fun c133 => (lp_s hf c133).elim) (fun c133 => ?_)
              refine lv_iload_n hx hb dX6_begin_136 rfl (lv_at hl 1 rfl) ?_
              refine lv_aload_n hx hb dX6_begin_137 rfl (lv_at hl 0 rfl) ?_
              refine rg_X6_X6_colour C X dX6_begin_138 ?_
              refine lv_iload_n hx hb dX6_begin_141 rfl (lv_at hl 2 rfl) ?_
              refine ra_colour (v := ((r_colour σ98) (ix y2))) C X (lp_in hnn hf (s0_th hS)) rfl dX6_begin_142 ?_
              refine lv_iconst (v := (1)) hx hb dX6_begin_143 (by decide) ?_
              refine lv_icmp_ne (tgt := 160) hx hb dX6_begin_144 (by decide) (fun c144 => ?_) (fun c144 => ?_)
              · refine lv_iconst (v := (0)) hx hb dX6_begin_160 (by decide) ?_
                refine lv_iadd hx hb dX6_begin_161 ?_
                refine lv_istore_n (lv' := [(1, .int (y1 + (0 : Int32))), (0, .ref (a 0)), (2, .int y2)]) hx hb dX6_begin_162 rfl hl (by decide) rfl (fun ls hl => ?_)
                refine lv_iinc (v := (y2 + 1)) (lv' := [(2, .int (y2 + 1)), (1, .int (y1 + (0 : Int32))), (0, .ref (a 0))]) hx hb dX6_begin_163 hl (k := 2) rfl rfl (by decide) rfl (fun ls hl => ?_)
                refine lv_goto (tgt := 128) hx hb dX6_begin_166 (by decide) ?_
                exact ih128 (y1 + (0 : Int32)) (y2 + 1) (lp_b hf) (lp_nn hnn hf) (Eq.trans (Eq.symm (if_neg c144)) he) _ _ _ X (lv_sub hl [2, 1, 0] rfl)
              · refine lv_aload_n hx hb dX6_begin_147 rfl (lv_at hl 0 rfl) ?_
                refine rg_X6_X6_isFreed C X dX6_begin_148 ?_
                refine lv_iload_n hx hb dX6_begin_151 rfl (lv_at hl 2 rfl) ?_
                refine ra_isFreed (v := ((r_isFreed σ98) (ix y2))) C X (lp_in hnn hf (s0_th hS)) rfl dX6_begin_152 ?_
                refine lv_if_ne (tgt := 160) hx hb dX6_begin_153 (by decide) (fun c153 => ?_) (fun c153 => ?_)
                · refine lv_iconst (v := (0)) hx hb dX6_begin_160 (by decide) ?_
                  refine lv_iadd hx hb dX6_begin_161 ?_
                  refine lv_istore_n (lv' := [(1, .int (y1 + (0 : Int32))), (0, .ref (a 0)), (2, .int y2)]) hx hb dX6_begin_162 rfl hl (by decide) rfl (fun ls hl => ?_)
                  refine lv_iinc (v := (y2 + 1)) (lv' := [(2, .int (y2 + 1)), (1, .int (y1 + (0 : Int32))), (0, .ref (a 0))]) hx hb dX6_begin_163 hl (k := 2) rfl rfl (by decide) rfl (fun ls hl => ?_)
                  refine lv_goto (tgt := 128) hx hb dX6_begin_166 (by decide) ?_
                  exact ih128 (y1 + (0 : Int32)) (y2 + 1) (lp_b hf) (lp_nn hnn hf) (Eq.trans (Eq.symm (Eq.trans (if_pos c144) (if_neg c153))) he) _ _ _ X (lv_sub hl [2, 1, 0] rfl)
                · refine lv_iconst (v := (1)) hx hb dX6_begin_156 (by decide) ?_
                  refine lv_goto (tgt := 161) hx hb dX6_begin_157 (by decide) ?_
                  refine lv_iadd hx hb dX6_begin_161 ?_
                  refine lv_istore_n (lv' := [(1, .int (y1 + (1 : Int32))), (0, .ref (a 0)), (2, .int y2)]) hx hb dX6_begin_162 rfl hl (by decide) rfl (fun ls hl => ?_)
                  refine lv_iinc (v := (y2 + 1)) (lv' := [(2, .int (y2 + 1)), (1, .int (y1 + (1 : Int32))), (0, .ref (a 0))]) hx hb dX6_begin_163 hl (k := 2) rfl rfl (by decide) rfl (fun ls hl => ?_)
                  refine lv_goto (tgt := 128) hx hb dX6_begin_166 (by decide) ?_
                  exact ih128 (y1 + (1 : Int32)) (y2 + 1) (lp_b hf) (lp_nn hnn hf) (Eq.trans (Eq.symm (Eq.trans (if_pos c144) (if_pos c153))) he) _ _ _ X (lv_sub hl [2, 1, 0] rfl)
          exact L128 (((Int32.toInt (r_things σ98)) - (Int32.toInt (0 : Int32))).toNat) (0 : Int32) (0 : Int32) rfl (by decide) (Eq.trans (Eq.symm (if_neg c102)) he) _ _ _ X (lv_sub hl [2, 1, 0] rfl)
        · have L105 : ∀ (f : Nat) (σ105 : RSt) (hS : S0 σ105) (hmu : muR σ105 < f) (he : fX6_begin_L105 f σ105 = (fX6_begin σ)) (H : Heap) (locs : List Loc) (ls : Array Slot) (X : Sx A D (wR a cI cZ σ105) s H locs) (hl : lv_has ls 3 [(0, .ref (a 0))]), W p l e (rmk 5 106) s m args below meth c H locs 0 0 Q (F0 m 105 ls []) := by
            intro f
            induction f with
            | zero =>
              intro σ105 hS hmu he H locs ls X hl
              exact absurd hmu (Nat.not_lt_zero _)
            | succ f ih105 =>
              intro σ105 hS hmu he H locs ls X hl
              refine lv_aload_n hx hb dX6_begin_105 rfl (lv_at hl 0 rfl) ?_
              refine rg_X6_X6_way (v := (r_way σ105)) C X rfl dX6_begin_106 ?_
              refine lv_if_eq (tgt := 119) hx hb dX6_begin_109 (by decide) (fun c109 => ?_) (fun c109 => ?_)
              · refine lv_aload_n hx hb dX6_begin_119 rfl (lv_at hl 0 rfl) ?_
                refine rg_X6_X6_freedMany (v := (r_freedMany σ105)) C X rfl dX6_begin_120 ?_
                exact ret dX6_begin_123 (pe_ (Eq.trans (Eq.symm (if_pos c109)) he)) X
              · refine lv_aload_n hx hb dX6_begin_112 rfl (lv_at hl 0 rfl) ?_
                refine callVU (rest := []) C hA (wR_sh a cI cZ) X (kX6_step l D a cI cZ _  hS c109) (cwV 0 C.2.2.2.2.1 (gV wl_X6_139 wt_yX6_step ws_yX6_step wi_X6 wk_yX6_step) rfl rfl rfl hdX6_step ⟨Nat.le_of_ble_eq_true rfl, Nat.le_of_ble_eq_true rfl⟩) (ci := 6) (q0 := 0) rfl rfl rfl hl.1 rfl (Nat.le_of_ble_eq_true rfl) dX6_begin_113 ⟨Nat.le_refl 0, Nat.le_refl 0⟩ (fun H locs X => ?_)
                refine lv_goto (tgt := 105) hx hb dX6_begin_116 (by decide) ?_
                exact ih105  (fX6_step σ105) (s0_step hS c109) (Nat.lt_of_lt_of_le (mu_step hS c109) (Nat.le_of_lt_succ hmu)) (Eq.trans (Eq.symm (if_neg c109)) he) _ _ _ X (lv_sub hl [0] rfl)
          exact L105 1000  σ98 (hS) (mu_lt _) (Eq.trans (Eq.symm (if_pos c102)) he) _ _ _ X (lv_sub hl [0] rfl)
      refine lv_aload_n hx hb dX6_begin_89 rfl (lv_at hl 0 rfl) ?_
      refine callVU (rest := []) C hA (wR_sh a cI cZ) X (kX6_shadeHeld l D a cI cZ _  hS) (cwV 0 C.2.2.2.2.1 (gV wl_X6_107 wt_yX6_shadeHeld ws_yX6_shadeHeld wi_X6 wk_yX6_shadeHeld) rfl rfl rfl hdX6_shadeHeld ⟨Nat.le_of_ble_eq_true rfl, Nat.le_of_ble_eq_true rfl⟩) (ci := 6) (q0 := 0) rfl rfl rfl hl.1 rfl (Nat.le_of_ble_eq_true rfl) dX6_begin_90 ⟨Nat.le_refl 0, Nat.le_refl 0⟩ (fun H locs X => ?_)
      refine lv_aload_n hx hb dX6_begin_93 rfl (lv_at hl 0 rfl) ?_
      refine lv_iconst (v := (1)) hx hb dX6_begin_94 (by decide) ?_
      refine rp_X6_X6_way C X dX6_begin_95 (fun H locs X => ?_)
      exact J98  (r_way_s (fX6_shadeHeld σ89) (1 : Int32)) (s0_wy (s0_sa (sa_shadeHeld _) hS) 1 (Or.inr (Or.inl rfl))) he _ _ _ X (lv_sub hl [0] rfl)
    refine lv_aload_n hx hb dX6_begin_66 rfl (lv_at hl 0 rfl) ?_
    refine rg_X6_X6_manner (v := (r_manner (fX6_begin_L27 (((Int32.toInt (r_things (r_freedMany_s (r_shaded_s (r_steps_s σ (0 : Int32)) (0 : Int32)) (0 : Int32)))) - (Int32.toInt (0 : Int32))).toNat) (0 : Int32) (r_freedMany_s (r_shaded_s (r_steps_s σ (0 : Int32)) (0 : Int32)) (0 : Int32))))) C X rfl dX6_begin_67 ?_
    refine lv_iconst (v := (3)) hx hb dX6_begin_70 (by decide) ?_
    refine lv_icmp_ne (tgt := 89) hx hb dX6_begin_71 (by decide) (fun c71 => ?_) (fun c71 => ?_)
    · exact J89  (fX6_begin_L27 (((Int32.toInt (r_things (r_freedMany_s (r_shaded_s (r_steps_s σ (0 : Int32)) (0 : Int32)) (0 : Int32)))) - (Int32.toInt (0 : Int32))).toNat) (0 : Int32) (r_freedMany_s (r_shaded_s (r_steps_s σ (0 : Int32)) (0 : Int32)) (0 : Int32))) (by first | with_reducible exact hS66 | exact s0_sa (sa_tr (sa_half _ _) (sa_top _ _)) hS66) (Eq.symm (Eq.trans (if_pos c4) (if_neg c71))) _ _ _ X (lv_sub hl [0] rfl)
    · refine lv_aload_n hx hb dX6_begin_74 rfl (lv_at hl 0 rfl) ?_
      refine lv_iconst (v := (1)) hx hb dX6_begin_75 (by decide) ?_
      refine lv_aload_n hx hb dX6_begin_76 rfl (lv_at hl 0 rfl) ?_
      refine rg_X6_X6_half (v := (r_half (fX6_begin_L27 (((Int32.toInt (r_things (r_freedMany_s (r_shaded_s (r_steps_s σ (0 : Int32)) (0 : Int32)) (0 : Int32)))) - (Int32.toInt (0 : Int32))).toNat) (0 : Int32) (r_freedMany_s (r_shaded_s (r_steps_s σ (0 : Int32)) (0 : Int32)) (0 : Int32))))) C X rfl dX6_begin_77 ?_
      refine lv_isub hx hb dX6_begin_80 ?_
      refine rp_X6_X6_half C X dX6_begin_81 (fun H locs X => ?_)
      refine lv_aload_n hx hb dX6_begin_84 rfl (lv_at hl 0 rfl) ?_
      refine lv_iconst (v := (0)) hx hb dX6_begin_85 (by decide) ?_
      refine rp_X6_X6_top C X dX6_begin_86 (fun H locs X => ?_)
      exact J89  (r_top_s (r_half_s (fX6_begin_L27 (((Int32.toInt (r_things (r_freedMany_s (r_shaded_s (r_steps_s σ (0 : Int32)) (0 : Int32)) (0 : Int32)))) - (Int32.toInt (0 : Int32))).toNat) (0 : Int32) (r_freedMany_s (r_shaded_s (r_steps_s σ (0 : Int32)) (0 : Int32)) (0 : Int32))) ((1 : Int32) - (r_half (fX6_begin_L27 (((Int32.toInt (r_things (r_freedMany_s (r_shaded_s (r_steps_s σ (0 : Int32)) (0 : Int32)) (0 : Int32)))) - (Int32.toInt (0 : Int32))).toNat) (0 : Int32) (r_freedMany_s (r_shaded_s (r_steps_s σ (0 : Int32)) (0 : Int32)) (0 : Int32)))))) (0 : Int32)) (by first | with_reducible exact hS66 | exact s0_sa (sa_tr (sa_half _ _) (sa_top _ _)) hS66) (Eq.symm (Eq.trans (if_pos c4) (if_pos c71))) _ _ _ X (lv_sub hl [0] rfl)
  · refine lv_bipush (v := (-3)) hx hb dX6_begin_7 (by decide) ?_
    exact ret dX6_begin_9 (pe_ (Eq.symm (if_neg c4))) X
def fX6_empties_L52 : Nat → Int32 → RSt → RSt
  | 0, y1, σ52 => σ52
  | f + 1, y1, σ52 => (fX6_empties_L52 f (y1 + 1) (r_register_s σ52 (upd (r_register σ52) (ix y1) (-1 : Int32))))
def fX6_empties_L73 : Nat → Int32 → RSt → RSt
  | 0, y1, σ73 => σ73
  | f + 1, y1, σ73 => (fX6_empties_L73 f (y1 + 1) (r_slot_s σ73 (upd (r_slot σ73) (ix y1) (-1 : Int32))))
def fX6_empties_L93 : Nat → Int32 → RSt → RSt
  | 0, y1, σ93 => σ93
  | f + 1, y1, σ93 => (fX6_empties_L93 f (y1 + 1) (r_weakAt_s σ93 (upd (r_weakAt σ93) (ix y1) (-1 : Int32))))
def fX6_empties_L114 : Nat → Int32 → RSt → RSt
  | 0, y1, σ114 => σ114
  | f + 1, y1, σ114 => (fX6_empties_L114 f (y1 + 1) (r_isPair_s σ114 (upd (r_isPair σ114) (ix y1) (0 : Int32))))
def fX6_empties (σ : RSt) : RSt := (fX6_empties_L114 (((Int32.toInt (8 : Int32)) - (Int32.toInt (0 : Int32))).toNat) (0 : Int32) (fX6_empties_L93 (((Int32.toInt (6 : Int32)) - (Int32.toInt (0 : Int32))).toNat) (0 : Int32) (fX6_empties_L73 (((Int32.toInt (4 : Int32)) - (Int32.toInt (0 : Int32))).toNat) (0 : Int32) (fX6_empties_L52 (((Int32.toInt (12 : Int32)) - (Int32.toInt (0 : Int32))).toNat) (0 : Int32) (r_movedMany_s (r_shaded_s (r_steps_s (r_rounds_s (r_way_s (r_top_s (r_half_s (r_pairs_s (r_wishes_s (r_things_s σ (0 : Int32)) (0 : Int32)) (0 : Int32)) (0 : Int32)) (0 : Int32)) (0 : Int32)) (0 : Int32)) (0 : Int32)) (0 : Int32)) (0 : Int32))))))
theorem hdX6_empties : yX6_empties.cls = RX6 ∧ yX6_empties.cls ≠ "java/lang/invoke/MethodHandle" ∧ yX6_empties.cls ≠ "java/lang/invoke/VarHandle" ∧ (parseMethodDescriptor yX6_empties.desc).map (fun d => d.parameters.length) = some 0 := by decide +kernel
set_option maxHeartbeats 250000 in
set_option maxRecDepth 100000 in
theorem kX6_empties (l : Launch) (D : va_G) (a : Nat → Nat) (cI cZ : ClassId) (σ : RSt) : CU l D (tyIZ cI cZ) (wR a cI cZ) yX6_empties cX6_empties 2 (rmk 0 0) [.ref (a 0)] σ (fX6_empties σ) := by
  refine CU.of pnX6 ⟨rfl, rfl⟩ (Nat.le_of_ble_eq_true rfl) (fun p e s m args below meth c A Q ls C X hA hl ret => ?_)
  have C : Cx p s m args meth c cX6_empties 2 RX6 D (tyIZ cI cZ) := C
  have hx := C.1
  have hb := C.2.1
  have hl : lv_has ls 2 [(0, .ref (a 0))] := hl
  refine lv_aload_n hx hb dX6_empties_0 rfl (lv_at hl 0 rfl) ?_
  refine lv_iconst (v := (0)) hx hb dX6_empties_1 (by decide) ?_
  refine rp_X6_X6_things C X dX6_empties_2 (fun H locs X => ?_)
  refine lv_aload_n hx hb dX6_empties_5 rfl (lv_at hl 0 rfl) ?_
  refine lv_iconst (v := (0)) hx hb dX6_empties_6 (by decide) ?_
  refine rp_X6_X6_wishes C X dX6_empties_7 (fun H locs X => ?_)
  refine lv_aload_n hx hb dX6_empties_10 rfl (lv_at hl 0 rfl) ?_
  refine lv_iconst (v := (0)) hx hb dX6_empties_11 (by decide) ?_
  refine rp_X6_X6_pairs C X dX6_empties_12 (fun H locs X => ?_)
  refine lv_aload_n hx hb dX6_empties_15 rfl (lv_at hl 0 rfl) ?_
  refine lv_iconst (v := (0)) hx hb dX6_empties_16 (by decide) ?_
  refine rp_X6_X6_half C X dX6_empties_17 (fun H locs X => ?_)
  refine lv_aload_n hx hb dX6_empties_20 rfl (lv_at hl 0 rfl) ?_
  refine lv_iconst (v := (0)) hx hb dX6_empties_21 (by decide) ?_
  refine rp_X6_X6_top C X dX6_empties_22 (fun H locs X => ?_)
  refine lv_aload_n hx hb dX6_empties_25 rfl (lv_at hl 0 rfl) ?_
  refine lv_iconst (v := (0)) hx hb dX6_empties_26 (by decide) ?_
  refine rp_X6_X6_way C X dX6_empties_27 (fun H locs X => ?_)
  refine lv_aload_n hx hb dX6_empties_30 rfl (lv_at hl 0 rfl) ?_
  refine lv_iconst (v := (0)) hx hb dX6_empties_31 (by decide) ?_
  refine rp_X6_X6_rounds C X dX6_empties_32 (fun H locs X => ?_)
  refine lv_aload_n hx hb dX6_empties_35 rfl (lv_at hl 0 rfl) ?_
  refine lv_iconst (v := (0)) hx hb dX6_empties_36 (by decide) ?_
  refine rp_X6_X6_steps C X dX6_empties_37 (fun H locs X => ?_)
  refine lv_aload_n hx hb dX6_empties_40 rfl (lv_at hl 0 rfl) ?_
  refine lv_iconst (v := (0)) hx hb dX6_empties_41 (by decide) ?_
  refine rp_X6_X6_shaded C X dX6_empties_42 (fun H locs X => ?_)
  refine lv_aload_n hx hb dX6_empties_45 rfl (lv_at hl 0 rfl) ?_
  refine lv_iconst (v := (0)) hx hb dX6_empties_46 (by decide) ?_
  refine rp_X6_X6_movedMany C X dX6_empties_47 (fun H locs X => ?_)
  refine lv_iconst (v := (0)) hx hb dX6_empties_50 (by decide) ?_
  refine lv_istore_n (lv' := [(1, .int (0 : Int32)), (0, .ref (a 0))]) hx hb dX6_empties_51 rfl hl (by decide) rfl (fun ls hl => ?_)
  have L52 : ∀ (res : RSt) (hx52 : ∀ (H : Heap) (locs : List Loc) (ls : Array Slot), Sx A D (wR a cI cZ res) s H locs → lv_has ls 2 [(0, .ref (a 0))] → W p l e (rmk 0 0) s m args below meth c H locs 0 0 Q (F0 m 71 ls [])) (f : Nat) (y1 : Int32) (σ52 : RSt) (hf : ((Int32.toInt (12 : Int32)) - (Int32.toInt y1)).toNat = f) (hnn : 0 ≤ Int32.toInt y1) (he : fX6_empties_L52 f y1 σ52 = res) (H : Heap) (locs : List Loc) (ls : Array Slot) (X : Sx A D (wR a cI cZ σ52) s H locs) (hl : lv_has ls 2 [(0, .ref (a 0)), (1, .int y1)]), W p l e (rmk 0 0) s m args below meth c H locs 0 0 Q (F0 m 52 ls []) := by
    intro res hx52 f
    induction f with
    | zero =>
      intro y1 σ52 hf hnn he H locs ls X hl
      refine lv_iload_n hx hb dX6_empties_52 rfl (lv_at hl 1 rfl) ?_
      refine lv_bipush (v := (12)) hx hb dX6_empties_53 (by decide) ?_
      refine lv_icmp_ge (tgt := 71) hx hb dX6_empties_55 (by decide) (fun c55 => ?_) (fun c55 => (lp_z hf c55).elim)
      exact hx52 _ _ _ (Eq.subst (motive := fun z => Sx A D (wR a cI cZ z) s _ _) he X) (Eq.subst (motive := fun z => lv_has _ 2 [(0, .ref (a 0))]) he (lv_sub hl [0] rfl))
    | succ f ih52 =>
      intro y1 σ52 hf hnn he H locs ls X hl
      refine lv_iload_n hx hb dX6_empties_52 rfl (lv_at hl 1 rfl) ?_
      refine lv_bipush (v := (12)) hx hb dX6_empties_53 (by decide) ?_
      refine lv_icmp_ge (tgt := 71) hx hb dX6_empties_55 (by decide) (fun c55 => (lp_s hf c55).elim) (fun c55 => ?_)
      refine lv_aload_n hx hb dX6_empties_58 rfl (lv_at hl 0 rfl) ?_
      refine rg_X6_X6_register C X dX6_empties_59 ?_
      refine lv_iload_n hx hb dX6_empties_62 rfl (lv_at hl 1 rfl) ?_
      refine lv_iconst (v := (-1)) hx hb dX6_empties_63 (by decide) ?_
      refine rs_register (g := (upd (r_register σ52) (ix y1) (-1 : Int32))) C X (lp_in hnn hf (show (Int32.toInt (12 : Int32) : Int) ≤ 12 by decide)) rfl dX6_empties_64 (fun H locs X => ?_)
      refine lv_iinc (v := (y1 + 1)) (lv' := [(1, .int (y1 + 1)), (0, .ref (a 0))]) hx hb dX6_empties_65 hl (k := 1) rfl rfl (by decide) rfl (fun ls hl => ?_)
      refine lv_goto (tgt := 52) hx hb dX6_empties_68 (by decide) ?_
      exact ih52 (y1 + 1) (r_register_s σ52 (upd (r_register σ52) (ix y1) (-1 : Int32))) (lp_b hf) (lp_nn hnn hf) he _ _ _ X (lv_sub hl [1, 0] rfl)
  refine L52 (fX6_empties_L52 (((Int32.toInt (12 : Int32)) - (Int32.toInt (0 : Int32))).toNat) (0 : Int32) (r_movedMany_s (r_shaded_s (r_steps_s (r_rounds_s (r_way_s (r_top_s (r_half_s (r_pairs_s (r_wishes_s (r_things_s σ (0 : Int32)) (0 : Int32)) (0 : Int32)) (0 : Int32)) (0 : Int32)) (0 : Int32)) (0 : Int32)) (0 : Int32)) (0 : Int32)) (0 : Int32))) (fun H locs ls X hl => ?_) (((Int32.toInt (12 : Int32)) - (Int32.toInt (0 : Int32))).toNat) (0 : Int32) (r_movedMany_s (r_shaded_s (r_steps_s (r_rounds_s (r_way_s (r_top_s (r_half_s (r_pairs_s (r_wishes_s (r_things_s σ (0 : Int32)) (0 : Int32)) (0 : Int32)) (0 : Int32)) (0 : Int32)) (0 : Int32)) (0 : Int32)) (0 : Int32)) (0 : Int32)) (0 : Int32)) rfl (by decide) rfl _ _ _ X (lv_sub hl [1, 0] rfl)
  refine lv_iconst (v := (0)) hx hb dX6_empties_71 (by decide) ?_
  refine lv_istore_n (lv' := [(1, .int (0 : Int32)), (0, .ref (a 0))]) hx hb dX6_empties_72 rfl hl (by decide) rfl (fun ls hl => ?_)
  have L73 : ∀ (res : RSt) (hx73 : ∀ (H : Heap) (locs : List Loc) (ls : Array Slot), Sx A D (wR a cI cZ res) s H locs → lv_has ls 2 [(0, .ref (a 0))] → W p l e (rmk 0 0) s m args below meth c H locs 0 0 Q (F0 m 91 ls [])) (f : Nat) (y1 : Int32) (σ73 : RSt) (hf : ((Int32.toInt (4 : Int32)) - (Int32.toInt y1)).toNat = f) (hnn : 0 ≤ Int32.toInt y1) (he : fX6_empties_L73 f y1 σ73 = res) (H : Heap) (locs : List Loc) (ls : Array Slot) (X : Sx A D (wR a cI cZ σ73) s H locs) (hl : lv_has ls 2 [(0, .ref (a 0)), (1, .int y1)]), W p l e (rmk 0 0) s m args below meth c H locs 0 0 Q (F0 m 73 ls []) := by
    intro res hx73 f
    induction f with
    | zero =>
      intro y1 σ73 hf hnn he H locs ls X hl
      refine lv_iload_n hx hb dX6_empties_73 rfl (lv_at hl 1 rfl) ?_
      refine lv_iconst (v := (4)) hx hb dX6_empties_74 (by decide) ?_
      refine lv_icmp_ge (tgt := 91) hx hb dX6_empties_75 (by decide) (fun c75 => ?_) (fun c75 => (lp_z hf c75).elim)
      exact hx73 _ _ _ (Eq.subst (motive := fun z => Sx A D (wR a cI cZ z) s _ _) he X) (Eq.subst (motive := fun z => lv_has _ 2 [(0, .ref (a 0))]) he (lv_sub hl [0] rfl))
    | succ f ih73 =>
      intro y1 σ73 hf hnn he H locs ls X hl
      refine lv_iload_n hx hb dX6_empties_73 rfl (lv_at hl 1 rfl) ?_
      refine lv_iconst (v := (4)) hx hb dX6_empties_74 (by decide) ?_
      refine lv_icmp_ge (tgt := 91) hx hb dX6_empties_75 (by decide) (fun c75 => (lp_s hf c75).elim) (fun c75 => ?_)
      refine lv_aload_n hx hb dX6_empties_78 rfl (lv_at hl 0 rfl) ?_
      refine rg_X6_X6_slot C X dX6_empties_79 ?_
      refine lv_iload_n hx hb dX6_empties_82 rfl (lv_at hl 1 rfl) ?_
      refine lv_iconst (v := (-1)) hx hb dX6_empties_83 (by decide) ?_
      refine rs_slot (g := (upd (r_slot σ73) (ix y1) (-1 : Int32))) C X (lp_in hnn hf (show (Int32.toInt (4 : Int32) : Int) ≤ 4 by decide)) rfl dX6_empties_84 (fun H locs X => ?_)
      refine lv_iinc (v := (y1 + 1)) (lv' := [(1, .int (y1 + 1)), (0, .ref (a 0))]) hx hb dX6_empties_85 hl (k := 1) rfl rfl (by decide) rfl (fun ls hl => ?_)
      refine lv_goto (tgt := 73) hx hb dX6_empties_88 (by decide) ?_
      exact ih73 (y1 + 1) (r_slot_s σ73 (upd (r_slot σ73) (ix y1) (-1 : Int32))) (lp_b hf) (lp_nn hnn hf) he _ _ _ X (lv_sub hl [1, 0] rfl)
  refine L73 (fX6_empties_L73 (((Int32.toInt (4 : Int32)) - (Int32.toInt (0 : Int32))).toNat) (0 : Int32) (fX6_empties_L52 (((Int32.toInt (12 : Int32)) - (Int32.toInt (0 : Int32))).toNat) (0 : Int32) (r_movedMany_s (r_shaded_s (r_steps_s (r_rounds_s (r_way_s (r_top_s (r_half_s (r_pairs_s (r_wishes_s (r_things_s σ (0 : Int32)) (0 : Int32)) (0 : Int32)) (0 : Int32)) (0 : Int32)) (0 : Int32)) (0 : Int32)) (0 : Int32)) (0 : Int32)) (0 : Int32)))) (fun H locs ls X hl => ?_) (((Int32.toInt (4 : Int32)) - (Int32.toInt (0 : Int32))).toNat) (0 : Int32) (fX6_empties_L52 (((Int32.toInt (12 : Int32)) - (Int32.toInt (0 : Int32))).toNat) (0 : Int32) (r_movedMany_s (r_shaded_s (r_steps_s (r_rounds_s (r_way_s (r_top_s (r_half_s (r_pairs_s (r_wishes_s (r_things_s σ (0 : Int32)) (0 : Int32)) (0 : Int32)) (0 : Int32)) (0 : Int32)) (0 : Int32)) (0 : Int32)) (0 : Int32)) (0 : Int32)) (0 : Int32))) rfl (by decide) rfl _ _ _ X (lv_sub hl [1, 0] rfl)
  refine lv_iconst (v := (0)) hx hb dX6_empties_91 (by decide) ?_
  refine lv_istore_n (lv' := [(1, .int (0 : Int32)), (0, .ref (a 0))]) hx hb dX6_empties_92 rfl hl (by decide) rfl (fun ls hl => ?_)
  have L93 : ∀ (res : RSt) (hx93 : ∀ (H : Heap) (locs : List Loc) (ls : Array Slot), Sx A D (wR a cI cZ res) s H locs → lv_has ls 2 [(0, .ref (a 0))] → W p l e (rmk 0 0) s m args below meth c H locs 0 0 Q (F0 m 112 ls [])) (f : Nat) (y1 : Int32) (σ93 : RSt) (hf : ((Int32.toInt (6 : Int32)) - (Int32.toInt y1)).toNat = f) (hnn : 0 ≤ Int32.toInt y1) (he : fX6_empties_L93 f y1 σ93 = res) (H : Heap) (locs : List Loc) (ls : Array Slot) (X : Sx A D (wR a cI cZ σ93) s H locs) (hl : lv_has ls 2 [(0, .ref (a 0)), (1, .int y1)]), W p l e (rmk 0 0) s m args below meth c H locs 0 0 Q (F0 m 93 ls []) := by
    intro res hx93 f
    induction f with
    | zero =>
      intro y1 σ93 hf hnn he H locs ls X hl
      refine lv_iload_n hx hb dX6_empties_93 rfl (lv_at hl 1 rfl) ?_
      refine lv_bipush (v := (6)) hx hb dX6_empties_94 (by decide) ?_
      refine lv_icmp_ge (tgt := 112) hx hb dX6_empties_96 (by decide) (fun c96 => ?_) (fun c96 => (lp_z hf c96).elim)
      exact hx93 _ _ _ (Eq.subst (motive := fun z => Sx A D (wR a cI cZ z) s _ _) he X) (Eq.subst (motive := fun z => lv_has _ 2 [(0, .ref (a 0))]) he (lv_sub hl [0] rfl))
    | succ f ih93 =>
      intro y1 σ93 hf hnn he H locs ls X hl
      refine lv_iload_n hx hb dX6_empties_93 rfl (lv_at hl 1 rfl) ?_
      refine lv_bipush (v := (6)) hx hb dX6_empties_94 (by decide) ?_
      refine lv_icmp_ge (tgt := 112) hx hb dX6_empties_96 (by decide) (fun c96 => (lp_s hf c96).elim) (fun c96 => ?_)
      refine lv_aload_n hx hb dX6_empties_99 rfl (lv_at hl 0 rfl) ?_
      refine rg_X6_X6_weakAt C X dX6_empties_100 ?_
      refine lv_iload_n hx hb dX6_empties_103 rfl (lv_at hl 1 rfl) ?_
      refine lv_iconst (v := (-1)) hx hb dX6_empties_104 (by decide) ?_
      refine rs_weakAt (g := (upd (r_weakAt σ93) (ix y1) (-1 : Int32))) C X (lp_in hnn hf (show (Int32.toInt (6 : Int32) : Int) ≤ 6 by decide)) rfl dX6_empties_105 (fun H locs X => ?_)
      refine lv_iinc (v := (y1 + 1)) (lv' := [(1, .int (y1 + 1)), (0, .ref (a 0))]) hx hb dX6_empties_106 hl (k := 1) rfl rfl (by decide) rfl (fun ls hl => ?_)
      refine lv_goto (tgt := 93) hx hb dX6_empties_109 (by decide) ?_
      exact ih93 (y1 + 1) (r_weakAt_s σ93 (upd (r_weakAt σ93) (ix y1) (-1 : Int32))) (lp_b hf) (lp_nn hnn hf) he _ _ _ X (lv_sub hl [1, 0] rfl)
  refine L93 (fX6_empties_L93 (((Int32.toInt (6 : Int32)) - (Int32.toInt (0 : Int32))).toNat) (0 : Int32) (fX6_empties_L73 (((Int32.toInt (4 : Int32)) - (Int32.toInt (0 : Int32))).toNat) (0 : Int32) (fX6_empties_L52 (((Int32.toInt (12 : Int32)) - (Int32.toInt (0 : Int32))).toNat) (0 : Int32) (r_movedMany_s (r_shaded_s (r_steps_s (r_rounds_s (r_way_s (r_top_s (r_half_s (r_pairs_s (r_wishes_s (r_things_s σ (0 : Int32)) (0 : Int32)) (0 : Int32)) (0 : Int32)) (0 : Int32)) (0 : Int32)) (0 : Int32)) (0 : Int32)) (0 : Int32)) (0 : Int32))))) (fun H locs ls X hl => ?_) (((Int32.toInt (6 : Int32)) - (Int32.toInt (0 : Int32))).toNat) (0 : Int32) (fX6_empties_L73 (((Int32.toInt (4 : Int32)) - (Int32.toInt (0 : Int32))).toNat) (0 : Int32) (fX6_empties_L52 (((Int32.toInt (12 : Int32)) - (Int32.toInt (0 : Int32))).toNat) (0 : Int32) (r_movedMany_s (r_shaded_s (r_steps_s (r_rounds_s (r_way_s (r_top_s (r_half_s (r_pairs_s (r_wishes_s (r_things_s σ (0 : Int32)) (0 : Int32)) (0 : Int32)) (0 : Int32)) (0 : Int32)) (0 : Int32)) (0 : Int32)) (0 : Int32)) (0 : Int32)) (0 : Int32)))) rfl (by decide) rfl _ _ _ X (lv_sub hl [1, 0] rfl)
  refine lv_iconst (v := (0)) hx hb dX6_empties_112 (by decide) ?_
  refine lv_istore_n (lv' := [(1, .int (0 : Int32)), (0, .ref (a 0))]) hx hb dX6_empties_113 rfl hl (by decide) rfl (fun ls hl => ?_)
  have L114 : ∀ (f : Nat) (y1 : Int32) (σ114 : RSt) (hf : ((Int32.toInt (8 : Int32)) - (Int32.toInt y1)).toNat = f) (hnn : 0 ≤ Int32.toInt y1) (he : fX6_empties_L114 f y1 σ114 = (fX6_empties σ)) (H : Heap) (locs : List Loc) (ls : Array Slot) (X : Sx A D (wR a cI cZ σ114) s H locs) (hl : lv_has ls 2 [(0, .ref (a 0)), (1, .int y1)]), W p l e (rmk 0 0) s m args below meth c H locs 0 0 Q (F0 m 114 ls []) := by
    intro f
    induction f with
    | zero =>
      intro y1 σ114 hf hnn he H locs ls X hl
      refine lv_iload_n hx hb dX6_empties_114 rfl (lv_at hl 1 rfl) ?_
      refine lv_bipush (v := (8)) hx hb dX6_empties_115 (by decide) ?_
      refine lv_icmp_ge (tgt := 133) hx hb dX6_empties_117 (by decide) (fun c117 => ?_) (fun c117 => (lp_z hf c117).elim)
      exact ret dX6_empties_133 he X
    | succ f ih114 =>
      intro y1 σ114 hf hnn he H locs ls X hl
      refine lv_iload_n hx hb dX6_empties_114 rfl (lv_at hl 1 rfl) ?_
      refine lv_bipush (v := (8)) hx hb dX6_empties_115 (by decide) ?_
      refine lv_icmp_ge (tgt := 133) hx hb dX6_empties_117 (by decide) (fun c117 => (lp_s hf c117).elim) (fun c117 => ?_)
      refine lv_aload_n hx hb dX6_empties_120 rfl (lv_at hl 0 rfl) ?_
      refine rg_X6_X6_isPair C X dX6_empties_121 ?_
      refine lv_iload_n hx hb dX6_empties_124 rfl (lv_at hl 1 rfl) ?_
      refine lv_iconst (v := (0)) hx hb dX6_empties_125 (by decide) ?_
      refine rs_isPair (x1 := (0 : Int32)) (g := (upd (r_isPair σ114) (ix y1) (0 : Int32))) C X (lp_in hnn hf (show (Int32.toInt (8 : Int32) : Int) ≤ 8 by decide)) rfl rfl dX6_empties_126 (fun H locs X => ?_)
      refine lv_iinc (v := (y1 + 1)) (lv' := [(1, .int (y1 + 1)), (0, .ref (a 0))]) hx hb dX6_empties_127 hl (k := 1) rfl rfl (by decide) rfl (fun ls hl => ?_)
      refine lv_goto (tgt := 114) hx hb dX6_empties_130 (by decide) ?_
      exact ih114 (y1 + 1) (r_isPair_s σ114 (upd (r_isPair σ114) (ix y1) (0 : Int32))) (lp_b hf) (lp_nn hnn hf) he _ _ _ X (lv_sub hl [1, 0] rfl)
  exact L114 (((Int32.toInt (8 : Int32)) - (Int32.toInt (0 : Int32))).toNat) (0 : Int32) (fX6_empties_L93 (((Int32.toInt (6 : Int32)) - (Int32.toInt (0 : Int32))).toNat) (0 : Int32) (fX6_empties_L73 (((Int32.toInt (4 : Int32)) - (Int32.toInt (0 : Int32))).toNat) (0 : Int32) (fX6_empties_L52 (((Int32.toInt (12 : Int32)) - (Int32.toInt (0 : Int32))).toNat) (0 : Int32) (r_movedMany_s (r_shaded_s (r_steps_s (r_rounds_s (r_way_s (r_top_s (r_half_s (r_pairs_s (r_wishes_s (r_things_s σ (0 : Int32)) (0 : Int32)) (0 : Int32)) (0 : Int32)) (0 : Int32)) (0 : Int32)) (0 : Int32)) (0 : Int32)) (0 : Int32)) (0 : Int32))))) rfl (by decide) rfl _ _ _ X (lv_sub hl [1, 0] rfl)
def fX6_attic (σ : RSt) (x1 : Int32) (x2 : Int32) : Int32 × RSt := (if (fX6_in σ x1 (0 : Int32) (3 : Int32)) = (0 : Int32) then ((-2 : Int32), σ) else (if (fX6_in σ x2 (0 : Int32) (2 : Int32)) = (0 : Int32) then ((-2 : Int32), σ) else ((r_things σ), (r_fault_s (r_manner_s (fX6_empties σ) x1) x2))))
theorem hdX6_attic : yX6_attic.cls = RX6 ∧ yX6_attic.cls ≠ "java/lang/invoke/MethodHandle" ∧ yX6_attic.cls ≠ "java/lang/invoke/VarHandle" ∧ (parseMethodDescriptor yX6_attic.desc).map (fun d => d.parameters.length) = some 2 := by decide +kernel
set_option maxHeartbeats 250000 in
set_option maxRecDepth 100000 in
theorem kX6_attic (l : Launch) (D : va_G) (a : Nat → Nat) (cI cZ : ClassId) (σ : RSt) (x1 : Int32) (x2 : Int32) : CR l D (tyIZ cI cZ) (wR a cI cZ) yX6_attic cX6_attic 4 .int (rmk 1 22) [.ref (a 0), .int x1, .int x2] σ (fX6_attic σ x1 x2).1 (fX6_attic σ x1 x2).2 := by
  refine CR.of pnX6 ⟨rfl, rfl⟩ (Nat.le_of_ble_eq_true rfl) rfl (fun p e s m args below meth c A Q ls C X hA hl ret => ?_)
  have C : Cx p s m args meth c cX6_attic 4 RX6 D (tyIZ cI cZ) := C
  have hx := C.1
  have hb := C.2.1
  have hl : lv_has ls 4 [(0, .ref (a 0)), (1, .int x1), (2, .int x2)] := hl
  refine lv_iload_n hx hb dX6_attic_0 rfl (lv_at hl 1 rfl) ?_
  refine lv_iconst (v := (0)) hx hb dX6_attic_1 (by decide) ?_
  refine lv_iconst (v := (3)) hx hb dX6_attic_2 (by decide) ?_
  refine callSR (rest := []) C hA (wR_sh a cI cZ) X (kX6_in l D a cI cZ _ x1 (0 : Int32) (3 : Int32)) (cwS 3 C.2.2.2.2.1 (gS wl_X6_90 wz_yX6_in wi_X6 wk_yX6_in) rfl rfl rfl hdX6_in ⟨Nat.le_of_ble_eq_true rfl, Nat.le_of_ble_eq_true rfl⟩) rfl hl.1 rfl (Nat.le_of_ble_eq_true rfl) dX6_attic_3 ⟨Nat.le_refl 0, Nat.le_refl 0⟩ (fun H locs X => ?_)
  refine lv_if_eq (tgt := 18) hx hb dX6_attic_6 (by decide) (fun c6 => ?_) (fun c6 => ?_)
  · refine lv_bipush (v := (-2)) hx hb dX6_attic_18 (by decide) ?_
    exact ret dX6_attic_20 (pe_ (Eq.symm (if_pos c6))) X
  · refine lv_iload_n hx hb dX6_attic_9 rfl (lv_at hl 2 rfl) ?_
    refine lv_iconst (v := (0)) hx hb dX6_attic_10 (by decide) ?_
    refine lv_iconst (v := (2)) hx hb dX6_attic_11 (by decide) ?_
    refine callSR (rest := []) C hA (wR_sh a cI cZ) X (kX6_in l D a cI cZ _ x2 (0 : Int32) (2 : Int32)) (cwS 3 C.2.2.2.2.1 (gS wl_X6_90 wz_yX6_in wi_X6 wk_yX6_in) rfl rfl rfl hdX6_in ⟨Nat.le_of_ble_eq_true rfl, Nat.le_of_ble_eq_true rfl⟩) rfl hl.1 rfl (Nat.le_of_ble_eq_true rfl) dX6_attic_12 ⟨Nat.le_refl 0, Nat.le_refl 0⟩ (fun H locs X => ?_)
    refine lv_if_ne (tgt := 21) hx hb dX6_attic_15 (by decide) (fun c15 => ?_) (fun c15 => ?_)
    · refine lv_aload_n hx hb dX6_attic_21 rfl (lv_at hl 0 rfl) ?_
      refine rg_X6_X6_things (v := (r_things σ)) C X rfl dX6_attic_22 ?_
      refine lv_istore_n (lv' := [(3, .int (r_things σ)), (0, .ref (a 0)), (1, .int x1), (2, .int x2)]) hx hb dX6_attic_25 rfl hl (by decide) rfl (fun ls hl => ?_)
      refine lv_aload_n hx hb dX6_attic_26 rfl (lv_at hl 1 rfl) ?_
      refine callVU (rest := []) C hA (wR_sh a cI cZ) X (kX6_empties l D a cI cZ _ ) (cwV 0 C.2.2.2.2.1 (gV wl_X6_56 wt_yX6_empties ws_yX6_empties wi_X6 wk_yX6_empties) rfl rfl rfl hdX6_empties ⟨Nat.le_of_ble_eq_true rfl, Nat.le_of_ble_eq_true rfl⟩) (ci := 6) (q0 := 0) rfl rfl rfl hl.1 rfl (Nat.le_of_ble_eq_true rfl) dX6_attic_27 ⟨Nat.le_refl 0, Nat.le_refl 0⟩ (fun H locs X => ?_)
      refine lv_aload_n hx hb dX6_attic_30 rfl (lv_at hl 1 rfl) ?_
      refine lv_iload_n hx hb dX6_attic_31 rfl (lv_at hl 2 rfl) ?_
      refine rp_X6_X6_manner C X dX6_attic_32 (fun H locs X => ?_)
      refine lv_aload_n hx hb dX6_attic_35 rfl (lv_at hl 1 rfl) ?_
      refine lv_iload_n hx hb dX6_attic_36 rfl (lv_at hl 3 rfl) ?_
      refine rp_X6_X6_fault C X dX6_attic_37 (fun H locs X => ?_)
      refine lv_iload_n hx hb dX6_attic_40 rfl (lv_at hl 0 rfl) ?_
      exact ret dX6_attic_41 (pe_ (Eq.symm (Eq.trans (if_neg c6) (if_neg c15)))) X
    · refine lv_bipush (v := (-2)) hx hb dX6_attic_18 (by decide) ?_
      exact ret dX6_attic_20 (pe_ (Eq.symm (Eq.trans (if_neg c6) (if_pos c15)))) X
