/-! PURE, part 52: a step, and many -/
section G
variable {oo : Int32} {σ : RSt} {c : CSt}
theorem sim_marks (h : RelO oo σ c) (w : WK σ) : RelO oo (fX6_marks σ) (fX5_markStep c) := by
  have g := lg h
  unfold fX6_marks fX5_markStep
  rw [g.1]
  rcases g.2 with e | ⟨g1, g2, g3⟩
  · rw [if_pos e, if_pos e]
    obtain ⟨τ, d, m1, m2, m3, m4⟩ := more h w
    rw [m1, m2]
    by_cases c1 : r_shaded τ = r_shaded σ
    · rw [if_pos c1, if_pos c1]
      dsimp only
      rw [if_pos rfl]
      exact sim_endMarking m3 (wk_fq m4 w)
    · rw [if_neg c1, if_neg c1]
      dsimp only
      rw [if_neg one_ne]
      exact m3
  · rw [if_neg (th_ne g1), if_neg (th_ne g1)]
    obtain ⟨f1, f2⟩ := sim_flds h w g1
    exact rel_paint f1 (by rw [f2.2.2.2.2.2.2.1]; exact g1) (by rw [f2.2.2.2.2.1 _ (by rw [g2]; exact one_ne), g2]; exact one_ne) (by rw [f2.2.2.2.1]; exact g3)
-- a step of sweeping
theorem next_id (σ : RSt) : r_next_s σ (r_next σ) = σ := rfl
theorem way_id (σ : RSt) : r_way_s σ (r_way σ) = σ := rfl
theorem sw_nx {n : Int32} {fr : Nat → Int32} (hq : ∀ y, TH n y → fX4_isFreed c y = fr (ix y)) (f : Nat) : ∀ (y : Int32) (τ : RSt), r_isFreed τ = fr → r_next τ = y → 0 ≤ y.toInt → y.toInt ≤ n.toInt → (n.toInt - y.toInt).toNat = f → ∃ m : Int32, fX6_sweeps_L0 f τ = r_next_s τ m ∧ ((m = n ∧ fX4_nextNotFreed_L2 f y c = -1) ∨ (TH n m ∧ fr (ix m) = 0 ∧ fX4_nextNotFreed_L2 f y c = m)) := by
  induction f with
  | zero =>
    intro y τ e1 e2 h0 h1 h2
    exact ⟨y, by rw [← e2]; rfl, Or.inl ⟨Int32.toInt_inj.mp (by omega), rfl⟩⟩
  | succ f ih =>
    intro y τ e1 e2 h0 h1 h2
    have hx : TH n y := ⟨h0, by omega⟩
    unfold fX6_sweeps_L0 fX4_nextNotFreed_L2
    rw [hq y hx, e1, e2]
    by_cases c1 : fr (ix y) = 0
    · rw [if_pos c1, if_pos c1]
      exact ⟨y, by rw [← e2]; rfl, Or.inr ⟨hx, c1, rfl⟩⟩
    · rw [if_neg c1, if_neg c1]
      have e3 := i32_p h0 (lp_nn h0 h2)
      obtain ⟨m, a1, a2⟩ := ih (y + 1) (r_next_s τ (y + 1)) (by rw [Rp_isFreed_next]; exact e1) (by rw [Rp_next_next]) (lp_nn h0 h2) (by omega) (lp_b h2)
      exact ⟨m, by rw [a1, next_2], a2⟩
theorem rel_nx (h : RelO oo σ c) (v : Int32) (h0 : 0 ≤ v.toInt) (h1 : v.toInt ≤ (r_things σ).toInt) : RelO oo (r_next_s σ v) (c_nextS_s c v) := by
  obtain ⟨hS, ⟨a1, a2, a3, a4, a5, a6, a7, a8, a9, a10, a11, a12⟩, hT, hH, hP, hC⟩ := h
  exact ⟨s0_nx hS v h0 (Or.inr (Or.inr h1)), ⟨a1, a2, a3, a4, a5, a6, a7, a8, a9, a10, fun _ => rfl, a12⟩, hT, hH, hP, hC⟩
theorem m3_way (h : RelO oo σ c) (hm : r_manner σ = 3) : r_way σ = 0 ∨ r_way σ = 1 := (h.2.2.2.2.2.2.2 hm).1
theorem two_ne1 : ¬ (2 : Int32) = 0 ∧ ¬ (2 : Int32) = 1 := ⟨by decide, by decide⟩
theorem sw_m3 (h : RelO oo σ c) (hw : r_way σ = 2) : ¬ r_manner σ = 3 := fun z => by
  rcases m3_way h z with e | e
  · rw [hw] at e
    exact two_ne1.1 e
  · rw [hw] at e
    exact two_ne1.2 e
theorem sw_eq (h : RelO oo σ c) (hw : r_way σ = 2) : (fX6_sweeps σ = fX6_over (r_next_s σ (r_things σ)) ∧ fX5_sweepStep c = fX5_endRound c) ∨ ∃ m, TH (r_things σ) m ∧ r_isFreed σ (ix m) = 0 ∧ fX6_sweeps σ = r_next_s (freeR σ m) (m + 1) ∧ fX5_sweepStep c = c_nextS_s (fX5_freeIfWhite c m) (m + 1) := by
  have w : WK σ := fun z => absurd z (sw_m3 h hw)
  have hn0 := s0_next h.1
  have hn1 : (r_next σ).toInt ≤ (r_things σ).toInt := by
    rcases s0_way h.1 with e | e | e
    · rw [hw] at e
      exact absurd e two_ne1.1
    · rw [hw] at e
      exact absurd e two_ne1.2
    · exact e
  have e5 : c_nextS c = r_next σ := h.2.1.2.2.2.2.2.2.2.2.2.2.1 hw
  have h120 := s0_th h.1
  obtain ⟨m, e1, e2⟩ := sw_nx (c := c) (n := r_things σ) (fr := r_isFreed σ) (fun y hy => q_freed h hy) _ (r_next σ) σ rfl rfl hn0 hn1 rfl
  unfold fX6_sweeps fX5_sweepStep fX4_nextNotFreed
  rw [en h, e5, e1]
  have en1 : r_next (r_next_s σ m) = m := by rw [Rp_next_next]
  have en2 : r_things (r_next_s σ m) = r_things σ := by rw [Rp_things_next]
  unfold fX6_sweeps_J36
  rw [en1, en2]
  rcases e2 with ⟨q1, q2⟩ | ⟨q1, q2, q3⟩
  · rw [q2, if_pos rfl, if_pos q1, q1]
    exact Or.inl ⟨rfl, rfl⟩
  · have hne : ¬ m = r_things σ := fun z => by
      have := q1.2
      rw [z] at this
      omega
    rw [q3, if_neg (th_ne q1), if_neg hne]
    obtain ⟨f1, f2, f3⟩ := sim_freeR h w q1 (r_way σ) m
    have s := sa_freeR σ m
    have ew : r_way (freeR σ m) = r_way σ := s.2.2.2.2.2.2.2.2.2.2.2.2.2
    have f4 : freeR (r_next_s σ m) m = r_next_s (freeR σ m) m := by
      have f2' := f2
      rw [way_id] at f2'
      rw [f2', ← ew, way_id]
    have e7 : (if fX6_isWhite (r_next_s σ m) m = 0 then r_next_s (r_next_s σ m) (m + 1) else r_next_s (fX6_frees (r_next_s σ m) m) (r_next (fX6_frees (r_next_s σ m) m) + 1)) = r_next_s (freeR σ m) (m + 1) := by
      rw [← next_2 (freeR σ m) m (m + 1), ← f4]
      unfold freeR
      by_cases c1 : fX6_isWhite (r_next_s σ m) m = 0
      · rw [if_pos c1, if_pos c1]
      · rw [if_neg c1, if_neg c1, if_pos (by rw [Rp_isFreed_next]; exact q2), (sa_frees (r_next_s σ m) m).2.2.2.2.2.2.2.2.2.2.2.2.1, en1]
    rw [e7]
    exact Or.inr ⟨m, q1, q2, rfl, rfl⟩
theorem sim_sweeps (h : RelO oo σ c) (hw : r_way σ = 2) : RelO oo (fX6_sweeps σ) (fX5_sweepStep c) := by
  have hm := sw_m3 h hw
  rcases sw_eq h hw with ⟨e1, e2⟩ | ⟨m, q1, q2, e1, e2⟩
  · rw [e1, e2]
    exact rel_overN h hm _ h.1.1.1 (Int.le_refl _)
  · rw [e1, e2]
    have w : WK σ := fun z => absurd z hm
    have hm1 := i32_1 (x := m) (B := r_things σ) q1.2
    exact rel_nx (sim_freeR h w q1 0 0).1 (m + 1) (by have := q1.1; omega) (by rw [(sa_freeR σ m).1]; have := q1.2; omega)
-- a step
theorem rel_st (h : RelO oo σ c) : RelO (oo + 1) (r_steps_s σ (r_steps σ + 1)) c := by
  obtain ⟨hS, ⟨a1, a2, a3, a4, a5, a6, a7, a8, a9, a10, a11, a12⟩, hT, hH, hP, hC⟩ := h
  refine ⟨s0_sa (sa_steps _ _) hS, ⟨a1, a2, a3, a4, ?_, a6, a7, a8, a9, a10, a11, a12⟩, hT, hH, hP, hC⟩
  show c_steps c + (oo + 1) = r_steps σ + 1
  rw [← a5, Int32.add_assoc]
theorem rel_st5 (h : RelO (oo + 1) σ c) : RelO oo σ (c_steps_s c (c_steps c + 1)) := by
  obtain ⟨hS, ⟨a1, a2, a3, a4, a5, a6, a7, a8, a9, a10, a11, a12⟩, hT, hH, hP, hC⟩ := h
  refine ⟨hS, ⟨a1, a2, a3, a4, ?_, a6, a7, a8, a9, a10, a11, a12⟩, hT, hH, hP, hC⟩
  show c_steps c + 1 + oo = r_steps σ
  rw [← a5, Int32.add_assoc, Int32.add_comm 1 oo]
theorem wayS (h : RelO oo σ c) : c_under c = r_way σ := h.2.1.2.2.1
theorem sim_step (h : RelO oo σ c) (hw : ¬ r_way σ = 0) : RelO oo (fX6_step σ) (if r_way σ = 1 then c_steps_s (fX5_markStep c) (c_steps (fX5_markStep c) + 1) else c_steps_s (fX5_sweepStep c) (c_steps (fX5_sweepStep c) + 1)) := by
  have hs := rel_st h
  unfold fX6_step
  by_cases c1 : r_way σ = 1
  · rw [if_pos c1, if_pos c1]
    refine rel_st5 (sim_marks hs (fun _ => ?_))
    rw [way_steps]
    exact c1
  · rw [if_neg c1, if_neg c1]
    refine rel_st5 (sim_sweeps hs ?_)
    rw [way_steps]
    rcases h.2.1.2.2.2.2.2.2.2.2.2.2.2.1 with e | e | e
    · exact absurd e hw
    · exact absurd e c1
    · exact e
theorem sim_sw (z1 z2 : Int32) (f : Nat) : ∀ (y : Int32) (σ : RSt) (c : CSt), RelO oo σ c → (fX5_takeSteps_L2 z1 f y c).1 = (fX6_sweep_L16 z2 f y σ).1 ∧ RelO oo (fX6_sweep_L16 z2 f y σ).2 (fX5_takeSteps_L2 z1 f y c).2 := by
  induction f with
  | zero =>
    intro y σ c h
    unfold fX5_takeSteps_L2 fX6_sweep_L16
    rw [ite_self]
    exact ⟨rfl, h⟩
  | succ f ih =>
    intro y σ c h
    unfold fX5_takeSteps_L2 fX6_sweep_L16
    rw [wayS h]
    by_cases c0 : r_way σ = 0
    · rw [if_pos c0, if_pos c0]
      exact ⟨rfl, h⟩
    · have g := sim_step h c0
      rw [if_neg c0, if_neg c0]
      by_cases c1 : r_way σ = 1
      · rw [if_pos c1] at g
        rw [if_pos c1]
        exact ih (y + 1) _ _ g
      · rw [if_neg c1] at g
        rw [if_neg c1]
        exact ih (y + 1) _ _ g
theorem t400 : (400 : Int32).toInt = 400 := rfl
theorem sim_sweep (hR : RelO oo σ c) (x1 : Int32) : (fX5_sweep c x1).1 = (fX6_sweep σ x1).1 ∧ RelO oo ((fX6_sweep σ x1).2) ((fX5_sweep c x1).2) := by
  have z1 := t1
  have z4 := t400
  unfold fX5_sweep fX6_sweep fX5_takeSteps
  by_cases h1 : 1 ≤ x1.toInt ∧ x1.toInt ≤ 400
  · rw [in6_1 (by omega) (by omega), if_neg one_ne, if_neg (fun z => by have := i32_lt z; omega), if_pos (Int32.le_iff_toInt_le.mpr (by omega))]
    exact sim_sw x1 x1 _ 0 σ c hR
  · rw [in6_0 (fun z => h1 ⟨by omega, by omega⟩), if_pos rfl]
    by_cases h2 : x1 < 1
    · rw [if_pos h2]
      exact ⟨rfl, hR⟩
    · rw [if_neg h2, if_neg (fun z => h1 ⟨by have := i32_nlt h2; omega, by have := i32_le z; omega⟩)]
      exact ⟨rfl, hR⟩
end G
