/-! PURE, part 55: what is reached, and how the reference finds it -/
def RH (σ : RSt) (x : Int32) : Prop := (∃ j : Nat, j < 12 ∧ r_register σ j = x) ∨ (∃ j : Nat, j < 4 ∧ r_slot σ j = x) ∨ ∃ j : Nat, (j : Int) < (r_wishes σ).toInt ∧ r_wishAt σ j = x
def CloF (σ : RSt) (P : Nat → Prop) (k : Nat) : Prop := P k → r_isFreed σ k = 0 → ∀ i : Nat, (i : Int) < (r_many σ k).toInt → TH (r_things σ) (r_field σ (6 * k + i)) → P (ix (r_field σ (6 * k + i)))
def CloP (σ : RSt) (P : Nat → Prop) (k : Nat) : Prop := r_isPair σ k = 1 → P (ix (r_key σ k)) → P (ix (r_value σ k))
def CloA (σ : RSt) (P : Nat → Prop) : Prop := (∀ k : Nat, (k : Int) < (r_things σ).toInt → CloF σ P k) ∧ ∀ k : Nat, (k : Int) < (r_pairs σ).toInt → CloP σ P k
def RtA (σ : RSt) (P : Nat → Prop) : Prop := ∀ x, RH σ x → TH (r_things σ) x → P (ix x)
def Rch (σ : RSt) (k : Nat) : Prop := ∀ P : Nat → Prop, RtA σ P → CloA σ P → P k
theorem rch_rt (σ : RSt) : RtA σ (Rch σ) := fun x h t P h1 h2 => h1 x h t
theorem rch_clF {σ : RSt} {k : Nat} (hk : (k : Int) < (r_things σ).toInt) : CloF σ (Rch σ) k := fun h hf i hi ht P h1 h2 => h2.1 k hk (h P h1 h2) hf i hi ht
theorem rch_clP {σ : RSt} {k : Nat} (hk : (k : Int) < (r_pairs σ).toInt) : CloP σ (Rch σ) k := fun hp h P h1 h2 => h2.2 k hk hp (h P h1 h2)
theorem more_st (σ : RSt) (f : Nat → Int32) (v w : Int32) : r_more_s (St σ f v) w = St σ f w := by
  unfold St
  rw [more_2]
theorem reached_st (σ : RSt) (f g : Nat → Int32) (v : Int32) : r_isReached_s (St σ f v) g = St σ g v := by
  unfold St
  rw [reached_m]
theorem st_id (σ : RSt) : St σ (r_isReached σ) (r_more σ) = σ := by
  unfold St
  rw [isReached_id, more_id]
theorem reach_st (σ : RSt) (f : Nat → Int32) (v x : Int32) : fX6_reach (St σ f v) x = if x = -1 then St σ f v else if f (ix x) = 0 then St σ (upd f (ix x) 1) 1 else St σ f v := by
  unfold fX6_reach
  rw [st_isReached, reached_st, more_st]
def Snd (σ : RSt) (f : Nat → Int32) : Prop := ∀ k : Nat, (k : Int) < (r_things σ).toInt → ¬ f k = 0 → Rch σ k
def GR (σ : RSt) (f : Nat → Int32) (v : Int32) (f' : Nat → Int32) (v' : Int32) : Prop := (∀ k, ¬ f k = 0 → ¬ f' k = 0) ∧ (Snd σ f → Snd σ f') ∧ (v' = 0 → v = 0 ∧ f' = f)
theorem gr_rf (σ : RSt) (f : Nat → Int32) (v : Int32) : GR σ f v f v := ⟨fun _ h => h, id, fun z => ⟨z, rfl⟩⟩
theorem gr_tr {σ : RSt} {f g p : Nat → Int32} {u v w : Int32} (h : GR σ f u g v) (k : GR σ g v p w) : GR σ f u p w := ⟨fun j hj => k.1 j (h.1 j hj), fun s => k.2.1 (h.2.1 s), fun z => by
  have a := k.2.2 z
  have b := h.2.2 a.1
  exact ⟨b.1, a.2.trans b.2⟩⟩
section A
variable {oo : Int32} {σ : RSt} {c : CSt}
theorem reach1 {x : Int32} {f : Nat → Int32} {v : Int32} (hx : VN (r_things σ) x) (hr : Snd σ f → TH (r_things σ) x → Rch σ (ix x)) : ∃ f' v', fX6_reach (St σ f v) x = St σ f' v' ∧ GR σ f v f' v' ∧ (TH (r_things σ) x → ¬ f' (ix x) = 0) := by
  rcases hx with rfl | ht
  · exact ⟨f, v, by rw [reach_st, if_pos rfl], gr_rf σ f v, fun t => absurd t vn_no⟩
  · by_cases c1 : f (ix x) = 0
    · refine ⟨upd f (ix x) 1, 1, by rw [reach_st, if_neg (th_ne ht), if_pos c1], ⟨fun k hk => ?_, fun s k hk hf => ?_, fun z => absurd z one_ne⟩, fun _ => by rw [pk_us]; exact one_ne⟩
      · by_cases e : k = ix x
        · subst e
          rw [pk_us]
          exact one_ne
        · rw [pk_un e]
          exact hk
      · by_cases e : k = ix x
        · subst e
          exact hr s ht
        · rw [pk_un e] at hf
          exact s k hk hf
    · exact ⟨f, v, by rw [reach_st, if_neg (th_ne ht), if_neg c1], gr_rf σ f v, fun _ => c1⟩
theorem rl_ph (get : Nat → Int32) (RL : Nat → Int32 → RSt → RSt) (r0 : ∀ y τ, RL 0 y τ = τ) (r1 : ∀ m y f v, RL (m + 1) y (St σ f v) = RL m (y + 1) (fX6_reach (St σ f v) (get (ix y)))) (N : Int) (hN : N ≤ 200) (hg : ∀ j : Nat, (j : Int) < N → VN (r_things σ) (get j) ∧ RH σ (get j)) :
    ∀ (m : Nat) (y : Int32) (f : Nat → Int32) (v : Int32), 0 ≤ y.toInt → y.toInt + m = N → ∃ f' v', RL m y (St σ f v) = St σ f' v' ∧ GR σ f v f' v' ∧ ∀ j : Nat, y.toInt ≤ j → (j : Int) < N → TH (r_things σ) (get j) → ¬ f' (ix (get j)) = 0 := by
  intro m
  induction m with
  | zero => intro y f v h0 h1; exact ⟨f, v, r0 y _, gr_rf σ f v, fun j a b => by omega⟩
  | succ m ih =>
    intro y f v h0 h1
    have ey := ix_nat h0
    have e1 := i32_1 (x := y) (B := 300) (by have q : (300 : Int32).toInt = 300 := rfl; omega)
    have g := hg (ix y) (by omega)
    obtain ⟨f1, v1, a1, a2, a3⟩ := reach1 (f := f) (v := v) g.1 (fun s ht => rch_rt σ _ g.2 ht)
    obtain ⟨f2, v2, b1, b2, b3⟩ := ih (y + 1) f1 v1 (by omega) (by omega)
    refine ⟨f2, v2, by rw [r1, a1, b1], gr_tr a2 b2, fun j a b ht => ?_⟩
    by_cases e : j = ix y
    · subst e
      exact b2.1 _ (a3 ht)
    · exact b3 j (by omega) b ht
theorem l125 (h : RelO oo σ c) {z : Int32} (hz : TH (r_things σ) z) (m : Nat) : ∀ (y : Int32) (f : Nat → Int32) (v : Int32), 0 ≤ y.toInt → ((r_many σ (ix z)).toInt - y.toInt).toNat = m → ∃ f' v', fX6_findReached_L125 z m y (St σ f v) = St σ f' v' ∧ GR σ f v f' v' ∧ (v' = 0 → ¬ f (ix z) = 0 → r_isFreed σ (ix z) = 0 → ∀ i : Nat, y.toInt ≤ i → (i : Int) < (r_many σ (ix z)).toInt → TH (r_things σ) (r_field σ (6 * ix z + i)) → ¬ f (ix (r_field σ (6 * ix z + i))) = 0) := by
  induction m with
  | zero => intro y f v h0 h1; exact ⟨f, v, rfl, gr_rf σ f v, fun _ _ _ i a b => by omega⟩
  | succ m ih =>
    intro y f v h0 h1
    have ey := ix_nat h0
    have hm := h.1.2.1 (ix z)
    have e1 := i32_1 (x := y) (B := 300) (by have q : (300 : Int32).toInt = 300 := rfl; omega)
    have e6 := ix6 (th_vp h.1 hz) (i := y) (vp_in_iff.mpr ⟨h0, by omega⟩)
    unfold fX6_findReached_L125
    rw [st_isReached, st_isFreed, st_field, e6]
    by_cases c1 : f (ix z) = 0
    · rw [if_pos c1]
      exact ⟨f, v, rfl, gr_rf σ f v, fun _ w => absurd c1 w⟩
    · rw [if_neg c1]
      by_cases c2 : r_isFreed σ (ix z) = 0
      · have g := ((q_gt h hz).2.2.2.2 (ix y) (by omega)).2
        obtain ⟨f1, v1, a1, a2, a3⟩ := reach1 (f := f) (v := v) g (fun s ht => rch_clF (th_lt hz) (s _ (th_lt hz) c1) c2 (ix y) (by omega) ht)
        obtain ⟨f2, v2, b1, b2, b3⟩ := ih (y + 1) f1 v1 (lp_nn h0 h1) (lp_b h1)
        rw [if_pos c2, a1]
        refine ⟨f2, v2, b1, gr_tr a2 b2, fun w _ _ i a b ht => ?_⟩
        have q := b2.2.2 w
        have q1 := a2.2.2 q.1
        by_cases e : i = ix y
        · subst e
          have := a3 ht
          rw [q1.2] at this
          exact this
        · have := b3 w (a2.1 _ c1) c2 i (by omega) b ht
          rw [q1.2] at this
          exact this
      · rw [if_neg c2]
        exact ⟨f, v, rfl, gr_rf σ f v, fun _ _ w => absurd w c2⟩
theorem l115 (h : RelO oo σ c) (m : Nat) : ∀ (y : Int32) (f : Nat → Int32) (v : Int32), 0 ≤ y.toInt → ((r_things σ).toInt - y.toInt).toNat = m → ∃ f' v', fX6_findReached_L115 m y (St σ f v) = St σ f' v' ∧ GR σ f v f' v' ∧ (v' = 0 → ∀ k : Nat, y.toInt ≤ k → (k : Int) < (r_things σ).toInt → CloF σ (fun k => ¬ f k = 0) k) := by
  induction m with
  | zero => intro y f v h0 h1; exact ⟨f, v, rfl, gr_rf σ f v, fun _ k a b => by omega⟩
  | succ m ih =>
    intro y f v h0 h1
    have z0 := t0
    have ey := ix_nat h0
    have hz : TH (r_things σ) y := ⟨h0, by omega⟩
    have e1 := i32_p h0 (lp_nn h0 h1)
    unfold fX6_findReached_L115
    rw [st_many]
    obtain ⟨f1, v1, a1, a2, a3⟩ := l125 h hz _ 0 f v (by omega) rfl
    obtain ⟨f2, v2, b1, b2, b3⟩ := ih (y + 1) f1 v1 (lp_nn h0 h1) (lp_b h1)
    rw [a1]
    refine ⟨f2, v2, b1, gr_tr a2 b2, fun w k a b => ?_⟩
    have q := b2.2.2 w
    have q1 := a2.2.2 q.1
    by_cases e : k = ix y
    · subst e
      exact fun hk hf i hi ht => a3 q.1 hk hf i (by omega) hi ht
    · have := b3 w k (by omega) b
      rw [q1.2] at this
      exact this
theorem l182 (h : RelO oo σ c) (m : Nat) : ∀ (y : Int32) (f : Nat → Int32) (v : Int32), 0 ≤ y.toInt → ((r_pairs σ).toInt - y.toInt).toNat = m → ∃ f' v', fX6_findReached_L182 m y (St σ f v) = St σ f' v' ∧ GR σ f v f' v' ∧ (v' = 0 → ∀ k : Nat, y.toInt ≤ k → (k : Int) < (r_pairs σ).toInt → CloP σ (fun k => ¬ f k = 0) k) := by
  induction m with
  | zero => intro y f v h0 h1; exact ⟨f, v, rfl, gr_rf σ f v, fun _ k a b => by omega⟩
  | succ m ih =>
    intro y f v h0 h1
    have ey := ix_nat h0
    have hp : PrOK (r_pairs σ) y := ⟨h0, by omega⟩
    have e1 := i32_p h0 (lp_nn h0 h1)
    obtain ⟨f2, v2, b1, b2, b3⟩ := ih (y + 1) f v (lp_nn h0 h1) (lp_b h1)
    unfold fX6_findReached_L182
    rw [st_isPair, st_isReached, st_key, st_value]
    rcases pr_at h hp with ⟨g1, g2, g3⟩ | ⟨g1, g2, g3, g4, g5⟩
    · rw [if_pos g1]
      refine ⟨f2, v2, b1, b2, fun w k a b => ?_⟩
      by_cases e : k = ix y
      · subst e
        exact fun hq => absurd (g1.symm.trans hq) (by decide)
      · exact b3 w k (by omega) b
    · rw [if_neg (by rw [g1]; exact one_ne)]
      by_cases c1 : f (ix (r_key σ (ix y))) = 0
      · rw [if_pos c1]
        refine ⟨f2, v2, b1, b2, fun w k a b => ?_⟩
        by_cases e : k = ix y
        · subst e
          exact fun _ hq => absurd c1 hq
        · exact b3 w k (by omega) b
      · rw [if_neg c1]
        obtain ⟨f1, v1, a1, a2, a3⟩ := reach1 (f := f) (v := v) (Or.inr g5) (fun s _ => rch_clP (k := ix y) (by omega) g1 (s _ (th_lt g4) c1))
        obtain ⟨f2, v2, b1, b2, b3⟩ := ih (y + 1) f1 v1 (lp_nn h0 h1) (lp_b h1)
        rw [a1]
        refine ⟨f2, v2, b1, gr_tr a2 b2, fun w k a b => ?_⟩
        have q := b2.2.2 w
        have q1 := a2.2.2 q.1
        by_cases e : k = ix y
        · subst e
          intro _ _
          have := a3 g5
          rw [q1.2] at this
          exact this
        · have := b3 w k (by omega) b
          rw [q1.2] at this
          exact this
theorem st_s0 (h : S0 σ) (f : Nat → Int32) (v : Int32) : S0 (St σ f v) := s0_sa (sa_tr (sa_isReached _ _) (sa_more _ _)) h
theorem l101 (h : RelO oo σ c) (m : Nat) : ∀ (f : Nat → Int32) (v : Int32), nuR (St σ f v) < m → Snd σ f → RtA σ (fun k => ¬ f k = 0) → (v = 0 → CloA σ (fun k => ¬ f k = 0)) → ∃ f', fX6_findReached_L101 m (St σ f v) = St σ f' 0 ∧ Snd σ f' ∧ RtA σ (fun k => ¬ f' k = 0) ∧ CloA σ (fun k => ¬ f' k = 0) := by
  induction m with
  | zero => intro f v h0; exact absurd h0 (Nat.not_lt_zero _)
  | succ m ih =>
    intro f v h0 hs hr hc
    have z0 := t0
    unfold fX6_findReached_L101
    rw [st_more]
    by_cases c1 : v = 0
    · rw [if_pos c1]
      subst c1
      exact ⟨f, rfl, hs, hr, hc rfl⟩
    · obtain ⟨f1, v1, a1, a2, a3⟩ := l115 h _ 0 f 0 (by omega) rfl
      obtain ⟨f2, v2, b1, b2, b3⟩ := l182 h _ 0 f1 v1 (by omega) rfl
      have r1 := rp_fr_L115 ((r_things σ).toInt - (0 : Int32).toInt).toNat 0 (St σ f 0) (st_s0 h.1 _ _)
      have r2 := rp_fr_L182 ((r_pairs σ).toInt - (0 : Int32).toInt).toNat 0 (St σ f1 v1) (st_s0 h.1 _ _)
      rw [a1] at r1
      rw [b1] at r2
      rw [if_neg c1, more_st, st_things, a1, st_pairs, b1]
      refine ih f2 v2 (nu_back h0 (by rw [st_more]; exact c1) (by rw [more_st]; exact rp_tr r1 r2)) (b2.2.1 (a2.2.1 hs)) (fun x hx ht => b2.1 _ (a2.1 _ (hr x hx ht))) (fun w => ?_)
      have q := b2.2.2 w
      have q1 := a2.2.2 q.1
      have p1 := a3 q.1
      have p2 := b3 w
      rw [q1.2] at p2
      rw [q.2, q1.2]
      exact ⟨fun k hk => p1 k (by omega) hk, fun k hk => p2 k (by omega) hk⟩
theorem l2_clr (m : Nat) : ∀ (y : Int32) (f : Nat → Int32) (v : Int32), 0 ≤ y.toInt → y.toInt + m ≤ 120 → ∃ f', fX6_findReached_L2 m y (St σ f v) = St σ f' v ∧ ∀ k : Nat, (y.toInt ≤ k ∧ (k : Int) < y.toInt + m → f' k = 0) ∧ (¬ (y.toInt ≤ k ∧ (k : Int) < y.toInt + m) → f' k = f k) := by
  induction m with
  | zero => intro y f v h0 h1; exact ⟨f, rfl, fun k => ⟨fun z => by omega, fun _ => rfl⟩⟩
  | succ m ih =>
    intro y f v h0 h1
    have ey := ix_nat h0
    have e1 := i32_1 (x := y) (B := 300) (by have q : (300 : Int32).toInt = 300 := rfl; omega)
    unfold fX6_findReached_L2
    rw [st_isReached, reached_st]
    obtain ⟨f', a1, a2⟩ := ih (y + 1) (upd f (ix y) 0) v (by omega) (by omega)
    refine ⟨f', a1, fun k => ⟨fun z => ?_, fun z => ?_⟩⟩
    · by_cases e : k = ix y
      · rw [(a2 k).2 (by omega), e, pk_us]
      · exact (a2 k).1 (by omega)
    · rw [(a2 k).2 (by omega), pk_un (by omega)]
theorem find6 (h : RelO oo σ c) : ∃ f, fX6_findReached σ = St σ f 0 ∧ ∀ k : Nat, (k : Int) < (r_things σ).toInt → (¬ f k = 0 ↔ Rch σ k) := by
  have z0 := t0
  have hn := h.1.1
  have hw := w0 h
  have hw2 := s0_wishes h.1
  have hh := h.2.2.2.1
  have q12 : ((12 : Int32).toInt - (0 : Int32).toInt).toNat = 12 := rfl
  have q4 : ((4 : Int32).toInt - (0 : Int32).toInt).toNat = 4 := rfl
  obtain ⟨f0, e0, c0⟩ := l2_clr (σ := σ) ((r_things σ).toInt - (0 : Int32).toInt).toNat 0 (r_isReached σ) (r_more σ) (by omega) (by omega)
  rw [st_id] at e0
  obtain ⟨f1, v1, e1, g1, p1⟩ := rl_ph (σ := σ) (r_register σ) fX6_findReached_L25 (fun _ _ => rfl) (fun m y f v => by
      show fX6_findReached_L25 m (y + 1) (fX6_reach (St σ f v) (r_register (St σ f v) (ix y))) = _
      rw [st_register]) 12 (by omega) (fun j hj => ⟨(hh.1 j (by omega)).2, Or.inl ⟨j, by omega, rfl⟩⟩) 12 0 f0 (r_more σ) (by omega) (by omega)
  obtain ⟨f2, v2, e2, g2, p2⟩ := rl_ph (σ := σ) (r_slot σ) fX6_findReached_L49 (fun _ _ => rfl) (fun m y f v => by
      show fX6_findReached_L49 m (y + 1) (fX6_reach (St σ f v) (r_slot (St σ f v) (ix y))) = _
      rw [st_slot]) 4 (by omega) (fun j hj => ⟨(hh.2.1 j (by omega)).2, Or.inr (Or.inl ⟨j, by omega, rfl⟩)⟩) 4 0 f1 v1 (by omega) (by omega)
  obtain ⟨f3, v3, e3, g3, p3⟩ := rl_ph (σ := σ) (r_wishAt σ) fX6_findReached_L72 (fun _ _ => rfl) (fun m y f v => by
      show fX6_findReached_L72 m (y + 1) (fX6_reach (St σ f v) (r_wishAt (St σ f v) (ix y))) = _
      rw [st_wishAt]) (r_wishes σ).toInt (by omega) (fun j hj => ⟨Or.inr (hh.2.2.1 j hj).2, Or.inr (Or.inr ⟨j, hj, rfl⟩)⟩) ((r_wishes σ).toInt - (0 : Int32).toInt).toNat 0 f2 v2 (by omega) (by omega)
  have s0 : Snd σ f0 := fun k hk hf => absurd ((c0 k).1 (by omega)) hf
  obtain ⟨f, a1, a2, a3, a4⟩ := l101 h 1000 f3 1 (nu_lt _) (g3.2.1 (g2.2.1 (g1.2.1 s0))) (fun x hx ht => by
    rcases hx with ⟨j, hj, rfl⟩ | ⟨j, hj, rfl⟩ | ⟨j, hj, rfl⟩
    · exact g3.1 _ (g2.1 _ (p1 j (by omega) (by omega) ht))
    · exact g3.1 _ (p2 j (by omega) (by omega) ht)
    · exact p3 j (by omega) hj ht) (fun z => absurd z one_ne)
  refine ⟨f, ?_, fun k hk => ⟨fun hf => a2 k hk hf, fun hr => hr _ a3 a4⟩⟩
  unfold fX6_findReached
  rw [q12, q4, e0, e1, e2, st_wishes, e3, more_st, a1]
end A
