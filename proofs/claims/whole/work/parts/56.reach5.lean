/-! PURE, part 56: how the component finds what is reached -/
theorem ix_nI {k : Nat} (h : k < 2 ^ 31) : ix (nI k) = k := by
  have h1 := nI_toInt h
  have h2 := ix_nat (x := nI k) (by omega)
  omega
theorem find5_2 (c : CSt) (f o g p : Nat → Int32) (m k : Int32) : c_rcount_s (c_order_s (c_found_s (S5 c f o m) g) p) k = S5 c g p k := by
  unfold S5
  rw [find_2]
theorem thing_s5 (c : CSt) (f o : Nat → Int32) (m x : Int32) : fX4_isThing (S5 c f o m) x = fX4_isThing c x := thing_tm (s5_tmade c f o m) x
theorem isFreed_s5 (c : CSt) (f o : Nat → Int32) (m x : Int32) : fX4_isFreed (S5 c f o m) x = fX4_isFreed c x := by
  unfold fX4_isFreed
  rw [thing_s5, s5_freed]
theorem inField_s5 (c : CSt) (f o : Nat → Int32) (m x y : Int32) : fX4_inField (S5 c f o m) x y = fX4_inField c x y := by
  unfold fX4_inField fX4_hasField
  rw [thing_s5, s5_sizes, s5_theld]
theorem isPair_s5 (c : CSt) (f o : Nat → Int32) (m x : Int32) : fX2_isPair (S5 c f o m) x = fX2_isPair c x := by
  unfold fX2_isPair
  rw [s5_pmade]
theorem keyOf_s5 (c : CSt) (f o : Nat → Int32) (m x : Int32) : fX2_keyOf (S5 c f o m) x = fX2_keyOf c x := by
  unfold fX2_keyOf
  rw [isPair_s5, s5_keys]
theorem valueOf_s5 (c : CSt) (f o : Nat → Int32) (m x : Int32) : fX2_valueOf (S5 c f o m) x = fX2_valueOf c x := by
  unfold fX2_valueOf
  rw [isPair_s5, s5_values]
theorem heldAt_s5 (c : CSt) (f o : Nat → Int32) (m x : Int32) : fX1_heldAt (S5 c f o m) x = fX1_heldAt c x := by
  unfold fX1_heldAt
  rw [s5_wishes, s5_hheld]
theorem add_s5 (c : CSt) (f o : Nat → Int32) (m x : Int32) : fX3_add (S5 c f o m) x = if x < 0 then S5 c f o m else if 120 ≤ x then S5 c f o m else if f (ix x) = 0 then (if m < 120 then S5 c (upd f (ix x) 1) (upd o (ix m) x) (m + 1) else S5 c f o m) else S5 c f o m := by
  unfold fX3_add
  rw [s5_found, s5_order, s5_rcount, find5_2]
def I5 (σ : RSt) (f o : Nat → Int32) (m : Int32) : Prop := (0 ≤ m.toInt ∧ m.toInt = (cntB f 120 : Nat)) ∧ (∀ k : Nat, k < 120 → ¬ f k = 0 → ((k : Int) < (r_things σ).toInt ∧ Rch σ k) ∧ ∃ j : Nat, (j : Int) < m.toInt ∧ o j = nI k) ∧ ∀ j : Nat, (j : Int) < m.toInt → TH (r_things σ) (o j) ∧ ¬ f (ix (o j)) = 0
def A5 (f o : Nat → Int32) (m : Int32) (f' o' : Nat → Int32) (m' : Int32) : Prop := (∀ k, ¬ f k = 0 → ¬ f' k = 0) ∧ m.toInt ≤ m'.toInt ∧ (∀ j : Nat, (j : Int) < m.toInt → o' j = o j) ∧ (m' = m → f' = f)
theorem a5_rf (f o : Nat → Int32) (m : Int32) : A5 f o m f o m := ⟨fun _ h => h, Int.le_refl _, fun _ _ => rfl, fun _ => rfl⟩
theorem a5_tr {f o f1 o1 f2 o2 : Nat → Int32} {m m1 m2 : Int32} (h : A5 f o m f1 o1 m1) (g : A5 f1 o1 m1 f2 o2 m2) : A5 f o m f2 o2 m2 := by
  obtain ⟨h1, h2, h3, h4⟩ := h
  obtain ⟨g1, g2, g3, g4⟩ := g
  refine ⟨fun k hk => g1 k (h1 k hk), Int.le_trans h2 g2, fun j hj => (g3 j (by omega)).trans (h3 j hj), fun z => ?_⟩
  subst z
  have e : m1 = m2 := Int32.toInt_inj.mp (by omega)
  subst e
  exact (g4 rfl).trans (h4 rfl)
section C
variable {oo : Int32} {σ : RSt} {c : CSt}
theorem add1 (hS : S0 σ) {x : Int32} {f o : Nat → Int32} {m : Int32} (hI : I5 σ f o m) (hx : VN (r_things σ) x) (hr : TH (r_things σ) x → Rch σ (ix x)) : ∃ f' o' m', fX3_add (S5 c f o m) x = S5 c f' o' m' ∧ I5 σ f' o' m' ∧ A5 f o m f' o' m' ∧ (TH (r_things σ) x → ¬ f' (ix x) = 0) := by
  have z0 := t0
  have z120 := t120
  have hn := hS.1
  rw [add_s5]
  rcases hx with rfl | ht
  · exact ⟨f, o, m, by rw [if_pos (by decide)], hI, a5_rf f o m, fun t => absurd t vn_no⟩
  · have eix := ix_nat ht.1
    have hlt := th_lt ht
    rw [if_neg (fun z => by have := i32_lt z; have := ht.1; omega), if_neg (fun z => by have := i32_le z; have := ht.2; omega)]
    by_cases c1 : f (ix x) = 0
    · obtain ⟨⟨i1, i2⟩, i3, i4⟩ := hI
      have hc := cntB_inc (g := f) (n := 120) (k := ix x) (by omega) c1
      have hc2 := cntB_le (g := upd f (ix x) 1) (n := 120)
      have em := ix_nat i1
      have e1 := i32_1 (x := m) (B := 120) (by omega)
      rw [if_pos c1, if_pos (Int32.lt_iff_toInt_lt.mpr (by omega))]
      refine ⟨upd f (ix x) 1, upd o (ix m) x, m + 1, rfl, ⟨⟨by omega, by omega⟩, fun k hk hf => ?_, fun j hj => ?_⟩, ⟨fun k hk => ?_, by omega, fun j hj => ?_, fun z => ?_⟩, fun _ => by rw [pk_us]; exact one_ne⟩
      · by_cases e : k = ix x
        · subst e
          exact ⟨⟨hlt, hr ht⟩, ix m, by omega, by rw [pk_us, nI_ix ht.1]⟩
        · rw [pk_un e] at hf
          obtain ⟨a1, j, a2, a3⟩ := i3 k hk hf
          exact ⟨a1, j, by omega, by rw [pk_un (by omega)]; exact a3⟩
      · by_cases e : j = ix m
        · subst e
          rw [pk_us]
          exact ⟨ht, by rw [pk_us]; exact one_ne⟩
        · rw [pk_un e]
          obtain ⟨a1, a2⟩ := i4 j (by omega)
          refine ⟨a1, ?_⟩
          by_cases e2 : ix (o j) = ix x
          · rw [e2, pk_us]
            exact one_ne
          · rw [pk_un e2]
            exact a2
      · by_cases e : k = ix x
        · subst e
          exact absurd c1 hk
        · rw [pk_un e]
          exact hk
      · exact pk_un (by omega)
      · have := congrArg Int32.toInt z
        omega
    · rw [if_neg c1]
      exact ⟨f, o, m, rfl, hI, a5_rf f o m, fun _ => c1⟩
def PF (σ : RSt) (f : Nat → Int32) (k : Nat) : Prop := r_isFreed σ k = 0 → ∀ i : Nat, (i : Int) < (r_many σ k).toInt → TH (r_things σ) (r_field σ (6 * k + i)) → ¬ f (ix (r_field σ (6 * k + i))) = 0
theorem pf_mono {f f' : Nat → Int32} (h : ∀ k, ¬ f k = 0 → ¬ f' k = 0) {k : Nat} (p : PF σ f k) : PF σ f' k := fun a i hi ht => h _ (p a i hi ht)
theorem l11 (h : RelO oo σ c) {x : Int32} (hx : TH (r_things σ) x) (hf : r_isFreed σ (ix x) = 0) (hr : Rch σ (ix x)) (n : Nat) : ∀ (y : Int32) (f o : Nat → Int32) (m : Int32), 0 ≤ y.toInt → y.toInt + n = 6 → I5 σ f o m → ∃ f' o' m', fX3_addFields_L11 x n y (S5 c f o m) = S5 c f' o' m' ∧ I5 σ f' o' m' ∧ A5 f o m f' o' m' ∧ ∀ i : Nat, y.toInt ≤ i → (i : Int) < (r_many σ (ix x)).toInt → TH (r_things σ) (r_field σ (6 * ix x + i)) → ¬ f' (ix (r_field σ (6 * ix x + i))) = 0 := by
  induction n with
  | zero =>
    intro y f o m h0 h1 hI
    have hm := h.1.2.1 (ix x)
    exact ⟨f, o, m, rfl, hI, a5_rf f o m, fun i a b => by omega⟩
  | succ n ih =>
    intro y f o m h0 h1 hI
    have ey := ix_nat h0
    have e1 := i32_1 (x := y) (B := 300) (by have q : (300 : Int32).toInt = 300 := rfl; omega)
    show ∃ f' o' m', fX3_addFields_L11 x n (y + 1) (fX3_add (S5 c f o m) (fX4_inField (S5 c f o m) x y)) = S5 c f' o' m' ∧ _
    rw [inField_s5]
    by_cases c1 : FdOK σ x y
    · obtain ⟨g1, g2⟩ := inField5 h c1
      have e6 := (fd_ix h.1 c1).1
      rw [e6] at g1 g2
      rw [g1]
      obtain ⟨f1, o1, m1, a1, a2, a3, a4⟩ := add1 (c := c) h.1 hI g2 (fun ht => rch_clF (th_lt hx) hr hf (ix y) (by have := c1.2.2; omega) ht)
      obtain ⟨f2, o2, m2, b1, b2, b3, b4⟩ := ih (y + 1) f1 o1 m1 (by omega) (by omega) a2
      rw [a1]
      refine ⟨f2, o2, m2, b1, b2, a5_tr a3 b3, fun i a b ht => ?_⟩
      by_cases e : i = ix y
      · subst e
        exact b3.1 _ (a4 ht)
      · exact b4 i (by omega) b ht
    · rw [inField0 h c1]
      obtain ⟨f1, o1, m1, a1, a2, a3, a4⟩ := add1 (c := c) (x := -1) h.1 hI (Or.inl rfl) (fun ht => absurd ht vn_no)
      obtain ⟨f2, o2, m2, b1, b2, b3, b4⟩ := ih (y + 1) f1 o1 m1 (by omega) (by omega) a2
      rw [a1]
      refine ⟨f2, o2, m2, b1, b2, a5_tr a3 b3, fun i a b ht => ?_⟩
      by_cases e : i = ix y
      · subst e
        exact absurd ⟨hx, h0, by omega⟩ c1
      · exact b4 i (by omega) b ht
theorem addF (h : RelO oo σ c) {x : Int32} (hx : TH (r_things σ) x) (hr : Rch σ (ix x)) {f o : Nat → Int32} {m : Int32} (hI : I5 σ f o m) : ∃ f' o' m', fX3_addFields (S5 c f o m) x = S5 c f' o' m' ∧ I5 σ f' o' m' ∧ A5 f o m f' o' m' ∧ PF σ f' (ix x) := by
  have z0 := t0
  have q6 : ((6 : Int32).toInt - (0 : Int32).toInt).toNat = 6 := rfl
  unfold fX3_addFields
  rw [isFreed_s5, q_freed h hx, q6]
  by_cases c1 : r_isFreed σ (ix x) = 0
  · rw [if_pos c1]
    obtain ⟨f1, o1, m1, a1, a2, a3, a4⟩ := l11 h hx c1 hr 6 0 f o m (by omega) (by omega) hI
    exact ⟨f1, o1, m1, a1, a2, a3, fun _ i hi ht => a4 i (by omega) hi ht⟩
  · rw [if_neg c1]
    exact ⟨f, o, m, rfl, hI, a5_rf f o m, fun z => absurd z c1⟩
theorem has_s5 {n : Int32} (hn : n.toInt ≤ 120) (c : CSt) (f o : Nat → Int32) (m : Int32) {x : Int32} (hx : TH n x) : fX3_has (S5 c f o m) x = if f (ix x) = 0 then 0 else 1 := by
  have z0 := t0
  have z120 := t120
  unfold fX3_has
  rw [s5_found, if_neg (fun z => by have := i32_lt z; have := hx.1; omega), if_neg (fun z => by have := i32_le z; have := hx.2; omega)]
theorem has_no (c : CSt) : fX3_has c (-1) = 0 := by
  unfold fX3_has
  rw [if_pos (by decide)]
theorem addV (h : RelO oo σ c) (n : Nat) : ∀ (y : Int32) (f o : Nat → Int32) (m : Int32), 0 ≤ y.toInt → ((r_pairs σ).toInt - y.toInt).toNat = n → I5 σ f o m → ∃ f' o' m', fX3_addValues_L2 n y (S5 c f o m) = S5 c f' o' m' ∧ I5 σ f' o' m' ∧ A5 f o m f' o' m' ∧ (m' = m → ∀ k : Nat, y.toInt ≤ k → (k : Int) < (r_pairs σ).toInt → CloP σ (fun k => ¬ f k = 0) k) := by
  induction n with
  | zero => intro y f o m h0 h1 hI; exact ⟨f, o, m, rfl, hI, a5_rf f o m, fun _ k a b => by omega⟩
  | succ n ih =>
    intro y f o m h0 h1 hI
    have ey := ix_nat h0
    have hn := h.1.1
    have hp : PrOK (r_pairs σ) y := ⟨h0, by omega⟩
    have e1 := i32_p h0 (lp_nn h0 h1)
    obtain ⟨f2, o2, m2, b1, b2, b3, b4⟩ := ih (y + 1) f o m (lp_nn h0 h1) (lp_b h1) hI
    unfold fX3_addValues_L2
    rw [keyOf_s5, valueOf_s5, key5 h hp, value5 h hp]
    rcases pr_at h hp with ⟨g1, g2, g3⟩ | ⟨g1, g2, g3, g4, g5⟩
    · rw [g2, has_no, if_pos rfl]
      refine ⟨f2, o2, m2, b1, b2, b3, fun w k a b => ?_⟩
      by_cases e : k = ix y
      · subst e
        exact fun hq => absurd (g1.symm.trans hq) (by decide)
      · exact b4 w k (by omega) b
    · rw [g2, g3, has_s5 hn.2 c f o m g4]
      by_cases c1 : f (ix (r_key σ (ix y))) = 0
      · rw [if_pos c1, if_pos rfl]
        refine ⟨f2, o2, m2, b1, b2, b3, fun w k a b => ?_⟩
        by_cases e : k = ix y
        · subst e
          exact fun _ hq => absurd c1 hq
        · exact b4 w k (by omega) b
      · rw [if_neg c1, if_neg one_ne]
        have hlt := th_lt g4
        obtain ⟨f1, o1, m1, a1, a2, a3, a4⟩ := add1 (c := c) h.1 hI (Or.inr g5) (fun _ => rch_clP (k := ix y) (by omega) g1 ((hI.2.1 _ (by omega) c1).1.2))
        obtain ⟨f2, o2, m2, b1, b2, b3, b4⟩ := ih (y + 1) f1 o1 m1 (lp_nn h0 h1) (lp_b h1) a2
        rw [a1]
        refine ⟨f2, o2, m2, b1, b2, a5_tr a3 b3, fun w k a b => ?_⟩
        have l1 := a3.2.1
        have l2 := b3.2.1
        have l3 := congrArg Int32.toInt w
        have em : m1 = m := Int32.toInt_inj.mp (by omega)
        have ef := a3.2.2.2 em
        by_cases e : k = ix y
        · subst e
          intro _ _
          have := a4 g5
          rw [ef] at this
          exact this
        · have := b4 (w.trans em.symm) k (by omega) b
          rw [ef] at this
          exact this
theorem cntB_full {g : Nat → Int32} (n : Nat) (h : cntB g n = n) : ∀ k, k < n → ¬ g k = 0 := by
  induction n with
  | zero => intro k hk; exact absurd hk (Nat.not_lt_zero _)
  | succ n ih =>
    intro k hk
    have h2 : cntB g n + (if g n = 0 then 0 else 1) = n + 1 := h
    have h3 := cntB_le (g := g) (n := n)
    by_cases c1 : g n = 0
    · rw [if_pos c1] at h2
      omega
    · rw [if_neg c1] at h2
      rcases Nat.lt_succ_iff_lt_or_eq.mp hk with a | a
      · exact ih (by omega) k a
      · rw [a]
        exact c1
theorem l38 (h : RelO oo σ c) (fu : Nat) : ∀ (y : Int32) (f o : Nat → Int32) (m : Int32), 0 ≤ y.toInt → y.toInt + fu = 120 → y.toInt ≤ m.toInt → I5 σ f o m → RtA σ (fun k => ¬ f k = 0) → (∀ j : Nat, (j : Int) < y.toInt → PF σ f (ix (o j))) → ∃ f' o' m', fX3_find_L38 fu y (S5 c f o m) = S5 c f' o' m' ∧ I5 σ f' o' m' ∧ RtA σ (fun k => ¬ f' k = 0) ∧ CloA σ (fun k => ¬ f' k = 0) := by
  have hn := h.1.1
  have z0 := t0
  induction fu with
  | zero =>
    intro y f o m h0 h1 h2 hI hR hP
    have hc := cntB_le (g := f) (n := 120)
    have hf := cntB_full (g := f) 120 (by have := hI.1.2; omega)
    refine ⟨f, o, m, rfl, hI, hR, fun k hk _ _ i _ ht => hf _ (by have := th_lt ht; omega), fun k hk hp _ => hf _ ?_⟩
    rcases h.2.2.2.2.1.1 k hk with ⟨g1, _⟩ | ⟨_, _, _, _, g5⟩
    · exact absurd (g1.symm.trans hp) (by decide)
    · have := th_lt g5
      omega
  | succ fu ih =>
    intro y f o m h0 h1 h2 hI hR hP
    have ey := ix_nat h0
    have e1 := i32_1 (x := y) (B := 300) (by have q : (300 : Int32).toInt = 300 := rfl; omega)
    have go : ∀ (f o : Nat → Int32) (m : Int32), y.toInt < m.toInt → I5 σ f o m → RtA σ (fun k => ¬ f k = 0) → (∀ j : Nat, (j : Int) < y.toInt → PF σ f (ix (o j))) → ∃ f' o' m', fX3_find_L38 fu (y + 1) (fX3_addFields (S5 c f o m) (o (ix y))) = S5 c f' o' m' ∧ I5 σ f' o' m' ∧ RtA σ (fun k => ¬ f' k = 0) ∧ CloA σ (fun k => ¬ f' k = 0) := by
      intro f o m hlt hI hR hP
      obtain ⟨q1, q2⟩ := hI.2.2 (ix y) (by omega)
      have hql := th_lt q1
      obtain ⟨f1, o1, m1, a1, a2, a3, a4⟩ := addF (c := c) h q1 ((hI.2.1 _ (by omega) q2).1.2) hI
      rw [a1]
      refine ih (y + 1) f1 o1 m1 (by omega) (by omega) (by have := a3.2.1; omega) a2 (fun x hx ht => a3.1 _ (hR x hx ht)) (fun j hj => ?_)
      rw [a3.2.2.1 j (by omega)]
      by_cases e : j = ix y
      · subst e
        exact a4
      · exact pf_mono a3.1 (hP j (by omega))
    unfold fX3_find_L38
    rw [s5_rcount, s5_order]
    by_cases c1 : y < m
    · rw [if_pos c1, if_pos c1]
      exact go f o m (i32_lt c1) hI hR hP
    · have hym : m = y := Int32.toInt_inj.mp (by have := i32_nlt c1; omega)
      obtain ⟨f1, o1, m1, a1, a2, a3, a4⟩ := addV h ((r_pairs σ).toInt - (0 : Int32).toInt).toNat 0 f o m (by omega) rfl hI
      have ev : fX3_addValues (S5 c f o m) = S5 c f1 o1 m1 := by
        unfold fX3_addValues
        rw [s5_pmade, eq_ h]
        exact a1
      have hR1 : RtA σ (fun k => ¬ f1 k = 0) := fun x hx ht => a3.1 _ (hR x hx ht)
      have hP1 : ∀ j : Nat, (j : Int) < y.toInt → PF σ f1 (ix (o1 j)) := fun j hj => by
        rw [a3.2.2.1 j (by omega)]
        exact pf_mono a3.1 (hP j hj)
      rw [if_neg c1, ev, s5_rcount, s5_order]
      by_cases c2 : y < m1
      · rw [if_pos c2]
        exact go f1 o1 m1 (i32_lt c2) a2 hR1 hP1
      · have em : m1 = m := Int32.toInt_inj.mp (by have := i32_nlt c2; have := a3.2.1; omega)
        rw [if_neg c2]
        refine ⟨f1, o1, m1, rfl, a2, hR1, fun k hk hf => ?_, fun k hk => ?_⟩
        · obtain ⟨_, j, b1, b2⟩ := a2.2.1 k (by omega) hf
          have p := hP1 j (by rw [em, hym] at b1; exact b1)
          rw [b2, ix_nI (by omega)] at p
          exact p
        · have := a4 em k (by omega) hk
          rw [a3.2.2.2 em]
          exact this
theorem fg (n : Nat) : ∀ (y : Int32) (f : Nat → Int32), 0 ≤ y.toInt → y.toInt + n = 120 → ∃ f', fX3_forget_L2 n y (c_found_s c f) = S5 c f' (c_order c) 0 ∧ ∀ k : Nat, (y.toInt ≤ k → k < 120 → f' k = 0) ∧ ((k : Int) < y.toInt → f' k = f k) := by
  induction n with
  | zero =>
    intro y f h0 h1
    refine ⟨f, ?_, fun k => ⟨fun a b => by omega, fun _ => rfl⟩⟩
    unfold fX3_forget_L2 S5
    rw [← Cp_order_found c f, order_id]
  | succ n ih =>
    intro y f h0 h1
    have ey := ix_nat h0
    have e1 := i32_1 (x := y) (B := 300) (by have q : (300 : Int32).toInt = 300 := rfl; omega)
    unfold fX3_forget_L2
    rw [Cp_found_found, found_2]
    obtain ⟨f', a1, a2⟩ := ih (y + 1) (upd f (ix y) 0) (by omega) (by omega)
    refine ⟨f', a1, fun k => ⟨fun a b => ?_, fun a => ?_⟩⟩
    · by_cases e : k = ix y
      · rw [(a2 k).2 (by omega), e, pk_us]
      · exact (a2 k).1 (by omega) b
    · rw [(a2 k).2 (by omega), pk_un (by omega)]
theorem l7 (h : RelO oo σ c) (n : Nat) : ∀ (y : Int32) (f o : Nat → Int32) (m : Int32), 0 ≤ y.toInt → y.toInt + n = 16 + (r_wishes σ).toInt → I5 σ f o m → ∃ f' o' m', fX3_find_L7 n y (S5 c f o m) = S5 c f' o' m' ∧ I5 σ f' o' m' ∧ A5 f o m f' o' m' ∧ ∀ j : Nat, y.toInt ≤ j → (j : Int) < 16 + (r_wishes σ).toInt → TH (r_things σ) (c_hheld c j) → ¬ f' (ix (c_hheld c j)) = 0 := by
  have hw := s0_wishes h.1
  have hh := h.2.2.2.1
  induction n with
  | zero => intro y f o m h0 h1 hI; exact ⟨f, o, m, rfl, hI, a5_rf f o m, fun i a b => by omega⟩
  | succ n ih =>
    intro y f o m h0 h1 hI
    have ey := ix_nat h0
    have e1 := i32_1 (x := y) (B := 300) (by have q : (300 : Int32).toInt = 300 := rfl; omega)
    have g : VN (r_things σ) (c_hheld c (ix y)) ∧ RH σ (c_hheld c (ix y)) := by
      by_cases c1 : ix y < 12
      · have a := hh.1 (ix y) c1
        rw [a.1]
        exact ⟨a.2, Or.inl ⟨ix y, c1, rfl⟩⟩
      · by_cases c2 : ix y < 16
        · have a := hh.2.1 (ix y - 12) (by omega)
          rw [show 12 + (ix y - 12) = ix y by omega] at a
          rw [a.1]
          exact ⟨a.2, Or.inr (Or.inl ⟨ix y - 12, by omega, rfl⟩)⟩
        · have a := hh.2.2.1 (ix y - 16) (by omega)
          rw [show 16 + (ix y - 16) = ix y by omega] at a
          rw [a.1]
          exact ⟨Or.inr a.2, Or.inr (Or.inr ⟨ix y - 16, by omega, rfl⟩)⟩
    show ∃ f' o' m', fX3_find_L7 n (y + 1) (fX3_add (S5 c f o m) (fX1_heldAt (S5 c f o m) y)) = S5 c f' o' m' ∧ _
    rw [heldAt_s5, held_lt h h0 (by omega)]
    obtain ⟨f1, o1, m1, a1, a2, a3, a4⟩ := add1 (c := c) h.1 hI g.1 (fun ht => rch_rt σ _ g.2 ht)
    obtain ⟨f2, o2, m2, b1, b2, b3, b4⟩ := ih (y + 1) f1 o1 m1 (by omega) (by omega) a2
    rw [a1]
    refine ⟨f2, o2, m2, b1, b2, a5_tr a3 b3, fun j a b ht => ?_⟩
    by_cases e : j = ix y
    · subst e
      exact b3.1 _ (a4 ht)
    · exact b4 j (by omega) b ht
theorem find5 (h : RelO oo σ c) : ∃ f o m, fX3_find c = S5 c f o m ∧ ∀ k : Nat, (k : Int) < (r_things σ).toInt → (¬ f k = 0 ↔ Rch σ k) := by
  have z0 := t0
  have hn := h.1.1
  have hh := h.2.2.2.1
  have q120 : ((120 : Int32).toInt - (0 : Int32).toInt).toNat = 120 := rfl
  obtain ⟨f0, e0, c0⟩ := fg (c := c) 120 0 (c_found c) (by omega) (by omega)
  rw [found_id] at e0
  have ef : fX3_forget c = S5 c f0 (c_order c) 0 := by
    unfold fX3_forget
    rw [q120, e0]
  have hc0 : cntB f0 120 = 0 := by
    have e : ∀ n, cntB (fun _ => (0 : Int32)) n = 0 := fun n => by
      induction n with
      | zero => rfl
      | succ n ih =>
        show cntB (fun _ => (0 : Int32)) n + (if (0 : Int32) = 0 then 0 else 1) = 0
        rw [ih, if_pos rfl]
    rw [← e 120]
    exact cntB_congr (fun k hk => by rw [(c0 k).1 (by omega) hk])
  have hI : I5 σ f0 (c_order c) 0 := ⟨⟨by omega, by omega⟩, fun k hk hf => absurd ((c0 k).1 (by omega) hk) hf, fun j hj => by omega⟩
  have hw := w16 h
  obtain ⟨f1, o1, m1, a1, a2, a3, a4⟩ := l7 h (((16 : Int32) + c_wishes c).toInt - (0 : Int32).toInt).toNat 0 f0 (c_order c) 0 (by omega) (by have := w0 h; omega) hI
  have hR : RtA σ (fun k => ¬ f1 k = 0) := fun x hx ht => by
    have hw0 := w0 h
    rcases hx with ⟨j, hj, rfl⟩ | ⟨j, hj, rfl⟩ | ⟨j, hj, rfl⟩
    · have a := (hh.1 j hj).1
      have := a4 j (by omega) (by omega)
      rw [a] at this
      exact this ht
    · have a := (hh.2.1 j hj).1
      have := a4 (12 + j) (by omega) (by omega)
      rw [a] at this
      exact this ht
    · have a := (hh.2.2.1 j hj).1
      have := a4 (16 + j) (by omega) (by omega)
      rw [a] at this
      exact this ht
  obtain ⟨f2, o2, m2, b1, b2, b3, b4⟩ := l38 h 120 0 f1 o1 m1 (by omega) (by omega) (by have := a2.1.1; omega) a2 hR (fun j hj => by omega)
  refine ⟨f2, o2, m2, ?_, fun k hk => ⟨fun hf => (b2.2.1 k (by omega) hf).1.2, fun hr => hr _ b3 b4⟩⟩
  unfold fX3_find
  rw [ef, s5_wishes, a1, q120, b1]
end C
