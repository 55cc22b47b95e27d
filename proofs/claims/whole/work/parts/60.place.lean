/-! PURE, part 60: the place of a new thing -/
theorem addI {a b : Int32} (ha : -1000000 ≤ a.toInt ∧ a.toInt ≤ 1000000) (hb : -1000000 ≤ b.toInt ∧ b.toInt ≤ 1000000) : (a + b).toInt = a.toInt + b.toInt := by
  rw [Int32.toInt_add]
  exact Int.bmod_eq_of_le (by omega) (by omega)
theorem subI {a b : Int32} (ha : -1000000 ≤ a.toInt ∧ a.toInt ≤ 1000000) (hb : -1000000 ≤ b.toInt ∧ b.toInt ≤ 1000000) : (a - b).toInt = a.toInt - b.toInt := by
  rw [Int32.toInt_sub]
  exact Int.bmod_eq_of_le (by omega) (by omega)
def FRn (c : CSt) (p z : Int) : Prop := ∀ j : Nat, p ≤ j → (j : Int) < p + z → c_cmap c j = -1
def LPs (c : CSt) (z : Int) (p : Int32) : Prop := (p = -1 ∧ ∀ q : Int, 0 ≤ q → q + z ≤ 200 → ¬ FRn c q z) ∨ (0 ≤ p.toInt ∧ p.toInt + z ≤ 200 ∧ FRn c p.toInt z ∧ ∀ q : Int, 0 ≤ q → q < p.toInt → ¬ FRn c q z)
theorem lps_uniq {c : CSt} {z : Int} {p q : Int32} (hp : LPs c z p) (hq : LPs c z q) : p = q := by
  rcases hp with ⟨a1, a2⟩ | ⟨a1, a2, a3, a4⟩
  · rcases hq with ⟨b1, b2⟩ | ⟨b1, b2, b3, b4⟩
    · rw [a1, b1]
    · exact absurd b3 (a2 _ b1 b2)
  · rcases hq with ⟨b1, b2⟩ | ⟨b1, b2, b3, b4⟩
    · exact absurd a3 (b2 _ a1 a2)
    · refine Int32.toInt_inj.mp ?_
      rcases Int.lt_trichotomy p.toInt q.toInt with e | e | e
      · exact absurd a3 (b4 _ a1 e)
      · exact e
      · exact absurd b3 (a4 _ b1 e)
theorem lpq5 {c : CSt} {z : Int32} (hz : 1 ≤ z.toInt ∧ z.toInt ≤ 7) (f : Nat) : ∀ (r k : Int32), 0 ≤ r.toInt → r.toInt < z.toInt → r.toInt ≤ k.toInt → k.toInt + f = 200 → (∀ j : Nat, k.toInt - r.toInt ≤ j → (j : Int) < k.toInt → c_cmap c j = -1) → (k.toInt = r.toInt ∨ ∃ j : Nat, (j : Int) = k.toInt - r.toInt - 1 ∧ ¬ c_cmap c j = -1) → (∀ q : Int, 0 ≤ q → q + z.toInt ≤ k.toInt → ¬ FRn c q z.toInt) → LPs c z.toInt (fX0_leastPlace_L4 z f r k c) := by
  induction f with
  | zero =>
    intro r k h0 h1 h2 h3 hf hb hn
    exact Or.inl ⟨rfl, fun q a b => hn q a (by omega)⟩
  | succ f ih =>
    intro r k h0 h1 h2 h3 hf hb hn
    have z1 := t1
    have z0 := t0
    have ek := ix_nat (x := k) (by omega)
    have e1 : (k + 1).toInt = k.toInt + 1 := by rw [addI (by omega) (by omega), z1]
    have er : (r + 1).toInt = r.toInt + 1 := by rw [addI (by omega) (by omega), z1]
    unfold fX0_leastPlace_L4
    by_cases c1 : c_cmap c (ix k) = -1
    · rw [if_pos c1]
      by_cases c2 : r + 1 = z
      · have e2 : r.toInt + 1 = z.toInt := by rw [← er, c2]
        have ep : ((k + 1) - z).toInt = k.toInt + 1 - z.toInt := by rw [subI (by omega) (by omega), e1]
        rw [if_pos c2]
        refine Or.inr ⟨by omega, by omega, ?_, ?_⟩
        · rw [ep]
          intro j a b
          by_cases e : j = ix k
          · rw [e]
            exact c1
          · exact hf j (by omega) (by omega)
        · rw [ep]
          intro q a b
          exact hn q a (by omega)
      · have n2 := i32_ne c2
        rw [if_neg c2]
        refine ih (r + 1) (k + 1) (by omega) (by omega) (by omega) (by omega) (fun j a b => ?_) (hb.imp (fun e => by omega) (fun ⟨j, a, b⟩ => ⟨j, by omega, b⟩)) (fun q a b => ?_)
        · by_cases e : j = ix k
          · rw [e]
            exact c1
          · exact hf j (by omega) (by omega)
        · by_cases e : q + z.toInt ≤ k.toInt
          · exact hn q a e
          · rcases hb with e2 | ⟨j, a2, b2⟩
            · omega
            · exact fun fr => b2 (fr j (by omega) (by omega))
    · rw [if_neg c1, if_neg (fun w : (0 : Int32) = z => by have := congrArg Int32.toInt w; omega)]
      refine ih 0 (k + 1) (by omega) (by omega) (by omega) (by omega) (fun j a b => by omega) (Or.inr ⟨ix k, by omega, c1⟩) (fun q a b => ?_)
      by_cases e : q + z.toInt ≤ k.toInt
      · exact hn q a e
      · exact fun fr => c1 (fr (ix k) (by omega) (by omega))
section P
variable {oo : Int32} {σ : RSt} {c : CSt}
def Dj (σ : RSt) (p z : Int) (k : Nat) : Prop := p + z ≤ (r_place σ k).toInt ∨ (r_place σ k).toInt + (r_many σ k).toInt + 1 ≤ p
def PP (σ : RSt) (p z : Int) : Prop := 0 ≤ p ∧ p + z ≤ 200 ∧ ∀ k : Nat, LV (r_things σ) (r_isFreed σ) k → Dj σ p z k
theorem fr_dj (h : RelO oo σ c) {p z : Int} (h0 : 0 ≤ p) (hz : 1 ≤ z) (h1 : p + z ≤ 200) : FRn c p z ↔ ∀ k : Nat, LV (r_things σ) (r_isFreed σ) k → Dj σ p z k := by
  obtain ⟨g1, g2, g3⟩ := h.2.2.2.2.2.1
  have hn := h.1.1
  constructor
  · intro fr k hk
    refine Classical.byContradiction fun w => ?_
    unfold Dj at w
    have hm := h.1.2.1 k
    have hp := g1 k hk
    have key : ∀ j : Nat, p ≤ j → (j : Int) < p + z → (r_place σ k).toInt ≤ j → (j : Int) ≤ (r_place σ k).toInt + (r_many σ k).toInt → False := by
      intro j a b d e
      have hj := fr j a b
      rcases g3 j (by omega) with ⟨k', hk', ek⟩ | ⟨hc, _⟩
      · rw [hj] at ek
        have h2 := nI_toInt (n := k') (by have := hk'.1.1; omega)
        rw [← ek] at h2
        have q : (-1 : Int32).toInt = -1 := rfl
        omega
      · exact hc k ⟨hk, d, e⟩
    by_cases e : (r_place σ k).toInt ≤ p
    · exact key p.toNat (by omega) (by omega) (by omega) (by omega)
    · exact key (r_place σ k).toInt.toNat (by omega) (by omega) (by omega) (by omega)
  · intro hd j a b
    rcases g3 j (by omega) with ⟨k, hk, _⟩ | ⟨_, e⟩
    · have := hd k hk.1
      unfold Dj at this
      have h2 := hk.2
      omega
    · exact e
theorem isFree_L (h : RelO oo σ c) {p z : Int32} (hp : 0 ≤ p.toInt) (hz : 1 ≤ z.toInt ∧ z.toInt ≤ 7) (hpz : p.toInt + z.toInt ≤ 200) (f : Nat) : ∀ y : Int32, 0 ≤ y.toInt → ((r_things σ).toInt - y.toInt).toNat = f → ((∀ k : Nat, y.toInt ≤ k → LV (r_things σ) (r_isFreed σ) k → Dj σ p.toInt z.toInt k) → fX6_isFree_L2 p z f y σ = 1) ∧ ((¬ ∀ k : Nat, y.toInt ≤ k → LV (r_things σ) (r_isFreed σ) k → Dj σ p.toInt z.toInt k) → fX6_isFree_L2 p z f y σ = 0) := by
  induction f with
  | zero => intro y h0 h1; exact ⟨fun _ => rfl, fun w => absurd (fun k a b => absurd b.1 (by omega)) w⟩
  | succ f ih =>
    intro y h0 h1
    have ey := ix_nat h0
    have e1 := i32_p h0 (lp_nn h0 h1)
    obtain ⟨i1, i2⟩ := ih (y + 1) (lp_nn h0 h1) (lp_b h1)
    have skip : Dj σ p.toInt z.toInt (ix y) ∨ ¬ LV (r_things σ) (r_isFreed σ) (ix y) → ((∀ k : Nat, y.toInt ≤ k → LV (r_things σ) (r_isFreed σ) k → Dj σ p.toInt z.toInt k) → fX6_isFree_L2 p z f (y + 1) σ = 1) ∧ ((¬ ∀ k : Nat, y.toInt ≤ k → LV (r_things σ) (r_isFreed σ) k → Dj σ p.toInt z.toInt k) → fX6_isFree_L2 p z f (y + 1) σ = 0) := by
      intro hd
      refine ⟨fun w => i1 (fun k a b => w k (by omega) b), fun w => i2 (fun w2 => w (fun k a b => ?_))⟩
      by_cases e : k = ix y
      · subst e
        rcases hd with q | q
        · exact q
        · exact absurd b q
      · exact w2 k (by omega) b
    unfold fX6_isFree_L2
    by_cases c1 : r_isFreed σ (ix y) = 0
    · have hk : LV (r_things σ) (r_isFreed σ) (ix y) := ⟨by omega, c1⟩
      have hm := h.1.2.1 (ix y)
      have hpl := h.2.2.2.2.2.1.1 _ hk
      have z1 := t1
      have a1 : (p + z).toInt = p.toInt + z.toInt := addI (by omega) (by omega)
      have a2 : (r_place σ (ix y) + r_many σ (ix y)).toInt = (r_place σ (ix y)).toInt + (r_many σ (ix y)).toInt := addI (by omega) (by omega)
      have a3 : (r_place σ (ix y) + r_many σ (ix y) + 1).toInt = (r_place σ (ix y)).toInt + (r_many σ (ix y)).toInt + 1 := by rw [addI (by omega) (by omega), a2, z1]
      rw [if_pos c1]
      by_cases c2 : p + z ≤ r_place σ (ix y)
      · rw [if_pos c2]
        exact skip (Or.inl (Or.inl (by have := i32_le c2; omega)))
      · rw [if_neg c2]
        by_cases c3 : r_place σ (ix y) + r_many σ (ix y) + 1 ≤ p
        · rw [if_pos c3]
          exact skip (Or.inl (Or.inr (by have := i32_le c3; omega)))
        · rw [if_neg c3]
          refine ⟨fun w => ?_, fun _ => rfl⟩
          have := w (ix y) (by omega) hk
          unfold Dj at this
          have n2 := i32_nle c2
          have n3 := i32_nle c3
          omega
    · rw [if_neg c1]
      exact skip (Or.inr (fun w => c1 w.2))
theorem isFree_eq (h : RelO oo σ c) {p z : Int32} (hp : 0 ≤ p.toInt) (hz : 1 ≤ z.toInt ∧ z.toInt ≤ 7) (hpz : p.toInt + z.toInt ≤ 200) : (FRn c p.toInt z.toInt → fX6_isFree σ p z = 1) ∧ (¬ FRn c p.toInt z.toInt → fX6_isFree σ p z = 0) := by
  have z0 := t0
  obtain ⟨i1, i2⟩ := isFree_L h hp hz hpz _ 0 (by omega) rfl
  have e := fr_dj h hp hz.1 hpz
  unfold fX6_isFree
  exact ⟨fun w => i1 (fun k _ b => e.mp w k b), fun w => i2 (fun w2 => w (e.mpr (fun k b => w2 k (by omega) b)))⟩
theorem np6 (h : RelO oo σ c) {z : Int32} (hz : 1 ≤ z.toInt ∧ z.toInt ≤ 7) (f : Nat) : ∀ y : Int32, 0 ≤ y.toInt → y.toInt + f = 201 - z.toInt → (∀ q : Int, 0 ≤ q → q < y.toInt → ¬ FRn c q z.toInt) → LPs c z.toInt (fX6_newPlace_L76 z f y σ) := by
  induction f with
  | zero => intro y h0 h1 hn; exact Or.inl ⟨rfl, fun q a b => hn q a (by omega)⟩
  | succ f ih =>
    intro y h0 h1 hn
    have z1 := t1
    have e1 : (y + 1).toInt = y.toInt + 1 := by rw [addI (by omega) (by omega), z1]
    have g := isFree_eq h (p := y) h0 hz (by omega)
    unfold fX6_newPlace_L76
    by_cases fr : FRn c y.toInt z.toInt
    · rw [g.1 fr, if_neg one_ne]
      exact Or.inr ⟨h0, by omega, fr, hn⟩
    · rw [g.2 fr, if_pos rfl]
      refine ih (y + 1) (by omega) (by omega) (fun q a b => ?_)
      by_cases e : q = y.toInt
      · rw [e]
        exact fr
      · exact hn q a (by omega)
theorem wc_eq (h : RelO oo σ c) (f : Nat) : ∀ y1 y2 : Int32, 0 ≤ y2.toInt → ((r_things σ).toInt - y2.toInt).toNat = f → fX4_cellsOfWhite_L4 f y1 y2 c = fX6_whiteCells_L4 f y1 y2 σ := by
  induction f with
  | zero => intro y1 y2 h0 h1; rfl
  | succ f ih =>
    intro y1 y2 h0 h1
    have hx : TH (r_things σ) y2 := ⟨h0, by omega⟩
    have go := fun w => ih w (y2 + 1) (lp_nn h0 h1) (lp_b h1)
    unfold fX4_cellsOfWhite_L4 fX6_whiteCells_L4
    rw [q_white h hx, q_freed h hx, q_size h hx, q_rwhite, Int32.add_zero]
    by_cases c1 : r_colour σ (ix y2) = 0
    · rw [if_pos c1, if_neg one_ne, if_neg one_ne]
      by_cases c2 : r_isFreed σ (ix y2) = 0
      · rw [if_pos c2, if_pos c2]
        exact go _
      · rw [if_neg c2, if_neg c2]
        exact go _
    · rw [if_neg c1, if_pos rfl, if_pos rfl]
      exact go _
abbrev whS (σ : RSt) : Nat → Nat := sumN (whN (r_many σ) (r_colour σ) (r_isFreed σ))
theorem wc_sum (h : RelO oo σ c) (f : Nat) : ∀ y1 y2 : Int32, 0 ≤ y2.toInt → y2.toInt ≤ (r_things σ).toInt → ((r_things σ).toInt - y2.toInt).toNat = f → 0 ≤ y1.toInt → y1.toInt ≤ 7 * y2.toInt → (fX6_whiteCells_L4 f y1 y2 σ).toInt + (whS σ y2.toInt.toNat : Int) = y1.toInt + (whS σ (r_things σ).toInt.toNat : Int) := by
  induction f with
  | zero =>
    intro y1 y2 h0 hn h1 h2 h3
    have e : y2.toInt.toNat = (r_things σ).toInt.toNat := by omega
    show y1.toInt + _ = _
    rw [e]
  | succ f ih =>
    intro y1 y2 h0 hn h1 h2 h3
    have hx : TH (r_things σ) y2 := ⟨h0, by omega⟩
    have h120 := h.1.1.2
    have e1 := i32_p h0 (lp_nn h0 h1)
    have e3 : (y2 + 1).toInt.toNat = y2.toInt.toNat + 1 := by omega
    have e4 : ix y2 = y2.toInt.toNat := by
      have := ix_nat h0
      omega
    have ec : whS σ (y2 + 1).toInt.toNat = whS σ y2.toInt.toNat + whN (r_many σ) (r_colour σ) (r_isFreed σ) (ix y2) := by
      rw [e3, e4]
      rfl
    have hm := h.1.2.1 (ix y2)
    have hz := szN_eq h.1 (ix y2)
    have ha := many_add h.1 (ix y2)
    have go := fun w => ih w (y2 + 1) (lp_nn h0 h1) (by omega) (lp_b h1)
    unfold whN at ec
    unfold fX6_whiteCells_L4
    rw [q_rwhite, Int32.add_zero]
    by_cases c1 : r_colour σ (ix y2) = 0
    · rw [if_pos c1] at ec
      rw [if_pos c1, if_neg one_ne]
      by_cases c2 : r_isFreed σ (ix y2) = 0
      · rw [if_pos c2] at ec
        rw [if_pos c2]
        have ea : (y1 + (r_many σ (ix y2) + 1)).toInt = y1.toInt + ((r_many σ (ix y2)).toInt + 1) := by rw [addI (by omega) (by omega), ha]
        have g := go (y1 + (r_many σ (ix y2) + 1)) (by omega) (by omega)
        rw [ec] at g
        omega
      · rw [if_neg c2] at ec
        rw [if_neg c2]
        have g := go y1 (by omega) (by omega)
        rw [ec] at g
        omega
    · rw [if_neg c1] at ec
      rw [if_neg c1, if_pos rfl]
      have g := go y1 (by omega) (by omega)
      have ec2 : whS σ (y2 + 1).toInt.toNat = whS σ y2.toInt.toNat := by
        rw [ec]
        by_cases c2 : r_isFreed σ (ix y2) = 0
        · rw [if_pos c2]
          exact Nat.add_zero _
        · rw [if_neg c2]
          exact Nat.add_zero _
      rw [ec2] at g
      exact g
theorem whS_le (hS : S0 σ) : (whS σ (r_things σ).toInt.toNat : Int) ≤ 840 := by
  have h1 := sumN_le (g := whN (r_many σ) (r_colour σ) (r_isFreed σ)) (b := 7) (n := (r_things σ).toInt.toNat) (fun k => by
    have hm := hS.2.1 k
    unfold whN szN
    split
    · split <;> omega
    · omega)
  have h2 := hS.1
  unfold whS
  omega
theorem wc_0 (h : RelO oo σ c) : fX4_cellsOfWhite c = fX6_whiteCells σ ∧ (fX6_whiteCells σ).toInt = (whS σ (r_things σ).toInt.toNat : Int) := by
  have z0 := t0
  have hn := h.1.1
  unfold fX4_cellsOfWhite fX6_whiteCells
  rw [en h]
  refine ⟨wc_eq h _ 0 0 (by omega) rfl, ?_⟩
  have g := wc_sum h _ 0 0 (by omega) (by omega) rfl (by omega) (by omega)
  have e : whS σ (0 : Int32).toInt.toNat = 0 := rfl
  rw [e] at g
  omega
theorem col5 (h : RelO oo σ c) : fX5_colourOfNew c = fX6_newColour σ := by
  unfold fX5_colourOfNew fX6_newColour
  rw [wayS h, h.2.1.2.1]
theorem place3 (h : RelO oo σ c) (hm : r_manner σ = 3) {z : Int32} (hz : 1 ≤ z.toInt ∧ z.toInt ≤ 7) : fX5_placeOfNew c z (fX6_newColour σ) = fX6_newPlace σ z ∧ (fX6_newPlace σ z = -1 ∨ (fX6_newPlace σ z = 100 * r_half σ + r_top σ ∧ (r_top σ).toInt + z.toInt ≤ 100 ∧ (r_way σ = 1 → (fX6_newColour σ = 0 → (r_top σ).toInt + z.toInt + (whS σ (r_things σ).toInt.toNat : Int) + z.toInt ≤ 100) ∧ (r_top σ).toInt + z.toInt + (whS σ (r_things σ).toInt.toNat : Int) ≤ 100))) := by
  have left := left5 h
  obtain ⟨g1, g2, g3, g4⟩ := h.2.2.2.2.2.2.1
  obtain ⟨w1, w2⟩ := wc_0 h
  have w3 := whS_le h.1
  have z0 := t0
  have z100 := t100
  have eL : (100 - r_top σ).toInt = 100 - (r_top σ).toInt := by rw [subI (by omega) (by omega), z100]
  have eD : (100 - r_top σ - z).toInt = 100 - (r_top σ).toInt - z.toInt := by rw [subI (by omega) (by omega), eL]
  unfold fX5_placeOfNew fX6_newPlace
  rw [h.2.1.1, if_pos hm, if_pos hm, wayS h, left, g4, w1]
  by_cases c1 : r_way σ = 1
  · rw [if_pos c1, if_pos c1]
    by_cases c2 : fX6_newColour σ = 0
    · have e1 : (fX6_whiteCells σ + z).toInt = (fX6_whiteCells σ).toInt + z.toInt := addI (by omega) (by omega)
      have e2 : (z + (fX6_whiteCells σ + z)).toInt = z.toInt + ((fX6_whiteCells σ).toInt + z.toInt) := by rw [addI (by omega) (by omega), e1]
      rw [if_pos c2, if_pos c2]
      by_cases c3 : z + (fX6_whiteCells σ + z) ≤ 100 - r_top σ
      · have n3 := i32_le c3
        rw [if_pos c3, if_neg (fun q => by have := i32_lt q; omega), if_pos (Int32.le_iff_toInt_le.mpr (by omega))]
        exact ⟨rfl, Or.inr ⟨rfl, by omega, fun _ => ⟨fun _ => by omega, by omega⟩⟩⟩
      · have n3 := i32_nle c3
        rw [if_neg c3]
        by_cases c4 : 100 - r_top σ - z < 0
        · rw [if_pos c4]
          exact ⟨rfl, Or.inl rfl⟩
        · rw [if_neg c4, if_neg (fun q => by have := i32_le q; omega)]
          exact ⟨rfl, Or.inl rfl⟩
    · have e2 : (z + (fX6_whiteCells σ + 0)).toInt = z.toInt + (fX6_whiteCells σ).toInt := by rw [Int32.add_zero, addI (by omega) (by omega)]
      have e1 : (fX6_whiteCells σ + 0).toInt = (fX6_whiteCells σ).toInt := by rw [Int32.add_zero]
      rw [if_neg c2, if_neg c2]
      by_cases c3 : z + (fX6_whiteCells σ + 0) ≤ 100 - r_top σ
      · have n3 := i32_le c3
        rw [if_pos c3, if_neg (fun q => by have := i32_lt q; omega), if_pos (Int32.le_iff_toInt_le.mpr (by omega))]
        exact ⟨rfl, Or.inr ⟨rfl, by omega, fun _ => ⟨fun q => absurd q c2, by omega⟩⟩⟩
      · have n3 := i32_nle c3
        rw [if_neg c3]
        by_cases c4 : 100 - r_top σ - z < 0
        · rw [if_pos c4]
          exact ⟨rfl, Or.inl rfl⟩
        · rw [if_neg c4, if_neg (fun q => by have := i32_le q; omega)]
          exact ⟨rfl, Or.inl rfl⟩
  · rw [if_neg c1, if_neg c1]
    by_cases c3 : z ≤ 100 - r_top σ
    · have n3 := i32_le c3
      rw [if_pos c3, if_neg (fun q => by have := i32_lt q; omega), if_pos (Int32.le_iff_toInt_le.mpr (by omega))]
      exact ⟨rfl, Or.inr ⟨rfl, by omega, fun q => absurd q c1⟩⟩
    · have n3 := i32_nle c3
      rw [if_neg c3]
      by_cases c4 : 100 - r_top σ - z < 0
      · rw [if_pos c4]
        exact ⟨rfl, Or.inl rfl⟩
      · rw [if_neg c4, if_neg (fun q => by have := i32_le q; omega)]
        exact ⟨rfl, Or.inl rfl⟩
/-- the place, on both sides, and what it is -/
theorem sim_place (h : RelO oo σ c) {z : Int32} (hz : 1 ≤ z.toInt ∧ z.toInt ≤ 7) : fX5_placeOfNew c z (fX6_newColour σ) = fX6_newPlace σ z ∧ (fX6_newPlace σ z = -1 ∨ (PP σ (fX6_newPlace σ z).toInt z.toInt ∧ (r_manner σ = 3 → fX6_newPlace σ z = 100 * r_half σ + r_top σ ∧ (r_top σ).toInt + z.toInt ≤ 100 ∧ (r_way σ = 1 → (fX6_newColour σ = 0 → (r_top σ).toInt + z.toInt + (whS σ (r_things σ).toInt.toNat : Int) + z.toInt ≤ 100) ∧ (r_top σ).toInt + z.toInt + (whS σ (r_things σ).toInt.toNat : Int) ≤ 100)))) := by
  by_cases hm : r_manner σ = 3
  · obtain ⟨a1, a2⟩ := place3 h hm hz
    refine ⟨a1, a2.imp id (fun w => ⟨?_, fun _ => w⟩)⟩
    obtain ⟨g1, g2, g3, g4⟩ := h.2.2.2.2.2.2.1
    obtain ⟨s1, s2, s3, s4⟩ := h.2.2.2.2.2.2.2 hm
    have e := half_top g1 g2
    have e2 := half_int g1
    rw [w.1]
    refine ⟨by omega, by have := w.2.1; omega, fun k hk => ?_⟩
    have hk2 := s2 k hk
    have w2 := w.2.1
    unfold inHalf at hk2
    unfold Dj
    omega
  · have z0 := t0
    have z200 := t200
    have q : ((200 : Int32).toInt - (0 : Int32).toInt).toNat = 200 := rfl
    have p5 := lpq5 (c := c) hz 200 0 0 (by omega) (by omega) (by omega) (by omega) (fun j a b => by omega) (Or.inl rfl) (fun q a b => by omega)
    have p6 := np6 h hz ((200 : Int32).toInt + 1 - ((0 : Int32) + z).toInt).toNat 0 (by omega) (by rw [Int32.zero_add]; omega) (fun q a b => by omega)
    have e5 : fX5_placeOfNew c z (fX6_newColour σ) = fX0_leastPlace_L4 z 200 0 0 c := by
      unfold fX5_placeOfNew fX0_leastPlace
      rw [h.2.1.1, if_neg hm, q]
    have e6 : fX6_newPlace σ z = fX6_newPlace_L76 z ((200 : Int32).toInt + 1 - ((0 : Int32) + z).toInt).toNat 0 σ := by
      unfold fX6_newPlace
      rw [if_neg hm]
    rw [e5, e6]
    refine ⟨lps_uniq p5 p6, ?_⟩
    rcases p6 with ⟨a, _⟩ | ⟨b1, b2, b3, _⟩
    · exact Or.inl a
    · exact Or.inr ⟨⟨b1, b2, (fr_dj h b1 hz.1 b2).mp b3⟩, fun w => absurd w hm⟩
end P
