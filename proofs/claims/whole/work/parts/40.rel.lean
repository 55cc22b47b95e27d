/-! PURE, part 40: the relation between a state of the reference and one of the component, group by group, over components -/
def TH (n x : Int32) : Prop := 0 ≤ x.toInt ∧ x.toInt < n.toInt
def VN (n x : Int32) : Prop := x = -1 ∨ TH n x
/-- the things, one by one -/
def T1 (n : Int32) (many place colour freed wish moved field sizes places colours freedC wishing moves theld : Nat → Int32) (k : Nat) : Prop := (sizes k = many k + 1 ∧ places k = place k ∧ colours k = colour k ∧ moves k = moved k ∧ freedC k = freed k ∧ wishing k = wish k) ∧ (freed k = 0 ∨ freed k = 1) ∧ (wish k = 0 ∨ wish k = 1) ∧ (freed k = 1 → place k = -1 ∧ colour k = 0) ∧ ∀ i : Nat, i < 6 → theld (6 * k + i) = field (6 * k + i) ∧ VN n (field (6 * k + i))
def GT (n : Int32) (many place colour freed wish moved field sizes places colours freedC wishing moves theld : Nat → Int32) : Prop :=
  ∀ k : Nat, (k : Int) < n.toInt → T1 n many place colour freed wish moved field sizes places colours freedC wishing moves theld k
/-- what holds -/
def GH (n w : Int32) (register slot wishAt weakAt hheld named : Nat → Int32) : Prop :=
  (∀ k : Nat, k < 12 → hheld k = register k ∧ VN n (register k)) ∧ (∀ k : Nat, k < 4 → hheld (12 + k) = slot k ∧ VN n (slot k)) ∧ (∀ k : Nat, (k : Int) < w.toInt → hheld (16 + k) = wishAt k ∧ TH n (wishAt k)) ∧ (∀ k : Nat, k < 6 → named k = weakAt k ∧ VN n (weakAt k))
/-- the pairs -/
def GP (n q : Int32) (isPair key value keys values : Nat → Int32) : Prop :=
  (∀ k : Nat, (k : Int) < q.toInt → (isPair k = 0 ∧ keys k = -1 ∧ values k = -1) ∨ (isPair k = 1 ∧ keys k = key k ∧ values k = value k ∧ TH n (key k) ∧ TH n (value k))) ∧ ∀ k : Nat, q.toInt ≤ k → k < 8 → isPair k = 0
def LV (n : Int32) (freed : Nat → Int32) (k : Nat) : Prop := (k : Int) < n.toInt ∧ freed k = 0
def szN (many : Nat → Int32) (k : Nat) : Nat := (many k).toInt.toNat + 1
/-- cells of live things that are not white, and of those that are -/
def nwN (many colour freed : Nat → Int32) (k : Nat) : Nat := if freed k = 0 then (if colour k = 0 then 0 else szN many k) else 0
def whN (many colour freed : Nat → Int32) (k : Nat) : Nat := if freed k = 0 then (if colour k = 0 then szN many k else 0) else 0
def inHalf (h : Int) (t : Int) (place many : Int32) : Prop := 100 * h ≤ place.toInt ∧ place.toInt + many.toInt + 1 ≤ 100 * h + t
/-- manner 3 -/
def G3 (n way half top : Int32) (many place colour freed : Nat → Int32) : Prop :=
  (way = 0 ∨ way = 1) ∧ (∀ k : Nat, LV n freed k → inHalf half.toInt top.toInt (place k) (many k) ∨ (way = 1 ∧ colour k = 0 ∧ inHalf (1 - half.toInt) 100 (place k) (many k))) ∧ (way = 0 → (sumN (nwN many colour freed) n.toInt.toNat : Int) + sumN (whN many colour freed) n.toInt.toNat ≤ top.toInt) ∧ (way = 1 → (sumN (nwN many colour freed) n.toInt.toNat : Int) ≤ top.toInt ∧ top.toInt + sumN (whN many colour freed) n.toInt.toNat ≤ 100)
def cov (n : Int32) (many place freed : Nat → Int32) (k : Nat) (j : Int) : Prop := LV n freed k ∧ (place k).toInt ≤ j ∧ j ≤ (place k).toInt + (many k).toInt
/-- the cells -/
def GC (n : Int32) (many place freed cmap : Nat → Int32) : Prop :=
  (∀ k : Nat, LV n freed k → 0 ≤ (place k).toInt ∧ (place k).toInt + (many k).toInt + 1 ≤ 200) ∧ (∀ k k' : Nat, LV n freed k → LV n freed k' → k ≠ k' → (place k).toInt + (many k).toInt < (place k').toInt ∨ (place k').toInt + (many k').toInt < (place k).toInt) ∧ (∀ j : Nat, j < 200 → (∃ k : Nat, cov n many place freed k j ∧ cmap j = nI k) ∨ ((∀ k : Nat, ¬ cov n many place freed k j) ∧ cmap j = -1))
def GS (half top halfEnd behind : Int32) : Prop := (half = 0 ∨ half = 1) ∧ (0 ≤ top.toInt ∧ top.toInt ≤ 100) ∧ halfEnd = 100 * half + 100 ∧ behind = 100 * half + top
def GA (oo : Int32) (σ : RSt) (c : CSt) : Prop := c_manner c = r_manner σ ∧ c_fault c = r_fault σ ∧ c_under c = r_way σ ∧ c_rounds c = r_rounds σ ∧ c_steps c + oo = r_steps σ ∧ c_shaded c = r_shaded σ ∧ c_moved c = r_movedMany σ ∧ c_tmade c = r_things σ ∧ c_wishes c = r_wishes σ ∧ c_pmade c = r_pairs σ ∧ (r_way σ = 2 → c_nextS c = r_next σ) ∧ (r_way σ = 0 ∨ r_way σ = 1 ∨ r_way σ = 2) ∧ 0 ≤ (r_shaded σ).toInt ∧ (r_shaded σ).toInt ≤ cntB (r_colour σ) (r_things σ).toInt.toNat
def rGT (σ : RSt) (c : CSt) : Prop := GT (r_things σ) (r_many σ) (r_place σ) (r_colour σ) (r_isFreed σ) (r_hasWish σ) (r_moved σ) (r_field σ) (c_sizes c) (c_places c) (c_colours c) (c_freed c) (c_wishing c) (c_moves c) (c_theld c)
def rGH (σ : RSt) (c : CSt) : Prop := GH (r_things σ) (r_wishes σ) (r_register σ) (r_slot σ) (r_wishAt σ) (r_weakAt σ) (c_hheld c) (c_named c)
def rGP (σ : RSt) (c : CSt) : Prop := GP (r_things σ) (r_pairs σ) (r_isPair σ) (r_key σ) (r_value σ) (c_keys c) (c_values c)
def rGC (σ : RSt) (c : CSt) : Prop := GC (r_things σ) (r_many σ) (r_place σ) (r_isFreed σ) (c_cmap c) ∧ GS (r_half σ) (r_top σ) (c_halfEnd c) (c_behind c) ∧ (r_manner σ = 3 → G3 (r_things σ) (r_way σ) (r_half σ) (r_top σ) (r_many σ) (r_place σ) (r_colour σ) (r_isFreed σ))
def RelO (oo : Int32) (σ : RSt) (c : CSt) : Prop := S0 σ ∧ GA oo σ c ∧ rGT σ c ∧ rGH σ c ∧ rGP σ c ∧ rGC σ c
abbrev Rel (σ : RSt) (c : CSt) : Prop := RelO 0 σ c
theorem rel_s0 {oo : Int32} {σ : RSt} {c : CSt} (h : RelO oo σ c) : S0 σ := h.1
theorem th_ix {n x : Int32} (h : TH n x) : ((ix x : Nat) : Int) = x.toInt := ix_nat h.1
theorem th_lt {n x : Int32} (h : TH n x) : ((ix x : Nat) : Int) < n.toInt := by rw [th_ix h]; exact h.2
theorem th_vp {σ : RSt} (hS : S0 σ) {x : Int32} (h : TH (r_things σ) x) : vp_in x 120 := vp_in_iff.mpr ⟨h.1, by have := s0_th hS; have := h.2; omega⟩
theorem th_ne {n x : Int32} (h : TH n x) : ¬ x = -1 := by
  rintro rfl
  have h1 := h.1
  have q : (-1 : Int32).toInt = -1 := rfl
  omega
theorem nI_ix {x : Int32} (h : 0 ≤ x.toInt) : nI (ix x) = x := by
  refine Int32.toInt_inj.mp ?_
  have h1 := Int32.toInt_lt x
  have h2 := ix_nat h
  rw [nI_toInt (by omega)]
  exact h2
-- ===== the component's small questions =====
section Q
variable {oo : Int32} {σ : RSt} {c : CSt}
theorem q_thing1 (h : RelO oo σ c) {x : Int32} (hx : TH (r_things σ) x) : fX4_isThing c x = 1 := by
  have e : c_tmade c = r_things σ := h.2.1.2.2.2.2.2.2.2.1
  have h1 := s0_th h.1
  have q : (120 : Int32).toInt = 120 := rfl
  have q0 : (0 : Int32).toInt = 0 := rfl
  unfold fX4_isThing
  rw [e, if_neg (fun z => by have := i32_lt z; have := hx.1; omega), if_neg (fun z => by have := i32_le z; have := hx.2; omega), if_neg (fun z => by have := i32_le z; have := hx.2; omega)]
theorem q_thing0 (h : RelO oo σ c) {x : Int32} (hx : ¬ TH (r_things σ) x) : fX4_isThing c x = 0 := by
  have e : c_tmade c = r_things σ := h.2.1.2.2.2.2.2.2.2.1
  have q0 : (0 : Int32).toInt = 0 := rfl
  unfold fX4_isThing
  rw [e]
  split
  · rfl
  · rename_i a1
    split
    · rfl
    · rename_i a2
      exact absurd ⟨by have := i32_nlt a1; omega, i32_nle a2⟩ hx
theorem q_th (h : RelO oo σ c) {x : Int32} (c1 : ¬ fX4_isThing c x = 0) : TH (r_things σ) x := Classical.byContradiction fun hx => c1 (q_thing0 h hx)
theorem one_ne : ¬ (1 : Int32) = 0 := by decide
theorem q_gt (h : RelO oo σ c) {x : Int32} (hx : TH (r_things σ) x) : T1 (r_things σ) (r_many σ) (r_place σ) (r_colour σ) (r_isFreed σ) (r_hasWish σ) (r_moved σ) (r_field σ) (c_sizes c) (c_places c) (c_colours c) (c_freed c) (c_wishing c) (c_moves c) (c_theld c) (ix x) := h.2.2.1 (ix x) (th_lt hx)
theorem q_size (h : RelO oo σ c) {x : Int32} (hx : TH (r_things σ) x) : fX4_sizeOf c x = r_many σ (ix x) + 1 := by
  unfold fX4_sizeOf
  rw [q_thing1 h hx, if_neg one_ne]
  exact (q_gt h hx).1.1
theorem q_fields (h : RelO oo σ c) {x : Int32} (hx : TH (r_things σ) x) : fX4_fieldsOf c x = r_many σ (ix x) := by
  unfold fX4_fieldsOf
  rw [q_thing1 h hx, if_neg one_ne, (q_gt h hx).1.1, Int32.add_sub_cancel]
theorem q_place (h : RelO oo σ c) {x : Int32} (hx : TH (r_things σ) x) : fX4_placeOf c x = r_place σ (ix x) := by
  unfold fX4_placeOf
  rw [q_thing1 h hx, if_neg one_ne]
  exact (q_gt h hx).1.2.1
theorem q_colour (h : RelO oo σ c) {x : Int32} (hx : TH (r_things σ) x) : fX4_colourOf c x = r_colour σ (ix x) := by
  unfold fX4_colourOf
  rw [q_thing1 h hx, if_neg one_ne]
  exact (q_gt h hx).1.2.2.1
theorem q_moves (h : RelO oo σ c) {x : Int32} (hx : TH (r_things σ) x) : fX4_movesOf c x = r_moved σ (ix x) := by
  unfold fX4_movesOf
  rw [q_thing1 h hx, if_neg one_ne]
  exact (q_gt h hx).1.2.2.2.1
theorem q_white (h : RelO oo σ c) {x : Int32} (hx : TH (r_things σ) x) : fX4_isWhite c x = if r_colour σ (ix x) = 0 then 1 else 0 := by
  unfold fX4_isWhite
  rw [q_thing1 h hx, if_neg one_ne, (q_gt h hx).1.2.2.1]
theorem q_white0 (h : RelO oo σ c) {x : Int32} (hx : ¬ TH (r_things σ) x) : fX4_isWhite c x = 0 := by
  unfold fX4_isWhite
  rw [q_thing0 h hx, if_pos rfl]
theorem q_freed (h : RelO oo σ c) {x : Int32} (hx : TH (r_things σ) x) : fX4_isFreed c x = r_isFreed σ (ix x) := by
  unfold fX4_isFreed
  have g := q_gt h hx
  rw [q_thing1 h hx, if_neg one_ne, g.1.2.2.2.2.1]
  rcases g.2.1 with e | e <;> rw [e] <;> rfl
theorem q_wish (h : RelO oo σ c) {x : Int32} (hx : TH (r_things σ) x) : fX4_hasWish c x = r_hasWish σ (ix x) := by
  unfold fX4_hasWish
  have g := q_gt h hx
  rw [q_thing1 h hx, if_neg one_ne, g.1.2.2.2.2.2]
  rcases g.2.2.1 with e | e <;> rw [e] <;> rfl
theorem vn_no {n : Int32} : ¬ TH n (-1) := fun h => th_ne h rfl
theorem q_rwhite {x : Int32} : fX6_isWhite σ x = if r_colour σ (ix x) = 0 then 1 else 0 := rfl
end Q
