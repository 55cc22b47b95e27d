/-! PURE, part 41: registers, slots, weak holders, pairs: what reads and writes them -/
def RegOK (o r : Int32) : Prop := (0 ≤ o.toInt ∧ o.toInt < 3) ∧ 0 ≤ r.toInt ∧ r.toInt < 4
abbrev rix (o r : Int32) : Nat := ix (4 * o + r)
theorem t0 : (0 : Int32).toInt = 0 := rfl
theorem t1 : (1 : Int32).toInt = 1 := rfl
theorem t2 : (2 : Int32).toInt = 2 := rfl
theorem t3 : (3 : Int32).toInt = 3 := rfl
theorem t4 : (4 : Int32).toInt = 4 := rfl
theorem t5 : (5 : Int32).toInt = 5 := rfl
theorem t6 : (6 : Int32).toInt = 6 := rfl
theorem t12 : (12 : Int32).toInt = 12 := rfl
theorem t16 : (16 : Int32).toInt = 16 := rfl
theorem t136 : (136 : Int32).toInt = 136 := rfl
theorem in6_1 {σ : RSt} {v a b : Int32} (h1 : a.toInt ≤ v.toInt) (h2 : v.toInt ≤ b.toInt) : fX6_in σ v a b = 1 := by
  unfold fX6_in
  rw [if_neg (fun z => by have := i32_lt z; omega), if_neg (fun z => by have := i32_lt z; omega)]
theorem in6_0 {σ : RSt} {v a b : Int32} (h : ¬ (a.toInt ≤ v.toInt ∧ v.toInt ≤ b.toInt)) : fX6_in σ v a b = 0 := by
  unfold fX6_in
  split
  · rfl
  · rename_i z1
    split
    · rfl
    · rename_i z2
      exact absurd ⟨i32_nlt z1, i32_nlt z2⟩ h
theorem reg5_1 {c : CSt} {o r : Int32} (h : RegOK o r) : fX5_isRegister c o r = 1 := by
  obtain ⟨⟨h1, h2⟩, h3, h4⟩ := h
  unfold fX5_isRegister
  rw [if_neg (fun z => by have := i32_lt z; have := t0; omega), if_neg (fun z => by have := i32_le z; have := t3; omega), if_neg (fun z => by have := i32_lt z; have := t0; omega), if_neg (fun z => by have := i32_le z; have := t4; omega)]
theorem reg5_0 {c : CSt} {o r : Int32} (h : ¬ RegOK o r) : fX5_isRegister c o r = 0 := by
  unfold fX5_isRegister
  split
  · rfl
  · rename_i z1
    split
    · rfl
    · rename_i z2
      split
      · rfl
      · rename_i z3
        split
        · rfl
        · rename_i z4
          exact absurd ⟨⟨i32_nlt z1, i32_nle z2⟩, i32_nlt z3, i32_nle z4⟩ h
theorem reg6_1 {σ : RSt} {o r : Int32} (h : RegOK o r) : fX6_isRegister σ o r = 1 := by
  obtain ⟨⟨h1, h2⟩, h3, h4⟩ := h
  unfold fX6_isRegister
  rw [in6_1 (by have := t0; omega) (by have := t2; omega), if_neg one_ne, in6_1 (by have := t0; omega) (by have := t3; omega), if_neg one_ne]
theorem reg6_0 {σ : RSt} {o r : Int32} (h : ¬ RegOK o r) : fX6_isRegister σ o r = 0 := by
  unfold fX6_isRegister
  split
  · rfl
  · rename_i z1
    split
    · rfl
    · rename_i z2
      have a1 := in_in z1
      have a2 := in_in z2
      exact absurd ⟨⟨a1.1, by have := a1.2; have := t2; omega⟩, a2.1, by have := a2.2; have := t3; omega⟩ h
theorem reg_lt {o r : Int32} (h : RegOK o r) : vp_in (4 * o + r) 12 := by
  obtain ⟨⟨h1, h2⟩, h3, h4⟩ := h
  rw [vp_in_iff, Int32.toInt_add, Int32.toInt_mul, t4, Int.bmod_eq_of_le (n := 4 * o.toInt) (by omega) (by omega), Int.bmod_eq_of_le (by omega) (by omega)]
  omega
section R
variable {oo : Int32} {σ : RSt} {c : CSt}
theorem w0 (h : RelO oo σ c) : 0 ≤ Int32.toInt (r_wishes σ) := h.1.2.2.2.2.2.2.2.2.2.1.1
theorem ew (h : RelO oo σ c) : c_wishes c = r_wishes σ := h.2.1.2.2.2.2.2.2.2.2.1
theorem en (h : RelO oo σ c) : c_tmade c = r_things σ := h.2.1.2.2.2.2.2.2.2.1
theorem eq_ (h : RelO oo σ c) : c_pmade c = r_pairs σ := h.2.1.2.2.2.2.2.2.2.2.2.1
theorem w16 (h : RelO oo σ c) : ((16 : Int32) + c_wishes c).toInt = 16 + Int32.toInt (r_wishes σ) := by
  have h1 := w0 h
  have h2 := s0_wishes h.1
  rw [ew h, Int32.toInt_add, t16]
  exact Int.bmod_eq_of_le (by omega) (by omega)
theorem held_lt (h : RelO oo σ c) {x : Int32} (h0 : 0 ≤ x.toInt) (h1 : x.toInt < 16 + Int32.toInt (r_wishes σ)) : fX1_heldAt c x = c_hheld c (ix x) := by
  have h2 := s0_wishes h.1
  have h3 := w16 h
  unfold fX1_heldAt
  rw [if_neg (fun z => by have := i32_lt z; have := t0; omega), if_neg (fun z => by have := i32_le z; omega), if_neg (fun z => by have := i32_le z; have := t136; omega)]
theorem inreg (h : RelO oo σ c) {o r : Int32} (hr : RegOK o r) : fX5_inRegister c o r = r_register σ (rix o r) := by
  have h1 := reg_lt hr
  have h2 := vp_in_iff.mp h1
  unfold fX5_inRegister fX5_registerAt
  rw [Int32.mul_comm o 4, held_lt h h2.1 (by have := w0 h; omega)]
  exact (h.2.2.2.1.1 _ (vp_ix h1)).1
theorem vreg (h : RelO oo σ c) {o r : Int32} (hr : RegOK o r) : VN (r_things σ) (r_register σ (rix o r)) := (h.2.2.2.1.1 _ (vp_ix (reg_lt hr))).2
theorem vn_vt (hS : S0 σ) {x : Int32} (h : VN (r_things σ) x) : VT x := h.elim Or.inl (fun z => Or.inr (th_vp hS z))
theorem s0_reg (h : S0 σ) (k : Nat) {x : Int32} (hx : VT x) : S0 (r_register_s σ (upd (r_register σ) k x)) := by
  obtain ⟨a1, a2, a3, a4, a5, a6, a7, a8, a9, a10, a11, a12⟩ := h
  refine ⟨a1, a2, a3, fun j => ?_, a5, a6, a7, a8, a9, a10, a11, a12⟩
  show VT (upd (r_register σ) k x j)
  unfold upd
  split
  · exact hx
  · exact a4 j
theorem s0_slt (h : S0 σ) (k : Nat) {x : Int32} (hx : VT x) : S0 (r_slot_s σ (upd (r_slot σ) k x)) := by
  obtain ⟨a1, a2, a3, a4, a5, a6, a7, a8, a9, a10, a11, a12⟩ := h
  refine ⟨a1, a2, a3, a4, fun j => ?_, a6, a7, a8, a9, a10, a11, a12⟩
  show VT (upd (r_slot σ) k x j)
  unfold upd
  split
  · exact hx
  · exact a5 j
theorem rel_reg (h : RelO oo σ c) {k : Nat} (hk : k < 12) {v : Int32} (hv : VN (r_things σ) v) : RelO oo (r_register_s σ (upd (r_register σ) k v)) (c_hheld_s c (upd (c_hheld c) k v)) := by
  obtain ⟨hS, hA, hT, hH, hP, hC⟩ := h
  refine ⟨s0_reg hS _ (vn_vt hS hv), hA, hT, ?_, hP, hC⟩
  obtain ⟨h1, h2, h3, h4⟩ := hH
  refine ⟨fun j hj => ?_, fun j hj => ?_, fun j hj => ?_, h4⟩
  · show upd (c_hheld c) k v j = upd (r_register σ) k v j ∧ VN (r_things σ) (upd (r_register σ) k v j)
    by_cases e : j = k
    · subst e
      rw [pk_us, pk_us]
      exact ⟨rfl, hv⟩
    · rw [pk_un e, pk_un e]
      exact h1 j hj
  · show upd (c_hheld c) k v (12 + j) = r_slot σ j ∧ VN (r_things σ) (r_slot σ j)
    rw [pk_un (by omega)]
    exact h2 j hj
  · show upd (c_hheld c) k v (16 + j) = r_wishAt σ j ∧ TH (r_things σ) (r_wishAt σ j)
    rw [pk_un (by omega)]
    exact h3 j hj
theorem rel_slt (h : RelO oo σ c) {k : Nat} (hk : k < 4) {v : Int32} (hv : VN (r_things σ) v) : RelO oo (r_slot_s σ (upd (r_slot σ) k v)) (c_hheld_s c (upd (c_hheld c) (12 + k) v)) := by
  obtain ⟨hS, hA, hT, hH, hP, hC⟩ := h
  refine ⟨s0_slt hS _ (vn_vt hS hv), hA, hT, ?_, hP, hC⟩
  obtain ⟨h1, h2, h3, h4⟩ := hH
  refine ⟨fun j hj => ?_, fun j hj => ?_, fun j hj => ?_, h4⟩
  · show upd (c_hheld c) (12 + k) v j = r_register σ j ∧ VN (r_things σ) (r_register σ j)
    rw [pk_un (by omega)]
    exact h1 j hj
  · show upd (c_hheld c) (12 + k) v (12 + j) = upd (r_slot σ) k v j ∧ VN (r_things σ) (upd (r_slot σ) k v j)
    by_cases e : j = k
    · subst e
      rw [pk_us, pk_us]
      exact ⟨rfl, hv⟩
    · rw [pk_un e, pk_un (by omega)]
      exact h2 j hj
  · show upd (c_hheld c) (12 + k) v (16 + j) = r_wishAt σ j ∧ TH (r_things σ) (r_wishAt σ j)
    rw [pk_un (by omega)]
    exact h3 j hj
theorem hold5 (c : CSt) {o r v : Int32} (hr : RegOK o r) : fX1_hold c (fX5_registerAt c o r) v = (v, c_hheld_s c (upd (c_hheld c) (rix o r) v)) := by
  have h2 := vp_in_iff.mp (reg_lt hr)
  unfold fX1_hold fX5_registerAt
  rw [Int32.mul_comm o 4, if_neg (fun z => by have := i32_lt z; have := t0; omega), if_neg (fun z => by have := i32_le z; have := t16; omega)]
theorem holds6 (σ : RSt) (o r v : Int32) : fX6_holds σ o r v = (v, r_register_s σ (upd (r_register σ) (rix o r) v)) := rfl
theorem held6 (σ : RSt) (o r : Int32) : fX6_held σ o r = r_register σ (rix o r) := rfl
/-- a register takes what it is given, on both sides -/
theorem sim_hold (h : RelO oo σ c) {o r v : Int32} (hr : RegOK o r) (hv : VN (r_things σ) v) : (fX1_hold c (fX5_registerAt c o r) v).1 = (fX6_holds σ o r v).1 ∧ RelO oo (fX6_holds σ o r v).2 (fX1_hold c (fX5_registerAt c o r) v).2 := by
  rw [hold5 c hr, holds6]
  exact ⟨rfl, rel_reg h (vp_ix (reg_lt hr)) hv⟩
theorem sim_move (hR : RelO oo σ c) (x1 x2 x3 : Int32) : (fX5_move c x1 x2 x3).1 = (fX6_move σ x1 x2 x3).1 ∧ RelO oo ((fX6_move σ x1 x2 x3).2) ((fX5_move c x1 x2 x3).2) := by
  unfold fX5_move fX6_move
  by_cases h1 : RegOK x1 x2
  · rw [reg5_1 h1, reg6_1 h1, if_neg one_ne, if_neg one_ne]
    by_cases h2 : RegOK x1 x3
    · rw [reg5_1 h2, reg6_1 h2, if_neg one_ne, if_neg one_ne, inreg hR h2, held6]
      exact sim_hold hR h1 (vreg hR h2)
    · rw [reg5_0 h2, reg6_0 h2, if_pos rfl, if_pos rfl]
      exact ⟨rfl, hR⟩
  · rw [reg5_0 h1, reg6_0 h1, if_pos rfl, if_pos rfl]
    exact ⟨rfl, hR⟩
theorem sim_drop (hR : RelO oo σ c) (x1 x2 : Int32) : (fX5_drop c x1 x2).1 = (fX6_drop σ x1 x2).1 ∧ RelO oo ((fX6_drop σ x1 x2).2) ((fX5_drop c x1 x2).2) := by
  unfold fX5_drop fX6_drop
  by_cases h1 : RegOK x1 x2
  · rw [reg5_1 h1, reg6_1 h1, if_neg one_ne, if_neg one_ne, inreg hR h1, held6]
    exact ⟨rfl, (sim_hold hR h1 (Or.inl rfl)).2⟩
  · rw [reg5_0 h1, reg6_0 h1, if_pos rfl, if_pos rfl]
    exact ⟨rfl, hR⟩
theorem sim_same (hR : RelO oo σ c) (x1 x2 x3 x4 : Int32) : fX5_same c x1 x2 x3 x4 = fX6_same σ x1 x2 x3 x4 ∧ RelO oo (σ) (c) := by
  refine ⟨?_, hR⟩
  unfold fX5_same fX6_same
  by_cases h1 : RegOK x1 x2
  · rw [reg5_1 h1, reg6_1 h1, if_neg one_ne, if_neg one_ne]
    by_cases h2 : RegOK x3 x4
    · rw [reg5_1 h2, reg6_1 h2, if_neg one_ne, if_neg one_ne, inreg hR h1, inreg hR h2, held6, held6]
    · rw [reg5_0 h2, reg6_0 h2, if_pos rfl, if_pos rfl]
  · rw [reg5_0 h1, reg6_0 h1, if_pos rfl, if_pos rfl]
-- slots
def SlOK (k : Int32) : Prop := 0 ≤ k.toInt ∧ k.toInt < 4
theorem sl5_1 {k : Int32} (h : SlOK k) : fX5_isSlot c k = 1 := by
  unfold fX5_isSlot
  rw [if_neg (fun z => by have := i32_lt z; have := t0; have := h.1; omega), if_neg (fun z => by have := i32_le z; have := t4; have := h.2; omega)]
theorem sl5_0 {k : Int32} (h : ¬ SlOK k) : fX5_isSlot c k = 0 := by
  unfold fX5_isSlot
  split
  · rfl
  · rename_i z1
    split
    · rfl
    · rename_i z2
      exact absurd ⟨i32_nlt z1, i32_nle z2⟩ h
theorem sl6_1 {k : Int32} (h : SlOK k) : fX6_in σ k 0 3 = 1 := in6_1 h.1 (by have := h.2; have := t3; omega)
theorem sl6_0 {k : Int32} (h : ¬ SlOK k) : fX6_in σ k 0 3 = 0 := in6_0 (fun z => h ⟨z.1, by have := z.2; have := t3; omega⟩)
theorem sl_ix {k : Int32} (h : SlOK k) : 0 ≤ ((12 : Int32) + k).toInt ∧ ((12 : Int32) + k).toInt < 16 ∧ ix (12 + k) = 12 + ix k ∧ ix k < 4 := by
  obtain ⟨h1, h2⟩ := h
  have e : ((12 : Int32) + k).toInt = 12 + k.toInt := by
    rw [Int32.toInt_add, t12]
    exact Int.bmod_eq_of_le (by omega) (by omega)
  have e1 := ix_nat h1
  have e2 := ix_nat (x := 12 + k) (by omega)
  exact ⟨by omega, by omega, by omega, by omega⟩
theorem inslot (h : RelO oo σ c) {k : Int32} (hk : SlOK k) : fX1_heldAt c (12 + k) = r_slot σ (ix k) := by
  have h1 := sl_ix hk
  rw [held_lt h h1.1 (by have := w0 h; omega), h1.2.2.1]
  exact (h.2.2.2.1.2.1 _ h1.2.2.2).1
theorem vslot (h : RelO oo σ c) {k : Int32} (hk : SlOK k) : VN (r_things σ) (r_slot σ (ix k)) := (h.2.2.2.1.2.1 _ (sl_ix hk).2.2.2).2
theorem sim_load (hR : RelO oo σ c) (x1 x2 x3 : Int32) : (fX5_load c x1 x2 x3).1 = (fX6_load σ x1 x2 x3).1 ∧ RelO oo ((fX6_load σ x1 x2 x3).2) ((fX5_load c x1 x2 x3).2) := by
  unfold fX5_load fX6_load
  by_cases h1 : RegOK x1 x2
  · rw [reg5_1 h1, if_neg one_ne]
    by_cases h2 : SlOK x3
    · rw [sl5_1 h2, sl6_1 h2, reg6_1 h1, if_neg one_ne, if_neg one_ne, if_neg one_ne, inslot hR h2]
      exact sim_hold hR h1 (vslot hR h2)
    · rw [sl5_0 h2, sl6_0 h2, if_pos rfl, if_pos rfl]
      exact ⟨rfl, hR⟩
  · rw [reg5_0 h1, if_pos rfl]
    by_cases h2 : SlOK x3
    · rw [sl6_1 h2, reg6_0 h1, if_neg one_ne, if_pos rfl]
      exact ⟨rfl, hR⟩
    · rw [sl6_0 h2, if_pos rfl]
      exact ⟨rfl, hR⟩
theorem sim_store (hR : RelO oo σ c) (x1 x2 x3 : Int32) : (fX5_store c x1 x2 x3).1 = (fX6_store σ x1 x2 x3).1 ∧ RelO oo ((fX6_store σ x1 x2 x3).2) ((fX5_store c x1 x2 x3).2) := by
  unfold fX5_store fX6_store
  by_cases h2 : SlOK x1
  · rw [sl5_1 h2, sl6_1 h2, if_neg one_ne, if_neg one_ne]
    by_cases h1 : RegOK x2 x3
    · rw [reg5_1 h1, reg6_1 h1, if_neg one_ne, if_neg one_ne, inslot hR h2, inreg hR h1, held6]
      refine ⟨rfl, ?_⟩
      have h3 := sl_ix h2
      have e : fX1_hold c (12 + x1) (r_register σ (rix x2 x3)) = (r_register σ (rix x2 x3), c_hheld_s c (upd (c_hheld c) (12 + ix x1) (r_register σ (rix x2 x3)))) := by
        unfold fX1_hold
        rw [if_neg (fun z => by have := i32_lt z; have := t0; omega), if_neg (fun z => by have := i32_le z; have := t16; omega), h3.2.2.1]
      rw [e]
      exact rel_slt hR h3.2.2.2 (vreg hR h1)
    · rw [reg5_0 h1, reg6_0 h1, if_pos rfl, if_pos rfl]
      exact ⟨rfl, hR⟩
  · rw [sl5_0 h2, sl6_0 h2, if_pos rfl, if_pos rfl]
    exact ⟨rfl, hR⟩
-- weak holders
def WkOK (k : Int32) : Prop := 0 ≤ k.toInt ∧ k.toInt < 6
theorem wk5_1 {k : Int32} (h : WkOK k) : fX5_isWeakHolder c k = 1 := by
  unfold fX5_isWeakHolder
  rw [if_neg (fun z => by have := i32_lt z; have := t0; have := h.1; omega), if_neg (fun z => by have := i32_le z; have := t6; have := h.2; omega)]
theorem wk5_0 {k : Int32} (h : ¬ WkOK k) : fX5_isWeakHolder c k = 0 := by
  unfold fX5_isWeakHolder
  split
  · rfl
  · rename_i z1
    split
    · rfl
    · rename_i z2
      exact absurd ⟨i32_nlt z1, i32_nle z2⟩ h
theorem wk6_1 {k : Int32} (h : WkOK k) : fX6_in σ k 0 5 = 1 := in6_1 h.1 (by have := h.2; have := t5; omega)
theorem wk6_0 {k : Int32} (h : ¬ WkOK k) : fX6_in σ k 0 5 = 0 := in6_0 (fun z => h ⟨z.1, by have := z.2; have := t5; omega⟩)
theorem wk_ix {k : Int32} (h : WkOK k) : ix k < 6 := by
  have := ix_nat h.1
  have := h.2
  omega
theorem named5 (h : RelO oo σ c) {k : Int32} (hk : WkOK k) : fX1_namedBy c k = r_weakAt σ (ix k) := by
  unfold fX1_namedBy
  rw [wk5_1 hk, if_neg one_ne]
  exact (h.2.2.2.1.2.2.2 _ (wk_ix hk)).1
theorem vweak (h : RelO oo σ c) {k : Int32} (hk : WkOK k) : VN (r_things σ) (r_weakAt σ (ix k)) := (h.2.2.2.1.2.2.2 _ (wk_ix hk)).2
theorem rel_wk (h : RelO oo σ c) {k : Nat} {v : Int32} (hv : VN (r_things σ) v) : RelO oo (r_weakAt_s σ (upd (r_weakAt σ) k v)) (c_named_s c (upd (c_named c) k v)) := by
  obtain ⟨hS, hA, hT, hH, hP, hC⟩ := h
  refine ⟨s0_wk hS _ (vn_vt hS hv), hA, hT, ?_, hP, hC⟩
  obtain ⟨h1, h2, h3, h4⟩ := hH
  refine ⟨h1, h2, h3, fun j hj => ?_⟩
  show upd (c_named c) k v j = upd (r_weakAt σ) k v j ∧ VN (r_things σ) (upd (r_weakAt σ) k v j)
  by_cases e : j = k
  · subst e
    rw [pk_us, pk_us]
    exact ⟨rfl, hv⟩
  · rw [pk_un e, pk_un e]
    exact h4 j hj
theorem sim_weak (hR : RelO oo σ c) (x1 x2 x3 : Int32) : (fX5_weak c x1 x2 x3).1 = (fX6_weak σ x1 x2 x3).1 ∧ RelO oo ((fX6_weak σ x1 x2 x3).2) ((fX5_weak c x1 x2 x3).2) := by
  unfold fX5_weak fX6_weak
  by_cases h2 : WkOK x1
  · rw [wk5_1 h2, wk6_1 h2, if_neg one_ne, if_neg one_ne]
    by_cases h1 : RegOK x2 x3
    · rw [reg5_1 h1, reg6_1 h1, if_neg one_ne, if_neg one_ne, inreg hR h1, held6]
      split
      · exact ⟨rfl, hR⟩
      · refine ⟨rfl, ?_⟩
        have e : fX1_name c x1 (r_register σ (rix x2 x3)) = c_named_s c (upd (c_named c) (ix x1) (r_register σ (rix x2 x3))) := by
          unfold fX1_name
          rw [wk5_1 h2, if_neg one_ne]
        rw [e]
        exact rel_wk hR (vreg hR h1)
    · rw [reg5_0 h1, reg6_0 h1, if_pos rfl, if_pos rfl]
      exact ⟨rfl, hR⟩
  · rw [wk5_0 h2, wk6_0 h2, if_pos rfl, if_pos rfl]
    exact ⟨rfl, hR⟩
theorem sim_under (hR : RelO oo σ c) : fX5_under c = fX6_under σ ∧ RelO oo (σ) (c) := ⟨hR.2.1.2.2.1, hR⟩
end R
