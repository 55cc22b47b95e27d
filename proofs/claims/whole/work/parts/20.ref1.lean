theorem rq_freedMany_isFreed (σ : RSt) (v : (Nat → Int32)) : r_freedMany (r_isFreed_s σ v) = r_freedMany σ := rfl
theorem rq_freedMany_place (σ : RSt) (v : (Nat → Int32)) : r_freedMany (r_place_s σ v) = r_freedMany σ := rfl
theorem rq_many_place (σ : RSt) (v : (Nat → Int32)) : r_many (r_place_s σ v) = r_many σ := rfl
theorem rq_moved_place (σ : RSt) (v : (Nat → Int32)) : r_moved (r_place_s σ v) = r_moved σ := rfl
theorem rq_moved_top (σ : RSt) (v : Int32) : r_moved (r_top_s σ v) = r_moved σ := rfl
theorem rq_movedMany_moved (σ : RSt) (v : (Nat → Int32)) : r_movedMany (r_moved_s σ v) = r_movedMany σ := rfl
theorem rq_movedMany_place (σ : RSt) (v : (Nat → Int32)) : r_movedMany (r_place_s σ v) = r_movedMany σ := rfl
theorem rq_movedMany_top (σ : RSt) (v : Int32) : r_movedMany (r_top_s σ v) = r_movedMany σ := rfl
theorem rq_place_isFreed (σ : RSt) (v : (Nat → Int32)) : r_place (r_isFreed_s σ v) = r_place σ := rfl
theorem rq_shaded_colour (σ : RSt) (v : (Nat → Int32)) : r_shaded (r_colour_s σ v) = r_shaded σ := rfl
theorem rq_top_place (σ : RSt) (v : (Nat → Int32)) : r_top (r_place_s σ v) = r_top σ := rfl
theorem rq_wishAt_hasWish (σ : RSt) (v : (Nat → Int32)) : r_wishAt (r_hasWish_s σ v) = r_wishAt σ := rfl
theorem rq_wishes_hasWish (σ : RSt) (v : (Nat → Int32)) : r_wishes (r_hasWish_s σ v) = r_wishes σ := rfl
theorem rq_wishes_wishAt (σ : RSt) (v : (Nat → Int32)) : r_wishes (r_wishAt_s σ v) = r_wishes σ := rfl
def VT (x : Int32) : Prop := x = -1 ∨ vp_in x 120
def cntB (g : Nat → Int32) : Nat → Nat
  | 0 => 0
  | n + 1 => cntB g n + (if g n = 0 then 0 else 1)
/-- what keeps the reference's indices in their rows -/
def S0 (σ : RSt) : Prop := (0 ≤ Int32.toInt (r_things σ) ∧ Int32.toInt (r_things σ) ≤ 120) ∧ (∀ k, 0 ≤ Int32.toInt (r_many σ k) ∧ Int32.toInt (r_many σ k) ≤ 6) ∧ (∀ k, VT (r_field σ k)) ∧ (∀ k, VT (r_register σ k)) ∧ (∀ k, VT (r_slot σ k)) ∧ (∀ k, VT (r_wishAt σ k)) ∧ (∀ k, VT (r_weakAt σ k)) ∧ (∀ k, vp_in (r_key σ k) 120) ∧ (∀ k, VT (r_value σ k)) ∧ (0 ≤ Int32.toInt (r_wishes σ) ∧ Int32.toInt (r_wishes σ) + cntB (r_hasWish σ) (Int32.toInt (r_things σ)).toNat ≤ Int32.toInt (r_things σ)) ∧ (0 ≤ Int32.toInt (r_pairs σ) ∧ Int32.toInt (r_pairs σ) ≤ 8) ∧ 0 ≤ Int32.toInt (r_next σ) ∧ (r_way σ = 0 ∨ r_way σ = 1 ∨ Int32.toInt (r_next σ) ≤ Int32.toInt (r_things σ))
def SA (σ τ : RSt) : Prop := r_things τ = r_things σ ∧ r_many τ = r_many σ ∧ r_field τ = r_field σ ∧ r_register τ = r_register σ ∧ r_slot τ = r_slot σ ∧ r_wishAt τ = r_wishAt σ ∧ r_weakAt τ = r_weakAt σ ∧ r_key τ = r_key σ ∧ r_value τ = r_value σ ∧ r_wishes τ = r_wishes σ ∧ r_hasWish τ = r_hasWish σ ∧ r_pairs τ = r_pairs σ ∧ r_next τ = r_next σ ∧ r_way τ = r_way σ
theorem s0_sa {σ τ : RSt} (e : SA σ τ) (h : S0 σ) : S0 τ := by
  obtain ⟨e1, e2, e3, e4, e5, e6, e7, e8, e9, e10, e11, e12, e13, e14⟩ := e
  unfold S0
  rw [e1, e2, e3, e4, e5, e6, e7, e8, e9, e10, e11, e12, e13, e14]
  exact h
theorem sa_rf (σ : RSt) : SA σ σ := ⟨rfl, rfl, rfl, rfl, rfl, rfl, rfl, rfl, rfl, rfl, rfl, rfl, rfl, rfl⟩
theorem sa_tr {σ τ υ : RSt} (h : SA σ τ) (g : SA τ υ) : SA σ υ := by
  obtain ⟨e1, e2, e3, e4, e5, e6, e7, e8, e9, e10, e11, e12, e13, e14⟩ := h
  obtain ⟨f1, f2, f3, f4, f5, f6, f7, f8, f9, f10, f11, f12, f13, f14⟩ := g
  exact ⟨f1.trans e1, f2.trans e2, f3.trans e3, f4.trans e4, f5.trans e5, f6.trans e6, f7.trans e7, f8.trans e8, f9.trans e9, f10.trans e10, f11.trans e11, f12.trans e12, f13.trans e13, f14.trans e14⟩
theorem sa_colour (σ : RSt) (v : Nat → Int32) : SA σ (r_colour_s σ v) := ⟨rfl, rfl, rfl, rfl, rfl, rfl, rfl, rfl, rfl, rfl, rfl, rfl, rfl, rfl⟩
theorem sa_shaded (σ : RSt) (v : Int32) : SA σ (r_shaded_s σ v) := ⟨rfl, rfl, rfl, rfl, rfl, rfl, rfl, rfl, rfl, rfl, rfl, rfl, rfl, rfl⟩
theorem sa_place (σ : RSt) (v : Nat → Int32) : SA σ (r_place_s σ v) := ⟨rfl, rfl, rfl, rfl, rfl, rfl, rfl, rfl, rfl, rfl, rfl, rfl, rfl, rfl⟩
theorem sa_top (σ : RSt) (v : Int32) : SA σ (r_top_s σ v) := ⟨rfl, rfl, rfl, rfl, rfl, rfl, rfl, rfl, rfl, rfl, rfl, rfl, rfl, rfl⟩
theorem sa_moved (σ : RSt) (v : Nat → Int32) : SA σ (r_moved_s σ v) := ⟨rfl, rfl, rfl, rfl, rfl, rfl, rfl, rfl, rfl, rfl, rfl, rfl, rfl, rfl⟩
theorem sa_movedMany (σ : RSt) (v : Int32) : SA σ (r_movedMany_s σ v) := ⟨rfl, rfl, rfl, rfl, rfl, rfl, rfl, rfl, rfl, rfl, rfl, rfl, rfl, rfl⟩
theorem sa_isFreed (σ : RSt) (v : Nat → Int32) : SA σ (r_isFreed_s σ v) := ⟨rfl, rfl, rfl, rfl, rfl, rfl, rfl, rfl, rfl, rfl, rfl, rfl, rfl, rfl⟩
theorem sa_freedMany (σ : RSt) (v : Int32) : SA σ (r_freedMany_s σ v) := ⟨rfl, rfl, rfl, rfl, rfl, rfl, rfl, rfl, rfl, rfl, rfl, rfl, rfl, rfl⟩
theorem sa_isReached (σ : RSt) (v : Nat → Int32) : SA σ (r_isReached_s σ v) := ⟨rfl, rfl, rfl, rfl, rfl, rfl, rfl, rfl, rfl, rfl, rfl, rfl, rfl, rfl⟩
theorem sa_more (σ : RSt) (v : Int32) : SA σ (r_more_s σ v) := ⟨rfl, rfl, rfl, rfl, rfl, rfl, rfl, rfl, rfl, rfl, rfl, rfl, rfl, rfl⟩
theorem sa_rounds (σ : RSt) (v : Int32) : SA σ (r_rounds_s σ v) := ⟨rfl, rfl, rfl, rfl, rfl, rfl, rfl, rfl, rfl, rfl, rfl, rfl, rfl, rfl⟩
theorem sa_steps (σ : RSt) (v : Int32) : SA σ (r_steps_s σ v) := ⟨rfl, rfl, rfl, rfl, rfl, rfl, rfl, rfl, rfl, rfl, rfl, rfl, rfl, rfl⟩
theorem sa_isPair (σ : RSt) (v : Nat → Int32) : SA σ (r_isPair_s σ v) := ⟨rfl, rfl, rfl, rfl, rfl, rfl, rfl, rfl, rfl, rfl, rfl, rfl, rfl, rfl⟩
theorem sa_half (σ : RSt) (v : Int32) : SA σ (r_half_s σ v) := ⟨rfl, rfl, rfl, rfl, rfl, rfl, rfl, rfl, rfl, rfl, rfl, rfl, rfl, rfl⟩
theorem sa_manner (σ : RSt) (v : Int32) : SA σ (r_manner_s σ v) := ⟨rfl, rfl, rfl, rfl, rfl, rfl, rfl, rfl, rfl, rfl, rfl, rfl, rfl, rfl⟩
theorem sa_fault (σ : RSt) (v : Int32) : SA σ (r_fault_s σ v) := ⟨rfl, rfl, rfl, rfl, rfl, rfl, rfl, rfl, rfl, rfl, rfl, rfl, rfl, rfl⟩
theorem s0_th {σ : RSt} (h : S0 σ) : Int32.toInt (r_things σ) ≤ (120 : Nat) := h.1.2
theorem s0_many {σ : RSt} (h : S0 σ) (k : Nat) : Int32.toInt (r_many σ k) ≤ (6 : Nat) := (h.2.1 k).2
theorem s0_field {σ : RSt} (h : S0 σ) (k : Nat) : VT (r_field σ k) := h.2.2.1 k
theorem s0_register {σ : RSt} (h : S0 σ) (k : Nat) : VT (r_register σ k) := h.2.2.2.1 k
theorem s0_slot {σ : RSt} (h : S0 σ) (k : Nat) : VT (r_slot σ k) := h.2.2.2.2.1 k
theorem s0_wishAt {σ : RSt} (h : S0 σ) (k : Nat) : VT (r_wishAt σ k) := h.2.2.2.2.2.1 k
theorem s0_weakAt {σ : RSt} (h : S0 σ) (k : Nat) : VT (r_weakAt σ k) := h.2.2.2.2.2.2.1 k
theorem s0_key {σ : RSt} (h : S0 σ) (k : Nat) : vp_in (r_key σ k) 120 := h.2.2.2.2.2.2.2.1 k
theorem s0_value {σ : RSt} (h : S0 σ) (k : Nat) : VT (r_value σ k) := h.2.2.2.2.2.2.2.2.1 k
theorem s0_wishes {σ : RSt} (h : S0 σ) : Int32.toInt (r_wishes σ) ≤ (120 : Nat) := by have := h.2.2.2.2.2.2.2.2.2.1; have := h.1; omega
theorem s0_pairs {σ : RSt} (h : S0 σ) : Int32.toInt (r_pairs σ) ≤ (8 : Nat) := h.2.2.2.2.2.2.2.2.2.2.1.2
theorem s0_next {σ : RSt} (h : S0 σ) : 0 ≤ Int32.toInt (r_next σ) := h.2.2.2.2.2.2.2.2.2.2.2.1
theorem s0_way {σ : RSt} (h : S0 σ) : r_way σ = 0 ∨ r_way σ = 1 ∨ Int32.toInt (r_next σ) ≤ Int32.toInt (r_things σ) := h.2.2.2.2.2.2.2.2.2.2.2.2
theorem vt_in {x : Int32} (h : VT x) (c : ¬ x = -1) : vp_in x 120 := h.resolve_left c

def fX6_in (σ : RSt) (x0 : Int32) (x1 : Int32) (x2 : Int32) : Int32 := (if x0 < x1 then (0 : Int32) else (if x2 < x0 then (0 : Int32) else (1 : Int32)))
theorem hdX6_in : yX6_in.cls = RX6 ∧ yX6_in.cls ≠ "java/lang/invoke/MethodHandle" ∧ yX6_in.cls ≠ "java/lang/invoke/VarHandle" ∧ (parseMethodDescriptor yX6_in.desc).map (fun d => d.parameters.length) = some 3 := by decide +kernel
theorem bX6_in (σ : RSt) (x0 : Int32) (x1 : Int32) (x2 : Int32) : (fX6_in σ x0 x1 x2) = 0 ∨ (fX6_in σ x0 x1 x2) = 1 := by
  unfold fX6_in
  (repeat' split) <;> first | exact Or.inl rfl | exact Or.inr rfl
set_option maxHeartbeats 250000 in
set_option maxRecDepth 100000 in
theorem kX6_in (l : Launch) (D : va_G) (a : Nat → Nat) (cI cZ : ClassId) (σ : RSt) (x0 : Int32) (x1 : Int32) (x2 : Int32) : CR l D (tyIZ cI cZ) (wR a cI cZ) yX6_in cX6_in 3 .boolean (rmk 0 0) [.int x0, .int x1, .int x2] σ (fX6_in σ x0 x1 x2) σ := by
  refine CR.of pnX6 ⟨rfl, rfl⟩ (Nat.le_of_ble_eq_true rfl) (nar_b (bX6_in σ x0 x1 x2)) (fun p e s m args below meth c A Q ls C X hA hl ret => ?_)
  have C : Cx p s m args meth c cX6_in 3 RX6 D (tyIZ cI cZ) := C
  have hx := C.1
  have hb := C.2.1
  have hl : lv_has ls 3 [(0, .int x0), (1, .int x1), (2, .int x2)] := hl
  refine lv_iload_n hx hb dX6_in_0 rfl (lv_at hl 0 rfl) ?_
  refine lv_iload_n hx hb dX6_in_1 rfl (lv_at hl 1 rfl) ?_
  refine lv_icmp_lt (tgt := 14) hx hb dX6_in_2 (by decide) (fun c2 => ?_) (fun c2 => ?_)
  · refine lv_iconst (v := (0)) hx hb dX6_in_14 (by decide) ?_
    exact ret dX6_in_15 (congrArg (fun z => (z, _)) (Eq.symm (if_pos c2))) X
  · refine lv_iload_n hx hb dX6_in_5 rfl (lv_at hl 0 rfl) ?_
    refine lv_iload_n hx hb dX6_in_6 rfl (lv_at hl 2 rfl) ?_
    refine lv_icmp_gt (tgt := 14) hx hb dX6_in_7 (by decide) (fun c7 => ?_) (fun c7 => ?_)
    · refine lv_iconst (v := (0)) hx hb dX6_in_14 (by decide) ?_
      exact ret dX6_in_15 (congrArg (fun z => (z, _)) (Eq.symm (Eq.trans (if_neg c2) (if_pos c7)))) X
    · refine lv_iconst (v := (1)) hx hb dX6_in_10 (by decide) ?_
      refine lv_goto (tgt := 15) hx hb dX6_in_11 (by decide) ?_
      exact ret dX6_in_15 (congrArg (fun z => (z, _)) (Eq.symm (Eq.trans (if_neg c2) (if_neg c7)))) X
theorem in_in {σ : RSt} {v a b : Int32} (h : ¬ fX6_in σ v a b = 0) : a.toInt ≤ v.toInt ∧ v.toInt ≤ b.toInt := by
  unfold fX6_in at h
  split at h
  · exact absurd rfl h
  · split at h
    · exact absurd rfl h
    · rename_i h1 h2
      exact ⟨i32_nlt h1, i32_nlt h2⟩
theorem in_inN {σ : RSt} {v : Int32} {b : Int32} {n : Nat} (h : ¬ fX6_in σ v 0 b = 0) (hb : b.toInt < n) : vp_in v n := by
  have := in_in h
  have q : (0 : Int32).toInt = 0 := rfl
  exact vp_in_iff.mpr (by omega)

def fX6_isRegister (σ : RSt) (x0 : Int32) (x1 : Int32) : Int32 := (if (fX6_in σ x0 (0 : Int32) (2 : Int32)) = (0 : Int32) then (0 : Int32) else (if (fX6_in σ x1 (0 : Int32) (3 : Int32)) = (0 : Int32) then (0 : Int32) else (1 : Int32)))
theorem hdX6_isRegister : yX6_isRegister.cls = RX6 ∧ yX6_isRegister.cls ≠ "java/lang/invoke/MethodHandle" ∧ yX6_isRegister.cls ≠ "java/lang/invoke/VarHandle" ∧ (parseMethodDescriptor yX6_isRegister.desc).map (fun d => d.parameters.length) = some 2 := by decide +kernel
theorem bX6_isRegister (σ : RSt) (x0 : Int32) (x1 : Int32) : (fX6_isRegister σ x0 x1) = 0 ∨ (fX6_isRegister σ x0 x1) = 1 := by
  unfold fX6_isRegister
  (repeat' split) <;> first | exact Or.inl rfl | exact Or.inr rfl
set_option maxHeartbeats 250000 in
set_option maxRecDepth 100000 in
theorem kX6_isRegister (l : Launch) (D : va_G) (a : Nat → Nat) (cI cZ : ClassId) (σ : RSt) (x0 : Int32) (x1 : Int32) : CR l D (tyIZ cI cZ) (wR a cI cZ) yX6_isRegister cX6_isRegister 2 .boolean (rmk 1 22) [.int x0, .int x1] σ (fX6_isRegister σ x0 x1) σ := by
  refine CR.of pnX6 ⟨rfl, rfl⟩ (Nat.le_of_ble_eq_true rfl) (nar_b (bX6_isRegister σ x0 x1)) (fun p e s m args below meth c A Q ls C X hA hl ret => ?_)
  have C : Cx p s m args meth c cX6_isRegister 2 RX6 D (tyIZ cI cZ) := C
  have hx := C.1
  have hb := C.2.1
  have hl : lv_has ls 2 [(0, .int x0), (1, .int x1)] := hl
  refine lv_iload_n hx hb dX6_isRegister_0 rfl (lv_at hl 0 rfl) ?_
  refine lv_iconst (v := (0)) hx hb dX6_isRegister_1 (by decide) ?_
  refine lv_iconst (v := (2)) hx hb dX6_isRegister_2 (by decide) ?_
  refine callSR (rest := []) C hA (wR_sh a cI cZ) X (kX6_in l D a cI cZ _ x0 (0 : Int32) (2 : Int32)) (cwS 3 C.2.2.2.2.1 (gS wl_X6_90 wz_yX6_in wi_X6 wk_yX6_in) rfl rfl rfl hdX6_in ⟨Nat.le_of_ble_eq_true rfl, Nat.le_of_ble_eq_true rfl⟩) rfl hl.1 rfl (Nat.le_of_ble_eq_true rfl) dX6_isRegister_3 ⟨Nat.le_refl 0, Nat.le_refl 0⟩ (fun H locs X => ?_)
  refine lv_if_eq (tgt := 22) hx hb dX6_isRegister_6 (by decide) (fun c6 => ?_) (fun c6 => ?_)
  · refine lv_iconst (v := (0)) hx hb dX6_isRegister_22 (by decide) ?_
    exact ret dX6_isRegister_23 (congrArg (fun z => (z, _)) (Eq.symm (if_pos c6))) X
  · refine lv_iload_n hx hb dX6_isRegister_9 rfl (lv_at hl 1 rfl) ?_
    refine lv_iconst (v := (0)) hx hb dX6_isRegister_10 (by decide) ?_
    refine lv_iconst (v := (3)) hx hb dX6_isRegister_11 (by decide) ?_
    refine callSR (rest := []) C hA (wR_sh a cI cZ) X (kX6_in l D a cI cZ _ x1 (0 : Int32) (3 : Int32)) (cwS 3 C.2.2.2.2.1 (gS wl_X6_90 wz_yX6_in wi_X6 wk_yX6_in) rfl rfl rfl hdX6_in ⟨Nat.le_of_ble_eq_true rfl, Nat.le_of_ble_eq_true rfl⟩) rfl hl.1 rfl (Nat.le_of_ble_eq_true rfl) dX6_isRegister_12 ⟨Nat.le_refl 0, Nat.le_refl 0⟩ (fun H locs X => ?_)
    refine lv_if_eq (tgt := 22) hx hb dX6_isRegister_15 (by decide) (fun c15 => ?_) (fun c15 => ?_)
    · refine lv_iconst (v := (0)) hx hb dX6_isRegister_22 (by decide) ?_
      exact ret dX6_isRegister_23 (congrArg (fun z => (z, _)) (Eq.symm (Eq.trans (if_neg c6) (if_pos c15)))) X
    · refine lv_iconst (v := (1)) hx hb dX6_isRegister_18 (by decide) ?_
      refine lv_goto (tgt := 23) hx hb dX6_isRegister_19 (by decide) ?_
      exact ret dX6_isRegister_23 (congrArg (fun z => (z, _)) (Eq.symm (Eq.trans (if_neg c6) (if_neg c15)))) X
theorem in_reg {σ : RSt} {o r : Int32} (h : ¬ fX6_isRegister σ o r = 0) : vp_in (4 * o + r) 12 := by
  unfold fX6_isRegister at h
  split at h
  · exact absurd rfl h
  · split at h
    · exact absurd rfl h
    · rename_i h1 h2
      have a1 := in_in h1
      have a2 := in_in h2
      have q0 : (0 : Int32).toInt = 0 := rfl
      have q2 : (2 : Int32).toInt = 2 := rfl
      have q3 : (3 : Int32).toInt = 3 := rfl
      have q4 : (4 : Int32).toInt = 4 := rfl
      rw [vp_in_iff, Int32.toInt_add, Int32.toInt_mul, q4, Int.bmod_eq_of_le (n := 4 * o.toInt) (by omega) (by omega), Int.bmod_eq_of_le (by omega) (by omega)]
      omega

def fX6_held (σ : RSt) (x1 : Int32) (x2 : Int32) : Int32 := ((r_register σ) (ix (((4 : Int32) * x1) + x2)))
theorem hdX6_held : yX6_held.cls = RX6 ∧ yX6_held.cls ≠ "java/lang/invoke/MethodHandle" ∧ yX6_held.cls ≠ "java/lang/invoke/VarHandle" ∧ (parseMethodDescriptor yX6_held.desc).map (fun d => d.parameters.length) = some 2 := by decide +kernel
set_option maxHeartbeats 250000 in
set_option maxRecDepth 100000 in
theorem kX6_held (l : Launch) (D : va_G) (a : Nat → Nat) (cI cZ : ClassId) (σ : RSt) (x1 : Int32) (x2 : Int32) (hr : vp_in (4 * x1 + x2) 12) : CR l D (tyIZ cI cZ) (wR a cI cZ) yX6_held cX6_held 3 .int (rmk 0 0) [.ref (a 0), .int x1, .int x2] σ (fX6_held σ x1 x2) σ := by
  refine CR.of pnX6 ⟨rfl, rfl⟩ (Nat.le_of_ble_eq_true rfl) rfl (fun p e s m args below meth c A Q ls C X hA hl ret => ?_)
  have C : Cx p s m args meth c cX6_held 3 RX6 D (tyIZ cI cZ) := C
  have hx := C.1
  have hb := C.2.1
  have hl : lv_has ls 3 [(0, .ref (a 0)), (1, .int x1), (2, .int x2)] := hl
  refine lv_aload_n hx hb dX6_held_0 rfl (lv_at hl 0 rfl) ?_
  refine rg_X6_X6_register C X dX6_held_1 ?_
  refine lv_iconst (v := (4)) hx hb dX6_held_4 (by decide) ?_
  refine lv_iload_n hx hb dX6_held_5 rfl (lv_at hl 1 rfl) ?_
  refine lv_imul hx hb dX6_held_6 ?_
  refine lv_iload_n hx hb dX6_held_7 rfl (lv_at hl 2 rfl) ?_
  refine lv_iadd hx hb dX6_held_8 ?_
  refine ra_register (v := ((r_register σ) (ix (((4 : Int32) * x1) + x2)))) C X hr rfl dX6_held_9 ?_
  exact ret dX6_held_10 (congrArg (fun z => (z, _)) rfl) X
def fX6_holds (σ : RSt) (x1 : Int32) (x2 : Int32) (x3 : Int32) : Int32 × RSt := (x3, (r_register_s σ (upd (r_register σ) (ix (((4 : Int32) * x1) + x2)) x3)))
theorem hdX6_holds : yX6_holds.cls = RX6 ∧ yX6_holds.cls ≠ "java/lang/invoke/MethodHandle" ∧ yX6_holds.cls ≠ "java/lang/invoke/VarHandle" ∧ (parseMethodDescriptor yX6_holds.desc).map (fun d => d.parameters.length) = some 3 := by decide +kernel
set_option maxHeartbeats 250000 in
set_option maxRecDepth 100000 in
theorem kX6_holds (l : Launch) (D : va_G) (a : Nat → Nat) (cI cZ : ClassId) (σ : RSt) (x1 : Int32) (x2 : Int32) (x3 : Int32) (hr : vp_in (4 * x1 + x2) 12) : CR l D (tyIZ cI cZ) (wR a cI cZ) yX6_holds cX6_holds 4 .int (rmk 0 0) [.ref (a 0), .int x1, .int x2, .int x3] σ (fX6_holds σ x1 x2 x3).1 (fX6_holds σ x1 x2 x3).2 := by
  refine CR.of pnX6 ⟨rfl, rfl⟩ (Nat.le_of_ble_eq_true rfl) rfl (fun p e s m args below meth c A Q ls C X hA hl ret => ?_)
  have C : Cx p s m args meth c cX6_holds 4 RX6 D (tyIZ cI cZ) := C
  have hx := C.1
  have hb := C.2.1
  have hl : lv_has ls 4 [(0, .ref (a 0)), (1, .int x1), (2, .int x2), (3, .int x3)] := hl
  refine lv_aload_n hx hb dX6_holds_0 rfl (lv_at hl 0 rfl) ?_
  refine rg_X6_X6_register C X dX6_holds_1 ?_
  refine lv_iconst (v := (4)) hx hb dX6_holds_4 (by decide) ?_
  refine lv_iload_n hx hb dX6_holds_5 rfl (lv_at hl 1 rfl) ?_
  refine lv_imul hx hb dX6_holds_6 ?_
  refine lv_iload_n hx hb dX6_holds_7 rfl (lv_at hl 2 rfl) ?_
  refine lv_iadd hx hb dX6_holds_8 ?_
  refine lv_iload_n hx hb dX6_holds_9 rfl (lv_at hl 3 rfl) ?_
  refine rs_register (g := (upd (r_register σ) (ix (((4 : Int32) * x1) + x2)) x3)) C X hr rfl dX6_holds_10 (fun H locs X => ?_)
  refine lv_iload_n hx hb dX6_holds_11 rfl (lv_at hl 3 rfl) ?_
  exact ret dX6_holds_12 (pe_ rfl) X
def fX6_shade_J41 (z1 : Int32) (σ41 : RSt) : RSt := (if (r_manner σ41) = (3 : Int32) then (r_movedMany_s (r_moved_s (r_top_s (r_place_s σ41 (upd (r_place σ41) (ix z1) (((100 : Int32) * (r_half σ41)) + (r_top σ41)))) ((r_top σ41) + (((r_many σ41) (ix z1)) + (1 : Int32)))) (upd (r_moved σ41) (ix z1) (((r_moved σ41) (ix z1)) + (1 : Int32)))) ((r_movedMany σ41) + (1 : Int32))) else σ41)
def fX6_shade (σ : RSt) (x1 : Int32) : RSt := (if x1 = (-1 : Int32) then σ else (if ((r_colour σ) (ix x1)) = (0 : Int32) then (if ((r_isFreed σ) (ix x1)) = (0 : Int32) then (fX6_shade_J41 x1 (r_shaded_s (r_colour_s σ (upd (r_colour σ) (ix x1) (1 : Int32))) ((r_shaded σ) + (1 : Int32)))) else σ) else σ))
theorem hdX6_shade : yX6_shade.cls = RX6 ∧ yX6_shade.cls ≠ "java/lang/invoke/MethodHandle" ∧ yX6_shade.cls ≠ "java/lang/invoke/VarHandle" ∧ (parseMethodDescriptor yX6_shade.desc).map (fun d => d.parameters.length) = some 1 := by decide +kernel
set_option maxHeartbeats 250000 in
set_option maxRecDepth 100000 in
theorem kX6_shade (l : Launch) (D : va_G) (a : Nat → Nat) (cI cZ : ClassId) (σ : RSt) (x1 : Int32) (hv : VT x1) : CU l D (tyIZ cI cZ) (wR a cI cZ) yX6_shade cX6_shade 2 (rmk 0 0) [.ref (a 0), .int x1] σ (fX6_shade σ x1) := by
  refine CU.of pnX6 ⟨rfl, rfl⟩ (Nat.le_of_ble_eq_true rfl) (fun p e s m args below meth c A Q ls C X hA hl ret => ?_)
  have C : Cx p s m args meth c cX6_shade 2 RX6 D (tyIZ cI cZ) := C
  have hx := C.1
  have hb := C.2.1
  have hl : lv_has ls 2 [(0, .ref (a 0)), (1, .int x1)] := hl
  refine lv_iload_n hx hb dX6_shade_0 rfl (lv_at hl 1 rfl) ?_
  refine lv_iconst (v := (-1)) hx hb dX6_shade_1 (by decide) ?_
  refine lv_icmp_eq (tgt := 23) hx hb dX6_shade_2 (by decide) (fun c2 => ?_) (fun c2 => ?_)
  · exact ret dX6_shade_23 (Eq.symm (if_pos c2)) X
  · refine lv_aload_n hx hb dX6_shade_5 rfl (lv_at hl 0 rfl) ?_
    refine rg_X6_X6_colour C X dX6_shade_6 ?_
    refine lv_iload_n hx hb dX6_shade_9 rfl (lv_at hl 1 rfl) ?_
    refine ra_colour (v := ((r_colour σ) (ix x1))) C X (vt_in hv c2) rfl dX6_shade_10 ?_
    refine lv_if_ne (tgt := 23) hx hb dX6_shade_11 (by decide) (fun c11 => ?_) (fun c11 => ?_)
    · exact ret dX6_shade_23 (Eq.symm (Eq.trans (if_neg c2) (if_neg c11))) X
    · refine lv_aload_n hx hb dX6_shade_14 rfl (lv_at hl 0 rfl) ?_
      refine rg_X6_X6_isFreed C X dX6_shade_15 ?_
      refine lv_iload_n hx hb dX6_shade_18 rfl (lv_at hl 1 rfl) ?_
      refine ra_isFreed (v := ((r_isFreed σ) (ix x1))) C X (vt_in hv c2) rfl dX6_shade_19 ?_
      refine lv_if_eq (tgt := 24) hx hb dX6_shade_20 (by decide) (fun c20 => ?_) (fun c20 => ?_)
      · have J41 : ∀ (σ41 : RSt) (he : fX6_shade_J41 x1 σ41 = (fX6_shade σ x1)) (H : Heap) (locs : List Loc) (ls : Array Slot) (X : Sx A D (wR a cI cZ σ41) s H locs) (hl : lv_has ls 2 [(0, .ref (a 0)), (1, .int x1)]), W p l e (rmk 0 0) s m args below meth c H locs 0 0 Q (F0 m 41 ls []) := by
          intro σ41 he H locs ls X hl
          refine lv_aload_n hx hb dX6_shade_41 rfl (lv_at hl 0 rfl) ?_
          refine rg_X6_X6_manner (v := (r_manner σ41)) C X rfl dX6_shade_42 ?_
          refine lv_iconst (v := (3)) hx hb dX6_shade_45 (by decide) ?_
          refine lv_icmp_ne (tgt := 104) hx hb dX6_shade_46 (by decide) (fun c46 => ?_) (fun c46 => ?_)
          · exact ret dX6_shade_104 (Eq.trans (Eq.symm (if_neg c46)) he) X
          · refine lv_aload_n hx hb dX6_shade_49 rfl (lv_at hl 0 rfl) ?_
            refine rg_X6_X6_place C X dX6_shade_50 ?_
            refine lv_iload_n hx hb dX6_shade_53 rfl (lv_at hl 1 rfl) ?_
            refine lv_bipush (v := (100)) hx hb dX6_shade_54 (by decide) ?_
            refine lv_aload_n hx hb dX6_shade_56 rfl (lv_at hl 0 rfl) ?_
            refine rg_X6_X6_half (v := (r_half σ41)) C X rfl dX6_shade_57 ?_
            refine lv_imul hx hb dX6_shade_60 ?_
            refine lv_aload_n hx hb dX6_shade_61 rfl (lv_at hl 0 rfl) ?_
            refine rg_X6_X6_top (v := (r_top σ41)) C X rfl dX6_shade_62 ?_
            refine lv_iadd hx hb dX6_shade_65 ?_
            refine rs_place (g := (upd (r_place σ41) (ix x1) (((100 : Int32) * (r_half σ41)) + (r_top σ41)))) C X (vt_in hv c2) rfl dX6_shade_66 (fun H locs X => ?_)
            refine lv_aload_n hx hb dX6_shade_67 rfl (lv_at hl 0 rfl) ?_
            refine lv_dup hx hb dX6_shade_68 rfl ?_
            refine rg_X6_X6_top (v := (r_top σ41)) C X (rq_top_place _ _) dX6_shade_69 ?_
            refine lv_aload_n hx hb dX6_shade_72 rfl (lv_at hl 0 rfl) ?_
            refine rg_X6_X6_many C X dX6_shade_73 ?_
            refine lv_iload_n hx hb dX6_shade_76 rfl (lv_at hl 1 rfl) ?_
            refine ra_many (v := ((r_many σ41) (ix x1))) C X (vt_in hv c2) (congrFun (rq_many_place _ _) _) dX6_shade_77 ?_
            refine lv_iconst (v := (1)) hx hb dX6_shade_78 (by decide) ?_
            refine lv_iadd hx hb dX6_shade_79 ?_
            refine lv_iadd hx hb dX6_shade_80 ?_
            refine rp_X6_X6_top C X dX6_shade_81 (fun H locs X => ?_)
            refine lv_aload_n hx hb dX6_shade_84 rfl (lv_at hl 0 rfl) ?_
            refine rg_X6_X6_moved C X dX6_shade_85 ?_
            refine lv_iload_n hx hb dX6_shade_88 rfl (lv_at hl 1 rfl) ?_
            refine lv_dup2_11 hx hb dX6_shade_89 rfl rfl ?_
            refine ra_moved (v := ((r_moved σ41) (ix x1))) C X (vt_in hv c2) (congrFun (Eq.trans (rq_moved_top _ _) (rq_moved_place _ _)) _) dX6_shade_90 ?_
            refine lv_iconst (v := (1)) hx hb dX6_shade_91 (by decide) ?_
            refine lv_iadd hx hb dX6_shade_92 ?_
            refine rs_moved (g := (upd (r_moved σ41) (ix x1) (((r_moved σ41) (ix x1)) + (1 : Int32)))) C X (vt_in hv c2) (congrArg (fun z => upd z _ _) (Eq.trans (rq_moved_top _ _) (rq_moved_place _ _))) dX6_shade_93 (fun H locs X => ?_)
            refine lv_aload_n hx hb dX6_shade_94 rfl (lv_at hl 0 rfl) ?_
            refine lv_dup hx hb dX6_shade_95 rfl ?_
            refine rg_X6_X6_movedMany (v := (r_movedMany σ41)) C X (Eq.trans (rq_movedMany_moved _ _) (Eq.trans (rq_movedMany_top _ _) (rq_movedMany_place _ _))) dX6_shade_96 ?_
            refine lv_iconst (v := (1)) hx hb dX6_shade_99 (by decide) ?_
            refine lv_iadd hx hb dX6_shade_100 ?_
            refine rp_X6_X6_movedMany C X dX6_shade_101 (fun H locs X => ?_)
            exact ret dX6_shade_104 (Eq.trans (Eq.symm (if_pos c46)) he) X
        refine lv_aload_n hx hb dX6_shade_24 rfl (lv_at hl 0 rfl) ?_
        refine rg_X6_X6_colour C X dX6_shade_25 ?_
        refine lv_iload_n hx hb dX6_shade_28 rfl (lv_at hl 1 rfl) ?_
        refine lv_iconst (v := (1)) hx hb dX6_shade_29 (by decide) ?_
        refine rs_colour (g := (upd (r_colour σ) (ix x1) (1 : Int32))) C X (vt_in hv c2) rfl dX6_shade_30 (fun H locs X => ?_)
        refine lv_aload_n hx hb dX6_shade_31 rfl (lv_at hl 0 rfl) ?_
        refine lv_dup hx hb dX6_shade_32 rfl ?_
        refine rg_X6_X6_shaded (v := (r_shaded σ)) C X (rq_shaded_colour _ _) dX6_shade_33 ?_
        refine lv_iconst (v := (1)) hx hb dX6_shade_36 (by decide) ?_
        refine lv_iadd hx hb dX6_shade_37 ?_
        refine rp_X6_X6_shaded C X dX6_shade_38 (fun H locs X => ?_)
        exact J41  (r_shaded_s (r_colour_s σ (upd (r_colour σ) (ix x1) (1 : Int32))) ((r_shaded σ) + (1 : Int32))) (Eq.symm (Eq.trans (if_neg c2) (Eq.trans (if_pos c11) (if_pos c20)))) _ _ _ X (lv_sub hl [0, 1] rfl)
      · exact ret dX6_shade_23 (Eq.symm (Eq.trans (if_neg c2) (Eq.trans (if_pos c11) (if_neg c20)))) X
theorem sa_shade (σ : RSt) (x : Int32) : SA σ (fX6_shade σ x) := by
  unfold fX6_shade
  split
  · exact sa_rf σ
  · split
    · split
      · refine sa_tr (sa_tr (sa_colour σ (upd (r_colour σ) (ix x) 1)) (sa_shaded _ (r_shaded σ + 1))) ?_
        unfold fX6_shade_J41
        split
        · exact sa_tr (sa_tr (sa_tr (sa_place _ _) (sa_top _ _)) (sa_moved _ _)) (sa_movedMany _ _)
        · exact sa_rf _
      · exact sa_rf σ
    · exact sa_rf σ

theorem things_shade {σ : RSt} {x : Int32} : r_things (fX6_shade σ x) = r_things σ := (sa_shade σ x).1
theorem many_shade {σ : RSt} {x : Int32} : r_many (fX6_shade σ x) = r_many σ := (sa_shade σ x).2.1
theorem wishes_shade {σ : RSt} {x : Int32} : r_wishes (fX6_shade σ x) = r_wishes σ := (sa_shade σ x).2.2.2.2.2.2.2.2.2.1
theorem pairs_shade {σ : RSt} {x : Int32} : r_pairs (fX6_shade σ x) = r_pairs σ := (sa_shade σ x).2.2.2.2.2.2.2.2.2.2.2.1

def fX6_shadeHeld_L2 : Nat → Int32 → RSt → RSt
  | 0, y1, σ2 => σ2
  | f + 1, y1, σ2 => (fX6_shadeHeld_L2 f (y1 + 1) (fX6_shade σ2 ((r_register σ2) (ix y1))))
def fX6_shadeHeld_L26 : Nat → Int32 → RSt → RSt
  | 0, y1, σ26 => σ26
  | f + 1, y1, σ26 => (fX6_shadeHeld_L26 f (y1 + 1) (fX6_shade σ26 ((r_slot σ26) (ix y1))))
def fX6_shadeHeld_L49 : Nat → Int32 → RSt → RSt
  | 0, y1, σ49 => σ49
  | f + 1, y1, σ49 => (fX6_shadeHeld_L49 f (y1 + 1) (fX6_shade σ49 ((r_wishAt σ49) (ix y1))))
def fX6_shadeHeld (σ : RSt) : RSt := (fX6_shadeHeld_L49 (((Int32.toInt (r_wishes (fX6_shadeHeld_L26 (((Int32.toInt (4 : Int32)) - (Int32.toInt (0 : Int32))).toNat) (0 : Int32) (fX6_shadeHeld_L2 (((Int32.toInt (12 : Int32)) - (Int32.toInt (0 : Int32))).toNat) (0 : Int32) σ)))) - (Int32.toInt (0 : Int32))).toNat) (0 : Int32) (fX6_shadeHeld_L26 (((Int32.toInt (4 : Int32)) - (Int32.toInt (0 : Int32))).toNat) (0 : Int32) (fX6_shadeHeld_L2 (((Int32.toInt (12 : Int32)) - (Int32.toInt (0 : Int32))).toNat) (0 : Int32) σ)))
theorem hdX6_shadeHeld : yX6_shadeHeld.cls = RX6 ∧ yX6_shadeHeld.cls ≠ "java/lang/invoke/MethodHandle" ∧ yX6_shadeHeld.cls ≠ "java/lang/invoke/VarHandle" ∧ (parseMethodDescriptor yX6_shadeHeld.desc).map (fun d => d.parameters.length) = some 0 := by decide +kernel
theorem sa_shadeHeld_L2 (f : Nat) : ∀ (y : Int32) (σ : RSt), SA σ (fX6_shadeHeld_L2 f y σ) := by
  induction f with
  | zero => intro y σ; exact sa_rf σ
  | succ f ih => intro y σ; exact sa_tr (sa_shade _ _) (ih _ _)
theorem sa_shadeHeld_L26 (f : Nat) : ∀ (y : Int32) (σ : RSt), SA σ (fX6_shadeHeld_L26 f y σ) := by
  induction f with
  | zero => intro y σ; exact sa_rf σ
  | succ f ih => intro y σ; exact sa_tr (sa_shade _ _) (ih _ _)
theorem sa_shadeHeld_L49 (f : Nat) : ∀ (y : Int32) (σ : RSt), SA σ (fX6_shadeHeld_L49 f y σ) := by
  induction f with
  | zero => intro y σ; exact sa_rf σ
  | succ f ih => intro y σ; exact sa_tr (sa_shade _ _) (ih _ _)
theorem sa_shadeHeld (σ : RSt) : SA σ (fX6_shadeHeld σ) := sa_tr (sa_shadeHeld_L2 _ _ _) (sa_tr (sa_shadeHeld_L26 _ _ _) (sa_shadeHeld_L49 _ _ _))

set_option maxHeartbeats 250000 in
set_option maxRecDepth 100000 in
theorem kX6_shadeHeld (l : Launch) (D : va_G) (a : Nat → Nat) (cI cZ : ClassId) (σ : RSt) (hS : S0 σ) : CU l D (tyIZ cI cZ) (wR a cI cZ) yX6_shadeHeld cX6_shadeHeld 2 (rmk 1 21) [.ref (a 0)] σ (fX6_shadeHeld σ) := by
  refine CU.of pnX6 ⟨rfl, rfl⟩ (Nat.le_of_ble_eq_true rfl) (fun p e s m args below meth c A Q ls C X hA hl ret => ?_)
  have C : Cx p s m args meth c cX6_shadeHeld 2 RX6 D (tyIZ cI cZ) := C
  have hx := C.1
  have hb := C.2.1
  have hl : lv_has ls 2 [(0, .ref (a 0))] := hl
  refine lv_iconst (v := (0)) hx hb dX6_shadeHeld_0 (by decide) ?_
  refine lv_istore_n (lv' := [(1, .int (0 : Int32)), (0, .ref (a 0))]) hx hb dX6_shadeHeld_1 rfl hl (by decide) rfl (fun ls hl => ?_)
  have L2 : ∀ (res : RSt) (hx2 : ∀ (H : Heap) (locs : List Loc) (ls : Array Slot), Sx A D (wR a cI cZ res) s H locs → lv_has ls 2 [(0, .ref (a 0))] → W p l e (rmk 1 21) s m args below meth c H locs 0 0 Q (F0 m 24 ls [])) (f : Nat) (y1 : Int32) (σ2 : RSt) (hf : ((Int32.toInt (12 : Int32)) - (Int32.toInt y1)).toNat = f) (hnn : 0 ≤ Int32.toInt y1) (hS : S0 σ2) (he : fX6_shadeHeld_L2 f y1 σ2 = res) (H : Heap) (locs : List Loc) (ls : Array Slot) (X : Sx A D (wR a cI cZ σ2) s H locs) (hl : lv_has ls 2 [(0, .ref (a 0)), (1, .int y1)]), W p l e (rmk 1 21) s m args below meth c H locs 0 0 Q (F0 m 2 ls []) := by
    intro res hx2 f
    induction f with
    | zero =>
      intro y1 σ2 hf hnn hS he H locs ls X hl
      refine lv_iload_n hx hb dX6_shadeHeld_2 rfl (lv_at hl 1 rfl) ?_
      refine lv_bipush (v := (12)) hx hb dX6_shadeHeld_3 (by decide) ?_
      refine lv_icmp_ge (tgt := 24) hx hb dX6_shadeHeld_5 (by decide) (fun c5 => ?_) (fun c5 => (lp_z hf c5).elim)
      exact hx2 _ _ _ (Eq.subst (motive := fun z => Sx A D (wR a cI cZ z) s _ _) he X) (Eq.subst (motive := fun z => lv_has _ 2 [(0, .ref (a 0))]) he (lv_sub hl [0] rfl))
    | succ f ih2 =>
      intro y1 σ2 hf hnn hS he H locs ls X hl
      refine lv_iload_n hx hb dX6_shadeHeld_2 rfl (lv_at hl 1 rfl) ?_
      refine lv_bipush (v := (12)) hx hb dX6_shadeHeld_3 (by decide) ?_
      refine lv_icmp_ge (tgt := 24) hx hb dX6_shadeHeld_5 (by decide) (fun c5 => (lp_s hf c5).elim) (fun c5 => ?_)
      refine lv_aload_n hx hb dX6_shadeHeld_8 rfl (lv_at hl 0 rfl) ?_
      refine lv_aload_n hx hb dX6_shadeHeld_9 rfl (lv_at hl 0 rfl) ?_
      refine rg_X6_X6_register C X dX6_shadeHeld_10 ?_
      refine lv_iload_n hx hb dX6_shadeHeld_13 rfl (lv_at hl 1 rfl) ?_
      refine ra_register (v := ((r_register σ2) (ix y1))) C X (lp_in hnn hf (show (Int32.toInt (12 : Int32) : Int) ≤ 12 by decide)) rfl dX6_shadeHeld_14 ?_
      refine callVU (rest := []) C hA (wR_sh a cI cZ) X (kX6_shade l D a cI cZ _ ((r_register σ2) (ix y1)) (s0_register hS _)) (cwV 1 C.2.2.2.2.1 (gV wl_X6_100 wt_yX6_shade ws_yX6_shade wi_X6 wk_yX6_shade) rfl rfl rfl hdX6_shade ⟨Nat.le_of_ble_eq_true rfl, Nat.le_of_ble_eq_true rfl⟩) (ci := 6) (q0 := 0) rfl rfl rfl hl.1 rfl (Nat.le_of_ble_eq_true rfl) dX6_shadeHeld_15 ⟨Nat.le_refl 0, Nat.le_refl 0⟩ (fun H locs X => ?_)
      refine lv_iinc (v := (y1 + 1)) (lv' := [(1, .int (y1 + 1)), (0, .ref (a 0))]) hx hb dX6_shadeHeld_18 hl (k := 1) rfl rfl (by decide) rfl (fun ls hl => ?_)
      refine lv_goto (tgt := 2) hx hb dX6_shadeHeld_21 (by decide) ?_
      exact ih2 (y1 + 1) (fX6_shade σ2 ((r_register σ2) (ix y1))) (lp_b hf) (lp_nn hnn hf) (s0_sa (sa_shade _ _) hS) he _ _ _ X (lv_sub hl [1, 0] rfl)
  refine L2 (fX6_shadeHeld_L2 (((Int32.toInt (12 : Int32)) - (Int32.toInt (0 : Int32))).toNat) (0 : Int32) σ) (fun H locs ls X hl => ?_) (((Int32.toInt (12 : Int32)) - (Int32.toInt (0 : Int32))).toNat) (0 : Int32) σ rfl (by decide) (hS) rfl _ _ _ X (lv_sub hl [1, 0] rfl)
  refine lv_iconst (v := (0)) hx hb dX6_shadeHeld_24 (by decide) ?_
  refine lv_istore_n (lv' := [(1, .int (0 : Int32)), (0, .ref (a 0))]) hx hb dX6_shadeHeld_25 rfl hl (by decide) rfl (fun ls hl => ?_)
  have L26 : ∀ (res : RSt) (hx26 : ∀ (H : Heap) (locs : List Loc) (ls : Array Slot), Sx A D (wR a cI cZ res) s H locs → lv_has ls 2 [(0, .ref (a 0))] → W p l e (rmk 1 21) s m args below meth c H locs 0 0 Q (F0 m 47 ls [])) (f : Nat) (y1 : Int32) (σ26 : RSt) (hf : ((Int32.toInt (4 : Int32)) - (Int32.toInt y1)).toNat = f) (hnn : 0 ≤ Int32.toInt y1) (hS : S0 σ26) (he : fX6_shadeHeld_L26 f y1 σ26 = res) (H : Heap) (locs : List Loc) (ls : Array Slot) (X : Sx A D (wR a cI cZ σ26) s H locs) (hl : lv_has ls 2 [(0, .ref (a 0)), (1, .int y1)]), W p l e (rmk 1 21) s m args below meth c H locs 0 0 Q (F0 m 26 ls []) := by
    intro res hx26 f
    induction f with
    | zero =>
      intro y1 σ26 hf hnn hS he H locs ls X hl
      refine lv_iload_n hx hb dX6_shadeHeld_26 rfl (lv_at hl 1 rfl) ?_
      refine lv_iconst (v := (4)) hx hb dX6_shadeHeld_27 (by decide) ?_
      refine lv_icmp_ge (tgt := 47) hx hb dX6_shadeHeld_28 (by decide) (fun c28 => ?_) (fun c28 => (lp_z hf c28).elim)
      exact hx26 _ _ _ (Eq.subst (motive := fun z => Sx A D (wR a cI cZ z) s _ _) he X) (Eq.subst (motive := fun z => lv_has _ 2 [(0, .ref (a 0))]) he (lv_sub hl [0] rfl))
    | succ f ih26 =>
      intro y1 σ26 hf hnn hS he H locs ls X hl
      refine lv_iload_n hx hb dX6_shadeHeld_26 rfl (lv_at hl 1 rfl) ?_
      refine lv_iconst (v := (4)) hx hb dX6_shadeHeld_27 (by decide) ?_
      refine lv_icmp_ge (tgt := 47) hx hb dX6_shadeHeld_28 (by decide) (fun c28 => (lp_s hf c28).elim) (fun c28 => ?_)
      refine lv_aload_n hx hb dX6_shadeHeld_31 rfl (lv_at hl 0 rfl) ?_
      refine lv_aload_n hx hb dX6_shadeHeld_32 rfl (lv_at hl 0 rfl) ?_
      refine rg_X6_X6_slot C X dX6_shadeHeld_33 ?_
      refine lv_iload_n hx hb dX6_shadeHeld_36 rfl (lv_at hl 1 rfl) ?_
      refine ra_slot (v := ((r_slot σ26) (ix y1))) C X (lp_in hnn hf (show (Int32.toInt (4 : Int32) : Int) ≤ 4 by decide)) rfl dX6_shadeHeld_37 ?_
      refine callVU (rest := []) C hA (wR_sh a cI cZ) X (kX6_shade l D a cI cZ _ ((r_slot σ26) (ix y1)) (s0_slot hS _)) (cwV 1 C.2.2.2.2.1 (gV wl_X6_100 wt_yX6_shade ws_yX6_shade wi_X6 wk_yX6_shade) rfl rfl rfl hdX6_shade ⟨Nat.le_of_ble_eq_true rfl, Nat.le_of_ble_eq_true rfl⟩) (ci := 6) (q0 := 0) rfl rfl rfl hl.1 rfl (Nat.le_of_ble_eq_true rfl) dX6_shadeHeld_38 ⟨Nat.le_refl 0, Nat.le_refl 0⟩ (fun H locs X => ?_)
      refine lv_iinc (v := (y1 + 1)) (lv' := [(1, .int (y1 + 1)), (0, .ref (a 0))]) hx hb dX6_shadeHeld_41 hl (k := 1) rfl rfl (by decide) rfl (fun ls hl => ?_)
      refine lv_goto (tgt := 26) hx hb dX6_shadeHeld_44 (by decide) ?_
      exact ih26 (y1 + 1) (fX6_shade σ26 ((r_slot σ26) (ix y1))) (lp_b hf) (lp_nn hnn hf) (s0_sa (sa_shade _ _) hS) he _ _ _ X (lv_sub hl [1, 0] rfl)
  refine L26 (fX6_shadeHeld_L26 (((Int32.toInt (4 : Int32)) - (Int32.toInt (0 : Int32))).toNat) (0 : Int32) (fX6_shadeHeld_L2 (((Int32.toInt (12 : Int32)) - (Int32.toInt (0 : Int32))).toNat) (0 : Int32) σ)) (fun H locs ls X hl => ?_) (((Int32.toInt (4 : Int32)) - (Int32.toInt (0 : Int32))).toNat) (0 : Int32) (fX6_shadeHeld_L2 (((Int32.toInt (12 : Int32)) - (Int32.toInt (0 : Int32))).toNat) (0 : Int32) σ) rfl (by decide) (s0_sa (sa_shadeHeld_L2 _ _ _) hS) rfl _ _ _ X (lv_sub hl [1, 0] rfl)
  refine lv_iconst (v := (0)) hx hb dX6_shadeHeld_47 (by decide) ?_
  refine lv_istore_n (lv' := [(1, .int (0 : Int32)), (0, .ref (a 0))]) hx hb dX6_shadeHeld_48 rfl hl (by decide) rfl (fun ls hl => ?_)
  have L49 : ∀ (f : Nat) (y1 : Int32) (σ49 : RSt) (hf : ((Int32.toInt (r_wishes σ49)) - (Int32.toInt y1)).toNat = f) (hnn : 0 ≤ Int32.toInt y1) (hS : S0 σ49) (he : fX6_shadeHeld_L49 f y1 σ49 = (fX6_shadeHeld σ)) (H : Heap) (locs : List Loc) (ls : Array Slot) (X : Sx A D (wR a cI cZ σ49) s H locs) (hl : lv_has ls 2 [(0, .ref (a 0)), (1, .int y1)]), W p l e (rmk 1 21) s m args below meth c H locs 0 0 Q (F0 m 49 ls []) := by
    intro f
    induction f with
    | zero =>
      intro y1 σ49 hf hnn hS he H locs ls X hl
      refine lv_iload_n hx hb dX6_shadeHeld_49 rfl (lv_at hl 1 rfl) ?_
      refine lv_aload_n hx hb dX6_shadeHeld_50 rfl (lv_at hl 0 rfl) ?_
      refine rg_X6_X6_wishes (v := (r_wishes σ49)) C X rfl dX6_shadeHeld_51 ?_
      refine lv_icmp_ge (tgt := 73) hx hb dX6_shadeHeld_54 (by decide) (fun c54 => ?_) (fun c54 => (lp_z hf c54).elim)
      exact ret dX6_shadeHeld_73 he X
    | succ f ih49 =>
      intro y1 σ49 hf hnn hS he H locs ls X hl
      refine lv_iload_n hx hb dX6_shadeHeld_49 rfl (lv_at hl 1 rfl) ?_
      refine lv_aload_n hx hb dX6_shadeHeld_50 rfl (lv_at hl 0 rfl) ?_
      refine rg_X6_X6_wishes (v := (r_wishes σ49)) C X rfl dX6_shadeHeld_51 ?_
      refine lv_icmp_ge (tgt := 73) hx hb dX6_shadeHeld_54 (by decide) (fun c54 => (lp_s hf c54).elim) (fun c54 => ?_)
      refine lv_aload_n hx hb dX6_shadeHeld_57 rfl (lv_at hl 0 rfl) ?_
      refine lv_aload_n hx hb dX6_shadeHeld_58 rfl (lv_at hl 0 rfl) ?_
      refine rg_X6_X6_wishAt C X dX6_shadeHeld_59 ?_
      refine lv_iload_n hx hb dX6_shadeHeld_62 rfl (lv_at hl 1 rfl) ?_
      refine ra_wishAt (v := ((r_wishAt σ49) (ix y1))) C X (lp_in hnn hf (s0_wishes hS)) rfl dX6_shadeHeld_63 ?_
      refine callVU (rest := []) C hA (wR_sh a cI cZ) X (kX6_shade l D a cI cZ _ ((r_wishAt σ49) (ix y1)) (s0_wishAt hS _)) (cwV 1 C.2.2.2.2.1 (gV wl_X6_100 wt_yX6_shade ws_yX6_shade wi_X6 wk_yX6_shade) rfl rfl rfl hdX6_shade ⟨Nat.le_of_ble_eq_true rfl, Nat.le_of_ble_eq_true rfl⟩) (ci := 6) (q0 := 0) rfl rfl rfl hl.1 rfl (Nat.le_of_ble_eq_true rfl) dX6_shadeHeld_64 ⟨Nat.le_refl 0, Nat.le_refl 0⟩ (fun H locs X => ?_)
      refine lv_iinc (v := (y1 + 1)) (lv' := [(1, .int (y1 + 1)), (0, .ref (a 0))]) hx hb dX6_shadeHeld_67 hl (k := 1) rfl rfl (by decide) rfl (fun ls hl => ?_)
      refine lv_goto (tgt := 49) hx hb dX6_shadeHeld_70 (by decide) ?_
      exact ih49 (y1 + 1) (fX6_shade σ49 ((r_wishAt σ49) (ix y1))) (by first | with_reducible exact lp_b hf | (rw [wishes_shade]; exact lp_b hf)) (lp_nn hnn hf) (s0_sa (sa_shade _ _) hS) he _ _ _ X (lv_sub hl [1, 0] rfl)
  exact L49 (((Int32.toInt (r_wishes (fX6_shadeHeld_L26 (((Int32.toInt (4 : Int32)) - (Int32.toInt (0 : Int32))).toNat) (0 : Int32) (fX6_shadeHeld_L2 (((Int32.toInt (12 : Int32)) - (Int32.toInt (0 : Int32))).toNat) (0 : Int32) σ)))) - (Int32.toInt (0 : Int32))).toNat) (0 : Int32) (fX6_shadeHeld_L26 (((Int32.toInt (4 : Int32)) - (Int32.toInt (0 : Int32))).toNat) (0 : Int32) (fX6_shadeHeld_L2 (((Int32.toInt (12 : Int32)) - (Int32.toInt (0 : Int32))).toNat) (0 : Int32) σ)) rfl (by decide) (s0_sa (sa_tr (sa_shadeHeld_L2 _ _ _) (sa_shadeHeld_L26 _ _ _)) hS) rfl _ _ _ X (lv_sub hl [1, 0] rfl)
def fX6_frees (σ : RSt) (x1 : Int32) : RSt := (r_freedMany_s (r_place_s (r_isFreed_s σ (upd (r_isFreed σ) (ix x1) (1 : Int32))) (upd (r_place σ) (ix x1) (-1 : Int32))) ((r_freedMany σ) + (1 : Int32)))
theorem hdX6_frees : yX6_frees.cls = RX6 ∧ yX6_frees.cls ≠ "java/lang/invoke/MethodHandle" ∧ yX6_frees.cls ≠ "java/lang/invoke/VarHandle" ∧ (parseMethodDescriptor yX6_frees.desc).map (fun d => d.parameters.length) = some 1 := by decide +kernel
set_option maxHeartbeats 250000 in
set_option maxRecDepth 100000 in
theorem kX6_frees (l : Launch) (D : va_G) (a : Nat → Nat) (cI cZ : ClassId) (σ : RSt) (x1 : Int32) (hi : vp_in x1 120) : CU l D (tyIZ cI cZ) (wR a cI cZ) yX6_frees cX6_frees 2 (rmk 0 0) [.ref (a 0), .int x1] σ (fX6_frees σ x1) := by
  refine CU.of pnX6 ⟨rfl, rfl⟩ (Nat.le_of_ble_eq_true rfl) (fun p e s m args below meth c A Q ls C X hA hl ret => ?_)
  have C : Cx p s m args meth c cX6_frees 2 RX6 D (tyIZ cI cZ) := C
  have hx := C.1
  have hb := C.2.1
  have hl : lv_has ls 2 [(0, .ref (a 0)), (1, .int x1)] := hl
  refine lv_aload_n hx hb dX6_frees_0 rfl (lv_at hl 0 rfl) ?_
  refine rg_X6_X6_isFreed C X dX6_frees_1 ?_
  refine lv_iload_n hx hb dX6_frees_4 rfl (lv_at hl 1 rfl) ?_
  refine lv_iconst (v := (1)) hx hb dX6_frees_5 (by decide) ?_
  refine rs_isFreed (x1 := (1 : Int32)) (g := (upd (r_isFreed σ) (ix x1) (1 : Int32))) C X hi rfl rfl dX6_frees_6 (fun H locs X => ?_)
  refine lv_aload_n hx hb dX6_frees_7 rfl (lv_at hl 0 rfl) ?_
  refine rg_X6_X6_place C X dX6_frees_8 ?_
  refine lv_iload_n hx hb dX6_frees_11 rfl (lv_at hl 1 rfl) ?_
  refine lv_iconst (v := (-1)) hx hb dX6_frees_12 (by decide) ?_
  refine rs_place (g := (upd (r_place σ) (ix x1) (-1 : Int32))) C X hi (congrArg (fun z => upd z _ _) (rq_place_isFreed _ _)) dX6_frees_13 (fun H locs X => ?_)
  refine lv_aload_n hx hb dX6_frees_14 rfl (lv_at hl 0 rfl) ?_
  refine lv_dup hx hb dX6_frees_15 rfl ?_
  refine rg_X6_X6_freedMany (v := (r_freedMany σ)) C X (Eq.trans (rq_freedMany_place _ _) (rq_freedMany_isFreed _ _)) dX6_frees_16 ?_
  refine lv_iconst (v := (1)) hx hb dX6_frees_19 (by decide) ?_
  refine lv_iadd hx hb dX6_frees_20 ?_
  refine rp_X6_X6_freedMany C X dX6_frees_21 (fun H locs X => ?_)
  exact ret dX6_frees_24 rfl X
theorem sa_frees (σ : RSt) (x : Int32) : SA σ (fX6_frees σ x) := by
  unfold fX6_frees
  exact sa_tr (sa_tr (sa_isFreed _ _) (sa_place _ _)) (sa_freedMany _ _)

theorem things_frees {σ : RSt} {x : Int32} : r_things (fX6_frees σ x) = r_things σ := (sa_frees σ x).1

def fX6_leastGray_L2 : Nat → Int32 → RSt → Int32
  | 0, y1, σ0 => (-1 : Int32)
  | f + 1, y1, σ0 => (if ((r_colour σ0) (ix y1)) = (1 : Int32) then (if ((r_isFreed σ0) (ix y1)) = (0 : Int32) then y1 else (fX6_leastGray_L2 f (y1 + 1) σ0)) else (fX6_leastGray_L2 f (y1 + 1) σ0))
def fX6_leastGray (σ : RSt) : Int32 := (fX6_leastGray_L2 (((Int32.toInt (r_things σ)) - (Int32.toInt (0 : Int32))).toNat) (0 : Int32) σ)
theorem hdX6_leastGray : yX6_leastGray.cls = RX6 ∧ yX6_leastGray.cls ≠ "java/lang/invoke/MethodHandle" ∧ yX6_leastGray.cls ≠ "java/lang/invoke/VarHandle" ∧ (parseMethodDescriptor yX6_leastGray.desc).map (fun d => d.parameters.length) = some 0 := by decide +kernel
set_option maxHeartbeats 250000 in
set_option maxRecDepth 100000 in
theorem kX6_leastGray (l : Launch) (D : va_G) (a : Nat → Nat) (cI cZ : ClassId) (σ : RSt) (hS : S0 σ) : CR l D (tyIZ cI cZ) (wR a cI cZ) yX6_leastGray cX6_leastGray 2 .int (rmk 0 0) [.ref (a 0)] σ (fX6_leastGray σ) σ := by
  refine CR.of pnX6 ⟨rfl, rfl⟩ (Nat.le_of_ble_eq_true rfl) rfl (fun p e s m args below meth c A Q ls C X hA hl ret => ?_)
  have C : Cx p s m args meth c cX6_leastGray 2 RX6 D (tyIZ cI cZ) := C
  have hx := C.1
  have hb := C.2.1
  have hl : lv_has ls 2 [(0, .ref (a 0))] := hl
  refine lv_iconst (v := (0)) hx hb dX6_leastGray_0 (by decide) ?_
  refine lv_istore_n (lv' := [(1, .int (0 : Int32)), (0, .ref (a 0))]) hx hb dX6_leastGray_1 rfl hl (by decide) rfl (fun ls hl => ?_)
  have L2 : ∀ (f : Nat) (y1 : Int32) (hf : ((Int32.toInt (r_things σ)) - (Int32.toInt y1)).toNat = f) (hnn : 0 ≤ Int32.toInt y1) (he : fX6_leastGray_L2 f y1 σ = (fX6_leastGray σ)) (H : Heap) (locs : List Loc) (ls : Array Slot) (X : Sx A D (wR a cI cZ σ) s H locs) (hl : lv_has ls 2 [(0, .ref (a 0)), (1, .int y1)]), W p l e (rmk 0 0) s m args below meth c H locs 0 0 Q (F0 m 2 ls []) := by
    intro f
    induction f with
    | zero =>
      intro y1 hf hnn he H locs ls X hl
      refine lv_iload_n hx hb dX6_leastGray_2 rfl (lv_at hl 1 rfl) ?_
      refine lv_aload_n hx hb dX6_leastGray_3 rfl (lv_at hl 0 rfl) ?_
      refine rg_X6_X6_things (v := (r_things σ)) C X rfl dX6_leastGray_4 ?_
      refine lv_icmp_ge (tgt := 37) hx hb dX6_leastGray_7 (by decide) (fun c7 => ?_) (fun c7 => (lp_z hf c7).elim)
      refine lv_iconst (v := (-1)) hx hb dX6_leastGray_37 (by decide) ?_
      exact ret dX6_leastGray_38 (congrArg (fun z => (z, _)) he) X
    | succ f ih2 =>
      intro y1 hf hnn he H locs ls X hl
      refine lv_iload_n hx hb dX6_leastGray_2 rfl (lv_at hl 1 rfl) ?_
      refine lv_aload_n hx hb dX6_leastGray_3 rfl (lv_at hl 0 rfl) ?_
      refine rg_X6_X6_things (v := (r_things σ)) C X rfl dX6_leastGray_4 ?_
      refine lv_icmp_ge (tgt := 37) hx hb dX6_leastGray_7 (by decide) (fun c7 => (lp_s hf c7).elim) (fun c7 => ?_)
      refine lv_aload_n hx hb dX6_leastGray_10 rfl (lv_at hl 0 rfl) ?_
      refine rg_X6_X6_colour C X dX6_leastGray_11 ?_
      refine lv_iload_n hx hb dX6_leastGray_14 rfl (lv_at hl 1 rfl) ?_
      refine ra_colour (v := ((r_colour σ) (ix y1))) C X (lp_in hnn hf (s0_th hS)) rfl dX6_leastGray_15 ?_
      refine lv_iconst (v := (1)) hx hb dX6_leastGray_16 (by decide) ?_
      refine lv_icmp_ne (tgt := 31) hx hb dX6_leastGray_17 (by decide) (fun c17 => ?_) (fun c17 => ?_)
      · refine lv_iinc (v := (y1 + 1)) (lv' := [(1, .int (y1 + 1)), (0, .ref (a 0))]) hx hb dX6_leastGray_31 hl (k := 1) rfl rfl (by decide) rfl (fun ls hl => ?_)
        refine lv_goto (tgt := 2) hx hb dX6_leastGray_34 (by decide) ?_
        exact ih2 (y1 + 1) (lp_b hf) (lp_nn hnn hf) (Eq.trans (Eq.symm (if_neg c17)) he) _ _ _ X (lv_sub hl [1, 0] rfl)
      · refine lv_aload_n hx hb dX6_leastGray_20 rfl (lv_at hl 0 rfl) ?_
        refine rg_X6_X6_isFreed C X dX6_leastGray_21 ?_
        refine lv_iload_n hx hb dX6_leastGray_24 rfl (lv_at hl 1 rfl) ?_
        refine ra_isFreed (v := ((r_isFreed σ) (ix y1))) C X (lp_in hnn hf (s0_th hS)) rfl dX6_leastGray_25 ?_
        refine lv_if_ne (tgt := 31) hx hb dX6_leastGray_26 (by decide) (fun c26 => ?_) (fun c26 => ?_)
        · refine lv_iinc (v := (y1 + 1)) (lv' := [(1, .int (y1 + 1)), (0, .ref (a 0))]) hx hb dX6_leastGray_31 hl (k := 1) rfl rfl (by decide) rfl (fun ls hl => ?_)
          refine lv_goto (tgt := 2) hx hb dX6_leastGray_34 (by decide) ?_
          exact ih2 (y1 + 1) (lp_b hf) (lp_nn hnn hf) (Eq.trans (Eq.symm (Eq.trans (if_pos c17) (if_neg c26))) he) _ _ _ X (lv_sub hl [1, 0] rfl)
        · refine lv_iload_n hx hb dX6_leastGray_29 rfl (lv_at hl 1 rfl) ?_
          exact ret dX6_leastGray_30 (congrArg (fun z => (z, _)) (Eq.trans (Eq.symm (Eq.trans (if_pos c17) (if_pos c26))) he)) X
  exact L2 (((Int32.toInt (r_things σ)) - (Int32.toInt (0 : Int32))).toNat) (0 : Int32) rfl (by decide) rfl _ _ _ X (lv_sub hl [1, 0] rfl)
theorem vt_leastGray_L (f : Nat) : ∀ (y : Int32) (σ : RSt), S0 σ → ((Int32.toInt (r_things σ)) - (Int32.toInt y)).toNat = f → 0 ≤ Int32.toInt y → VT (fX6_leastGray_L2 f y σ) := by
  induction f with
  | zero => intro y σ _ _ _; exact Or.inl rfl
  | succ f ih =>
    intro y σ hS hf hnn
    unfold fX6_leastGray_L2
    have hi := lp_in hnn hf (s0_th hS)
    have h1 := ih (y + 1) σ hS (lp_b hf) (lp_nn hnn hf)
    split
    · split
      · exact Or.inr hi
      · exact h1
    · exact h1
theorem vt_leastGray {σ : RSt} (hS : S0 σ) : VT (fX6_leastGray σ) := vt_leastGray_L _ _ _ hS rfl (by decide)

def fX6_isWhite (σ : RSt) (x1 : Int32) : Int32 := (if ((r_colour σ) (ix x1)) = (0 : Int32) then (1 : Int32) else (0 : Int32))
theorem hdX6_isWhite : yX6_isWhite.cls = RX6 ∧ yX6_isWhite.cls ≠ "java/lang/invoke/MethodHandle" ∧ yX6_isWhite.cls ≠ "java/lang/invoke/VarHandle" ∧ (parseMethodDescriptor yX6_isWhite.desc).map (fun d => d.parameters.length) = some 1 := by decide +kernel
theorem bX6_isWhite (σ : RSt) (x1 : Int32) : (fX6_isWhite σ x1) = 0 ∨ (fX6_isWhite σ x1) = 1 := by
  unfold fX6_isWhite
  (repeat' split) <;> first | exact Or.inl rfl | exact Or.inr rfl
set_option maxHeartbeats 250000 in
set_option maxRecDepth 100000 in
theorem kX6_isWhite (l : Launch) (D : va_G) (a : Nat → Nat) (cI cZ : ClassId) (σ : RSt) (x1 : Int32) (hi : vp_in x1 120) : CR l D (tyIZ cI cZ) (wR a cI cZ) yX6_isWhite cX6_isWhite 2 .boolean (rmk 0 0) [.ref (a 0), .int x1] σ (fX6_isWhite σ x1) σ := by
  refine CR.of pnX6 ⟨rfl, rfl⟩ (Nat.le_of_ble_eq_true rfl) (nar_b (bX6_isWhite σ x1)) (fun p e s m args below meth c A Q ls C X hA hl ret => ?_)
  have C : Cx p s m args meth c cX6_isWhite 2 RX6 D (tyIZ cI cZ) := C
  have hx := C.1
  have hb := C.2.1
  have hl : lv_has ls 2 [(0, .ref (a 0)), (1, .int x1)] := hl
  refine lv_aload_n hx hb dX6_isWhite_0 rfl (lv_at hl 0 rfl) ?_
  refine rg_X6_X6_colour C X dX6_isWhite_1 ?_
  refine lv_iload_n hx hb dX6_isWhite_4 rfl (lv_at hl 1 rfl) ?_
  refine ra_colour (v := ((r_colour σ) (ix x1))) C X hi rfl dX6_isWhite_5 ?_
  refine lv_if_ne (tgt := 13) hx hb dX6_isWhite_6 (by decide) (fun c6 => ?_) (fun c6 => ?_)
  · refine lv_iconst (v := (0)) hx hb dX6_isWhite_13 (by decide) ?_
    exact ret dX6_isWhite_14 (congrArg (fun z => (z, _)) (Eq.symm (if_neg c6))) X
  · refine lv_iconst (v := (1)) hx hb dX6_isWhite_9 (by decide) ?_
    refine lv_goto (tgt := 14) hx hb dX6_isWhite_10 (by decide) ?_
    exact ret dX6_isWhite_14 (congrArg (fun z => (z, _)) (Eq.symm (if_pos c6))) X
def fX6_wishes (σ : RSt) (x1 : Int32) : RSt := (fX6_shade (r_wishes_s (r_wishAt_s (r_hasWish_s σ (upd (r_hasWish σ) (ix x1) (0 : Int32))) (upd (r_wishAt σ) (ix (r_wishes σ)) x1)) ((r_wishes σ) + (1 : Int32))) x1)
theorem hdX6_wishes : yX6_wishes.cls = RX6 ∧ yX6_wishes.cls ≠ "java/lang/invoke/MethodHandle" ∧ yX6_wishes.cls ≠ "java/lang/invoke/VarHandle" ∧ (parseMethodDescriptor yX6_wishes.desc).map (fun d => d.parameters.length) = some 1 := by decide +kernel
set_option maxHeartbeats 250000 in
set_option maxRecDepth 100000 in
theorem kX6_wishes (l : Launch) (D : va_G) (a : Nat → Nat) (cI cZ : ClassId) (σ : RSt) (x1 : Int32) (hi : vp_in x1 120) (hw : vp_in (r_wishes σ) 120) : CU l D (tyIZ cI cZ) (wR a cI cZ) yX6_wishes cX6_wishes 2 (rmk 1 21) [.ref (a 0), .int x1] σ (fX6_wishes σ x1) := by
  refine CU.of pnX6 ⟨rfl, rfl⟩ (Nat.le_of_ble_eq_true rfl) (fun p e s m args below meth c A Q ls C X hA hl ret => ?_)
  have C : Cx p s m args meth c cX6_wishes 2 RX6 D (tyIZ cI cZ) := C
  have hx := C.1
  have hb := C.2.1
  have hl : lv_has ls 2 [(0, .ref (a 0)), (1, .int x1)] := hl
  refine lv_aload_n hx hb dX6_wishes_0 rfl (lv_at hl 0 rfl) ?_
  refine rg_X6_X6_hasWish C X dX6_wishes_1 ?_
  refine lv_iload_n hx hb dX6_wishes_4 rfl (lv_at hl 1 rfl) ?_
  refine lv_iconst (v := (0)) hx hb dX6_wishes_5 (by decide) ?_
  refine rs_hasWish (x1 := (0 : Int32)) (g := (upd (r_hasWish σ) (ix x1) (0 : Int32))) C X hi rfl rfl dX6_wishes_6 (fun H locs X => ?_)
  refine lv_aload_n hx hb dX6_wishes_7 rfl (lv_at hl 0 rfl) ?_
  refine rg_X6_X6_wishAt C X dX6_wishes_8 ?_
  refine lv_aload_n hx hb dX6_wishes_11 rfl (lv_at hl 0 rfl) ?_
  refine rg_X6_X6_wishes (v := (r_wishes σ)) C X (rq_wishes_hasWish _ _) dX6_wishes_12 ?_
  refine lv_iload_n hx hb dX6_wishes_15 rfl (lv_at hl 1 rfl) ?_
  refine rs_wishAt (g := (upd (r_wishAt σ) (ix (r_wishes σ)) x1)) C X hw (congrArg (fun z => upd z _ _) (rq_wishAt_hasWish _ _)) dX6_wishes_16 (fun H locs X => ?_)
  refine lv_aload_n hx hb dX6_wishes_17 rfl (lv_at hl 0 rfl) ?_
  refine lv_dup hx hb dX6_wishes_18 rfl ?_
  refine rg_X6_X6_wishes (v := (r_wishes σ)) C X (Eq.trans (rq_wishes_wishAt _ _) (rq_wishes_hasWish _ _)) dX6_wishes_19 ?_
  refine lv_iconst (v := (1)) hx hb dX6_wishes_22 (by decide) ?_
  refine lv_iadd hx hb dX6_wishes_23 ?_
  refine rp_X6_X6_wishes C X dX6_wishes_24 (fun H locs X => ?_)
  refine lv_aload_n hx hb dX6_wishes_27 rfl (lv_at hl 0 rfl) ?_
  refine lv_iload_n hx hb dX6_wishes_28 rfl (lv_at hl 1 rfl) ?_
  refine callVU (rest := []) C hA (wR_sh a cI cZ) X (kX6_shade l D a cI cZ _ x1 (Or.inr hi)) (cwV 1 C.2.2.2.2.1 (gV wl_X6_100 wt_yX6_shade ws_yX6_shade wi_X6 wk_yX6_shade) rfl rfl rfl hdX6_shade ⟨Nat.le_of_ble_eq_true rfl, Nat.le_of_ble_eq_true rfl⟩) (ci := 6) (q0 := 0) rfl rfl rfl hl.1 rfl (Nat.le_of_ble_eq_true rfl) dX6_wishes_29 ⟨Nat.le_refl 0, Nat.le_refl 0⟩ (fun H locs X => ?_)
  exact ret dX6_wishes_32 rfl X
