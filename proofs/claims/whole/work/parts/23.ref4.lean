def fX6_findReached_L2 : Nat → Int32 → RSt → RSt
  | 0, y1, σ2 => σ2
  | f + 1, y1, σ2 => (fX6_findReached_L2 f (y1 + 1) (r_isReached_s σ2 (upd (r_isReached σ2) (ix y1) (0 : Int32))))
def fX6_findReached_L25 : Nat → Int32 → RSt → RSt
  | 0, y1, σ25 => σ25
  | f + 1, y1, σ25 => (fX6_findReached_L25 f (y1 + 1) (fX6_reach σ25 ((r_register σ25) (ix y1))))
def fX6_findReached_L49 : Nat → Int32 → RSt → RSt
  | 0, y1, σ49 => σ49
  | f + 1, y1, σ49 => (fX6_findReached_L49 f (y1 + 1) (fX6_reach σ49 ((r_slot σ49) (ix y1))))
def fX6_findReached_L72 : Nat → Int32 → RSt → RSt
  | 0, y1, σ72 => σ72
  | f + 1, y1, σ72 => (fX6_findReached_L72 f (y1 + 1) (fX6_reach σ72 ((r_wishAt σ72) (ix y1))))
def fX6_findReached_L125 (z1 : Int32) : Nat → Int32 → RSt → RSt
  | 0, y2, σ125 => σ125
  | f + 1, y2, σ125 => (if ((r_isReached σ125) (ix z1)) = (0 : Int32) then σ125 else (if ((r_isFreed σ125) (ix z1)) = (0 : Int32) then (fX6_findReached_L125 z1 f (y2 + 1) (fX6_reach σ125 ((r_field σ125) (ix (((6 : Int32) * z1) + y2))))) else σ125))
def fX6_findReached_L115 : Nat → Int32 → RSt → RSt
  | 0, y1, σ115 => σ115
  | f + 1, y1, σ115 => (fX6_findReached_L115 f (y1 + 1) (fX6_findReached_L125 y1 (((Int32.toInt ((r_many σ115) (ix y1))) - (Int32.toInt (0 : Int32))).toNat) (0 : Int32) σ115))
def fX6_findReached_L182 : Nat → Int32 → RSt → RSt
  | 0, y1, σ182 => σ182
  | f + 1, y1, σ182 => (if ((r_isPair σ182) (ix y1)) = (0 : Int32) then (fX6_findReached_L182 f (y1 + 1) σ182) else (if ((r_isReached σ182) (ix ((r_key σ182) (ix y1)))) = (0 : Int32) then (fX6_findReached_L182 f (y1 + 1) σ182) else (fX6_findReached_L182 f (y1 + 1) (fX6_reach σ182 ((r_value σ182) (ix y1))))))
def fX6_findReached_L101 : Nat → RSt → RSt
  | 0, σ101 => σ101
  | f + 1, σ101 => (if (r_more σ101) = (0 : Int32) then σ101 else (fX6_findReached_L101 f (fX6_findReached_L182 (((Int32.toInt (r_pairs (fX6_findReached_L115 (((Int32.toInt (r_things (r_more_s σ101 (0 : Int32)))) - (Int32.toInt (0 : Int32))).toNat) (0 : Int32) (r_more_s σ101 (0 : Int32))))) - (Int32.toInt (0 : Int32))).toNat) (0 : Int32) (fX6_findReached_L115 (((Int32.toInt (r_things (r_more_s σ101 (0 : Int32)))) - (Int32.toInt (0 : Int32))).toNat) (0 : Int32) (r_more_s σ101 (0 : Int32))))))

def fX6_findReached (σ : RSt) : RSt := (fX6_findReached_L101 1000 (r_more_s (fX6_findReached_L72 (((Int32.toInt (r_wishes (fX6_findReached_L49 (((Int32.toInt (4 : Int32)) - (Int32.toInt (0 : Int32))).toNat) (0 : Int32) (fX6_findReached_L25 (((Int32.toInt (12 : Int32)) - (Int32.toInt (0 : Int32))).toNat) (0 : Int32) (fX6_findReached_L2 (((Int32.toInt (r_things σ)) - (Int32.toInt (0 : Int32))).toNat) (0 : Int32) σ))))) - (Int32.toInt (0 : Int32))).toNat) (0 : Int32) (fX6_findReached_L49 (((Int32.toInt (4 : Int32)) - (Int32.toInt (0 : Int32))).toNat) (0 : Int32) (fX6_findReached_L25 (((Int32.toInt (12 : Int32)) - (Int32.toInt (0 : Int32))).toNat) (0 : Int32) (fX6_findReached_L2 (((Int32.toInt (r_things σ)) - (Int32.toInt (0 : Int32))).toNat) (0 : Int32) σ)))) (1 : Int32)))
theorem hdX6_findReached : yX6_findReached.cls = RX6 ∧ yX6_findReached.cls ≠ "java/lang/invoke/MethodHandle" ∧ yX6_findReached.cls ≠ "java/lang/invoke/VarHandle" ∧ (parseMethodDescriptor yX6_findReached.desc).map (fun d => d.parameters.length) = some 0 := by decide +kernel
theorem sa_fr_L2 (f : Nat) : ∀ (y : Int32) (σ : RSt), SA σ (fX6_findReached_L2 f y σ) := by
  induction f with
  | zero => intro y σ; exact sa_rf σ
  | succ f ih => intro y σ; exact sa_tr (sa_isReached _ _) (ih _ _)
theorem sa_fr_L25 (f : Nat) : ∀ (y : Int32) (σ : RSt), SA σ (fX6_findReached_L25 f y σ) := by
  induction f with
  | zero => intro y σ; exact sa_rf σ
  | succ f ih => intro y σ; exact sa_tr (sa_reach _ _) (ih _ _)
theorem sa_fr_L49 (f : Nat) : ∀ (y : Int32) (σ : RSt), SA σ (fX6_findReached_L49 f y σ) := by
  induction f with
  | zero => intro y σ; exact sa_rf σ
  | succ f ih => intro y σ; exact sa_tr (sa_reach _ _) (ih _ _)
theorem sa_fr_L72 (f : Nat) : ∀ (y : Int32) (σ : RSt), SA σ (fX6_findReached_L72 f y σ) := by
  induction f with
  | zero => intro y σ; exact sa_rf σ
  | succ f ih => intro y σ; exact sa_tr (sa_reach _ _) (ih _ _)
theorem sa_fr_L125 (z : Int32) (f : Nat) : ∀ (y : Int32) (σ : RSt), SA σ (fX6_findReached_L125 z f y σ) := by
  induction f with
  | zero => intro y σ; exact sa_rf σ
  | succ f ih =>
    intro y σ
    unfold fX6_findReached_L125
    split
    · exact sa_rf σ
    · split
      · exact sa_tr (sa_reach _ _) (ih _ _)
      · exact sa_rf σ
theorem sa_fr_L115 (f : Nat) : ∀ (y : Int32) (σ : RSt), SA σ (fX6_findReached_L115 f y σ) := by
  induction f with
  | zero => intro y σ; exact sa_rf σ
  | succ f ih => intro y σ; exact sa_tr (sa_fr_L125 _ _ _ _) (ih _ _)
theorem sa_fr_L182 (f : Nat) : ∀ (y : Int32) (σ : RSt), SA σ (fX6_findReached_L182 f y σ) := by
  induction f with
  | zero => intro y σ; exact sa_rf σ
  | succ f ih =>
    intro y σ
    unfold fX6_findReached_L182
    split
    · exact ih _ _
    · split
      · exact ih _ _
      · exact sa_tr (sa_reach _ _) (ih _ _)
theorem rp_fr_L125 (z : Int32) (f : Nat) : ∀ (y : Int32) (σ : RSt), S0 σ → RP σ (fX6_findReached_L125 z f y σ) := by
  induction f with
  | zero => intro y σ _; exact rp_rf σ
  | succ f ih =>
    intro y σ hS
    unfold fX6_findReached_L125
    split
    · exact rp_rf σ
    · split
      · exact rp_tr (rp_reach (s0_field hS _)) (ih _ _ (s0_sa (sa_reach _ _) hS))
      · exact rp_rf σ
theorem rp_fr_L115 (f : Nat) : ∀ (y : Int32) (σ : RSt), S0 σ → RP σ (fX6_findReached_L115 f y σ) := by
  induction f with
  | zero => intro y σ _; exact rp_rf σ
  | succ f ih => intro y σ hS; exact rp_tr (rp_fr_L125 _ _ _ _ hS) (ih _ _ (s0_sa (sa_fr_L125 _ _ _ _) hS))
theorem rp_fr_L182 (f : Nat) : ∀ (y : Int32) (σ : RSt), S0 σ → RP σ (fX6_findReached_L182 f y σ) := by
  induction f with
  | zero => intro y σ _; exact rp_rf σ
  | succ f ih =>
    intro y σ hS
    unfold fX6_findReached_L182
    split
    · exact ih _ _ hS
    · split
      · exact ih _ _ hS
      · exact rp_tr (rp_reach (s0_value hS _)) (ih _ _ (s0_sa (sa_reach _ _) hS))
theorem nu_lt (σ : RSt) : nuR σ < 1000 := by
  unfold nuR
  split <;> omega
theorem sa_fr_L101 (f : Nat) : ∀ (σ : RSt), SA σ (fX6_findReached_L101 f σ) := by
  induction f with
  | zero => intro σ; exact sa_rf σ
  | succ f ih =>
    intro σ
    unfold fX6_findReached_L101
    split
    · exact sa_rf σ
    · exact sa_tr (sa_tr (sa_tr (sa_more _ _) (sa_fr_L115 _ _ _)) (sa_fr_L182 _ _ _)) (ih _)
theorem sa_findReached (σ : RSt) : SA σ (fX6_findReached σ) := by
  unfold fX6_findReached
  exact sa_tr (sa_tr (sa_tr (sa_tr (sa_tr (sa_fr_L2 _ _ _) (sa_fr_L25 _ _ _)) (sa_fr_L49 _ _ _)) (sa_fr_L72 _ _ _)) (sa_more _ _)) (sa_fr_L101 _ _)

set_option maxHeartbeats 250000 in
set_option maxRecDepth 100000 in
theorem kX6_findReached (l : Launch) (D : va_G) (a : Nat → Nat) (cI cZ : ClassId) (σ : RSt) (hS : S0 σ) : CU l D (tyIZ cI cZ) (wR a cI cZ) yX6_findReached cX6_findReached 3 (rmk 1 21) [.ref (a 0)] σ (fX6_findReached σ) := by
  refine CU.of pnX6 ⟨rfl, rfl⟩ (Nat.le_of_ble_eq_true rfl) (fun p e s m args below meth c A Q ls C X hA hl ret => ?_)
  have C : Cx p s m args meth c cX6_findReached 3 RX6 D (tyIZ cI cZ) := C
  have hx := C.1
  have hb := C.2.1
  have hl : lv_has ls 3 [(0, .ref (a 0))] := hl
  refine lv_iconst (v := (0)) hx hb dX6_findReached_0 (by decide) ?_
  refine lv_istore_n (lv' := [(1, .int (0 : Int32)), (0, .ref (a 0))]) hx hb dX6_findReached_1 rfl hl (by decide) rfl (fun ls hl => ?_)
  have L2 : ∀ (res : RSt) (hx2 : ∀ (H : Heap) (locs : List Loc) (ls : Array Slot), Sx A D (wR a cI cZ res) s H locs → lv_has ls 3 [(0, .ref (a 0))] → W p l e (rmk 1 21) s m args below meth c H locs 0 0 Q (F0 m 23 ls [])) (f : Nat) (y1 : Int32) (σ2 : RSt) (hf : ((Int32.toInt (r_things σ2)) - (Int32.toInt y1)).toNat = f) (hnn : 0 ≤ Int32.toInt y1) (hS : S0 σ2) (he : fX6_findReached_L2 f y1 σ2 = res) (H : Heap) (locs : List Loc) (ls : Array Slot) (X : Sx A D (wR a cI cZ σ2) s H locs) (hl : lv_has ls 3 [(0, .ref (a 0)), (1, .int y1)]), W p l e (rmk 1 21) s m args below meth c H locs 0 0 Q (F0 m 2 ls []) := by
    intro res hx2 f
    induction f with
    | zero =>
      intro y1 σ2 hf hnn hS he H locs ls X hl
      refine lv_iload_n hx hb dX6_findReached_2 rfl (lv_at hl 1 rfl) ?_
      refine lv_aload_n hx hb dX6_findReached_3 rfl (lv_at hl 0 rfl) ?_
      refine rg_X6_X6_things (v := (r_things σ2)) C X rfl dX6_findReached_4 ?_
      refine lv_icmp_ge (tgt := 23) hx hb dX6_findReached_7 (by decide) (fun c7 => ?_) (fun c7 => (lp_z hf c7).elim)
      exact hx2 _ _ _ (Eq.subst (motive := fun z => Sx A D (wR a cI cZ z) s _ _) he X) (Eq.subst (motive := fun z => lv_has _ 3 [(0, .ref (a 0))]) he (lv_sub hl [0] rfl))
    | succ f ih2 =>
      intro y1 σ2 hf hnn hS he H locs ls X hl
      refine lv_iload_n hx hb dX6_findReached_2 rfl (lv_at hl 1 rfl) ?_
      refine lv_aload_n hx hb dX6_findReached_3 rfl (lv_at hl 0 rfl) ?_
      refine rg_X6_X6_things (v := (r_things σ2)) C X rfl dX6_findReached_4 ?_
      refine lv_icmp_ge (tgt := 23) hx hb dX6_findReached_7 (by decide) (fun c7 => (lp_s hf c7).elim) (fun c7 => ?_)
      refine lv_aload_n hx hb dX6_findReached_10 rfl (lv_at hl 0 rfl) ?_
      refine rg_X6_X6_isReached C X dX6_findReached_11 ?_
      refine lv_iload_n hx hb dX6_findReached_14 rfl (lv_at hl 1 rfl) ?_
      refine lv_iconst (v := (0)) hx hb dX6_findReached_15 (by decide) ?_
      refine rs_isReached (x1 := (0 : Int32)) (g := (upd (r_isReached σ2) (ix y1) (0 : Int32))) C X (lp_in hnn hf (s0_th hS)) rfl rfl dX6_findReached_16 (fun H locs X => ?_)
      refine lv_iinc (v := (y1 + 1)) (lv' := [(1, .int (y1 + 1)), (0, .ref (a 0))]) hx hb dX6_findReached_17 hl (k := 1) rfl rfl (by decide) rfl (fun ls hl => ?_)
      refine lv_goto (tgt := 2) hx hb dX6_findReached_20 (by decide) ?_
      exact ih2 (y1 + 1) (r_isReached_s σ2 (upd (r_isReached σ2) (ix y1) (0 : Int32))) (lp_b hf) (lp_nn hnn hf) (s0_sa (sa_isReached _ _) hS) he _ _ _ X (lv_sub hl [1, 0] rfl)
  refine L2 (fX6_findReached_L2 (((Int32.toInt (r_things σ)) - (Int32.toInt (0 : Int32))).toNat) (0 : Int32) σ) (fun H locs ls X hl => ?_) (((Int32.toInt (r_things σ)) - (Int32.toInt (0 : Int32))).toNat) (0 : Int32) σ rfl (by decide) (hS) rfl _ _ _ X (lv_sub hl [1, 0] rfl)
  refine lv_iconst (v := (0)) hx hb dX6_findReached_23 (by decide) ?_
  refine lv_istore_n (lv' := [(1, .int (0 : Int32)), (0, .ref (a 0))]) hx hb dX6_findReached_24 rfl hl (by decide) rfl (fun ls hl => ?_)
  have L25 : ∀ (res : RSt) (hx25 : ∀ (H : Heap) (locs : List Loc) (ls : Array Slot), Sx A D (wR a cI cZ res) s H locs → lv_has ls 3 [(0, .ref (a 0))] → W p l e (rmk 1 21) s m args below meth c H locs 0 0 Q (F0 m 47 ls [])) (f : Nat) (y1 : Int32) (σ25 : RSt) (hf : ((Int32.toInt (12 : Int32)) - (Int32.toInt y1)).toNat = f) (hnn : 0 ≤ Int32.toInt y1) (hS : S0 σ25) (he : fX6_findReached_L25 f y1 σ25 = res) (H : Heap) (locs : List Loc) (ls : Array Slot) (X : Sx A D (wR a cI cZ σ25) s H locs) (hl : lv_has ls 3 [(0, .ref (a 0)), (1, .int y1)]), W p l e (rmk 1 21) s m args below meth c H locs 0 0 Q (F0 m 25 ls []) := by
    intro res hx25 f
    induction f with
    | zero =>
      intro y1 σ25 hf hnn hS he H locs ls X hl
      refine lv_iload_n hx hb dX6_findReached_25 rfl (lv_at hl 1 rfl) ?_
      refine lv_bipush (v := (12)) hx hb dX6_findReached_26 (by decide) ?_
      refine lv_icmp_ge (tgt := 47) hx hb dX6_findReached_28 (by decide) (fun c28 => ?_) (fun c28 => (lp_z hf c28).elim)
      exact hx25 _ _ _ (Eq.subst (motive := fun z => Sx A D (wR a cI cZ z) s _ _) he X) (Eq.subst (motive := fun z => lv_has _ 3 [(0, .ref (a 0))]) he (lv_sub hl [0] rfl))
    | succ f ih25 =>
      intro y1 σ25 hf hnn hS he H locs ls X hl
      refine lv_iload_n hx hb dX6_findReached_25 rfl (lv_at hl 1 rfl) ?_
      refine lv_bipush (v := (12)) hx hb dX6_findReached_26 (by decide) ?_
      refine lv_icmp_ge (tgt := 47) hx hb dX6_findReached_28 (by decide) (fun c28 => (lp_s hf c28).elim) (fun c28 => ?_)
      refine lv_aload_n hx hb dX6_findReached_31 rfl (lv_at hl 0 rfl) ?_
      refine lv_aload_n hx hb dX6_findReached_32 rfl (lv_at hl 0 rfl) ?_
      refine rg_X6_X6_register C X dX6_findReached_33 ?_
      refine lv_iload_n hx hb dX6_findReached_36 rfl (lv_at hl 1 rfl) ?_
      refine ra_register (v := ((r_register σ25) (ix y1))) C X (lp_in hnn hf (show (Int32.toInt (12 : Int32) : Int) ≤ 12 by decide)) rfl dX6_findReached_37 ?_
      refine callVU (rest := []) C hA (wR_sh a cI cZ) X (kX6_reach l D a cI cZ _ ((r_register σ25) (ix y1)) (s0_register hS _)) (cwV 1 C.2.2.2.2.1 (gV wl_X6_180 wt_yX6_reach ws_yX6_reach wi_X6 wk_yX6_reach) rfl rfl rfl hdX6_reach ⟨Nat.le_of_ble_eq_true rfl, Nat.le_of_ble_eq_true rfl⟩) (ci := 6) (q0 := 0) rfl rfl rfl hl.1 rfl (Nat.le_of_ble_eq_true rfl) dX6_findReached_38 ⟨Nat.le_refl 0, Nat.le_refl 0⟩ (fun H locs X => ?_)
      refine lv_iinc (v := (y1 + 1)) (lv' := [(1, .int (y1 + 1)), (0, .ref (a 0))]) hx hb dX6_findReached_41 hl (k := 1) rfl rfl (by decide) rfl (fun ls hl => ?_)
      refine lv_goto (tgt := 25) hx hb dX6_findReached_44 (by decide) ?_
      exact ih25 (y1 + 1) (fX6_reach σ25 ((r_register σ25) (ix y1))) (lp_b hf) (lp_nn hnn hf) (s0_sa (sa_reach _ _) hS) he _ _ _ X (lv_sub hl [1, 0] rfl)
  refine L25 (fX6_findReached_L25 (((Int32.toInt (12 : Int32)) - (Int32.toInt (0 : Int32))).toNat) (0 : Int32) (fX6_findReached_L2 (((Int32.toInt (r_things σ)) - (Int32.toInt (0 : Int32))).toNat) (0 : Int32) σ)) (fun H locs ls X hl => ?_) (((Int32.toInt (12 : Int32)) - (Int32.toInt (0 : Int32))).toNat) (0 : Int32) (fX6_findReached_L2 (((Int32.toInt (r_things σ)) - (Int32.toInt (0 : Int32))).toNat) (0 : Int32) σ) rfl (by decide) (s0_sa (sa_fr_L2 _ _ _) hS) rfl _ _ _ X (lv_sub hl [1, 0] rfl)
  refine lv_iconst (v := (0)) hx hb dX6_findReached_47 (by decide) ?_
  refine lv_istore_n (lv' := [(1, .int (0 : Int32)), (0, .ref (a 0))]) hx hb dX6_findReached_48 rfl hl (by decide) rfl (fun ls hl => ?_)
  have L49 : ∀ (res : RSt) (hx49 : ∀ (H : Heap) (locs : List Loc) (ls : Array Slot), Sx A D (wR a cI cZ res) s H locs → lv_has ls 3 [(0, .ref (a 0))] → W p l e (rmk 1 21) s m args below meth c H locs 0 0 Q (F0 m 70 ls [])) (f : Nat) (y1 : Int32) (σ49 : RSt) (hf : ((Int32.toInt (4 : Int32)) - (Int32.toInt y1)).toNat = f) (hnn : 0 ≤ Int32.toInt y1) (hS : S0 σ49) (he : fX6_findReached_L49 f y1 σ49 = res) (H : Heap) (locs : List Loc) (ls : Array Slot) (X : Sx A D (wR a cI cZ σ49) s H locs) (hl : lv_has ls 3 [(0, .ref (a 0)), (1, .int y1)]), W p l e (rmk 1 21) s m args below meth c H locs 0 0 Q (F0 m 49 ls []) := by
    intro res hx49 f
    induction f with
    | zero =>
      intro y1 σ49 hf hnn hS he H locs ls X hl
      refine lv_iload_n hx hb dX6_findReached_49 rfl (lv_at hl 1 rfl) ?_
      refine lv_iconst (v := (4)) hx hb dX6_findReached_50 (by decide) ?_
      refine lv_icmp_ge (tgt := 70) hx hb dX6_findReached_51 (by decide) (fun c51 => ?_) (fun c51 => (lp_z hf c51).elim)
      exact hx49 _ _ _ (Eq.subst (motive := fun z => Sx A D (wR a cI cZ z) s _ _) he X) (Eq.subst (motive := fun z => lv_has _ 3 [(0, .ref (a 0))]) he (lv_sub hl [0] rfl))
    | succ f ih49 =>
      intro y1 σ49 hf hnn hS he H locs ls X hl
      refine lv_iload_n hx hb dX6_findReached_49 rfl (lv_at hl 1 rfl) ?_
      refine lv_iconst (v := (4)) hx hb dX6_findReached_50 (by decide) ?_
      refine lv_icmp_ge (tgt := 70) hx hb dX6_findReached_51 (by decide) (fun c51 => (lp_s hf c51).elim) (fun c51 => ?_)
      refine lv_aload_n hx hb dX6_findReached_54 rfl (lv_at hl 0 rfl) ?_
      refine lv_aload_n hx hb dX6_findReached_55 rfl (lv_at hl 0 rfl) ?_
      refine rg_X6_X6_slot C X dX6_findReached_56 ?_
      refine lv_iload_n hx hb dX6_findReached_59 rfl (lv_at hl 1 rfl) ?_
      refine ra_slot (v := ((r_slot σ49) (ix y1))) C X (lp_in hnn hf (show (Int32.toInt (4 : Int32) : Int) ≤ 4 by decide)) rfl dX6_findReached_60 ?_
      refine callVU (rest := []) C hA (wR_sh a cI cZ) X (kX6_reach l D a cI cZ _ ((r_slot σ49) (ix y1)) (s0_slot hS _)) (cwV 1 C.2.2.2.2.1 (gV wl_X6_180 wt_yX6_reach ws_yX6_reach wi_X6 wk_yX6_reach) rfl rfl rfl hdX6_reach ⟨Nat.le_of_ble_eq_true rfl, Nat.le_of_ble_eq_true rfl⟩) (ci := 6) (q0 := 0) rfl rfl rfl hl.1 rfl (Nat.le_of_ble_eq_true rfl) dX6_findReached_61 ⟨Nat.le_refl 0, Nat.le_refl 0⟩ (fun H locs X => ?_)
      refine lv_iinc (v := (y1 + 1)) (lv' := [(1, .int (y1 + 1)), (0, .ref (a 0))]) hx hb dX6_findReached_64 hl (k := 1) rfl rfl (by decide) rfl (fun ls hl => ?_)
      refine lv_goto (tgt := 49) hx hb dX6_findReached_67 (by decide) ?_
      exact ih49 (y1 + 1) (fX6_reach σ49 ((r_slot σ49) (ix y1))) (lp_b hf) (lp_nn hnn hf) (s0_sa (sa_reach _ _) hS) he _ _ _ X (lv_sub hl [1, 0] rfl)
  refine L49 (fX6_findReached_L49 (((Int32.toInt (4 : Int32)) - (Int32.toInt (0 : Int32))).toNat) (0 : Int32) (fX6_findReached_L25 (((Int32.toInt (12 : Int32)) - (Int32.toInt (0 : Int32))).toNat) (0 : Int32) (fX6_findReached_L2 (((Int32.toInt (r_things σ)) - (Int32.toInt (0 : Int32))).toNat) (0 : Int32) σ))) (fun H locs ls X hl => ?_) (((Int32.toInt (4 : Int32)) - (Int32.toInt (0 : Int32))).toNat) (0 : Int32) (fX6_findReached_L25 (((Int32.toInt (12 : Int32)) - (Int32.toInt (0 : Int32))).toNat) (0 : Int32) (fX6_findReached_L2 (((Int32.toInt (r_things σ)) - (Int32.toInt (0 : Int32))).toNat) (0 : Int32) σ)) rfl (by decide) (s0_sa (sa_tr (sa_fr_L2 _ _ _) (sa_fr_L25 _ _ _)) hS) rfl _ _ _ X (lv_sub hl [1, 0] rfl)
  refine lv_iconst (v := (0)) hx hb dX6_findReached_70 (by decide) ?_
  refine lv_istore_n (lv' := [(1, .int (0 : Int32)), (0, .ref (a 0))]) hx hb dX6_findReached_71 rfl hl (by decide) rfl (fun ls hl => ?_)
  have L72 : ∀ (res : RSt) (hx72 : ∀ (H : Heap) (locs : List Loc) (ls : Array Slot), Sx A D (wR a cI cZ res) s H locs → lv_has ls 3 [(0, .ref (a 0))] → W p l e (rmk 1 21) s m args below meth c H locs 0 0 Q (F0 m 96 ls [])) (f : Nat) (y1 : Int32) (σ72 : RSt) (hf : ((Int32.toInt (r_wishes σ72)) - (Int32.toInt y1)).toNat = f) (hnn : 0 ≤ Int32.toInt y1) (hS : S0 σ72) (he : fX6_findReached_L72 f y1 σ72 = res) (H : Heap) (locs : List Loc) (ls : Array Slot) (X : Sx A D (wR a cI cZ σ72) s H locs) (hl : lv_has ls 3 [(0, .ref (a 0)), (1, .int y1)]), W p l e (rmk 1 21) s m args below meth c H locs 0 0 Q (F0 m 72 ls []) := by
    intro res hx72 f
    induction f with
    | zero =>
      intro y1 σ72 hf hnn hS he H locs ls X hl
      refine lv_iload_n hx hb dX6_findReached_72 rfl (lv_at hl 1 rfl) ?_
      refine lv_aload_n hx hb dX6_findReached_73 rfl (lv_at hl 0 rfl) ?_
      refine rg_X6_X6_wishes (v := (r_wishes σ72)) C X rfl dX6_findReached_74 ?_
      refine lv_icmp_ge (tgt := 96) hx hb dX6_findReached_77 (by decide) (fun c77 => ?_) (fun c77 => (lp_z hf c77).elim)
      exact hx72 _ _ _ (Eq.subst (motive := fun z => Sx A D (wR a cI cZ z) s _ _) he X) (Eq.subst (motive := fun z => lv_has _ 3 [(0, .ref (a 0))]) he (lv_sub hl [0] rfl))
    | succ f ih72 =>
      intro y1 σ72 hf hnn hS he H locs ls X hl
      refine lv_iload_n hx hb dX6_findReached_72 rfl (lv_at hl 1 rfl) ?_
      refine lv_aload_n hx hb dX6_findReached_73 rfl (lv_at hl 0 rfl) ?_
      refine rg_X6_X6_wishes (v := (r_wishes σ72)) C X rfl dX6_findReached_74 ?_
      refine lv_icmp_ge (tgt := 96) hx hb dX6_findReached_77 (by decide) (fun c77 => (lp_s hf c77).elim) (fun c77 => ?_)
      refine lv_aload_n hx hb dX6_findReached_80 rfl (lv_at hl 0 rfl) ?_
      refine lv_aload_n hx hb dX6_findReached_81 rfl (lv_at hl 0 rfl) ?_
      refine rg_X6_X6_wishAt C X dX6_findReached_82 ?_
      refine lv_iload_n hx hb dX6_findReached_85 rfl (lv_at hl 1 rfl) ?_
      refine ra_wishAt (v := ((r_wishAt σ72) (ix y1))) C X (lp_in hnn hf (s0_wishes hS)) rfl dX6_findReached_86 ?_
      refine callVU (rest := []) C hA (wR_sh a cI cZ) X (kX6_reach l D a cI cZ _ ((r_wishAt σ72) (ix y1)) (s0_wishAt hS _)) (cwV 1 C.2.2.2.2.1 (gV wl_X6_180 wt_yX6_reach ws_yX6_reach wi_X6 wk_yX6_reach) rfl rfl rfl hdX6_reach ⟨Nat.le_of_ble_eq_true rfl, Nat.le_of_ble_eq_true rfl⟩) (ci := 6) (q0 := 0) rfl rfl rfl hl.1 rfl (Nat.le_of_ble_eq_true rfl) dX6_findReached_87 ⟨Nat.le_refl 0, Nat.le_refl 0⟩ (fun H locs X => ?_)
      refine lv_iinc (v := (y1 + 1)) (lv' := [(1, .int (y1 + 1)), (0, .ref (a 0))]) hx hb dX6_findReached_90 hl (k := 1) rfl rfl (by decide) rfl (fun ls hl => ?_)
      refine lv_goto (tgt := 72) hx hb dX6_findReached_93 (by decide) ?_
      exact ih72 (y1 + 1) (fX6_reach σ72 ((r_wishAt σ72) (ix y1))) (by first | with_reducible exact lp_b hf | (rw [wishes_reach]; exact lp_b hf)) (lp_nn hnn hf) (s0_sa (sa_reach _ _) hS) he _ _ _ X (lv_sub hl [1, 0] rfl)
  refine L72 (fX6_findReached_L72 (((Int32.toInt (r_wishes (fX6_findReached_L49 (((Int32.toInt (4 : Int32)) - (Int32.toInt (0 : Int32))).toNat) (0 : Int32) (fX6_findReached_L25 (((Int32.toInt (12 : Int32)) - (Int32.toInt (0 : Int32))).toNat) (0 : Int32) (fX6_findReached_L2 (((Int32.toInt (r_things σ)) - (Int32.toInt (0 : Int32))).toNat) (0 : Int32) σ))))) - (Int32.toInt (0 : Int32))).toNat) (0 : Int32) (fX6_findReached_L49 (((Int32.toInt (4 : Int32)) - (Int32.toInt (0 : Int32))).toNat) (0 : Int32) (fX6_findReached_L25 (((Int32.toInt (12 : Int32)) - (Int32.toInt (0 : Int32))).toNat) (0 : Int32) (fX6_findReached_L2 (((Int32.toInt (r_things σ)) - (Int32.toInt (0 : Int32))).toNat) (0 : Int32) σ)))) (fun H locs ls X hl => ?_) (((Int32.toInt (r_wishes (fX6_findReached_L49 (((Int32.toInt (4 : Int32)) - (Int32.toInt (0 : Int32))).toNat) (0 : Int32) (fX6_findReached_L25 (((Int32.toInt (12 : Int32)) - (Int32.toInt (0 : Int32))).toNat) (0 : Int32) (fX6_findReached_L2 (((Int32.toInt (r_things σ)) - (Int32.toInt (0 : Int32))).toNat) (0 : Int32) σ))))) - (Int32.toInt (0 : Int32))).toNat) (0 : Int32) (fX6_findReached_L49 (((Int32.toInt (4 : Int32)) - (Int32.toInt (0 : Int32))).toNat) (0 : Int32) (fX6_findReached_L25 (((Int32.toInt (12 : Int32)) - (Int32.toInt (0 : Int32))).toNat) (0 : Int32) (fX6_findReached_L2 (((Int32.toInt (r_things σ)) - (Int32.toInt (0 : Int32))).toNat) (0 : Int32) σ))) rfl (by decide) (s0_sa (sa_tr (sa_tr (sa_fr_L2 _ _ _) (sa_fr_L25 _ _ _)) (sa_fr_L49 _ _ _)) hS) rfl _ _ _ X (lv_sub hl [1, 0] rfl)
  refine lv_aload_n hx hb dX6_findReached_96 rfl (lv_at hl 0 rfl) ?_
  refine lv_iconst (v := (1)) hx hb dX6_findReached_97 (by decide) ?_
  refine rp_X6_X6_more C X rfl rfl dX6_findReached_98 (fun H locs X => ?_)
  have L101 : ∀ (f : Nat) (σ101 : RSt) (hS : S0 σ101) (hmu : nuR σ101 < f) (he : fX6_findReached_L101 f σ101 = (fX6_findReached σ)) (H : Heap) (locs : List Loc) (ls : Array Slot) (X : Sx A D (wR a cI cZ σ101) s H locs) (hl : lv_has ls 3 [(0, .ref (a 0))]), W p l e (rmk 1 21) s m args below meth c H locs 0 0 Q (F0 m 101 ls []) := by
    intro f
    induction f with
    | zero =>
      intro σ101 hS hmu he H locs ls X hl
      exact absurd hmu (Nat.not_lt_zero _)
    | succ f ih101 =>
      intro σ101 hS hmu he H locs ls X hl
      refine lv_aload_n hx hb dX6_findReached_101 rfl (lv_at hl 0 rfl) ?_
      refine rg_X6_X6_more (v := (r_more σ101)) C X rfl dX6_findReached_102 ?_
      refine lv_if_eq (tgt := 232) hx hb dX6_findReached_105 (by decide) (fun c105 => ?_) (fun c105 => ?_)
      · exact ret dX6_findReached_232 (Eq.trans (Eq.symm (if_pos c105)) he) X
      · refine lv_aload_n hx hb dX6_findReached_108 rfl (lv_at hl 0 rfl) ?_
        refine lv_iconst (v := (0)) hx hb dX6_findReached_109 (by decide) ?_
        refine rp_X6_X6_more C X rfl rfl dX6_findReached_110 (fun H locs X => ?_)
        refine lv_iconst (v := (0)) hx hb dX6_findReached_113 (by decide) ?_
        refine lv_istore_n (lv' := [(1, .int (0 : Int32)), (0, .ref (a 0))]) hx hb dX6_findReached_114 rfl hl (by decide) rfl (fun ls hl => ?_)
        have L115 : ∀ (res : RSt) (hx115 : ∀ (H : Heap) (locs : List Loc) (ls : Array Slot), Sx A D (wR a cI cZ res) s H locs → lv_has ls 3 [(0, .ref (a 0))] → W p l e (rmk 1 21) s m args below meth c H locs 0 0 Q (F0 m 180 ls [])) (f : Nat) (y1 : Int32) (σ115 : RSt) (hf : ((Int32.toInt (r_things σ115)) - (Int32.toInt y1)).toNat = f) (hnn : 0 ≤ Int32.toInt y1) (hS : S0 σ115) (he : fX6_findReached_L115 f y1 σ115 = res) (H : Heap) (locs : List Loc) (ls : Array Slot) (X : Sx A D (wR a cI cZ σ115) s H locs) (hl : lv_has ls 3 [(0, .ref (a 0)), (1, .int y1)]), W p l e (rmk 1 21) s m args below meth c H locs 0 0 Q (F0 m 115 ls []) := by
          intro res hx115 f
          induction f with
          | zero =>
            intro y1 σ115 hf hnn hS he H locs ls X hl
            refine lv_iload_n hx hb dX6_findReached_115 rfl (lv_at hl 1 rfl) ?_
            refine lv_aload_n hx hb dX6_findReached_116 rfl (lv_at hl 0 rfl) ?_
            refine rg_X6_X6_things (v := (r_things σ115)) C X rfl dX6_findReached_117 ?_
            refine lv_icmp_ge (tgt := 180) hx hb dX6_findReached_120 (by decide) (fun c120 => ?_) (fun c120 => (lp_z hf c120).elim)
            exact hx115 _ _ _ (Eq.subst (motive := fun z => Sx A D (wR a cI cZ z) s _ _) he X) (Eq.subst (motive := fun z => lv_has _ 3 [(0, .ref (a 0))]) he (lv_sub hl [0] rfl))
          | succ f ih115 =>
            intro y1 σ115 hf hnn hS he H locs ls X hl
            refine lv_iload_n hx hb dX6_findReached_115 rfl (lv_at hl 1 rfl) ?_
            refine lv_aload_n hx hb dX6_findReached_116 rfl (lv_at hl 0 rfl) ?_
            refine rg_X6_X6_things (v := (r_things σ115)) C X rfl dX6_findReached_117 ?_
            refine lv_icmp_ge (tgt := 180) hx hb dX6_findReached_120 (by decide) (fun c120 => (lp_s hf c120).elim) (fun c120 => ?_)
            have hi115 : vp_in y1 120 := lp_in hnn hf (s0_th hS)
            refine lv_iconst (v := (0)) hx hb dX6_findReached_123 (by decide) ?_
            refine lv_istore_n (lv' := [(2, .int (0 : Int32)), (0, .ref (a 0)), (1, .int y1)]) hx hb dX6_findReached_124 rfl hl (by decide) rfl (fun ls hl => ?_)
            have L125 : ∀ (res : RSt) (hx125 : ∀ (H : Heap) (locs : List Loc) (ls : Array Slot), Sx A D (wR a cI cZ res) s H locs → lv_has ls 3 [(0, .ref (a 0)), (1, .int y1)] → W p l e (rmk 1 21) s m args below meth c H locs 0 0 Q (F0 m 174 ls [])) (f : Nat) (y2 : Int32) (σ125 : RSt) (hf : ((Int32.toInt ((r_many σ125) (ix y1))) - (Int32.toInt y2)).toNat = f) (hnn : 0 ≤ Int32.toInt y2) (hS : S0 σ125) (he : fX6_findReached_L125 y1 f y2 σ125 = res) (H : Heap) (locs : List Loc) (ls : Array Slot) (X : Sx A D (wR a cI cZ σ125) s H locs) (hl : lv_has ls 3 [(0, .ref (a 0)), (1, .int y1), (2, .int y2)]), W p l e (rmk 1 21) s m args below meth c H locs 0 0 Q (F0 m 125 ls []) := by
              intro res hx125 f
              induction f with
              | zero =>
                intro y2 σ125 hf hnn hS he H locs ls X hl
                refine lv_iload_n hx hb dX6_findReached_125 rfl (lv_at hl 2 rfl) ?_
                refine lv_aload_n hx hb dX6_findReached_126 rfl (lv_at hl 0 rfl) ?_
                refine rg_X6_X6_many C X dX6_findReached_127 ?_
                refine lv_iload_n hx hb dX6_findReached_130 rfl (lv_at hl 1 rfl) ?_
                refine ra_many (v := ((r_many σ125) (ix y1))) C X hi115 rfl dX6_findReached_131 ?_
                refine lv_icmp_ge (tgt := 174) hx hb dX6_findReached_132 (by decide) (fun c132 => ?_) (fun c132 => (lp_z hf c132).elim)
                exact hx125 _ _ _ (Eq.subst (motive := fun z => Sx A D (wR a cI cZ z) s _ _) he X) (Eq.subst (motive := fun z => lv_has _ 3 [(0, .ref (a 0)), (1, .int y1)]) he (lv_sub hl [0, 1] rfl))
              | succ f ih125 =>
                intro y2 σ125 hf hnn hS he H locs ls X hl
                refine lv_iload_n hx hb dX6_findReached_125 rfl (lv_at hl 2 rfl) ?_
                refine lv_aload_n hx hb dX6_findReached_126 rfl (lv_at hl 0 rfl) ?_
                refine rg_X6_X6_many C X dX6_findReached_127 ?_
                refine lv_iload_n hx hb dX6_findReached_130 rfl (lv_at hl 1 rfl) ?_
                refine ra_many (v := ((r_many σ125) (ix y1))) C X hi115 rfl dX6_findReached_131 ?_
                refine lv_icmp_ge (tgt := 174) hx hb dX6_findReached_132 (by decide) (fun c132 => (lp_s hf c132).elim) (fun c132 => ?_)
                refine lv_aload_n hx hb dX6_findReached_135 rfl (lv_at hl 0 rfl) ?_
                refine rg_X6_X6_isReached C X dX6_findReached_136 ?_
                refine lv_iload_n hx hb dX6_findReached_139 rfl (lv_at hl 1 rfl) ?_
                refine ra_isReached (v := ((r_isReached σ125) (ix y1))) C X hi115 rfl dX6_findReached_140 ?_
                refine lv_if_eq (tgt := 174) hx hb dX6_findReached_141 (by decide) (fun c141 => ?_) (fun c141 => ?_)
                · exact hx125 _ _ _ (Eq.subst (motive := fun z => Sx A D (wR a cI cZ z) s _ _) (Eq.trans (Eq.symm (if_pos c141)) he) X) (Eq.subst (motive := fun z => lv_has _ 3 [(0, .ref (a 0)), (1, .int y1)]) (Eq.trans (Eq.symm (if_pos c141)) he) (lv_sub hl [0, 1] rfl))
                · refine lv_aload_n hx hb dX6_findReached_144 rfl (lv_at hl 0 rfl) ?_
                  refine rg_X6_X6_isFreed C X dX6_findReached_145 ?_
                  refine lv_iload_n hx hb dX6_findReached_148 rfl (lv_at hl 1 rfl) ?_
                  refine ra_isFreed (v := ((r_isFreed σ125) (ix y1))) C X hi115 rfl dX6_findReached_149 ?_
                  refine lv_if_ne (tgt := 174) hx hb dX6_findReached_150 (by decide) (fun c150 => ?_) (fun c150 => ?_)
                  · exact hx125 _ _ _ (Eq.subst (motive := fun z => Sx A D (wR a cI cZ z) s _ _) (Eq.trans (Eq.symm (Eq.trans (if_neg c141) (if_neg c150))) he) X) (Eq.subst (motive := fun z => lv_has _ 3 [(0, .ref (a 0)), (1, .int y1)]) (Eq.trans (Eq.symm (Eq.trans (if_neg c141) (if_neg c150))) he) (lv_sub hl [0, 1] rfl))
                  · refine lv_aload_n hx hb dX6_findReached_153 rfl (lv_at hl 0 rfl) ?_
                    refine lv_aload_n hx hb dX6_findReached_154 rfl (lv_at hl 0 rfl) ?_
                    refine rg_X6_X6_field C X dX6_findReached_155 ?_
                    refine lv_bipush (v := (6)) hx hb dX6_findReached_158 (by decide) ?_
                    refine lv_iload_n hx hb dX6_findReached_160 rfl (lv_at hl 1 rfl) ?_
                    refine lv_imul hx hb dX6_findReached_161 ?_
                    refine lv_iload_n hx hb dX6_findReached_162 rfl (lv_at hl 2 rfl) ?_
                    refine lv_iadd hx hb dX6_findReached_163 ?_
                    refine ra_field (v := ((r_field σ125) (ix (((6 : Int32) * y1) + y2)))) C X (in_6x hi115 (lp_in hnn hf (s0_many hS _))) rfl dX6_findReached_164 ?_
                    refine callVU (rest := []) C hA (wR_sh a cI cZ) X (kX6_reach l D a cI cZ _ ((r_field σ125) (ix (((6 : Int32) * y1) + y2))) (s0_field hS _)) (cwV 1 C.2.2.2.2.1 (gV wl_X6_180 wt_yX6_reach ws_yX6_reach wi_X6 wk_yX6_reach) rfl rfl rfl hdX6_reach ⟨Nat.le_of_ble_eq_true rfl, Nat.le_of_ble_eq_true rfl⟩) (ci := 6) (q0 := 0) rfl rfl rfl hl.1 rfl (Nat.le_of_ble_eq_true rfl) dX6_findReached_165 ⟨Nat.le_refl 0, Nat.le_refl 0⟩ (fun H locs X => ?_)
                    refine lv_iinc (v := (y2 + 1)) (lv' := [(2, .int (y2 + 1)), (0, .ref (a 0)), (1, .int y1)]) hx hb dX6_findReached_168 hl (k := 2) rfl rfl (by decide) rfl (fun ls hl => ?_)
                    refine lv_goto (tgt := 125) hx hb dX6_findReached_171 (by decide) ?_
                    exact ih125 (y2 + 1) (fX6_reach σ125 ((r_field σ125) (ix (((6 : Int32) * y1) + y2)))) (by first | with_reducible exact lp_b hf | (rw [many_reach]; exact lp_b hf)) (lp_nn hnn hf) (s0_sa (sa_reach _ _) hS) (Eq.trans (Eq.symm (Eq.trans (if_neg c141) (if_pos c150))) he) _ _ _ X (lv_sub hl [1, 2, 0] rfl)
            refine L125 (fX6_findReached_L125 y1 (((Int32.toInt ((r_many σ115) (ix y1))) - (Int32.toInt (0 : Int32))).toNat) (0 : Int32) σ115) (fun H locs ls X hl => ?_) (((Int32.toInt ((r_many σ115) (ix y1))) - (Int32.toInt (0 : Int32))).toNat) (0 : Int32) σ115 rfl (by decide) (hS) rfl _ _ _ X (lv_sub hl [1, 2, 0] rfl)
            refine lv_iinc (v := (y1 + 1)) (lv' := [(1, .int (y1 + 1)), (0, .ref (a 0))]) hx hb dX6_findReached_174 hl (k := 1) rfl rfl (by decide) rfl (fun ls hl => ?_)
            refine lv_goto (tgt := 115) hx hb dX6_findReached_177 (by decide) ?_
            exact ih115 (y1 + 1) (fX6_findReached_L125 y1 (((Int32.toInt ((r_many σ115) (ix y1))) - (Int32.toInt (0 : Int32))).toNat) (0 : Int32) σ115) (by first | with_reducible exact lp_b hf | (rw [(sa_fr_L125 _ _ _ _).1]; exact lp_b hf)) (lp_nn hnn hf) (s0_sa (sa_fr_L125 _ _ _ _) hS) he _ _ _ X (lv_sub hl [1, 0] rfl)
        refine L115 (fX6_findReached_L115 (((Int32.toInt (r_things (r_more_s σ101 (0 : Int32)))) - (Int32.toInt (0 : Int32))).toNat) (0 : Int32) (r_more_s σ101 (0 : Int32))) (fun H locs ls X hl => ?_) (((Int32.toInt (r_things (r_more_s σ101 (0 : Int32)))) - (Int32.toInt (0 : Int32))).toNat) (0 : Int32) (r_more_s σ101 (0 : Int32)) rfl (by decide) (s0_sa (sa_more _ _) hS) rfl _ _ _ X (lv_sub hl [1, 0] rfl)
        refine lv_iconst (v := (0)) hx hb dX6_findReached_180 (by decide) ?_
        refine lv_istore_n (lv' := [(1, .int (0 : Int32)), (0, .ref (a 0))]) hx hb dX6_findReached_181 rfl hl (by decide) rfl (fun ls hl => ?_)
        have L182 : ∀ (res : RSt) (hx182 : ∀ (H : Heap) (locs : List Loc) (ls : Array Slot), Sx A D (wR a cI cZ res) s H locs → lv_has ls 3 [(0, .ref (a 0))] → W p l e (rmk 1 21) s m args below meth c H locs 0 0 Q (F0 m 229 ls [])) (f : Nat) (y1 : Int32) (σ182 : RSt) (hf : ((Int32.toInt (r_pairs σ182)) - (Int32.toInt y1)).toNat = f) (hnn : 0 ≤ Int32.toInt y1) (hS : S0 σ182) (he : fX6_findReached_L182 f y1 σ182 = res) (H : Heap) (locs : List Loc) (ls : Array Slot) (X : Sx A D (wR a cI cZ σ182) s H locs) (hl : lv_has ls 3 [(0, .ref (a 0)), (1, .int y1)]), W p l e (rmk 1 21) s m args below meth c H locs 0 0 Q (F0 m 182 ls []) := by
          intro res hx182 f
          induction f with
          | zero =>
            intro y1 σ182 hf hnn hS he H locs ls X hl
            refine lv_iload_n hx hb dX6_findReached_182 rfl (lv_at hl 1 rfl) ?_
            refine lv_aload_n hx hb dX6_findReached_183 rfl (lv_at hl 0 rfl) ?_
            refine rg_X6_X6_pairs (v := (r_pairs σ182)) C X rfl dX6_findReached_184 ?_
            refine lv_icmp_ge (tgt := 229) hx hb dX6_findReached_187 (by decide) (fun c187 => ?_) (fun c187 => (lp_z hf c187).elim)
            exact hx182 _ _ _ (Eq.subst (motive := fun z => Sx A D (wR a cI cZ z) s _ _) he X) (Eq.subst (motive := fun z => lv_has _ 3 [(0, .ref (a 0))]) he (lv_sub hl [0] rfl))
          | succ f ih182 =>
            intro y1 σ182 hf hnn hS he H locs ls X hl
            refine lv_iload_n hx hb dX6_findReached_182 rfl (lv_at hl 1 rfl) ?_
            refine lv_aload_n hx hb dX6_findReached_183 rfl (lv_at hl 0 rfl) ?_
            refine rg_X6_X6_pairs (v := (r_pairs σ182)) C X rfl dX6_findReached_184 ?_
            refine lv_icmp_ge (tgt := 229) hx hb dX6_findReached_187 (by decide) (fun c187 => (lp_s hf c187).elim) (fun c187 => ?_)
            refine lv_aload_n hx hb dX6_findReached_190 rfl (lv_at hl 0 rfl) ?_
            refine rg_X6_X6_isPair C X dX6_findReached_191 ?_
            refine lv_iload_n hx hb dX6_findReached_194 rfl (lv_at hl 1 rfl) ?_
            refine ra_isPair (v := ((r_isPair σ182) (ix y1))) C X (lp_in hnn hf (s0_pairs hS)) rfl dX6_findReached_195 ?_
            refine lv_if_eq (tgt := 223) hx hb dX6_findReached_196 (by decide) (fun c196 => ?_) (fun c196 => ?_)
            · refine lv_iinc (v := (y1 + 1)) (lv' := [(1, .int (y1 + 1)), (0, .ref (a 0))]) hx hb dX6_findReached_223 hl (k := 1) rfl rfl (by decide) rfl (fun ls hl => ?_)
              refine lv_goto (tgt := 182) hx hb dX6_findReached_226 (by decide) ?_
              exact ih182 (y1 + 1) σ182 (by first | with_reducible exact lp_b hf | (rw [pairs_reach]; exact lp_b hf)) (lp_nn hnn hf) (by first | with_reducible exact hS | exact s0_sa (sa_reach _ _) hS) (Eq.trans (Eq.symm (if_pos c196)) he) _ _ _ X (lv_sub hl [1, 0] rfl)
            · refine lv_aload_n hx hb dX6_findReached_199 rfl (lv_at hl 0 rfl) ?_
              refine rg_X6_X6_isReached C X dX6_findReached_200 ?_
              refine lv_aload_n hx hb dX6_findReached_203 rfl (lv_at hl 0 rfl) ?_
              refine rg_X6_X6_key C X dX6_findReached_204 ?_
              refine lv_iload_n hx hb dX6_findReached_207 rfl (lv_at hl 1 rfl) ?_
              refine ra_key (v := ((r_key σ182) (ix y1))) C X (lp_in hnn hf (s0_pairs hS)) rfl dX6_findReached_208 ?_
              refine ra_isReached (v := ((r_isReached σ182) (ix ((r_key σ182) (ix y1))))) C X (s0_key hS _) rfl dX6_findReached_209 ?_
              refine lv_if_eq (tgt := 223) hx hb dX6_findReached_210 (by decide) (fun c210 => ?_) (fun c210 => ?_)
              · refine lv_iinc (v := (y1 + 1)) (lv' := [(1, .int (y1 + 1)), (0, .ref (a 0))]) hx hb dX6_findReached_223 hl (k := 1) rfl rfl (by decide) rfl (fun ls hl => ?_)
                refine lv_goto (tgt := 182) hx hb dX6_findReached_226 (by decide) ?_
                exact ih182 (y1 + 1) σ182 (by first | with_reducible exact lp_b hf | (rw [pairs_reach]; exact lp_b hf)) (lp_nn hnn hf) (by first | with_reducible exact hS | exact s0_sa (sa_reach _ _) hS) (Eq.trans (Eq.symm (Eq.trans (if_neg c196) (if_pos c210))) he) _ _ _ X (lv_sub hl [1, 0] rfl)
              · refine lv_aload_n hx hb dX6_findReached_213 rfl (lv_at hl 0 rfl) ?_
                refine lv_aload_n hx hb dX6_findReached_214 rfl (lv_at hl 0 rfl) ?_
                refine rg_X6_X6_value C X dX6_findReached_215 ?_
                refine lv_iload_n hx hb dX6_findReached_218 rfl (lv_at hl 1 rfl) ?_
                refine ra_value (v := ((r_value σ182) (ix y1))) C X (lp_in hnn hf (s0_pairs hS)) rfl dX6_findReached_219 ?_
                refine callVU (rest := []) C hA (wR_sh a cI cZ) X (kX6_reach l D a cI cZ _ ((r_value σ182) (ix y1)) (s0_value hS _)) (cwV 1 C.2.2.2.2.1 (gV wl_X6_180 wt_yX6_reach ws_yX6_reach wi_X6 wk_yX6_reach) rfl rfl rfl hdX6_reach ⟨Nat.le_of_ble_eq_true rfl, Nat.le_of_ble_eq_true rfl⟩) (ci := 6) (q0 := 0) rfl rfl rfl hl.1 rfl (Nat.le_of_ble_eq_true rfl) dX6_findReached_220 ⟨Nat.le_refl 0, Nat.le_refl 0⟩ (fun H locs X => ?_)
                refine lv_iinc (v := (y1 + 1)) (lv' := [(1, .int (y1 + 1)), (0, .ref (a 0))]) hx hb dX6_findReached_223 hl (k := 1) rfl rfl (by decide) rfl (fun ls hl => ?_)
                refine lv_goto (tgt := 182) hx hb dX6_findReached_226 (by decide) ?_
                exact ih182 (y1 + 1) (fX6_reach σ182 ((r_value σ182) (ix y1))) (by first | with_reducible exact lp_b hf | (rw [pairs_reach]; exact lp_b hf)) (lp_nn hnn hf) (by first | with_reducible exact hS | exact s0_sa (sa_reach _ _) hS) (Eq.trans (Eq.symm (Eq.trans (if_neg c196) (if_neg c210))) he) _ _ _ X (lv_sub hl [1, 0] rfl)
        refine L182 (fX6_findReached_L182 (((Int32.toInt (r_pairs (fX6_findReached_L115 (((Int32.toInt (r_things (r_more_s σ101 (0 : Int32)))) - (Int32.toInt (0 : Int32))).toNat) (0 : Int32) (r_more_s σ101 (0 : Int32))))) - (Int32.toInt (0 : Int32))).toNat) (0 : Int32) (fX6_findReached_L115 (((Int32.toInt (r_things (r_more_s σ101 (0 : Int32)))) - (Int32.toInt (0 : Int32))).toNat) (0 : Int32) (r_more_s σ101 (0 : Int32)))) (fun H locs ls X hl => ?_) (((Int32.toInt (r_pairs (fX6_findReached_L115 (((Int32.toInt (r_things (r_more_s σ101 (0 : Int32)))) - (Int32.toInt (0 : Int32))).toNat) (0 : Int32) (r_more_s σ101 (0 : Int32))))) - (Int32.toInt (0 : Int32))).toNat) (0 : Int32) (fX6_findReached_L115 (((Int32.toInt (r_things (r_more_s σ101 (0 : Int32)))) - (Int32.toInt (0 : Int32))).toNat) (0 : Int32) (r_more_s σ101 (0 : Int32))) rfl (by decide) (s0_sa (sa_tr (sa_more _ _) (sa_fr_L115 _ _ _)) hS) rfl _ _ _ X (lv_sub hl [1, 0] rfl)
        refine lv_goto (tgt := 101) hx hb dX6_findReached_229 (by decide) ?_
        exact ih101  (fX6_findReached_L182 (((Int32.toInt (r_pairs (fX6_findReached_L115 (((Int32.toInt (r_things (r_more_s σ101 (0 : Int32)))) - (Int32.toInt (0 : Int32))).toNat) (0 : Int32) (r_more_s σ101 (0 : Int32))))) - (Int32.toInt (0 : Int32))).toNat) (0 : Int32) (fX6_findReached_L115 (((Int32.toInt (r_things (r_more_s σ101 (0 : Int32)))) - (Int32.toInt (0 : Int32))).toNat) (0 : Int32) (r_more_s σ101 (0 : Int32)))) (s0_sa (sa_tr (sa_tr (sa_more _ _) (sa_fr_L115 _ _ _)) (sa_fr_L182 _ _ _)) hS) (nu_back hmu c105 (rp_tr (rp_fr_L115 _ _ _ (s0_sa (sa_more _ _) hS)) (rp_fr_L182 _ _ _ (s0_sa (sa_tr (sa_more _ _) (sa_fr_L115 _ _ _)) hS)))) (Eq.trans (Eq.symm (if_neg c105)) he) _ _ _ X (lv_sub hl [0] rfl)
  exact L101 1000  (r_more_s (fX6_findReached_L72 (((Int32.toInt (r_wishes (fX6_findReached_L49 (((Int32.toInt (4 : Int32)) - (Int32.toInt (0 : Int32))).toNat) (0 : Int32) (fX6_findReached_L25 (((Int32.toInt (12 : Int32)) - (Int32.toInt (0 : Int32))).toNat) (0 : Int32) (fX6_findReached_L2 (((Int32.toInt (r_things σ)) - (Int32.toInt (0 : Int32))).toNat) (0 : Int32) σ))))) - (Int32.toInt (0 : Int32))).toNat) (0 : Int32) (fX6_findReached_L49 (((Int32.toInt (4 : Int32)) - (Int32.toInt (0 : Int32))).toNat) (0 : Int32) (fX6_findReached_L25 (((Int32.toInt (12 : Int32)) - (Int32.toInt (0 : Int32))).toNat) (0 : Int32) (fX6_findReached_L2 (((Int32.toInt (r_things σ)) - (Int32.toInt (0 : Int32))).toNat) (0 : Int32) σ)))) (1 : Int32)) (s0_sa (sa_tr (sa_tr (sa_tr (sa_tr (sa_fr_L2 _ _ _) (sa_fr_L25 _ _ _)) (sa_fr_L49 _ _ _)) (sa_fr_L72 _ _ _)) (sa_more _ _)) hS) (nu_lt _) rfl _ _ _ X (lv_sub hl [0] rfl)
def fX6_aboutOf (σ : RSt) (x1 : Int32) (x2 : Int32) : Int32 × RSt := (if x2 = (0 : Int32) then (((r_many σ) (ix x1)), σ) else (if x2 = (1 : Int32) then (((r_place σ) (ix x1)), σ) else (if x2 = (2 : Int32) then (((r_colour σ) (ix x1)), σ) else (if x2 = (3 : Int32) then (if ((r_isFreed σ) (ix x1)) = (0 : Int32) then ((0 : Int32), σ) else ((1 : Int32), σ)) else (if x2 = (4 : Int32) then (if ((r_isReached (fX6_findReached σ)) (ix x1)) = (0 : Int32) then ((0 : Int32), (fX6_findReached σ)) else ((1 : Int32), (fX6_findReached σ))) else (if x2 = (5 : Int32) then (if ((r_hasWish σ) (ix x1)) = (0 : Int32) then ((0 : Int32), σ) else ((1 : Int32), σ)) else (((r_moved σ) (ix x1)), σ)))))))
theorem hdX6_aboutOf : yX6_aboutOf.cls = RX6 ∧ yX6_aboutOf.cls ≠ "java/lang/invoke/MethodHandle" ∧ yX6_aboutOf.cls ≠ "java/lang/invoke/VarHandle" ∧ (parseMethodDescriptor yX6_aboutOf.desc).map (fun d => d.parameters.length) = some 2 := by decide +kernel
set_option maxHeartbeats 250000 in
set_option maxRecDepth 100000 in
theorem kX6_aboutOf (l : Launch) (D : va_G) (a : Nat → Nat) (cI cZ : ClassId) (σ : RSt) (x1 : Int32) (x2 : Int32) (hi : vp_in x1 120) (hS : S0 σ) : CR l D (tyIZ cI cZ) (wR a cI cZ) yX6_aboutOf cX6_aboutOf 3 .int (rmk 2 43) [.ref (a 0), .int x1, .int x2] σ (fX6_aboutOf σ x1 x2).1 (fX6_aboutOf σ x1 x2).2 := by
  refine CR.of pnX6 ⟨rfl, rfl⟩ (Nat.le_of_ble_eq_true rfl) rfl (fun p e s m args below meth c A Q ls C X hA hl ret => ?_)
  have C : Cx p s m args meth c cX6_aboutOf 3 RX6 D (tyIZ cI cZ) := C
  have hx := C.1
  have hb := C.2.1
  have hl : lv_has ls 3 [(0, .ref (a 0)), (1, .int x1), (2, .int x2)] := hl
  refine lv_iload_n hx hb dX6_aboutOf_0 rfl (lv_at hl 2 rfl) ?_
  by_cases c1_0 : x2 = (0 : Int32)
  · refine lv_tableIn (tgt := 40) (off := (39)) hx hb dX6_aboutOf_1 (by rw [c1_0]; decide) (by rw [c1_0]; decide) (by rw [c1_0]; rfl) (by decide) ?_
    refine lv_aload_n hx hb dX6_aboutOf_40 rfl (lv_at hl 0 rfl) ?_
    refine rg_X6_X6_many C X dX6_aboutOf_41 ?_
    refine lv_iload_n hx hb dX6_aboutOf_44 rfl (lv_at hl 1 rfl) ?_
    refine ra_many (v := ((r_many σ) (ix x1))) C X hi rfl dX6_aboutOf_45 ?_
    exact ret dX6_aboutOf_46 (pe_ (Eq.symm (if_pos c1_0))) X
  · skip
    by_cases c1_1 : x2 = (1 : Int32)
    · refine lv_tableIn (tgt := 47) (off := (46)) hx hb dX6_aboutOf_1 (by rw [c1_1]; decide) (by rw [c1_1]; decide) (by rw [c1_1]; rfl) (by decide) ?_
      refine lv_aload_n hx hb dX6_aboutOf_47 rfl (lv_at hl 0 rfl) ?_
      refine rg_X6_X6_place C X dX6_aboutOf_48 ?_
      refine lv_iload_n hx hb dX6_aboutOf_51 rfl (lv_at hl 1 rfl) ?_
      refine ra_place (v := ((r_place σ) (ix x1))) C X hi rfl dX6_aboutOf_52 ?_
      exact ret dX6_aboutOf_53 (pe_ (Eq.symm (Eq.trans (if_neg c1_0) (if_pos c1_1)))) X
    · skip
      by_cases c1_2 : x2 = (2 : Int32)
      · refine lv_tableIn (tgt := 54) (off := (53)) hx hb dX6_aboutOf_1 (by rw [c1_2]; decide) (by rw [c1_2]; decide) (by rw [c1_2]; rfl) (by decide) ?_
        refine lv_aload_n hx hb dX6_aboutOf_54 rfl (lv_at hl 0 rfl) ?_
        refine rg_X6_X6_colour C X dX6_aboutOf_55 ?_
        refine lv_iload_n hx hb dX6_aboutOf_58 rfl (lv_at hl 1 rfl) ?_
        refine ra_colour (v := ((r_colour σ) (ix x1))) C X hi rfl dX6_aboutOf_59 ?_
        exact ret dX6_aboutOf_60 (pe_ (Eq.symm (Eq.trans (if_neg c1_0) (Eq.trans (if_neg c1_1) (if_pos c1_2))))) X
      · skip
        by_cases c1_3 : x2 = (3 : Int32)
        · refine lv_tableIn (tgt := 61) (off := (60)) hx hb dX6_aboutOf_1 (by rw [c1_3]; decide) (by rw [c1_3]; decide) (by rw [c1_3]; rfl) (by decide) ?_
          refine lv_aload_n hx hb dX6_aboutOf_61 rfl (lv_at hl 0 rfl) ?_
          refine rg_X6_X6_isFreed C X dX6_aboutOf_62 ?_
          refine lv_iload_n hx hb dX6_aboutOf_65 rfl (lv_at hl 1 rfl) ?_
          refine ra_isFreed (v := ((r_isFreed σ) (ix x1))) C X hi rfl dX6_aboutOf_66 ?_
          refine lv_if_eq (tgt := 74) hx hb dX6_aboutOf_67 (by decide) (fun c67 => ?_) (fun c67 => ?_)
          · refine lv_iconst (v := (0)) hx hb dX6_aboutOf_74 (by decide) ?_
            exact ret dX6_aboutOf_75 (pe_ (Eq.symm (Eq.trans (if_neg c1_0) (Eq.trans (if_neg c1_1) (Eq.trans (if_neg c1_2) (Eq.trans (if_pos c1_3) (if_pos c67))))))) X
          · refine lv_iconst (v := (1)) hx hb dX6_aboutOf_70 (by decide) ?_
            refine lv_goto (tgt := 75) hx hb dX6_aboutOf_71 (by decide) ?_
            exact ret dX6_aboutOf_75 (pe_ (Eq.symm (Eq.trans (if_neg c1_0) (Eq.trans (if_neg c1_1) (Eq.trans (if_neg c1_2) (Eq.trans (if_pos c1_3) (if_neg c67))))))) X
        · skip
          by_cases c1_4 : x2 = (4 : Int32)
          · refine lv_tableIn (tgt := 76) (off := (75)) hx hb dX6_aboutOf_1 (by rw [c1_4]; decide) (by rw [c1_4]; decide) (by rw [c1_4]; rfl) (by decide) ?_
            refine lv_aload_n hx hb dX6_aboutOf_76 rfl (lv_at hl 0 rfl) ?_
            refine callVU (rest := []) C hA (wR_sh a cI cZ) X (kX6_findReached l D a cI cZ _  hS) (cwV 0 C.2.2.2.2.1 (gV wl_X6_183 wt_yX6_findReached ws_yX6_findReached wi_X6 wk_yX6_findReached) rfl rfl rfl hdX6_findReached ⟨Nat.le_of_ble_eq_true rfl, Nat.le_of_ble_eq_true rfl⟩) (ci := 6) (q0 := 0) rfl rfl rfl hl.1 rfl (Nat.le_of_ble_eq_true rfl) dX6_aboutOf_77 ⟨Nat.le_refl 0, Nat.le_refl 0⟩ (fun H locs X => ?_)
            refine lv_aload_n hx hb dX6_aboutOf_80 rfl (lv_at hl 0 rfl) ?_
            refine rg_X6_X6_isReached C X dX6_aboutOf_81 ?_
            refine lv_iload_n hx hb dX6_aboutOf_84 rfl (lv_at hl 1 rfl) ?_
            refine ra_isReached (v := ((r_isReached (fX6_findReached σ)) (ix x1))) C X hi rfl dX6_aboutOf_85 ?_
            refine lv_if_eq (tgt := 93) hx hb dX6_aboutOf_86 (by decide) (fun c86 => ?_) (fun c86 => ?_)
            · refine lv_iconst (v := (0)) hx hb dX6_aboutOf_93 (by decide) ?_
              exact ret dX6_aboutOf_94 (pe_ (Eq.symm (Eq.trans (if_neg c1_0) (Eq.trans (if_neg c1_1) (Eq.trans (if_neg c1_2) (Eq.trans (if_neg c1_3) (Eq.trans (if_pos c1_4) (if_pos c86)))))))) X
            · refine lv_iconst (v := (1)) hx hb dX6_aboutOf_89 (by decide) ?_
              refine lv_goto (tgt := 94) hx hb dX6_aboutOf_90 (by decide) ?_
              exact ret dX6_aboutOf_94 (pe_ (Eq.symm (Eq.trans (if_neg c1_0) (Eq.trans (if_neg c1_1) (Eq.trans (if_neg c1_2) (Eq.trans (if_neg c1_3) (Eq.trans (if_pos c1_4) (if_neg c86)))))))) X
          · skip
            by_cases c1_5 : x2 = (5 : Int32)
            · refine lv_tableIn (tgt := 95) (off := (94)) hx hb dX6_aboutOf_1 (by rw [c1_5]; decide) (by rw [c1_5]; decide) (by rw [c1_5]; rfl) (by decide) ?_
              refine lv_aload_n hx hb dX6_aboutOf_95 rfl (lv_at hl 0 rfl) ?_
              refine rg_X6_X6_hasWish C X dX6_aboutOf_96 ?_
              refine lv_iload_n hx hb dX6_aboutOf_99 rfl (lv_at hl 1 rfl) ?_
              refine ra_hasWish (v := ((r_hasWish σ) (ix x1))) C X hi rfl dX6_aboutOf_100 ?_
              refine lv_if_eq (tgt := 108) hx hb dX6_aboutOf_101 (by decide) (fun c101 => ?_) (fun c101 => ?_)
              · refine lv_iconst (v := (0)) hx hb dX6_aboutOf_108 (by decide) ?_
                exact ret dX6_aboutOf_109 (pe_ (Eq.symm (Eq.trans (if_neg c1_0) (Eq.trans (if_neg c1_1) (Eq.trans (if_neg c1_2) (Eq.trans (if_neg c1_3) (Eq.trans (if_neg c1_4) (Eq.trans (if_pos c1_5) (if_pos c101))))))))) X
              · refine lv_iconst (v := (1)) hx hb dX6_aboutOf_104 (by decide) ?_
                refine lv_goto (tgt := 109) hx hb dX6_aboutOf_105 (by decide) ?_
                exact ret dX6_aboutOf_109 (pe_ (Eq.symm (Eq.trans (if_neg c1_0) (Eq.trans (if_neg c1_1) (Eq.trans (if_neg c1_2) (Eq.trans (if_neg c1_3) (Eq.trans (if_neg c1_4) (Eq.trans (if_pos c1_5) (if_neg c101))))))))) X
            · skip
              refine lv_tableOut (tgt := 110) hx hb dX6_aboutOf_1 (by have t0 := i32_ne c1_0; have t1 := i32_ne c1_1; have t2 := i32_ne c1_2; have t3 := i32_ne c1_3; have t4 := i32_ne c1_4; have t5 := i32_ne c1_5; have q0_ : (0 : Int32).toInt = 0 := rfl; have q1_ : (1 : Int32).toInt = 1 := rfl; have q2_ : (2 : Int32).toInt = 2 := rfl; have q3_ : (3 : Int32).toInt = 3 := rfl; have q4_ : (4 : Int32).toInt = 4 := rfl; have q5_ : (5 : Int32).toInt = 5 := rfl; omega) (by decide) ?_
              refine lv_aload_n hx hb dX6_aboutOf_110 rfl (lv_at hl 0 rfl) ?_
              refine rg_X6_X6_moved C X dX6_aboutOf_111 ?_
              refine lv_iload_n hx hb dX6_aboutOf_114 rfl (lv_at hl 1 rfl) ?_
              refine ra_moved (v := ((r_moved σ) (ix x1))) C X hi rfl dX6_aboutOf_115 ?_
              exact ret dX6_aboutOf_116 (pe_ (Eq.symm (Eq.trans (if_neg c1_0) (Eq.trans (if_neg c1_1) (Eq.trans (if_neg c1_2) (Eq.trans (if_neg c1_3) (Eq.trans (if_neg c1_4) (if_neg c1_5)))))))) X
def fX6_about (σ : RSt) (x1 : Int32) (x2 : Int32) : Int32 × RSt := (if (fX6_isThing σ x1) = (0 : Int32) then ((-2 : Int32), σ) else (if (fX6_in σ x2 (0 : Int32) (6 : Int32)) = (0 : Int32) then ((-2 : Int32), σ) else ((fX6_aboutOf σ x1 x2).1, (fX6_aboutOf σ x1 x2).2)))
theorem hdX6_about : yX6_about.cls = RX6 ∧ yX6_about.cls ≠ "java/lang/invoke/MethodHandle" ∧ yX6_about.cls ≠ "java/lang/invoke/VarHandle" ∧ (parseMethodDescriptor yX6_about.desc).map (fun d => d.parameters.length) = some 2 := by decide +kernel
set_option maxHeartbeats 250000 in
set_option maxRecDepth 100000 in
theorem kX6_about (l : Launch) (D : va_G) (a : Nat → Nat) (cI cZ : ClassId) (σ : RSt) (x1 : Int32) (x2 : Int32) (hS : S0 σ) : CR l D (tyIZ cI cZ) (wR a cI cZ) yX6_about cX6_about 3 .int (rmk 3 65) [.ref (a 0), .int x1, .int x2] σ (fX6_about σ x1 x2).1 (fX6_about σ x1 x2).2 := by
  refine CR.of pnX6 ⟨rfl, rfl⟩ (Nat.le_of_ble_eq_true rfl) rfl (fun p e s m args below meth c A Q ls C X hA hl ret => ?_)
  have C : Cx p s m args meth c cX6_about 3 RX6 D (tyIZ cI cZ) := C
  have hx := C.1
  have hb := C.2.1
  have hl : lv_has ls 3 [(0, .ref (a 0)), (1, .int x1), (2, .int x2)] := hl
  refine lv_aload_n hx hb dX6_about_0 rfl (lv_at hl 0 rfl) ?_
  refine lv_iload_n hx hb dX6_about_1 rfl (lv_at hl 1 rfl) ?_
  refine callVR (rest := []) C hA (wR_sh a cI cZ) X (kX6_isThing l D a cI cZ _ x1) (cwV 1 C.2.2.2.2.1 (gV wl_X6_186 wt_yX6_isThing ws_yX6_isThing wi_X6 wk_yX6_isThing) rfl rfl rfl hdX6_isThing ⟨Nat.le_of_ble_eq_true rfl, Nat.le_of_ble_eq_true rfl⟩) (ci := 6) (q0 := 0) rfl rfl rfl hl.1 rfl (Nat.le_of_ble_eq_true rfl) dX6_about_2 ⟨Nat.le_refl 0, Nat.le_refl 0⟩ (fun H locs X => ?_)
  refine lv_if_eq (tgt := 27) hx hb dX6_about_5 (by decide) (fun c5 => ?_) (fun c5 => ?_)
  · refine lv_bipush (v := (-2)) hx hb dX6_about_27 (by decide) ?_
    exact ret dX6_about_29 (pe_ (Eq.symm (if_pos c5))) X
  · refine lv_iload_n hx hb dX6_about_8 rfl (lv_at hl 2 rfl) ?_
    refine lv_iconst (v := (0)) hx hb dX6_about_9 (by decide) ?_
    refine lv_bipush (v := (6)) hx hb dX6_about_10 (by decide) ?_
    refine callSR (rest := []) C hA (wR_sh a cI cZ) X (kX6_in l D a cI cZ _ x2 (0 : Int32) (6 : Int32)) (cwS 3 C.2.2.2.2.1 (gS wl_X6_90 wz_yX6_in wi_X6 wk_yX6_in) rfl rfl rfl hdX6_in ⟨Nat.le_of_ble_eq_true rfl, Nat.le_of_ble_eq_true rfl⟩) rfl hl.1 rfl (Nat.le_of_ble_eq_true rfl) dX6_about_12 ⟨Nat.le_refl 0, Nat.le_refl 0⟩ (fun H locs X => ?_)
    refine lv_if_eq (tgt := 27) hx hb dX6_about_15 (by decide) (fun c15 => ?_) (fun c15 => ?_)
    · refine lv_bipush (v := (-2)) hx hb dX6_about_27 (by decide) ?_
      exact ret dX6_about_29 (pe_ (Eq.symm (Eq.trans (if_neg c5) (if_pos c15)))) X
    · refine lv_aload_n hx hb dX6_about_18 rfl (lv_at hl 0 rfl) ?_
      refine lv_iload_n hx hb dX6_about_19 rfl (lv_at hl 1 rfl) ?_
      refine lv_iload_n hx hb dX6_about_20 rfl (lv_at hl 2 rfl) ?_
      refine callVR (rest := []) C hA (wR_sh a cI cZ) X (kX6_aboutOf l D a cI cZ _ x1 x2 (isThing_in hS c5) hS) (cwV 2 C.2.2.2.2.1 (gV wl_X6_189 wt_yX6_aboutOf ws_yX6_aboutOf wi_X6 wk_yX6_aboutOf) rfl rfl rfl hdX6_aboutOf ⟨Nat.le_of_ble_eq_true rfl, Nat.le_of_ble_eq_true rfl⟩) (ci := 6) (q0 := 0) rfl rfl rfl hl.1 rfl (Nat.le_of_ble_eq_true rfl) dX6_about_21 ⟨Nat.le_refl 0, Nat.le_refl 0⟩ (fun H locs X => ?_)
      refine lv_goto (tgt := 29) hx hb dX6_about_24 (by decide) ?_
      exact ret dX6_about_29 (pe_ (Eq.symm (Eq.trans (if_neg c5) (if_neg c15)))) X
def fX6_countThings_L8 (z1 : Int32) : Nat → Int32 → Int32 → RSt → Int32 × RSt
  | 0, y2, y3, σ0 => (y2, σ0)
  | f + 1, y2, y3, σ0 => (if z1 = (1 : Int32) then (if ((r_isFreed σ0) (ix y3)) = (0 : Int32) then (fX6_countThings_L8 z1 f (y2 + (1 : Int32)) (y3 + 1) σ0) else (fX6_countThings_L8 z1 f (y2 + (0 : Int32)) (y3 + 1) σ0)) else (if z1 = (2 : Int32) then (if ((r_isReached σ0) (ix y3)) = (0 : Int32) then (fX6_countThings_L8 z1 f (y2 + (0 : Int32)) (y3 + 1) σ0) else (fX6_countThings_L8 z1 f (y2 + (1 : Int32)) (y3 + 1) σ0)) else (if z1 = (3 : Int32) then (if ((r_isReached σ0) (ix y3)) = (0 : Int32) then (fX6_countThings_L8 z1 f (y2 + (0 : Int32)) (y3 + 1) σ0) else (if ((r_isFreed σ0) (ix y3)) = (0 : Int32) then (fX6_countThings_L8 z1 f (y2 + (0 : Int32)) (y3 + 1) σ0) else (fX6_countThings_L8 z1 f (y2 + (1 : Int32)) (y3 + 1) σ0))) else (if ((r_isReached σ0) (ix y3)) = (0 : Int32) then (if ((r_isFreed σ0) (ix y3)) = (0 : Int32) then (fX6_countThings_L8 z1 f (y2 + (1 : Int32)) (y3 + 1) σ0) else (fX6_countThings_L8 z1 f (y2 + (0 : Int32)) (y3 + 1) σ0)) else (fX6_countThings_L8 z1 f (y2 + (0 : Int32)) (y3 + 1) σ0)))))
def fX6_countThings (σ : RSt) (x1 : Int32) : Int32 × RSt := (fX6_countThings_L8 x1 (((Int32.toInt (r_things (fX6_findReached σ))) - (Int32.toInt (0 : Int32))).toNat) (0 : Int32) (0 : Int32) (fX6_findReached σ))
theorem hdX6_countThings : yX6_countThings.cls = RX6 ∧ yX6_countThings.cls ≠ "java/lang/invoke/MethodHandle" ∧ yX6_countThings.cls ≠ "java/lang/invoke/VarHandle" ∧ (parseMethodDescriptor yX6_countThings.desc).map (fun d => d.parameters.length) = some 1 := by decide +kernel
set_option maxHeartbeats 250000 in
set_option maxRecDepth 100000 in
theorem kX6_countThings (l : Launch) (D : va_G) (a : Nat → Nat) (cI cZ : ClassId) (σ : RSt) (x1 : Int32) (hS : S0 σ) : CR l D (tyIZ cI cZ) (wR a cI cZ) yX6_countThings cX6_countThings 5 .int (rmk 2 43) [.ref (a 0), .int x1] σ (fX6_countThings σ x1).1 (fX6_countThings σ x1).2 := by
  refine CR.of pnX6 ⟨rfl, rfl⟩ (Nat.le_of_ble_eq_true rfl) rfl (fun p e s m args below meth c A Q ls C X hA hl ret => ?_)
  have C : Cx p s m args meth c cX6_countThings 5 RX6 D (tyIZ cI cZ) := C
  have hx := C.1
  have hb := C.2.1
  have hl : lv_has ls 5 [(0, .ref (a 0)), (1, .int x1)] := hl
  refine lv_aload_n hx hb dX6_countThings_0 rfl (lv_at hl 0 rfl) ?_
  refine callVU (rest := []) C hA (wR_sh a cI cZ) X (kX6_findReached l D a cI cZ _  hS) (cwV 0 C.2.2.2.2.1 (gV wl_X6_183 wt_yX6_findReached ws_yX6_findReached wi_X6 wk_yX6_findReached) rfl rfl rfl hdX6_findReached ⟨Nat.le_of_ble_eq_true rfl, Nat.le_of_ble_eq_true rfl⟩) (ci := 6) (q0 := 0) rfl rfl rfl hl.1 rfl (Nat.le_of_ble_eq_true rfl) dX6_countThings_1 ⟨Nat.le_refl 0, Nat.le_refl 0⟩ (fun H locs X => ?_)
  refine lv_iconst (v := (0)) hx hb dX6_countThings_4 (by decide) ?_
  refine lv_istore_n (lv' := [(2, .int (0 : Int32)), (0, .ref (a 0)), (1, .int x1)]) hx hb dX6_countThings_5 rfl hl (by decide) rfl (fun ls hl => ?_)
  refine lv_iconst (v := (0)) hx hb dX6_countThings_6 (by decide) ?_
  refine lv_istore_n (lv' := [(3, .int (0 : Int32)), (2, .int (0 : Int32)), (0, .ref (a 0)), (1, .int x1)]) hx hb dX6_countThings_7 rfl hl (by decide) rfl (fun ls hl => ?_)
  have L8 : ∀ (f : Nat) (y2 : Int32) (y3 : Int32) (hf : ((Int32.toInt (r_things (fX6_findReached σ))) - (Int32.toInt y3)).toNat = f) (hnn : 0 ≤ Int32.toInt y3) (he : fX6_countThings_L8 x1 f y2 y3 (fX6_findReached σ) = (fX6_countThings σ x1)) (H : Heap) (locs : List Loc) (ls : Array Slot) (X : Sx A D (wR a cI cZ (fX6_findReached σ)) s H locs) (hl : lv_has ls 5 [(0, .ref (a 0)), (1, .int x1), (2, .int y2), (3, .int y3)]), W p l e (rmk 2 43) s m args below meth c H locs 0 0 Q (F0 m 8 ls []) := by
    intro f
    induction f with
    | zero =>
      intro y2 y3 hf hnn he H locs ls X hl
      refine lv_iload_n hx hb dX6_countThings_8 rfl (lv_at hl 3 rfl) ?_
      refine lv_aload_n hx hb dX6_countThings_9 rfl (lv_at hl 0 rfl) ?_
      refine rg_X6_X6_things (v := (r_things (fX6_findReached σ))) C X rfl dX6_countThings_10 ?_
      refine lv_icmp_ge (tgt := 127) hx hb dX6_countThings_13 (by decide) (fun c13 => ?_) (fun c13 => (lp_z hf c13).elim)
      refine lv_iload_n hx hb dX6_countThings_127 rfl (lv_at hl 2 rfl) ?_
      exact ret dX6_countThings_128 (pe_ he) X
    | succ f ih8 =>
      intro y2 y3 hf hnn he H locs ls X hl
      refine lv_iload_n hx hb dX6_countThings_8 rfl (lv_at hl 3 rfl) ?_
      refine lv_aload_n hx hb dX6_countThings_9 rfl (lv_at hl 0 rfl) ?_
      refine rg_X6_X6_things (v := (r_things (fX6_findReached σ))) C X rfl dX6_countThings_10 ?_
      refine lv_icmp_ge (tgt := 127) hx hb dX6_countThings_13 (by decide) (fun c13 => (lp_s hf c13).elim) (fun c13 => ?_)
      refine lv_iload_n hx hb dX6_countThings_16 rfl (lv_at hl 1 rfl) ?_
      refine lv_iconst (v := (1)) hx hb dX6_countThings_17 (by decide) ?_
      refine lv_icmp_ne (tgt := 38) hx hb dX6_countThings_18 (by decide) (fun c18 => ?_) (fun c18 => ?_)
      · refine lv_iload_n hx hb dX6_countThings_38 rfl (lv_at hl 1 rfl) ?_
        refine lv_iconst (v := (2)) hx hb dX6_countThings_39 (by decide) ?_
        refine lv_icmp_ne (tgt := 52) hx hb dX6_countThings_40 (by decide) (fun c40 => ?_) (fun c40 => ?_)
        · refine lv_iload_n hx hb dX6_countThings_52 rfl (lv_at hl 1 rfl) ?_
          refine lv_iconst (v := (3)) hx hb dX6_countThings_53 (by decide) ?_
          refine lv_icmp_ne (tgt := 83) hx hb dX6_countThings_54 (by decide) (fun c54 => ?_) (fun c54 => ?_)
          · refine lv_aload_n hx hb dX6_countThings_83 rfl (lv_at hl 0 rfl) ?_
            refine rg_X6_X6_isReached C X dX6_countThings_84 ?_
            refine lv_iload_n hx hb dX6_countThings_87 rfl (lv_at hl 3 rfl) ?_
            refine ra_isReached (v := ((r_isReached (fX6_findReached σ)) (ix y3))) C X (lp_in hnn hf (s0_th (s0_sa (sa_findReached _) hS))) rfl dX6_countThings_88 ?_
            refine lv_if_ne (tgt := 105) hx hb dX6_countThings_89 (by decide) (fun c89 => ?_) (fun c89 => ?_)
            · refine lv_iconst (v := (0)) hx hb dX6_countThings_105 (by decide) ?_
              refine lv_istore (lv' := [(4, .int (0 : Int32)), (0, .ref (a 0)), (1, .int x1), (2, .int y2), (3, .int y3)]) hx hb dX6_countThings_106 hl (by decide) rfl (fun ls hl => ?_)
              refine lv_iload_n hx hb dX6_countThings_108 rfl (lv_at hl 3 rfl) ?_
              refine lv_iload hx hb dX6_countThings_109 (lv_at hl 0 rfl) ?_
              refine lv_if_eq (tgt := 118) hx hb dX6_countThings_111 (by decide) (fun c111 => ?_) (fun c111 => absurd c111 (by decide))
              refine lv_iconst (v := (0)) hx hb dX6_countThings_118 (by decide) ?_
              refine lv_iadd hx hb dX6_countThings_119 ?_
              refine lv_istore_n (lv' := [(2, .int (y2 + (0 : Int32))), (4, .int (0 : Int32)), (0, .ref (a 0)), (1, .int x1), (3, .int y3)]) hx hb dX6_countThings_120 rfl hl (by decide) rfl (fun ls hl => ?_)
              refine lv_iinc (v := (y3 + 1)) (lv' := [(3, .int (y3 + 1)), (2, .int (y2 + (0 : Int32))), (4, .int (0 : Int32)), (0, .ref (a 0)), (1, .int x1)]) hx hb dX6_countThings_121 hl (k := 4) rfl rfl (by decide) rfl (fun ls hl => ?_)
              refine lv_goto (tgt := 8) hx hb dX6_countThings_124 (by decide) ?_
              exact ih8 (y2 + (0 : Int32)) (y3 + 1) (lp_b hf) (lp_nn hnn hf) (Eq.trans (Eq.symm (Eq.trans (if_neg c18) (Eq.trans (if_neg c40) (Eq.trans (if_neg c54) (if_neg c89))))) he) _ _ _ X (lv_sub hl [3, 4, 1, 0] rfl)
            · refine lv_aload_n hx hb dX6_countThings_92 rfl (lv_at hl 0 rfl) ?_
              refine rg_X6_X6_isFreed C X dX6_countThings_93 ?_
              refine lv_iload_n hx hb dX6_countThings_96 rfl (lv_at hl 3 rfl) ?_
              refine ra_isFreed (v := ((r_isFreed (fX6_findReached σ)) (ix y3))) C X (lp_in hnn hf (s0_th (s0_sa (sa_findReached _) hS))) rfl dX6_countThings_97 ?_
              refine lv_if_ne (tgt := 105) hx hb dX6_countThings_98 (by decide) (fun c98 => ?_) (fun c98 => ?_)
              · refine lv_iconst (v := (0)) hx hb dX6_countThings_105 (by decide) ?_
                refine lv_istore (lv' := [(4, .int (0 : Int32)), (0, .ref (a 0)), (1, .int x1), (2, .int y2), (3, .int y3)]) hx hb dX6_countThings_106 hl (by decide) rfl (fun ls hl => ?_)
                refine lv_iload_n hx hb dX6_countThings_108 rfl (lv_at hl 3 rfl) ?_
                refine lv_iload hx hb dX6_countThings_109 (lv_at hl 0 rfl) ?_
                refine lv_if_eq (tgt := 118) hx hb dX6_countThings_111 (by decide) (fun c111 => ?_) (fun c111 => absurd c111 (by decide))
                refine lv_iconst (v := (0)) hx hb dX6_countThings_118 (by decide) ?_
                refine lv_iadd hx hb dX6_countThings_119 ?_
                refine lv_istore_n (lv' := [(2, .int (y2 + (0 : Int32))), (4, .int (0 : Int32)), (0, .ref (a 0)), (1, .int x1), (3, .int y3)]) hx hb dX6_countThings_120 rfl hl (by decide) rfl (fun ls hl => ?_)
                refine lv_iinc (v := (y3 + 1)) (lv' := [(3, .int (y3 + 1)), (2, .int (y2 + (0 : Int32))), (4, .int (0 : Int32)), (0, .ref (a 0)), (1, .int x1)]) hx hb dX6_countThings_121 hl (k := 4) rfl rfl (by decide) rfl (fun ls hl => ?_)
                refine lv_goto (tgt := 8) hx hb dX6_countThings_124 (by decide) ?_
                exact ih8 (y2 + (0 : Int32)) (y3 + 1) (lp_b hf) (lp_nn hnn hf) (Eq.trans (Eq.symm (Eq.trans (if_neg c18) (Eq.trans (if_neg c40) (Eq.trans (if_neg c54) (Eq.trans (if_pos c89) (if_neg c98)))))) he) _ _ _ X (lv_sub hl [3, 4, 1, 0] rfl)
              · refine lv_iconst (v := (1)) hx hb dX6_countThings_101 (by decide) ?_
                refine lv_goto (tgt := 106) hx hb dX6_countThings_102 (by decide) ?_
                refine lv_istore (lv' := [(4, .int (1 : Int32)), (0, .ref (a 0)), (1, .int x1), (2, .int y2), (3, .int y3)]) hx hb dX6_countThings_106 hl (by decide) rfl (fun ls hl => ?_)
                refine lv_iload_n hx hb dX6_countThings_108 rfl (lv_at hl 3 rfl) ?_
                refine lv_iload hx hb dX6_countThings_109 (lv_at hl 0 rfl) ?_
                refine lv_if_eq (tgt := 118) hx hb dX6_countThings_111 (by decide) (fun c111 => absurd c111 (by decide)) (fun c111 => ?_)
                refine lv_iconst (v := (1)) hx hb dX6_countThings_114 (by decide) ?_
                refine lv_goto (tgt := 119) hx hb dX6_countThings_115 (by decide) ?_
                refine lv_iadd hx hb dX6_countThings_119 ?_
                refine lv_istore_n (lv' := [(2, .int (y2 + (1 : Int32))), (4, .int (1 : Int32)), (0, .ref (a 0)), (1, .int x1), (3, .int y3)]) hx hb dX6_countThings_120 rfl hl (by decide) rfl (fun ls hl => ?_)
                refine lv_iinc (v := (y3 + 1)) (lv' := [(3, .int (y3 + 1)), (2, .int (y2 + (1 : Int32))), (4, .int (1 : Int32)), (0, .ref (a 0)), (1, .int x1)]) hx hb dX6_countThings_121 hl (k := 4) rfl rfl (by decide) rfl (fun ls hl => ?_)
                refine lv_goto (tgt := 8) hx hb dX6_countThings_124 (by decide) ?_
                exact ih8 (y2 + (1 : Int32)) (y3 + 1) (lp_b hf) (lp_nn hnn hf) (Eq.trans (Eq.symm (Eq.trans (if_neg c18) (Eq.trans (if_neg c40) (Eq.trans (if_neg c54) (Eq.trans (if_pos c89) (if_pos c98)))))) he) _ _ _ X (lv_sub hl [3, 4, 1, 0] rfl)
          · refine lv_aload_n hx hb dX6_countThings_57 rfl (lv_at hl 0 rfl) ?_
            refine rg_X6_X6_isReached C X dX6_countThings_58 ?_
            refine lv_iload_n hx hb dX6_countThings_61 rfl (lv_at hl 3 rfl) ?_
            refine ra_isReached (v := ((r_isReached (fX6_findReached σ)) (ix y3))) C X (lp_in hnn hf (s0_th (s0_sa (sa_findReached _) hS))) rfl dX6_countThings_62 ?_
            refine lv_if_eq (tgt := 79) hx hb dX6_countThings_63 (by decide) (fun c63 => ?_) (fun c63 => ?_)
            · refine lv_iconst (v := (0)) hx hb dX6_countThings_79 (by decide) ?_
              refine lv_goto (tgt := 106) hx hb dX6_countThings_80 (by decide) ?_
              refine lv_istore (lv' := [(4, .int (0 : Int32)), (0, .ref (a 0)), (1, .int x1), (2, .int y2), (3, .int y3)]) hx hb dX6_countThings_106 hl (by decide) rfl (fun ls hl => ?_)
              refine lv_iload_n hx hb dX6_countThings_108 rfl (lv_at hl 3 rfl) ?_
              refine lv_iload hx hb dX6_countThings_109 (lv_at hl 0 rfl) ?_
              refine lv_if_eq (tgt := 118) hx hb dX6_countThings_111 (by decide) (fun c111 => ?_) (fun c111 => absurd c111 (by decide))
              refine lv_iconst (v := (0)) hx hb dX6_countThings_118 (by decide) ?_
              refine lv_iadd hx hb dX6_countThings_119 ?_
              refine lv_istore_n (lv' := [(2, .int (y2 + (0 : Int32))), (4, .int (0 : Int32)), (0, .ref (a 0)), (1, .int x1), (3, .int y3)]) hx hb dX6_countThings_120 rfl hl (by decide) rfl (fun ls hl => ?_)
              refine lv_iinc (v := (y3 + 1)) (lv' := [(3, .int (y3 + 1)), (2, .int (y2 + (0 : Int32))), (4, .int (0 : Int32)), (0, .ref (a 0)), (1, .int x1)]) hx hb dX6_countThings_121 hl (k := 4) rfl rfl (by decide) rfl (fun ls hl => ?_)
              refine lv_goto (tgt := 8) hx hb dX6_countThings_124 (by decide) ?_
              exact ih8 (y2 + (0 : Int32)) (y3 + 1) (lp_b hf) (lp_nn hnn hf) (Eq.trans (Eq.symm (Eq.trans (if_neg c18) (Eq.trans (if_neg c40) (Eq.trans (if_pos c54) (if_pos c63))))) he) _ _ _ X (lv_sub hl [3, 4, 1, 0] rfl)
            · refine lv_aload_n hx hb dX6_countThings_66 rfl (lv_at hl 0 rfl) ?_
              refine rg_X6_X6_isFreed C X dX6_countThings_67 ?_
              refine lv_iload_n hx hb dX6_countThings_70 rfl (lv_at hl 3 rfl) ?_
              refine ra_isFreed (v := ((r_isFreed (fX6_findReached σ)) (ix y3))) C X (lp_in hnn hf (s0_th (s0_sa (sa_findReached _) hS))) rfl dX6_countThings_71 ?_
              refine lv_if_eq (tgt := 79) hx hb dX6_countThings_72 (by decide) (fun c72 => ?_) (fun c72 => ?_)
              · refine lv_iconst (v := (0)) hx hb dX6_countThings_79 (by decide) ?_
                refine lv_goto (tgt := 106) hx hb dX6_countThings_80 (by decide) ?_
                refine lv_istore (lv' := [(4, .int (0 : Int32)), (0, .ref (a 0)), (1, .int x1), (2, .int y2), (3, .int y3)]) hx hb dX6_countThings_106 hl (by decide) rfl (fun ls hl => ?_)
                refine lv_iload_n hx hb dX6_countThings_108 rfl (lv_at hl 3 rfl) ?_
                refine lv_iload hx hb dX6_countThings_109 (lv_at hl 0 rfl) ?_
                refine lv_if_eq (tgt := 118) hx hb dX6_countThings_111 (by decide) (fun c111 => ?_) (fun c111 => absurd c111 (by decide))
                refine lv_iconst (v := (0)) hx hb dX6_countThings_118 (by decide) ?_
                refine lv_iadd hx hb dX6_countThings_119 ?_
                refine lv_istore_n (lv' := [(2, .int (y2 + (0 : Int32))), (4, .int (0 : Int32)), (0, .ref (a 0)), (1, .int x1), (3, .int y3)]) hx hb dX6_countThings_120 rfl hl (by decide) rfl (fun ls hl => ?_)
                refine lv_iinc (v := (y3 + 1)) (lv' := [(3, .int (y3 + 1)), (2, .int (y2 + (0 : Int32))), (4, .int (0 : Int32)), (0, .ref (a 0)), (1, .int x1)]) hx hb dX6_countThings_121 hl (k := 4) rfl rfl (by decide) rfl (fun ls hl => ?_)
                refine lv_goto (tgt := 8) hx hb dX6_countThings_124 (by decide) ?_
                exact ih8 (y2 + (0 : Int32)) (y3 + 1) (lp_b hf) (lp_nn hnn hf) (Eq.trans (Eq.symm (Eq.trans (if_neg c18) (Eq.trans (if_neg c40) (Eq.trans (if_pos c54) (Eq.trans (if_neg c63) (if_pos c72)))))) he) _ _ _ X (lv_sub hl [3, 4, 1, 0] rfl)
              · refine lv_iconst (v := (1)) hx hb dX6_countThings_75 (by decide) ?_
                refine lv_goto (tgt := 106) hx hb dX6_countThings_76 (by decide) ?_
                refine lv_istore (lv' := [(4, .int (1 : Int32)), (0, .ref (a 0)), (1, .int x1), (2, .int y2), (3, .int y3)]) hx hb dX6_countThings_106 hl (by decide) rfl (fun ls hl => ?_)
                refine lv_iload_n hx hb dX6_countThings_108 rfl (lv_at hl 3 rfl) ?_
                refine lv_iload hx hb dX6_countThings_109 (lv_at hl 0 rfl) ?_
                refine lv_if_eq (tgt := 118) hx hb dX6_countThings_111 (by decide) (fun c111 => absurd c111 (by decide)) (fun c111 => ?_)
                refine lv_iconst (v := (1)) hx hb dX6_countThings_114 (by decide) ?_
                refine lv_goto (tgt := 119) hx hb dX6_countThings_115 (by decide) ?_
                refine lv_iadd hx hb dX6_countThings_119 ?_
                refine lv_istore_n (lv' := [(2, .int (y2 + (1 : Int32))), (4, .int (1 : Int32)), (0, .ref (a 0)), (1, .int x1), (3, .int y3)]) hx hb dX6_countThings_120 rfl hl (by decide) rfl (fun ls hl => ?_)
                refine lv_iinc (v := (y3 + 1)) (lv' := [(3, .int (y3 + 1)), (2, .int (y2 + (1 : Int32))), (4, .int (1 : Int32)), (0, .ref (a 0)), (1, .int x1)]) hx hb dX6_countThings_121 hl (k := 4) rfl rfl (by decide) rfl (fun ls hl => ?_)
                refine lv_goto (tgt := 8) hx hb dX6_countThings_124 (by decide) ?_
                exact ih8 (y2 + (1 : Int32)) (y3 + 1) (lp_b hf) (lp_nn hnn hf) (Eq.trans (Eq.symm (Eq.trans (if_neg c18) (Eq.trans (if_neg c40) (Eq.trans (if_pos c54) (Eq.trans (if_neg c63) (if_neg c72)))))) he) _ _ _ X (lv_sub hl [3, 4, 1, 0] rfl)
        · refine lv_aload_n hx hb dX6_countThings_43 rfl (lv_at hl 0 rfl) ?_
          refine rg_X6_X6_isReached C X dX6_countThings_44 ?_
          refine lv_iload_n hx hb dX6_countThings_47 rfl (lv_at hl 3 rfl) ?_
          refine ra_isReached (v := ((r_isReached (fX6_findReached σ)) (ix y3))) C X (lp_in hnn hf (s0_th (s0_sa (sa_findReached _) hS))) rfl dX6_countThings_48 ?_
          refine lv_goto (tgt := 106) hx hb dX6_countThings_49 (by decide) ?_
          refine lv_istore (lv' := [(4, .int ((r_isReached (fX6_findReached σ)) (ix y3))), (0, .ref (a 0)), (1, .int x1), (2, .int y2), (3, .int y3)]) hx hb dX6_countThings_106 hl (by decide) rfl (fun ls hl => ?_)
          refine lv_iload_n hx hb dX6_countThings_108 rfl (lv_at hl 3 rfl) ?_
          refine lv_iload hx hb dX6_countThings_109 (lv_at hl 0 rfl) ?_
          refine lv_if_eq (tgt := 118) hx hb dX6_countThings_111 (by decide) (fun c111 => ?_) (fun c111 => ?_)
          · refine lv_iconst (v := (0)) hx hb dX6_countThings_118 (by decide) ?_
            refine lv_iadd hx hb dX6_countThings_119 ?_
            refine lv_istore_n (lv' := [(2, .int (y2 + (0 : Int32))), (4, .int ((r_isReached (fX6_findReached σ)) (ix y3))), (0, .ref (a 0)), (1, .int x1), (3, .int y3)]) hx hb dX6_countThings_120 rfl hl (by decide) rfl (fun ls hl => ?_)
            refine lv_iinc (v := (y3 + 1)) (lv' := [(3, .int (y3 + 1)), (2, .int (y2 + (0 : Int32))), (4, .int ((r_isReached (fX6_findReached σ)) (ix y3))), (0, .ref (a 0)), (1, .int x1)]) hx hb dX6_countThings_121 hl (k := 4) rfl rfl (by decide) rfl (fun ls hl => ?_)
            refine lv_goto (tgt := 8) hx hb dX6_countThings_124 (by decide) ?_
            exact ih8 (y2 + (0 : Int32)) (y3 + 1) (lp_b hf) (lp_nn hnn hf) (Eq.trans (Eq.symm (Eq.trans (if_neg c18) (Eq.trans (if_pos c40) (if_pos c111)))) he) _ _ _ X (lv_sub hl [3, 4, 1, 0] rfl)
          · refine lv_iconst (v := (1)) hx hb dX6_countThings_114 (by decide) ?_
            refine lv_goto (tgt := 119) hx hb dX6_countThings_115 (by decide) ?_
            refine lv_iadd hx hb dX6_countThings_119 ?_
            refine lv_istore_n (lv' := [(2, .int (y2 + (1 : Int32))), (4, .int ((r_isReached (fX6_findReached σ)) (ix y3))), (0, .ref (a 0)), (1, .int x1), (3, .int y3)]) hx hb dX6_countThings_120 rfl hl (by decide) rfl (fun ls hl => ?_)
            refine lv_iinc (v := (y3 + 1)) (lv' := [(3, .int (y3 + 1)), (2, .int (y2 + (1 : Int32))), (4, .int ((r_isReached (fX6_findReached σ)) (ix y3))), (0, .ref (a 0)), (1, .int x1)]) hx hb dX6_countThings_121 hl (k := 4) rfl rfl (by decide) rfl (fun ls hl => ?_)
            refine lv_goto (tgt := 8) hx hb dX6_countThings_124 (by decide) ?_
            exact ih8 (y2 + (1 : Int32)) (y3 + 1) (lp_b hf) (lp_nn hnn hf) (Eq.trans (Eq.symm (Eq.trans (if_neg c18) (Eq.trans (if_pos c40) (if_neg c111)))) he) _ _ _ X (lv_sub hl [3, 4, 1, 0] rfl)
      · refine lv_aload_n hx hb dX6_countThings_21 rfl (lv_at hl 0 rfl) ?_
        refine rg_X6_X6_isFreed C X dX6_countThings_22 ?_
        refine lv_iload_n hx hb dX6_countThings_25 rfl (lv_at hl 3 rfl) ?_
        refine ra_isFreed (v := ((r_isFreed (fX6_findReached σ)) (ix y3))) C X (lp_in hnn hf (s0_th (s0_sa (sa_findReached _) hS))) rfl dX6_countThings_26 ?_
        refine lv_if_ne (tgt := 34) hx hb dX6_countThings_27 (by decide) (fun c27 => ?_) (fun c27 => ?_)
        · refine lv_iconst (v := (0)) hx hb dX6_countThings_34 (by decide) ?_
          refine lv_goto (tgt := 106) hx hb dX6_countThings_35 (by decide) ?_
          refine lv_istore (lv' := [(4, .int (0 : Int32)), (0, .ref (a 0)), (1, .int x1), (2, .int y2), (3, .int y3)]) hx hb dX6_countThings_106 hl (by decide) rfl (fun ls hl => ?_)
          refine lv_iload_n hx hb dX6_countThings_108 rfl (lv_at hl 3 rfl) ?_
          refine lv_iload hx hb dX6_countThings_109 (lv_at hl 0 rfl) ?_
          refine lv_if_eq (tgt := 118) hx hb dX6_countThings_111 (by decide) (fun c111 => ?_) (fun c111 => absurd c111 (by decide))
          refine lv_iconst (v := (0)) hx hb dX6_countThings_118 (by decide) ?_
          refine lv_iadd hx hb dX6_countThings_119 ?_
          refine lv_istore_n (lv' := [(2, .int (y2 + (0 : Int32))), (4, .int (0 : Int32)), (0, .ref (a 0)), (1, .int x1), (3, .int y3)]) hx hb dX6_countThings_120 rfl hl (by decide) rfl (fun ls hl => ?_)
          refine lv_iinc (v := (y3 + 1)) (lv' := [(3, .int (y3 + 1)), (2, .int (y2 + (0 : Int32))), (4, .int (0 : Int32)), (0, .ref (a 0)), (1, .int x1)]) hx hb dX6_countThings_121 hl (k := 4) rfl rfl (by decide) rfl (fun ls hl => ?_)
          refine lv_goto (tgt := 8) hx hb dX6_countThings_124 (by decide) ?_
          exact ih8 (y2 + (0 : Int32)) (y3 + 1) (lp_b hf) (lp_nn hnn hf) (Eq.trans (Eq.symm (Eq.trans (if_pos c18) (if_neg c27))) he) _ _ _ X (lv_sub hl [3, 4, 1, 0] rfl)
        · refine lv_iconst (v := (1)) hx hb dX6_countThings_30 (by decide) ?_
          refine lv_goto (tgt := 106) hx hb dX6_countThings_31 (by decide) ?_
          refine lv_istore (lv' := [(4, .int (1 : Int32)), (0, .ref (a 0)), (1, .int x1), (2, .int y2), (3, .int y3)]) hx hb dX6_countThings_106 hl (by decide) rfl (fun ls hl => ?_)
          refine lv_iload_n hx hb dX6_countThings_108 rfl (lv_at hl 3 rfl) ?_
          refine lv_iload hx hb dX6_countThings_109 (lv_at hl 0 rfl) ?_
          refine lv_if_eq (tgt := 118) hx hb dX6_countThings_111 (by decide) (fun c111 => absurd c111 (by decide)) (fun c111 => ?_)
          refine lv_iconst (v := (1)) hx hb dX6_countThings_114 (by decide) ?_
          refine lv_goto (tgt := 119) hx hb dX6_countThings_115 (by decide) ?_
          refine lv_iadd hx hb dX6_countThings_119 ?_
          refine lv_istore_n (lv' := [(2, .int (y2 + (1 : Int32))), (4, .int (1 : Int32)), (0, .ref (a 0)), (1, .int x1), (3, .int y3)]) hx hb dX6_countThings_120 rfl hl (by decide) rfl (fun ls hl => ?_)
          refine lv_iinc (v := (y3 + 1)) (lv' := [(3, .int (y3 + 1)), (2, .int (y2 + (1 : Int32))), (4, .int (1 : Int32)), (0, .ref (a 0)), (1, .int x1)]) hx hb dX6_countThings_121 hl (k := 4) rfl rfl (by decide) rfl (fun ls hl => ?_)
          refine lv_goto (tgt := 8) hx hb dX6_countThings_124 (by decide) ?_
          exact ih8 (y2 + (1 : Int32)) (y3 + 1) (lp_b hf) (lp_nn hnn hf) (Eq.trans (Eq.symm (Eq.trans (if_pos c18) (if_pos c27))) he) _ _ _ X (lv_sub hl [3, 4, 1, 0] rfl)
  exact L8 (((Int32.toInt (r_things (fX6_findReached σ))) - (Int32.toInt (0 : Int32))).toNat) (0 : Int32) (0 : Int32) rfl (by decide) rfl _ _ _ X (lv_sub hl [2, 3, 1, 0] rfl)
def fX6_count_L122 : Nat → Int32 → Int32 → RSt → Int32 × RSt
  | 0, y2, y3, σ0 => (y2, σ0)
  | f + 1, y2, y3, σ0 => (if ((r_isPair σ0) (ix y3)) = (0 : Int32) then (fX6_count_L122 f (y2 + (0 : Int32)) (y3 + 1) σ0) else (fX6_count_L122 f (y2 + (1 : Int32)) (y3 + 1) σ0))
def fX6_count (σ : RSt) (x1 : Int32) : Int32 × RSt := (if x1 = (0 : Int32) then ((r_things σ), σ) else (if x1 = (1 : Int32) then ((fX6_countThings σ x1).1, (fX6_countThings σ x1).2) else (if x1 = (2 : Int32) then ((fX6_countThings σ x1).1, (fX6_countThings σ x1).2) else (if x1 = (3 : Int32) then ((fX6_countThings σ x1).1, (fX6_countThings σ x1).2) else (if x1 = (4 : Int32) then ((fX6_countThings σ x1).1, (fX6_countThings σ x1).2) else (if x1 = (5 : Int32) then (if x1 = (6 : Int32) then ((fX6_freeCells σ (1 : Int32)), σ) else ((fX6_freeCells σ (0 : Int32)), σ)) else (if x1 = (6 : Int32) then (if x1 = (6 : Int32) then ((fX6_freeCells σ (1 : Int32)), σ) else ((fX6_freeCells σ (0 : Int32)), σ)) else (if x1 = (7 : Int32) then ((r_rounds σ), σ) else (if x1 = (8 : Int32) then ((r_steps σ), σ) else (if x1 = (9 : Int32) then ((r_shaded σ), σ) else (if x1 = (10 : Int32) then ((r_movedMany σ), σ) else (if x1 = (11 : Int32) then ((r_wishes σ), σ) else (if x1 = (12 : Int32) then (fX6_count_L122 (((Int32.toInt (r_pairs σ)) - (Int32.toInt (0 : Int32))).toNat) (0 : Int32) (0 : Int32) σ) else ((-2 : Int32), σ))))))))))))))
theorem hdX6_count : yX6_count.cls = RX6 ∧ yX6_count.cls ≠ "java/lang/invoke/MethodHandle" ∧ yX6_count.cls ≠ "java/lang/invoke/VarHandle" ∧ (parseMethodDescriptor yX6_count.desc).map (fun d => d.parameters.length) = some 1 := by decide +kernel
set_option maxHeartbeats 250000 in
set_option maxRecDepth 100000 in
theorem kX6_count (l : Launch) (D : va_G) (a : Nat → Nat) (cI cZ : ClassId) (σ : RSt) (x1 : Int32) (hS : S0 σ) : CR l D (tyIZ cI cZ) (wR a cI cZ) yX6_count cX6_count 4 .int (rmk 3 67) [.ref (a 0), .int x1] σ (fX6_count σ x1).1 (fX6_count σ x1).2 := by
  refine CR.of pnX6 ⟨rfl, rfl⟩ (Nat.le_of_ble_eq_true rfl) rfl (fun p e s m args below meth c A Q ls C X hA hl ret => ?_)
  have C : Cx p s m args meth c cX6_count 4 RX6 D (tyIZ cI cZ) := C
  have hx := C.1
  have hb := C.2.1
  have hl : lv_has ls 4 [(0, .ref (a 0)), (1, .int x1)] := hl
  refine lv_iconst (v := (0)) hx hb dX6_count_0 (by decide) ?_
  refine lv_istore_n (lv' := [(2, .int (0 : Int32)), (0, .ref (a 0)), (1, .int x1)]) hx hb dX6_count_1 rfl hl (by decide) rfl (fun ls hl => ?_)
  refine lv_iload_n hx hb dX6_count_2 rfl (lv_at hl 2 rfl) ?_
  by_cases c3_0 : x1 = (0 : Int32)
  · refine lv_tableIn (tgt := 68) (off := (65)) hx hb dX6_count_3 (by rw [c3_0]; decide) (by rw [c3_0]; decide) (by rw [c3_0]; rfl) (by decide) ?_
    refine lv_aload_n hx hb dX6_count_68 rfl (lv_at hl 1 rfl) ?_
    refine rg_X6_X6_things (v := (r_things σ)) C X rfl dX6_count_69 ?_
    exact ret dX6_count_72 (pe_ (Eq.symm (if_pos c3_0))) X
  · skip
    by_cases c3_1 : x1 = (1 : Int32)
    · refine lv_tableIn (tgt := 73) (off := (70)) hx hb dX6_count_3 (by rw [c3_1]; decide) (by rw [c3_1]; decide) (by rw [c3_1]; rfl) (by decide) ?_
      refine lv_aload_n hx hb dX6_count_73 rfl (lv_at hl 1 rfl) ?_
      refine lv_iload_n hx hb dX6_count_74 rfl (lv_at hl 2 rfl) ?_
      refine callVR (rest := []) C hA (wR_sh a cI cZ) X (kX6_countThings l D a cI cZ _ x1 hS) (cwV 1 C.2.2.2.2.1 (gV wl_X6_195 wt_yX6_countThings ws_yX6_countThings wi_X6 wk_yX6_countThings) rfl rfl rfl hdX6_countThings ⟨Nat.le_of_ble_eq_true rfl, Nat.le_of_ble_eq_true rfl⟩) (ci := 6) (q0 := 0) rfl rfl rfl hl.1 rfl (Nat.le_of_ble_eq_true rfl) dX6_count_75 ⟨Nat.le_refl 0, Nat.le_refl 0⟩ (fun H locs X => ?_)
      exact ret dX6_count_78 (pe_ (Eq.symm (Eq.trans (if_neg c3_0) (if_pos c3_1)))) X
    · skip
      by_cases c3_2 : x1 = (2 : Int32)
      · refine lv_tableIn (tgt := 73) (off := (70)) hx hb dX6_count_3 (by rw [c3_2]; decide) (by rw [c3_2]; decide) (by rw [c3_2]; rfl) (by decide) ?_
        refine lv_aload_n hx hb dX6_count_73 rfl (lv_at hl 1 rfl) ?_
        refine lv_iload_n hx hb dX6_count_74 rfl (lv_at hl 2 rfl) ?_
        refine callVR (rest := []) C hA (wR_sh a cI cZ) X (kX6_countThings l D a cI cZ _ x1 hS) (cwV 1 C.2.2.2.2.1 (gV wl_X6_195 wt_yX6_countThings ws_yX6_countThings wi_X6 wk_yX6_countThings) rfl rfl rfl hdX6_countThings ⟨Nat.le_of_ble_eq_true rfl, Nat.le_of_ble_eq_true rfl⟩) (ci := 6) (q0 := 0) rfl rfl rfl hl.1 rfl (Nat.le_of_ble_eq_true rfl) dX6_count_75 ⟨Nat.le_refl 0, Nat.le_refl 0⟩ (fun H locs X => ?_)
        exact ret dX6_count_78 (pe_ (Eq.symm (Eq.trans (if_neg c3_0) (Eq.trans (if_neg c3_1) (if_pos c3_2))))) X
      · skip
        by_cases c3_3 : x1 = (3 : Int32)
        · refine lv_tableIn (tgt := 73) (off := (70)) hx hb dX6_count_3 (by rw [c3_3]; decide) (by rw [c3_3]; decide) (by rw [c3_3]; rfl) (by decide) ?_
          refine lv_aload_n hx hb dX6_count_73 rfl (lv_at hl 1 rfl) ?_
          refine lv_iload_n hx hb dX6_count_74 rfl (lv_at hl 2 rfl) ?_
          refine callVR (rest := []) C hA (wR_sh a cI cZ) X (kX6_countThings l D a cI cZ _ x1 hS) (cwV 1 C.2.2.2.2.1 (gV wl_X6_195 wt_yX6_countThings ws_yX6_countThings wi_X6 wk_yX6_countThings) rfl rfl rfl hdX6_countThings ⟨Nat.le_of_ble_eq_true rfl, Nat.le_of_ble_eq_true rfl⟩) (ci := 6) (q0 := 0) rfl rfl rfl hl.1 rfl (Nat.le_of_ble_eq_true rfl) dX6_count_75 ⟨Nat.le_refl 0, Nat.le_refl 0⟩ (fun H locs X => ?_)
          exact ret dX6_count_78 (pe_ (Eq.symm (Eq.trans (if_neg c3_0) (Eq.trans (if_neg c3_1) (Eq.trans (if_neg c3_2) (if_pos c3_3)))))) X
        · skip
          by_cases c3_4 : x1 = (4 : Int32)
          · refine lv_tableIn (tgt := 73) (off := (70)) hx hb dX6_count_3 (by rw [c3_4]; decide) (by rw [c3_4]; decide) (by rw [c3_4]; rfl) (by decide) ?_
            refine lv_aload_n hx hb dX6_count_73 rfl (lv_at hl 1 rfl) ?_
            refine lv_iload_n hx hb dX6_count_74 rfl (lv_at hl 2 rfl) ?_
            refine callVR (rest := []) C hA (wR_sh a cI cZ) X (kX6_countThings l D a cI cZ _ x1 hS) (cwV 1 C.2.2.2.2.1 (gV wl_X6_195 wt_yX6_countThings ws_yX6_countThings wi_X6 wk_yX6_countThings) rfl rfl rfl hdX6_countThings ⟨Nat.le_of_ble_eq_true rfl, Nat.le_of_ble_eq_true rfl⟩) (ci := 6) (q0 := 0) rfl rfl rfl hl.1 rfl (Nat.le_of_ble_eq_true rfl) dX6_count_75 ⟨Nat.le_refl 0, Nat.le_refl 0⟩ (fun H locs X => ?_)
            exact ret dX6_count_78 (pe_ (Eq.symm (Eq.trans (if_neg c3_0) (Eq.trans (if_neg c3_1) (Eq.trans (if_neg c3_2) (Eq.trans (if_neg c3_3) (if_pos c3_4))))))) X
          · skip
            by_cases c3_5 : x1 = (5 : Int32)
            · refine lv_tableIn (tgt := 79) (off := (76)) hx hb dX6_count_3 (by rw [c3_5]; decide) (by rw [c3_5]; decide) (by rw [c3_5]; rfl) (by decide) ?_
              refine lv_aload_n hx hb dX6_count_79 rfl (lv_at hl 1 rfl) ?_
              refine lv_iload_n hx hb dX6_count_80 rfl (lv_at hl 2 rfl) ?_
              refine lv_bipush (v := (6)) hx hb dX6_count_81 (by decide) ?_
              refine lv_icmp_ne (tgt := 90) hx hb dX6_count_83 (by decide) (fun c83 => ?_) (fun c83 => ?_)
              · refine lv_iconst (v := (0)) hx hb dX6_count_90 (by decide) ?_
                refine callVR (rest := []) C hA (wR_sh a cI cZ) X (kX6_freeCells l D a cI cZ _ (0 : Int32) hS) (cwV 1 C.2.2.2.2.1 (gV wl_X6_198 wt_yX6_freeCells ws_yX6_freeCells wi_X6 wk_yX6_freeCells) rfl rfl rfl hdX6_freeCells ⟨Nat.le_of_ble_eq_true rfl, Nat.le_of_ble_eq_true rfl⟩) (ci := 6) (q0 := 0) rfl rfl rfl hl.1 rfl (Nat.le_of_ble_eq_true rfl) dX6_count_91 ⟨Nat.le_refl 0, Nat.le_refl 0⟩ (fun H locs X => ?_)
                exact ret dX6_count_94 (pe_ (Eq.symm (Eq.trans (if_neg c3_0) (Eq.trans (if_neg c3_1) (Eq.trans (if_neg c3_2) (Eq.trans (if_neg c3_3) (Eq.trans (if_neg c3_4) (Eq.trans (if_pos c3_5) (if_neg c83))))))))) X
              · refine lv_iconst (v := (1)) hx hb dX6_count_86 (by decide) ?_
                refine lv_goto (tgt := 91) hx hb dX6_count_87 (by decide) ?_
                refine callVR (rest := []) C hA (wR_sh a cI cZ) X (kX6_freeCells l D a cI cZ _ (1 : Int32) hS) (cwV 1 C.2.2.2.2.1 (gV wl_X6_198 wt_yX6_freeCells ws_yX6_freeCells wi_X6 wk_yX6_freeCells) rfl rfl rfl hdX6_freeCells ⟨Nat.le_of_ble_eq_true rfl, Nat.le_of_ble_eq_true rfl⟩) (ci := 6) (q0 := 0) rfl rfl rfl hl.1 rfl (Nat.le_of_ble_eq_true rfl) dX6_count_91 ⟨Nat.le_refl 0, Nat.le_refl 0⟩ (fun H locs X => ?_)
                exact ret dX6_count_94 (pe_ (Eq.symm (Eq.trans (if_neg c3_0) (Eq.trans (if_neg c3_1) (Eq.trans (if_neg c3_2) (Eq.trans (if_neg c3_3) (Eq.trans (if_neg c3_4) (Eq.trans (if_pos c3_5) (if_pos c83))))))))) X
            · skip
              by_cases c3_6 : x1 = (6 : Int32)
              · refine lv_tableIn (tgt := 79) (off := (76)) hx hb dX6_count_3 (by rw [c3_6]; decide) (by rw [c3_6]; decide) (by rw [c3_6]; rfl) (by decide) ?_
                refine lv_aload_n hx hb dX6_count_79 rfl (lv_at hl 1 rfl) ?_
                refine lv_iload_n hx hb dX6_count_80 rfl (lv_at hl 2 rfl) ?_
                refine lv_bipush (v := (6)) hx hb dX6_count_81 (by decide) ?_
                refine lv_icmp_ne (tgt := 90) hx hb dX6_count_83 (by decide) (fun c83 => ?_) (fun c83 => ?_)
                · refine lv_iconst (v := (0)) hx hb dX6_count_90 (by decide) ?_
                  refine callVR (rest := []) C hA (wR_sh a cI cZ) X (kX6_freeCells l D a cI cZ _ (0 : Int32) hS) (cwV 1 C.2.2.2.2.1 (gV wl_X6_198 wt_yX6_freeCells ws_yX6_freeCells wi_X6 wk_yX6_freeCells) rfl rfl rfl hdX6_freeCells ⟨Nat.le_of_ble_eq_true rfl, Nat.le_of_ble_eq_true rfl⟩) (ci := 6) (q0 := 0) rfl rfl rfl hl.1 rfl (Nat.le_of_ble_eq_true rfl) dX6_count_91 ⟨Nat.le_refl 0, Nat.le_refl 0⟩ (fun H locs X => ?_)
                  exact ret dX6_count_94 (pe_ (Eq.symm (Eq.trans (if_neg c3_0) (Eq.trans (if_neg c3_1) (Eq.trans (if_neg c3_2) (Eq.trans (if_neg c3_3) (Eq.trans (if_neg c3_4) (Eq.trans (if_neg c3_5) (Eq.trans (if_pos c3_6) (if_neg c83)))))))))) X
                · refine lv_iconst (v := (1)) hx hb dX6_count_86 (by decide) ?_
                  refine lv_goto (tgt := 91) hx hb dX6_count_87 (by decide) ?_
                  refine callVR (rest := []) C hA (wR_sh a cI cZ) X (kX6_freeCells l D a cI cZ _ (1 : Int32) hS) (cwV 1 C.2.2.2.2.1 (gV wl_X6_198 wt_yX6_freeCells ws_yX6_freeCells wi_X6 wk_yX6_freeCells) rfl rfl rfl hdX6_freeCells ⟨Nat.le_of_ble_eq_true rfl, Nat.le_of_ble_eq_true rfl⟩) (ci := 6) (q0 := 0) rfl rfl rfl hl.1 rfl (Nat.le_of_ble_eq_true rfl) dX6_count_91 ⟨Nat.le_refl 0, Nat.le_refl 0⟩ (fun H locs X => ?_)
                  exact ret dX6_count_94 (pe_ (Eq.symm (Eq.trans (if_neg c3_0) (Eq.trans (if_neg c3_1) (Eq.trans (if_neg c3_2) (Eq.trans (if_neg c3_3) (Eq.trans (if_neg c3_4) (Eq.trans (if_neg c3_5) (Eq.trans (if_pos c3_6) (if_pos c83)))))))))) X
              · skip
                by_cases c3_7 : x1 = (7 : Int32)
                · refine lv_tableIn (tgt := 95) (off := (92)) hx hb dX6_count_3 (by rw [c3_7]; decide) (by rw [c3_7]; decide) (by rw [c3_7]; rfl) (by decide) ?_
                  refine lv_aload_n hx hb dX6_count_95 rfl (lv_at hl 1 rfl) ?_
                  refine rg_X6_X6_rounds (v := (r_rounds σ)) C X rfl dX6_count_96 ?_
                  exact ret dX6_count_99 (pe_ (Eq.symm (Eq.trans (if_neg c3_0) (Eq.trans (if_neg c3_1) (Eq.trans (if_neg c3_2) (Eq.trans (if_neg c3_3) (Eq.trans (if_neg c3_4) (Eq.trans (if_neg c3_5) (Eq.trans (if_neg c3_6) (if_pos c3_7)))))))))) X
                · skip
                  by_cases c3_8 : x1 = (8 : Int32)
                  · refine lv_tableIn (tgt := 100) (off := (97)) hx hb dX6_count_3 (by rw [c3_8]; decide) (by rw [c3_8]; decide) (by rw [c3_8]; rfl) (by decide) ?_
                    refine lv_aload_n hx hb dX6_count_100 rfl (lv_at hl 1 rfl) ?_
                    refine rg_X6_X6_steps (v := (r_steps σ)) C X rfl dX6_count_101 ?_
                    exact ret dX6_count_104 (pe_ (Eq.symm (Eq.trans (if_neg c3_0) (Eq.trans (if_neg c3_1) (Eq.trans (if_neg c3_2) (Eq.trans (if_neg c3_3) (Eq.trans (if_neg c3_4) (Eq.trans (if_neg c3_5) (Eq.trans (if_neg c3_6) (Eq.trans (if_neg c3_7) (if_pos c3_8))))))))))) X
                  · skip
                    by_cases c3_9 : x1 = (9 : Int32)
                    · refine lv_tableIn (tgt := 105) (off := (102)) hx hb dX6_count_3 (by rw [c3_9]; decide) (by rw [c3_9]; decide) (by rw [c3_9]; rfl) (by decide) ?_
                      refine lv_aload_n hx hb dX6_count_105 rfl (lv_at hl 1 rfl) ?_
                      refine rg_X6_X6_shaded (v := (r_shaded σ)) C X rfl dX6_count_106 ?_
                      exact ret dX6_count_109 (pe_ (Eq.symm (Eq.trans (if_neg c3_0) (Eq.trans (if_neg c3_1) (Eq.trans (if_neg c3_2) (Eq.trans (if_neg c3_3) (Eq.trans (if_neg c3_4) (Eq.trans (if_neg c3_5) (Eq.trans (if_neg c3_6) (Eq.trans (if_neg c3_7) (Eq.trans (if_neg c3_8) (if_pos c3_9)))))))))))) X
                    · skip
                      by_cases c3_10 : x1 = (10 : Int32)
                      · refine lv_tableIn (tgt := 110) (off := (107)) hx hb dX6_count_3 (by rw [c3_10]; decide) (by rw [c3_10]; decide) (by rw [c3_10]; rfl) (by decide) ?_
                        refine lv_aload_n hx hb dX6_count_110 rfl (lv_at hl 1 rfl) ?_
                        refine rg_X6_X6_movedMany (v := (r_movedMany σ)) C X rfl dX6_count_111 ?_
                        exact ret dX6_count_114 (pe_ (Eq.symm (Eq.trans (if_neg c3_0) (Eq.trans (if_neg c3_1) (Eq.trans (if_neg c3_2) (Eq.trans (if_neg c3_3) (Eq.trans (if_neg c3_4) (Eq.trans (if_neg c3_5) (Eq.trans (if_neg c3_6) (Eq.trans (if_neg c3_7) (Eq.trans (if_neg c3_8) (Eq.trans (if_neg c3_9) (if_pos c3_10))))))))))))) X
                      · skip
                        by_cases c3_11 : x1 = (11 : Int32)
                        · refine lv_tableIn (tgt := 115) (off := (112)) hx hb dX6_count_3 (by rw [c3_11]; decide) (by rw [c3_11]; decide) (by rw [c3_11]; rfl) (by decide) ?_
                          refine lv_aload_n hx hb dX6_count_115 rfl (lv_at hl 1 rfl) ?_
                          refine rg_X6_X6_wishes (v := (r_wishes σ)) C X rfl dX6_count_116 ?_
                          exact ret dX6_count_119 (pe_ (Eq.symm (Eq.trans (if_neg c3_0) (Eq.trans (if_neg c3_1) (Eq.trans (if_neg c3_2) (Eq.trans (if_neg c3_3) (Eq.trans (if_neg c3_4) (Eq.trans (if_neg c3_5) (Eq.trans (if_neg c3_6) (Eq.trans (if_neg c3_7) (Eq.trans (if_neg c3_8) (Eq.trans (if_neg c3_9) (Eq.trans (if_neg c3_10) (if_pos c3_11)))))))))))))) X
                        · skip
                          by_cases c3_12 : x1 = (12 : Int32)
                          · refine lv_tableIn (tgt := 120) (off := (117)) hx hb dX6_count_3 (by rw [c3_12]; decide) (by rw [c3_12]; decide) (by rw [c3_12]; rfl) (by decide) ?_
                            refine lv_iconst (v := (0)) hx hb dX6_count_120 (by decide) ?_
                            refine lv_istore_n (lv' := [(3, .int (0 : Int32)), (2, .int (0 : Int32)), (0, .ref (a 0)), (1, .int x1)]) hx hb dX6_count_121 rfl hl (by decide) rfl (fun ls hl => ?_)
                            have L122 : ∀ (f : Nat) (y2 : Int32) (y3 : Int32) (hf : ((Int32.toInt (r_pairs σ)) - (Int32.toInt y3)).toNat = f) (hnn : 0 ≤ Int32.toInt y3) (he : fX6_count_L122 f y2 y3 σ = (fX6_count σ x1)) (H : Heap) (locs : List Loc) (ls : Array Slot) (X : Sx A D (wR a cI cZ σ) s H locs) (hl : lv_has ls 4 [(0, .ref (a 0)), (2, .int y2), (3, .int y3)]), W p l e (rmk 3 67) s m args below meth c H locs 0 0 Q (F0 m 122 ls []) := by
                              intro f
                              induction f with
                              | zero =>
                                intro y2 y3 hf hnn he H locs ls X hl
                                refine lv_iload_n hx hb dX6_count_122 rfl (lv_at hl 2 rfl) ?_
                                refine lv_aload_n hx hb dX6_count_123 rfl (lv_at hl 0 rfl) ?_
                                refine rg_X6_X6_pairs (v := (r_pairs σ)) C X rfl dX6_count_124 ?_
                                refine lv_icmp_ge (tgt := 153) hx hb dX6_count_127 (by decide) (fun c127 => ?_) (fun c127 => (lp_z hf c127).elim)
                                refine lv_iload_n hx hb dX6_count_153 rfl (lv_at hl 1 rfl) ?_
                                exact ret dX6_count_154 (pe_ he) X
                              | succ f ih122 =>
                                intro y2 y3 hf hnn he H locs ls X hl
                                refine lv_iload_n hx hb dX6_count_122 rfl (lv_at hl 2 rfl) ?_
                                refine lv_aload_n hx hb dX6_count_123 rfl (lv_at hl 0 rfl) ?_
                                refine rg_X6_X6_pairs (v := (r_pairs σ)) C X rfl dX6_count_124 ?_
                                refine lv_icmp_ge (tgt := 153) hx hb dX6_count_127 (by decide) (fun c127 => (lp_s hf c127).elim) (fun c127 => ?_)
                                refine lv_iload_n hx hb dX6_count_130 rfl (lv_at hl 1 rfl) ?_
                                refine lv_aload_n hx hb dX6_count_131 rfl (lv_at hl 0 rfl) ?_
                                refine rg_X6_X6_isPair C X dX6_count_132 ?_
                                refine lv_iload_n hx hb dX6_count_135 rfl (lv_at hl 2 rfl) ?_
                                refine ra_isPair (v := ((r_isPair σ) (ix y3))) C X (lp_in hnn hf (s0_pairs hS)) rfl dX6_count_136 ?_
                                refine lv_if_eq (tgt := 144) hx hb dX6_count_137 (by decide) (fun c137 => ?_) (fun c137 => ?_)
                                · refine lv_iconst (v := (0)) hx hb dX6_count_144 (by decide) ?_
                                  refine lv_iadd hx hb dX6_count_145 ?_
                                  refine lv_istore_n (lv' := [(2, .int (y2 + (0 : Int32))), (0, .ref (a 0)), (3, .int y3)]) hx hb dX6_count_146 rfl hl (by decide) rfl (fun ls hl => ?_)
                                  refine lv_iinc (v := (y3 + 1)) (lv' := [(3, .int (y3 + 1)), (2, .int (y2 + (0 : Int32))), (0, .ref (a 0))]) hx hb dX6_count_147 hl (k := 2) rfl rfl (by decide) rfl (fun ls hl => ?_)
                                  refine lv_goto (tgt := 122) hx hb dX6_count_150 (by decide) ?_
                                  exact ih122 (y2 + (0 : Int32)) (y3 + 1) (lp_b hf) (lp_nn hnn hf) (Eq.trans (Eq.symm (if_pos c137)) he) _ _ _ X (lv_sub hl [2, 1, 0] rfl)
                                · refine lv_iconst (v := (1)) hx hb dX6_count_140 (by decide) ?_
                                  refine lv_goto (tgt := 145) hx hb dX6_count_141 (by decide) ?_
                                  refine lv_iadd hx hb dX6_count_145 ?_
                                  refine lv_istore_n (lv' := [(2, .int (y2 + (1 : Int32))), (0, .ref (a 0)), (3, .int y3)]) hx hb dX6_count_146 rfl hl (by decide) rfl (fun ls hl => ?_)
                                  refine lv_iinc (v := (y3 + 1)) (lv' := [(3, .int (y3 + 1)), (2, .int (y2 + (1 : Int32))), (0, .ref (a 0))]) hx hb dX6_count_147 hl (k := 2) rfl rfl (by decide) rfl (fun ls hl => ?_)
                                  refine lv_goto (tgt := 122) hx hb dX6_count_150 (by decide) ?_
                                  exact ih122 (y2 + (1 : Int32)) (y3 + 1) (lp_b hf) (lp_nn hnn hf) (Eq.trans (Eq.symm (if_neg c137)) he) _ _ _ X (lv_sub hl [2, 1, 0] rfl)
                            exact L122 (((Int32.toInt (r_pairs σ)) - (Int32.toInt (0 : Int32))).toNat) (0 : Int32) (0 : Int32) rfl (by decide) (Eq.symm (Eq.trans (if_neg c3_0) (Eq.trans (if_neg c3_1) (Eq.trans (if_neg c3_2) (Eq.trans (if_neg c3_3) (Eq.trans (if_neg c3_4) (Eq.trans (if_neg c3_5) (Eq.trans (if_neg c3_6) (Eq.trans (if_neg c3_7) (Eq.trans (if_neg c3_8) (Eq.trans (if_neg c3_9) (Eq.trans (if_neg c3_10) (Eq.trans (if_neg c3_11) (if_pos c3_12)))))))))))))) _ _ _ X (lv_sub hl [2, 1, 0] rfl)
                          · skip
                            refine lv_tableOut (tgt := 155) hx hb dX6_count_3 (by have t0 := i32_ne c3_0; have t1 := i32_ne c3_1; have t2 := i32_ne c3_2; have t3 := i32_ne c3_3; have t4 := i32_ne c3_4; have t5 := i32_ne c3_5; have t6 := i32_ne c3_6; have t7 := i32_ne c3_7; have t8 := i32_ne c3_8; have t9 := i32_ne c3_9; have t10 := i32_ne c3_10; have t11 := i32_ne c3_11; have t12 := i32_ne c3_12; have q0_ : (0 : Int32).toInt = 0 := rfl; have q1_ : (1 : Int32).toInt = 1 := rfl; have q2_ : (2 : Int32).toInt = 2 := rfl; have q3_ : (3 : Int32).toInt = 3 := rfl; have q4_ : (4 : Int32).toInt = 4 := rfl; have q5_ : (5 : Int32).toInt = 5 := rfl; have q6_ : (6 : Int32).toInt = 6 := rfl; have q7_ : (7 : Int32).toInt = 7 := rfl; have q8_ : (8 : Int32).toInt = 8 := rfl; have q9_ : (9 : Int32).toInt = 9 := rfl; have q10_ : (10 : Int32).toInt = 10 := rfl; have q11_ : (11 : Int32).toInt = 11 := rfl; have q12_ : (12 : Int32).toInt = 12 := rfl; omega) (by decide) ?_
                            refine lv_bipush (v := (-2)) hx hb dX6_count_155 (by decide) ?_
                            exact ret dX6_count_157 (pe_ (Eq.symm (Eq.trans (if_neg c3_0) (Eq.trans (if_neg c3_1) (Eq.trans (if_neg c3_2) (Eq.trans (if_neg c3_3) (Eq.trans (if_neg c3_4) (Eq.trans (if_neg c3_5) (Eq.trans (if_neg c3_6) (Eq.trans (if_neg c3_7) (Eq.trans (if_neg c3_8) (Eq.trans (if_neg c3_9) (Eq.trans (if_neg c3_10) (Eq.trans (if_neg c3_11) (if_neg c3_12))))))))))))))) X
def fX6_lost_L6 : Nat → Int32 → RSt → Int32 × RSt
  | 0, y1, σ0 => ((-1 : Int32), σ0)
  | f + 1, y1, σ0 => (if ((r_isReached σ0) (ix y1)) = (0 : Int32) then (fX6_lost_L6 f (y1 + 1) σ0) else (if ((r_isFreed σ0) (ix y1)) = (0 : Int32) then (fX6_lost_L6 f (y1 + 1) σ0) else (y1, σ0)))
def fX6_lost (σ : RSt) : Int32 × RSt := (fX6_lost_L6 (((Int32.toInt (r_things (fX6_findReached σ))) - (Int32.toInt (0 : Int32))).toNat) (0 : Int32) (fX6_findReached σ))
theorem hdX6_lost : yX6_lost.cls = RX6 ∧ yX6_lost.cls ≠ "java/lang/invoke/MethodHandle" ∧ yX6_lost.cls ≠ "java/lang/invoke/VarHandle" ∧ (parseMethodDescriptor yX6_lost.desc).map (fun d => d.parameters.length) = some 0 := by decide +kernel
set_option maxHeartbeats 250000 in
set_option maxRecDepth 100000 in
theorem kX6_lost (l : Launch) (D : va_G) (a : Nat → Nat) (cI cZ : ClassId) (σ : RSt) (hS : S0 σ) : CR l D (tyIZ cI cZ) (wR a cI cZ) yX6_lost cX6_lost 2 .int (rmk 2 43) [.ref (a 0)] σ (fX6_lost σ).1 (fX6_lost σ).2 := by
  refine CR.of pnX6 ⟨rfl, rfl⟩ (Nat.le_of_ble_eq_true rfl) rfl (fun p e s m args below meth c A Q ls C X hA hl ret => ?_)
  have C : Cx p s m args meth c cX6_lost 2 RX6 D (tyIZ cI cZ) := C
  have hx := C.1
  have hb := C.2.1
  have hl : lv_has ls 2 [(0, .ref (a 0))] := hl
  refine lv_aload_n hx hb dX6_lost_0 rfl (lv_at hl 0 rfl) ?_
  refine callVU (rest := []) C hA (wR_sh a cI cZ) X (kX6_findReached l D a cI cZ _  hS) (cwV 0 C.2.2.2.2.1 (gV wl_X6_183 wt_yX6_findReached ws_yX6_findReached wi_X6 wk_yX6_findReached) rfl rfl rfl hdX6_findReached ⟨Nat.le_of_ble_eq_true rfl, Nat.le_of_ble_eq_true rfl⟩) (ci := 6) (q0 := 0) rfl rfl rfl hl.1 rfl (Nat.le_of_ble_eq_true rfl) dX6_lost_1 ⟨Nat.le_refl 0, Nat.le_refl 0⟩ (fun H locs X => ?_)
  refine lv_iconst (v := (0)) hx hb dX6_lost_4 (by decide) ?_
  refine lv_istore_n (lv' := [(1, .int (0 : Int32)), (0, .ref (a 0))]) hx hb dX6_lost_5 rfl hl (by decide) rfl (fun ls hl => ?_)
  have L6 : ∀ (f : Nat) (y1 : Int32) (hf : ((Int32.toInt (r_things (fX6_findReached σ))) - (Int32.toInt y1)).toNat = f) (hnn : 0 ≤ Int32.toInt y1) (he : fX6_lost_L6 f y1 (fX6_findReached σ) = (fX6_lost σ)) (H : Heap) (locs : List Loc) (ls : Array Slot) (X : Sx A D (wR a cI cZ (fX6_findReached σ)) s H locs) (hl : lv_has ls 2 [(0, .ref (a 0)), (1, .int y1)]), W p l e (rmk 2 43) s m args below meth c H locs 0 0 Q (F0 m 6 ls []) := by
    intro f
    induction f with
    | zero =>
      intro y1 hf hnn he H locs ls X hl
      refine lv_iload_n hx hb dX6_lost_6 rfl (lv_at hl 1 rfl) ?_
      refine lv_aload_n hx hb dX6_lost_7 rfl (lv_at hl 0 rfl) ?_
      refine rg_X6_X6_things (v := (r_things (fX6_findReached σ))) C X rfl dX6_lost_8 ?_
      refine lv_icmp_ge (tgt := 40) hx hb dX6_lost_11 (by decide) (fun c11 => ?_) (fun c11 => (lp_z hf c11).elim)
      refine lv_iconst (v := (-1)) hx hb dX6_lost_40 (by decide) ?_
      exact ret dX6_lost_41 (pe_ he) X
    | succ f ih6 =>
      intro y1 hf hnn he H locs ls X hl
      refine lv_iload_n hx hb dX6_lost_6 rfl (lv_at hl 1 rfl) ?_
      refine lv_aload_n hx hb dX6_lost_7 rfl (lv_at hl 0 rfl) ?_
      refine rg_X6_X6_things (v := (r_things (fX6_findReached σ))) C X rfl dX6_lost_8 ?_
      refine lv_icmp_ge (tgt := 40) hx hb dX6_lost_11 (by decide) (fun c11 => (lp_s hf c11).elim) (fun c11 => ?_)
      refine lv_aload_n hx hb dX6_lost_14 rfl (lv_at hl 0 rfl) ?_
      refine rg_X6_X6_isReached C X dX6_lost_15 ?_
      refine lv_iload_n hx hb dX6_lost_18 rfl (lv_at hl 1 rfl) ?_
      refine ra_isReached (v := ((r_isReached (fX6_findReached σ)) (ix y1))) C X (lp_in hnn hf (s0_th (s0_sa (sa_findReached _) hS))) rfl dX6_lost_19 ?_
      refine lv_if_eq (tgt := 34) hx hb dX6_lost_20 (by decide) (fun c20 => ?_) (fun c20 => ?_)
      · refine lv_iinc (v := (y1 + 1)) (lv' := [(1, .int (y1 + 1)), (0, .ref (a 0))]) hx hb dX6_lost_34 hl (k := 1) rfl rfl (by decide) rfl (fun ls hl => ?_)
        refine lv_goto (tgt := 6) hx hb dX6_lost_37 (by decide) ?_
        exact ih6 (y1 + 1) (lp_b hf) (lp_nn hnn hf) (Eq.trans (Eq.symm (if_pos c20)) he) _ _ _ X (lv_sub hl [1, 0] rfl)
      · refine lv_aload_n hx hb dX6_lost_23 rfl (lv_at hl 0 rfl) ?_
        refine rg_X6_X6_isFreed C X dX6_lost_24 ?_
        refine lv_iload_n hx hb dX6_lost_27 rfl (lv_at hl 1 rfl) ?_
        refine ra_isFreed (v := ((r_isFreed (fX6_findReached σ)) (ix y1))) C X (lp_in hnn hf (s0_th (s0_sa (sa_findReached _) hS))) rfl dX6_lost_28 ?_
        refine lv_if_eq (tgt := 34) hx hb dX6_lost_29 (by decide) (fun c29 => ?_) (fun c29 => ?_)
        · refine lv_iinc (v := (y1 + 1)) (lv' := [(1, .int (y1 + 1)), (0, .ref (a 0))]) hx hb dX6_lost_34 hl (k := 1) rfl rfl (by decide) rfl (fun ls hl => ?_)
          refine lv_goto (tgt := 6) hx hb dX6_lost_37 (by decide) ?_
          exact ih6 (y1 + 1) (lp_b hf) (lp_nn hnn hf) (Eq.trans (Eq.symm (Eq.trans (if_neg c20) (if_pos c29))) he) _ _ _ X (lv_sub hl [1, 0] rfl)
        · refine lv_iload_n hx hb dX6_lost_32 rfl (lv_at hl 1 rfl) ?_
          exact ret dX6_lost_33 (pe_ (Eq.trans (Eq.symm (Eq.trans (if_neg c20) (if_neg c29))) he)) X
  exact L6 (((Int32.toInt (r_things (fX6_findReached σ))) - (Int32.toInt (0 : Int32))).toNat) (0 : Int32) rfl (by decide) rfl _ _ _ X (lv_sub hl [1, 0] rfl)
