theorem cq_order_found (σ : CSt) (v : (Nat → Int32)) : c_order (c_found_s σ v) = c_order σ := rfl
theorem cq_rcount_found (σ : CSt) (v : (Nat → Int32)) : c_rcount (c_found_s σ v) = c_rcount σ := rfl
theorem cq_rcount_order (σ : CSt) (v : (Nat → Int32)) : c_rcount (c_order_s σ v) = c_rcount σ := rfl
def fX3_has (σ : CSt) (x1 : Int32) : Int32 := (if x1 < (0 : Int32) then (0 : Int32) else (if (120 : Int32) ≤ x1 then (0 : Int32) else (if ((c_found σ) (ix x1)) = (0 : Int32) then (0 : Int32) else (1 : Int32))))
theorem hdX3_has : yX3_has.cls = RX3 ∧ yX3_has.cls ≠ "java/lang/invoke/MethodHandle" ∧ yX3_has.cls ≠ "java/lang/invoke/VarHandle" ∧ (parseMethodDescriptor yX3_has.desc).map (fun d => d.parameters.length) = some 1 := by decide +kernel
theorem bX3_has (σ : CSt) (x1 : Int32) : (fX3_has σ x1) = 0 ∨ (fX3_has σ x1) = 1 := by
  unfold fX3_has
  (repeat' split) <;> first | exact Or.inl rfl | exact Or.inr rfl
set_option maxHeartbeats 250000 in
set_option maxRecDepth 100000 in
theorem kX3_has (l : Launch) (D : va_G) (a : Nat → Nat) (cI cZ : ClassId) (σ : CSt) (x1 : Int32) : CR l D (tyIZ cI cZ) (wC a cI cZ) yX3_has cX3_has 2 .boolean (rmk 0 0) [.ref (a 5), .int x1] σ (fX3_has σ x1) σ := by
  refine CR.of pnX3 ⟨rfl, rfl⟩ (Nat.le_of_ble_eq_true rfl) (nar_b (bX3_has σ x1)) (fun p e s m args below meth c A Q ls C X hA hl ret => ?_)
  have C : Cx p s m args meth c cX3_has 2 RX3 D (tyIZ cI cZ) := C
  have hx := C.1
  have hb := C.2.1
  have hl : lv_has ls 2 [(0, .ref (a 5)), (1, .int x1)] := hl
  refine lv_iload_n hx hb dX3_has_0 rfl (lv_at hl 1 rfl) ?_
  refine lv_if_lt (tgt := 23) hx hb dX3_has_1 (by decide) (fun c1 => ?_) (fun c1 => ?_)
  · refine lv_iconst (v := (0)) hx hb dX3_has_23 (by decide) ?_
    exact ret dX3_has_24 (congrArg (fun z => (z, _)) (Eq.symm (if_pos c1))) X
  · refine lv_iload_n hx hb dX3_has_4 rfl (lv_at hl 1 rfl) ?_
    refine lv_bipush (v := (120)) hx hb dX3_has_5 (by decide) ?_
    refine lv_icmp_ge (tgt := 23) hx hb dX3_has_7 (by decide) (fun c7 => ?_) (fun c7 => ?_)
    · refine lv_iconst (v := (0)) hx hb dX3_has_23 (by decide) ?_
      exact ret dX3_has_24 (congrArg (fun z => (z, _)) (Eq.symm (Eq.trans (if_neg c1) (if_pos c7)))) X
    · refine lv_aload_n hx hb dX3_has_10 rfl (lv_at hl 0 rfl) ?_
      refine cg_X3_X3_found C X dX3_has_11 ?_
      refine lv_iload_n hx hb dX3_has_14 rfl (lv_at hl 1 rfl) ?_
      refine ca_found (v := ((c_found σ) (ix x1))) C X (vp_in_iff.mpr (by have tc1 := i32_nlt c1; have tc7 := i32_nle c7; have q0_ : (0 : Int32).toInt = 0 := rfl; have q1_ : (120 : Int32).toInt = 120 := rfl; omega)) rfl dX3_has_15 ?_
      refine lv_if_eq (tgt := 23) hx hb dX3_has_16 (by decide) (fun c16 => ?_) (fun c16 => ?_)
      · refine lv_iconst (v := (0)) hx hb dX3_has_23 (by decide) ?_
        exact ret dX3_has_24 (congrArg (fun z => (z, _)) (Eq.symm (Eq.trans (if_neg c1) (Eq.trans (if_neg c7) (if_pos c16))))) X
      · refine lv_iconst (v := (1)) hx hb dX3_has_19 (by decide) ?_
        refine lv_goto (tgt := 24) hx hb dX3_has_20 (by decide) ?_
        exact ret dX3_has_24 (congrArg (fun z => (z, _)) (Eq.symm (Eq.trans (if_neg c1) (Eq.trans (if_neg c7) (if_neg c16))))) X
def fX3_forget_L2 : Nat → Int32 → CSt → CSt
  | 0, y1, σ2 => (c_rcount_s σ2 (0 : Int32))
  | f + 1, y1, σ2 => (fX3_forget_L2 f (y1 + 1) (c_found_s σ2 (upd (c_found σ2) (ix y1) (0 : Int32))))
def fX3_forget (σ : CSt) : CSt := (fX3_forget_L2 (((Int32.toInt (120 : Int32)) - (Int32.toInt (0 : Int32))).toNat) (0 : Int32) σ)
theorem hdX3_forget : yX3_forget.cls = RX3 ∧ yX3_forget.cls ≠ "java/lang/invoke/MethodHandle" ∧ yX3_forget.cls ≠ "java/lang/invoke/VarHandle" ∧ (parseMethodDescriptor yX3_forget.desc).map (fun d => d.parameters.length) = some 0 := by decide +kernel
set_option maxHeartbeats 250000 in
set_option maxRecDepth 100000 in
theorem kX3_forget (l : Launch) (D : va_G) (a : Nat → Nat) (cI cZ : ClassId) (σ : CSt) : CU l D (tyIZ cI cZ) (wC a cI cZ) yX3_forget cX3_forget 2 (rmk 0 0) [.ref (a 5)] σ (fX3_forget σ) := by
  refine CU.of pnX3 ⟨rfl, rfl⟩ (Nat.le_of_ble_eq_true rfl) (fun p e s m args below meth c A Q ls C X hA hl ret => ?_)
  have C : Cx p s m args meth c cX3_forget 2 RX3 D (tyIZ cI cZ) := C
  have hx := C.1
  have hb := C.2.1
  have hl : lv_has ls 2 [(0, .ref (a 5))] := hl
  refine lv_iconst (v := (0)) hx hb dX3_forget_0 (by decide) ?_
  refine lv_istore_n (lv' := [(1, .int (0 : Int32)), (0, .ref (a 5))]) hx hb dX3_forget_1 rfl hl (by decide) rfl (fun ls hl => ?_)
  have L2 : ∀ (f : Nat) (y1 : Int32) (σ2 : CSt) (hf : ((Int32.toInt (120 : Int32)) - (Int32.toInt y1)).toNat = f) (hnn : 0 ≤ Int32.toInt y1) (he : fX3_forget_L2 f y1 σ2 = (fX3_forget σ)) (H : Heap) (locs : List Loc) (ls : Array Slot) (X : Sx A D (wC a cI cZ σ2) s H locs) (hl : lv_has ls 2 [(0, .ref (a 5)), (1, .int y1)]), W p l e (rmk 0 0) s m args below meth c H locs 0 0 Q (F0 m 2 ls []) := by
    intro f
    induction f with
    | zero =>
      intro y1 σ2 hf hnn he H locs ls X hl
      refine lv_iload_n hx hb dX3_forget_2 rfl (lv_at hl 1 rfl) ?_
      refine lv_bipush (v := (120)) hx hb dX3_forget_3 (by decide) ?_
      refine lv_icmp_ge (tgt := 21) hx hb dX3_forget_5 (by decide) (fun c5 => ?_) (fun c5 => (lp_z hf c5).elim)
      refine lv_aload_n hx hb dX3_forget_21 rfl (lv_at hl 0 rfl) ?_
      refine lv_iconst (v := (0)) hx hb dX3_forget_22 (by decide) ?_
      refine cp_X3_X3_count C X dX3_forget_23 (fun H locs X => ?_)
      exact ret dX3_forget_26 he X
    | succ f ih2 =>
      intro y1 σ2 hf hnn he H locs ls X hl
      refine lv_iload_n hx hb dX3_forget_2 rfl (lv_at hl 1 rfl) ?_
      refine lv_bipush (v := (120)) hx hb dX3_forget_3 (by decide) ?_
      refine lv_icmp_ge (tgt := 21) hx hb dX3_forget_5 (by decide) (fun c5 => (lp_s hf c5).elim) (fun c5 => ?_)
      refine lv_aload_n hx hb dX3_forget_8 rfl (lv_at hl 0 rfl) ?_
      refine cg_X3_X3_found C X dX3_forget_9 ?_
      refine lv_iload_n hx hb dX3_forget_12 rfl (lv_at hl 1 rfl) ?_
      refine lv_iconst (v := (0)) hx hb dX3_forget_13 (by decide) ?_
      refine cs_found (x1 := (0 : Int32)) (g := (upd (c_found σ2) (ix y1) (0 : Int32))) C X (lp_in hnn hf (show (Int32.toInt (120 : Int32) : Int) ≤ 120 by decide)) rfl rfl dX3_forget_14 (fun H locs X => ?_)
      refine lv_iinc (v := (y1 + 1)) (lv' := [(1, .int (y1 + 1)), (0, .ref (a 5))]) hx hb dX3_forget_15 hl (k := 1) rfl rfl (by decide) rfl (fun ls hl => ?_)
      refine lv_goto (tgt := 2) hx hb dX3_forget_18 (by decide) ?_
      exact ih2 (y1 + 1) (c_found_s σ2 (upd (c_found σ2) (ix y1) (0 : Int32))) (lp_b hf) (lp_nn hnn hf) he _ _ _ X (lv_sub hl [1, 0] rfl)
  exact L2 (((Int32.toInt (120 : Int32)) - (Int32.toInt (0 : Int32))).toNat) (0 : Int32) σ rfl (by decide) rfl _ _ _ X (lv_sub hl [1, 0] rfl)
theorem rc_forget_L (f : Nat) : ∀ (y : Int32) (σ : CSt), c_rcount (fX3_forget_L2 f y σ) = 0 := by
  induction f with
  | zero => intro y σ; rfl
  | succ f ih => intro y σ; exact ih _ _
theorem rc_forget (σ : CSt) : c_rcount (fX3_forget σ) = 0 := rc_forget_L _ _ _

def fX3_add (σ : CSt) (x1 : Int32) : CSt := (if x1 < (0 : Int32) then σ else (if (120 : Int32) ≤ x1 then σ else (if ((c_found σ) (ix x1)) = (0 : Int32) then (if (c_rcount σ) < (120 : Int32) then (c_rcount_s (c_order_s (c_found_s σ (upd (c_found σ) (ix x1) (1 : Int32))) (upd (c_order σ) (ix (c_rcount σ)) x1)) ((c_rcount σ) + (1 : Int32))) else σ) else σ)))
theorem hdX3_add : yX3_add.cls = RX3 ∧ yX3_add.cls ≠ "java/lang/invoke/MethodHandle" ∧ yX3_add.cls ≠ "java/lang/invoke/VarHandle" ∧ (parseMethodDescriptor yX3_add.desc).map (fun d => d.parameters.length) = some 1 := by decide +kernel
set_option maxHeartbeats 250000 in
set_option maxRecDepth 100000 in
theorem kX3_add (l : Launch) (D : va_G) (a : Nat → Nat) (cI cZ : ClassId) (σ : CSt) (x1 : Int32) (hc : 0 ≤ Int32.toInt (c_rcount σ)) : CU l D (tyIZ cI cZ) (wC a cI cZ) yX3_add cX3_add 2 (rmk 0 0) [.ref (a 5), .int x1] σ (fX3_add σ x1) := by
  refine CU.of pnX3 ⟨rfl, rfl⟩ (Nat.le_of_ble_eq_true rfl) (fun p e s m args below meth c A Q ls C X hA hl ret => ?_)
  have C : Cx p s m args meth c cX3_add 2 RX3 D (tyIZ cI cZ) := C
  have hx := C.1
  have hb := C.2.1
  have hl : lv_has ls 2 [(0, .ref (a 5)), (1, .int x1)] := hl
  refine lv_iload_n hx hb dX3_add_0 rfl (lv_at hl 1 rfl) ?_
  refine lv_if_lt (tgt := 28) hx hb dX3_add_1 (by decide) (fun c1 => ?_) (fun c1 => ?_)
  · exact ret dX3_add_28 (Eq.symm (if_pos c1)) X
  · refine lv_iload_n hx hb dX3_add_4 rfl (lv_at hl 1 rfl) ?_
    refine lv_bipush (v := (120)) hx hb dX3_add_5 (by decide) ?_
    refine lv_icmp_ge (tgt := 28) hx hb dX3_add_7 (by decide) (fun c7 => ?_) (fun c7 => ?_)
    · exact ret dX3_add_28 (Eq.symm (Eq.trans (if_neg c1) (if_pos c7))) X
    · refine lv_aload_n hx hb dX3_add_10 rfl (lv_at hl 0 rfl) ?_
      refine cg_X3_X3_found C X dX3_add_11 ?_
      refine lv_iload_n hx hb dX3_add_14 rfl (lv_at hl 1 rfl) ?_
      refine ca_found (v := ((c_found σ) (ix x1))) C X (vp_in_iff.mpr (by have tc1 := i32_nlt c1; have tc7 := i32_nle c7; have q0_ : (0 : Int32).toInt = 0 := rfl; have q1_ : (120 : Int32).toInt = 120 := rfl; omega)) rfl dX3_add_15 ?_
      refine lv_if_ne (tgt := 28) hx hb dX3_add_16 (by decide) (fun c16 => ?_) (fun c16 => ?_)
      · exact ret dX3_add_28 (Eq.symm (Eq.trans (if_neg c1) (Eq.trans (if_neg c7) (if_neg c16)))) X
      · refine lv_aload_n hx hb dX3_add_19 rfl (lv_at hl 0 rfl) ?_
        refine cg_X3_X3_count (v := (c_rcount σ)) C X rfl dX3_add_20 ?_
        refine lv_bipush (v := (120)) hx hb dX3_add_23 (by decide) ?_
        refine lv_icmp_lt (tgt := 29) hx hb dX3_add_25 (by decide) (fun c25 => ?_) (fun c25 => ?_)
        · refine lv_aload_n hx hb dX3_add_29 rfl (lv_at hl 0 rfl) ?_
          refine cg_X3_X3_found C X dX3_add_30 ?_
          refine lv_iload_n hx hb dX3_add_33 rfl (lv_at hl 1 rfl) ?_
          refine lv_iconst (v := (1)) hx hb dX3_add_34 (by decide) ?_
          refine cs_found (x1 := (1 : Int32)) (g := (upd (c_found σ) (ix x1) (1 : Int32))) C X (vp_in_iff.mpr (by have tc1 := i32_nlt c1; have tc7 := i32_nle c7; have tc25 := i32_lt c25; have q0_ : (0 : Int32).toInt = 0 := rfl; have q1_ : (120 : Int32).toInt = 120 := rfl; omega)) rfl rfl dX3_add_35 (fun H locs X => ?_)
          refine lv_aload_n hx hb dX3_add_36 rfl (lv_at hl 0 rfl) ?_
          refine cg_X3_X3_order C X dX3_add_37 ?_
          refine lv_aload_n hx hb dX3_add_40 rfl (lv_at hl 0 rfl) ?_
          refine cg_X3_X3_count (v := (c_rcount σ)) C X (cq_rcount_found _ _) dX3_add_41 ?_
          refine lv_iload_n hx hb dX3_add_44 rfl (lv_at hl 1 rfl) ?_
          refine cs_order (g := (upd (c_order σ) (ix (c_rcount σ)) x1)) C X (vp_in_iff.mpr (by have tc1 := i32_nlt c1; have tc7 := i32_nle c7; have tc25 := i32_lt c25; have q0_ : (0 : Int32).toInt = 0 := rfl; have q1_ : (120 : Int32).toInt = 120 := rfl; omega)) (congrArg (fun z => upd z _ _) (cq_order_found _ _)) dX3_add_45 (fun H locs X => ?_)
          refine lv_aload_n hx hb dX3_add_46 rfl (lv_at hl 0 rfl) ?_
          refine lv_dup hx hb dX3_add_47 rfl ?_
          refine cg_X3_X3_count (v := (c_rcount σ)) C X (Eq.trans (cq_rcount_order _ _) (cq_rcount_found _ _)) dX3_add_48 ?_
          refine lv_iconst (v := (1)) hx hb dX3_add_51 (by decide) ?_
          refine lv_iadd hx hb dX3_add_52 ?_
          refine cp_X3_X3_count C X dX3_add_53 (fun H locs X => ?_)
          exact ret dX3_add_56 (Eq.symm (Eq.trans (if_neg c1) (Eq.trans (if_neg c7) (Eq.trans (if_pos c16) (if_pos c25))))) X
        · exact ret dX3_add_28 (Eq.symm (Eq.trans (if_neg c1) (Eq.trans (if_neg c7) (Eq.trans (if_pos c16) (if_neg c25))))) X
theorem rc_add {σ : CSt} {x : Int32} (hc : 0 ≤ Int32.toInt (c_rcount σ)) : 0 ≤ Int32.toInt (c_rcount (fX3_add σ x)) := by
  unfold fX3_add
  (repeat' split) <;> first | exact hc | (rename_i h; show 0 ≤ Int32.toInt (c_rcount σ + 1); rw [i32_1 (B := 120) (i32_lt h)]; omega)
theorem wi_add {σ : CSt} {x : Int32} : c_wishes (fX3_add σ x) = c_wishes σ := by
  unfold fX3_add
  (repeat' split) <;> rfl
theorem pm_add {σ : CSt} {x : Int32} : c_pmade (fX3_add σ x) = c_pmade σ := by
  unfold fX3_add
  (repeat' split) <;> rfl

def fX3_addFields_L11 (z2 : Int32) : Nat → Int32 → CSt → CSt
  | 0, y3, σ11 => σ11
  | f + 1, y3, σ11 => (fX3_addFields_L11 z2 f (y3 + 1) (fX3_add σ11 (fX4_inField σ11 z2 y3)))
def fX3_addFields (σ : CSt) (x2 : Int32) : CSt := (if (fX4_isFreed σ x2) = (0 : Int32) then (fX3_addFields_L11 x2 (((Int32.toInt (6 : Int32)) - (Int32.toInt (0 : Int32))).toNat) (0 : Int32) σ) else σ)
theorem hdX3_addFields : yX3_addFields.cls = RX3 ∧ yX3_addFields.cls ≠ "java/lang/invoke/MethodHandle" ∧ yX3_addFields.cls ≠ "java/lang/invoke/VarHandle" ∧ (parseMethodDescriptor yX3_addFields.desc).map (fun d => d.parameters.length) = some 2 := by decide +kernel
set_option maxHeartbeats 250000 in
set_option maxRecDepth 100000 in
theorem kX3_addFields (l : Launch) (D : va_G) (a : Nat → Nat) (cI cZ : ClassId) (σ : CSt) (x2 : Int32) (hc : 0 ≤ Int32.toInt (c_rcount σ)) : CU l D (tyIZ cI cZ) (wC a cI cZ) yX3_addFields cX3_addFields 4 (rmk 3 65) [.ref (a 5), .ref (a 1), .int x2] σ (fX3_addFields σ x2) := by
  refine CU.of pnX3 ⟨rfl, rfl⟩ (Nat.le_of_ble_eq_true rfl) (fun p e s m args below meth c A Q ls C X hA hl ret => ?_)
  have C : Cx p s m args meth c cX3_addFields 4 RX3 D (tyIZ cI cZ) := C
  have hx := C.1
  have hb := C.2.1
  have hl : lv_has ls 4 [(0, .ref (a 5)), (1, .ref (a 1)), (2, .int x2)] := hl
  refine lv_aload_n hx hb dX3_addFields_0 rfl (lv_at hl 1 rfl) ?_
  refine lv_iload_n hx hb dX3_addFields_1 rfl (lv_at hl 2 rfl) ?_
  refine callVR (rest := []) C hA (wC_sh a cI cZ) X (kX4_isFreed l D a cI cZ _ x2) (cwV 1 C.2.2.2.2.1 (gV wl_X3_47 wt_yX4_isFreed ws_yX4_isFreed wi_X4 wk_yX4_isFreed) rfl rfl rfl hdX4_isFreed ⟨Nat.le_of_ble_eq_true rfl, Nat.le_of_ble_eq_true rfl⟩) (ci := 4) (q0 := 1) rfl rfl rfl hl.1 rfl (Nat.le_of_ble_eq_true rfl) dX3_addFields_2 ⟨Nat.le_refl 0, Nat.le_refl 0⟩ (fun H locs X => ?_)
  refine lv_if_eq (tgt := 9) hx hb dX3_addFields_5 (by decide) (fun c5 => ?_) (fun c5 => ?_)
  · refine lv_iconst (v := (0)) hx hb dX3_addFields_9 (by decide) ?_
    refine lv_istore_n (lv' := [(3, .int (0 : Int32)), (0, .ref (a 5)), (1, .ref (a 1)), (2, .int x2)]) hx hb dX3_addFields_10 rfl hl (by decide) rfl (fun ls hl => ?_)
    have L11 : ∀ (f : Nat) (y3 : Int32) (σ11 : CSt) (hf : ((Int32.toInt (6 : Int32)) - (Int32.toInt y3)).toNat = f) (hnn : 0 ≤ Int32.toInt y3) (hc : 0 ≤ Int32.toInt (c_rcount σ11)) (he : fX3_addFields_L11 x2 f y3 σ11 = (fX3_addFields σ x2)) (H : Heap) (locs : List Loc) (ls : Array Slot) (X : Sx A D (wC a cI cZ σ11) s H locs) (hl : lv_has ls 4 [(0, .ref (a 5)), (1, .ref (a 1)), (2, .int x2), (3, .int y3)]), W p l e (rmk 3 65) s m args below meth c H locs 0 0 Q (F0 m 11 ls []) := by
      intro f
      induction f with
      | zero =>
        intro y3 σ11 hf hnn hc he H locs ls X hl
        refine lv_iload_n hx hb dX3_addFields_11 rfl (lv_at hl 3 rfl) ?_
        refine lv_bipush (v := (6)) hx hb dX3_addFields_12 (by decide) ?_
        refine lv_icmp_ge (tgt := 33) hx hb dX3_addFields_14 (by decide) (fun c14 => ?_) (fun c14 => (lp_z hf c14).elim)
        exact ret dX3_addFields_33 he X
      | succ f ih11 =>
        intro y3 σ11 hf hnn hc he H locs ls X hl
        refine lv_iload_n hx hb dX3_addFields_11 rfl (lv_at hl 3 rfl) ?_
        refine lv_bipush (v := (6)) hx hb dX3_addFields_12 (by decide) ?_
        refine lv_icmp_ge (tgt := 33) hx hb dX3_addFields_14 (by decide) (fun c14 => (lp_s hf c14).elim) (fun c14 => ?_)
        refine lv_aload_n hx hb dX3_addFields_17 rfl (lv_at hl 0 rfl) ?_
        refine lv_aload_n hx hb dX3_addFields_18 rfl (lv_at hl 1 rfl) ?_
        refine lv_iload_n hx hb dX3_addFields_19 rfl (lv_at hl 2 rfl) ?_
        refine lv_iload_n hx hb dX3_addFields_20 rfl (lv_at hl 3 rfl) ?_
        refine callVR (rest := [.ref (a 5)]) C hA (wC_sh a cI cZ) X (kX4_inField l D a cI cZ _ x2 y3) (cwV 2 C.2.2.2.2.1 (gV wl_X3_53 wt_yX4_inField ws_yX4_inField wi_X4 wk_yX4_inField) rfl rfl rfl hdX4_inField ⟨Nat.le_of_ble_eq_true rfl, Nat.le_of_ble_eq_true rfl⟩) (ci := 4) (q0 := 1) rfl rfl rfl hl.1 rfl (Nat.le_of_ble_eq_true rfl) dX3_addFields_21 ⟨Nat.le_refl 0, Nat.le_refl 0⟩ (fun H locs X => ?_)
        refine callVU (rest := []) C hA (wC_sh a cI cZ) X (kX3_add l D a cI cZ _ (fX4_inField σ11 x2 y3) hc) (cwV 1 C.2.2.2.2.1 (gV wl_X3_32 wt_yX3_add ws_yX3_add wi_X3 wk_yX3_add) rfl rfl rfl hdX3_add ⟨Nat.le_of_ble_eq_true rfl, Nat.le_of_ble_eq_true rfl⟩) (ci := 3) (q0 := 5) rfl rfl rfl hl.1 rfl (Nat.le_of_ble_eq_true rfl) dX3_addFields_24 ⟨Nat.le_refl 0, Nat.le_refl 0⟩ (fun H locs X => ?_)
        refine lv_iinc (v := (y3 + 1)) (lv' := [(3, .int (y3 + 1)), (0, .ref (a 5)), (1, .ref (a 1)), (2, .int x2)]) hx hb dX3_addFields_27 hl (k := 3) rfl rfl (by decide) rfl (fun ls hl => ?_)
        refine lv_goto (tgt := 11) hx hb dX3_addFields_30 (by decide) ?_
        exact ih11 (y3 + 1) (fX3_add σ11 (fX4_inField σ11 x2 y3)) (lp_b hf) (lp_nn hnn hf) (rc_add hc) he _ _ _ X (lv_sub hl [1, 2, 3, 0] rfl)
    exact L11 (((Int32.toInt (6 : Int32)) - (Int32.toInt (0 : Int32))).toNat) (0 : Int32) σ rfl (by decide) (hc) (Eq.symm (if_pos c5)) _ _ _ X (lv_sub hl [1, 2, 3, 0] rfl)
  · exact ret dX3_addFields_8 (Eq.symm (if_neg c5)) X
theorem rc_addFields_L (z : Int32) (f : Nat) : ∀ (y : Int32) (σ : CSt), 0 ≤ Int32.toInt (c_rcount σ) → 0 ≤ Int32.toInt (c_rcount (fX3_addFields_L11 z f y σ)) := by
  induction f with
  | zero => intro y σ h; exact h
  | succ f ih => intro y σ h; exact ih _ _ (rc_add h)
theorem rc_addFields {σ : CSt} {x : Int32} (h : 0 ≤ Int32.toInt (c_rcount σ)) : 0 ≤ Int32.toInt (c_rcount (fX3_addFields σ x)) := by
  unfold fX3_addFields
  split
  · exact rc_addFields_L _ _ _ _ h
  · exact h

def fX3_addValues_L2 : Nat → Int32 → CSt → CSt
  | 0, y2, σ2 => σ2
  | f + 1, y2, σ2 => (if (fX3_has σ2 (fX2_keyOf σ2 y2)) = (0 : Int32) then (fX3_addValues_L2 f (y2 + 1) σ2) else (fX3_addValues_L2 f (y2 + 1) (fX3_add σ2 (fX2_valueOf σ2 y2))))
def fX3_addValues (σ : CSt) : CSt := (fX3_addValues_L2 (((Int32.toInt (c_pmade σ)) - (Int32.toInt (0 : Int32))).toNat) (0 : Int32) σ)
theorem hdX3_addValues : yX3_addValues.cls = RX3 ∧ yX3_addValues.cls ≠ "java/lang/invoke/MethodHandle" ∧ yX3_addValues.cls ≠ "java/lang/invoke/VarHandle" ∧ (parseMethodDescriptor yX3_addValues.desc).map (fun d => d.parameters.length) = some 1 := by decide +kernel
set_option maxHeartbeats 250000 in
set_option maxRecDepth 100000 in
theorem kX3_addValues (l : Launch) (D : va_G) (a : Nat → Nat) (cI cZ : ClassId) (σ : CSt) (hc : 0 ≤ Int32.toInt (c_rcount σ)) : CU l D (tyIZ cI cZ) (wC a cI cZ) yX3_addValues cX3_addValues 3 (rmk 2 42) [.ref (a 5), .ref (a 4)] σ (fX3_addValues σ) := by
  refine CU.of pnX3 ⟨rfl, rfl⟩ (Nat.le_of_ble_eq_true rfl) (fun p e s m args below meth c A Q ls C X hA hl ret => ?_)
  have C : Cx p s m args meth c cX3_addValues 3 RX3 D (tyIZ cI cZ) := C
  have hx := C.1
  have hb := C.2.1
  have hl : lv_has ls 3 [(0, .ref (a 5)), (1, .ref (a 4))] := hl
  refine lv_iconst (v := (0)) hx hb dX3_addValues_0 (by decide) ?_
  refine lv_istore_n (lv' := [(2, .int (0 : Int32)), (0, .ref (a 5)), (1, .ref (a 4))]) hx hb dX3_addValues_1 rfl hl (by decide) rfl (fun ls hl => ?_)
  have L2 : ∀ (f : Nat) (y2 : Int32) (σ2 : CSt) (hf : ((Int32.toInt (c_pmade σ2)) - (Int32.toInt y2)).toNat = f) (hnn : 0 ≤ Int32.toInt y2) (hc : 0 ≤ Int32.toInt (c_rcount σ2)) (he : fX3_addValues_L2 f y2 σ2 = (fX3_addValues σ)) (H : Heap) (locs : List Loc) (ls : Array Slot) (X : Sx A D (wC a cI cZ σ2) s H locs) (hl : lv_has ls 3 [(0, .ref (a 5)), (1, .ref (a 4)), (2, .int y2)]), W p l e (rmk 2 42) s m args below meth c H locs 0 0 Q (F0 m 2 ls []) := by
    intro f
    induction f with
    | zero =>
      intro y2 σ2 hf hnn hc he H locs ls X hl
      refine lv_iload_n hx hb dX3_addValues_2 rfl (lv_at hl 2 rfl) ?_
      refine lv_aload_n hx hb dX3_addValues_3 rfl (lv_at hl 1 rfl) ?_
      refine cg_X3_X2_made (v := (c_pmade σ2)) C X rfl dX3_addValues_4 ?_
      refine lv_icmp_ge (tgt := 37) hx hb dX3_addValues_7 (by decide) (fun c7 => ?_) (fun c7 => (lp_z hf c7).elim)
      exact ret dX3_addValues_37 he X
    | succ f ih2 =>
      intro y2 σ2 hf hnn hc he H locs ls X hl
      refine lv_iload_n hx hb dX3_addValues_2 rfl (lv_at hl 2 rfl) ?_
      refine lv_aload_n hx hb dX3_addValues_3 rfl (lv_at hl 1 rfl) ?_
      refine cg_X3_X2_made (v := (c_pmade σ2)) C X rfl dX3_addValues_4 ?_
      refine lv_icmp_ge (tgt := 37) hx hb dX3_addValues_7 (by decide) (fun c7 => (lp_s hf c7).elim) (fun c7 => ?_)
      refine lv_aload_n hx hb dX3_addValues_10 rfl (lv_at hl 0 rfl) ?_
      refine lv_aload_n hx hb dX3_addValues_11 rfl (lv_at hl 1 rfl) ?_
      refine lv_iload_n hx hb dX3_addValues_12 rfl (lv_at hl 2 rfl) ?_
      refine callVR (rest := [.ref (a 5)]) C hA (wC_sh a cI cZ) X (kX2_keyOf l D a cI cZ _ y2) (cwV 1 C.2.2.2.2.1 (gV wl_X3_62 wt_yX2_keyOf ws_yX2_keyOf wi_X2 wk_yX2_keyOf) rfl rfl rfl hdX2_keyOf ⟨Nat.le_of_ble_eq_true rfl, Nat.le_of_ble_eq_true rfl⟩) (ci := 2) (q0 := 4) rfl rfl rfl hl.1 rfl (Nat.le_of_ble_eq_true rfl) dX3_addValues_13 ⟨Nat.le_refl 0, Nat.le_refl 0⟩ (fun H locs X => ?_)
      refine callVR (rest := []) C hA (wC_sh a cI cZ) X (kX3_has l D a cI cZ _ (fX2_keyOf σ2 y2)) (cwV 1 C.2.2.2.2.1 (gV wl_X3_65 wt_yX3_has ws_yX3_has wi_X3 wk_yX3_has) rfl rfl rfl hdX3_has ⟨Nat.le_of_ble_eq_true rfl, Nat.le_of_ble_eq_true rfl⟩) (ci := 3) (q0 := 5) rfl rfl rfl hl.1 rfl (Nat.le_of_ble_eq_true rfl) dX3_addValues_16 ⟨Nat.le_refl 0, Nat.le_refl 0⟩ (fun H locs X => ?_)
      refine lv_if_eq (tgt := 31) hx hb dX3_addValues_19 (by decide) (fun c19 => ?_) (fun c19 => ?_)
      · refine lv_iinc (v := (y2 + 1)) (lv' := [(2, .int (y2 + 1)), (0, .ref (a 5)), (1, .ref (a 4))]) hx hb dX3_addValues_31 hl (k := 2) rfl rfl (by decide) rfl (fun ls hl => ?_)
        refine lv_goto (tgt := 2) hx hb dX3_addValues_34 (by decide) ?_
        exact ih2 (y2 + 1) σ2 (by first | with_reducible exact lp_b hf | (rw [pm_add]; exact lp_b hf)) (lp_nn hnn hf) (by first | with_reducible exact hc | exact rc_add hc) (Eq.trans (Eq.symm (if_pos c19)) he) _ _ _ X (lv_sub hl [1, 2, 0] rfl)
      · refine lv_aload_n hx hb dX3_addValues_22 rfl (lv_at hl 0 rfl) ?_
        refine lv_aload_n hx hb dX3_addValues_23 rfl (lv_at hl 1 rfl) ?_
        refine lv_iload_n hx hb dX3_addValues_24 rfl (lv_at hl 2 rfl) ?_
        refine callVR (rest := [.ref (a 5)]) C hA (wC_sh a cI cZ) X (kX2_valueOf l D a cI cZ _ y2) (cwV 1 C.2.2.2.2.1 (gV wl_X3_68 wt_yX2_valueOf ws_yX2_valueOf wi_X2 wk_yX2_valueOf) rfl rfl rfl hdX2_valueOf ⟨Nat.le_of_ble_eq_true rfl, Nat.le_of_ble_eq_true rfl⟩) (ci := 2) (q0 := 4) rfl rfl rfl hl.1 rfl (Nat.le_of_ble_eq_true rfl) dX3_addValues_25 ⟨Nat.le_refl 0, Nat.le_refl 0⟩ (fun H locs X => ?_)
        refine callVU (rest := []) C hA (wC_sh a cI cZ) X (kX3_add l D a cI cZ _ (fX2_valueOf σ2 y2) hc) (cwV 1 C.2.2.2.2.1 (gV wl_X3_32 wt_yX3_add ws_yX3_add wi_X3 wk_yX3_add) rfl rfl rfl hdX3_add ⟨Nat.le_of_ble_eq_true rfl, Nat.le_of_ble_eq_true rfl⟩) (ci := 3) (q0 := 5) rfl rfl rfl hl.1 rfl (Nat.le_of_ble_eq_true rfl) dX3_addValues_28 ⟨Nat.le_refl 0, Nat.le_refl 0⟩ (fun H locs X => ?_)
        refine lv_iinc (v := (y2 + 1)) (lv' := [(2, .int (y2 + 1)), (0, .ref (a 5)), (1, .ref (a 4))]) hx hb dX3_addValues_31 hl (k := 2) rfl rfl (by decide) rfl (fun ls hl => ?_)
        refine lv_goto (tgt := 2) hx hb dX3_addValues_34 (by decide) ?_
        exact ih2 (y2 + 1) (fX3_add σ2 (fX2_valueOf σ2 y2)) (by first | with_reducible exact lp_b hf | (rw [pm_add]; exact lp_b hf)) (lp_nn hnn hf) (by first | with_reducible exact hc | exact rc_add hc) (Eq.trans (Eq.symm (if_neg c19)) he) _ _ _ X (lv_sub hl [1, 2, 0] rfl)
  exact L2 (((Int32.toInt (c_pmade σ)) - (Int32.toInt (0 : Int32))).toNat) (0 : Int32) σ rfl (by decide) (hc) rfl _ _ _ X (lv_sub hl [1, 2, 0] rfl)
theorem rc_addValues_L (f : Nat) : ∀ (y : Int32) (σ : CSt), 0 ≤ Int32.toInt (c_rcount σ) → 0 ≤ Int32.toInt (c_rcount (fX3_addValues_L2 f y σ)) := by
  induction f with
  | zero => intro y σ h; exact h
  | succ f ih =>
    intro y σ h
    unfold fX3_addValues_L2
    split
    · exact ih _ _ h
    · exact ih _ _ (rc_add h)
theorem rc_addValues {σ : CSt} (h : 0 ≤ Int32.toInt (c_rcount σ)) : 0 ≤ Int32.toInt (c_rcount (fX3_addValues σ)) := rc_addValues_L _ _ _ h

def fX3_find_L7 : Nat → Int32 → CSt → CSt
  | 0, y4, σ7 => σ7
  | f + 1, y4, σ7 => (fX3_find_L7 f (y4 + 1) (fX3_add σ7 (fX1_heldAt σ7 y4)))
def fX3_find_L38 : Nat → Int32 → CSt → CSt
  | 0, y4, σ38 => σ38
  | f + 1, y4, σ38 => (if y4 < (c_rcount σ38) then (if y4 < (c_rcount σ38) then (fX3_find_L38 f (y4 + 1) (fX3_addFields σ38 ((c_order σ38) (ix y4)))) else σ38) else (if y4 < (c_rcount (fX3_addValues σ38)) then (fX3_find_L38 f (y4 + 1) (fX3_addFields (fX3_addValues σ38) ((c_order (fX3_addValues σ38)) (ix y4)))) else (fX3_addValues σ38)))
def fX3_find (σ : CSt) : CSt := (fX3_find_L38 (((Int32.toInt (120 : Int32)) - (Int32.toInt (0 : Int32))).toNat) (0 : Int32) (fX3_find_L7 (((Int32.toInt ((16 : Int32) + (c_wishes (fX3_forget σ)))) - (Int32.toInt (0 : Int32))).toNat) (0 : Int32) (fX3_forget σ)))
theorem hdX3_find : yX3_find.cls = RX3 ∧ yX3_find.cls ≠ "java/lang/invoke/MethodHandle" ∧ yX3_find.cls ≠ "java/lang/invoke/VarHandle" ∧ (parseMethodDescriptor yX3_find.desc).map (fun d => d.parameters.length) = some 3 := by decide +kernel
theorem rc_find_L7 (f : Nat) : ∀ (y : Int32) (σ : CSt), 0 ≤ Int32.toInt (c_rcount σ) → 0 ≤ Int32.toInt (c_rcount (fX3_find_L7 f y σ)) := by
  induction f with
  | zero => intro y σ h; exact h
  | succ f ih => intro y σ h; exact ih _ _ (rc_add h)

set_option maxHeartbeats 250000 in
set_option maxRecDepth 100000 in
theorem kX3_find (l : Launch) (D : va_G) (a : Nat → Nat) (cI cZ : ClassId) (σ : CSt) : CU l D (tyIZ cI cZ) (wC a cI cZ) yX3_find cX3_find 5 (rmk 4 88) [.ref (a 5), .ref (a 1), .ref (a 3), .ref (a 4)] σ (fX3_find σ) := by
  refine CU.of pnX3 ⟨rfl, rfl⟩ (Nat.le_of_ble_eq_true rfl) (fun p e s m args below meth c A Q ls C X hA hl ret => ?_)
  have C : Cx p s m args meth c cX3_find 5 RX3 D (tyIZ cI cZ) := C
  have hx := C.1
  have hb := C.2.1
  have hl : lv_has ls 5 [(0, .ref (a 5)), (1, .ref (a 1)), (2, .ref (a 3)), (3, .ref (a 4))] := hl
  refine lv_aload_n hx hb dX3_find_0 rfl (lv_at hl 0 rfl) ?_
  refine callVU (rest := []) C hA (wC_sh a cI cZ) X (kX3_forget l D a cI cZ _ ) (cwV 0 C.2.2.2.2.1 (gV wl_X3_19 wt_yX3_forget ws_yX3_forget wi_X3 wk_yX3_forget) rfl rfl rfl hdX3_forget ⟨Nat.le_of_ble_eq_true rfl, Nat.le_of_ble_eq_true rfl⟩) (ci := 3) (q0 := 5) rfl rfl rfl hl.1 rfl (Nat.le_of_ble_eq_true rfl) dX3_find_1 ⟨Nat.le_refl 0, Nat.le_refl 0⟩ (fun H locs X => ?_)
  refine lv_iconst (v := (0)) hx hb dX3_find_4 (by decide) ?_
  refine lv_istore (lv' := [(4, .int (0 : Int32)), (0, .ref (a 5)), (1, .ref (a 1)), (2, .ref (a 3)), (3, .ref (a 4))]) hx hb dX3_find_5 hl (by decide) rfl (fun ls hl => ?_)
  have L7 : ∀ (res : CSt) (hx7 : ∀ (H : Heap) (locs : List Loc) (ls : Array Slot), Sx A D (wC a cI cZ res) s H locs → lv_has ls 5 [(0, .ref (a 5)), (1, .ref (a 1)), (2, .ref (a 3)), (3, .ref (a 4))] → W p l e (rmk 4 88) s m args below meth c H locs 0 0 Q (F0 m 35 ls [])) (f : Nat) (y4 : Int32) (σ7 : CSt) (hf : ((Int32.toInt ((16 : Int32) + (c_wishes σ7))) - (Int32.toInt y4)).toNat = f) (hnn : 0 ≤ Int32.toInt y4) (hc : 0 ≤ Int32.toInt (c_rcount σ7)) (he : fX3_find_L7 f y4 σ7 = res) (H : Heap) (locs : List Loc) (ls : Array Slot) (X : Sx A D (wC a cI cZ σ7) s H locs) (hl : lv_has ls 5 [(0, .ref (a 5)), (1, .ref (a 1)), (2, .ref (a 3)), (3, .ref (a 4)), (4, .int y4)]), W p l e (rmk 4 88) s m args below meth c H locs 0 0 Q (F0 m 7 ls []) := by
    intro res hx7 f
    induction f with
    | zero =>
      intro y4 σ7 hf hnn hc he H locs ls X hl
      refine lv_iload hx hb dX3_find_7 (lv_at hl 4 rfl) ?_
      refine lv_bipush (v := (16)) hx hb dX3_find_9 (by decide) ?_
      refine lv_aload_n hx hb dX3_find_11 rfl (lv_at hl 2 rfl) ?_
      refine cg_X3_X1_wishes (v := (c_wishes σ7)) C X rfl dX3_find_12 ?_
      refine lv_iadd hx hb dX3_find_15 ?_
      refine lv_icmp_ge (tgt := 35) hx hb dX3_find_16 (by decide) (fun c16 => ?_) (fun c16 => (lp_z hf c16).elim)
      exact hx7 _ _ _ (Eq.subst (motive := fun z => Sx A D (wC a cI cZ z) s _ _) he X) (Eq.subst (motive := fun z => lv_has _ 5 [(0, .ref (a 5)), (1, .ref (a 1)), (2, .ref (a 3)), (3, .ref (a 4))]) he (lv_sub hl [0, 1, 2, 3] rfl))
    | succ f ih7 =>
      intro y4 σ7 hf hnn hc he H locs ls X hl
      refine lv_iload hx hb dX3_find_7 (lv_at hl 4 rfl) ?_
      refine lv_bipush (v := (16)) hx hb dX3_find_9 (by decide) ?_
      refine lv_aload_n hx hb dX3_find_11 rfl (lv_at hl 2 rfl) ?_
      refine cg_X3_X1_wishes (v := (c_wishes σ7)) C X rfl dX3_find_12 ?_
      refine lv_iadd hx hb dX3_find_15 ?_
      refine lv_icmp_ge (tgt := 35) hx hb dX3_find_16 (by decide) (fun c16 => (lp_s hf c16).elim) (fun c16 => ?_)
      refine lv_aload_n hx hb dX3_find_19 rfl (lv_at hl 0 rfl) ?_
      refine lv_aload_n hx hb dX3_find_20 rfl (lv_at hl 2 rfl) ?_
      refine lv_iload hx hb dX3_find_21 (lv_at hl 4 rfl) ?_
      refine callVR (rest := [.ref (a 5)]) C hA (wC_sh a cI cZ) X (kX1_heldAt l D a cI cZ _ y4) (cwV 1 C.2.2.2.2.1 (gV wl_X3_28 wt_yX1_heldAt ws_yX1_heldAt wi_X1 wk_yX1_heldAt) rfl rfl rfl hdX1_heldAt ⟨Nat.le_of_ble_eq_true rfl, Nat.le_of_ble_eq_true rfl⟩) (ci := 1) (q0 := 3) rfl rfl rfl hl.1 rfl (Nat.le_of_ble_eq_true rfl) dX3_find_23 ⟨Nat.le_refl 0, Nat.le_refl 0⟩ (fun H locs X => ?_)
      refine callVU (rest := []) C hA (wC_sh a cI cZ) X (kX3_add l D a cI cZ _ (fX1_heldAt σ7 y4) hc) (cwV 1 C.2.2.2.2.1 (gV wl_X3_32 wt_yX3_add ws_yX3_add wi_X3 wk_yX3_add) rfl rfl rfl hdX3_add ⟨Nat.le_of_ble_eq_true rfl, Nat.le_of_ble_eq_true rfl⟩) (ci := 3) (q0 := 5) rfl rfl rfl hl.1 rfl (Nat.le_of_ble_eq_true rfl) dX3_find_26 ⟨Nat.le_refl 0, Nat.le_refl 0⟩ (fun H locs X => ?_)
      refine lv_iinc (v := (y4 + 1)) (lv' := [(4, .int (y4 + 1)), (0, .ref (a 5)), (1, .ref (a 1)), (2, .ref (a 3)), (3, .ref (a 4))]) hx hb dX3_find_29 hl (k := 4) rfl rfl (by decide) rfl (fun ls hl => ?_)
      refine lv_goto (tgt := 7) hx hb dX3_find_32 (by decide) ?_
      exact ih7 (y4 + 1) (fX3_add σ7 (fX1_heldAt σ7 y4)) (by first | with_reducible exact lp_b hf | (rw [wi_add]; exact lp_b hf)) (lp_nn hnn hf) (rc_add hc) he _ _ _ X (lv_sub hl [1, 2, 3, 4, 0] rfl)
  refine L7 (fX3_find_L7 (((Int32.toInt ((16 : Int32) + (c_wishes (fX3_forget σ)))) - (Int32.toInt (0 : Int32))).toNat) (0 : Int32) (fX3_forget σ)) (fun H locs ls X hl => ?_) (((Int32.toInt ((16 : Int32) + (c_wishes (fX3_forget σ)))) - (Int32.toInt (0 : Int32))).toNat) (0 : Int32) (fX3_forget σ) rfl (by decide) (by rw [rc_forget]; decide) rfl _ _ _ X (lv_sub hl [1, 2, 3, 4, 0] rfl)
  refine lv_iconst (v := (0)) hx hb dX3_find_35 (by decide) ?_
  refine lv_istore (lv' := [(4, .int (0 : Int32)), (0, .ref (a 5)), (1, .ref (a 1)), (2, .ref (a 3)), (3, .ref (a 4))]) hx hb dX3_find_36 hl (by decide) rfl (fun ls hl => ?_)
  have L38 : ∀ (f : Nat) (y4 : Int32) (σ38 : CSt) (hf : ((Int32.toInt (120 : Int32)) - (Int32.toInt y4)).toNat = f) (hnn : 0 ≤ Int32.toInt y4) (hc : 0 ≤ Int32.toInt (c_rcount σ38)) (he : fX3_find_L38 f y4 σ38 = (fX3_find σ)) (H : Heap) (locs : List Loc) (ls : Array Slot) (X : Sx A D (wC a cI cZ σ38) s H locs) (hl : lv_has ls 5 [(0, .ref (a 5)), (1, .ref (a 1)), (2, .ref (a 3)), (3, .ref (a 4)), (4, .int y4)]), W p l e (rmk 4 88) s m args below meth c H locs 0 0 Q (F0 m 38 ls []) := by
    intro f
    induction f with
    | zero =>
      intro y4 σ38 hf hnn hc he H locs ls X hl
      refine lv_iload hx hb dX3_find_38 (lv_at hl 4 rfl) ?_
      refine lv_bipush (v := (120)) hx hb dX3_find_40 (by decide) ?_
      refine lv_icmp_ge (tgt := 87) hx hb dX3_find_42 (by decide) (fun c42 => ?_) (fun c42 => (lp_z hf c42).elim)
      exact ret dX3_find_87 he X
    | succ f ih38 =>
      intro y4 σ38 hf hnn hc he H locs ls X hl
      refine lv_iload hx hb dX3_find_38 (lv_at hl 4 rfl) ?_
      refine lv_bipush (v := (120)) hx hb dX3_find_40 (by decide) ?_
      refine lv_icmp_ge (tgt := 87) hx hb dX3_find_42 (by decide) (fun c42 => (lp_s hf c42).elim) (fun c42 => ?_)
      refine lv_iload hx hb dX3_find_45 (lv_at hl 4 rfl) ?_
      refine lv_aload_n hx hb dX3_find_47 rfl (lv_at hl 0 rfl) ?_
      refine cg_X3_X3_count (v := (c_rcount σ38)) C X rfl dX3_find_48 ?_
      refine lv_icmp_lt (tgt := 59) hx hb dX3_find_51 (by decide) (fun c51 => ?_) (fun c51 => ?_)
      · refine lv_iload hx hb dX3_find_59 (lv_at hl 4 rfl) ?_
        refine lv_aload_n hx hb dX3_find_61 rfl (lv_at hl 0 rfl) ?_
        refine cg_X3_X3_count (v := (c_rcount σ38)) C X rfl dX3_find_62 ?_
        refine lv_icmp_lt (tgt := 69) hx hb dX3_find_65 (by decide) (fun c65 => ?_) (fun c65 => ?_)
        · refine lv_aload_n hx hb dX3_find_69 rfl (lv_at hl 0 rfl) ?_
          refine lv_aload_n hx hb dX3_find_70 rfl (lv_at hl 1 rfl) ?_
          refine lv_aload_n hx hb dX3_find_71 rfl (lv_at hl 0 rfl) ?_
          refine cg_X3_X3_order C X dX3_find_72 ?_
          refine lv_iload hx hb dX3_find_75 (lv_at hl 4 rfl) ?_
          refine ca_order (v := ((c_order σ38) (ix y4))) C X (lp_in hnn hf (show (Int32.toInt (120 : Int32) : Int) ≤ 120 by decide)) rfl dX3_find_77 ?_
          refine callVU (rest := []) C hA (wC_sh a cI cZ) X (kX3_addFields l D a cI cZ _ ((c_order σ38) (ix y4)) (by first | with_reducible exact hc | exact rc_addValues hc)) (cwV 2 C.2.2.2.2.1 (gV wl_X3_43 wt_yX3_addFields ws_yX3_addFields wi_X3 wk_yX3_addFields) rfl rfl rfl hdX3_addFields ⟨Nat.le_of_ble_eq_true rfl, Nat.le_of_ble_eq_true rfl⟩) (ci := 3) (q0 := 5) rfl rfl rfl hl.1 rfl (Nat.le_of_ble_eq_true rfl) dX3_find_78 ⟨Nat.le_refl 0, Nat.le_refl 0⟩ (fun H locs X => ?_)
          refine lv_iinc (v := (y4 + 1)) (lv' := [(4, .int (y4 + 1)), (0, .ref (a 5)), (1, .ref (a 1)), (2, .ref (a 3)), (3, .ref (a 4))]) hx hb dX3_find_81 hl (k := 4) rfl rfl (by decide) rfl (fun ls hl => ?_)
          refine lv_goto (tgt := 38) hx hb dX3_find_84 (by decide) ?_
          exact ih38 (y4 + 1) (fX3_addFields σ38 ((c_order σ38) (ix y4))) (lp_b hf) (lp_nn hnn hf) (by first | with_reducible exact rc_addFields hc | exact rc_addFields (rc_addValues hc)) (Eq.trans (Eq.symm (Eq.trans (if_pos c51) (if_pos c65))) he) _ _ _ X (lv_sub hl [1, 2, 3, 4, 0] rfl)
        · exact ret dX3_find_68 (Eq.trans (Eq.symm (Eq.trans (if_pos c51) (if_neg c65))) he) X
      · refine lv_aload_n hx hb dX3_find_54 rfl (lv_at hl 0 rfl) ?_
        refine lv_aload_n hx hb dX3_find_55 rfl (lv_at hl 3 rfl) ?_
        refine callVU (rest := []) C hA (wC_sh a cI cZ) X (kX3_addValues l D a cI cZ _  hc) (cwV 1 C.2.2.2.2.1 (gV wl_X3_39 wt_yX3_addValues ws_yX3_addValues wi_X3 wk_yX3_addValues) rfl rfl rfl hdX3_addValues ⟨Nat.le_of_ble_eq_true rfl, Nat.le_of_ble_eq_true rfl⟩) (ci := 3) (q0 := 5) rfl rfl rfl hl.1 rfl (Nat.le_of_ble_eq_true rfl) dX3_find_56 ⟨Nat.le_refl 0, Nat.le_refl 0⟩ (fun H locs X => ?_)
        refine lv_iload hx hb dX3_find_59 (lv_at hl 4 rfl) ?_
        refine lv_aload_n hx hb dX3_find_61 rfl (lv_at hl 0 rfl) ?_
        refine cg_X3_X3_count (v := (c_rcount (fX3_addValues σ38))) C X rfl dX3_find_62 ?_
        refine lv_icmp_lt (tgt := 69) hx hb dX3_find_65 (by decide) (fun c65 => ?_) (fun c65 => ?_)
        · refine lv_aload_n hx hb dX3_find_69 rfl (lv_at hl 0 rfl) ?_
          refine lv_aload_n hx hb dX3_find_70 rfl (lv_at hl 1 rfl) ?_
          refine lv_aload_n hx hb dX3_find_71 rfl (lv_at hl 0 rfl) ?_
          refine cg_X3_X3_order C X dX3_find_72 ?_
          refine lv_iload hx hb dX3_find_75 (lv_at hl 4 rfl) ?_
          refine ca_order (v := ((c_order (fX3_addValues σ38)) (ix y4))) C X (lp_in hnn hf (show (Int32.toInt (120 : Int32) : Int) ≤ 120 by decide)) rfl dX3_find_77 ?_
          refine callVU (rest := []) C hA (wC_sh a cI cZ) X (kX3_addFields l D a cI cZ _ ((c_order (fX3_addValues σ38)) (ix y4)) (by first | with_reducible exact hc | exact rc_addValues hc)) (cwV 2 C.2.2.2.2.1 (gV wl_X3_43 wt_yX3_addFields ws_yX3_addFields wi_X3 wk_yX3_addFields) rfl rfl rfl hdX3_addFields ⟨Nat.le_of_ble_eq_true rfl, Nat.le_of_ble_eq_true rfl⟩) (ci := 3) (q0 := 5) rfl rfl rfl hl.1 rfl (Nat.le_of_ble_eq_true rfl) dX3_find_78 ⟨Nat.le_refl 0, Nat.le_refl 0⟩ (fun H locs X => ?_)
          refine lv_iinc (v := (y4 + 1)) (lv' := [(4, .int (y4 + 1)), (0, .ref (a 5)), (1, .ref (a 1)), (2, .ref (a 3)), (3, .ref (a 4))]) hx hb dX3_find_81 hl (k := 4) rfl rfl (by decide) rfl (fun ls hl => ?_)
          refine lv_goto (tgt := 38) hx hb dX3_find_84 (by decide) ?_
          exact ih38 (y4 + 1) (fX3_addFields (fX3_addValues σ38) ((c_order (fX3_addValues σ38)) (ix y4))) (lp_b hf) (lp_nn hnn hf) (by first | with_reducible exact rc_addFields hc | exact rc_addFields (rc_addValues hc)) (Eq.trans (Eq.symm (Eq.trans (if_neg c51) (if_pos c65))) he) _ _ _ X (lv_sub hl [1, 2, 3, 4, 0] rfl)
        · exact ret dX3_find_68 (Eq.trans (Eq.symm (Eq.trans (if_neg c51) (if_neg c65))) he) X
  exact L38 (((Int32.toInt (120 : Int32)) - (Int32.toInt (0 : Int32))).toNat) (0 : Int32) (fX3_find_L7 (((Int32.toInt ((16 : Int32) + (c_wishes (fX3_forget σ)))) - (Int32.toInt (0 : Int32))).toNat) (0 : Int32) (fX3_forget σ)) rfl (by decide) (rc_find_L7 _ _ _ (by rw [rc_forget]; decide)) rfl _ _ _ X (lv_sub hl [1, 2, 3, 4, 0] rfl)
