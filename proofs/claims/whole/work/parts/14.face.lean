def fX5_isRegister (σ : CSt) (x0 : Int32) (x1 : Int32) : Int32 := (if x0 < (0 : Int32) then (0 : Int32) else (if (3 : Int32) ≤ x0 then (0 : Int32) else (if x1 < (0 : Int32) then (0 : Int32) else (if (4 : Int32) ≤ x1 then (0 : Int32) else (1 : Int32)))))
theorem hdX5_isRegister : yX5_isRegister.cls = RX5 ∧ yX5_isRegister.cls ≠ "java/lang/invoke/MethodHandle" ∧ yX5_isRegister.cls ≠ "java/lang/invoke/VarHandle" ∧ (parseMethodDescriptor yX5_isRegister.desc).map (fun d => d.parameters.length) = some 2 := by decide +kernel
theorem bX5_isRegister (σ : CSt) (x0 : Int32) (x1 : Int32) : (fX5_isRegister σ x0 x1) = 0 ∨ (fX5_isRegister σ x0 x1) = 1 := by
  unfold fX5_isRegister
  (repeat' split) <;> first | exact Or.inl rfl | exact Or.inr rfl
set_option maxHeartbeats 250000 in
set_option maxRecDepth 100000 in
theorem kX5_isRegister (l : Launch) (D : va_G) (a : Nat → Nat) (cI cZ : ClassId) (σ : CSt) (x0 : Int32) (x1 : Int32) : CR l D (tyIZ cI cZ) (wC a cI cZ) yX5_isRegister cX5_isRegister 2 .boolean (rmk 0 0) [.int x0, .int x1] σ (fX5_isRegister σ x0 x1) σ := by
  refine CR.of pnX5 ⟨rfl, rfl⟩ (Nat.le_of_ble_eq_true rfl) (nar_b (bX5_isRegister σ x0 x1)) (fun p e s m args below meth c A Q ls C X hA hl ret => ?_)
  have C : Cx p s m args meth c cX5_isRegister 2 RX5 D (tyIZ cI cZ) := C
  have hx := C.1
  have hb := C.2.1
  have hl : lv_has ls 2 [(0, .int x0), (1, .int x1)] := hl
  refine lv_iload_n hx hb dX5_isRegister_0 rfl (lv_at hl 0 rfl) ?_
  refine lv_if_lt (tgt := 22) hx hb dX5_isRegister_1 (by decide) (fun c1 => ?_) (fun c1 => ?_)
  · refine lv_iconst (v := (0)) hx hb dX5_isRegister_22 (by decide) ?_
    exact ret dX5_isRegister_23 (congrArg (fun z => (z, _)) (Eq.symm (if_pos c1))) X
  · refine lv_iload_n hx hb dX5_isRegister_4 rfl (lv_at hl 0 rfl) ?_
    refine lv_iconst (v := (3)) hx hb dX5_isRegister_5 (by decide) ?_
    refine lv_icmp_ge (tgt := 22) hx hb dX5_isRegister_6 (by decide) (fun c6 => ?_) (fun c6 => ?_)
    · refine lv_iconst (v := (0)) hx hb dX5_isRegister_22 (by decide) ?_
      exact ret dX5_isRegister_23 (congrArg (fun z => (z, _)) (Eq.symm (Eq.trans (if_neg c1) (if_pos c6)))) X
    · refine lv_iload_n hx hb dX5_isRegister_9 rfl (lv_at hl 1 rfl) ?_
      refine lv_if_lt (tgt := 22) hx hb dX5_isRegister_10 (by decide) (fun c10 => ?_) (fun c10 => ?_)
      · refine lv_iconst (v := (0)) hx hb dX5_isRegister_22 (by decide) ?_
        exact ret dX5_isRegister_23 (congrArg (fun z => (z, _)) (Eq.symm (Eq.trans (if_neg c1) (Eq.trans (if_neg c6) (if_pos c10))))) X
      · refine lv_iload_n hx hb dX5_isRegister_13 rfl (lv_at hl 1 rfl) ?_
        refine lv_iconst (v := (4)) hx hb dX5_isRegister_14 (by decide) ?_
        refine lv_icmp_ge (tgt := 22) hx hb dX5_isRegister_15 (by decide) (fun c15 => ?_) (fun c15 => ?_)
        · refine lv_iconst (v := (0)) hx hb dX5_isRegister_22 (by decide) ?_
          exact ret dX5_isRegister_23 (congrArg (fun z => (z, _)) (Eq.symm (Eq.trans (if_neg c1) (Eq.trans (if_neg c6) (Eq.trans (if_neg c10) (if_pos c15)))))) X
        · refine lv_iconst (v := (1)) hx hb dX5_isRegister_18 (by decide) ?_
          refine lv_goto (tgt := 23) hx hb dX5_isRegister_19 (by decide) ?_
          exact ret dX5_isRegister_23 (congrArg (fun z => (z, _)) (Eq.symm (Eq.trans (if_neg c1) (Eq.trans (if_neg c6) (Eq.trans (if_neg c10) (if_neg c15)))))) X
def fX5_isSlot (σ : CSt) (x0 : Int32) : Int32 := (if x0 < (0 : Int32) then (0 : Int32) else (if (4 : Int32) ≤ x0 then (0 : Int32) else (1 : Int32)))
theorem hdX5_isSlot : yX5_isSlot.cls = RX5 ∧ yX5_isSlot.cls ≠ "java/lang/invoke/MethodHandle" ∧ yX5_isSlot.cls ≠ "java/lang/invoke/VarHandle" ∧ (parseMethodDescriptor yX5_isSlot.desc).map (fun d => d.parameters.length) = some 1 := by decide +kernel
theorem bX5_isSlot (σ : CSt) (x0 : Int32) : (fX5_isSlot σ x0) = 0 ∨ (fX5_isSlot σ x0) = 1 := by
  unfold fX5_isSlot
  (repeat' split) <;> first | exact Or.inl rfl | exact Or.inr rfl
set_option maxHeartbeats 250000 in
set_option maxRecDepth 100000 in
theorem kX5_isSlot (l : Launch) (D : va_G) (a : Nat → Nat) (cI cZ : ClassId) (σ : CSt) (x0 : Int32) : CR l D (tyIZ cI cZ) (wC a cI cZ) yX5_isSlot cX5_isSlot 1 .boolean (rmk 0 0) [.int x0] σ (fX5_isSlot σ x0) σ := by
  refine CR.of pnX5 ⟨rfl, rfl⟩ (Nat.le_of_ble_eq_true rfl) (nar_b (bX5_isSlot σ x0)) (fun p e s m args below meth c A Q ls C X hA hl ret => ?_)
  have C : Cx p s m args meth c cX5_isSlot 1 RX5 D (tyIZ cI cZ) := C
  have hx := C.1
  have hb := C.2.1
  have hl : lv_has ls 1 [(0, .int x0)] := hl
  refine lv_iload_n hx hb dX5_isSlot_0 rfl (lv_at hl 0 rfl) ?_
  refine lv_if_lt (tgt := 13) hx hb dX5_isSlot_1 (by decide) (fun c1 => ?_) (fun c1 => ?_)
  · refine lv_iconst (v := (0)) hx hb dX5_isSlot_13 (by decide) ?_
    exact ret dX5_isSlot_14 (congrArg (fun z => (z, _)) (Eq.symm (if_pos c1))) X
  · refine lv_iload_n hx hb dX5_isSlot_4 rfl (lv_at hl 0 rfl) ?_
    refine lv_iconst (v := (4)) hx hb dX5_isSlot_5 (by decide) ?_
    refine lv_icmp_ge (tgt := 13) hx hb dX5_isSlot_6 (by decide) (fun c6 => ?_) (fun c6 => ?_)
    · refine lv_iconst (v := (0)) hx hb dX5_isSlot_13 (by decide) ?_
      exact ret dX5_isSlot_14 (congrArg (fun z => (z, _)) (Eq.symm (Eq.trans (if_neg c1) (if_pos c6)))) X
    · refine lv_iconst (v := (1)) hx hb dX5_isSlot_9 (by decide) ?_
      refine lv_goto (tgt := 14) hx hb dX5_isSlot_10 (by decide) ?_
      exact ret dX5_isSlot_14 (congrArg (fun z => (z, _)) (Eq.symm (Eq.trans (if_neg c1) (if_neg c6)))) X
def fX5_registerAt (σ : CSt) (x0 : Int32) (x1 : Int32) : Int32 := ((x0 * (4 : Int32)) + x1)
theorem hdX5_registerAt : yX5_registerAt.cls = RX5 ∧ yX5_registerAt.cls ≠ "java/lang/invoke/MethodHandle" ∧ yX5_registerAt.cls ≠ "java/lang/invoke/VarHandle" ∧ (parseMethodDescriptor yX5_registerAt.desc).map (fun d => d.parameters.length) = some 2 := by decide +kernel
set_option maxHeartbeats 250000 in
set_option maxRecDepth 100000 in
theorem kX5_registerAt (l : Launch) (D : va_G) (a : Nat → Nat) (cI cZ : ClassId) (σ : CSt) (x0 : Int32) (x1 : Int32) : CR l D (tyIZ cI cZ) (wC a cI cZ) yX5_registerAt cX5_registerAt 2 .int (rmk 0 0) [.int x0, .int x1] σ (fX5_registerAt σ x0 x1) σ := by
  refine CR.of pnX5 ⟨rfl, rfl⟩ (Nat.le_of_ble_eq_true rfl) rfl (fun p e s m args below meth c A Q ls C X hA hl ret => ?_)
  have C : Cx p s m args meth c cX5_registerAt 2 RX5 D (tyIZ cI cZ) := C
  have hx := C.1
  have hb := C.2.1
  have hl : lv_has ls 2 [(0, .int x0), (1, .int x1)] := hl
  refine lv_iload_n hx hb dX5_registerAt_0 rfl (lv_at hl 0 rfl) ?_
  refine lv_iconst (v := (4)) hx hb dX5_registerAt_1 (by decide) ?_
  refine lv_imul hx hb dX5_registerAt_2 ?_
  refine lv_iload_n hx hb dX5_registerAt_3 rfl (lv_at hl 1 rfl) ?_
  refine lv_iadd hx hb dX5_registerAt_4 ?_
  exact ret dX5_registerAt_5 (congrArg (fun z => (z, _)) rfl) X
def fX5_inRegister (σ : CSt) (x1 : Int32) (x2 : Int32) : Int32 := (fX1_heldAt σ (fX5_registerAt σ x1 x2))
theorem hdX5_inRegister : yX5_inRegister.cls = RX5 ∧ yX5_inRegister.cls ≠ "java/lang/invoke/MethodHandle" ∧ yX5_inRegister.cls ≠ "java/lang/invoke/VarHandle" ∧ (parseMethodDescriptor yX5_inRegister.desc).map (fun d => d.parameters.length) = some 2 := by decide +kernel
set_option maxHeartbeats 250000 in
set_option maxRecDepth 100000 in
theorem kX5_inRegister (l : Launch) (D : va_G) (a : Nat → Nat) (cI cZ : ClassId) (σ : CSt) (x1 : Int32) (x2 : Int32) : CR l D (tyIZ cI cZ) (wC a cI cZ) yX5_inRegister cX5_inRegister 3 .int (rmk 1 21) [.ref (a 0), .int x1, .int x2] σ (fX5_inRegister σ x1 x2) σ := by
  refine CR.of pnX5 ⟨rfl, rfl⟩ (Nat.le_of_ble_eq_true rfl) rfl (fun p e s m args below meth c A Q ls C X hA hl ret => ?_)
  have C : Cx p s m args meth c cX5_inRegister 3 RX5 D (tyIZ cI cZ) := C
  have hx := C.1
  have hb := C.2.1
  have hl : lv_has ls 3 [(0, .ref (a 0)), (1, .int x1), (2, .int x2)] := hl
  refine lv_aload_n hx hb dX5_inRegister_0 rfl (lv_at hl 0 rfl) ?_
  refine cg_X5_X5_holders C X dX5_inRegister_1 ?_
  refine lv_iload_n hx hb dX5_inRegister_4 rfl (lv_at hl 1 rfl) ?_
  refine lv_iload_n hx hb dX5_inRegister_5 rfl (lv_at hl 2 rfl) ?_
  refine callSR (rest := [.ref (a 3)]) C hA (wC_sh a cI cZ) X (kX5_registerAt l D a cI cZ _ x1 x2) (cwS 2 C.2.2.2.2.1 (gS wl_X5_103 wz_yX5_registerAt wi_X5 wk_yX5_registerAt) rfl rfl rfl hdX5_registerAt ⟨Nat.le_of_ble_eq_true rfl, Nat.le_of_ble_eq_true rfl⟩) rfl hl.1 rfl (Nat.le_of_ble_eq_true rfl) dX5_inRegister_6 ⟨Nat.le_refl 0, Nat.le_refl 0⟩ (fun H locs X => ?_)
  refine callVR (rest := []) C hA (wC_sh a cI cZ) X (kX1_heldAt l D a cI cZ _ (fX5_registerAt σ x1 x2)) (cwV 1 C.2.2.2.2.1 (gV wl_X5_148 wt_yX1_heldAt ws_yX1_heldAt wi_X1 wk_yX1_heldAt) rfl rfl rfl hdX1_heldAt ⟨Nat.le_of_ble_eq_true rfl, Nat.le_of_ble_eq_true rfl⟩) (ci := 1) (q0 := 3) rfl rfl rfl hl.1 rfl (Nat.le_of_ble_eq_true rfl) dX5_inRegister_9 ⟨Nat.le_refl 0, Nat.le_refl 0⟩ (fun H locs X => ?_)
  exact ret dX5_inRegister_12 (congrArg (fun z => (z, _)) rfl) X
def fX5_colourOfNew (σ : CSt) : Int32 := (if (c_under σ) = (0 : Int32) then (0 : Int32) else (if (c_fault σ) = (2 : Int32) then (0 : Int32) else (2 : Int32)))
theorem hdX5_colourOfNew : yX5_colourOfNew.cls = RX5 ∧ yX5_colourOfNew.cls ≠ "java/lang/invoke/MethodHandle" ∧ yX5_colourOfNew.cls ≠ "java/lang/invoke/VarHandle" ∧ (parseMethodDescriptor yX5_colourOfNew.desc).map (fun d => d.parameters.length) = some 0 := by decide +kernel
set_option maxHeartbeats 250000 in
set_option maxRecDepth 100000 in
theorem kX5_colourOfNew (l : Launch) (D : va_G) (a : Nat → Nat) (cI cZ : ClassId) (σ : CSt) : CR l D (tyIZ cI cZ) (wC a cI cZ) yX5_colourOfNew cX5_colourOfNew 1 .int (rmk 0 0) [.ref (a 0)] σ (fX5_colourOfNew σ) σ := by
  refine CR.of pnX5 ⟨rfl, rfl⟩ (Nat.le_of_ble_eq_true rfl) rfl (fun p e s m args below meth c A Q ls C X hA hl ret => ?_)
  have C : Cx p s m args meth c cX5_colourOfNew 1 RX5 D (tyIZ cI cZ) := C
  have hx := C.1
  have hb := C.2.1
  have hl : lv_has ls 1 [(0, .ref (a 0))] := hl
  refine lv_aload_n hx hb dX5_colourOfNew_0 rfl (lv_at hl 0 rfl) ?_
  refine cg_X5_X5_underWay (v := (c_under σ)) C X rfl dX5_colourOfNew_1 ?_
  refine lv_if_eq (tgt := 19) hx hb dX5_colourOfNew_4 (by decide) (fun c4 => ?_) (fun c4 => ?_)
  · refine lv_iconst (v := (0)) hx hb dX5_colourOfNew_19 (by decide) ?_
    exact ret dX5_colourOfNew_20 (congrArg (fun z => (z, _)) (Eq.symm (if_pos c4))) X
  · refine lv_aload_n hx hb dX5_colourOfNew_7 rfl (lv_at hl 0 rfl) ?_
    refine cg_X5_X5_fault (v := (c_fault σ)) C X rfl dX5_colourOfNew_8 ?_
    refine lv_iconst (v := (2)) hx hb dX5_colourOfNew_11 (by decide) ?_
    refine lv_icmp_eq (tgt := 19) hx hb dX5_colourOfNew_12 (by decide) (fun c12 => ?_) (fun c12 => ?_)
    · refine lv_iconst (v := (0)) hx hb dX5_colourOfNew_19 (by decide) ?_
      exact ret dX5_colourOfNew_20 (congrArg (fun z => (z, _)) (Eq.symm (Eq.trans (if_neg c4) (if_pos c12)))) X
    · refine lv_iconst (v := (2)) hx hb dX5_colourOfNew_15 (by decide) ?_
      refine lv_goto (tgt := 20) hx hb dX5_colourOfNew_16 (by decide) ?_
      exact ret dX5_colourOfNew_20 (congrArg (fun z => (z, _)) (Eq.symm (Eq.trans (if_neg c4) (if_neg c12)))) X
def fX5_placeOfNew (σ : CSt) (x1 : Int32) (x2 : Int32) : Int32 := (if (c_manner σ) = (3 : Int32) then (if (c_under σ) = (1 : Int32) then (if x2 = (0 : Int32) then (if (x1 + ((fX4_cellsOfWhite σ) + x1)) ≤ (fX0_leftBehind σ) then (c_behind σ) else (-1 : Int32)) else (if (x1 + ((fX4_cellsOfWhite σ) + (0 : Int32))) ≤ (fX0_leftBehind σ) then (c_behind σ) else (-1 : Int32))) else (if x1 ≤ (fX0_leftBehind σ) then (c_behind σ) else (-1 : Int32))) else (fX0_leastPlace σ x1))
theorem hdX5_placeOfNew : yX5_placeOfNew.cls = RX5 ∧ yX5_placeOfNew.cls ≠ "java/lang/invoke/MethodHandle" ∧ yX5_placeOfNew.cls ≠ "java/lang/invoke/VarHandle" ∧ (parseMethodDescriptor yX5_placeOfNew.desc).map (fun d => d.parameters.length) = some 2 := by decide +kernel
set_option maxHeartbeats 250000 in
set_option maxRecDepth 100000 in
theorem kX5_placeOfNew (l : Launch) (D : va_G) (a : Nat → Nat) (cI cZ : ClassId) (σ : CSt) (x1 : Int32) (x2 : Int32) : CR l D (tyIZ cI cZ) (wC a cI cZ) yX5_placeOfNew cX5_placeOfNew 4 .int (rmk 3 64) [.ref (a 0), .int x1, .int x2] σ (fX5_placeOfNew σ x1 x2) σ := by
  refine CR.of pnX5 ⟨rfl, rfl⟩ (Nat.le_of_ble_eq_true rfl) rfl (fun p e s m args below meth c A Q ls C X hA hl ret => ?_)
  have C : Cx p s m args meth c cX5_placeOfNew 4 RX5 D (tyIZ cI cZ) := C
  have hx := C.1
  have hb := C.2.1
  have hl : lv_has ls 4 [(0, .ref (a 0)), (1, .int x1), (2, .int x2)] := hl
  refine lv_aload_n hx hb dX5_placeOfNew_0 rfl (lv_at hl 0 rfl) ?_
  refine cg_X5_X5_manner (v := (c_manner σ)) C X rfl dX5_placeOfNew_1 ?_
  refine lv_iconst (v := (3)) hx hb dX5_placeOfNew_4 (by decide) ?_
  refine lv_icmp_eq (tgt := 17) hx hb dX5_placeOfNew_5 (by decide) (fun c5 => ?_) (fun c5 => ?_)
  · refine lv_iload_n hx hb dX5_placeOfNew_17 rfl (lv_at hl 1 rfl) ?_
    refine lv_istore_n (lv' := [(3, .int x1), (0, .ref (a 0)), (1, .int x1), (2, .int x2)]) hx hb dX5_placeOfNew_18 rfl hl (by decide) rfl (fun ls hl => ?_)
    refine lv_aload_n hx hb dX5_placeOfNew_19 rfl (lv_at hl 1 rfl) ?_
    refine cg_X5_X5_underWay (v := (c_under σ)) C X rfl dX5_placeOfNew_20 ?_
    refine lv_iconst (v := (1)) hx hb dX5_placeOfNew_23 (by decide) ?_
    refine lv_icmp_ne (tgt := 47) hx hb dX5_placeOfNew_24 (by decide) (fun c24 => ?_) (fun c24 => ?_)
    · refine lv_aload_n hx hb dX5_placeOfNew_47 rfl (lv_at hl 1 rfl) ?_
      refine cg_X5_X5_cells C X dX5_placeOfNew_48 ?_
      refine callVR (rest := []) C hA (wC_sh a cI cZ) X (kX0_leftBehind l D a cI cZ _ ) (cwV 0 C.2.2.2.2.1 (gV wl_X5_116 wt_yX0_leftBehind ws_yX0_leftBehind wi_X0 wk_yX0_leftBehind) rfl rfl rfl hdX0_leftBehind ⟨Nat.le_of_ble_eq_true rfl, Nat.le_of_ble_eq_true rfl⟩) (ci := 0) (q0 := 2) rfl rfl rfl hl.1 rfl (Nat.le_of_ble_eq_true rfl) dX5_placeOfNew_51 ⟨Nat.le_refl 0, Nat.le_refl 0⟩ (fun H locs X => ?_)
      refine lv_iload_n hx hb dX5_placeOfNew_54 rfl (lv_at hl 0 rfl) ?_
      refine lv_icmp_ge (tgt := 62) hx hb dX5_placeOfNew_55 (by decide) (fun c55 => ?_) (fun c55 => ?_)
      · refine lv_aload_n hx hb dX5_placeOfNew_62 rfl (lv_at hl 1 rfl) ?_
        refine cg_X5_X5_cells C X dX5_placeOfNew_63 ?_
        refine cg_X5_X0_behind (v := (c_behind σ)) C X rfl dX5_placeOfNew_66 ?_
        exact ret dX5_placeOfNew_69 (congrArg (fun z => (z, _)) (Eq.symm (Eq.trans (if_pos c5) (Eq.trans (if_neg c24) (if_pos c55))))) X
      · refine lv_iconst (v := (-1)) hx hb dX5_placeOfNew_58 (by decide) ?_
        refine lv_goto (tgt := 69) hx hb dX5_placeOfNew_59 (by decide) ?_
        exact ret dX5_placeOfNew_69 (congrArg (fun z => (z, _)) (Eq.symm (Eq.trans (if_pos c5) (Eq.trans (if_neg c24) (if_neg c55))))) X
    · refine lv_iload_n hx hb dX5_placeOfNew_27 rfl (lv_at hl 0 rfl) ?_
      refine lv_aload_n hx hb dX5_placeOfNew_28 rfl (lv_at hl 1 rfl) ?_
      refine cg_X5_X5_things C X dX5_placeOfNew_29 ?_
      refine callVR (rest := [.int x1]) C hA (wC_sh a cI cZ) X (kX4_cellsOfWhite l D a cI cZ _ ) (cwV 0 C.2.2.2.2.1 (gV wl_X5_113 wt_yX4_cellsOfWhite ws_yX4_cellsOfWhite wi_X4 wk_yX4_cellsOfWhite) rfl rfl rfl hdX4_cellsOfWhite ⟨Nat.le_of_ble_eq_true rfl, Nat.le_of_ble_eq_true rfl⟩) (ci := 4) (q0 := 1) rfl rfl rfl hl.1 rfl (Nat.le_of_ble_eq_true rfl) dX5_placeOfNew_32 ⟨Nat.le_refl 0, Nat.le_refl 0⟩ (fun H locs X => ?_)
      refine lv_iload_n hx hb dX5_placeOfNew_35 rfl (lv_at hl 3 rfl) ?_
      refine lv_if_ne (tgt := 43) hx hb dX5_placeOfNew_36 (by decide) (fun c36 => ?_) (fun c36 => ?_)
      · refine lv_iconst (v := (0)) hx hb dX5_placeOfNew_43 (by decide) ?_
        refine lv_iadd hx hb dX5_placeOfNew_44 ?_
        refine lv_iadd hx hb dX5_placeOfNew_45 ?_
        refine lv_istore_n (lv' := [(3, .int (x1 + ((fX4_cellsOfWhite σ) + (0 : Int32)))), (0, .ref (a 0)), (1, .int x1), (2, .int x2)]) hx hb dX5_placeOfNew_46 rfl hl (by decide) rfl (fun ls hl => ?_)
        refine lv_aload_n hx hb dX5_placeOfNew_47 rfl (lv_at hl 1 rfl) ?_
        refine cg_X5_X5_cells C X dX5_placeOfNew_48 ?_
        refine callVR (rest := []) C hA (wC_sh a cI cZ) X (kX0_leftBehind l D a cI cZ _ ) (cwV 0 C.2.2.2.2.1 (gV wl_X5_116 wt_yX0_leftBehind ws_yX0_leftBehind wi_X0 wk_yX0_leftBehind) rfl rfl rfl hdX0_leftBehind ⟨Nat.le_of_ble_eq_true rfl, Nat.le_of_ble_eq_true rfl⟩) (ci := 0) (q0 := 2) rfl rfl rfl hl.1 rfl (Nat.le_of_ble_eq_true rfl) dX5_placeOfNew_51 ⟨Nat.le_refl 0, Nat.le_refl 0⟩ (fun H locs X => ?_)
        refine lv_iload_n hx hb dX5_placeOfNew_54 rfl (lv_at hl 0 rfl) ?_
        refine lv_icmp_ge (tgt := 62) hx hb dX5_placeOfNew_55 (by decide) (fun c55 => ?_) (fun c55 => ?_)
        · refine lv_aload_n hx hb dX5_placeOfNew_62 rfl (lv_at hl 1 rfl) ?_
          refine cg_X5_X5_cells C X dX5_placeOfNew_63 ?_
          refine cg_X5_X0_behind (v := (c_behind σ)) C X rfl dX5_placeOfNew_66 ?_
          exact ret dX5_placeOfNew_69 (congrArg (fun z => (z, _)) (Eq.symm (Eq.trans (if_pos c5) (Eq.trans (if_pos c24) (Eq.trans (if_neg c36) (if_pos c55)))))) X
        · refine lv_iconst (v := (-1)) hx hb dX5_placeOfNew_58 (by decide) ?_
          refine lv_goto (tgt := 69) hx hb dX5_placeOfNew_59 (by decide) ?_
          exact ret dX5_placeOfNew_69 (congrArg (fun z => (z, _)) (Eq.symm (Eq.trans (if_pos c5) (Eq.trans (if_pos c24) (Eq.trans (if_neg c36) (if_neg c55)))))) X
      · refine lv_iload_n hx hb dX5_placeOfNew_39 rfl (lv_at hl 2 rfl) ?_
        refine lv_goto (tgt := 44) hx hb dX5_placeOfNew_40 (by decide) ?_
        refine lv_iadd hx hb dX5_placeOfNew_44 ?_
        refine lv_iadd hx hb dX5_placeOfNew_45 ?_
        refine lv_istore_n (lv' := [(3, .int (x1 + ((fX4_cellsOfWhite σ) + x1))), (0, .ref (a 0)), (1, .int x1), (2, .int x2)]) hx hb dX5_placeOfNew_46 rfl hl (by decide) rfl (fun ls hl => ?_)
        refine lv_aload_n hx hb dX5_placeOfNew_47 rfl (lv_at hl 1 rfl) ?_
        refine cg_X5_X5_cells C X dX5_placeOfNew_48 ?_
        refine callVR (rest := []) C hA (wC_sh a cI cZ) X (kX0_leftBehind l D a cI cZ _ ) (cwV 0 C.2.2.2.2.1 (gV wl_X5_116 wt_yX0_leftBehind ws_yX0_leftBehind wi_X0 wk_yX0_leftBehind) rfl rfl rfl hdX0_leftBehind ⟨Nat.le_of_ble_eq_true rfl, Nat.le_of_ble_eq_true rfl⟩) (ci := 0) (q0 := 2) rfl rfl rfl hl.1 rfl (Nat.le_of_ble_eq_true rfl) dX5_placeOfNew_51 ⟨Nat.le_refl 0, Nat.le_refl 0⟩ (fun H locs X => ?_)
        refine lv_iload_n hx hb dX5_placeOfNew_54 rfl (lv_at hl 0 rfl) ?_
        refine lv_icmp_ge (tgt := 62) hx hb dX5_placeOfNew_55 (by decide) (fun c55 => ?_) (fun c55 => ?_)
        · refine lv_aload_n hx hb dX5_placeOfNew_62 rfl (lv_at hl 1 rfl) ?_
          refine cg_X5_X5_cells C X dX5_placeOfNew_63 ?_
          refine cg_X5_X0_behind (v := (c_behind σ)) C X rfl dX5_placeOfNew_66 ?_
          exact ret dX5_placeOfNew_69 (congrArg (fun z => (z, _)) (Eq.symm (Eq.trans (if_pos c5) (Eq.trans (if_pos c24) (Eq.trans (if_pos c36) (if_pos c55)))))) X
        · refine lv_iconst (v := (-1)) hx hb dX5_placeOfNew_58 (by decide) ?_
          refine lv_goto (tgt := 69) hx hb dX5_placeOfNew_59 (by decide) ?_
          exact ret dX5_placeOfNew_69 (congrArg (fun z => (z, _)) (Eq.symm (Eq.trans (if_pos c5) (Eq.trans (if_pos c24) (Eq.trans (if_pos c36) (if_neg c55)))))) X
  · refine lv_aload_n hx hb dX5_placeOfNew_8 rfl (lv_at hl 0 rfl) ?_
    refine cg_X5_X5_cells C X dX5_placeOfNew_9 ?_
    refine lv_iload_n hx hb dX5_placeOfNew_12 rfl (lv_at hl 1 rfl) ?_
    refine callVR (rest := []) C hA (wC_sh a cI cZ) X (kX0_leastPlace l D a cI cZ _ x1) (cwV 1 C.2.2.2.2.1 (gV wl_X5_109 wt_yX0_leastPlace ws_yX0_leastPlace wi_X0 wk_yX0_leastPlace) rfl rfl rfl hdX0_leastPlace ⟨Nat.le_of_ble_eq_true rfl, Nat.le_of_ble_eq_true rfl⟩) (ci := 0) (q0 := 2) rfl rfl rfl hl.1 rfl (Nat.le_of_ble_eq_true rfl) dX5_placeOfNew_13 ⟨Nat.le_refl 0, Nat.le_refl 0⟩ (fun H locs X => ?_)
    exact ret dX5_placeOfNew_16 (congrArg (fun z => (z, _)) (Eq.symm (if_neg c5))) X
def fX5_refusalOfField (σ : CSt) (x1 : Int32) (x2 : Int32) : Int32 := (if (fX4_hasField σ x1 x2) = (0 : Int32) then (-3 : Int32) else (if (fX4_isFreed σ x1) = (0 : Int32) then (0 : Int32) else (-5 : Int32)))
theorem hdX5_refusalOfField : yX5_refusalOfField.cls = RX5 ∧ yX5_refusalOfField.cls ≠ "java/lang/invoke/MethodHandle" ∧ yX5_refusalOfField.cls ≠ "java/lang/invoke/VarHandle" ∧ (parseMethodDescriptor yX5_refusalOfField.desc).map (fun d => d.parameters.length) = some 2 := by decide +kernel
set_option maxHeartbeats 250000 in
set_option maxRecDepth 100000 in
theorem kX5_refusalOfField (l : Launch) (D : va_G) (a : Nat → Nat) (cI cZ : ClassId) (σ : CSt) (x1 : Int32) (x2 : Int32) : CR l D (tyIZ cI cZ) (wC a cI cZ) yX5_refusalOfField cX5_refusalOfField 3 .int (rmk 2 43) [.ref (a 0), .int x1, .int x2] σ (fX5_refusalOfField σ x1 x2) σ := by
  refine CR.of pnX5 ⟨rfl, rfl⟩ (Nat.le_of_ble_eq_true rfl) rfl (fun p e s m args below meth c A Q ls C X hA hl ret => ?_)
  have C : Cx p s m args meth c cX5_refusalOfField 3 RX5 D (tyIZ cI cZ) := C
  have hx := C.1
  have hb := C.2.1
  have hl : lv_has ls 3 [(0, .ref (a 0)), (1, .int x1), (2, .int x2)] := hl
  refine lv_aload_n hx hb dX5_refusalOfField_0 rfl (lv_at hl 0 rfl) ?_
  refine cg_X5_X5_things C X dX5_refusalOfField_1 ?_
  refine lv_iload_n hx hb dX5_refusalOfField_4 rfl (lv_at hl 1 rfl) ?_
  refine lv_iload_n hx hb dX5_refusalOfField_5 rfl (lv_at hl 2 rfl) ?_
  refine callVR (rest := []) C hA (wC_sh a cI cZ) X (kX4_hasField l D a cI cZ _ x1 x2) (cwV 2 C.2.2.2.2.1 (gV wl_X5_138 wt_yX4_hasField ws_yX4_hasField wi_X4 wk_yX4_hasField) rfl rfl rfl hdX4_hasField ⟨Nat.le_of_ble_eq_true rfl, Nat.le_of_ble_eq_true rfl⟩) (ci := 4) (q0 := 1) rfl rfl rfl hl.1 rfl (Nat.le_of_ble_eq_true rfl) dX5_refusalOfField_6 ⟨Nat.le_refl 0, Nat.le_refl 0⟩ (fun H locs X => ?_)
  refine lv_if_ne (tgt := 15) hx hb dX5_refusalOfField_9 (by decide) (fun c9 => ?_) (fun c9 => ?_)
  · refine lv_aload_n hx hb dX5_refusalOfField_15 rfl (lv_at hl 0 rfl) ?_
    refine cg_X5_X5_things C X dX5_refusalOfField_16 ?_
    refine lv_iload_n hx hb dX5_refusalOfField_19 rfl (lv_at hl 1 rfl) ?_
    refine callVR (rest := []) C hA (wC_sh a cI cZ) X (kX4_isFreed l D a cI cZ _ x1) (cwV 1 C.2.2.2.2.1 (gV wl_X5_141 wt_yX4_isFreed ws_yX4_isFreed wi_X4 wk_yX4_isFreed) rfl rfl rfl hdX4_isFreed ⟨Nat.le_of_ble_eq_true rfl, Nat.le_of_ble_eq_true rfl⟩) (ci := 4) (q0 := 1) rfl rfl rfl hl.1 rfl (Nat.le_of_ble_eq_true rfl) dX5_refusalOfField_20 ⟨Nat.le_refl 0, Nat.le_refl 0⟩ (fun H locs X => ?_)
    refine lv_if_eq (tgt := 31) hx hb dX5_refusalOfField_23 (by decide) (fun c23 => ?_) (fun c23 => ?_)
    · refine lv_iconst (v := (0)) hx hb dX5_refusalOfField_31 (by decide) ?_
      exact ret dX5_refusalOfField_32 (congrArg (fun z => (z, _)) (Eq.symm (Eq.trans (if_neg c9) (if_pos c23)))) X
    · refine lv_bipush (v := (-5)) hx hb dX5_refusalOfField_26 (by decide) ?_
      refine lv_goto (tgt := 32) hx hb dX5_refusalOfField_28 (by decide) ?_
      exact ret dX5_refusalOfField_32 (congrArg (fun z => (z, _)) (Eq.symm (Eq.trans (if_neg c9) (if_neg c23)))) X
  · refine lv_bipush (v := (-3)) hx hb dX5_refusalOfField_12 (by decide) ?_
    exact ret dX5_refusalOfField_14 (congrArg (fun z => (z, _)) (Eq.symm (if_pos c9))) X
def fX5_empty (σ : CSt) (x1 : Int32) (x2 : Int32) : CSt := (fX1_empty (fX0_empty (c_pmade_s (c_tmade_s (c_moved_s (c_shaded_s (c_steps_s (c_rounds_s (c_nextS_s (c_under_s (c_fault_s (c_manner_s σ x1) x2) (0 : Int32)) (0 : Int32)) (0 : Int32)) (0 : Int32)) (0 : Int32)) (0 : Int32)) (0 : Int32)) (0 : Int32))))
theorem hdX5_empty : yX5_empty.cls = RX5 ∧ yX5_empty.cls ≠ "java/lang/invoke/MethodHandle" ∧ yX5_empty.cls ≠ "java/lang/invoke/VarHandle" ∧ (parseMethodDescriptor yX5_empty.desc).map (fun d => d.parameters.length) = some 2 := by decide +kernel
set_option maxHeartbeats 250000 in
set_option maxRecDepth 100000 in
theorem kX5_empty (l : Launch) (D : va_G) (a : Nat → Nat) (cI cZ : ClassId) (σ : CSt) (x1 : Int32) (x2 : Int32) : CU l D (tyIZ cI cZ) (wC a cI cZ) yX5_empty cX5_empty 3 (rmk 1 21) [.ref (a 0), .int x1, .int x2] σ (fX5_empty σ x1 x2) := by
  refine CU.of pnX5 ⟨rfl, rfl⟩ (Nat.le_of_ble_eq_true rfl) (fun p e s m args below meth c A Q ls C X hA hl ret => ?_)
  have C : Cx p s m args meth c cX5_empty 3 RX5 D (tyIZ cI cZ) := C
  have hx := C.1
  have hb := C.2.1
  have hl : lv_has ls 3 [(0, .ref (a 0)), (1, .int x1), (2, .int x2)] := hl
  refine lv_aload_n hx hb dX5_empty_0 rfl (lv_at hl 0 rfl) ?_
  refine lv_iload_n hx hb dX5_empty_1 rfl (lv_at hl 1 rfl) ?_
  refine cp_X5_X5_manner C X dX5_empty_2 (fun H locs X => ?_)
  refine lv_aload_n hx hb dX5_empty_5 rfl (lv_at hl 0 rfl) ?_
  refine lv_iload_n hx hb dX5_empty_6 rfl (lv_at hl 2 rfl) ?_
  refine cp_X5_X5_fault C X dX5_empty_7 (fun H locs X => ?_)
  refine lv_aload_n hx hb dX5_empty_10 rfl (lv_at hl 0 rfl) ?_
  refine lv_iconst (v := (0)) hx hb dX5_empty_11 (by decide) ?_
  refine cp_X5_X5_underWay C X dX5_empty_12 (fun H locs X => ?_)
  refine lv_aload_n hx hb dX5_empty_15 rfl (lv_at hl 0 rfl) ?_
  refine lv_iconst (v := (0)) hx hb dX5_empty_16 (by decide) ?_
  refine cp_X5_X5_nextToSweep C X dX5_empty_17 (fun H locs X => ?_)
  refine lv_aload_n hx hb dX5_empty_20 rfl (lv_at hl 0 rfl) ?_
  refine lv_iconst (v := (0)) hx hb dX5_empty_21 (by decide) ?_
  refine cp_X5_X5_rounds C X dX5_empty_22 (fun H locs X => ?_)
  refine lv_aload_n hx hb dX5_empty_25 rfl (lv_at hl 0 rfl) ?_
  refine lv_iconst (v := (0)) hx hb dX5_empty_26 (by decide) ?_
  refine cp_X5_X5_steps C X dX5_empty_27 (fun H locs X => ?_)
  refine lv_aload_n hx hb dX5_empty_30 rfl (lv_at hl 0 rfl) ?_
  refine lv_iconst (v := (0)) hx hb dX5_empty_31 (by decide) ?_
  refine cp_X5_X5_shaded C X dX5_empty_32 (fun H locs X => ?_)
  refine lv_aload_n hx hb dX5_empty_35 rfl (lv_at hl 0 rfl) ?_
  refine lv_iconst (v := (0)) hx hb dX5_empty_36 (by decide) ?_
  refine cp_X5_X5_moved C X dX5_empty_37 (fun H locs X => ?_)
  refine lv_aload_n hx hb dX5_empty_40 rfl (lv_at hl 0 rfl) ?_
  refine cg_X5_X5_things C X dX5_empty_41 ?_
  refine lv_iconst (v := (0)) hx hb dX5_empty_44 (by decide) ?_
  refine cp_X5_X4_made C X dX5_empty_45 (fun H locs X => ?_)
  refine lv_aload_n hx hb dX5_empty_48 rfl (lv_at hl 0 rfl) ?_
  refine cg_X5_X5_pairs C X dX5_empty_49 ?_
  refine lv_iconst (v := (0)) hx hb dX5_empty_52 (by decide) ?_
  refine cp_X5_X2_made C X dX5_empty_53 (fun H locs X => ?_)
  refine lv_aload_n hx hb dX5_empty_56 rfl (lv_at hl 0 rfl) ?_
  refine cg_X5_X5_cells C X dX5_empty_57 ?_
  refine callVU (rest := []) C hA (wC_sh a cI cZ) X (kX0_empty l D a cI cZ _ ) (cwV 0 C.2.2.2.2.1 (gV wl_X5_77 wt_yX0_empty ws_yX0_empty wi_X0 wk_yX0_empty) rfl rfl rfl hdX0_empty ⟨Nat.le_of_ble_eq_true rfl, Nat.le_of_ble_eq_true rfl⟩) (ci := 0) (q0 := 2) rfl rfl rfl hl.1 rfl (Nat.le_of_ble_eq_true rfl) dX5_empty_60 ⟨Nat.le_refl 0, Nat.le_refl 0⟩ (fun H locs X => ?_)
  refine lv_aload_n hx hb dX5_empty_63 rfl (lv_at hl 0 rfl) ?_
  refine cg_X5_X5_holders C X dX5_empty_64 ?_
  refine callVU (rest := []) C hA (wC_sh a cI cZ) X (kX1_empty l D a cI cZ _ ) (cwV 0 C.2.2.2.2.1 (gV wl_X5_79 wt_yX1_empty ws_yX1_empty wi_X1 wk_yX1_empty) rfl rfl rfl hdX1_empty ⟨Nat.le_of_ble_eq_true rfl, Nat.le_of_ble_eq_true rfl⟩) (ci := 1) (q0 := 3) rfl rfl rfl hl.1 rfl (Nat.le_of_ble_eq_true rfl) dX5_empty_67 ⟨Nat.le_refl 0, Nat.le_refl 0⟩ (fun H locs X => ?_)
  exact ret dX5_empty_70 rfl X
def fX5_attic (σ : CSt) (x1 : Int32) (x2 : Int32) : Int32 × CSt := (if x1 < (0 : Int32) then ((-2 : Int32), σ) else (if (4 : Int32) ≤ x1 then ((-2 : Int32), σ) else (if x2 < (0 : Int32) then ((-2 : Int32), σ) else (if x2 < (3 : Int32) then ((c_tmade σ), (fX5_empty σ x1 x2)) else ((-2 : Int32), σ)))))
theorem hdX5_attic : yX5_attic.cls = RX5 ∧ yX5_attic.cls ≠ "java/lang/invoke/MethodHandle" ∧ yX5_attic.cls ≠ "java/lang/invoke/VarHandle" ∧ (parseMethodDescriptor yX5_attic.desc).map (fun d => d.parameters.length) = some 2 := by decide +kernel
set_option maxHeartbeats 250000 in
set_option maxRecDepth 100000 in
theorem kX5_attic (l : Launch) (D : va_G) (a : Nat → Nat) (cI cZ : ClassId) (σ : CSt) (x1 : Int32) (x2 : Int32) : CR l D (tyIZ cI cZ) (wC a cI cZ) yX5_attic cX5_attic 4 .int (rmk 2 43) [.ref (a 0), .int x1, .int x2] σ (fX5_attic σ x1 x2).1 (fX5_attic σ x1 x2).2 := by
  refine CR.of pnX5 ⟨rfl, rfl⟩ (Nat.le_of_ble_eq_true rfl) rfl (fun p e s m args below meth c A Q ls C X hA hl ret => ?_)
  have C : Cx p s m args meth c cX5_attic 4 RX5 D (tyIZ cI cZ) := C
  have hx := C.1
  have hb := C.2.1
  have hl : lv_has ls 4 [(0, .ref (a 0)), (1, .int x1), (2, .int x2)] := hl
  refine lv_iload_n hx hb dX5_attic_0 rfl (lv_at hl 1 rfl) ?_
  refine lv_if_lt (tgt := 18) hx hb dX5_attic_1 (by decide) (fun c1 => ?_) (fun c1 => ?_)
  · refine lv_bipush (v := (-2)) hx hb dX5_attic_18 (by decide) ?_
    exact ret dX5_attic_20 (pe_ (Eq.symm (if_pos c1))) X
  · refine lv_iload_n hx hb dX5_attic_4 rfl (lv_at hl 1 rfl) ?_
    refine lv_iconst (v := (4)) hx hb dX5_attic_5 (by decide) ?_
    refine lv_icmp_ge (tgt := 18) hx hb dX5_attic_6 (by decide) (fun c6 => ?_) (fun c6 => ?_)
    · refine lv_bipush (v := (-2)) hx hb dX5_attic_18 (by decide) ?_
      exact ret dX5_attic_20 (pe_ (Eq.symm (Eq.trans (if_neg c1) (if_pos c6)))) X
    · refine lv_iload_n hx hb dX5_attic_9 rfl (lv_at hl 2 rfl) ?_
      refine lv_if_lt (tgt := 18) hx hb dX5_attic_10 (by decide) (fun c10 => ?_) (fun c10 => ?_)
      · refine lv_bipush (v := (-2)) hx hb dX5_attic_18 (by decide) ?_
        exact ret dX5_attic_20 (pe_ (Eq.symm (Eq.trans (if_neg c1) (Eq.trans (if_neg c6) (if_pos c10))))) X
      · refine lv_iload_n hx hb dX5_attic_13 rfl (lv_at hl 2 rfl) ?_
        refine lv_iconst (v := (3)) hx hb dX5_attic_14 (by decide) ?_
        refine lv_icmp_lt (tgt := 21) hx hb dX5_attic_15 (by decide) (fun c15 => ?_) (fun c15 => ?_)
        · refine lv_aload_n hx hb dX5_attic_21 rfl (lv_at hl 0 rfl) ?_
          refine cg_X5_X5_things C X dX5_attic_22 ?_
          refine cg_X5_X4_made (v := (c_tmade σ)) C X rfl dX5_attic_25 ?_
          refine lv_istore_n (lv' := [(3, .int (c_tmade σ)), (0, .ref (a 0)), (1, .int x1), (2, .int x2)]) hx hb dX5_attic_28 rfl hl (by decide) rfl (fun ls hl => ?_)
          refine lv_aload_n hx hb dX5_attic_29 rfl (lv_at hl 1 rfl) ?_
          refine lv_iload_n hx hb dX5_attic_30 rfl (lv_at hl 2 rfl) ?_
          refine lv_iload_n hx hb dX5_attic_31 rfl (lv_at hl 3 rfl) ?_
          refine callVU (rest := []) C hA (wC_sh a cI cZ) X (kX5_empty l D a cI cZ _ x1 x2) (cwV 2 C.2.2.2.2.1 (gV wl_X5_44 wt_yX5_empty ws_yX5_empty wi_X5 wk_yX5_empty) rfl rfl rfl hdX5_empty ⟨Nat.le_of_ble_eq_true rfl, Nat.le_of_ble_eq_true rfl⟩) (ci := 5) (q0 := 0) rfl rfl rfl hl.1 rfl (Nat.le_of_ble_eq_true rfl) dX5_attic_32 ⟨Nat.le_refl 0, Nat.le_refl 0⟩ (fun H locs X => ?_)
          refine lv_iload_n hx hb dX5_attic_35 rfl (lv_at hl 0 rfl) ?_
          exact ret dX5_attic_36 (pe_ (Eq.symm (Eq.trans (if_neg c1) (Eq.trans (if_neg c6) (Eq.trans (if_neg c10) (if_pos c15)))))) X
        · refine lv_bipush (v := (-2)) hx hb dX5_attic_18 (by decide) ?_
          exact ret dX5_attic_20 (pe_ (Eq.symm (Eq.trans (if_neg c1) (Eq.trans (if_neg c6) (Eq.trans (if_neg c10) (if_neg c15)))))) X
def fX5_make (σ : CSt) (x1 : Int32) (x2 : Int32) (x3 : Int32) (x4 : Int32) : Int32 × CSt := (if (fX5_isRegister σ x1 x2) = (0 : Int32) then ((-2 : Int32), σ) else (if x3 < (0 : Int32) then ((-2 : Int32), σ) else (if x3 ≤ (6 : Int32) then (if (c_tmade σ) < (120 : Int32) then (if (fX5_placeOfNew σ (x3 + (1 : Int32)) (fX5_colourOfNew σ)) = (-1 : Int32) then ((-4 : Int32), σ) else (if (c_manner (fX4_add σ x3 x4 (fX5_colourOfNew σ) (fX5_placeOfNew σ (x3 + (1 : Int32)) (fX5_colourOfNew σ))).2) = (3 : Int32) then ((fX1_hold (fX0_takeBehind (fX4_add σ x3 x4 (fX5_colourOfNew σ) (fX5_placeOfNew σ (x3 + (1 : Int32)) (fX5_colourOfNew σ))).2 (x3 + (1 : Int32)) ((fX4_add σ x3 x4 (fX5_colourOfNew σ) (fX5_placeOfNew σ (x3 + (1 : Int32)) (fX5_colourOfNew σ))).1)) (fX5_registerAt (fX0_takeBehind (fX4_add σ x3 x4 (fX5_colourOfNew σ) (fX5_placeOfNew σ (x3 + (1 : Int32)) (fX5_colourOfNew σ))).2 (x3 + (1 : Int32)) ((fX4_add σ x3 x4 (fX5_colourOfNew σ) (fX5_placeOfNew σ (x3 + (1 : Int32)) (fX5_colourOfNew σ))).1)) x1 x2) ((fX4_add σ x3 x4 (fX5_colourOfNew σ) (fX5_placeOfNew σ (x3 + (1 : Int32)) (fX5_colourOfNew σ))).1)).1, (fX1_hold (fX0_takeBehind (fX4_add σ x3 x4 (fX5_colourOfNew σ) (fX5_placeOfNew σ (x3 + (1 : Int32)) (fX5_colourOfNew σ))).2 (x3 + (1 : Int32)) ((fX4_add σ x3 x4 (fX5_colourOfNew σ) (fX5_placeOfNew σ (x3 + (1 : Int32)) (fX5_colourOfNew σ))).1)) (fX5_registerAt (fX0_takeBehind (fX4_add σ x3 x4 (fX5_colourOfNew σ) (fX5_placeOfNew σ (x3 + (1 : Int32)) (fX5_colourOfNew σ))).2 (x3 + (1 : Int32)) ((fX4_add σ x3 x4 (fX5_colourOfNew σ) (fX5_placeOfNew σ (x3 + (1 : Int32)) (fX5_colourOfNew σ))).1)) x1 x2) ((fX4_add σ x3 x4 (fX5_colourOfNew σ) (fX5_placeOfNew σ (x3 + (1 : Int32)) (fX5_colourOfNew σ))).1)).2) else ((fX1_hold (fX0_assign (fX4_add σ x3 x4 (fX5_colourOfNew σ) (fX5_placeOfNew σ (x3 + (1 : Int32)) (fX5_colourOfNew σ))).2 (fX5_placeOfNew σ (x3 + (1 : Int32)) (fX5_colourOfNew σ)) (x3 + (1 : Int32)) ((fX4_add σ x3 x4 (fX5_colourOfNew σ) (fX5_placeOfNew σ (x3 + (1 : Int32)) (fX5_colourOfNew σ))).1)) (fX5_registerAt (fX0_assign (fX4_add σ x3 x4 (fX5_colourOfNew σ) (fX5_placeOfNew σ (x3 + (1 : Int32)) (fX5_colourOfNew σ))).2 (fX5_placeOfNew σ (x3 + (1 : Int32)) (fX5_colourOfNew σ)) (x3 + (1 : Int32)) ((fX4_add σ x3 x4 (fX5_colourOfNew σ) (fX5_placeOfNew σ (x3 + (1 : Int32)) (fX5_colourOfNew σ))).1)) x1 x2) ((fX4_add σ x3 x4 (fX5_colourOfNew σ) (fX5_placeOfNew σ (x3 + (1 : Int32)) (fX5_colourOfNew σ))).1)).1, (fX1_hold (fX0_assign (fX4_add σ x3 x4 (fX5_colourOfNew σ) (fX5_placeOfNew σ (x3 + (1 : Int32)) (fX5_colourOfNew σ))).2 (fX5_placeOfNew σ (x3 + (1 : Int32)) (fX5_colourOfNew σ)) (x3 + (1 : Int32)) ((fX4_add σ x3 x4 (fX5_colourOfNew σ) (fX5_placeOfNew σ (x3 + (1 : Int32)) (fX5_colourOfNew σ))).1)) (fX5_registerAt (fX0_assign (fX4_add σ x3 x4 (fX5_colourOfNew σ) (fX5_placeOfNew σ (x3 + (1 : Int32)) (fX5_colourOfNew σ))).2 (fX5_placeOfNew σ (x3 + (1 : Int32)) (fX5_colourOfNew σ)) (x3 + (1 : Int32)) ((fX4_add σ x3 x4 (fX5_colourOfNew σ) (fX5_placeOfNew σ (x3 + (1 : Int32)) (fX5_colourOfNew σ))).1)) x1 x2) ((fX4_add σ x3 x4 (fX5_colourOfNew σ) (fX5_placeOfNew σ (x3 + (1 : Int32)) (fX5_colourOfNew σ))).1)).2))) else ((-4 : Int32), σ)) else ((-2 : Int32), σ))))
theorem hdX5_make : yX5_make.cls = RX5 ∧ yX5_make.cls ≠ "java/lang/invoke/MethodHandle" ∧ yX5_make.cls ≠ "java/lang/invoke/VarHandle" ∧ (parseMethodDescriptor yX5_make.desc).map (fun d => d.parameters.length) = some 4 := by decide +kernel
set_option maxHeartbeats 250000 in
set_option maxRecDepth 100000 in
theorem kX5_make (l : Launch) (D : va_G) (a : Nat → Nat) (cI cZ : ClassId) (σ : CSt) (x1 : Int32) (x2 : Int32) (x3 : Int32) (x4 : Int32) : CR l D (tyIZ cI cZ) (wC a cI cZ) yX5_make cX5_make 8 .int (rmk 4 87) [.ref (a 0), .int x1, .int x2, .int x3, .int x4] σ (fX5_make σ x1 x2 x3 x4).1 (fX5_make σ x1 x2 x3 x4).2 := by
  refine CR.of pnX5 ⟨rfl, rfl⟩ (Nat.le_of_ble_eq_true rfl) rfl (fun p e s m args below meth c A Q ls C X hA hl ret => ?_)
  have C : Cx p s m args meth c cX5_make 8 RX5 D (tyIZ cI cZ) := C
  have hx := C.1
  have hb := C.2.1
  have hl : lv_has ls 8 [(0, .ref (a 0)), (1, .int x1), (2, .int x2), (3, .int x3), (4, .int x4)] := hl
  refine lv_iload_n hx hb dX5_make_0 rfl (lv_at hl 1 rfl) ?_
  refine lv_iload_n hx hb dX5_make_1 rfl (lv_at hl 2 rfl) ?_
  refine callSR (rest := []) C hA (wC_sh a cI cZ) X (kX5_isRegister l D a cI cZ _ x1 x2) (cwS 2 C.2.2.2.2.1 (gS wl_X5_80 wz_yX5_isRegister wi_X5 wk_yX5_isRegister) rfl rfl rfl hdX5_isRegister ⟨Nat.le_of_ble_eq_true rfl, Nat.le_of_ble_eq_true rfl⟩) rfl hl.1 rfl (Nat.le_of_ble_eq_true rfl) dX5_make_2 ⟨Nat.le_refl 0, Nat.le_refl 0⟩ (fun H locs X => ?_)
  refine lv_if_eq (tgt := 18) hx hb dX5_make_5 (by decide) (fun c5 => ?_) (fun c5 => ?_)
  · refine lv_bipush (v := (-2)) hx hb dX5_make_18 (by decide) ?_
    exact ret dX5_make_20 (pe_ (Eq.symm (if_pos c5))) X
  · refine lv_iload_n hx hb dX5_make_8 rfl (lv_at hl 3 rfl) ?_
    refine lv_if_lt (tgt := 18) hx hb dX5_make_9 (by decide) (fun c9 => ?_) (fun c9 => ?_)
    · refine lv_bipush (v := (-2)) hx hb dX5_make_18 (by decide) ?_
      exact ret dX5_make_20 (pe_ (Eq.symm (Eq.trans (if_neg c5) (if_pos c9)))) X
    · refine lv_iload_n hx hb dX5_make_12 rfl (lv_at hl 3 rfl) ?_
      refine lv_bipush (v := (6)) hx hb dX5_make_13 (by decide) ?_
      refine lv_icmp_le (tgt := 21) hx hb dX5_make_15 (by decide) (fun c15 => ?_) (fun c15 => ?_)
      · refine lv_aload_n hx hb dX5_make_21 rfl (lv_at hl 0 rfl) ?_
        refine cg_X5_X5_things C X dX5_make_22 ?_
        refine cg_X5_X4_made (v := (c_tmade σ)) C X rfl dX5_make_25 ?_
        refine lv_bipush (v := (120)) hx hb dX5_make_28 (by decide) ?_
        refine lv_icmp_lt (tgt := 36) hx hb dX5_make_30 (by decide) (fun c30 => ?_) (fun c30 => ?_)
        · refine lv_aload_n hx hb dX5_make_36 rfl (lv_at hl 0 rfl) ?_
          refine callVR (rest := []) C hA (wC_sh a cI cZ) X (kX5_colourOfNew l D a cI cZ _ ) (cwV 0 C.2.2.2.2.1 (gV wl_X5_84 wt_yX5_colourOfNew ws_yX5_colourOfNew wi_X5 wk_yX5_colourOfNew) rfl rfl rfl hdX5_colourOfNew ⟨Nat.le_of_ble_eq_true rfl, Nat.le_of_ble_eq_true rfl⟩) (ci := 5) (q0 := 0) rfl rfl rfl hl.1 rfl (Nat.le_of_ble_eq_true rfl) dX5_make_37 ⟨Nat.le_refl 0, Nat.le_refl 0⟩ (fun H locs X => ?_)
          refine lv_istore (lv' := [(5, .int (fX5_colourOfNew σ)), (0, .ref (a 0)), (1, .int x1), (2, .int x2), (3, .int x3), (4, .int x4)]) hx hb dX5_make_40 hl (by decide) rfl (fun ls hl => ?_)
          refine lv_aload_n hx hb dX5_make_42 rfl (lv_at hl 1 rfl) ?_
          refine lv_iload_n hx hb dX5_make_43 rfl (lv_at hl 4 rfl) ?_
          refine lv_iconst (v := (1)) hx hb dX5_make_44 (by decide) ?_
          refine lv_iadd hx hb dX5_make_45 ?_
          refine lv_iload hx hb dX5_make_46 (lv_at hl 0 rfl) ?_
          refine callVR (rest := []) C hA (wC_sh a cI cZ) X (kX5_placeOfNew l D a cI cZ _ (x3 + (1 : Int32)) (fX5_colourOfNew σ)) (cwV 2 C.2.2.2.2.1 (gV wl_X5_88 wt_yX5_placeOfNew ws_yX5_placeOfNew wi_X5 wk_yX5_placeOfNew) rfl rfl rfl hdX5_placeOfNew ⟨Nat.le_of_ble_eq_true rfl, Nat.le_of_ble_eq_true rfl⟩) (ci := 5) (q0 := 0) rfl rfl rfl hl.1 rfl (Nat.le_of_ble_eq_true rfl) dX5_make_48 ⟨Nat.le_refl 0, Nat.le_refl 0⟩ (fun H locs X => ?_)
          refine lv_istore (lv' := [(6, .int (fX5_placeOfNew σ (x3 + (1 : Int32)) (fX5_colourOfNew σ))), (5, .int (fX5_colourOfNew σ)), (0, .ref (a 0)), (1, .int x1), (2, .int x2), (3, .int x3), (4, .int x4)]) hx hb dX5_make_51 hl (by decide) rfl (fun ls hl => ?_)
          refine lv_iload hx hb dX5_make_53 (lv_at hl 0 rfl) ?_
          refine lv_iconst (v := (-1)) hx hb dX5_make_55 (by decide) ?_
          refine lv_icmp_ne (tgt := 62) hx hb dX5_make_56 (by decide) (fun c56 => ?_) (fun c56 => ?_)
          · refine lv_aload_n hx hb dX5_make_62 rfl (lv_at hl 2 rfl) ?_
            refine cg_X5_X5_things C X dX5_make_63 ?_
            refine lv_iload_n hx hb dX5_make_66 rfl (lv_at hl 5 rfl) ?_
            refine lv_iload hx hb dX5_make_67 (lv_at hl 6 rfl) ?_
            refine lv_iload hx hb dX5_make_69 (lv_at hl 1 rfl) ?_
            refine lv_iload hx hb dX5_make_71 (lv_at hl 0 rfl) ?_
            refine callVR (rest := []) C hA (wC_sh a cI cZ) X (kX4_add l D a cI cZ _ x3 x4 (fX5_colourOfNew σ) (fX5_placeOfNew σ (x3 + (1 : Int32)) (fX5_colourOfNew σ))) (cwV 4 C.2.2.2.2.1 (gV wl_X5_92 wt_yX4_add ws_yX4_add wi_X4 wk_yX4_add) rfl rfl rfl hdX4_add ⟨Nat.le_of_ble_eq_true rfl, Nat.le_of_ble_eq_true rfl⟩) (ci := 4) (q0 := 1) rfl rfl rfl hl.1 rfl (Nat.le_of_ble_eq_true rfl) dX5_make_73 ⟨Nat.le_refl 0, Nat.le_refl 0⟩ (fun H locs X => ?_)
            refine lv_istore (lv' := [(7, .int ((fX4_add σ x3 x4 (fX5_colourOfNew σ) (fX5_placeOfNew σ (x3 + (1 : Int32)) (fX5_colourOfNew σ))).1)), (6, .int (fX5_placeOfNew σ (x3 + (1 : Int32)) (fX5_colourOfNew σ))), (5, .int (fX5_colourOfNew σ)), (0, .ref (a 0)), (1, .int x1), (2, .int x2), (3, .int x3), (4, .int x4)]) hx hb dX5_make_76 hl (by decide) rfl (fun ls hl => ?_)
            refine lv_aload_n hx hb dX5_make_78 rfl (lv_at hl 3 rfl) ?_
            refine cg_X5_X5_manner (v := (c_manner (fX4_add σ x3 x4 (fX5_colourOfNew σ) (fX5_placeOfNew σ (x3 + (1 : Int32)) (fX5_colourOfNew σ))).2)) C X rfl dX5_make_79 ?_
            refine lv_iconst (v := (3)) hx hb dX5_make_82 (by decide) ?_
            refine lv_icmp_ne (tgt := 101) hx hb dX5_make_83 (by decide) (fun c83 => ?_) (fun c83 => ?_)
            · refine lv_aload_n hx hb dX5_make_101 rfl (lv_at hl 3 rfl) ?_
              refine cg_X5_X5_cells C X dX5_make_102 ?_
              refine lv_iload hx hb dX5_make_105 (lv_at hl 1 rfl) ?_
              refine lv_iload_n hx hb dX5_make_107 rfl (lv_at hl 6 rfl) ?_
              refine lv_iconst (v := (1)) hx hb dX5_make_108 (by decide) ?_
              refine lv_iadd hx hb dX5_make_109 ?_
              refine lv_iload hx hb dX5_make_110 (lv_at hl 0 rfl) ?_
              refine callVU (rest := []) C hA (wC_sh a cI cZ) X (kX0_assign l D a cI cZ _ (fX5_placeOfNew σ (x3 + (1 : Int32)) (fX5_colourOfNew σ)) (x3 + (1 : Int32)) ((fX4_add σ x3 x4 (fX5_colourOfNew σ) (fX5_placeOfNew σ (x3 + (1 : Int32)) (fX5_colourOfNew σ))).1)) (cwV 3 C.2.2.2.2.1 (gV wl_X5_99 wt_yX0_assign ws_yX0_assign wi_X0 wk_yX0_assign) rfl rfl rfl hdX0_assign ⟨Nat.le_of_ble_eq_true rfl, Nat.le_of_ble_eq_true rfl⟩) (ci := 0) (q0 := 2) rfl rfl rfl hl.1 rfl (Nat.le_of_ble_eq_true rfl) dX5_make_112 ⟨Nat.le_refl 0, Nat.le_refl 0⟩ (fun H locs X => ?_)
              refine lv_aload_n hx hb dX5_make_115 rfl (lv_at hl 3 rfl) ?_
              refine cg_X5_X5_holders C X dX5_make_116 ?_
              refine lv_iload_n hx hb dX5_make_119 rfl (lv_at hl 4 rfl) ?_
              refine lv_iload_n hx hb dX5_make_120 rfl (lv_at hl 5 rfl) ?_
              refine callSR (rest := [.ref (a 3)]) C hA (wC_sh a cI cZ) X (kX5_registerAt l D a cI cZ _ x1 x2) (cwS 2 C.2.2.2.2.1 (gS wl_X5_103 wz_yX5_registerAt wi_X5 wk_yX5_registerAt) rfl rfl rfl hdX5_registerAt ⟨Nat.le_of_ble_eq_true rfl, Nat.le_of_ble_eq_true rfl⟩) rfl hl.1 rfl (Nat.le_of_ble_eq_true rfl) dX5_make_121 ⟨Nat.le_refl 0, Nat.le_refl 0⟩ (fun H locs X => ?_)
              refine lv_iload hx hb dX5_make_124 (lv_at hl 0 rfl) ?_
              refine callVR (rest := []) C hA (wC_sh a cI cZ) X (kX1_hold l D a cI cZ _ (fX5_registerAt (fX0_assign (fX4_add σ x3 x4 (fX5_colourOfNew σ) (fX5_placeOfNew σ (x3 + (1 : Int32)) (fX5_colourOfNew σ))).2 (fX5_placeOfNew σ (x3 + (1 : Int32)) (fX5_colourOfNew σ)) (x3 + (1 : Int32)) ((fX4_add σ x3 x4 (fX5_colourOfNew σ) (fX5_placeOfNew σ (x3 + (1 : Int32)) (fX5_colourOfNew σ))).1)) x1 x2) ((fX4_add σ x3 x4 (fX5_colourOfNew σ) (fX5_placeOfNew σ (x3 + (1 : Int32)) (fX5_colourOfNew σ))).1)) (cwV 2 C.2.2.2.2.1 (gV wl_X5_106 wt_yX1_hold ws_yX1_hold wi_X1 wk_yX1_hold) rfl rfl rfl hdX1_hold ⟨Nat.le_of_ble_eq_true rfl, Nat.le_of_ble_eq_true rfl⟩) (ci := 1) (q0 := 3) rfl rfl rfl hl.1 rfl (Nat.le_of_ble_eq_true rfl) dX5_make_126 ⟨Nat.le_refl 0, Nat.le_refl 0⟩ (fun H locs X => ?_)
              exact ret dX5_make_129 (pe_ (Eq.symm (Eq.trans (if_neg c5) (Eq.trans (if_neg c9) (Eq.trans (if_pos c15) (Eq.trans (if_pos c30) (Eq.trans (if_neg c56) (if_neg c83)))))))) X
            · refine lv_aload_n hx hb dX5_make_86 rfl (lv_at hl 3 rfl) ?_
              refine cg_X5_X5_cells C X dX5_make_87 ?_
              refine lv_iload_n hx hb dX5_make_90 rfl (lv_at hl 6 rfl) ?_
              refine lv_iconst (v := (1)) hx hb dX5_make_91 (by decide) ?_
              refine lv_iadd hx hb dX5_make_92 ?_
              refine lv_iload hx hb dX5_make_93 (lv_at hl 0 rfl) ?_
              refine callVU (rest := []) C hA (wC_sh a cI cZ) X (kX0_takeBehind l D a cI cZ _ (x3 + (1 : Int32)) ((fX4_add σ x3 x4 (fX5_colourOfNew σ) (fX5_placeOfNew σ (x3 + (1 : Int32)) (fX5_colourOfNew σ))).1)) (cwV 2 C.2.2.2.2.1 (gV wl_X5_96 wt_yX0_takeBehind ws_yX0_takeBehind wi_X0 wk_yX0_takeBehind) rfl rfl rfl hdX0_takeBehind ⟨Nat.le_of_ble_eq_true rfl, Nat.le_of_ble_eq_true rfl⟩) (ci := 0) (q0 := 2) rfl rfl rfl hl.1 rfl (Nat.le_of_ble_eq_true rfl) dX5_make_95 ⟨Nat.le_refl 0, Nat.le_refl 0⟩ (fun H locs X => ?_)
              refine lv_goto (tgt := 115) hx hb dX5_make_98 (by decide) ?_
              refine lv_aload_n hx hb dX5_make_115 rfl (lv_at hl 3 rfl) ?_
              refine cg_X5_X5_holders C X dX5_make_116 ?_
              refine lv_iload_n hx hb dX5_make_119 rfl (lv_at hl 4 rfl) ?_
              refine lv_iload_n hx hb dX5_make_120 rfl (lv_at hl 5 rfl) ?_
              refine callSR (rest := [.ref (a 3)]) C hA (wC_sh a cI cZ) X (kX5_registerAt l D a cI cZ _ x1 x2) (cwS 2 C.2.2.2.2.1 (gS wl_X5_103 wz_yX5_registerAt wi_X5 wk_yX5_registerAt) rfl rfl rfl hdX5_registerAt ⟨Nat.le_of_ble_eq_true rfl, Nat.le_of_ble_eq_true rfl⟩) rfl hl.1 rfl (Nat.le_of_ble_eq_true rfl) dX5_make_121 ⟨Nat.le_refl 0, Nat.le_refl 0⟩ (fun H locs X => ?_)
              refine lv_iload hx hb dX5_make_124 (lv_at hl 0 rfl) ?_
              refine callVR (rest := []) C hA (wC_sh a cI cZ) X (kX1_hold l D a cI cZ _ (fX5_registerAt (fX0_takeBehind (fX4_add σ x3 x4 (fX5_colourOfNew σ) (fX5_placeOfNew σ (x3 + (1 : Int32)) (fX5_colourOfNew σ))).2 (x3 + (1 : Int32)) ((fX4_add σ x3 x4 (fX5_colourOfNew σ) (fX5_placeOfNew σ (x3 + (1 : Int32)) (fX5_colourOfNew σ))).1)) x1 x2) ((fX4_add σ x3 x4 (fX5_colourOfNew σ) (fX5_placeOfNew σ (x3 + (1 : Int32)) (fX5_colourOfNew σ))).1)) (cwV 2 C.2.2.2.2.1 (gV wl_X5_106 wt_yX1_hold ws_yX1_hold wi_X1 wk_yX1_hold) rfl rfl rfl hdX1_hold ⟨Nat.le_of_ble_eq_true rfl, Nat.le_of_ble_eq_true rfl⟩) (ci := 1) (q0 := 3) rfl rfl rfl hl.1 rfl (Nat.le_of_ble_eq_true rfl) dX5_make_126 ⟨Nat.le_refl 0, Nat.le_refl 0⟩ (fun H locs X => ?_)
              exact ret dX5_make_129 (pe_ (Eq.symm (Eq.trans (if_neg c5) (Eq.trans (if_neg c9) (Eq.trans (if_pos c15) (Eq.trans (if_pos c30) (Eq.trans (if_neg c56) (if_pos c83)))))))) X
          · refine lv_bipush (v := (-4)) hx hb dX5_make_59 (by decide) ?_
            exact ret dX5_make_61 (pe_ (Eq.symm (Eq.trans (if_neg c5) (Eq.trans (if_neg c9) (Eq.trans (if_pos c15) (Eq.trans (if_pos c30) (if_pos c56))))))) X
        · refine lv_bipush (v := (-4)) hx hb dX5_make_33 (by decide) ?_
          exact ret dX5_make_35 (pe_ (Eq.symm (Eq.trans (if_neg c5) (Eq.trans (if_neg c9) (Eq.trans (if_pos c15) (if_neg c30)))))) X
      · refine lv_bipush (v := (-2)) hx hb dX5_make_18 (by decide) ?_
        exact ret dX5_make_20 (pe_ (Eq.symm (Eq.trans (if_neg c5) (Eq.trans (if_neg c9) (if_neg c15))))) X
def fX5_move (σ : CSt) (x1 : Int32) (x2 : Int32) (x3 : Int32) : Int32 × CSt := (if (fX5_isRegister σ x1 x2) = (0 : Int32) then ((-2 : Int32), σ) else (if (fX5_isRegister σ x1 x3) = (0 : Int32) then ((-2 : Int32), σ) else ((fX1_hold σ (fX5_registerAt σ x1 x2) (fX5_inRegister σ x1 x3)).1, (fX1_hold σ (fX5_registerAt σ x1 x2) (fX5_inRegister σ x1 x3)).2)))
theorem hdX5_move : yX5_move.cls = RX5 ∧ yX5_move.cls ≠ "java/lang/invoke/MethodHandle" ∧ yX5_move.cls ≠ "java/lang/invoke/VarHandle" ∧ (parseMethodDescriptor yX5_move.desc).map (fun d => d.parameters.length) = some 3 := by decide +kernel
set_option maxHeartbeats 250000 in
set_option maxRecDepth 100000 in
theorem kX5_move (l : Launch) (D : va_G) (a : Nat → Nat) (cI cZ : ClassId) (σ : CSt) (x1 : Int32) (x2 : Int32) (x3 : Int32) : CR l D (tyIZ cI cZ) (wC a cI cZ) yX5_move cX5_move 4 .int (rmk 2 43) [.ref (a 0), .int x1, .int x2, .int x3] σ (fX5_move σ x1 x2 x3).1 (fX5_move σ x1 x2 x3).2 := by
  refine CR.of pnX5 ⟨rfl, rfl⟩ (Nat.le_of_ble_eq_true rfl) rfl (fun p e s m args below meth c A Q ls C X hA hl ret => ?_)
  have C : Cx p s m args meth c cX5_move 4 RX5 D (tyIZ cI cZ) := C
  have hx := C.1
  have hb := C.2.1
  have hl : lv_has ls 4 [(0, .ref (a 0)), (1, .int x1), (2, .int x2), (3, .int x3)] := hl
  refine lv_iload_n hx hb dX5_move_0 rfl (lv_at hl 1 rfl) ?_
  refine lv_iload_n hx hb dX5_move_1 rfl (lv_at hl 2 rfl) ?_
  refine callSR (rest := []) C hA (wC_sh a cI cZ) X (kX5_isRegister l D a cI cZ _ x1 x2) (cwS 2 C.2.2.2.2.1 (gS wl_X5_80 wz_yX5_isRegister wi_X5 wk_yX5_isRegister) rfl rfl rfl hdX5_isRegister ⟨Nat.le_of_ble_eq_true rfl, Nat.le_of_ble_eq_true rfl⟩) rfl hl.1 rfl (Nat.le_of_ble_eq_true rfl) dX5_move_2 ⟨Nat.le_refl 0, Nat.le_refl 0⟩ (fun H locs X => ?_)
  refine lv_if_eq (tgt := 16) hx hb dX5_move_5 (by decide) (fun c5 => ?_) (fun c5 => ?_)
  · refine lv_bipush (v := (-2)) hx hb dX5_move_16 (by decide) ?_
    exact ret dX5_move_18 (pe_ (Eq.symm (if_pos c5))) X
  · refine lv_iload_n hx hb dX5_move_8 rfl (lv_at hl 1 rfl) ?_
    refine lv_iload_n hx hb dX5_move_9 rfl (lv_at hl 3 rfl) ?_
    refine callSR (rest := []) C hA (wC_sh a cI cZ) X (kX5_isRegister l D a cI cZ _ x1 x3) (cwS 2 C.2.2.2.2.1 (gS wl_X5_80 wz_yX5_isRegister wi_X5 wk_yX5_isRegister) rfl rfl rfl hdX5_isRegister ⟨Nat.le_of_ble_eq_true rfl, Nat.le_of_ble_eq_true rfl⟩) rfl hl.1 rfl (Nat.le_of_ble_eq_true rfl) dX5_move_10 ⟨Nat.le_refl 0, Nat.le_refl 0⟩ (fun H locs X => ?_)
    refine lv_if_ne (tgt := 19) hx hb dX5_move_13 (by decide) (fun c13 => ?_) (fun c13 => ?_)
    · refine lv_aload_n hx hb dX5_move_19 rfl (lv_at hl 0 rfl) ?_
      refine cg_X5_X5_holders C X dX5_move_20 ?_
      refine lv_iload_n hx hb dX5_move_23 rfl (lv_at hl 1 rfl) ?_
      refine lv_iload_n hx hb dX5_move_24 rfl (lv_at hl 2 rfl) ?_
      refine callSR (rest := [.ref (a 3)]) C hA (wC_sh a cI cZ) X (kX5_registerAt l D a cI cZ _ x1 x2) (cwS 2 C.2.2.2.2.1 (gS wl_X5_103 wz_yX5_registerAt wi_X5 wk_yX5_registerAt) rfl rfl rfl hdX5_registerAt ⟨Nat.le_of_ble_eq_true rfl, Nat.le_of_ble_eq_true rfl⟩) rfl hl.1 rfl (Nat.le_of_ble_eq_true rfl) dX5_move_25 ⟨Nat.le_refl 0, Nat.le_refl 0⟩ (fun H locs X => ?_)
      refine lv_aload_n hx hb dX5_move_28 rfl (lv_at hl 0 rfl) ?_
      refine lv_iload_n hx hb dX5_move_29 rfl (lv_at hl 1 rfl) ?_
      refine lv_iload_n hx hb dX5_move_30 rfl (lv_at hl 3 rfl) ?_
      refine callVR (rest := [.int (fX5_registerAt σ x1 x2), .ref (a 3)]) C hA (wC_sh a cI cZ) X (kX5_inRegister l D a cI cZ _ x1 x3) (cwV 2 C.2.2.2.2.1 (gV wl_X5_122 wt_yX5_inRegister ws_yX5_inRegister wi_X5 wk_yX5_inRegister) rfl rfl rfl hdX5_inRegister ⟨Nat.le_of_ble_eq_true rfl, Nat.le_of_ble_eq_true rfl⟩) (ci := 5) (q0 := 0) rfl rfl rfl hl.1 rfl (Nat.le_of_ble_eq_true rfl) dX5_move_31 ⟨Nat.le_refl 0, Nat.le_refl 0⟩ (fun H locs X => ?_)
      refine callVR (rest := []) C hA (wC_sh a cI cZ) X (kX1_hold l D a cI cZ _ (fX5_registerAt σ x1 x2) (fX5_inRegister σ x1 x3)) (cwV 2 C.2.2.2.2.1 (gV wl_X5_106 wt_yX1_hold ws_yX1_hold wi_X1 wk_yX1_hold) rfl rfl rfl hdX1_hold ⟨Nat.le_of_ble_eq_true rfl, Nat.le_of_ble_eq_true rfl⟩) (ci := 1) (q0 := 3) rfl rfl rfl hl.1 rfl (Nat.le_of_ble_eq_true rfl) dX5_move_34 ⟨Nat.le_refl 0, Nat.le_refl 0⟩ (fun H locs X => ?_)
      exact ret dX5_move_37 (pe_ (Eq.symm (Eq.trans (if_neg c5) (if_neg c13)))) X
    · refine lv_bipush (v := (-2)) hx hb dX5_move_16 (by decide) ?_
      exact ret dX5_move_18 (pe_ (Eq.symm (Eq.trans (if_neg c5) (if_pos c13)))) X
def fX5_get (σ : CSt) (x1 : Int32) (x2 : Int32) (x3 : Int32) (x4 : Int32) : Int32 × CSt := (if (fX5_isRegister σ x1 x2) = (0 : Int32) then ((-2 : Int32), σ) else (if (fX5_isRegister σ x1 x3) = (0 : Int32) then ((-2 : Int32), σ) else (if (fX5_refusalOfField σ (fX5_inRegister σ x1 x3) x4) = (0 : Int32) then (if (c_manner σ) = (3 : Int32) then ((fX1_hold (fX5_note σ (fX4_inField σ (fX5_inRegister σ x1 x3) x4)) (fX5_registerAt (fX5_note σ (fX4_inField σ (fX5_inRegister σ x1 x3) x4)) x1 x2) (fX4_inField σ (fX5_inRegister σ x1 x3) x4)).1, (fX1_hold (fX5_note σ (fX4_inField σ (fX5_inRegister σ x1 x3) x4)) (fX5_registerAt (fX5_note σ (fX4_inField σ (fX5_inRegister σ x1 x3) x4)) x1 x2) (fX4_inField σ (fX5_inRegister σ x1 x3) x4)).2) else ((fX1_hold σ (fX5_registerAt σ x1 x2) (fX4_inField σ (fX5_inRegister σ x1 x3) x4)).1, (fX1_hold σ (fX5_registerAt σ x1 x2) (fX4_inField σ (fX5_inRegister σ x1 x3) x4)).2)) else ((fX5_refusalOfField σ (fX5_inRegister σ x1 x3) x4), σ))))
theorem hdX5_get : yX5_get.cls = RX5 ∧ yX5_get.cls ≠ "java/lang/invoke/MethodHandle" ∧ yX5_get.cls ≠ "java/lang/invoke/VarHandle" ∧ (parseMethodDescriptor yX5_get.desc).map (fun d => d.parameters.length) = some 4 := by decide +kernel
set_option maxHeartbeats 250000 in
set_option maxRecDepth 100000 in
theorem kX5_get (l : Launch) (D : va_G) (a : Nat → Nat) (cI cZ : ClassId) (σ : CSt) (x1 : Int32) (x2 : Int32) (x3 : Int32) (x4 : Int32) : CR l D (tyIZ cI cZ) (wC a cI cZ) yX5_get cX5_get 8 .int (rmk 4 88) [.ref (a 0), .int x1, .int x2, .int x3, .int x4] σ (fX5_get σ x1 x2 x3 x4).1 (fX5_get σ x1 x2 x3 x4).2 := by
  refine CR.of pnX5 ⟨rfl, rfl⟩ (Nat.le_of_ble_eq_true rfl) rfl (fun p e s m args below meth c A Q ls C X hA hl ret => ?_)
  have C : Cx p s m args meth c cX5_get 8 RX5 D (tyIZ cI cZ) := C
  have hx := C.1
  have hb := C.2.1
  have hl : lv_has ls 8 [(0, .ref (a 0)), (1, .int x1), (2, .int x2), (3, .int x3), (4, .int x4)] := hl
  refine lv_iload_n hx hb dX5_get_0 rfl (lv_at hl 1 rfl) ?_
  refine lv_iload_n hx hb dX5_get_1 rfl (lv_at hl 2 rfl) ?_
  refine callSR (rest := []) C hA (wC_sh a cI cZ) X (kX5_isRegister l D a cI cZ _ x1 x2) (cwS 2 C.2.2.2.2.1 (gS wl_X5_80 wz_yX5_isRegister wi_X5 wk_yX5_isRegister) rfl rfl rfl hdX5_isRegister ⟨Nat.le_of_ble_eq_true rfl, Nat.le_of_ble_eq_true rfl⟩) rfl hl.1 rfl (Nat.le_of_ble_eq_true rfl) dX5_get_2 ⟨Nat.le_refl 0, Nat.le_refl 0⟩ (fun H locs X => ?_)
  refine lv_if_eq (tgt := 16) hx hb dX5_get_5 (by decide) (fun c5 => ?_) (fun c5 => ?_)
  · refine lv_bipush (v := (-2)) hx hb dX5_get_16 (by decide) ?_
    exact ret dX5_get_18 (pe_ (Eq.symm (if_pos c5))) X
  · refine lv_iload_n hx hb dX5_get_8 rfl (lv_at hl 1 rfl) ?_
    refine lv_iload_n hx hb dX5_get_9 rfl (lv_at hl 3 rfl) ?_
    refine callSR (rest := []) C hA (wC_sh a cI cZ) X (kX5_isRegister l D a cI cZ _ x1 x3) (cwS 2 C.2.2.2.2.1 (gS wl_X5_80 wz_yX5_isRegister wi_X5 wk_yX5_isRegister) rfl rfl rfl hdX5_isRegister ⟨Nat.le_of_ble_eq_true rfl, Nat.le_of_ble_eq_true rfl⟩) rfl hl.1 rfl (Nat.le_of_ble_eq_true rfl) dX5_get_10 ⟨Nat.le_refl 0, Nat.le_refl 0⟩ (fun H locs X => ?_)
    refine lv_if_ne (tgt := 19) hx hb dX5_get_13 (by decide) (fun c13 => ?_) (fun c13 => ?_)
    · refine lv_aload_n hx hb dX5_get_19 rfl (lv_at hl 0 rfl) ?_
      refine lv_iload_n hx hb dX5_get_20 rfl (lv_at hl 1 rfl) ?_
      refine lv_iload_n hx hb dX5_get_21 rfl (lv_at hl 3 rfl) ?_
      refine callVR (rest := []) C hA (wC_sh a cI cZ) X (kX5_inRegister l D a cI cZ _ x1 x3) (cwV 2 C.2.2.2.2.1 (gV wl_X5_122 wt_yX5_inRegister ws_yX5_inRegister wi_X5 wk_yX5_inRegister) rfl rfl rfl hdX5_inRegister ⟨Nat.le_of_ble_eq_true rfl, Nat.le_of_ble_eq_true rfl⟩) (ci := 5) (q0 := 0) rfl rfl rfl hl.1 rfl (Nat.le_of_ble_eq_true rfl) dX5_get_22 ⟨Nat.le_refl 0, Nat.le_refl 0⟩ (fun H locs X => ?_)
      refine lv_istore (lv' := [(5, .int (fX5_inRegister σ x1 x3)), (0, .ref (a 0)), (1, .int x1), (2, .int x2), (3, .int x3), (4, .int x4)]) hx hb dX5_get_25 hl (by decide) rfl (fun ls hl => ?_)
      refine lv_aload_n hx hb dX5_get_27 rfl (lv_at hl 1 rfl) ?_
      refine lv_iload hx hb dX5_get_28 (lv_at hl 0 rfl) ?_
      refine lv_iload hx hb dX5_get_30 (lv_at hl 5 rfl) ?_
      refine callVR (rest := []) C hA (wC_sh a cI cZ) X (kX5_refusalOfField l D a cI cZ _ (fX5_inRegister σ x1 x3) x4) (cwV 2 C.2.2.2.2.1 (gV wl_X5_125 wt_yX5_refusalOfField ws_yX5_refusalOfField wi_X5 wk_yX5_refusalOfField) rfl rfl rfl hdX5_refusalOfField ⟨Nat.le_of_ble_eq_true rfl, Nat.le_of_ble_eq_true rfl⟩) (ci := 5) (q0 := 0) rfl rfl rfl hl.1 rfl (Nat.le_of_ble_eq_true rfl) dX5_get_32 ⟨Nat.le_refl 0, Nat.le_refl 0⟩ (fun H locs X => ?_)
      refine lv_istore (lv' := [(6, .int (fX5_refusalOfField σ (fX5_inRegister σ x1 x3) x4)), (5, .int (fX5_inRegister σ x1 x3)), (0, .ref (a 0)), (1, .int x1), (2, .int x2), (3, .int x3), (4, .int x4)]) hx hb dX5_get_35 hl (by decide) rfl (fun ls hl => ?_)
      refine lv_iload hx hb dX5_get_37 (lv_at hl 0 rfl) ?_
      refine lv_if_eq (tgt := 45) hx hb dX5_get_39 (by decide) (fun c39 => ?_) (fun c39 => ?_)
      · refine lv_aload_n hx hb dX5_get_45 rfl (lv_at hl 2 rfl) ?_
        refine cg_X5_X5_things C X dX5_get_46 ?_
        refine lv_iload hx hb dX5_get_49 (lv_at hl 1 rfl) ?_
        refine lv_iload hx hb dX5_get_51 (lv_at hl 6 rfl) ?_
        refine callVR (rest := []) C hA (wC_sh a cI cZ) X (kX4_inField l D a cI cZ _ (fX5_inRegister σ x1 x3) x4) (cwV 2 C.2.2.2.2.1 (gV wl_X5_128 wt_yX4_inField ws_yX4_inField wi_X4 wk_yX4_inField) rfl rfl rfl hdX4_inField ⟨Nat.le_of_ble_eq_true rfl, Nat.le_of_ble_eq_true rfl⟩) (ci := 4) (q0 := 1) rfl rfl rfl hl.1 rfl (Nat.le_of_ble_eq_true rfl) dX5_get_53 ⟨Nat.le_refl 0, Nat.le_refl 0⟩ (fun H locs X => ?_)
        refine lv_istore (lv' := [(7, .int (fX4_inField σ (fX5_inRegister σ x1 x3) x4)), (6, .int (fX5_refusalOfField σ (fX5_inRegister σ x1 x3) x4)), (5, .int (fX5_inRegister σ x1 x3)), (0, .ref (a 0)), (1, .int x1), (2, .int x2), (3, .int x3), (4, .int x4)]) hx hb dX5_get_56 hl (by decide) rfl (fun ls hl => ?_)
        refine lv_aload_n hx hb dX5_get_58 rfl (lv_at hl 3 rfl) ?_
        refine cg_X5_X5_manner (v := (c_manner σ)) C X rfl dX5_get_59 ?_
        refine lv_iconst (v := (3)) hx hb dX5_get_62 (by decide) ?_
        refine lv_icmp_ne (tgt := 72) hx hb dX5_get_63 (by decide) (fun c63 => ?_) (fun c63 => ?_)
        · refine lv_aload_n hx hb dX5_get_72 rfl (lv_at hl 3 rfl) ?_
          refine cg_X5_X5_holders C X dX5_get_73 ?_
          refine lv_iload_n hx hb dX5_get_76 rfl (lv_at hl 4 rfl) ?_
          refine lv_iload_n hx hb dX5_get_77 rfl (lv_at hl 5 rfl) ?_
          refine callSR (rest := [.ref (a 3)]) C hA (wC_sh a cI cZ) X (kX5_registerAt l D a cI cZ _ x1 x2) (cwS 2 C.2.2.2.2.1 (gS wl_X5_103 wz_yX5_registerAt wi_X5 wk_yX5_registerAt) rfl rfl rfl hdX5_registerAt ⟨Nat.le_of_ble_eq_true rfl, Nat.le_of_ble_eq_true rfl⟩) rfl hl.1 rfl (Nat.le_of_ble_eq_true rfl) dX5_get_78 ⟨Nat.le_refl 0, Nat.le_refl 0⟩ (fun H locs X => ?_)
          refine lv_iload hx hb dX5_get_81 (lv_at hl 0 rfl) ?_
          refine callVR (rest := []) C hA (wC_sh a cI cZ) X (kX1_hold l D a cI cZ _ (fX5_registerAt σ x1 x2) (fX4_inField σ (fX5_inRegister σ x1 x3) x4)) (cwV 2 C.2.2.2.2.1 (gV wl_X5_106 wt_yX1_hold ws_yX1_hold wi_X1 wk_yX1_hold) rfl rfl rfl hdX1_hold ⟨Nat.le_of_ble_eq_true rfl, Nat.le_of_ble_eq_true rfl⟩) (ci := 1) (q0 := 3) rfl rfl rfl hl.1 rfl (Nat.le_of_ble_eq_true rfl) dX5_get_83 ⟨Nat.le_refl 0, Nat.le_refl 0⟩ (fun H locs X => ?_)
          exact ret dX5_get_86 (pe_ (Eq.symm (Eq.trans (if_neg c5) (Eq.trans (if_neg c13) (Eq.trans (if_pos c39) (if_neg c63)))))) X
        · refine lv_aload_n hx hb dX5_get_66 rfl (lv_at hl 3 rfl) ?_
          refine lv_iload hx hb dX5_get_67 (lv_at hl 0 rfl) ?_
          refine callVU (rest := []) C hA (wC_sh a cI cZ) X (kX5_note l D a cI cZ _ (fX4_inField σ (fX5_inRegister σ x1 x3) x4)) (cwV 1 C.2.2.2.2.1 (gV wl_X5_131 wt_yX5_note ws_yX5_note wi_X5 wk_yX5_note) rfl rfl rfl hdX5_note ⟨Nat.le_of_ble_eq_true rfl, Nat.le_of_ble_eq_true rfl⟩) (ci := 5) (q0 := 0) rfl rfl rfl hl.1 rfl (Nat.le_of_ble_eq_true rfl) dX5_get_69 ⟨Nat.le_refl 0, Nat.le_refl 0⟩ (fun H locs X => ?_)
          refine lv_aload_n hx hb dX5_get_72 rfl (lv_at hl 3 rfl) ?_
          refine cg_X5_X5_holders C X dX5_get_73 ?_
          refine lv_iload_n hx hb dX5_get_76 rfl (lv_at hl 4 rfl) ?_
          refine lv_iload_n hx hb dX5_get_77 rfl (lv_at hl 5 rfl) ?_
          refine callSR (rest := [.ref (a 3)]) C hA (wC_sh a cI cZ) X (kX5_registerAt l D a cI cZ _ x1 x2) (cwS 2 C.2.2.2.2.1 (gS wl_X5_103 wz_yX5_registerAt wi_X5 wk_yX5_registerAt) rfl rfl rfl hdX5_registerAt ⟨Nat.le_of_ble_eq_true rfl, Nat.le_of_ble_eq_true rfl⟩) rfl hl.1 rfl (Nat.le_of_ble_eq_true rfl) dX5_get_78 ⟨Nat.le_refl 0, Nat.le_refl 0⟩ (fun H locs X => ?_)
          refine lv_iload hx hb dX5_get_81 (lv_at hl 0 rfl) ?_
          refine callVR (rest := []) C hA (wC_sh a cI cZ) X (kX1_hold l D a cI cZ _ (fX5_registerAt (fX5_note σ (fX4_inField σ (fX5_inRegister σ x1 x3) x4)) x1 x2) (fX4_inField σ (fX5_inRegister σ x1 x3) x4)) (cwV 2 C.2.2.2.2.1 (gV wl_X5_106 wt_yX1_hold ws_yX1_hold wi_X1 wk_yX1_hold) rfl rfl rfl hdX1_hold ⟨Nat.le_of_ble_eq_true rfl, Nat.le_of_ble_eq_true rfl⟩) (ci := 1) (q0 := 3) rfl rfl rfl hl.1 rfl (Nat.le_of_ble_eq_true rfl) dX5_get_83 ⟨Nat.le_refl 0, Nat.le_refl 0⟩ (fun H locs X => ?_)
          exact ret dX5_get_86 (pe_ (Eq.symm (Eq.trans (if_neg c5) (Eq.trans (if_neg c13) (Eq.trans (if_pos c39) (if_pos c63)))))) X
      · refine lv_iload hx hb dX5_get_42 (lv_at hl 0 rfl) ?_
        exact ret dX5_get_44 (pe_ (Eq.symm (Eq.trans (if_neg c5) (Eq.trans (if_neg c13) (if_neg c39))))) X
    · refine lv_bipush (v := (-2)) hx hb dX5_get_16 (by decide) ?_
      exact ret dX5_get_18 (pe_ (Eq.symm (Eq.trans (if_neg c5) (if_pos c13)))) X
def fX5_put (σ : CSt) (x1 : Int32) (x2 : Int32) (x3 : Int32) (x4 : Int32) : Int32 × CSt := (if (fX5_isRegister σ x1 x2) = (0 : Int32) then ((-2 : Int32), σ) else (if (fX5_isRegister σ x1 x4) = (0 : Int32) then ((-2 : Int32), σ) else (if (fX5_refusalOfField σ (fX5_inRegister σ x1 x2) x3) = (0 : Int32) then (if (c_manner σ) = (1 : Int32) then (if (c_manner (fX5_note σ (fX4_inField σ (fX5_inRegister σ x1 x2) x3))) = (2 : Int32) then ((1 : Int32), (fX4_setField (fX5_note (fX5_note σ (fX4_inField σ (fX5_inRegister σ x1 x2) x3)) (fX5_inRegister σ x1 x4)) (fX5_inRegister σ x1 x2) x3 (fX5_inRegister σ x1 x4))) else ((1 : Int32), (fX4_setField (fX5_note σ (fX4_inField σ (fX5_inRegister σ x1 x2) x3)) (fX5_inRegister σ x1 x2) x3 (fX5_inRegister σ x1 x4)))) else (if (c_manner σ) = (2 : Int32) then ((1 : Int32), (fX4_setField (fX5_note σ (fX5_inRegister σ x1 x4)) (fX5_inRegister σ x1 x2) x3 (fX5_inRegister σ x1 x4))) else ((1 : Int32), (fX4_setField σ (fX5_inRegister σ x1 x2) x3 (fX5_inRegister σ x1 x4))))) else ((fX5_refusalOfField σ (fX5_inRegister σ x1 x2) x3), σ))))
theorem hdX5_put : yX5_put.cls = RX5 ∧ yX5_put.cls ≠ "java/lang/invoke/MethodHandle" ∧ yX5_put.cls ≠ "java/lang/invoke/VarHandle" ∧ (parseMethodDescriptor yX5_put.desc).map (fun d => d.parameters.length) = some 4 := by decide +kernel
set_option maxHeartbeats 250000 in
set_option maxRecDepth 100000 in
theorem kX5_put (l : Launch) (D : va_G) (a : Nat → Nat) (cI cZ : ClassId) (σ : CSt) (x1 : Int32) (x2 : Int32) (x3 : Int32) (x4 : Int32) : CR l D (tyIZ cI cZ) (wC a cI cZ) yX5_put cX5_put 8 .int (rmk 4 88) [.ref (a 0), .int x1, .int x2, .int x3, .int x4] σ (fX5_put σ x1 x2 x3 x4).1 (fX5_put σ x1 x2 x3 x4).2 := by
  refine CR.of pnX5 ⟨rfl, rfl⟩ (Nat.le_of_ble_eq_true rfl) rfl (fun p e s m args below meth c A Q ls C X hA hl ret => ?_)
  have C : Cx p s m args meth c cX5_put 8 RX5 D (tyIZ cI cZ) := C
  have hx := C.1
  have hb := C.2.1
  have hl : lv_has ls 8 [(0, .ref (a 0)), (1, .int x1), (2, .int x2), (3, .int x3), (4, .int x4)] := hl
  refine lv_iload_n hx hb dX5_put_0 rfl (lv_at hl 1 rfl) ?_
  refine lv_iload_n hx hb dX5_put_1 rfl (lv_at hl 2 rfl) ?_
  refine callSR (rest := []) C hA (wC_sh a cI cZ) X (kX5_isRegister l D a cI cZ _ x1 x2) (cwS 2 C.2.2.2.2.1 (gS wl_X5_80 wz_yX5_isRegister wi_X5 wk_yX5_isRegister) rfl rfl rfl hdX5_isRegister ⟨Nat.le_of_ble_eq_true rfl, Nat.le_of_ble_eq_true rfl⟩) rfl hl.1 rfl (Nat.le_of_ble_eq_true rfl) dX5_put_2 ⟨Nat.le_refl 0, Nat.le_refl 0⟩ (fun H locs X => ?_)
  refine lv_if_eq (tgt := 17) hx hb dX5_put_5 (by decide) (fun c5 => ?_) (fun c5 => ?_)
  · refine lv_bipush (v := (-2)) hx hb dX5_put_17 (by decide) ?_
    exact ret dX5_put_19 (pe_ (Eq.symm (if_pos c5))) X
  · refine lv_iload_n hx hb dX5_put_8 rfl (lv_at hl 1 rfl) ?_
    refine lv_iload hx hb dX5_put_9 (lv_at hl 4 rfl) ?_
    refine callSR (rest := []) C hA (wC_sh a cI cZ) X (kX5_isRegister l D a cI cZ _ x1 x4) (cwS 2 C.2.2.2.2.1 (gS wl_X5_80 wz_yX5_isRegister wi_X5 wk_yX5_isRegister) rfl rfl rfl hdX5_isRegister ⟨Nat.le_of_ble_eq_true rfl, Nat.le_of_ble_eq_true rfl⟩) rfl hl.1 rfl (Nat.le_of_ble_eq_true rfl) dX5_put_11 ⟨Nat.le_refl 0, Nat.le_refl 0⟩ (fun H locs X => ?_)
    refine lv_if_ne (tgt := 20) hx hb dX5_put_14 (by decide) (fun c14 => ?_) (fun c14 => ?_)
    · refine lv_aload_n hx hb dX5_put_20 rfl (lv_at hl 0 rfl) ?_
      refine lv_iload_n hx hb dX5_put_21 rfl (lv_at hl 1 rfl) ?_
      refine lv_iload_n hx hb dX5_put_22 rfl (lv_at hl 2 rfl) ?_
      refine callVR (rest := []) C hA (wC_sh a cI cZ) X (kX5_inRegister l D a cI cZ _ x1 x2) (cwV 2 C.2.2.2.2.1 (gV wl_X5_122 wt_yX5_inRegister ws_yX5_inRegister wi_X5 wk_yX5_inRegister) rfl rfl rfl hdX5_inRegister ⟨Nat.le_of_ble_eq_true rfl, Nat.le_of_ble_eq_true rfl⟩) (ci := 5) (q0 := 0) rfl rfl rfl hl.1 rfl (Nat.le_of_ble_eq_true rfl) dX5_put_23 ⟨Nat.le_refl 0, Nat.le_refl 0⟩ (fun H locs X => ?_)
      refine lv_istore (lv' := [(5, .int (fX5_inRegister σ x1 x2)), (0, .ref (a 0)), (1, .int x1), (2, .int x2), (3, .int x3), (4, .int x4)]) hx hb dX5_put_26 hl (by decide) rfl (fun ls hl => ?_)
      refine lv_aload_n hx hb dX5_put_28 rfl (lv_at hl 1 rfl) ?_
      refine lv_iload hx hb dX5_put_29 (lv_at hl 0 rfl) ?_
      refine lv_iload_n hx hb dX5_put_31 rfl (lv_at hl 4 rfl) ?_
      refine callVR (rest := []) C hA (wC_sh a cI cZ) X (kX5_refusalOfField l D a cI cZ _ (fX5_inRegister σ x1 x2) x3) (cwV 2 C.2.2.2.2.1 (gV wl_X5_125 wt_yX5_refusalOfField ws_yX5_refusalOfField wi_X5 wk_yX5_refusalOfField) rfl rfl rfl hdX5_refusalOfField ⟨Nat.le_of_ble_eq_true rfl, Nat.le_of_ble_eq_true rfl⟩) (ci := 5) (q0 := 0) rfl rfl rfl hl.1 rfl (Nat.le_of_ble_eq_true rfl) dX5_put_32 ⟨Nat.le_refl 0, Nat.le_refl 0⟩ (fun H locs X => ?_)
      refine lv_istore (lv' := [(6, .int (fX5_refusalOfField σ (fX5_inRegister σ x1 x2) x3)), (5, .int (fX5_inRegister σ x1 x2)), (0, .ref (a 0)), (1, .int x1), (2, .int x2), (3, .int x3), (4, .int x4)]) hx hb dX5_put_35 hl (by decide) rfl (fun ls hl => ?_)
      refine lv_iload hx hb dX5_put_37 (lv_at hl 0 rfl) ?_
      refine lv_if_eq (tgt := 45) hx hb dX5_put_39 (by decide) (fun c39 => ?_) (fun c39 => ?_)
      · refine lv_aload_n hx hb dX5_put_45 rfl (lv_at hl 2 rfl) ?_
        refine lv_iload_n hx hb dX5_put_46 rfl (lv_at hl 3 rfl) ?_
        refine lv_iload hx hb dX5_put_47 (lv_at hl 6 rfl) ?_
        refine callVR (rest := []) C hA (wC_sh a cI cZ) X (kX5_inRegister l D a cI cZ _ x1 x4) (cwV 2 C.2.2.2.2.1 (gV wl_X5_122 wt_yX5_inRegister ws_yX5_inRegister wi_X5 wk_yX5_inRegister) rfl rfl rfl hdX5_inRegister ⟨Nat.le_of_ble_eq_true rfl, Nat.le_of_ble_eq_true rfl⟩) (ci := 5) (q0 := 0) rfl rfl rfl hl.1 rfl (Nat.le_of_ble_eq_true rfl) dX5_put_49 ⟨Nat.le_refl 0, Nat.le_refl 0⟩ (fun H locs X => ?_)
        refine lv_istore (lv' := [(7, .int (fX5_inRegister σ x1 x4)), (6, .int (fX5_refusalOfField σ (fX5_inRegister σ x1 x2) x3)), (5, .int (fX5_inRegister σ x1 x2)), (0, .ref (a 0)), (1, .int x1), (2, .int x2), (3, .int x3), (4, .int x4)]) hx hb dX5_put_52 hl (by decide) rfl (fun ls hl => ?_)
        refine lv_aload_n hx hb dX5_put_54 rfl (lv_at hl 3 rfl) ?_
        refine cg_X5_X5_manner (v := (c_manner σ)) C X rfl dX5_put_55 ?_
        refine lv_iconst (v := (1)) hx hb dX5_put_58 (by decide) ?_
        refine lv_icmp_ne (tgt := 76) hx hb dX5_put_59 (by decide) (fun c59 => ?_) (fun c59 => ?_)
        · refine lv_aload_n hx hb dX5_put_76 rfl (lv_at hl 3 rfl) ?_
          refine cg_X5_X5_manner (v := (c_manner σ)) C X rfl dX5_put_77 ?_
          refine lv_iconst (v := (2)) hx hb dX5_put_80 (by decide) ?_
          refine lv_icmp_ne (tgt := 90) hx hb dX5_put_81 (by decide) (fun c81 => ?_) (fun c81 => ?_)
          · refine lv_aload_n hx hb dX5_put_90 rfl (lv_at hl 3 rfl) ?_
            refine cg_X5_X5_things C X dX5_put_91 ?_
            refine lv_iload hx hb dX5_put_94 (lv_at hl 2 rfl) ?_
            refine lv_iload_n hx hb dX5_put_96 rfl (lv_at hl 6 rfl) ?_
            refine lv_iload hx hb dX5_put_97 (lv_at hl 0 rfl) ?_
            refine callVU (rest := []) C hA (wC_sh a cI cZ) X (kX4_setField l D a cI cZ _ (fX5_inRegister σ x1 x2) x3 (fX5_inRegister σ x1 x4)) (cwV 3 C.2.2.2.2.1 (gV wl_X5_135 wt_yX4_setField ws_yX4_setField wi_X4 wk_yX4_setField) rfl rfl rfl hdX4_setField ⟨Nat.le_of_ble_eq_true rfl, Nat.le_of_ble_eq_true rfl⟩) (ci := 4) (q0 := 1) rfl rfl rfl hl.1 rfl (Nat.le_of_ble_eq_true rfl) dX5_put_99 ⟨Nat.le_refl 0, Nat.le_refl 0⟩ (fun H locs X => ?_)
            refine lv_iconst (v := (1)) hx hb dX5_put_102 (by decide) ?_
            exact ret dX5_put_103 (pe_ (Eq.symm (Eq.trans (if_neg c5) (Eq.trans (if_neg c14) (Eq.trans (if_pos c39) (Eq.trans (if_neg c59) (if_neg c81))))))) X
          · refine lv_aload_n hx hb dX5_put_84 rfl (lv_at hl 3 rfl) ?_
            refine lv_iload hx hb dX5_put_85 (lv_at hl 0 rfl) ?_
            refine callVU (rest := []) C hA (wC_sh a cI cZ) X (kX5_note l D a cI cZ _ (fX5_inRegister σ x1 x4)) (cwV 1 C.2.2.2.2.1 (gV wl_X5_131 wt_yX5_note ws_yX5_note wi_X5 wk_yX5_note) rfl rfl rfl hdX5_note ⟨Nat.le_of_ble_eq_true rfl, Nat.le_of_ble_eq_true rfl⟩) (ci := 5) (q0 := 0) rfl rfl rfl hl.1 rfl (Nat.le_of_ble_eq_true rfl) dX5_put_87 ⟨Nat.le_refl 0, Nat.le_refl 0⟩ (fun H locs X => ?_)
            refine lv_aload_n hx hb dX5_put_90 rfl (lv_at hl 3 rfl) ?_
            refine cg_X5_X5_things C X dX5_put_91 ?_
            refine lv_iload hx hb dX5_put_94 (lv_at hl 2 rfl) ?_
            refine lv_iload_n hx hb dX5_put_96 rfl (lv_at hl 6 rfl) ?_
            refine lv_iload hx hb dX5_put_97 (lv_at hl 0 rfl) ?_
            refine callVU (rest := []) C hA (wC_sh a cI cZ) X (kX4_setField l D a cI cZ _ (fX5_inRegister σ x1 x2) x3 (fX5_inRegister σ x1 x4)) (cwV 3 C.2.2.2.2.1 (gV wl_X5_135 wt_yX4_setField ws_yX4_setField wi_X4 wk_yX4_setField) rfl rfl rfl hdX4_setField ⟨Nat.le_of_ble_eq_true rfl, Nat.le_of_ble_eq_true rfl⟩) (ci := 4) (q0 := 1) rfl rfl rfl hl.1 rfl (Nat.le_of_ble_eq_true rfl) dX5_put_99 ⟨Nat.le_refl 0, Nat.le_refl 0⟩ (fun H locs X => ?_)
            refine lv_iconst (v := (1)) hx hb dX5_put_102 (by decide) ?_
            exact ret dX5_put_103 (pe_ (Eq.symm (Eq.trans (if_neg c5) (Eq.trans (if_neg c14) (Eq.trans (if_pos c39) (Eq.trans (if_neg c59) (if_pos c81))))))) X
        · refine lv_aload_n hx hb dX5_put_62 rfl (lv_at hl 3 rfl) ?_
          refine lv_aload_n hx hb dX5_put_63 rfl (lv_at hl 3 rfl) ?_
          refine cg_X5_X5_things C X dX5_put_64 ?_
          refine lv_iload hx hb dX5_put_67 (lv_at hl 2 rfl) ?_
          refine lv_iload_n hx hb dX5_put_69 rfl (lv_at hl 6 rfl) ?_
          refine callVR (rest := [.ref (a 0)]) C hA (wC_sh a cI cZ) X (kX4_inField l D a cI cZ _ (fX5_inRegister σ x1 x2) x3) (cwV 2 C.2.2.2.2.1 (gV wl_X5_128 wt_yX4_inField ws_yX4_inField wi_X4 wk_yX4_inField) rfl rfl rfl hdX4_inField ⟨Nat.le_of_ble_eq_true rfl, Nat.le_of_ble_eq_true rfl⟩) (ci := 4) (q0 := 1) rfl rfl rfl hl.1 rfl (Nat.le_of_ble_eq_true rfl) dX5_put_70 ⟨Nat.le_refl 0, Nat.le_refl 0⟩ (fun H locs X => ?_)
          refine callVU (rest := []) C hA (wC_sh a cI cZ) X (kX5_note l D a cI cZ _ (fX4_inField σ (fX5_inRegister σ x1 x2) x3)) (cwV 1 C.2.2.2.2.1 (gV wl_X5_131 wt_yX5_note ws_yX5_note wi_X5 wk_yX5_note) rfl rfl rfl hdX5_note ⟨Nat.le_of_ble_eq_true rfl, Nat.le_of_ble_eq_true rfl⟩) (ci := 5) (q0 := 0) rfl rfl rfl hl.1 rfl (Nat.le_of_ble_eq_true rfl) dX5_put_73 ⟨Nat.le_refl 0, Nat.le_refl 0⟩ (fun H locs X => ?_)
          refine lv_aload_n hx hb dX5_put_76 rfl (lv_at hl 3 rfl) ?_
          refine cg_X5_X5_manner (v := (c_manner (fX5_note σ (fX4_inField σ (fX5_inRegister σ x1 x2) x3)))) C X rfl dX5_put_77 ?_
          refine lv_iconst (v := (2)) hx hb dX5_put_80 (by decide) ?_
          refine lv_icmp_ne (tgt := 90) hx hb dX5_put_81 (by decide) (fun c81 => ?_) (fun c81 => ?_)
          · refine lv_aload_n hx hb dX5_put_90 rfl (lv_at hl 3 rfl) ?_
            refine cg_X5_X5_things C X dX5_put_91 ?_
            refine lv_iload hx hb dX5_put_94 (lv_at hl 2 rfl) ?_
            refine lv_iload_n hx hb dX5_put_96 rfl (lv_at hl 6 rfl) ?_
            refine lv_iload hx hb dX5_put_97 (lv_at hl 0 rfl) ?_
            refine callVU (rest := []) C hA (wC_sh a cI cZ) X (kX4_setField l D a cI cZ _ (fX5_inRegister σ x1 x2) x3 (fX5_inRegister σ x1 x4)) (cwV 3 C.2.2.2.2.1 (gV wl_X5_135 wt_yX4_setField ws_yX4_setField wi_X4 wk_yX4_setField) rfl rfl rfl hdX4_setField ⟨Nat.le_of_ble_eq_true rfl, Nat.le_of_ble_eq_true rfl⟩) (ci := 4) (q0 := 1) rfl rfl rfl hl.1 rfl (Nat.le_of_ble_eq_true rfl) dX5_put_99 ⟨Nat.le_refl 0, Nat.le_refl 0⟩ (fun H locs X => ?_)
            refine lv_iconst (v := (1)) hx hb dX5_put_102 (by decide) ?_
            exact ret dX5_put_103 (pe_ (Eq.symm (Eq.trans (if_neg c5) (Eq.trans (if_neg c14) (Eq.trans (if_pos c39) (Eq.trans (if_pos c59) (if_neg c81))))))) X
          · refine lv_aload_n hx hb dX5_put_84 rfl (lv_at hl 3 rfl) ?_
            refine lv_iload hx hb dX5_put_85 (lv_at hl 0 rfl) ?_
            refine callVU (rest := []) C hA (wC_sh a cI cZ) X (kX5_note l D a cI cZ _ (fX5_inRegister σ x1 x4)) (cwV 1 C.2.2.2.2.1 (gV wl_X5_131 wt_yX5_note ws_yX5_note wi_X5 wk_yX5_note) rfl rfl rfl hdX5_note ⟨Nat.le_of_ble_eq_true rfl, Nat.le_of_ble_eq_true rfl⟩) (ci := 5) (q0 := 0) rfl rfl rfl hl.1 rfl (Nat.le_of_ble_eq_true rfl) dX5_put_87 ⟨Nat.le_refl 0, Nat.le_refl 0⟩ (fun H locs X => ?_)
            refine lv_aload_n hx hb dX5_put_90 rfl (lv_at hl 3 rfl) ?_
            refine cg_X5_X5_things C X dX5_put_91 ?_
            refine lv_iload hx hb dX5_put_94 (lv_at hl 2 rfl) ?_
            refine lv_iload_n hx hb dX5_put_96 rfl (lv_at hl 6 rfl) ?_
            refine lv_iload hx hb dX5_put_97 (lv_at hl 0 rfl) ?_
            refine callVU (rest := []) C hA (wC_sh a cI cZ) X (kX4_setField l D a cI cZ _ (fX5_inRegister σ x1 x2) x3 (fX5_inRegister σ x1 x4)) (cwV 3 C.2.2.2.2.1 (gV wl_X5_135 wt_yX4_setField ws_yX4_setField wi_X4 wk_yX4_setField) rfl rfl rfl hdX4_setField ⟨Nat.le_of_ble_eq_true rfl, Nat.le_of_ble_eq_true rfl⟩) (ci := 4) (q0 := 1) rfl rfl rfl hl.1 rfl (Nat.le_of_ble_eq_true rfl) dX5_put_99 ⟨Nat.le_refl 0, Nat.le_refl 0⟩ (fun H locs X => ?_)
            refine lv_iconst (v := (1)) hx hb dX5_put_102 (by decide) ?_
            exact ret dX5_put_103 (pe_ (Eq.symm (Eq.trans (if_neg c5) (Eq.trans (if_neg c14) (Eq.trans (if_pos c39) (Eq.trans (if_pos c59) (if_pos c81))))))) X
      · refine lv_iload hx hb dX5_put_42 (lv_at hl 0 rfl) ?_
        exact ret dX5_put_44 (pe_ (Eq.symm (Eq.trans (if_neg c5) (Eq.trans (if_neg c14) (if_neg c39))))) X
    · refine lv_bipush (v := (-2)) hx hb dX5_put_17 (by decide) ?_
      exact ret dX5_put_19 (pe_ (Eq.symm (Eq.trans (if_neg c5) (if_pos c14)))) X
def fX5_drop (σ : CSt) (x1 : Int32) (x2 : Int32) : Int32 × CSt := (if (fX5_isRegister σ x1 x2) = (0 : Int32) then ((-2 : Int32), σ) else ((fX5_inRegister σ x1 x2), (fX1_hold σ (fX5_registerAt σ x1 x2) (-1 : Int32)).2))
theorem hdX5_drop : yX5_drop.cls = RX5 ∧ yX5_drop.cls ≠ "java/lang/invoke/MethodHandle" ∧ yX5_drop.cls ≠ "java/lang/invoke/VarHandle" ∧ (parseMethodDescriptor yX5_drop.desc).map (fun d => d.parameters.length) = some 2 := by decide +kernel
set_option maxHeartbeats 250000 in
set_option maxRecDepth 100000 in
theorem kX5_drop (l : Launch) (D : va_G) (a : Nat → Nat) (cI cZ : ClassId) (σ : CSt) (x1 : Int32) (x2 : Int32) : CR l D (tyIZ cI cZ) (wC a cI cZ) yX5_drop cX5_drop 4 .int (rmk 2 43) [.ref (a 0), .int x1, .int x2] σ (fX5_drop σ x1 x2).1 (fX5_drop σ x1 x2).2 := by
  refine CR.of pnX5 ⟨rfl, rfl⟩ (Nat.le_of_ble_eq_true rfl) rfl (fun p e s m args below meth c A Q ls C X hA hl ret => ?_)
  have C : Cx p s m args meth c cX5_drop 4 RX5 D (tyIZ cI cZ) := C
  have hx := C.1
  have hb := C.2.1
  have hl : lv_has ls 4 [(0, .ref (a 0)), (1, .int x1), (2, .int x2)] := hl
  refine lv_iload_n hx hb dX5_drop_0 rfl (lv_at hl 1 rfl) ?_
  refine lv_iload_n hx hb dX5_drop_1 rfl (lv_at hl 2 rfl) ?_
  refine callSR (rest := []) C hA (wC_sh a cI cZ) X (kX5_isRegister l D a cI cZ _ x1 x2) (cwS 2 C.2.2.2.2.1 (gS wl_X5_80 wz_yX5_isRegister wi_X5 wk_yX5_isRegister) rfl rfl rfl hdX5_isRegister ⟨Nat.le_of_ble_eq_true rfl, Nat.le_of_ble_eq_true rfl⟩) rfl hl.1 rfl (Nat.le_of_ble_eq_true rfl) dX5_drop_2 ⟨Nat.le_refl 0, Nat.le_refl 0⟩ (fun H locs X => ?_)
  refine lv_if_ne (tgt := 11) hx hb dX5_drop_5 (by decide) (fun c5 => ?_) (fun c5 => ?_)
  · refine lv_aload_n hx hb dX5_drop_11 rfl (lv_at hl 0 rfl) ?_
    refine lv_iload_n hx hb dX5_drop_12 rfl (lv_at hl 1 rfl) ?_
    refine lv_iload_n hx hb dX5_drop_13 rfl (lv_at hl 2 rfl) ?_
    refine callVR (rest := []) C hA (wC_sh a cI cZ) X (kX5_inRegister l D a cI cZ _ x1 x2) (cwV 2 C.2.2.2.2.1 (gV wl_X5_122 wt_yX5_inRegister ws_yX5_inRegister wi_X5 wk_yX5_inRegister) rfl rfl rfl hdX5_inRegister ⟨Nat.le_of_ble_eq_true rfl, Nat.le_of_ble_eq_true rfl⟩) (ci := 5) (q0 := 0) rfl rfl rfl hl.1 rfl (Nat.le_of_ble_eq_true rfl) dX5_drop_14 ⟨Nat.le_refl 0, Nat.le_refl 0⟩ (fun H locs X => ?_)
    refine lv_istore_n (lv' := [(3, .int (fX5_inRegister σ x1 x2)), (0, .ref (a 0)), (1, .int x1), (2, .int x2)]) hx hb dX5_drop_17 rfl hl (by decide) rfl (fun ls hl => ?_)
    refine lv_aload_n hx hb dX5_drop_18 rfl (lv_at hl 1 rfl) ?_
    refine cg_X5_X5_holders C X dX5_drop_19 ?_
    refine lv_iload_n hx hb dX5_drop_22 rfl (lv_at hl 2 rfl) ?_
    refine lv_iload_n hx hb dX5_drop_23 rfl (lv_at hl 3 rfl) ?_
    refine callSR (rest := [.ref (a 3)]) C hA (wC_sh a cI cZ) X (kX5_registerAt l D a cI cZ _ x1 x2) (cwS 2 C.2.2.2.2.1 (gS wl_X5_103 wz_yX5_registerAt wi_X5 wk_yX5_registerAt) rfl rfl rfl hdX5_registerAt ⟨Nat.le_of_ble_eq_true rfl, Nat.le_of_ble_eq_true rfl⟩) rfl hl.1 rfl (Nat.le_of_ble_eq_true rfl) dX5_drop_24 ⟨Nat.le_refl 0, Nat.le_refl 0⟩ (fun H locs X => ?_)
    refine lv_iconst (v := (-1)) hx hb dX5_drop_27 (by decide) ?_
    refine callVR (rest := []) C hA (wC_sh a cI cZ) X (kX1_hold l D a cI cZ _ (fX5_registerAt σ x1 x2) (-1 : Int32)) (cwV 2 C.2.2.2.2.1 (gV wl_X5_106 wt_yX1_hold ws_yX1_hold wi_X1 wk_yX1_hold) rfl rfl rfl hdX1_hold ⟨Nat.le_of_ble_eq_true rfl, Nat.le_of_ble_eq_true rfl⟩) (ci := 1) (q0 := 3) rfl rfl rfl hl.1 rfl (Nat.le_of_ble_eq_true rfl) dX5_drop_28 ⟨Nat.le_refl 0, Nat.le_refl 0⟩ (fun H locs X => ?_)
    refine lv_pop hx hb dX5_drop_31 rfl ?_
    refine lv_iload_n hx hb dX5_drop_32 rfl (lv_at hl 0 rfl) ?_
    exact ret dX5_drop_33 (pe_ (Eq.symm (if_neg c5))) X
  · refine lv_bipush (v := (-2)) hx hb dX5_drop_8 (by decide) ?_
    exact ret dX5_drop_10 (pe_ (Eq.symm (if_pos c5))) X
def fX5_store (σ : CSt) (x1 : Int32) (x2 : Int32) (x3 : Int32) : Int32 × CSt := (if (fX5_isSlot σ x1) = (0 : Int32) then ((-2 : Int32), σ) else (if (fX5_isRegister σ x2 x3) = (0 : Int32) then ((-2 : Int32), σ) else ((fX1_heldAt σ ((12 : Int32) + x1)), (fX1_hold σ ((12 : Int32) + x1) (fX5_inRegister σ x2 x3)).2)))
theorem hdX5_store : yX5_store.cls = RX5 ∧ yX5_store.cls ≠ "java/lang/invoke/MethodHandle" ∧ yX5_store.cls ≠ "java/lang/invoke/VarHandle" ∧ (parseMethodDescriptor yX5_store.desc).map (fun d => d.parameters.length) = some 3 := by decide +kernel
set_option maxHeartbeats 250000 in
set_option maxRecDepth 100000 in
theorem kX5_store (l : Launch) (D : va_G) (a : Nat → Nat) (cI cZ : ClassId) (σ : CSt) (x1 : Int32) (x2 : Int32) (x3 : Int32) : CR l D (tyIZ cI cZ) (wC a cI cZ) yX5_store cX5_store 5 .int (rmk 2 43) [.ref (a 0), .int x1, .int x2, .int x3] σ (fX5_store σ x1 x2 x3).1 (fX5_store σ x1 x2 x3).2 := by
  refine CR.of pnX5 ⟨rfl, rfl⟩ (Nat.le_of_ble_eq_true rfl) rfl (fun p e s m args below meth c A Q ls C X hA hl ret => ?_)
  have C : Cx p s m args meth c cX5_store 5 RX5 D (tyIZ cI cZ) := C
  have hx := C.1
  have hb := C.2.1
  have hl : lv_has ls 5 [(0, .ref (a 0)), (1, .int x1), (2, .int x2), (3, .int x3)] := hl
  refine lv_iload_n hx hb dX5_store_0 rfl (lv_at hl 1 rfl) ?_
  refine callSR (rest := []) C hA (wC_sh a cI cZ) X (kX5_isSlot l D a cI cZ _ x1) (cwS 1 C.2.2.2.2.1 (gS wl_X5_145 wz_yX5_isSlot wi_X5 wk_yX5_isSlot) rfl rfl rfl hdX5_isSlot ⟨Nat.le_of_ble_eq_true rfl, Nat.le_of_ble_eq_true rfl⟩) rfl hl.1 rfl (Nat.le_of_ble_eq_true rfl) dX5_store_1 ⟨Nat.le_refl 0, Nat.le_refl 0⟩ (fun H locs X => ?_)
  refine lv_if_eq (tgt := 15) hx hb dX5_store_4 (by decide) (fun c4 => ?_) (fun c4 => ?_)
  · refine lv_bipush (v := (-2)) hx hb dX5_store_15 (by decide) ?_
    exact ret dX5_store_17 (pe_ (Eq.symm (if_pos c4))) X
  · refine lv_iload_n hx hb dX5_store_7 rfl (lv_at hl 2 rfl) ?_
    refine lv_iload_n hx hb dX5_store_8 rfl (lv_at hl 3 rfl) ?_
    refine callSR (rest := []) C hA (wC_sh a cI cZ) X (kX5_isRegister l D a cI cZ _ x2 x3) (cwS 2 C.2.2.2.2.1 (gS wl_X5_80 wz_yX5_isRegister wi_X5 wk_yX5_isRegister) rfl rfl rfl hdX5_isRegister ⟨Nat.le_of_ble_eq_true rfl, Nat.le_of_ble_eq_true rfl⟩) rfl hl.1 rfl (Nat.le_of_ble_eq_true rfl) dX5_store_9 ⟨Nat.le_refl 0, Nat.le_refl 0⟩ (fun H locs X => ?_)
    refine lv_if_ne (tgt := 18) hx hb dX5_store_12 (by decide) (fun c12 => ?_) (fun c12 => ?_)
    · refine lv_aload_n hx hb dX5_store_18 rfl (lv_at hl 0 rfl) ?_
      refine cg_X5_X5_holders C X dX5_store_19 ?_
      refine lv_bipush (v := (12)) hx hb dX5_store_22 (by decide) ?_
      refine lv_iload_n hx hb dX5_store_24 rfl (lv_at hl 1 rfl) ?_
      refine lv_iadd hx hb dX5_store_25 ?_
      refine callVR (rest := []) C hA (wC_sh a cI cZ) X (kX1_heldAt l D a cI cZ _ ((12 : Int32) + x1)) (cwV 1 C.2.2.2.2.1 (gV wl_X5_148 wt_yX1_heldAt ws_yX1_heldAt wi_X1 wk_yX1_heldAt) rfl rfl rfl hdX1_heldAt ⟨Nat.le_of_ble_eq_true rfl, Nat.le_of_ble_eq_true rfl⟩) (ci := 1) (q0 := 3) rfl rfl rfl hl.1 rfl (Nat.le_of_ble_eq_true rfl) dX5_store_26 ⟨Nat.le_refl 0, Nat.le_refl 0⟩ (fun H locs X => ?_)
      refine lv_istore (lv' := [(4, .int (fX1_heldAt σ ((12 : Int32) + x1))), (0, .ref (a 0)), (1, .int x1), (2, .int x2), (3, .int x3)]) hx hb dX5_store_29 hl (by decide) rfl (fun ls hl => ?_)
      refine lv_aload_n hx hb dX5_store_31 rfl (lv_at hl 1 rfl) ?_
      refine cg_X5_X5_holders C X dX5_store_32 ?_
      refine lv_bipush (v := (12)) hx hb dX5_store_35 (by decide) ?_
      refine lv_iload_n hx hb dX5_store_37 rfl (lv_at hl 2 rfl) ?_
      refine lv_iadd hx hb dX5_store_38 ?_
      refine lv_aload_n hx hb dX5_store_39 rfl (lv_at hl 1 rfl) ?_
      refine lv_iload_n hx hb dX5_store_40 rfl (lv_at hl 3 rfl) ?_
      refine lv_iload_n hx hb dX5_store_41 rfl (lv_at hl 4 rfl) ?_
      refine callVR (rest := [.int ((12 : Int32) + x1), .ref (a 3)]) C hA (wC_sh a cI cZ) X (kX5_inRegister l D a cI cZ _ x2 x3) (cwV 2 C.2.2.2.2.1 (gV wl_X5_122 wt_yX5_inRegister ws_yX5_inRegister wi_X5 wk_yX5_inRegister) rfl rfl rfl hdX5_inRegister ⟨Nat.le_of_ble_eq_true rfl, Nat.le_of_ble_eq_true rfl⟩) (ci := 5) (q0 := 0) rfl rfl rfl hl.1 rfl (Nat.le_of_ble_eq_true rfl) dX5_store_42 ⟨Nat.le_refl 0, Nat.le_refl 0⟩ (fun H locs X => ?_)
      refine callVR (rest := []) C hA (wC_sh a cI cZ) X (kX1_hold l D a cI cZ _ ((12 : Int32) + x1) (fX5_inRegister σ x2 x3)) (cwV 2 C.2.2.2.2.1 (gV wl_X5_106 wt_yX1_hold ws_yX1_hold wi_X1 wk_yX1_hold) rfl rfl rfl hdX1_hold ⟨Nat.le_of_ble_eq_true rfl, Nat.le_of_ble_eq_true rfl⟩) (ci := 1) (q0 := 3) rfl rfl rfl hl.1 rfl (Nat.le_of_ble_eq_true rfl) dX5_store_45 ⟨Nat.le_refl 0, Nat.le_refl 0⟩ (fun H locs X => ?_)
      refine lv_pop hx hb dX5_store_48 rfl ?_
      refine lv_iload hx hb dX5_store_49 (lv_at hl 0 rfl) ?_
      exact ret dX5_store_51 (pe_ (Eq.symm (Eq.trans (if_neg c4) (if_neg c12)))) X
    · refine lv_bipush (v := (-2)) hx hb dX5_store_15 (by decide) ?_
      exact ret dX5_store_17 (pe_ (Eq.symm (Eq.trans (if_neg c4) (if_pos c12)))) X
def fX5_load (σ : CSt) (x1 : Int32) (x2 : Int32) (x3 : Int32) : Int32 × CSt := (if (fX5_isRegister σ x1 x2) = (0 : Int32) then ((-2 : Int32), σ) else (if (fX5_isSlot σ x3) = (0 : Int32) then ((-2 : Int32), σ) else ((fX1_hold σ (fX5_registerAt σ x1 x2) (fX1_heldAt σ ((12 : Int32) + x3))).1, (fX1_hold σ (fX5_registerAt σ x1 x2) (fX1_heldAt σ ((12 : Int32) + x3))).2)))
theorem hdX5_load : yX5_load.cls = RX5 ∧ yX5_load.cls ≠ "java/lang/invoke/MethodHandle" ∧ yX5_load.cls ≠ "java/lang/invoke/VarHandle" ∧ (parseMethodDescriptor yX5_load.desc).map (fun d => d.parameters.length) = some 3 := by decide +kernel
set_option maxHeartbeats 250000 in
set_option maxRecDepth 100000 in
theorem kX5_load (l : Launch) (D : va_G) (a : Nat → Nat) (cI cZ : ClassId) (σ : CSt) (x1 : Int32) (x2 : Int32) (x3 : Int32) : CR l D (tyIZ cI cZ) (wC a cI cZ) yX5_load cX5_load 4 .int (rmk 1 22) [.ref (a 0), .int x1, .int x2, .int x3] σ (fX5_load σ x1 x2 x3).1 (fX5_load σ x1 x2 x3).2 := by
  refine CR.of pnX5 ⟨rfl, rfl⟩ (Nat.le_of_ble_eq_true rfl) rfl (fun p e s m args below meth c A Q ls C X hA hl ret => ?_)
  have C : Cx p s m args meth c cX5_load 4 RX5 D (tyIZ cI cZ) := C
  have hx := C.1
  have hb := C.2.1
  have hl : lv_has ls 4 [(0, .ref (a 0)), (1, .int x1), (2, .int x2), (3, .int x3)] := hl
  refine lv_iload_n hx hb dX5_load_0 rfl (lv_at hl 1 rfl) ?_
  refine lv_iload_n hx hb dX5_load_1 rfl (lv_at hl 2 rfl) ?_
  refine callSR (rest := []) C hA (wC_sh a cI cZ) X (kX5_isRegister l D a cI cZ _ x1 x2) (cwS 2 C.2.2.2.2.1 (gS wl_X5_80 wz_yX5_isRegister wi_X5 wk_yX5_isRegister) rfl rfl rfl hdX5_isRegister ⟨Nat.le_of_ble_eq_true rfl, Nat.le_of_ble_eq_true rfl⟩) rfl hl.1 rfl (Nat.le_of_ble_eq_true rfl) dX5_load_2 ⟨Nat.le_refl 0, Nat.le_refl 0⟩ (fun H locs X => ?_)
  refine lv_if_eq (tgt := 15) hx hb dX5_load_5 (by decide) (fun c5 => ?_) (fun c5 => ?_)
  · refine lv_bipush (v := (-2)) hx hb dX5_load_15 (by decide) ?_
    exact ret dX5_load_17 (pe_ (Eq.symm (if_pos c5))) X
  · refine lv_iload_n hx hb dX5_load_8 rfl (lv_at hl 3 rfl) ?_
    refine callSR (rest := []) C hA (wC_sh a cI cZ) X (kX5_isSlot l D a cI cZ _ x3) (cwS 1 C.2.2.2.2.1 (gS wl_X5_145 wz_yX5_isSlot wi_X5 wk_yX5_isSlot) rfl rfl rfl hdX5_isSlot ⟨Nat.le_of_ble_eq_true rfl, Nat.le_of_ble_eq_true rfl⟩) rfl hl.1 rfl (Nat.le_of_ble_eq_true rfl) dX5_load_9 ⟨Nat.le_refl 0, Nat.le_refl 0⟩ (fun H locs X => ?_)
    refine lv_if_ne (tgt := 18) hx hb dX5_load_12 (by decide) (fun c12 => ?_) (fun c12 => ?_)
    · refine lv_aload_n hx hb dX5_load_18 rfl (lv_at hl 0 rfl) ?_
      refine cg_X5_X5_holders C X dX5_load_19 ?_
      refine lv_iload_n hx hb dX5_load_22 rfl (lv_at hl 1 rfl) ?_
      refine lv_iload_n hx hb dX5_load_23 rfl (lv_at hl 2 rfl) ?_
      refine callSR (rest := [.ref (a 3)]) C hA (wC_sh a cI cZ) X (kX5_registerAt l D a cI cZ _ x1 x2) (cwS 2 C.2.2.2.2.1 (gS wl_X5_103 wz_yX5_registerAt wi_X5 wk_yX5_registerAt) rfl rfl rfl hdX5_registerAt ⟨Nat.le_of_ble_eq_true rfl, Nat.le_of_ble_eq_true rfl⟩) rfl hl.1 rfl (Nat.le_of_ble_eq_true rfl) dX5_load_24 ⟨Nat.le_refl 0, Nat.le_refl 0⟩ (fun H locs X => ?_)
      refine lv_aload_n hx hb dX5_load_27 rfl (lv_at hl 0 rfl) ?_
      refine cg_X5_X5_holders C X dX5_load_28 ?_
      refine lv_bipush (v := (12)) hx hb dX5_load_31 (by decide) ?_
      refine lv_iload_n hx hb dX5_load_33 rfl (lv_at hl 3 rfl) ?_
      refine lv_iadd hx hb dX5_load_34 ?_
      refine callVR (rest := [.int (fX5_registerAt σ x1 x2), .ref (a 3)]) C hA (wC_sh a cI cZ) X (kX1_heldAt l D a cI cZ _ ((12 : Int32) + x3)) (cwV 1 C.2.2.2.2.1 (gV wl_X5_148 wt_yX1_heldAt ws_yX1_heldAt wi_X1 wk_yX1_heldAt) rfl rfl rfl hdX1_heldAt ⟨Nat.le_of_ble_eq_true rfl, Nat.le_of_ble_eq_true rfl⟩) (ci := 1) (q0 := 3) rfl rfl rfl hl.1 rfl (Nat.le_of_ble_eq_true rfl) dX5_load_35 ⟨Nat.le_refl 0, Nat.le_refl 0⟩ (fun H locs X => ?_)
      refine callVR (rest := []) C hA (wC_sh a cI cZ) X (kX1_hold l D a cI cZ _ (fX5_registerAt σ x1 x2) (fX1_heldAt σ ((12 : Int32) + x3))) (cwV 2 C.2.2.2.2.1 (gV wl_X5_106 wt_yX1_hold ws_yX1_hold wi_X1 wk_yX1_hold) rfl rfl rfl hdX1_hold ⟨Nat.le_of_ble_eq_true rfl, Nat.le_of_ble_eq_true rfl⟩) (ci := 1) (q0 := 3) rfl rfl rfl hl.1 rfl (Nat.le_of_ble_eq_true rfl) dX5_load_38 ⟨Nat.le_refl 0, Nat.le_refl 0⟩ (fun H locs X => ?_)
      exact ret dX5_load_41 (pe_ (Eq.symm (Eq.trans (if_neg c5) (if_neg c12)))) X
    · refine lv_bipush (v := (-2)) hx hb dX5_load_15 (by decide) ?_
      exact ret dX5_load_17 (pe_ (Eq.symm (Eq.trans (if_neg c5) (if_pos c12)))) X
def fX5_same (σ : CSt) (x1 : Int32) (x2 : Int32) (x3 : Int32) (x4 : Int32) : Int32 := (if (fX5_isRegister σ x1 x2) = (0 : Int32) then (-2 : Int32) else (if (fX5_isRegister σ x3 x4) = (0 : Int32) then (-2 : Int32) else (if (fX5_inRegister σ x1 x2) = (fX5_inRegister σ x3 x4) then (1 : Int32) else (0 : Int32))))
theorem hdX5_same : yX5_same.cls = RX5 ∧ yX5_same.cls ≠ "java/lang/invoke/MethodHandle" ∧ yX5_same.cls ≠ "java/lang/invoke/VarHandle" ∧ (parseMethodDescriptor yX5_same.desc).map (fun d => d.parameters.length) = some 4 := by decide +kernel
set_option maxHeartbeats 250000 in
set_option maxRecDepth 100000 in
theorem kX5_same (l : Launch) (D : va_G) (a : Nat → Nat) (cI cZ : ClassId) (σ : CSt) (x1 : Int32) (x2 : Int32) (x3 : Int32) (x4 : Int32) : CR l D (tyIZ cI cZ) (wC a cI cZ) yX5_same cX5_same 5 .int (rmk 2 43) [.ref (a 0), .int x1, .int x2, .int x3, .int x4] σ (fX5_same σ x1 x2 x3 x4) σ := by
  refine CR.of pnX5 ⟨rfl, rfl⟩ (Nat.le_of_ble_eq_true rfl) rfl (fun p e s m args below meth c A Q ls C X hA hl ret => ?_)
  have C : Cx p s m args meth c cX5_same 5 RX5 D (tyIZ cI cZ) := C
  have hx := C.1
  have hb := C.2.1
  have hl : lv_has ls 5 [(0, .ref (a 0)), (1, .int x1), (2, .int x2), (3, .int x3), (4, .int x4)] := hl
  refine lv_iload_n hx hb dX5_same_0 rfl (lv_at hl 1 rfl) ?_
  refine lv_iload_n hx hb dX5_same_1 rfl (lv_at hl 2 rfl) ?_
  refine callSR (rest := []) C hA (wC_sh a cI cZ) X (kX5_isRegister l D a cI cZ _ x1 x2) (cwS 2 C.2.2.2.2.1 (gS wl_X5_80 wz_yX5_isRegister wi_X5 wk_yX5_isRegister) rfl rfl rfl hdX5_isRegister ⟨Nat.le_of_ble_eq_true rfl, Nat.le_of_ble_eq_true rfl⟩) rfl hl.1 rfl (Nat.le_of_ble_eq_true rfl) dX5_same_2 ⟨Nat.le_refl 0, Nat.le_refl 0⟩ (fun H locs X => ?_)
  refine lv_if_eq (tgt := 17) hx hb dX5_same_5 (by decide) (fun c5 => ?_) (fun c5 => ?_)
  · refine lv_bipush (v := (-2)) hx hb dX5_same_17 (by decide) ?_
    exact ret dX5_same_19 (congrArg (fun z => (z, _)) (Eq.symm (if_pos c5))) X
  · refine lv_iload_n hx hb dX5_same_8 rfl (lv_at hl 3 rfl) ?_
    refine lv_iload hx hb dX5_same_9 (lv_at hl 4 rfl) ?_
    refine callSR (rest := []) C hA (wC_sh a cI cZ) X (kX5_isRegister l D a cI cZ _ x3 x4) (cwS 2 C.2.2.2.2.1 (gS wl_X5_80 wz_yX5_isRegister wi_X5 wk_yX5_isRegister) rfl rfl rfl hdX5_isRegister ⟨Nat.le_of_ble_eq_true rfl, Nat.le_of_ble_eq_true rfl⟩) rfl hl.1 rfl (Nat.le_of_ble_eq_true rfl) dX5_same_11 ⟨Nat.le_refl 0, Nat.le_refl 0⟩ (fun H locs X => ?_)
    refine lv_if_ne (tgt := 20) hx hb dX5_same_14 (by decide) (fun c14 => ?_) (fun c14 => ?_)
    · refine lv_aload_n hx hb dX5_same_20 rfl (lv_at hl 0 rfl) ?_
      refine lv_iload_n hx hb dX5_same_21 rfl (lv_at hl 1 rfl) ?_
      refine lv_iload_n hx hb dX5_same_22 rfl (lv_at hl 2 rfl) ?_
      refine callVR (rest := []) C hA (wC_sh a cI cZ) X (kX5_inRegister l D a cI cZ _ x1 x2) (cwV 2 C.2.2.2.2.1 (gV wl_X5_122 wt_yX5_inRegister ws_yX5_inRegister wi_X5 wk_yX5_inRegister) rfl rfl rfl hdX5_inRegister ⟨Nat.le_of_ble_eq_true rfl, Nat.le_of_ble_eq_true rfl⟩) (ci := 5) (q0 := 0) rfl rfl rfl hl.1 rfl (Nat.le_of_ble_eq_true rfl) dX5_same_23 ⟨Nat.le_refl 0, Nat.le_refl 0⟩ (fun H locs X => ?_)
      refine lv_aload_n hx hb dX5_same_26 rfl (lv_at hl 0 rfl) ?_
      refine lv_iload_n hx hb dX5_same_27 rfl (lv_at hl 3 rfl) ?_
      refine lv_iload hx hb dX5_same_28 (lv_at hl 4 rfl) ?_
      refine callVR (rest := [.int (fX5_inRegister σ x1 x2)]) C hA (wC_sh a cI cZ) X (kX5_inRegister l D a cI cZ _ x3 x4) (cwV 2 C.2.2.2.2.1 (gV wl_X5_122 wt_yX5_inRegister ws_yX5_inRegister wi_X5 wk_yX5_inRegister) rfl rfl rfl hdX5_inRegister ⟨Nat.le_of_ble_eq_true rfl, Nat.le_of_ble_eq_true rfl⟩) (ci := 5) (q0 := 0) rfl rfl rfl hl.1 rfl (Nat.le_of_ble_eq_true rfl) dX5_same_30 ⟨Nat.le_refl 0, Nat.le_refl 0⟩ (fun H locs X => ?_)
      refine lv_icmp_ne (tgt := 40) hx hb dX5_same_33 (by decide) (fun c33 => ?_) (fun c33 => ?_)
      · refine lv_iconst (v := (0)) hx hb dX5_same_40 (by decide) ?_
        exact ret dX5_same_41 (congrArg (fun z => (z, _)) (Eq.symm (Eq.trans (if_neg c5) (Eq.trans (if_neg c14) (if_neg c33))))) X
      · refine lv_iconst (v := (1)) hx hb dX5_same_36 (by decide) ?_
        refine lv_goto (tgt := 41) hx hb dX5_same_37 (by decide) ?_
        exact ret dX5_same_41 (congrArg (fun z => (z, _)) (Eq.symm (Eq.trans (if_neg c5) (Eq.trans (if_neg c14) (if_pos c33))))) X
    · refine lv_bipush (v := (-2)) hx hb dX5_same_17 (by decide) ?_
      exact ret dX5_same_19 (congrArg (fun z => (z, _)) (Eq.symm (Eq.trans (if_neg c5) (if_pos c14)))) X
def fX5_weak (σ : CSt) (x1 : Int32) (x2 : Int32) (x3 : Int32) : Int32 × CSt := (if (fX5_isWeakHolder σ x1) = (0 : Int32) then ((-2 : Int32), σ) else (if (fX5_isRegister σ x2 x3) = (0 : Int32) then ((-2 : Int32), σ) else (if (fX5_inRegister σ x2 x3) = (-1 : Int32) then ((-3 : Int32), σ) else ((1 : Int32), (fX1_name σ x1 (fX5_inRegister σ x2 x3))))))
theorem hdX5_weak : yX5_weak.cls = RX5 ∧ yX5_weak.cls ≠ "java/lang/invoke/MethodHandle" ∧ yX5_weak.cls ≠ "java/lang/invoke/VarHandle" ∧ (parseMethodDescriptor yX5_weak.desc).map (fun d => d.parameters.length) = some 3 := by decide +kernel
set_option maxHeartbeats 250000 in
set_option maxRecDepth 100000 in
theorem kX5_weak (l : Launch) (D : va_G) (a : Nat → Nat) (cI cZ : ClassId) (σ : CSt) (x1 : Int32) (x2 : Int32) (x3 : Int32) : CR l D (tyIZ cI cZ) (wC a cI cZ) yX5_weak cX5_weak 5 .int (rmk 2 43) [.ref (a 0), .int x1, .int x2, .int x3] σ (fX5_weak σ x1 x2 x3).1 (fX5_weak σ x1 x2 x3).2 := by
  refine CR.of pnX5 ⟨rfl, rfl⟩ (Nat.le_of_ble_eq_true rfl) rfl (fun p e s m args below meth c A Q ls C X hA hl ret => ?_)
  have C : Cx p s m args meth c cX5_weak 5 RX5 D (tyIZ cI cZ) := C
  have hx := C.1
  have hb := C.2.1
  have hl : lv_has ls 5 [(0, .ref (a 0)), (1, .int x1), (2, .int x2), (3, .int x3)] := hl
  refine lv_iload_n hx hb dX5_weak_0 rfl (lv_at hl 1 rfl) ?_
  refine callSR (rest := []) C hA (wC_sh a cI cZ) X (kX5_isWeakHolder l D a cI cZ _ x1) (cwS 1 C.2.2.2.2.1 (gS wl_X5_151 wz_yX5_isWeakHolder wi_X5 wk_yX5_isWeakHolder) rfl rfl rfl hdX5_isWeakHolder ⟨Nat.le_of_ble_eq_true rfl, Nat.le_of_ble_eq_true rfl⟩) rfl hl.1 rfl (Nat.le_of_ble_eq_true rfl) dX5_weak_1 ⟨Nat.le_refl 0, Nat.le_refl 0⟩ (fun H locs X => ?_)
  refine lv_if_eq (tgt := 15) hx hb dX5_weak_4 (by decide) (fun c4 => ?_) (fun c4 => ?_)
  · refine lv_bipush (v := (-2)) hx hb dX5_weak_15 (by decide) ?_
    exact ret dX5_weak_17 (pe_ (Eq.symm (if_pos c4))) X
  · refine lv_iload_n hx hb dX5_weak_7 rfl (lv_at hl 2 rfl) ?_
    refine lv_iload_n hx hb dX5_weak_8 rfl (lv_at hl 3 rfl) ?_
    refine callSR (rest := []) C hA (wC_sh a cI cZ) X (kX5_isRegister l D a cI cZ _ x2 x3) (cwS 2 C.2.2.2.2.1 (gS wl_X5_80 wz_yX5_isRegister wi_X5 wk_yX5_isRegister) rfl rfl rfl hdX5_isRegister ⟨Nat.le_of_ble_eq_true rfl, Nat.le_of_ble_eq_true rfl⟩) rfl hl.1 rfl (Nat.le_of_ble_eq_true rfl) dX5_weak_9 ⟨Nat.le_refl 0, Nat.le_refl 0⟩ (fun H locs X => ?_)
    refine lv_if_ne (tgt := 18) hx hb dX5_weak_12 (by decide) (fun c12 => ?_) (fun c12 => ?_)
    · refine lv_aload_n hx hb dX5_weak_18 rfl (lv_at hl 0 rfl) ?_
      refine lv_iload_n hx hb dX5_weak_19 rfl (lv_at hl 2 rfl) ?_
      refine lv_iload_n hx hb dX5_weak_20 rfl (lv_at hl 3 rfl) ?_
      refine callVR (rest := []) C hA (wC_sh a cI cZ) X (kX5_inRegister l D a cI cZ _ x2 x3) (cwV 2 C.2.2.2.2.1 (gV wl_X5_122 wt_yX5_inRegister ws_yX5_inRegister wi_X5 wk_yX5_inRegister) rfl rfl rfl hdX5_inRegister ⟨Nat.le_of_ble_eq_true rfl, Nat.le_of_ble_eq_true rfl⟩) (ci := 5) (q0 := 0) rfl rfl rfl hl.1 rfl (Nat.le_of_ble_eq_true rfl) dX5_weak_21 ⟨Nat.le_refl 0, Nat.le_refl 0⟩ (fun H locs X => ?_)
      refine lv_istore (lv' := [(4, .int (fX5_inRegister σ x2 x3)), (0, .ref (a 0)), (1, .int x1), (2, .int x2), (3, .int x3)]) hx hb dX5_weak_24 hl (by decide) rfl (fun ls hl => ?_)
      refine lv_iload hx hb dX5_weak_26 (lv_at hl 0 rfl) ?_
      refine lv_iconst (v := (-1)) hx hb dX5_weak_28 (by decide) ?_
      refine lv_icmp_ne (tgt := 35) hx hb dX5_weak_29 (by decide) (fun c29 => ?_) (fun c29 => ?_)
      · refine lv_aload_n hx hb dX5_weak_35 rfl (lv_at hl 1 rfl) ?_
        refine cg_X5_X5_holders C X dX5_weak_36 ?_
        refine lv_iload_n hx hb dX5_weak_39 rfl (lv_at hl 2 rfl) ?_
        refine lv_iload hx hb dX5_weak_40 (lv_at hl 0 rfl) ?_
        refine callVU (rest := []) C hA (wC_sh a cI cZ) X (kX1_name l D a cI cZ _ x1 (fX5_inRegister σ x2 x3)) (cwV 2 C.2.2.2.2.1 (gV wl_X5_154 wt_yX1_name ws_yX1_name wi_X1 wk_yX1_name) rfl rfl rfl hdX1_name ⟨Nat.le_of_ble_eq_true rfl, Nat.le_of_ble_eq_true rfl⟩) (ci := 1) (q0 := 3) rfl rfl rfl hl.1 rfl (Nat.le_of_ble_eq_true rfl) dX5_weak_42 ⟨Nat.le_refl 0, Nat.le_refl 0⟩ (fun H locs X => ?_)
        refine lv_iconst (v := (1)) hx hb dX5_weak_45 (by decide) ?_
        exact ret dX5_weak_46 (pe_ (Eq.symm (Eq.trans (if_neg c4) (Eq.trans (if_neg c12) (if_neg c29))))) X
      · refine lv_bipush (v := (-3)) hx hb dX5_weak_32 (by decide) ?_
        exact ret dX5_weak_34 (pe_ (Eq.symm (Eq.trans (if_neg c4) (Eq.trans (if_neg c12) (if_pos c29))))) X
    · refine lv_bipush (v := (-2)) hx hb dX5_weak_15 (by decide) ?_
      exact ret dX5_weak_17 (pe_ (Eq.symm (Eq.trans (if_neg c4) (if_pos c12)))) X
def fX5_strong (σ : CSt) (x1 : Int32) (x2 : Int32) (x3 : Int32) : Int32 × CSt := (if (fX5_isRegister σ x1 x2) = (0 : Int32) then ((-2 : Int32), σ) else (if (fX5_isWeakHolder σ x3) = (0 : Int32) then ((-2 : Int32), σ) else ((fX1_hold (fX5_noteWeakRead σ (fX1_namedBy σ x3)) (fX5_registerAt (fX5_noteWeakRead σ (fX1_namedBy σ x3)) x1 x2) (fX1_namedBy σ x3)).1, (fX1_hold (fX5_noteWeakRead σ (fX1_namedBy σ x3)) (fX5_registerAt (fX5_noteWeakRead σ (fX1_namedBy σ x3)) x1 x2) (fX1_namedBy σ x3)).2)))
theorem hdX5_strong : yX5_strong.cls = RX5 ∧ yX5_strong.cls ≠ "java/lang/invoke/MethodHandle" ∧ yX5_strong.cls ≠ "java/lang/invoke/VarHandle" ∧ (parseMethodDescriptor yX5_strong.desc).map (fun d => d.parameters.length) = some 3 := by decide +kernel
set_option maxHeartbeats 250000 in
set_option maxRecDepth 100000 in
theorem kX5_strong (l : Launch) (D : va_G) (a : Nat → Nat) (cI cZ : ClassId) (σ : CSt) (x1 : Int32) (x2 : Int32) (x3 : Int32) : CR l D (tyIZ cI cZ) (wC a cI cZ) yX5_strong cX5_strong 5 .int (rmk 5 109) [.ref (a 0), .int x1, .int x2, .int x3] σ (fX5_strong σ x1 x2 x3).1 (fX5_strong σ x1 x2 x3).2 := by
  refine CR.of pnX5 ⟨rfl, rfl⟩ (Nat.le_of_ble_eq_true rfl) rfl (fun p e s m args below meth c A Q ls C X hA hl ret => ?_)
  have C : Cx p s m args meth c cX5_strong 5 RX5 D (tyIZ cI cZ) := C
  have hx := C.1
  have hb := C.2.1
  have hl : lv_has ls 5 [(0, .ref (a 0)), (1, .int x1), (2, .int x2), (3, .int x3)] := hl
  refine lv_iload_n hx hb dX5_strong_0 rfl (lv_at hl 1 rfl) ?_
  refine lv_iload_n hx hb dX5_strong_1 rfl (lv_at hl 2 rfl) ?_
  refine callSR (rest := []) C hA (wC_sh a cI cZ) X (kX5_isRegister l D a cI cZ _ x1 x2) (cwS 2 C.2.2.2.2.1 (gS wl_X5_80 wz_yX5_isRegister wi_X5 wk_yX5_isRegister) rfl rfl rfl hdX5_isRegister ⟨Nat.le_of_ble_eq_true rfl, Nat.le_of_ble_eq_true rfl⟩) rfl hl.1 rfl (Nat.le_of_ble_eq_true rfl) dX5_strong_2 ⟨Nat.le_refl 0, Nat.le_refl 0⟩ (fun H locs X => ?_)
  refine lv_if_eq (tgt := 15) hx hb dX5_strong_5 (by decide) (fun c5 => ?_) (fun c5 => ?_)
  · refine lv_bipush (v := (-2)) hx hb dX5_strong_15 (by decide) ?_
    exact ret dX5_strong_17 (pe_ (Eq.symm (if_pos c5))) X
  · refine lv_iload_n hx hb dX5_strong_8 rfl (lv_at hl 3 rfl) ?_
    refine callSR (rest := []) C hA (wC_sh a cI cZ) X (kX5_isWeakHolder l D a cI cZ _ x3) (cwS 1 C.2.2.2.2.1 (gS wl_X5_151 wz_yX5_isWeakHolder wi_X5 wk_yX5_isWeakHolder) rfl rfl rfl hdX5_isWeakHolder ⟨Nat.le_of_ble_eq_true rfl, Nat.le_of_ble_eq_true rfl⟩) rfl hl.1 rfl (Nat.le_of_ble_eq_true rfl) dX5_strong_9 ⟨Nat.le_refl 0, Nat.le_refl 0⟩ (fun H locs X => ?_)
    refine lv_if_ne (tgt := 18) hx hb dX5_strong_12 (by decide) (fun c12 => ?_) (fun c12 => ?_)
    · refine lv_aload_n hx hb dX5_strong_18 rfl (lv_at hl 0 rfl) ?_
      refine cg_X5_X5_holders C X dX5_strong_19 ?_
      refine lv_iload_n hx hb dX5_strong_22 rfl (lv_at hl 3 rfl) ?_
      refine callVR (rest := []) C hA (wC_sh a cI cZ) X (kX1_namedBy l D a cI cZ _ x3) (cwV 1 C.2.2.2.2.1 (gV wl_X5_157 wt_yX1_namedBy ws_yX1_namedBy wi_X1 wk_yX1_namedBy) rfl rfl rfl hdX1_namedBy ⟨Nat.le_of_ble_eq_true rfl, Nat.le_of_ble_eq_true rfl⟩) (ci := 1) (q0 := 3) rfl rfl rfl hl.1 rfl (Nat.le_of_ble_eq_true rfl) dX5_strong_23 ⟨Nat.le_refl 0, Nat.le_refl 0⟩ (fun H locs X => ?_)
      refine lv_istore (lv' := [(4, .int (fX1_namedBy σ x3)), (0, .ref (a 0)), (1, .int x1), (2, .int x2), (3, .int x3)]) hx hb dX5_strong_26 hl (by decide) rfl (fun ls hl => ?_)
      refine lv_aload_n hx hb dX5_strong_28 rfl (lv_at hl 1 rfl) ?_
      refine lv_iload hx hb dX5_strong_29 (lv_at hl 0 rfl) ?_
      refine callVU (rest := []) C hA (wC_sh a cI cZ) X (kX5_noteWeakRead l D a cI cZ _ (fX1_namedBy σ x3)) (cwV 1 C.2.2.2.2.1 (gV wl_X5_160 wt_yX5_noteWeakRead ws_yX5_noteWeakRead wi_X5 wk_yX5_noteWeakRead) rfl rfl rfl hdX5_noteWeakRead ⟨Nat.le_of_ble_eq_true rfl, Nat.le_of_ble_eq_true rfl⟩) (ci := 5) (q0 := 0) rfl rfl rfl hl.1 rfl (Nat.le_of_ble_eq_true rfl) dX5_strong_31 ⟨Nat.le_refl 0, Nat.le_refl 0⟩ (fun H locs X => ?_)
      refine lv_aload_n hx hb dX5_strong_34 rfl (lv_at hl 1 rfl) ?_
      refine cg_X5_X5_holders C X dX5_strong_35 ?_
      refine lv_iload_n hx hb dX5_strong_38 rfl (lv_at hl 2 rfl) ?_
      refine lv_iload_n hx hb dX5_strong_39 rfl (lv_at hl 3 rfl) ?_
      refine callSR (rest := [.ref (a 3)]) C hA (wC_sh a cI cZ) X (kX5_registerAt l D a cI cZ _ x1 x2) (cwS 2 C.2.2.2.2.1 (gS wl_X5_103 wz_yX5_registerAt wi_X5 wk_yX5_registerAt) rfl rfl rfl hdX5_registerAt ⟨Nat.le_of_ble_eq_true rfl, Nat.le_of_ble_eq_true rfl⟩) rfl hl.1 rfl (Nat.le_of_ble_eq_true rfl) dX5_strong_40 ⟨Nat.le_refl 0, Nat.le_refl 0⟩ (fun H locs X => ?_)
      refine lv_iload hx hb dX5_strong_43 (lv_at hl 0 rfl) ?_
      refine callVR (rest := []) C hA (wC_sh a cI cZ) X (kX1_hold l D a cI cZ _ (fX5_registerAt (fX5_noteWeakRead σ (fX1_namedBy σ x3)) x1 x2) (fX1_namedBy σ x3)) (cwV 2 C.2.2.2.2.1 (gV wl_X5_106 wt_yX1_hold ws_yX1_hold wi_X1 wk_yX1_hold) rfl rfl rfl hdX1_hold ⟨Nat.le_of_ble_eq_true rfl, Nat.le_of_ble_eq_true rfl⟩) (ci := 1) (q0 := 3) rfl rfl rfl hl.1 rfl (Nat.le_of_ble_eq_true rfl) dX5_strong_45 ⟨Nat.le_refl 0, Nat.le_refl 0⟩ (fun H locs X => ?_)
      exact ret dX5_strong_48 (pe_ (Eq.symm (Eq.trans (if_neg c5) (if_neg c12)))) X
    · refine lv_bipush (v := (-2)) hx hb dX5_strong_15 (by decide) ?_
      exact ret dX5_strong_17 (pe_ (Eq.symm (Eq.trans (if_neg c5) (if_pos c12)))) X
def fX5_pair (σ : CSt) (x1 : Int32) (x2 : Int32) (x3 : Int32) : Int32 × CSt := (if (fX5_isRegister σ x1 x2) = (0 : Int32) then ((-2 : Int32), σ) else (if (fX5_isRegister σ x1 x3) = (0 : Int32) then ((-2 : Int32), σ) else (if (fX5_inRegister σ x1 x2) = (-1 : Int32) then ((-3 : Int32), σ) else (if (fX5_inRegister σ x1 x3) = (-1 : Int32) then ((-3 : Int32), σ) else (if (c_pmade σ) < (8 : Int32) then ((fX2_add σ (fX5_inRegister σ x1 x2) (fX5_inRegister σ x1 x3)).1, (fX2_add σ (fX5_inRegister σ x1 x2) (fX5_inRegister σ x1 x3)).2) else ((-4 : Int32), σ))))))
theorem hdX5_pair : yX5_pair.cls = RX5 ∧ yX5_pair.cls ≠ "java/lang/invoke/MethodHandle" ∧ yX5_pair.cls ≠ "java/lang/invoke/VarHandle" ∧ (parseMethodDescriptor yX5_pair.desc).map (fun d => d.parameters.length) = some 3 := by decide +kernel
set_option maxHeartbeats 250000 in
set_option maxRecDepth 100000 in
theorem kX5_pair (l : Launch) (D : va_G) (a : Nat → Nat) (cI cZ : ClassId) (σ : CSt) (x1 : Int32) (x2 : Int32) (x3 : Int32) : CR l D (tyIZ cI cZ) (wC a cI cZ) yX5_pair cX5_pair 6 .int (rmk 2 43) [.ref (a 0), .int x1, .int x2, .int x3] σ (fX5_pair σ x1 x2 x3).1 (fX5_pair σ x1 x2 x3).2 := by
  refine CR.of pnX5 ⟨rfl, rfl⟩ (Nat.le_of_ble_eq_true rfl) rfl (fun p e s m args below meth c A Q ls C X hA hl ret => ?_)
  have C : Cx p s m args meth c cX5_pair 6 RX5 D (tyIZ cI cZ) := C
  have hx := C.1
  have hb := C.2.1
  have hl : lv_has ls 6 [(0, .ref (a 0)), (1, .int x1), (2, .int x2), (3, .int x3)] := hl
  refine lv_iload_n hx hb dX5_pair_0 rfl (lv_at hl 1 rfl) ?_
  refine lv_iload_n hx hb dX5_pair_1 rfl (lv_at hl 2 rfl) ?_
  refine callSR (rest := []) C hA (wC_sh a cI cZ) X (kX5_isRegister l D a cI cZ _ x1 x2) (cwS 2 C.2.2.2.2.1 (gS wl_X5_80 wz_yX5_isRegister wi_X5 wk_yX5_isRegister) rfl rfl rfl hdX5_isRegister ⟨Nat.le_of_ble_eq_true rfl, Nat.le_of_ble_eq_true rfl⟩) rfl hl.1 rfl (Nat.le_of_ble_eq_true rfl) dX5_pair_2 ⟨Nat.le_refl 0, Nat.le_refl 0⟩ (fun H locs X => ?_)
  refine lv_if_eq (tgt := 16) hx hb dX5_pair_5 (by decide) (fun c5 => ?_) (fun c5 => ?_)
  · refine lv_bipush (v := (-2)) hx hb dX5_pair_16 (by decide) ?_
    exact ret dX5_pair_18 (pe_ (Eq.symm (if_pos c5))) X
  · refine lv_iload_n hx hb dX5_pair_8 rfl (lv_at hl 1 rfl) ?_
    refine lv_iload_n hx hb dX5_pair_9 rfl (lv_at hl 3 rfl) ?_
    refine callSR (rest := []) C hA (wC_sh a cI cZ) X (kX5_isRegister l D a cI cZ _ x1 x3) (cwS 2 C.2.2.2.2.1 (gS wl_X5_80 wz_yX5_isRegister wi_X5 wk_yX5_isRegister) rfl rfl rfl hdX5_isRegister ⟨Nat.le_of_ble_eq_true rfl, Nat.le_of_ble_eq_true rfl⟩) rfl hl.1 rfl (Nat.le_of_ble_eq_true rfl) dX5_pair_10 ⟨Nat.le_refl 0, Nat.le_refl 0⟩ (fun H locs X => ?_)
    refine lv_if_ne (tgt := 19) hx hb dX5_pair_13 (by decide) (fun c13 => ?_) (fun c13 => ?_)
    · refine lv_aload_n hx hb dX5_pair_19 rfl (lv_at hl 0 rfl) ?_
      refine lv_iload_n hx hb dX5_pair_20 rfl (lv_at hl 1 rfl) ?_
      refine lv_iload_n hx hb dX5_pair_21 rfl (lv_at hl 2 rfl) ?_
      refine callVR (rest := []) C hA (wC_sh a cI cZ) X (kX5_inRegister l D a cI cZ _ x1 x2) (cwV 2 C.2.2.2.2.1 (gV wl_X5_122 wt_yX5_inRegister ws_yX5_inRegister wi_X5 wk_yX5_inRegister) rfl rfl rfl hdX5_inRegister ⟨Nat.le_of_ble_eq_true rfl, Nat.le_of_ble_eq_true rfl⟩) (ci := 5) (q0 := 0) rfl rfl rfl hl.1 rfl (Nat.le_of_ble_eq_true rfl) dX5_pair_22 ⟨Nat.le_refl 0, Nat.le_refl 0⟩ (fun H locs X => ?_)
      refine lv_istore (lv' := [(4, .int (fX5_inRegister σ x1 x2)), (0, .ref (a 0)), (1, .int x1), (2, .int x2), (3, .int x3)]) hx hb dX5_pair_25 hl (by decide) rfl (fun ls hl => ?_)
      refine lv_aload_n hx hb dX5_pair_27 rfl (lv_at hl 1 rfl) ?_
      refine lv_iload_n hx hb dX5_pair_28 rfl (lv_at hl 2 rfl) ?_
      refine lv_iload_n hx hb dX5_pair_29 rfl (lv_at hl 4 rfl) ?_
      refine callVR (rest := []) C hA (wC_sh a cI cZ) X (kX5_inRegister l D a cI cZ _ x1 x3) (cwV 2 C.2.2.2.2.1 (gV wl_X5_122 wt_yX5_inRegister ws_yX5_inRegister wi_X5 wk_yX5_inRegister) rfl rfl rfl hdX5_inRegister ⟨Nat.le_of_ble_eq_true rfl, Nat.le_of_ble_eq_true rfl⟩) (ci := 5) (q0 := 0) rfl rfl rfl hl.1 rfl (Nat.le_of_ble_eq_true rfl) dX5_pair_30 ⟨Nat.le_refl 0, Nat.le_refl 0⟩ (fun H locs X => ?_)
      refine lv_istore (lv' := [(5, .int (fX5_inRegister σ x1 x3)), (4, .int (fX5_inRegister σ x1 x2)), (0, .ref (a 0)), (1, .int x1), (2, .int x2), (3, .int x3)]) hx hb dX5_pair_33 hl (by decide) rfl (fun ls hl => ?_)
      refine lv_iload hx hb dX5_pair_35 (lv_at hl 1 rfl) ?_
      refine lv_iconst (v := (-1)) hx hb dX5_pair_37 (by decide) ?_
      refine lv_icmp_eq (tgt := 47) hx hb dX5_pair_38 (by decide) (fun c38 => ?_) (fun c38 => ?_)
      · refine lv_bipush (v := (-3)) hx hb dX5_pair_47 (by decide) ?_
        exact ret dX5_pair_49 (pe_ (Eq.symm (Eq.trans (if_neg c5) (Eq.trans (if_neg c13) (if_pos c38))))) X
      · refine lv_iload hx hb dX5_pair_41 (lv_at hl 0 rfl) ?_
        refine lv_iconst (v := (-1)) hx hb dX5_pair_43 (by decide) ?_
        refine lv_icmp_ne (tgt := 50) hx hb dX5_pair_44 (by decide) (fun c44 => ?_) (fun c44 => ?_)
        · refine lv_aload_n hx hb dX5_pair_50 rfl (lv_at hl 2 rfl) ?_
          refine cg_X5_X5_pairs C X dX5_pair_51 ?_
          refine cg_X5_X2_made (v := (c_pmade σ)) C X rfl dX5_pair_54 ?_
          refine lv_bipush (v := (8)) hx hb dX5_pair_57 (by decide) ?_
          refine lv_icmp_lt (tgt := 67) hx hb dX5_pair_59 (by decide) (fun c59 => ?_) (fun c59 => ?_)
          · refine lv_aload_n hx hb dX5_pair_67 rfl (lv_at hl 2 rfl) ?_
            refine cg_X5_X5_pairs C X dX5_pair_68 ?_
            refine lv_iload hx hb dX5_pair_71 (lv_at hl 1 rfl) ?_
            refine lv_iload hx hb dX5_pair_73 (lv_at hl 0 rfl) ?_
            refine callVR (rest := []) C hA (wC_sh a cI cZ) X (kX2_add l D a cI cZ _ (fX5_inRegister σ x1 x2) (fX5_inRegister σ x1 x3)) (cwV 2 C.2.2.2.2.1 (gV wl_X5_163 wt_yX2_add ws_yX2_add wi_X2 wk_yX2_add) rfl rfl rfl hdX2_add ⟨Nat.le_of_ble_eq_true rfl, Nat.le_of_ble_eq_true rfl⟩) (ci := 2) (q0 := 4) rfl rfl rfl hl.1 rfl (Nat.le_of_ble_eq_true rfl) dX5_pair_75 ⟨Nat.le_refl 0, Nat.le_refl 0⟩ (fun H locs X => ?_)
            exact ret dX5_pair_78 (pe_ (Eq.symm (Eq.trans (if_neg c5) (Eq.trans (if_neg c13) (Eq.trans (if_neg c38) (Eq.trans (if_neg c44) (if_pos c59))))))) X
          · refine lv_bipush (v := (-4)) hx hb dX5_pair_62 (by decide) ?_
            refine lv_goto (tgt := 78) hx hb dX5_pair_64 (by decide) ?_
            exact ret dX5_pair_78 (pe_ (Eq.symm (Eq.trans (if_neg c5) (Eq.trans (if_neg c13) (Eq.trans (if_neg c38) (Eq.trans (if_neg c44) (if_neg c59))))))) X
        · refine lv_bipush (v := (-3)) hx hb dX5_pair_47 (by decide) ?_
          exact ret dX5_pair_49 (pe_ (Eq.symm (Eq.trans (if_neg c5) (Eq.trans (if_neg c13) (Eq.trans (if_neg c38) (if_pos c44)))))) X
    · refine lv_bipush (v := (-2)) hx hb dX5_pair_16 (by decide) ?_
      exact ret dX5_pair_18 (pe_ (Eq.symm (Eq.trans (if_neg c5) (if_pos c13)))) X
def fX5_value (σ : CSt) (x1 : Int32) (x2 : Int32) (x3 : Int32) : Int32 × CSt := (if (fX5_isRegister σ x1 x2) = (0 : Int32) then ((-2 : Int32), σ) else (if (fX2_isPair σ x3) = (0 : Int32) then ((-2 : Int32), σ) else ((fX1_hold (fX5_noteWeakRead σ (fX2_valueOf σ x3)) (fX5_registerAt (fX5_noteWeakRead σ (fX2_valueOf σ x3)) x1 x2) (fX2_valueOf σ x3)).1, (fX1_hold (fX5_noteWeakRead σ (fX2_valueOf σ x3)) (fX5_registerAt (fX5_noteWeakRead σ (fX2_valueOf σ x3)) x1 x2) (fX2_valueOf σ x3)).2)))
theorem hdX5_value : yX5_value.cls = RX5 ∧ yX5_value.cls ≠ "java/lang/invoke/MethodHandle" ∧ yX5_value.cls ≠ "java/lang/invoke/VarHandle" ∧ (parseMethodDescriptor yX5_value.desc).map (fun d => d.parameters.length) = some 3 := by decide +kernel
set_option maxHeartbeats 250000 in
set_option maxRecDepth 100000 in
theorem kX5_value (l : Launch) (D : va_G) (a : Nat → Nat) (cI cZ : ClassId) (σ : CSt) (x1 : Int32) (x2 : Int32) (x3 : Int32) : CR l D (tyIZ cI cZ) (wC a cI cZ) yX5_value cX5_value 5 .int (rmk 5 109) [.ref (a 0), .int x1, .int x2, .int x3] σ (fX5_value σ x1 x2 x3).1 (fX5_value σ x1 x2 x3).2 := by
  refine CR.of pnX5 ⟨rfl, rfl⟩ (Nat.le_of_ble_eq_true rfl) rfl (fun p e s m args below meth c A Q ls C X hA hl ret => ?_)
  have C : Cx p s m args meth c cX5_value 5 RX5 D (tyIZ cI cZ) := C
  have hx := C.1
  have hb := C.2.1
  have hl : lv_has ls 5 [(0, .ref (a 0)), (1, .int x1), (2, .int x2), (3, .int x3)] := hl
  refine lv_iload_n hx hb dX5_value_0 rfl (lv_at hl 1 rfl) ?_
  refine lv_iload_n hx hb dX5_value_1 rfl (lv_at hl 2 rfl) ?_
  refine callSR (rest := []) C hA (wC_sh a cI cZ) X (kX5_isRegister l D a cI cZ _ x1 x2) (cwS 2 C.2.2.2.2.1 (gS wl_X5_80 wz_yX5_isRegister wi_X5 wk_yX5_isRegister) rfl rfl rfl hdX5_isRegister ⟨Nat.le_of_ble_eq_true rfl, Nat.le_of_ble_eq_true rfl⟩) rfl hl.1 rfl (Nat.le_of_ble_eq_true rfl) dX5_value_2 ⟨Nat.le_refl 0, Nat.le_refl 0⟩ (fun H locs X => ?_)
  refine lv_if_eq (tgt := 19) hx hb dX5_value_5 (by decide) (fun c5 => ?_) (fun c5 => ?_)
  · refine lv_bipush (v := (-2)) hx hb dX5_value_19 (by decide) ?_
    exact ret dX5_value_21 (pe_ (Eq.symm (if_pos c5))) X
  · refine lv_aload_n hx hb dX5_value_8 rfl (lv_at hl 0 rfl) ?_
    refine cg_X5_X5_pairs C X dX5_value_9 ?_
    refine lv_iload_n hx hb dX5_value_12 rfl (lv_at hl 3 rfl) ?_
    refine callVR (rest := []) C hA (wC_sh a cI cZ) X (kX2_isPair l D a cI cZ _ x3) (cwV 1 C.2.2.2.2.1 (gV wl_X5_165 wt_yX2_isPair ws_yX2_isPair wi_X2 wk_yX2_isPair) rfl rfl rfl hdX2_isPair ⟨Nat.le_of_ble_eq_true rfl, Nat.le_of_ble_eq_true rfl⟩) (ci := 2) (q0 := 4) rfl rfl rfl hl.1 rfl (Nat.le_of_ble_eq_true rfl) dX5_value_13 ⟨Nat.le_refl 0, Nat.le_refl 0⟩ (fun H locs X => ?_)
    refine lv_if_ne (tgt := 22) hx hb dX5_value_16 (by decide) (fun c16 => ?_) (fun c16 => ?_)
    · refine lv_aload_n hx hb dX5_value_22 rfl (lv_at hl 0 rfl) ?_
      refine cg_X5_X5_pairs C X dX5_value_23 ?_
      refine lv_iload_n hx hb dX5_value_26 rfl (lv_at hl 3 rfl) ?_
      refine callVR (rest := []) C hA (wC_sh a cI cZ) X (kX2_valueOf l D a cI cZ _ x3) (cwV 1 C.2.2.2.2.1 (gV wl_X5_168 wt_yX2_valueOf ws_yX2_valueOf wi_X2 wk_yX2_valueOf) rfl rfl rfl hdX2_valueOf ⟨Nat.le_of_ble_eq_true rfl, Nat.le_of_ble_eq_true rfl⟩) (ci := 2) (q0 := 4) rfl rfl rfl hl.1 rfl (Nat.le_of_ble_eq_true rfl) dX5_value_27 ⟨Nat.le_refl 0, Nat.le_refl 0⟩ (fun H locs X => ?_)
      refine lv_istore (lv' := [(4, .int (fX2_valueOf σ x3)), (0, .ref (a 0)), (1, .int x1), (2, .int x2), (3, .int x3)]) hx hb dX5_value_30 hl (by decide) rfl (fun ls hl => ?_)
      refine lv_aload_n hx hb dX5_value_32 rfl (lv_at hl 1 rfl) ?_
      refine lv_iload hx hb dX5_value_33 (lv_at hl 0 rfl) ?_
      refine callVU (rest := []) C hA (wC_sh a cI cZ) X (kX5_noteWeakRead l D a cI cZ _ (fX2_valueOf σ x3)) (cwV 1 C.2.2.2.2.1 (gV wl_X5_160 wt_yX5_noteWeakRead ws_yX5_noteWeakRead wi_X5 wk_yX5_noteWeakRead) rfl rfl rfl hdX5_noteWeakRead ⟨Nat.le_of_ble_eq_true rfl, Nat.le_of_ble_eq_true rfl⟩) (ci := 5) (q0 := 0) rfl rfl rfl hl.1 rfl (Nat.le_of_ble_eq_true rfl) dX5_value_35 ⟨Nat.le_refl 0, Nat.le_refl 0⟩ (fun H locs X => ?_)
      refine lv_aload_n hx hb dX5_value_38 rfl (lv_at hl 1 rfl) ?_
      refine cg_X5_X5_holders C X dX5_value_39 ?_
      refine lv_iload_n hx hb dX5_value_42 rfl (lv_at hl 2 rfl) ?_
      refine lv_iload_n hx hb dX5_value_43 rfl (lv_at hl 3 rfl) ?_
      refine callSR (rest := [.ref (a 3)]) C hA (wC_sh a cI cZ) X (kX5_registerAt l D a cI cZ _ x1 x2) (cwS 2 C.2.2.2.2.1 (gS wl_X5_103 wz_yX5_registerAt wi_X5 wk_yX5_registerAt) rfl rfl rfl hdX5_registerAt ⟨Nat.le_of_ble_eq_true rfl, Nat.le_of_ble_eq_true rfl⟩) rfl hl.1 rfl (Nat.le_of_ble_eq_true rfl) dX5_value_44 ⟨Nat.le_refl 0, Nat.le_refl 0⟩ (fun H locs X => ?_)
      refine lv_iload hx hb dX5_value_47 (lv_at hl 0 rfl) ?_
      refine callVR (rest := []) C hA (wC_sh a cI cZ) X (kX1_hold l D a cI cZ _ (fX5_registerAt (fX5_noteWeakRead σ (fX2_valueOf σ x3)) x1 x2) (fX2_valueOf σ x3)) (cwV 2 C.2.2.2.2.1 (gV wl_X5_106 wt_yX1_hold ws_yX1_hold wi_X1 wk_yX1_hold) rfl rfl rfl hdX1_hold ⟨Nat.le_of_ble_eq_true rfl, Nat.le_of_ble_eq_true rfl⟩) (ci := 1) (q0 := 3) rfl rfl rfl hl.1 rfl (Nat.le_of_ble_eq_true rfl) dX5_value_49 ⟨Nat.le_refl 0, Nat.le_refl 0⟩ (fun H locs X => ?_)
      exact ret dX5_value_52 (pe_ (Eq.symm (Eq.trans (if_neg c5) (if_neg c16)))) X
    · refine lv_bipush (v := (-2)) hx hb dX5_value_19 (by decide) ?_
      exact ret dX5_value_21 (pe_ (Eq.symm (Eq.trans (if_neg c5) (if_pos c16)))) X
def fX5_wish (σ : CSt) (x1 : Int32) (x2 : Int32) : Int32 × CSt := (if (fX5_isRegister σ x1 x2) = (0 : Int32) then ((-2 : Int32), σ) else (if (c_wishes σ) = (0 : Int32) then ((-1 : Int32), σ) else ((fX1_hold (fX1_takeFirstWish σ).2 (fX5_registerAt σ x1 x2) ((fX1_takeFirstWish σ).1)).1, (fX1_hold (fX1_takeFirstWish σ).2 (fX5_registerAt σ x1 x2) ((fX1_takeFirstWish σ).1)).2)))
theorem hdX5_wish : yX5_wish.cls = RX5 ∧ yX5_wish.cls ≠ "java/lang/invoke/MethodHandle" ∧ yX5_wish.cls ≠ "java/lang/invoke/VarHandle" ∧ (parseMethodDescriptor yX5_wish.desc).map (fun d => d.parameters.length) = some 2 := by decide +kernel
set_option maxHeartbeats 250000 in
set_option maxRecDepth 100000 in
theorem kX5_wish (l : Launch) (D : va_G) (a : Nat → Nat) (cI cZ : ClassId) (σ : CSt) (x1 : Int32) (x2 : Int32) : CR l D (tyIZ cI cZ) (wC a cI cZ) yX5_wish cX5_wish 3 .int (rmk 2 43) [.ref (a 0), .int x1, .int x2] σ (fX5_wish σ x1 x2).1 (fX5_wish σ x1 x2).2 := by
  refine CR.of pnX5 ⟨rfl, rfl⟩ (Nat.le_of_ble_eq_true rfl) rfl (fun p e s m args below meth c A Q ls C X hA hl ret => ?_)
  have C : Cx p s m args meth c cX5_wish 3 RX5 D (tyIZ cI cZ) := C
  have hx := C.1
  have hb := C.2.1
  have hl : lv_has ls 3 [(0, .ref (a 0)), (1, .int x1), (2, .int x2)] := hl
  refine lv_iload_n hx hb dX5_wish_0 rfl (lv_at hl 1 rfl) ?_
  refine lv_iload_n hx hb dX5_wish_1 rfl (lv_at hl 2 rfl) ?_
  refine callSR (rest := []) C hA (wC_sh a cI cZ) X (kX5_isRegister l D a cI cZ _ x1 x2) (cwS 2 C.2.2.2.2.1 (gS wl_X5_80 wz_yX5_isRegister wi_X5 wk_yX5_isRegister) rfl rfl rfl hdX5_isRegister ⟨Nat.le_of_ble_eq_true rfl, Nat.le_of_ble_eq_true rfl⟩) rfl hl.1 rfl (Nat.le_of_ble_eq_true rfl) dX5_wish_2 ⟨Nat.le_refl 0, Nat.le_refl 0⟩ (fun H locs X => ?_)
  refine lv_if_ne (tgt := 11) hx hb dX5_wish_5 (by decide) (fun c5 => ?_) (fun c5 => ?_)
  · refine lv_aload_n hx hb dX5_wish_11 rfl (lv_at hl 0 rfl) ?_
    refine cg_X5_X5_holders C X dX5_wish_12 ?_
    refine cg_X5_X1_wishes (v := (c_wishes σ)) C X rfl dX5_wish_15 ?_
    refine lv_if_ne (tgt := 23) hx hb dX5_wish_18 (by decide) (fun c18 => ?_) (fun c18 => ?_)
    · refine lv_aload_n hx hb dX5_wish_23 rfl (lv_at hl 0 rfl) ?_
      refine cg_X5_X5_holders C X dX5_wish_24 ?_
      refine lv_iload_n hx hb dX5_wish_27 rfl (lv_at hl 1 rfl) ?_
      refine lv_iload_n hx hb dX5_wish_28 rfl (lv_at hl 2 rfl) ?_
      refine callSR (rest := [.ref (a 3)]) C hA (wC_sh a cI cZ) X (kX5_registerAt l D a cI cZ _ x1 x2) (cwS 2 C.2.2.2.2.1 (gS wl_X5_103 wz_yX5_registerAt wi_X5 wk_yX5_registerAt) rfl rfl rfl hdX5_registerAt ⟨Nat.le_of_ble_eq_true rfl, Nat.le_of_ble_eq_true rfl⟩) rfl hl.1 rfl (Nat.le_of_ble_eq_true rfl) dX5_wish_29 ⟨Nat.le_refl 0, Nat.le_refl 0⟩ (fun H locs X => ?_)
      refine lv_aload_n hx hb dX5_wish_32 rfl (lv_at hl 0 rfl) ?_
      refine cg_X5_X5_holders C X dX5_wish_33 ?_
      refine callVR (rest := [.int (fX5_registerAt σ x1 x2), .ref (a 3)]) C hA (wC_sh a cI cZ) X (kX1_takeFirstWish l D a cI cZ _ ) (cwV 0 C.2.2.2.2.1 (gV wl_X5_174 wt_yX1_takeFirstWish ws_yX1_takeFirstWish wi_X1 wk_yX1_takeFirstWish) rfl rfl rfl hdX1_takeFirstWish ⟨Nat.le_of_ble_eq_true rfl, Nat.le_of_ble_eq_true rfl⟩) (ci := 1) (q0 := 3) rfl rfl rfl hl.1 rfl (Nat.le_of_ble_eq_true rfl) dX5_wish_36 ⟨Nat.le_refl 0, Nat.le_refl 0⟩ (fun H locs X => ?_)
      refine callVR (rest := []) C hA (wC_sh a cI cZ) X (kX1_hold l D a cI cZ _ (fX5_registerAt σ x1 x2) ((fX1_takeFirstWish σ).1)) (cwV 2 C.2.2.2.2.1 (gV wl_X5_106 wt_yX1_hold ws_yX1_hold wi_X1 wk_yX1_hold) rfl rfl rfl hdX1_hold ⟨Nat.le_of_ble_eq_true rfl, Nat.le_of_ble_eq_true rfl⟩) (ci := 1) (q0 := 3) rfl rfl rfl hl.1 rfl (Nat.le_of_ble_eq_true rfl) dX5_wish_39 ⟨Nat.le_refl 0, Nat.le_refl 0⟩ (fun H locs X => ?_)
      exact ret dX5_wish_42 (pe_ (Eq.symm (Eq.trans (if_neg c5) (if_neg c18)))) X
    · refine lv_iconst (v := (-1)) hx hb dX5_wish_21 (by decide) ?_
      exact ret dX5_wish_22 (pe_ (Eq.symm (Eq.trans (if_neg c5) (if_pos c18)))) X
  · refine lv_bipush (v := (-2)) hx hb dX5_wish_8 (by decide) ?_
    exact ret dX5_wish_10 (pe_ (Eq.symm (if_pos c5))) X
def fX5_begin (σ : CSt) : Int32 × CSt := (if (c_under σ) = (0 : Int32) then (if (c_manner (fX5_startRound σ)) = (0 : Int32) then (((fX4_countNotFreed (fX5_startRound σ)) - (fX4_countNotFreed (fX5_takeSteps (fX5_startRound σ) (1000000 : Int32)).2)), (fX5_takeSteps (fX5_startRound σ) (1000000 : Int32)).2) else ((fX4_countGray (fX5_startRound σ)), (fX5_startRound σ))) else ((-3 : Int32), σ))
theorem hdX5_begin : yX5_begin.cls = RX5 ∧ yX5_begin.cls ≠ "java/lang/invoke/MethodHandle" ∧ yX5_begin.cls ≠ "java/lang/invoke/VarHandle" ∧ (parseMethodDescriptor yX5_begin.desc).map (fun d => d.parameters.length) = some 0 := by decide +kernel
set_option maxHeartbeats 250000 in
set_option maxRecDepth 100000 in
theorem kX5_begin (l : Launch) (D : va_G) (a : Nat → Nat) (cI cZ : ClassId) (σ : CSt) : CR l D (tyIZ cI cZ) (wC a cI cZ) yX5_begin cX5_begin 2 .int (rmk 6 133) [.ref (a 0)] σ (fX5_begin σ).1 (fX5_begin σ).2 := by
  refine CR.of pnX5 ⟨rfl, rfl⟩ (Nat.le_of_ble_eq_true rfl) rfl (fun p e s m args below meth c A Q ls C X hA hl ret => ?_)
  have C : Cx p s m args meth c cX5_begin 2 RX5 D (tyIZ cI cZ) := C
  have hx := C.1
  have hb := C.2.1
  have hl : lv_has ls 2 [(0, .ref (a 0))] := hl
  refine lv_aload_n hx hb dX5_begin_0 rfl (lv_at hl 0 rfl) ?_
  refine cg_X5_X5_underWay (v := (c_under σ)) C X rfl dX5_begin_1 ?_
  refine lv_if_eq (tgt := 10) hx hb dX5_begin_4 (by decide) (fun c4 => ?_) (fun c4 => ?_)
  · refine lv_aload_n hx hb dX5_begin_10 rfl (lv_at hl 0 rfl) ?_
    refine callVU (rest := []) C hA (wC_sh a cI cZ) X (kX5_startRound l D a cI cZ _ ) (cwV 0 C.2.2.2.2.1 (gV wl_X5_180 wt_yX5_startRound ws_yX5_startRound wi_X5 wk_yX5_startRound) rfl rfl rfl hdX5_startRound ⟨Nat.le_of_ble_eq_true rfl, Nat.le_of_ble_eq_true rfl⟩) (ci := 5) (q0 := 0) rfl rfl rfl hl.1 rfl (Nat.le_of_ble_eq_true rfl) dX5_begin_11 ⟨Nat.le_refl 0, Nat.le_refl 0⟩ (fun H locs X => ?_)
    refine lv_aload_n hx hb dX5_begin_14 rfl (lv_at hl 0 rfl) ?_
    refine cg_X5_X5_manner (v := (c_manner (fX5_startRound σ))) C X rfl dX5_begin_15 ?_
    refine lv_if_eq (tgt := 29) hx hb dX5_begin_18 (by decide) (fun c18 => ?_) (fun c18 => ?_)
    · refine lv_aload_n hx hb dX5_begin_29 rfl (lv_at hl 0 rfl) ?_
      refine cg_X5_X5_things C X dX5_begin_30 ?_
      refine callVR (rest := []) C hA (wC_sh a cI cZ) X (kX4_countNotFreed l D a cI cZ _ ) (cwV 0 C.2.2.2.2.1 (gV wl_X5_186 wt_yX4_countNotFreed ws_yX4_countNotFreed wi_X4 wk_yX4_countNotFreed) rfl rfl rfl hdX4_countNotFreed ⟨Nat.le_of_ble_eq_true rfl, Nat.le_of_ble_eq_true rfl⟩) (ci := 4) (q0 := 1) rfl rfl rfl hl.1 rfl (Nat.le_of_ble_eq_true rfl) dX5_begin_33 ⟨Nat.le_refl 0, Nat.le_refl 0⟩ (fun H locs X => ?_)
      refine lv_istore_n (lv' := [(1, .int (fX4_countNotFreed (fX5_startRound σ))), (0, .ref (a 0))]) hx hb dX5_begin_36 rfl hl (by decide) rfl (fun ls hl => ?_)
      refine lv_aload_n hx hb dX5_begin_37 rfl (lv_at hl 1 rfl) ?_
      refine lv_ldc (v := (1000000)) hx hb C.2.2.2.1 (C.2.2.2.2.1 _ wv_X5_189) dX5_begin_38 ?_
      refine callVR (rest := []) C hA (wC_sh a cI cZ) X (kX5_takeSteps l D a cI cZ _ (1000000 : Int32)) (cwV 1 C.2.2.2.2.1 (gV wl_X5_190 wt_yX5_takeSteps ws_yX5_takeSteps wi_X5 wk_yX5_takeSteps) rfl rfl rfl hdX5_takeSteps ⟨Nat.le_of_ble_eq_true rfl, Nat.le_of_ble_eq_true rfl⟩) (ci := 5) (q0 := 0) rfl rfl rfl hl.1 rfl (Nat.le_of_ble_eq_true rfl) dX5_begin_40 ⟨Nat.le_refl 0, Nat.le_refl 0⟩ (fun H locs X => ?_)
      refine lv_pop hx hb dX5_begin_43 rfl ?_
      refine lv_iload_n hx hb dX5_begin_44 rfl (lv_at hl 0 rfl) ?_
      refine lv_aload_n hx hb dX5_begin_45 rfl (lv_at hl 1 rfl) ?_
      refine cg_X5_X5_things C X dX5_begin_46 ?_
      refine callVR (rest := [.int (fX4_countNotFreed (fX5_startRound σ))]) C hA (wC_sh a cI cZ) X (kX4_countNotFreed l D a cI cZ _ ) (cwV 0 C.2.2.2.2.1 (gV wl_X5_186 wt_yX4_countNotFreed ws_yX4_countNotFreed wi_X4 wk_yX4_countNotFreed) rfl rfl rfl hdX4_countNotFreed ⟨Nat.le_of_ble_eq_true rfl, Nat.le_of_ble_eq_true rfl⟩) (ci := 4) (q0 := 1) rfl rfl rfl hl.1 rfl (Nat.le_of_ble_eq_true rfl) dX5_begin_49 ⟨Nat.le_refl 0, Nat.le_refl 0⟩ (fun H locs X => ?_)
      refine lv_isub hx hb dX5_begin_52 ?_
      exact ret dX5_begin_53 (pe_ (Eq.symm (Eq.trans (if_pos c4) (if_pos c18)))) X
    · refine lv_aload_n hx hb dX5_begin_21 rfl (lv_at hl 0 rfl) ?_
      refine cg_X5_X5_things C X dX5_begin_22 ?_
      refine callVR (rest := []) C hA (wC_sh a cI cZ) X (kX4_countGray l D a cI cZ _ ) (cwV 0 C.2.2.2.2.1 (gV wl_X5_183 wt_yX4_countGray ws_yX4_countGray wi_X4 wk_yX4_countGray) rfl rfl rfl hdX4_countGray ⟨Nat.le_of_ble_eq_true rfl, Nat.le_of_ble_eq_true rfl⟩) (ci := 4) (q0 := 1) rfl rfl rfl hl.1 rfl (Nat.le_of_ble_eq_true rfl) dX5_begin_25 ⟨Nat.le_refl 0, Nat.le_refl 0⟩ (fun H locs X => ?_)
      exact ret dX5_begin_28 (pe_ (Eq.symm (Eq.trans (if_pos c4) (if_neg c18)))) X
  · refine lv_bipush (v := (-3)) hx hb dX5_begin_7 (by decide) ?_
    exact ret dX5_begin_9 (pe_ (Eq.symm (if_neg c4))) X
def fX5_sweep (σ : CSt) (x1 : Int32) : Int32 × CSt := (if x1 < (1 : Int32) then ((-2 : Int32), σ) else (if x1 ≤ (400 : Int32) then ((fX5_takeSteps σ x1).1, (fX5_takeSteps σ x1).2) else ((-2 : Int32), σ)))
theorem hdX5_sweep : yX5_sweep.cls = RX5 ∧ yX5_sweep.cls ≠ "java/lang/invoke/MethodHandle" ∧ yX5_sweep.cls ≠ "java/lang/invoke/VarHandle" ∧ (parseMethodDescriptor yX5_sweep.desc).map (fun d => d.parameters.length) = some 1 := by decide +kernel
set_option maxHeartbeats 250000 in
set_option maxRecDepth 100000 in
theorem kX5_sweep (l : Launch) (D : va_G) (a : Nat → Nat) (cI cZ : ClassId) (σ : CSt) (x1 : Int32) : CR l D (tyIZ cI cZ) (wC a cI cZ) yX5_sweep cX5_sweep 2 .int (rmk 6 133) [.ref (a 0), .int x1] σ (fX5_sweep σ x1).1 (fX5_sweep σ x1).2 := by
  refine CR.of pnX5 ⟨rfl, rfl⟩ (Nat.le_of_ble_eq_true rfl) rfl (fun p e s m args below meth c A Q ls C X hA hl ret => ?_)
  have C : Cx p s m args meth c cX5_sweep 2 RX5 D (tyIZ cI cZ) := C
  have hx := C.1
  have hb := C.2.1
  have hl : lv_has ls 2 [(0, .ref (a 0)), (1, .int x1)] := hl
  refine lv_iload_n hx hb dX5_sweep_0 rfl (lv_at hl 1 rfl) ?_
  refine lv_iconst (v := (1)) hx hb dX5_sweep_1 (by decide) ?_
  refine lv_icmp_lt (tgt := 12) hx hb dX5_sweep_2 (by decide) (fun c2 => ?_) (fun c2 => ?_)
  · refine lv_bipush (v := (-2)) hx hb dX5_sweep_12 (by decide) ?_
    exact ret dX5_sweep_14 (pe_ (Eq.symm (if_pos c2))) X
  · refine lv_iload_n hx hb dX5_sweep_5 rfl (lv_at hl 1 rfl) ?_
    refine lv_sipush (v := (400)) hx hb dX5_sweep_6 (by decide) ?_
    refine lv_icmp_le (tgt := 15) hx hb dX5_sweep_9 (by decide) (fun c9 => ?_) (fun c9 => ?_)
    · refine lv_aload_n hx hb dX5_sweep_15 rfl (lv_at hl 0 rfl) ?_
      refine lv_iload_n hx hb dX5_sweep_16 rfl (lv_at hl 1 rfl) ?_
      refine callVR (rest := []) C hA (wC_sh a cI cZ) X (kX5_takeSteps l D a cI cZ _ x1) (cwV 1 C.2.2.2.2.1 (gV wl_X5_190 wt_yX5_takeSteps ws_yX5_takeSteps wi_X5 wk_yX5_takeSteps) rfl rfl rfl hdX5_takeSteps ⟨Nat.le_of_ble_eq_true rfl, Nat.le_of_ble_eq_true rfl⟩) (ci := 5) (q0 := 0) rfl rfl rfl hl.1 rfl (Nat.le_of_ble_eq_true rfl) dX5_sweep_17 ⟨Nat.le_refl 0, Nat.le_refl 0⟩ (fun H locs X => ?_)
      exact ret dX5_sweep_20 (pe_ (Eq.symm (Eq.trans (if_neg c2) (if_pos c9)))) X
    · refine lv_bipush (v := (-2)) hx hb dX5_sweep_12 (by decide) ?_
      exact ret dX5_sweep_14 (pe_ (Eq.symm (Eq.trans (if_neg c2) (if_neg c9)))) X
def fX5_under (σ : CSt) : Int32 := (c_under σ)
theorem hdX5_under : yX5_under.cls = RX5 ∧ yX5_under.cls ≠ "java/lang/invoke/MethodHandle" ∧ yX5_under.cls ≠ "java/lang/invoke/VarHandle" ∧ (parseMethodDescriptor yX5_under.desc).map (fun d => d.parameters.length) = some 0 := by decide +kernel
set_option maxHeartbeats 250000 in
set_option maxRecDepth 100000 in
theorem kX5_under (l : Launch) (D : va_G) (a : Nat → Nat) (cI cZ : ClassId) (σ : CSt) : CR l D (tyIZ cI cZ) (wC a cI cZ) yX5_under cX5_under 1 .int (rmk 0 0) [.ref (a 0)] σ (fX5_under σ) σ := by
  refine CR.of pnX5 ⟨rfl, rfl⟩ (Nat.le_of_ble_eq_true rfl) rfl (fun p e s m args below meth c A Q ls C X hA hl ret => ?_)
  have C : Cx p s m args meth c cX5_under 1 RX5 D (tyIZ cI cZ) := C
  have hx := C.1
  have hb := C.2.1
  have hl : lv_has ls 1 [(0, .ref (a 0))] := hl
  refine lv_aload_n hx hb dX5_under_0 rfl (lv_at hl 0 rfl) ?_
  refine cg_X5_X5_underWay (v := (c_under σ)) C X rfl dX5_under_1 ?_
  exact ret dX5_under_4 (congrArg (fun z => (z, _)) rfl) X
def fX5_isReached (σ : CSt) (x1 : Int32) : Int32 × CSt := ((fX3_has (fX3_find σ) x1), (fX3_find σ))
theorem hdX5_isReached : yX5_isReached.cls = RX5 ∧ yX5_isReached.cls ≠ "java/lang/invoke/MethodHandle" ∧ yX5_isReached.cls ≠ "java/lang/invoke/VarHandle" ∧ (parseMethodDescriptor yX5_isReached.desc).map (fun d => d.parameters.length) = some 1 := by decide +kernel
theorem bX5_isReached (σ : CSt) (x1 : Int32) : (fX5_isReached σ x1).1 = 0 ∨ (fX5_isReached σ x1).1 = 1 := bX3_has _ _
set_option maxHeartbeats 250000 in
set_option maxRecDepth 100000 in
theorem kX5_isReached (l : Launch) (D : va_G) (a : Nat → Nat) (cI cZ : ClassId) (σ : CSt) (x1 : Int32) : CR l D (tyIZ cI cZ) (wC a cI cZ) yX5_isReached cX5_isReached 2 .boolean (rmk 5 112) [.ref (a 0), .int x1] σ (fX5_isReached σ x1).1 (fX5_isReached σ x1).2 := by
  refine CR.of pnX5 ⟨rfl, rfl⟩ (Nat.le_of_ble_eq_true rfl) (nar_b (bX5_isReached σ x1)) (fun p e s m args below meth c A Q ls C X hA hl ret => ?_)
  have C : Cx p s m args meth c cX5_isReached 2 RX5 D (tyIZ cI cZ) := C
  have hx := C.1
  have hb := C.2.1
  have hl : lv_has ls 2 [(0, .ref (a 0)), (1, .int x1)] := hl
  refine lv_aload_n hx hb dX5_isReached_0 rfl (lv_at hl 0 rfl) ?_
  refine cg_X5_X5_reach C X dX5_isReached_1 ?_
  refine lv_aload_n hx hb dX5_isReached_4 rfl (lv_at hl 0 rfl) ?_
  refine cg_X5_X5_things C X dX5_isReached_5 ?_
  refine lv_aload_n hx hb dX5_isReached_8 rfl (lv_at hl 0 rfl) ?_
  refine cg_X5_X5_holders C X dX5_isReached_9 ?_
  refine lv_aload_n hx hb dX5_isReached_12 rfl (lv_at hl 0 rfl) ?_
  refine cg_X5_X5_pairs C X dX5_isReached_13 ?_
  refine callVU (rest := []) C hA (wC_sh a cI cZ) X (kX3_find l D a cI cZ _ ) (cwV 3 C.2.2.2.2.1 (gV wl_X5_298 wt_yX3_find ws_yX3_find wi_X3 wk_yX3_find) rfl rfl rfl hdX3_find ⟨Nat.le_of_ble_eq_true rfl, Nat.le_of_ble_eq_true rfl⟩) (ci := 3) (q0 := 5) rfl rfl rfl hl.1 rfl (Nat.le_of_ble_eq_true rfl) dX5_isReached_16 ⟨Nat.le_refl 0, Nat.le_refl 0⟩ (fun H locs X => ?_)
  refine lv_aload_n hx hb dX5_isReached_19 rfl (lv_at hl 0 rfl) ?_
  refine cg_X5_X5_reach C X dX5_isReached_20 ?_
  refine lv_iload_n hx hb dX5_isReached_23 rfl (lv_at hl 1 rfl) ?_
  refine callVR (rest := []) C hA (wC_sh a cI cZ) X (kX3_has l D a cI cZ _ x1) (cwV 1 C.2.2.2.2.1 (gV wl_X5_302 wt_yX3_has ws_yX3_has wi_X3 wk_yX3_has) rfl rfl rfl hdX3_has ⟨Nat.le_of_ble_eq_true rfl, Nat.le_of_ble_eq_true rfl⟩) (ci := 3) (q0 := 5) rfl rfl rfl hl.1 rfl (Nat.le_of_ble_eq_true rfl) dX5_isReached_24 ⟨Nat.le_refl 0, Nat.le_refl 0⟩ (fun H locs X => ?_)
  exact ret dX5_isReached_27 (pe_ rfl) X
def fX5_about (σ : CSt) (x1 : Int32) (x2 : Int32) : Int32 × CSt := (if (fX4_isThing σ x1) = (0 : Int32) then ((-2 : Int32), σ) else (if x2 = (0 : Int32) then ((fX4_fieldsOf σ x1), σ) else (if x2 = (1 : Int32) then ((fX4_placeOf σ x1), σ) else (if x2 = (2 : Int32) then ((fX4_colourOf σ x1), σ) else (if x2 = (3 : Int32) then (if (fX4_isFreed σ x1) = (0 : Int32) then ((0 : Int32), σ) else ((1 : Int32), σ)) else (if x2 = (4 : Int32) then (if (fX5_isReached σ x1).1 = (0 : Int32) then ((0 : Int32), (fX5_isReached σ x1).2) else ((1 : Int32), (fX5_isReached σ x1).2)) else (if x2 = (5 : Int32) then (if (fX4_hasWish σ x1) = (0 : Int32) then ((0 : Int32), σ) else ((1 : Int32), σ)) else (if x2 = (6 : Int32) then ((fX4_movesOf σ x1), σ) else ((-2 : Int32), σ)))))))))
theorem hdX5_about : yX5_about.cls = RX5 ∧ yX5_about.cls ≠ "java/lang/invoke/MethodHandle" ∧ yX5_about.cls ≠ "java/lang/invoke/VarHandle" ∧ (parseMethodDescriptor yX5_about.desc).map (fun d => d.parameters.length) = some 2 := by decide +kernel
set_option maxHeartbeats 250000 in
set_option maxRecDepth 100000 in
theorem kX5_about (l : Launch) (D : va_G) (a : Nat → Nat) (cI cZ : ClassId) (σ : CSt) (x1 : Int32) (x2 : Int32) : CR l D (tyIZ cI cZ) (wC a cI cZ) yX5_about cX5_about 3 .int (rmk 6 133) [.ref (a 0), .int x1, .int x2] σ (fX5_about σ x1 x2).1 (fX5_about σ x1 x2).2 := by
  refine CR.of pnX5 ⟨rfl, rfl⟩ (Nat.le_of_ble_eq_true rfl) rfl (fun p e s m args below meth c A Q ls C X hA hl ret => ?_)
  have C : Cx p s m args meth c cX5_about 3 RX5 D (tyIZ cI cZ) := C
  have hx := C.1
  have hb := C.2.1
  have hl : lv_has ls 3 [(0, .ref (a 0)), (1, .int x1), (2, .int x2)] := hl
  refine lv_aload_n hx hb dX5_about_0 rfl (lv_at hl 0 rfl) ?_
  refine cg_X5_X5_things C X dX5_about_1 ?_
  refine lv_iload_n hx hb dX5_about_4 rfl (lv_at hl 1 rfl) ?_
  refine callVR (rest := []) C hA (wC_sh a cI cZ) X (kX4_isThing l D a cI cZ _ x1) (cwV 1 C.2.2.2.2.1 (gV wl_X5_265 wt_yX4_isThing ws_yX4_isThing wi_X4 wk_yX4_isThing) rfl rfl rfl hdX4_isThing ⟨Nat.le_of_ble_eq_true rfl, Nat.le_of_ble_eq_true rfl⟩) (ci := 4) (q0 := 1) rfl rfl rfl hl.1 rfl (Nat.le_of_ble_eq_true rfl) dX5_about_5 ⟨Nat.le_refl 0, Nat.le_refl 0⟩ (fun H locs X => ?_)
  refine lv_if_ne (tgt := 14) hx hb dX5_about_8 (by decide) (fun c8 => ?_) (fun c8 => ?_)
  · refine lv_iload_n hx hb dX5_about_14 rfl (lv_at hl 2 rfl) ?_
    by_cases c15_0 : x2 = (0 : Int32)
    · refine lv_tableIn (tgt := 56) (off := (41)) hx hb dX5_about_15 (by rw [c15_0]; decide) (by rw [c15_0]; decide) (by rw [c15_0]; rfl) (by decide) ?_
      refine lv_aload_n hx hb dX5_about_56 rfl (lv_at hl 0 rfl) ?_
      refine cg_X5_X5_things C X dX5_about_57 ?_
      refine lv_iload_n hx hb dX5_about_60 rfl (lv_at hl 1 rfl) ?_
      refine callVR (rest := []) C hA (wC_sh a cI cZ) X (kX4_fieldsOf l D a cI cZ _ x1) (cwV 1 C.2.2.2.2.1 (gV wl_X5_268 wt_yX4_fieldsOf ws_yX4_fieldsOf wi_X4 wk_yX4_fieldsOf) rfl rfl rfl hdX4_fieldsOf ⟨Nat.le_of_ble_eq_true rfl, Nat.le_of_ble_eq_true rfl⟩) (ci := 4) (q0 := 1) rfl rfl rfl hl.1 rfl (Nat.le_of_ble_eq_true rfl) dX5_about_61 ⟨Nat.le_refl 0, Nat.le_refl 0⟩ (fun H locs X => ?_)
      exact ret dX5_about_64 (pe_ (Eq.symm (Eq.trans (if_neg c8) (if_pos c15_0)))) X
    · skip
      by_cases c15_1 : x2 = (1 : Int32)
      · refine lv_tableIn (tgt := 65) (off := (50)) hx hb dX5_about_15 (by rw [c15_1]; decide) (by rw [c15_1]; decide) (by rw [c15_1]; rfl) (by decide) ?_
        refine lv_aload_n hx hb dX5_about_65 rfl (lv_at hl 0 rfl) ?_
        refine cg_X5_X5_things C X dX5_about_66 ?_
        refine lv_iload_n hx hb dX5_about_69 rfl (lv_at hl 1 rfl) ?_
        refine callVR (rest := []) C hA (wC_sh a cI cZ) X (kX4_placeOf l D a cI cZ _ x1) (cwV 1 C.2.2.2.2.1 (gV wl_X5_241 wt_yX4_placeOf ws_yX4_placeOf wi_X4 wk_yX4_placeOf) rfl rfl rfl hdX4_placeOf ⟨Nat.le_of_ble_eq_true rfl, Nat.le_of_ble_eq_true rfl⟩) (ci := 4) (q0 := 1) rfl rfl rfl hl.1 rfl (Nat.le_of_ble_eq_true rfl) dX5_about_70 ⟨Nat.le_refl 0, Nat.le_refl 0⟩ (fun H locs X => ?_)
        exact ret dX5_about_73 (pe_ (Eq.symm (Eq.trans (if_neg c8) (Eq.trans (if_neg c15_0) (if_pos c15_1))))) X
      · skip
        by_cases c15_2 : x2 = (2 : Int32)
        · refine lv_tableIn (tgt := 74) (off := (59)) hx hb dX5_about_15 (by rw [c15_2]; decide) (by rw [c15_2]; decide) (by rw [c15_2]; rfl) (by decide) ?_
          refine lv_aload_n hx hb dX5_about_74 rfl (lv_at hl 0 rfl) ?_
          refine cg_X5_X5_things C X dX5_about_75 ?_
          refine lv_iload_n hx hb dX5_about_78 rfl (lv_at hl 1 rfl) ?_
          refine callVR (rest := []) C hA (wC_sh a cI cZ) X (kX4_colourOf l D a cI cZ _ x1) (cwV 1 C.2.2.2.2.1 (gV wl_X5_271 wt_yX4_colourOf ws_yX4_colourOf wi_X4 wk_yX4_colourOf) rfl rfl rfl hdX4_colourOf ⟨Nat.le_of_ble_eq_true rfl, Nat.le_of_ble_eq_true rfl⟩) (ci := 4) (q0 := 1) rfl rfl rfl hl.1 rfl (Nat.le_of_ble_eq_true rfl) dX5_about_79 ⟨Nat.le_refl 0, Nat.le_refl 0⟩ (fun H locs X => ?_)
          exact ret dX5_about_82 (pe_ (Eq.symm (Eq.trans (if_neg c8) (Eq.trans (if_neg c15_0) (Eq.trans (if_neg c15_1) (if_pos c15_2)))))) X
        · skip
          by_cases c15_3 : x2 = (3 : Int32)
          · refine lv_tableIn (tgt := 83) (off := (68)) hx hb dX5_about_15 (by rw [c15_3]; decide) (by rw [c15_3]; decide) (by rw [c15_3]; rfl) (by decide) ?_
            refine lv_aload_n hx hb dX5_about_83 rfl (lv_at hl 0 rfl) ?_
            refine cg_X5_X5_things C X dX5_about_84 ?_
            refine lv_iload_n hx hb dX5_about_87 rfl (lv_at hl 1 rfl) ?_
            refine callVR (rest := []) C hA (wC_sh a cI cZ) X (kX4_isFreed l D a cI cZ _ x1) (cwV 1 C.2.2.2.2.1 (gV wl_X5_141 wt_yX4_isFreed ws_yX4_isFreed wi_X4 wk_yX4_isFreed) rfl rfl rfl hdX4_isFreed ⟨Nat.le_of_ble_eq_true rfl, Nat.le_of_ble_eq_true rfl⟩) (ci := 4) (q0 := 1) rfl rfl rfl hl.1 rfl (Nat.le_of_ble_eq_true rfl) dX5_about_88 ⟨Nat.le_refl 0, Nat.le_refl 0⟩ (fun H locs X => ?_)
            refine lv_if_eq (tgt := 98) hx hb dX5_about_91 (by decide) (fun c91 => ?_) (fun c91 => ?_)
            · refine lv_iconst (v := (0)) hx hb dX5_about_98 (by decide) ?_
              exact ret dX5_about_99 (pe_ (Eq.symm (Eq.trans (if_neg c8) (Eq.trans (if_neg c15_0) (Eq.trans (if_neg c15_1) (Eq.trans (if_neg c15_2) (Eq.trans (if_pos c15_3) (if_pos c91)))))))) X
            · refine lv_iconst (v := (1)) hx hb dX5_about_94 (by decide) ?_
              refine lv_goto (tgt := 99) hx hb dX5_about_95 (by decide) ?_
              exact ret dX5_about_99 (pe_ (Eq.symm (Eq.trans (if_neg c8) (Eq.trans (if_neg c15_0) (Eq.trans (if_neg c15_1) (Eq.trans (if_neg c15_2) (Eq.trans (if_pos c15_3) (if_neg c91)))))))) X
          · skip
            by_cases c15_4 : x2 = (4 : Int32)
            · refine lv_tableIn (tgt := 100) (off := (85)) hx hb dX5_about_15 (by rw [c15_4]; decide) (by rw [c15_4]; decide) (by rw [c15_4]; rfl) (by decide) ?_
              refine lv_aload_n hx hb dX5_about_100 rfl (lv_at hl 0 rfl) ?_
              refine lv_iload_n hx hb dX5_about_101 rfl (lv_at hl 1 rfl) ?_
              refine callVR (rest := []) C hA (wC_sh a cI cZ) X (kX5_isReached l D a cI cZ _ x1) (cwV 1 C.2.2.2.2.1 (gV wl_X5_274 wt_yX5_isReached ws_yX5_isReached wi_X5 wk_yX5_isReached) rfl rfl rfl hdX5_isReached ⟨Nat.le_of_ble_eq_true rfl, Nat.le_of_ble_eq_true rfl⟩) (ci := 5) (q0 := 0) rfl rfl rfl hl.1 rfl (Nat.le_of_ble_eq_true rfl) dX5_about_102 ⟨Nat.le_refl 0, Nat.le_refl 0⟩ (fun H locs X => ?_)
              refine lv_if_eq (tgt := 112) hx hb dX5_about_105 (by decide) (fun c105 => ?_) (fun c105 => ?_)
              · refine lv_iconst (v := (0)) hx hb dX5_about_112 (by decide) ?_
                exact ret dX5_about_113 (pe_ (Eq.symm (Eq.trans (if_neg c8) (Eq.trans (if_neg c15_0) (Eq.trans (if_neg c15_1) (Eq.trans (if_neg c15_2) (Eq.trans (if_neg c15_3) (Eq.trans (if_pos c15_4) (if_pos c105))))))))) X
              · refine lv_iconst (v := (1)) hx hb dX5_about_108 (by decide) ?_
                refine lv_goto (tgt := 113) hx hb dX5_about_109 (by decide) ?_
                exact ret dX5_about_113 (pe_ (Eq.symm (Eq.trans (if_neg c8) (Eq.trans (if_neg c15_0) (Eq.trans (if_neg c15_1) (Eq.trans (if_neg c15_2) (Eq.trans (if_neg c15_3) (Eq.trans (if_pos c15_4) (if_neg c105))))))))) X
            · skip
              by_cases c15_5 : x2 = (5 : Int32)
              · refine lv_tableIn (tgt := 114) (off := (99)) hx hb dX5_about_15 (by rw [c15_5]; decide) (by rw [c15_5]; decide) (by rw [c15_5]; rfl) (by decide) ?_
                refine lv_aload_n hx hb dX5_about_114 rfl (lv_at hl 0 rfl) ?_
                refine cg_X5_X5_things C X dX5_about_115 ?_
                refine lv_iload_n hx hb dX5_about_118 rfl (lv_at hl 1 rfl) ?_
                refine callVR (rest := []) C hA (wC_sh a cI cZ) X (kX4_hasWish l D a cI cZ _ x1) (cwV 1 C.2.2.2.2.1 (gV wl_X5_232 wt_yX4_hasWish ws_yX4_hasWish wi_X4 wk_yX4_hasWish) rfl rfl rfl hdX4_hasWish ⟨Nat.le_of_ble_eq_true rfl, Nat.le_of_ble_eq_true rfl⟩) (ci := 4) (q0 := 1) rfl rfl rfl hl.1 rfl (Nat.le_of_ble_eq_true rfl) dX5_about_119 ⟨Nat.le_refl 0, Nat.le_refl 0⟩ (fun H locs X => ?_)
                refine lv_if_eq (tgt := 129) hx hb dX5_about_122 (by decide) (fun c122 => ?_) (fun c122 => ?_)
                · refine lv_iconst (v := (0)) hx hb dX5_about_129 (by decide) ?_
                  exact ret dX5_about_130 (pe_ (Eq.symm (Eq.trans (if_neg c8) (Eq.trans (if_neg c15_0) (Eq.trans (if_neg c15_1) (Eq.trans (if_neg c15_2) (Eq.trans (if_neg c15_3) (Eq.trans (if_neg c15_4) (Eq.trans (if_pos c15_5) (if_pos c122)))))))))) X
                · refine lv_iconst (v := (1)) hx hb dX5_about_125 (by decide) ?_
                  refine lv_goto (tgt := 130) hx hb dX5_about_126 (by decide) ?_
                  exact ret dX5_about_130 (pe_ (Eq.symm (Eq.trans (if_neg c8) (Eq.trans (if_neg c15_0) (Eq.trans (if_neg c15_1) (Eq.trans (if_neg c15_2) (Eq.trans (if_neg c15_3) (Eq.trans (if_neg c15_4) (Eq.trans (if_pos c15_5) (if_neg c122)))))))))) X
              · skip
                by_cases c15_6 : x2 = (6 : Int32)
                · refine lv_tableIn (tgt := 131) (off := (116)) hx hb dX5_about_15 (by rw [c15_6]; decide) (by rw [c15_6]; decide) (by rw [c15_6]; rfl) (by decide) ?_
                  refine lv_aload_n hx hb dX5_about_131 rfl (lv_at hl 0 rfl) ?_
                  refine cg_X5_X5_things C X dX5_about_132 ?_
                  refine lv_iload_n hx hb dX5_about_135 rfl (lv_at hl 1 rfl) ?_
                  refine callVR (rest := []) C hA (wC_sh a cI cZ) X (kX4_movesOf l D a cI cZ _ x1) (cwV 1 C.2.2.2.2.1 (gV wl_X5_277 wt_yX4_movesOf ws_yX4_movesOf wi_X4 wk_yX4_movesOf) rfl rfl rfl hdX4_movesOf ⟨Nat.le_of_ble_eq_true rfl, Nat.le_of_ble_eq_true rfl⟩) (ci := 4) (q0 := 1) rfl rfl rfl hl.1 rfl (Nat.le_of_ble_eq_true rfl) dX5_about_136 ⟨Nat.le_refl 0, Nat.le_refl 0⟩ (fun H locs X => ?_)
                  exact ret dX5_about_139 (pe_ (Eq.symm (Eq.trans (if_neg c8) (Eq.trans (if_neg c15_0) (Eq.trans (if_neg c15_1) (Eq.trans (if_neg c15_2) (Eq.trans (if_neg c15_3) (Eq.trans (if_neg c15_4) (Eq.trans (if_neg c15_5) (if_pos c15_6)))))))))) X
                · skip
                  refine lv_tableOut (tgt := 140) hx hb dX5_about_15 (by have t0 := i32_ne c15_0; have t1 := i32_ne c15_1; have t2 := i32_ne c15_2; have t3 := i32_ne c15_3; have t4 := i32_ne c15_4; have t5 := i32_ne c15_5; have t6 := i32_ne c15_6; have q0_ : (0 : Int32).toInt = 0 := rfl; have q1_ : (1 : Int32).toInt = 1 := rfl; have q2_ : (2 : Int32).toInt = 2 := rfl; have q3_ : (3 : Int32).toInt = 3 := rfl; have q4_ : (4 : Int32).toInt = 4 := rfl; have q5_ : (5 : Int32).toInt = 5 := rfl; have q6_ : (6 : Int32).toInt = 6 := rfl; omega) (by decide) ?_
                  refine lv_bipush (v := (-2)) hx hb dX5_about_140 (by decide) ?_
                  exact ret dX5_about_142 (pe_ (Eq.symm (Eq.trans (if_neg c8) (Eq.trans (if_neg c15_0) (Eq.trans (if_neg c15_1) (Eq.trans (if_neg c15_2) (Eq.trans (if_neg c15_3) (Eq.trans (if_neg c15_4) (Eq.trans (if_neg c15_5) (if_neg c15_6)))))))))) X
  · refine lv_bipush (v := (-2)) hx hb dX5_about_11 (by decide) ?_
    exact ret dX5_about_13 (pe_ (Eq.symm (if_pos c8))) X
def fX5_field (σ : CSt) (x1 : Int32) (x2 : Int32) : Int32 := (if (fX4_isThing σ x1) = (0 : Int32) then (-2 : Int32) else (fX4_inField σ x1 x2))
theorem hdX5_field : yX5_field.cls = RX5 ∧ yX5_field.cls ≠ "java/lang/invoke/MethodHandle" ∧ yX5_field.cls ≠ "java/lang/invoke/VarHandle" ∧ (parseMethodDescriptor yX5_field.desc).map (fun d => d.parameters.length) = some 2 := by decide +kernel
set_option maxHeartbeats 250000 in
set_option maxRecDepth 100000 in
theorem kX5_field (l : Launch) (D : va_G) (a : Nat → Nat) (cI cZ : ClassId) (σ : CSt) (x1 : Int32) (x2 : Int32) : CR l D (tyIZ cI cZ) (wC a cI cZ) yX5_field cX5_field 3 .int (rmk 3 65) [.ref (a 0), .int x1, .int x2] σ (fX5_field σ x1 x2) σ := by
  refine CR.of pnX5 ⟨rfl, rfl⟩ (Nat.le_of_ble_eq_true rfl) rfl (fun p e s m args below meth c A Q ls C X hA hl ret => ?_)
  have C : Cx p s m args meth c cX5_field 3 RX5 D (tyIZ cI cZ) := C
  have hx := C.1
  have hb := C.2.1
  have hl : lv_has ls 3 [(0, .ref (a 0)), (1, .int x1), (2, .int x2)] := hl
  refine lv_aload_n hx hb dX5_field_0 rfl (lv_at hl 0 rfl) ?_
  refine cg_X5_X5_things C X dX5_field_1 ?_
  refine lv_iload_n hx hb dX5_field_4 rfl (lv_at hl 1 rfl) ?_
  refine callVR (rest := []) C hA (wC_sh a cI cZ) X (kX4_isThing l D a cI cZ _ x1) (cwV 1 C.2.2.2.2.1 (gV wl_X5_265 wt_yX4_isThing ws_yX4_isThing wi_X4 wk_yX4_isThing) rfl rfl rfl hdX4_isThing ⟨Nat.le_of_ble_eq_true rfl, Nat.le_of_ble_eq_true rfl⟩) (ci := 4) (q0 := 1) rfl rfl rfl hl.1 rfl (Nat.le_of_ble_eq_true rfl) dX5_field_5 ⟨Nat.le_refl 0, Nat.le_refl 0⟩ (fun H locs X => ?_)
  refine lv_if_eq (tgt := 23) hx hb dX5_field_8 (by decide) (fun c8 => ?_) (fun c8 => ?_)
  · refine lv_bipush (v := (-2)) hx hb dX5_field_23 (by decide) ?_
    exact ret dX5_field_25 (congrArg (fun z => (z, _)) (Eq.symm (if_pos c8))) X
  · refine lv_aload_n hx hb dX5_field_11 rfl (lv_at hl 0 rfl) ?_
    refine cg_X5_X5_things C X dX5_field_12 ?_
    refine lv_iload_n hx hb dX5_field_15 rfl (lv_at hl 1 rfl) ?_
    refine lv_iload_n hx hb dX5_field_16 rfl (lv_at hl 2 rfl) ?_
    refine callVR (rest := []) C hA (wC_sh a cI cZ) X (kX4_inField l D a cI cZ _ x1 x2) (cwV 2 C.2.2.2.2.1 (gV wl_X5_128 wt_yX4_inField ws_yX4_inField wi_X4 wk_yX4_inField) rfl rfl rfl hdX4_inField ⟨Nat.le_of_ble_eq_true rfl, Nat.le_of_ble_eq_true rfl⟩) (ci := 4) (q0 := 1) rfl rfl rfl hl.1 rfl (Nat.le_of_ble_eq_true rfl) dX5_field_17 ⟨Nat.le_refl 0, Nat.le_refl 0⟩ (fun H locs X => ?_)
    refine lv_goto (tgt := 25) hx hb dX5_field_20 (by decide) ?_
    exact ret dX5_field_25 (congrArg (fun z => (z, _)) (Eq.symm (if_neg c8))) X
def fX5_holder (σ : CSt) (x1 : Int32) : Int32 := (if (0 : Int32) ≤ x1 then (if (16 : Int32) ≤ x1 then (if (22 : Int32) ≤ x1 then (if (30 : Int32) ≤ x1 then (fX1_wishAt σ (x1 - (30 : Int32))) else (fX2_keyOf σ (x1 - (22 : Int32)))) else (fX1_namedBy σ (x1 - (16 : Int32)))) else (fX1_heldAt σ x1)) else (-2 : Int32))
theorem hdX5_holder : yX5_holder.cls = RX5 ∧ yX5_holder.cls ≠ "java/lang/invoke/MethodHandle" ∧ yX5_holder.cls ≠ "java/lang/invoke/VarHandle" ∧ (parseMethodDescriptor yX5_holder.desc).map (fun d => d.parameters.length) = some 1 := by decide +kernel
set_option maxHeartbeats 250000 in
set_option maxRecDepth 100000 in
theorem kX5_holder (l : Launch) (D : va_G) (a : Nat → Nat) (cI cZ : ClassId) (σ : CSt) (x1 : Int32) : CR l D (tyIZ cI cZ) (wC a cI cZ) yX5_holder cX5_holder 2 .int (rmk 2 42) [.ref (a 0), .int x1] σ (fX5_holder σ x1) σ := by
  refine CR.of pnX5 ⟨rfl, rfl⟩ (Nat.le_of_ble_eq_true rfl) rfl (fun p e s m args below meth c A Q ls C X hA hl ret => ?_)
  have C : Cx p s m args meth c cX5_holder 2 RX5 D (tyIZ cI cZ) := C
  have hx := C.1
  have hb := C.2.1
  have hl : lv_has ls 2 [(0, .ref (a 0)), (1, .int x1)] := hl
  refine lv_iload_n hx hb dX5_holder_0 rfl (lv_at hl 1 rfl) ?_
  refine lv_if_ge (tgt := 7) hx hb dX5_holder_1 (by decide) (fun c1 => ?_) (fun c1 => ?_)
  · refine lv_iload_n hx hb dX5_holder_7 rfl (lv_at hl 1 rfl) ?_
    refine lv_bipush (v := (16)) hx hb dX5_holder_8 (by decide) ?_
    refine lv_icmp_ge (tgt := 22) hx hb dX5_holder_10 (by decide) (fun c10 => ?_) (fun c10 => ?_)
    · refine lv_iload_n hx hb dX5_holder_22 rfl (lv_at hl 1 rfl) ?_
      refine lv_bipush (v := (22)) hx hb dX5_holder_23 (by decide) ?_
      refine lv_icmp_ge (tgt := 40) hx hb dX5_holder_25 (by decide) (fun c25 => ?_) (fun c25 => ?_)
      · refine lv_iload_n hx hb dX5_holder_40 rfl (lv_at hl 1 rfl) ?_
        refine lv_bipush (v := (30)) hx hb dX5_holder_41 (by decide) ?_
        refine lv_icmp_ge (tgt := 60) hx hb dX5_holder_43 (by decide) (fun c43 => ?_) (fun c43 => ?_)
        · refine lv_aload_n hx hb dX5_holder_60 rfl (lv_at hl 0 rfl) ?_
          refine cg_X5_X5_holders C X dX5_holder_61 ?_
          refine lv_iload_n hx hb dX5_holder_64 rfl (lv_at hl 1 rfl) ?_
          refine lv_bipush (v := (30)) hx hb dX5_holder_65 (by decide) ?_
          refine lv_isub hx hb dX5_holder_67 ?_
          refine callVR (rest := []) C hA (wC_sh a cI cZ) X (kX1_wishAt l D a cI cZ _ (x1 - (30 : Int32))) (cwV 1 C.2.2.2.2.1 (gV wl_X5_280 wt_yX1_wishAt ws_yX1_wishAt wi_X1 wk_yX1_wishAt) rfl rfl rfl hdX1_wishAt ⟨Nat.le_of_ble_eq_true rfl, Nat.le_of_ble_eq_true rfl⟩) (ci := 1) (q0 := 3) rfl rfl rfl hl.1 rfl (Nat.le_of_ble_eq_true rfl) dX5_holder_68 ⟨Nat.le_refl 0, Nat.le_refl 0⟩ (fun H locs X => ?_)
          exact ret dX5_holder_71 (congrArg (fun z => (z, _)) (Eq.symm (Eq.trans (if_pos c1) (Eq.trans (if_pos c10) (Eq.trans (if_pos c25) (if_pos c43)))))) X
        · refine lv_aload_n hx hb dX5_holder_46 rfl (lv_at hl 0 rfl) ?_
          refine cg_X5_X5_pairs C X dX5_holder_47 ?_
          refine lv_iload_n hx hb dX5_holder_50 rfl (lv_at hl 1 rfl) ?_
          refine lv_bipush (v := (22)) hx hb dX5_holder_51 (by decide) ?_
          refine lv_isub hx hb dX5_holder_53 ?_
          refine callVR (rest := []) C hA (wC_sh a cI cZ) X (kX2_keyOf l D a cI cZ _ (x1 - (22 : Int32))) (cwV 1 C.2.2.2.2.1 (gV wl_X5_226 wt_yX2_keyOf ws_yX2_keyOf wi_X2 wk_yX2_keyOf) rfl rfl rfl hdX2_keyOf ⟨Nat.le_of_ble_eq_true rfl, Nat.le_of_ble_eq_true rfl⟩) (ci := 2) (q0 := 4) rfl rfl rfl hl.1 rfl (Nat.le_of_ble_eq_true rfl) dX5_holder_54 ⟨Nat.le_refl 0, Nat.le_refl 0⟩ (fun H locs X => ?_)
          refine lv_goto (tgt := 71) hx hb dX5_holder_57 (by decide) ?_
          exact ret dX5_holder_71 (congrArg (fun z => (z, _)) (Eq.symm (Eq.trans (if_pos c1) (Eq.trans (if_pos c10) (Eq.trans (if_pos c25) (if_neg c43)))))) X
      · refine lv_aload_n hx hb dX5_holder_28 rfl (lv_at hl 0 rfl) ?_
        refine cg_X5_X5_holders C X dX5_holder_29 ?_
        refine lv_iload_n hx hb dX5_holder_32 rfl (lv_at hl 1 rfl) ?_
        refine lv_bipush (v := (16)) hx hb dX5_holder_33 (by decide) ?_
        refine lv_isub hx hb dX5_holder_35 ?_
        refine callVR (rest := []) C hA (wC_sh a cI cZ) X (kX1_namedBy l D a cI cZ _ (x1 - (16 : Int32))) (cwV 1 C.2.2.2.2.1 (gV wl_X5_157 wt_yX1_namedBy ws_yX1_namedBy wi_X1 wk_yX1_namedBy) rfl rfl rfl hdX1_namedBy ⟨Nat.le_of_ble_eq_true rfl, Nat.le_of_ble_eq_true rfl⟩) (ci := 1) (q0 := 3) rfl rfl rfl hl.1 rfl (Nat.le_of_ble_eq_true rfl) dX5_holder_36 ⟨Nat.le_refl 0, Nat.le_refl 0⟩ (fun H locs X => ?_)
        exact ret dX5_holder_39 (congrArg (fun z => (z, _)) (Eq.symm (Eq.trans (if_pos c1) (Eq.trans (if_pos c10) (if_neg c25))))) X
    · refine lv_aload_n hx hb dX5_holder_13 rfl (lv_at hl 0 rfl) ?_
      refine cg_X5_X5_holders C X dX5_holder_14 ?_
      refine lv_iload_n hx hb dX5_holder_17 rfl (lv_at hl 1 rfl) ?_
      refine callVR (rest := []) C hA (wC_sh a cI cZ) X (kX1_heldAt l D a cI cZ _ x1) (cwV 1 C.2.2.2.2.1 (gV wl_X5_148 wt_yX1_heldAt ws_yX1_heldAt wi_X1 wk_yX1_heldAt) rfl rfl rfl hdX1_heldAt ⟨Nat.le_of_ble_eq_true rfl, Nat.le_of_ble_eq_true rfl⟩) (ci := 1) (q0 := 3) rfl rfl rfl hl.1 rfl (Nat.le_of_ble_eq_true rfl) dX5_holder_18 ⟨Nat.le_refl 0, Nat.le_refl 0⟩ (fun H locs X => ?_)
      exact ret dX5_holder_21 (congrArg (fun z => (z, _)) (Eq.symm (Eq.trans (if_pos c1) (if_neg c10)))) X
  · refine lv_bipush (v := (-2)) hx hb dX5_holder_4 (by decide) ?_
    exact ret dX5_holder_6 (congrArg (fun z => (z, _)) (Eq.symm (if_neg c1))) X
def fX5_cell (σ : CSt) (x1 : Int32) : Int32 := (if x1 < (0 : Int32) then (-2 : Int32) else (if x1 < (200 : Int32) then (fX0_thingAt σ x1) else (-2 : Int32)))
theorem hdX5_cell : yX5_cell.cls = RX5 ∧ yX5_cell.cls ≠ "java/lang/invoke/MethodHandle" ∧ yX5_cell.cls ≠ "java/lang/invoke/VarHandle" ∧ (parseMethodDescriptor yX5_cell.desc).map (fun d => d.parameters.length) = some 1 := by decide +kernel
set_option maxHeartbeats 250000 in
set_option maxRecDepth 100000 in
theorem kX5_cell (l : Launch) (D : va_G) (a : Nat → Nat) (cI cZ : ClassId) (σ : CSt) (x1 : Int32) : CR l D (tyIZ cI cZ) (wC a cI cZ) yX5_cell cX5_cell 2 .int (rmk 1 21) [.ref (a 0), .int x1] σ (fX5_cell σ x1) σ := by
  refine CR.of pnX5 ⟨rfl, rfl⟩ (Nat.le_of_ble_eq_true rfl) rfl (fun p e s m args below meth c A Q ls C X hA hl ret => ?_)
  have C : Cx p s m args meth c cX5_cell 2 RX5 D (tyIZ cI cZ) := C
  have hx := C.1
  have hb := C.2.1
  have hl : lv_has ls 2 [(0, .ref (a 0)), (1, .int x1)] := hl
  refine lv_iload_n hx hb dX5_cell_0 rfl (lv_at hl 1 rfl) ?_
  refine lv_if_lt (tgt := 11) hx hb dX5_cell_1 (by decide) (fun c1 => ?_) (fun c1 => ?_)
  · refine lv_bipush (v := (-2)) hx hb dX5_cell_11 (by decide) ?_
    refine lv_goto (tgt := 24) hx hb dX5_cell_13 (by decide) ?_
    exact ret dX5_cell_24 (congrArg (fun z => (z, _)) (Eq.symm (if_pos c1))) X
  · refine lv_iload_n hx hb dX5_cell_4 rfl (lv_at hl 1 rfl) ?_
    refine lv_sipush (v := (200)) hx hb dX5_cell_5 (by decide) ?_
    refine lv_icmp_lt (tgt := 16) hx hb dX5_cell_8 (by decide) (fun c8 => ?_) (fun c8 => ?_)
    · refine lv_aload_n hx hb dX5_cell_16 rfl (lv_at hl 0 rfl) ?_
      refine cg_X5_X5_cells C X dX5_cell_17 ?_
      refine lv_iload_n hx hb dX5_cell_20 rfl (lv_at hl 1 rfl) ?_
      refine callVR (rest := []) C hA (wC_sh a cI cZ) X (kX0_thingAt l D a cI cZ _ x1) (cwV 1 C.2.2.2.2.1 (gV wl_X5_283 wt_yX0_thingAt ws_yX0_thingAt wi_X0 wk_yX0_thingAt) rfl rfl rfl hdX0_thingAt ⟨Nat.le_of_ble_eq_true rfl, Nat.le_of_ble_eq_true rfl⟩) (ci := 0) (q0 := 2) rfl rfl rfl hl.1 rfl (Nat.le_of_ble_eq_true rfl) dX5_cell_21 ⟨Nat.le_refl 0, Nat.le_refl 0⟩ (fun H locs X => ?_)
      exact ret dX5_cell_24 (congrArg (fun z => (z, _)) (Eq.symm (Eq.trans (if_neg c1) (if_pos c8)))) X
    · refine lv_bipush (v := (-2)) hx hb dX5_cell_11 (by decide) ?_
      refine lv_goto (tgt := 24) hx hb dX5_cell_13 (by decide) ?_
      exact ret dX5_cell_24 (congrArg (fun z => (z, _)) (Eq.symm (Eq.trans (if_neg c1) (if_neg c8)))) X
def fX5_countByReach_L23 (z1 : Int32) : Nat → Int32 → Int32 → CSt → Int32 × CSt
  | 0, y2, y3, σ0 => (y2, σ0)
  | f + 1, y2, y3, σ0 => (if z1 = (2 : Int32) then (if (fX3_has σ0 y3) = (0 : Int32) then (fX5_countByReach_L23 z1 f y2 (y3 + 1) σ0) else (fX5_countByReach_L23 z1 f (y2 + 1) (y3 + 1) σ0)) else (if z1 = (3 : Int32) then (if (fX3_has σ0 y3) = (0 : Int32) then (fX5_countByReach_L23 z1 f y2 (y3 + 1) σ0) else (if (fX4_isFreed σ0 y3) = (0 : Int32) then (fX5_countByReach_L23 z1 f y2 (y3 + 1) σ0) else (fX5_countByReach_L23 z1 f (y2 + 1) (y3 + 1) σ0))) else (if (fX3_has σ0 y3) = (0 : Int32) then (if (fX4_isFreed σ0 y3) = (0 : Int32) then (fX5_countByReach_L23 z1 f (y2 + 1) (y3 + 1) σ0) else (fX5_countByReach_L23 z1 f y2 (y3 + 1) σ0)) else (fX5_countByReach_L23 z1 f y2 (y3 + 1) σ0))))
def fX5_countByReach (σ : CSt) (x1 : Int32) : Int32 × CSt := (fX5_countByReach_L23 x1 (((Int32.toInt (c_tmade (fX3_find σ))) - (Int32.toInt (0 : Int32))).toNat) (0 : Int32) (0 : Int32) (fX3_find σ))
theorem hdX5_countByReach : yX5_countByReach.cls = RX5 ∧ yX5_countByReach.cls ≠ "java/lang/invoke/MethodHandle" ∧ yX5_countByReach.cls ≠ "java/lang/invoke/VarHandle" ∧ (parseMethodDescriptor yX5_countByReach.desc).map (fun d => d.parameters.length) = some 1 := by decide +kernel
set_option maxHeartbeats 250000 in
set_option maxRecDepth 100000 in
theorem kX5_countByReach (l : Launch) (D : va_G) (a : Nat → Nat) (cI cZ : ClassId) (σ : CSt) (x1 : Int32) : CR l D (tyIZ cI cZ) (wC a cI cZ) yX5_countByReach cX5_countByReach 7 .int (rmk 5 112) [.ref (a 0), .int x1] σ (fX5_countByReach σ x1).1 (fX5_countByReach σ x1).2 := by
  refine CR.of pnX5 ⟨rfl, rfl⟩ (Nat.le_of_ble_eq_true rfl) rfl (fun p e s m args below meth c A Q ls C X hA hl ret => ?_)
  have C : Cx p s m args meth c cX5_countByReach 7 RX5 D (tyIZ cI cZ) := C
  have hx := C.1
  have hb := C.2.1
  have hl : lv_has ls 7 [(0, .ref (a 0)), (1, .int x1)] := hl
  refine lv_aload_n hx hb dX5_countByReach_0 rfl (lv_at hl 0 rfl) ?_
  refine cg_X5_X5_reach C X dX5_countByReach_1 ?_
  refine lv_aload_n hx hb dX5_countByReach_4 rfl (lv_at hl 0 rfl) ?_
  refine cg_X5_X5_things C X dX5_countByReach_5 ?_
  refine lv_aload_n hx hb dX5_countByReach_8 rfl (lv_at hl 0 rfl) ?_
  refine cg_X5_X5_holders C X dX5_countByReach_9 ?_
  refine lv_aload_n hx hb dX5_countByReach_12 rfl (lv_at hl 0 rfl) ?_
  refine cg_X5_X5_pairs C X dX5_countByReach_13 ?_
  refine callVU (rest := []) C hA (wC_sh a cI cZ) X (kX3_find l D a cI cZ _ ) (cwV 3 C.2.2.2.2.1 (gV wl_X5_298 wt_yX3_find ws_yX3_find wi_X3 wk_yX3_find) rfl rfl rfl hdX3_find ⟨Nat.le_of_ble_eq_true rfl, Nat.le_of_ble_eq_true rfl⟩) (ci := 3) (q0 := 5) rfl rfl rfl hl.1 rfl (Nat.le_of_ble_eq_true rfl) dX5_countByReach_16 ⟨Nat.le_refl 0, Nat.le_refl 0⟩ (fun H locs X => ?_)
  refine lv_iconst (v := (0)) hx hb dX5_countByReach_19 (by decide) ?_
  refine lv_istore_n (lv' := [(2, .int (0 : Int32)), (0, .ref (a 0)), (1, .int x1)]) hx hb dX5_countByReach_20 rfl hl (by decide) rfl (fun ls hl => ?_)
  refine lv_iconst (v := (0)) hx hb dX5_countByReach_21 (by decide) ?_
  refine lv_istore_n (lv' := [(3, .int (0 : Int32)), (2, .int (0 : Int32)), (0, .ref (a 0)), (1, .int x1)]) hx hb dX5_countByReach_22 rfl hl (by decide) rfl (fun ls hl => ?_)
  have L23 : ∀ (f : Nat) (y2 : Int32) (y3 : Int32) (hf : ((Int32.toInt (c_tmade (fX3_find σ))) - (Int32.toInt y3)).toNat = f) (hnn : 0 ≤ Int32.toInt y3) (he : fX5_countByReach_L23 x1 f y2 y3 (fX3_find σ) = (fX5_countByReach σ x1)) (H : Heap) (locs : List Loc) (ls : Array Slot) (X : Sx A D (wC a cI cZ (fX3_find σ)) s H locs) (hl : lv_has ls 7 [(0, .ref (a 0)), (1, .int x1), (2, .int y2), (3, .int y3)]), W p l e (rmk 5 112) s m args below meth c H locs 0 0 Q (F0 m 23 ls []) := by
    intro f
    induction f with
    | zero =>
      intro y2 y3 hf hnn he H locs ls X hl
      refine lv_iload_n hx hb dX5_countByReach_23 rfl (lv_at hl 3 rfl) ?_
      refine lv_aload_n hx hb dX5_countByReach_24 rfl (lv_at hl 0 rfl) ?_
      refine cg_X5_X5_things C X dX5_countByReach_25 ?_
      refine cg_X5_X4_made (v := (c_tmade (fX3_find σ))) C X rfl dX5_countByReach_28 ?_
      refine lv_icmp_ge (tgt := 118) hx hb dX5_countByReach_31 (by decide) (fun c31 => ?_) (fun c31 => (lp_z hf c31).elim)
      refine lv_iload_n hx hb dX5_countByReach_118 rfl (lv_at hl 2 rfl) ?_
      exact ret dX5_countByReach_119 (pe_ he) X
    | succ f ih23 =>
      intro y2 y3 hf hnn he H locs ls X hl
      refine lv_iload_n hx hb dX5_countByReach_23 rfl (lv_at hl 3 rfl) ?_
      refine lv_aload_n hx hb dX5_countByReach_24 rfl (lv_at hl 0 rfl) ?_
      refine cg_X5_X5_things C X dX5_countByReach_25 ?_
      refine cg_X5_X4_made (v := (c_tmade (fX3_find σ))) C X rfl dX5_countByReach_28 ?_
      refine lv_icmp_ge (tgt := 118) hx hb dX5_countByReach_31 (by decide) (fun c31 => (lp_s hf c31).elim) (fun c31 => ?_)
      refine lv_aload_n hx hb dX5_countByReach_34 rfl (lv_at hl 0 rfl) ?_
      refine cg_X5_X5_reach C X dX5_countByReach_35 ?_
      refine lv_iload_n hx hb dX5_countByReach_38 rfl (lv_at hl 3 rfl) ?_
      refine callVR (rest := []) C hA (wC_sh a cI cZ) X (kX3_has l D a cI cZ _ y3) (cwV 1 C.2.2.2.2.1 (gV wl_X5_302 wt_yX3_has ws_yX3_has wi_X3 wk_yX3_has) rfl rfl rfl hdX3_has ⟨Nat.le_of_ble_eq_true rfl, Nat.le_of_ble_eq_true rfl⟩) (ci := 3) (q0 := 5) rfl rfl rfl hl.1 rfl (Nat.le_of_ble_eq_true rfl) dX5_countByReach_39 ⟨Nat.le_refl 0, Nat.le_refl 0⟩ (fun H locs X => ?_)
      refine lv_istore (lv' := [(4, .int (fX3_has (fX3_find σ) y3)), (0, .ref (a 0)), (1, .int x1), (2, .int y2), (3, .int y3)]) hx hb dX5_countByReach_42 hl (by decide) rfl (fun ls hl => ?_)
      refine lv_aload_n hx hb dX5_countByReach_44 rfl (lv_at hl 1 rfl) ?_
      refine cg_X5_X5_things C X dX5_countByReach_45 ?_
      refine lv_iload_n hx hb dX5_countByReach_48 rfl (lv_at hl 4 rfl) ?_
      refine callVR (rest := []) C hA (wC_sh a cI cZ) X (kX4_isFreed l D a cI cZ _ y3) (cwV 1 C.2.2.2.2.1 (gV wl_X5_141 wt_yX4_isFreed ws_yX4_isFreed wi_X4 wk_yX4_isFreed) rfl rfl rfl hdX4_isFreed ⟨Nat.le_of_ble_eq_true rfl, Nat.le_of_ble_eq_true rfl⟩) (ci := 4) (q0 := 1) rfl rfl rfl hl.1 rfl (Nat.le_of_ble_eq_true rfl) dX5_countByReach_49 ⟨Nat.le_refl 0, Nat.le_refl 0⟩ (fun H locs X => ?_)
      refine lv_istore (lv' := [(5, .int (fX4_isFreed (fX3_find σ) y3)), (4, .int (fX3_has (fX3_find σ) y3)), (0, .ref (a 0)), (1, .int x1), (2, .int y2), (3, .int y3)]) hx hb dX5_countByReach_52 hl (by decide) rfl (fun ls hl => ?_)
      refine lv_iload_n hx hb dX5_countByReach_54 rfl (lv_at hl 3 rfl) ?_
      refine lv_iconst (v := (2)) hx hb dX5_countByReach_55 (by decide) ?_
      refine lv_icmp_ne (tgt := 64) hx hb dX5_countByReach_56 (by decide) (fun c56 => ?_) (fun c56 => ?_)
      · refine lv_iload_n hx hb dX5_countByReach_64 rfl (lv_at hl 3 rfl) ?_
        refine lv_iconst (v := (3)) hx hb dX5_countByReach_65 (by decide) ?_
        refine lv_icmp_ne (tgt := 87) hx hb dX5_countByReach_66 (by decide) (fun c66 => ?_) (fun c66 => ?_)
        · refine lv_iload hx hb dX5_countByReach_87 (lv_at hl 1 rfl) ?_
          refine lv_if_ne (tgt := 101) hx hb dX5_countByReach_89 (by decide) (fun c89 => ?_) (fun c89 => ?_)
          · refine lv_iconst (v := (0)) hx hb dX5_countByReach_101 (by decide) ?_
            refine lv_istore (lv' := [(6, .int (0 : Int32)), (5, .int (fX4_isFreed (fX3_find σ) y3)), (4, .int (fX3_has (fX3_find σ) y3)), (0, .ref (a 0)), (1, .int x1), (2, .int y2), (3, .int y3)]) hx hb dX5_countByReach_102 hl (by decide) rfl (fun ls hl => ?_)
            refine lv_iload hx hb dX5_countByReach_104 (lv_at hl 0 rfl) ?_
            refine lv_if_eq (tgt := 112) hx hb dX5_countByReach_106 (by decide) (fun c106 => ?_) (fun c106 => absurd c106 (by decide))
            refine lv_iinc (v := (y3 + 1)) (lv' := [(3, .int (y3 + 1)), (6, .int (0 : Int32)), (5, .int (fX4_isFreed (fX3_find σ) y3)), (4, .int (fX3_has (fX3_find σ) y3)), (0, .ref (a 0)), (1, .int x1), (2, .int y2)]) hx hb dX5_countByReach_112 hl (k := 6) rfl rfl (by decide) rfl (fun ls hl => ?_)
            refine lv_goto (tgt := 23) hx hb dX5_countByReach_115 (by decide) ?_
            exact ih23 y2 (y3 + 1) (lp_b hf) (lp_nn hnn hf) (Eq.trans (Eq.symm (Eq.trans (if_neg c56) (Eq.trans (if_neg c66) (if_neg c89)))) he) _ _ _ X (lv_sub hl [4, 5, 6, 0] rfl)
          · refine lv_iload hx hb dX5_countByReach_92 (lv_at hl 0 rfl) ?_
            refine lv_if_ne (tgt := 101) hx hb dX5_countByReach_94 (by decide) (fun c94 => ?_) (fun c94 => ?_)
            · refine lv_iconst (v := (0)) hx hb dX5_countByReach_101 (by decide) ?_
              refine lv_istore (lv' := [(6, .int (0 : Int32)), (5, .int (fX4_isFreed (fX3_find σ) y3)), (4, .int (fX3_has (fX3_find σ) y3)), (0, .ref (a 0)), (1, .int x1), (2, .int y2), (3, .int y3)]) hx hb dX5_countByReach_102 hl (by decide) rfl (fun ls hl => ?_)
              refine lv_iload hx hb dX5_countByReach_104 (lv_at hl 0 rfl) ?_
              refine lv_if_eq (tgt := 112) hx hb dX5_countByReach_106 (by decide) (fun c106 => ?_) (fun c106 => absurd c106 (by decide))
              refine lv_iinc (v := (y3 + 1)) (lv' := [(3, .int (y3 + 1)), (6, .int (0 : Int32)), (5, .int (fX4_isFreed (fX3_find σ) y3)), (4, .int (fX3_has (fX3_find σ) y3)), (0, .ref (a 0)), (1, .int x1), (2, .int y2)]) hx hb dX5_countByReach_112 hl (k := 6) rfl rfl (by decide) rfl (fun ls hl => ?_)
              refine lv_goto (tgt := 23) hx hb dX5_countByReach_115 (by decide) ?_
              exact ih23 y2 (y3 + 1) (lp_b hf) (lp_nn hnn hf) (Eq.trans (Eq.symm (Eq.trans (if_neg c56) (Eq.trans (if_neg c66) (Eq.trans (if_pos c89) (if_neg c94))))) he) _ _ _ X (lv_sub hl [4, 5, 6, 0] rfl)
            · refine lv_iconst (v := (1)) hx hb dX5_countByReach_97 (by decide) ?_
              refine lv_goto (tgt := 102) hx hb dX5_countByReach_98 (by decide) ?_
              refine lv_istore (lv' := [(6, .int (1 : Int32)), (5, .int (fX4_isFreed (fX3_find σ) y3)), (4, .int (fX3_has (fX3_find σ) y3)), (0, .ref (a 0)), (1, .int x1), (2, .int y2), (3, .int y3)]) hx hb dX5_countByReach_102 hl (by decide) rfl (fun ls hl => ?_)
              refine lv_iload hx hb dX5_countByReach_104 (lv_at hl 0 rfl) ?_
              refine lv_if_eq (tgt := 112) hx hb dX5_countByReach_106 (by decide) (fun c106 => absurd c106 (by decide)) (fun c106 => ?_)
              refine lv_iinc (v := (y2 + 1)) (lv' := [(2, .int (y2 + 1)), (6, .int (1 : Int32)), (5, .int (fX4_isFreed (fX3_find σ) y3)), (4, .int (fX3_has (fX3_find σ) y3)), (0, .ref (a 0)), (1, .int x1), (3, .int y3)]) hx hb dX5_countByReach_109 hl (k := 5) rfl rfl (by decide) rfl (fun ls hl => ?_)
              refine lv_iinc (v := (y3 + 1)) (lv' := [(3, .int (y3 + 1)), (2, .int (y2 + 1)), (6, .int (1 : Int32)), (5, .int (fX4_isFreed (fX3_find σ) y3)), (4, .int (fX3_has (fX3_find σ) y3)), (0, .ref (a 0)), (1, .int x1)]) hx hb dX5_countByReach_112 hl (k := 6) rfl rfl (by decide) rfl (fun ls hl => ?_)
              refine lv_goto (tgt := 23) hx hb dX5_countByReach_115 (by decide) ?_
              exact ih23 (y2 + 1) (y3 + 1) (lp_b hf) (lp_nn hnn hf) (Eq.trans (Eq.symm (Eq.trans (if_neg c56) (Eq.trans (if_neg c66) (Eq.trans (if_pos c89) (if_pos c94))))) he) _ _ _ X (lv_sub hl [5, 6, 1, 0] rfl)
        · refine lv_iload hx hb dX5_countByReach_69 (lv_at hl 1 rfl) ?_
          refine lv_if_eq (tgt := 83) hx hb dX5_countByReach_71 (by decide) (fun c71 => ?_) (fun c71 => ?_)
          · refine lv_iconst (v := (0)) hx hb dX5_countByReach_83 (by decide) ?_
            refine lv_goto (tgt := 102) hx hb dX5_countByReach_84 (by decide) ?_
            refine lv_istore (lv' := [(6, .int (0 : Int32)), (5, .int (fX4_isFreed (fX3_find σ) y3)), (4, .int (fX3_has (fX3_find σ) y3)), (0, .ref (a 0)), (1, .int x1), (2, .int y2), (3, .int y3)]) hx hb dX5_countByReach_102 hl (by decide) rfl (fun ls hl => ?_)
            refine lv_iload hx hb dX5_countByReach_104 (lv_at hl 0 rfl) ?_
            refine lv_if_eq (tgt := 112) hx hb dX5_countByReach_106 (by decide) (fun c106 => ?_) (fun c106 => absurd c106 (by decide))
            refine lv_iinc (v := (y3 + 1)) (lv' := [(3, .int (y3 + 1)), (6, .int (0 : Int32)), (5, .int (fX4_isFreed (fX3_find σ) y3)), (4, .int (fX3_has (fX3_find σ) y3)), (0, .ref (a 0)), (1, .int x1), (2, .int y2)]) hx hb dX5_countByReach_112 hl (k := 6) rfl rfl (by decide) rfl (fun ls hl => ?_)
            refine lv_goto (tgt := 23) hx hb dX5_countByReach_115 (by decide) ?_
            exact ih23 y2 (y3 + 1) (lp_b hf) (lp_nn hnn hf) (Eq.trans (Eq.symm (Eq.trans (if_neg c56) (Eq.trans (if_pos c66) (if_pos c71)))) he) _ _ _ X (lv_sub hl [4, 5, 6, 0] rfl)
          · refine lv_iload hx hb dX5_countByReach_74 (lv_at hl 0 rfl) ?_
            refine lv_if_eq (tgt := 83) hx hb dX5_countByReach_76 (by decide) (fun c76 => ?_) (fun c76 => ?_)
            · refine lv_iconst (v := (0)) hx hb dX5_countByReach_83 (by decide) ?_
              refine lv_goto (tgt := 102) hx hb dX5_countByReach_84 (by decide) ?_
              refine lv_istore (lv' := [(6, .int (0 : Int32)), (5, .int (fX4_isFreed (fX3_find σ) y3)), (4, .int (fX3_has (fX3_find σ) y3)), (0, .ref (a 0)), (1, .int x1), (2, .int y2), (3, .int y3)]) hx hb dX5_countByReach_102 hl (by decide) rfl (fun ls hl => ?_)
              refine lv_iload hx hb dX5_countByReach_104 (lv_at hl 0 rfl) ?_
              refine lv_if_eq (tgt := 112) hx hb dX5_countByReach_106 (by decide) (fun c106 => ?_) (fun c106 => absurd c106 (by decide))
              refine lv_iinc (v := (y3 + 1)) (lv' := [(3, .int (y3 + 1)), (6, .int (0 : Int32)), (5, .int (fX4_isFreed (fX3_find σ) y3)), (4, .int (fX3_has (fX3_find σ) y3)), (0, .ref (a 0)), (1, .int x1), (2, .int y2)]) hx hb dX5_countByReach_112 hl (k := 6) rfl rfl (by decide) rfl (fun ls hl => ?_)
              refine lv_goto (tgt := 23) hx hb dX5_countByReach_115 (by decide) ?_
              exact ih23 y2 (y3 + 1) (lp_b hf) (lp_nn hnn hf) (Eq.trans (Eq.symm (Eq.trans (if_neg c56) (Eq.trans (if_pos c66) (Eq.trans (if_neg c71) (if_pos c76))))) he) _ _ _ X (lv_sub hl [4, 5, 6, 0] rfl)
            · refine lv_iconst (v := (1)) hx hb dX5_countByReach_79 (by decide) ?_
              refine lv_goto (tgt := 102) hx hb dX5_countByReach_80 (by decide) ?_
              refine lv_istore (lv' := [(6, .int (1 : Int32)), (5, .int (fX4_isFreed (fX3_find σ) y3)), (4, .int (fX3_has (fX3_find σ) y3)), (0, .ref (a 0)), (1, .int x1), (2, .int y2), (3, .int y3)]) hx hb dX5_countByReach_102 hl (by decide) rfl (fun ls hl => ?_)
              refine lv_iload hx hb dX5_countByReach_104 (lv_at hl 0 rfl) ?_
              refine lv_if_eq (tgt := 112) hx hb dX5_countByReach_106 (by decide) (fun c106 => absurd c106 (by decide)) (fun c106 => ?_)
              refine lv_iinc (v := (y2 + 1)) (lv' := [(2, .int (y2 + 1)), (6, .int (1 : Int32)), (5, .int (fX4_isFreed (fX3_find σ) y3)), (4, .int (fX3_has (fX3_find σ) y3)), (0, .ref (a 0)), (1, .int x1), (3, .int y3)]) hx hb dX5_countByReach_109 hl (k := 5) rfl rfl (by decide) rfl (fun ls hl => ?_)
              refine lv_iinc (v := (y3 + 1)) (lv' := [(3, .int (y3 + 1)), (2, .int (y2 + 1)), (6, .int (1 : Int32)), (5, .int (fX4_isFreed (fX3_find σ) y3)), (4, .int (fX3_has (fX3_find σ) y3)), (0, .ref (a 0)), (1, .int x1)]) hx hb dX5_countByReach_112 hl (k := 6) rfl rfl (by decide) rfl (fun ls hl => ?_)
              refine lv_goto (tgt := 23) hx hb dX5_countByReach_115 (by decide) ?_
              exact ih23 (y2 + 1) (y3 + 1) (lp_b hf) (lp_nn hnn hf) (Eq.trans (Eq.symm (Eq.trans (if_neg c56) (Eq.trans (if_pos c66) (Eq.trans (if_neg c71) (if_neg c76))))) he) _ _ _ X (lv_sub hl [5, 6, 1, 0] rfl)
      · refine lv_iload hx hb dX5_countByReach_59 (lv_at hl 1 rfl) ?_
        refine lv_goto (tgt := 102) hx hb dX5_countByReach_61 (by decide) ?_
        refine lv_istore (lv' := [(6, .int (fX3_has (fX3_find σ) y3)), (5, .int (fX4_isFreed (fX3_find σ) y3)), (4, .int (fX3_has (fX3_find σ) y3)), (0, .ref (a 0)), (1, .int x1), (2, .int y2), (3, .int y3)]) hx hb dX5_countByReach_102 hl (by decide) rfl (fun ls hl => ?_)
        refine lv_iload hx hb dX5_countByReach_104 (lv_at hl 0 rfl) ?_
        refine lv_if_eq (tgt := 112) hx hb dX5_countByReach_106 (by decide) (fun c106 => ?_) (fun c106 => ?_)
        · refine lv_iinc (v := (y3 + 1)) (lv' := [(3, .int (y3 + 1)), (6, .int (fX3_has (fX3_find σ) y3)), (5, .int (fX4_isFreed (fX3_find σ) y3)), (4, .int (fX3_has (fX3_find σ) y3)), (0, .ref (a 0)), (1, .int x1), (2, .int y2)]) hx hb dX5_countByReach_112 hl (k := 6) rfl rfl (by decide) rfl (fun ls hl => ?_)
          refine lv_goto (tgt := 23) hx hb dX5_countByReach_115 (by decide) ?_
          exact ih23 y2 (y3 + 1) (lp_b hf) (lp_nn hnn hf) (Eq.trans (Eq.symm (Eq.trans (if_pos c56) (if_pos c106))) he) _ _ _ X (lv_sub hl [4, 5, 6, 0] rfl)
        · refine lv_iinc (v := (y2 + 1)) (lv' := [(2, .int (y2 + 1)), (6, .int (fX3_has (fX3_find σ) y3)), (5, .int (fX4_isFreed (fX3_find σ) y3)), (4, .int (fX3_has (fX3_find σ) y3)), (0, .ref (a 0)), (1, .int x1), (3, .int y3)]) hx hb dX5_countByReach_109 hl (k := 5) rfl rfl (by decide) rfl (fun ls hl => ?_)
          refine lv_iinc (v := (y3 + 1)) (lv' := [(3, .int (y3 + 1)), (2, .int (y2 + 1)), (6, .int (fX3_has (fX3_find σ) y3)), (5, .int (fX4_isFreed (fX3_find σ) y3)), (4, .int (fX3_has (fX3_find σ) y3)), (0, .ref (a 0)), (1, .int x1)]) hx hb dX5_countByReach_112 hl (k := 6) rfl rfl (by decide) rfl (fun ls hl => ?_)
          refine lv_goto (tgt := 23) hx hb dX5_countByReach_115 (by decide) ?_
          exact ih23 (y2 + 1) (y3 + 1) (lp_b hf) (lp_nn hnn hf) (Eq.trans (Eq.symm (Eq.trans (if_pos c56) (if_neg c106))) he) _ _ _ X (lv_sub hl [5, 6, 1, 0] rfl)
  exact L23 (((Int32.toInt (c_tmade (fX3_find σ))) - (Int32.toInt (0 : Int32))).toNat) (0 : Int32) (0 : Int32) rfl (by decide) rfl _ _ _ X (lv_sub hl [2, 3, 1, 0] rfl)
def fX5_count (σ : CSt) (x1 : Int32) : Int32 × CSt := (if x1 = (0 : Int32) then ((c_tmade σ), σ) else (if x1 = (1 : Int32) then ((fX4_countNotFreed σ), σ) else (if x1 = (2 : Int32) then ((fX5_countByReach σ x1).1, (fX5_countByReach σ x1).2) else (if x1 = (3 : Int32) then ((fX5_countByReach σ x1).1, (fX5_countByReach σ x1).2) else (if x1 = (4 : Int32) then ((fX5_countByReach σ x1).1, (fX5_countByReach σ x1).2) else (if x1 = (5 : Int32) then (if (c_manner σ) = (3 : Int32) then ((fX0_leftBehind σ), σ) else ((fX0_countFree σ), σ)) else (if x1 = (6 : Int32) then (if (c_manner σ) = (3 : Int32) then ((fX0_leftBehind σ), σ) else ((fX0_longestFree σ), σ)) else (if x1 = (7 : Int32) then ((c_rounds σ), σ) else (if x1 = (8 : Int32) then ((c_steps σ), σ) else (if x1 = (9 : Int32) then ((c_shaded σ), σ) else (if x1 = (10 : Int32) then ((c_moved σ), σ) else (if x1 = (11 : Int32) then ((c_wishes σ), σ) else (if x1 = (12 : Int32) then ((fX2_countNotDropped σ), σ) else ((-2 : Int32), σ))))))))))))))
theorem hdX5_count : yX5_count.cls = RX5 ∧ yX5_count.cls ≠ "java/lang/invoke/MethodHandle" ∧ yX5_count.cls ≠ "java/lang/invoke/VarHandle" ∧ (parseMethodDescriptor yX5_count.desc).map (fun d => d.parameters.length) = some 1 := by decide +kernel
set_option maxHeartbeats 250000 in
set_option maxRecDepth 100000 in
theorem kX5_count (l : Launch) (D : va_G) (a : Nat → Nat) (cI cZ : ClassId) (σ : CSt) (x1 : Int32) : CR l D (tyIZ cI cZ) (wC a cI cZ) yX5_count cX5_count 2 .int (rmk 6 138) [.ref (a 0), .int x1] σ (fX5_count σ x1).1 (fX5_count σ x1).2 := by
  refine CR.of pnX5 ⟨rfl, rfl⟩ (Nat.le_of_ble_eq_true rfl) rfl (fun p e s m args below meth c A Q ls C X hA hl ret => ?_)
  have C : Cx p s m args meth c cX5_count 2 RX5 D (tyIZ cI cZ) := C
  have hx := C.1
  have hb := C.2.1
  have hl : lv_has ls 2 [(0, .ref (a 0)), (1, .int x1)] := hl
  refine lv_iload_n hx hb dX5_count_0 rfl (lv_at hl 1 rfl) ?_
  by_cases c1_0 : x1 = (0 : Int32)
  · refine lv_tableIn (tgt := 68) (off := (67)) hx hb dX5_count_1 (by rw [c1_0]; decide) (by rw [c1_0]; decide) (by rw [c1_0]; rfl) (by decide) ?_
    refine lv_aload_n hx hb dX5_count_68 rfl (lv_at hl 0 rfl) ?_
    refine cg_X5_X5_things C X dX5_count_69 ?_
    refine cg_X5_X4_made (v := (c_tmade σ)) C X rfl dX5_count_72 ?_
    exact ret dX5_count_75 (pe_ (Eq.symm (if_pos c1_0))) X
  · skip
    by_cases c1_1 : x1 = (1 : Int32)
    · refine lv_tableIn (tgt := 76) (off := (75)) hx hb dX5_count_1 (by rw [c1_1]; decide) (by rw [c1_1]; decide) (by rw [c1_1]; rfl) (by decide) ?_
      refine lv_aload_n hx hb dX5_count_76 rfl (lv_at hl 0 rfl) ?_
      refine cg_X5_X5_things C X dX5_count_77 ?_
      refine callVR (rest := []) C hA (wC_sh a cI cZ) X (kX4_countNotFreed l D a cI cZ _ ) (cwV 0 C.2.2.2.2.1 (gV wl_X5_186 wt_yX4_countNotFreed ws_yX4_countNotFreed wi_X4 wk_yX4_countNotFreed) rfl rfl rfl hdX4_countNotFreed ⟨Nat.le_of_ble_eq_true rfl, Nat.le_of_ble_eq_true rfl⟩) (ci := 4) (q0 := 1) rfl rfl rfl hl.1 rfl (Nat.le_of_ble_eq_true rfl) dX5_count_80 ⟨Nat.le_refl 0, Nat.le_refl 0⟩ (fun H locs X => ?_)
      exact ret dX5_count_83 (pe_ (Eq.symm (Eq.trans (if_neg c1_0) (if_pos c1_1)))) X
    · skip
      by_cases c1_2 : x1 = (2 : Int32)
      · refine lv_tableIn (tgt := 84) (off := (83)) hx hb dX5_count_1 (by rw [c1_2]; decide) (by rw [c1_2]; decide) (by rw [c1_2]; rfl) (by decide) ?_
        refine lv_aload_n hx hb dX5_count_84 rfl (lv_at hl 0 rfl) ?_
        refine lv_iload_n hx hb dX5_count_85 rfl (lv_at hl 1 rfl) ?_
        refine callVR (rest := []) C hA (wC_sh a cI cZ) X (kX5_countByReach l D a cI cZ _ x1) (cwV 1 C.2.2.2.2.1 (gV wl_X5_286 wt_yX5_countByReach ws_yX5_countByReach wi_X5 wk_yX5_countByReach) rfl rfl rfl hdX5_countByReach ⟨Nat.le_of_ble_eq_true rfl, Nat.le_of_ble_eq_true rfl⟩) (ci := 5) (q0 := 0) rfl rfl rfl hl.1 rfl (Nat.le_of_ble_eq_true rfl) dX5_count_86 ⟨Nat.le_refl 0, Nat.le_refl 0⟩ (fun H locs X => ?_)
        exact ret dX5_count_89 (pe_ (Eq.symm (Eq.trans (if_neg c1_0) (Eq.trans (if_neg c1_1) (if_pos c1_2))))) X
      · skip
        by_cases c1_3 : x1 = (3 : Int32)
        · refine lv_tableIn (tgt := 84) (off := (83)) hx hb dX5_count_1 (by rw [c1_3]; decide) (by rw [c1_3]; decide) (by rw [c1_3]; rfl) (by decide) ?_
          refine lv_aload_n hx hb dX5_count_84 rfl (lv_at hl 0 rfl) ?_
          refine lv_iload_n hx hb dX5_count_85 rfl (lv_at hl 1 rfl) ?_
          refine callVR (rest := []) C hA (wC_sh a cI cZ) X (kX5_countByReach l D a cI cZ _ x1) (cwV 1 C.2.2.2.2.1 (gV wl_X5_286 wt_yX5_countByReach ws_yX5_countByReach wi_X5 wk_yX5_countByReach) rfl rfl rfl hdX5_countByReach ⟨Nat.le_of_ble_eq_true rfl, Nat.le_of_ble_eq_true rfl⟩) (ci := 5) (q0 := 0) rfl rfl rfl hl.1 rfl (Nat.le_of_ble_eq_true rfl) dX5_count_86 ⟨Nat.le_refl 0, Nat.le_refl 0⟩ (fun H locs X => ?_)
          exact ret dX5_count_89 (pe_ (Eq.symm (Eq.trans (if_neg c1_0) (Eq.trans (if_neg c1_1) (Eq.trans (if_neg c1_2) (if_pos c1_3)))))) X
        · skip
          by_cases c1_4 : x1 = (4 : Int32)
          · refine lv_tableIn (tgt := 84) (off := (83)) hx hb dX5_count_1 (by rw [c1_4]; decide) (by rw [c1_4]; decide) (by rw [c1_4]; rfl) (by decide) ?_
            refine lv_aload_n hx hb dX5_count_84 rfl (lv_at hl 0 rfl) ?_
            refine lv_iload_n hx hb dX5_count_85 rfl (lv_at hl 1 rfl) ?_
            refine callVR (rest := []) C hA (wC_sh a cI cZ) X (kX5_countByReach l D a cI cZ _ x1) (cwV 1 C.2.2.2.2.1 (gV wl_X5_286 wt_yX5_countByReach ws_yX5_countByReach wi_X5 wk_yX5_countByReach) rfl rfl rfl hdX5_countByReach ⟨Nat.le_of_ble_eq_true rfl, Nat.le_of_ble_eq_true rfl⟩) (ci := 5) (q0 := 0) rfl rfl rfl hl.1 rfl (Nat.le_of_ble_eq_true rfl) dX5_count_86 ⟨Nat.le_refl 0, Nat.le_refl 0⟩ (fun H locs X => ?_)
            exact ret dX5_count_89 (pe_ (Eq.symm (Eq.trans (if_neg c1_0) (Eq.trans (if_neg c1_1) (Eq.trans (if_neg c1_2) (Eq.trans (if_neg c1_3) (if_pos c1_4))))))) X
          · skip
            by_cases c1_5 : x1 = (5 : Int32)
            · refine lv_tableIn (tgt := 90) (off := (89)) hx hb dX5_count_1 (by rw [c1_5]; decide) (by rw [c1_5]; decide) (by rw [c1_5]; rfl) (by decide) ?_
              refine lv_aload_n hx hb dX5_count_90 rfl (lv_at hl 0 rfl) ?_
              refine cg_X5_X5_manner (v := (c_manner σ)) C X rfl dX5_count_91 ?_
              refine lv_iconst (v := (3)) hx hb dX5_count_94 (by decide) ?_
              refine lv_icmp_ne (tgt := 108) hx hb dX5_count_95 (by decide) (fun c95 => ?_) (fun c95 => ?_)
              · refine lv_aload_n hx hb dX5_count_108 rfl (lv_at hl 0 rfl) ?_
                refine cg_X5_X5_cells C X dX5_count_109 ?_
                refine callVR (rest := []) C hA (wC_sh a cI cZ) X (kX0_countFree l D a cI cZ _ ) (cwV 0 C.2.2.2.2.1 (gV wl_X5_289 wt_yX0_countFree ws_yX0_countFree wi_X0 wk_yX0_countFree) rfl rfl rfl hdX0_countFree ⟨Nat.le_of_ble_eq_true rfl, Nat.le_of_ble_eq_true rfl⟩) (ci := 0) (q0 := 2) rfl rfl rfl hl.1 rfl (Nat.le_of_ble_eq_true rfl) dX5_count_112 ⟨Nat.le_refl 0, Nat.le_refl 0⟩ (fun H locs X => ?_)
                exact ret dX5_count_115 (pe_ (Eq.symm (Eq.trans (if_neg c1_0) (Eq.trans (if_neg c1_1) (Eq.trans (if_neg c1_2) (Eq.trans (if_neg c1_3) (Eq.trans (if_neg c1_4) (Eq.trans (if_pos c1_5) (if_neg c95))))))))) X
              · refine lv_aload_n hx hb dX5_count_98 rfl (lv_at hl 0 rfl) ?_
                refine cg_X5_X5_cells C X dX5_count_99 ?_
                refine callVR (rest := []) C hA (wC_sh a cI cZ) X (kX0_leftBehind l D a cI cZ _ ) (cwV 0 C.2.2.2.2.1 (gV wl_X5_116 wt_yX0_leftBehind ws_yX0_leftBehind wi_X0 wk_yX0_leftBehind) rfl rfl rfl hdX0_leftBehind ⟨Nat.le_of_ble_eq_true rfl, Nat.le_of_ble_eq_true rfl⟩) (ci := 0) (q0 := 2) rfl rfl rfl hl.1 rfl (Nat.le_of_ble_eq_true rfl) dX5_count_102 ⟨Nat.le_refl 0, Nat.le_refl 0⟩ (fun H locs X => ?_)
                refine lv_goto (tgt := 115) hx hb dX5_count_105 (by decide) ?_
                exact ret dX5_count_115 (pe_ (Eq.symm (Eq.trans (if_neg c1_0) (Eq.trans (if_neg c1_1) (Eq.trans (if_neg c1_2) (Eq.trans (if_neg c1_3) (Eq.trans (if_neg c1_4) (Eq.trans (if_pos c1_5) (if_pos c95))))))))) X
            · skip
              by_cases c1_6 : x1 = (6 : Int32)
              · refine lv_tableIn (tgt := 116) (off := (115)) hx hb dX5_count_1 (by rw [c1_6]; decide) (by rw [c1_6]; decide) (by rw [c1_6]; rfl) (by decide) ?_
                refine lv_aload_n hx hb dX5_count_116 rfl (lv_at hl 0 rfl) ?_
                refine cg_X5_X5_manner (v := (c_manner σ)) C X rfl dX5_count_117 ?_
                refine lv_iconst (v := (3)) hx hb dX5_count_120 (by decide) ?_
                refine lv_icmp_ne (tgt := 134) hx hb dX5_count_121 (by decide) (fun c121 => ?_) (fun c121 => ?_)
                · refine lv_aload_n hx hb dX5_count_134 rfl (lv_at hl 0 rfl) ?_
                  refine cg_X5_X5_cells C X dX5_count_135 ?_
                  refine callVR (rest := []) C hA (wC_sh a cI cZ) X (kX0_longestFree l D a cI cZ _ ) (cwV 0 C.2.2.2.2.1 (gV wl_X5_292 wt_yX0_longestFree ws_yX0_longestFree wi_X0 wk_yX0_longestFree) rfl rfl rfl hdX0_longestFree ⟨Nat.le_of_ble_eq_true rfl, Nat.le_of_ble_eq_true rfl⟩) (ci := 0) (q0 := 2) rfl rfl rfl hl.1 rfl (Nat.le_of_ble_eq_true rfl) dX5_count_138 ⟨Nat.le_refl 0, Nat.le_refl 0⟩ (fun H locs X => ?_)
                  exact ret dX5_count_141 (pe_ (Eq.symm (Eq.trans (if_neg c1_0) (Eq.trans (if_neg c1_1) (Eq.trans (if_neg c1_2) (Eq.trans (if_neg c1_3) (Eq.trans (if_neg c1_4) (Eq.trans (if_neg c1_5) (Eq.trans (if_pos c1_6) (if_neg c121)))))))))) X
                · refine lv_aload_n hx hb dX5_count_124 rfl (lv_at hl 0 rfl) ?_
                  refine cg_X5_X5_cells C X dX5_count_125 ?_
                  refine callVR (rest := []) C hA (wC_sh a cI cZ) X (kX0_leftBehind l D a cI cZ _ ) (cwV 0 C.2.2.2.2.1 (gV wl_X5_116 wt_yX0_leftBehind ws_yX0_leftBehind wi_X0 wk_yX0_leftBehind) rfl rfl rfl hdX0_leftBehind ⟨Nat.le_of_ble_eq_true rfl, Nat.le_of_ble_eq_true rfl⟩) (ci := 0) (q0 := 2) rfl rfl rfl hl.1 rfl (Nat.le_of_ble_eq_true rfl) dX5_count_128 ⟨Nat.le_refl 0, Nat.le_refl 0⟩ (fun H locs X => ?_)
                  refine lv_goto (tgt := 141) hx hb dX5_count_131 (by decide) ?_
                  exact ret dX5_count_141 (pe_ (Eq.symm (Eq.trans (if_neg c1_0) (Eq.trans (if_neg c1_1) (Eq.trans (if_neg c1_2) (Eq.trans (if_neg c1_3) (Eq.trans (if_neg c1_4) (Eq.trans (if_neg c1_5) (Eq.trans (if_pos c1_6) (if_pos c121)))))))))) X
              · skip
                by_cases c1_7 : x1 = (7 : Int32)
                · refine lv_tableIn (tgt := 142) (off := (141)) hx hb dX5_count_1 (by rw [c1_7]; decide) (by rw [c1_7]; decide) (by rw [c1_7]; rfl) (by decide) ?_
                  refine lv_aload_n hx hb dX5_count_142 rfl (lv_at hl 0 rfl) ?_
                  refine cg_X5_X5_rounds (v := (c_rounds σ)) C X rfl dX5_count_143 ?_
                  exact ret dX5_count_146 (pe_ (Eq.symm (Eq.trans (if_neg c1_0) (Eq.trans (if_neg c1_1) (Eq.trans (if_neg c1_2) (Eq.trans (if_neg c1_3) (Eq.trans (if_neg c1_4) (Eq.trans (if_neg c1_5) (Eq.trans (if_neg c1_6) (if_pos c1_7)))))))))) X
                · skip
                  by_cases c1_8 : x1 = (8 : Int32)
                  · refine lv_tableIn (tgt := 147) (off := (146)) hx hb dX5_count_1 (by rw [c1_8]; decide) (by rw [c1_8]; decide) (by rw [c1_8]; rfl) (by decide) ?_
                    refine lv_aload_n hx hb dX5_count_147 rfl (lv_at hl 0 rfl) ?_
                    refine cg_X5_X5_steps (v := (c_steps σ)) C X rfl dX5_count_148 ?_
                    exact ret dX5_count_151 (pe_ (Eq.symm (Eq.trans (if_neg c1_0) (Eq.trans (if_neg c1_1) (Eq.trans (if_neg c1_2) (Eq.trans (if_neg c1_3) (Eq.trans (if_neg c1_4) (Eq.trans (if_neg c1_5) (Eq.trans (if_neg c1_6) (Eq.trans (if_neg c1_7) (if_pos c1_8))))))))))) X
                  · skip
                    by_cases c1_9 : x1 = (9 : Int32)
                    · refine lv_tableIn (tgt := 152) (off := (151)) hx hb dX5_count_1 (by rw [c1_9]; decide) (by rw [c1_9]; decide) (by rw [c1_9]; rfl) (by decide) ?_
                      refine lv_aload_n hx hb dX5_count_152 rfl (lv_at hl 0 rfl) ?_
                      refine cg_X5_X5_shaded (v := (c_shaded σ)) C X rfl dX5_count_153 ?_
                      exact ret dX5_count_156 (pe_ (Eq.symm (Eq.trans (if_neg c1_0) (Eq.trans (if_neg c1_1) (Eq.trans (if_neg c1_2) (Eq.trans (if_neg c1_3) (Eq.trans (if_neg c1_4) (Eq.trans (if_neg c1_5) (Eq.trans (if_neg c1_6) (Eq.trans (if_neg c1_7) (Eq.trans (if_neg c1_8) (if_pos c1_9)))))))))))) X
                    · skip
                      by_cases c1_10 : x1 = (10 : Int32)
                      · refine lv_tableIn (tgt := 157) (off := (156)) hx hb dX5_count_1 (by rw [c1_10]; decide) (by rw [c1_10]; decide) (by rw [c1_10]; rfl) (by decide) ?_
                        refine lv_aload_n hx hb dX5_count_157 rfl (lv_at hl 0 rfl) ?_
                        refine cg_X5_X5_moved (v := (c_moved σ)) C X rfl dX5_count_158 ?_
                        exact ret dX5_count_161 (pe_ (Eq.symm (Eq.trans (if_neg c1_0) (Eq.trans (if_neg c1_1) (Eq.trans (if_neg c1_2) (Eq.trans (if_neg c1_3) (Eq.trans (if_neg c1_4) (Eq.trans (if_neg c1_5) (Eq.trans (if_neg c1_6) (Eq.trans (if_neg c1_7) (Eq.trans (if_neg c1_8) (Eq.trans (if_neg c1_9) (if_pos c1_10))))))))))))) X
                      · skip
                        by_cases c1_11 : x1 = (11 : Int32)
                        · refine lv_tableIn (tgt := 162) (off := (161)) hx hb dX5_count_1 (by rw [c1_11]; decide) (by rw [c1_11]; decide) (by rw [c1_11]; rfl) (by decide) ?_
                          refine lv_aload_n hx hb dX5_count_162 rfl (lv_at hl 0 rfl) ?_
                          refine cg_X5_X5_holders C X dX5_count_163 ?_
                          refine cg_X5_X1_wishes (v := (c_wishes σ)) C X rfl dX5_count_166 ?_
                          exact ret dX5_count_169 (pe_ (Eq.symm (Eq.trans (if_neg c1_0) (Eq.trans (if_neg c1_1) (Eq.trans (if_neg c1_2) (Eq.trans (if_neg c1_3) (Eq.trans (if_neg c1_4) (Eq.trans (if_neg c1_5) (Eq.trans (if_neg c1_6) (Eq.trans (if_neg c1_7) (Eq.trans (if_neg c1_8) (Eq.trans (if_neg c1_9) (Eq.trans (if_neg c1_10) (if_pos c1_11)))))))))))))) X
                        · skip
                          by_cases c1_12 : x1 = (12 : Int32)
                          · refine lv_tableIn (tgt := 170) (off := (169)) hx hb dX5_count_1 (by rw [c1_12]; decide) (by rw [c1_12]; decide) (by rw [c1_12]; rfl) (by decide) ?_
                            refine lv_aload_n hx hb dX5_count_170 rfl (lv_at hl 0 rfl) ?_
                            refine cg_X5_X5_pairs C X dX5_count_171 ?_
                            refine callVR (rest := []) C hA (wC_sh a cI cZ) X (kX2_countNotDropped l D a cI cZ _ ) (cwV 0 C.2.2.2.2.1 (gV wl_X5_295 wt_yX2_countNotDropped ws_yX2_countNotDropped wi_X2 wk_yX2_countNotDropped) rfl rfl rfl hdX2_countNotDropped ⟨Nat.le_of_ble_eq_true rfl, Nat.le_of_ble_eq_true rfl⟩) (ci := 2) (q0 := 4) rfl rfl rfl hl.1 rfl (Nat.le_of_ble_eq_true rfl) dX5_count_174 ⟨Nat.le_refl 0, Nat.le_refl 0⟩ (fun H locs X => ?_)
                            exact ret dX5_count_177 (pe_ (Eq.symm (Eq.trans (if_neg c1_0) (Eq.trans (if_neg c1_1) (Eq.trans (if_neg c1_2) (Eq.trans (if_neg c1_3) (Eq.trans (if_neg c1_4) (Eq.trans (if_neg c1_5) (Eq.trans (if_neg c1_6) (Eq.trans (if_neg c1_7) (Eq.trans (if_neg c1_8) (Eq.trans (if_neg c1_9) (Eq.trans (if_neg c1_10) (Eq.trans (if_neg c1_11) (if_pos c1_12))))))))))))))) X
                          · skip
                            refine lv_tableOut (tgt := 178) hx hb dX5_count_1 (by have t0 := i32_ne c1_0; have t1 := i32_ne c1_1; have t2 := i32_ne c1_2; have t3 := i32_ne c1_3; have t4 := i32_ne c1_4; have t5 := i32_ne c1_5; have t6 := i32_ne c1_6; have t7 := i32_ne c1_7; have t8 := i32_ne c1_8; have t9 := i32_ne c1_9; have t10 := i32_ne c1_10; have t11 := i32_ne c1_11; have t12 := i32_ne c1_12; have q0_ : (0 : Int32).toInt = 0 := rfl; have q1_ : (1 : Int32).toInt = 1 := rfl; have q2_ : (2 : Int32).toInt = 2 := rfl; have q3_ : (3 : Int32).toInt = 3 := rfl; have q4_ : (4 : Int32).toInt = 4 := rfl; have q5_ : (5 : Int32).toInt = 5 := rfl; have q6_ : (6 : Int32).toInt = 6 := rfl; have q7_ : (7 : Int32).toInt = 7 := rfl; have q8_ : (8 : Int32).toInt = 8 := rfl; have q9_ : (9 : Int32).toInt = 9 := rfl; have q10_ : (10 : Int32).toInt = 10 := rfl; have q11_ : (11 : Int32).toInt = 11 := rfl; have q12_ : (12 : Int32).toInt = 12 := rfl; omega) (by decide) ?_
                            refine lv_bipush (v := (-2)) hx hb dX5_count_178 (by decide) ?_
                            exact ret dX5_count_180 (pe_ (Eq.symm (Eq.trans (if_neg c1_0) (Eq.trans (if_neg c1_1) (Eq.trans (if_neg c1_2) (Eq.trans (if_neg c1_3) (Eq.trans (if_neg c1_4) (Eq.trans (if_neg c1_5) (Eq.trans (if_neg c1_6) (Eq.trans (if_neg c1_7) (Eq.trans (if_neg c1_8) (Eq.trans (if_neg c1_9) (Eq.trans (if_neg c1_10) (Eq.trans (if_neg c1_11) (if_neg c1_12))))))))))))))) X
def fX5_lost_L21 : Nat → Int32 → CSt → Int32 × CSt
  | 0, y1, σ0 => ((-1 : Int32), σ0)
  | f + 1, y1, σ0 => (if (fX3_has σ0 y1) = (0 : Int32) then (fX5_lost_L21 f (y1 + 1) σ0) else (if (fX4_isFreed σ0 y1) = (0 : Int32) then (fX5_lost_L21 f (y1 + 1) σ0) else (y1, σ0)))
def fX5_lost (σ : CSt) : Int32 × CSt := (fX5_lost_L21 (((Int32.toInt (c_tmade (fX3_find σ))) - (Int32.toInt (0 : Int32))).toNat) (0 : Int32) (fX3_find σ))
theorem hdX5_lost : yX5_lost.cls = RX5 ∧ yX5_lost.cls ≠ "java/lang/invoke/MethodHandle" ∧ yX5_lost.cls ≠ "java/lang/invoke/VarHandle" ∧ (parseMethodDescriptor yX5_lost.desc).map (fun d => d.parameters.length) = some 0 := by decide +kernel
set_option maxHeartbeats 250000 in
set_option maxRecDepth 100000 in
theorem kX5_lost (l : Launch) (D : va_G) (a : Nat → Nat) (cI cZ : ClassId) (σ : CSt) : CR l D (tyIZ cI cZ) (wC a cI cZ) yX5_lost cX5_lost 2 .int (rmk 5 112) [.ref (a 0)] σ (fX5_lost σ).1 (fX5_lost σ).2 := by
  refine CR.of pnX5 ⟨rfl, rfl⟩ (Nat.le_of_ble_eq_true rfl) rfl (fun p e s m args below meth c A Q ls C X hA hl ret => ?_)
  have C : Cx p s m args meth c cX5_lost 2 RX5 D (tyIZ cI cZ) := C
  have hx := C.1
  have hb := C.2.1
  have hl : lv_has ls 2 [(0, .ref (a 0))] := hl
  refine lv_aload_n hx hb dX5_lost_0 rfl (lv_at hl 0 rfl) ?_
  refine cg_X5_X5_reach C X dX5_lost_1 ?_
  refine lv_aload_n hx hb dX5_lost_4 rfl (lv_at hl 0 rfl) ?_
  refine cg_X5_X5_things C X dX5_lost_5 ?_
  refine lv_aload_n hx hb dX5_lost_8 rfl (lv_at hl 0 rfl) ?_
  refine cg_X5_X5_holders C X dX5_lost_9 ?_
  refine lv_aload_n hx hb dX5_lost_12 rfl (lv_at hl 0 rfl) ?_
  refine cg_X5_X5_pairs C X dX5_lost_13 ?_
  refine callVU (rest := []) C hA (wC_sh a cI cZ) X (kX3_find l D a cI cZ _ ) (cwV 3 C.2.2.2.2.1 (gV wl_X5_298 wt_yX3_find ws_yX3_find wi_X3 wk_yX3_find) rfl rfl rfl hdX3_find ⟨Nat.le_of_ble_eq_true rfl, Nat.le_of_ble_eq_true rfl⟩) (ci := 3) (q0 := 5) rfl rfl rfl hl.1 rfl (Nat.le_of_ble_eq_true rfl) dX5_lost_16 ⟨Nat.le_refl 0, Nat.le_refl 0⟩ (fun H locs X => ?_)
  refine lv_iconst (v := (0)) hx hb dX5_lost_19 (by decide) ?_
  refine lv_istore_n (lv' := [(1, .int (0 : Int32)), (0, .ref (a 0))]) hx hb dX5_lost_20 rfl hl (by decide) rfl (fun ls hl => ?_)
  have L21 : ∀ (f : Nat) (y1 : Int32) (hf : ((Int32.toInt (c_tmade (fX3_find σ))) - (Int32.toInt y1)).toNat = f) (hnn : 0 ≤ Int32.toInt y1) (he : fX5_lost_L21 f y1 (fX3_find σ) = (fX5_lost σ)) (H : Heap) (locs : List Loc) (ls : Array Slot) (X : Sx A D (wC a cI cZ (fX3_find σ)) s H locs) (hl : lv_has ls 2 [(0, .ref (a 0)), (1, .int y1)]), W p l e (rmk 5 112) s m args below meth c H locs 0 0 Q (F0 m 21 ls []) := by
    intro f
    induction f with
    | zero =>
      intro y1 hf hnn he H locs ls X hl
      refine lv_iload_n hx hb dX5_lost_21 rfl (lv_at hl 1 rfl) ?_
      refine lv_aload_n hx hb dX5_lost_22 rfl (lv_at hl 0 rfl) ?_
      refine cg_X5_X5_things C X dX5_lost_23 ?_
      refine cg_X5_X4_made (v := (c_tmade (fX3_find σ))) C X rfl dX5_lost_26 ?_
      refine lv_icmp_ge (tgt := 62) hx hb dX5_lost_29 (by decide) (fun c29 => ?_) (fun c29 => (lp_z hf c29).elim)
      refine lv_iconst (v := (-1)) hx hb dX5_lost_62 (by decide) ?_
      exact ret dX5_lost_63 (pe_ he) X
    | succ f ih21 =>
      intro y1 hf hnn he H locs ls X hl
      refine lv_iload_n hx hb dX5_lost_21 rfl (lv_at hl 1 rfl) ?_
      refine lv_aload_n hx hb dX5_lost_22 rfl (lv_at hl 0 rfl) ?_
      refine cg_X5_X5_things C X dX5_lost_23 ?_
      refine cg_X5_X4_made (v := (c_tmade (fX3_find σ))) C X rfl dX5_lost_26 ?_
      refine lv_icmp_ge (tgt := 62) hx hb dX5_lost_29 (by decide) (fun c29 => (lp_s hf c29).elim) (fun c29 => ?_)
      refine lv_aload_n hx hb dX5_lost_32 rfl (lv_at hl 0 rfl) ?_
      refine cg_X5_X5_reach C X dX5_lost_33 ?_
      refine lv_iload_n hx hb dX5_lost_36 rfl (lv_at hl 1 rfl) ?_
      refine callVR (rest := []) C hA (wC_sh a cI cZ) X (kX3_has l D a cI cZ _ y1) (cwV 1 C.2.2.2.2.1 (gV wl_X5_302 wt_yX3_has ws_yX3_has wi_X3 wk_yX3_has) rfl rfl rfl hdX3_has ⟨Nat.le_of_ble_eq_true rfl, Nat.le_of_ble_eq_true rfl⟩) (ci := 3) (q0 := 5) rfl rfl rfl hl.1 rfl (Nat.le_of_ble_eq_true rfl) dX5_lost_37 ⟨Nat.le_refl 0, Nat.le_refl 0⟩ (fun H locs X => ?_)
      refine lv_if_eq (tgt := 56) hx hb dX5_lost_40 (by decide) (fun c40 => ?_) (fun c40 => ?_)
      · refine lv_iinc (v := (y1 + 1)) (lv' := [(1, .int (y1 + 1)), (0, .ref (a 0))]) hx hb dX5_lost_56 hl (k := 1) rfl rfl (by decide) rfl (fun ls hl => ?_)
        refine lv_goto (tgt := 21) hx hb dX5_lost_59 (by decide) ?_
        exact ih21 (y1 + 1) (lp_b hf) (lp_nn hnn hf) (Eq.trans (Eq.symm (if_pos c40)) he) _ _ _ X (lv_sub hl [1, 0] rfl)
      · refine lv_aload_n hx hb dX5_lost_43 rfl (lv_at hl 0 rfl) ?_
        refine cg_X5_X5_things C X dX5_lost_44 ?_
        refine lv_iload_n hx hb dX5_lost_47 rfl (lv_at hl 1 rfl) ?_
        refine callVR (rest := []) C hA (wC_sh a cI cZ) X (kX4_isFreed l D a cI cZ _ y1) (cwV 1 C.2.2.2.2.1 (gV wl_X5_141 wt_yX4_isFreed ws_yX4_isFreed wi_X4 wk_yX4_isFreed) rfl rfl rfl hdX4_isFreed ⟨Nat.le_of_ble_eq_true rfl, Nat.le_of_ble_eq_true rfl⟩) (ci := 4) (q0 := 1) rfl rfl rfl hl.1 rfl (Nat.le_of_ble_eq_true rfl) dX5_lost_48 ⟨Nat.le_refl 0, Nat.le_refl 0⟩ (fun H locs X => ?_)
        refine lv_if_eq (tgt := 56) hx hb dX5_lost_51 (by decide) (fun c51 => ?_) (fun c51 => ?_)
        · refine lv_iinc (v := (y1 + 1)) (lv' := [(1, .int (y1 + 1)), (0, .ref (a 0))]) hx hb dX5_lost_56 hl (k := 1) rfl rfl (by decide) rfl (fun ls hl => ?_)
          refine lv_goto (tgt := 21) hx hb dX5_lost_59 (by decide) ?_
          exact ih21 (y1 + 1) (lp_b hf) (lp_nn hnn hf) (Eq.trans (Eq.symm (Eq.trans (if_neg c40) (if_pos c51))) he) _ _ _ X (lv_sub hl [1, 0] rfl)
        · refine lv_iload_n hx hb dX5_lost_54 rfl (lv_at hl 1 rfl) ?_
          exact ret dX5_lost_55 (pe_ (Eq.trans (Eq.symm (Eq.trans (if_neg c40) (if_neg c51))) he)) X
  exact L21 (((Int32.toInt (c_tmade (fX3_find σ))) - (Int32.toInt (0 : Int32))).toNat) (0 : Int32) rfl (by decide) rfl _ _ _ X (lv_sub hl [1, 0] rfl)
def fX5_digest_L76 (z3 : Int32) : Nat → Int64 → Int32 → CSt → Int64
  | 0, y1, y4, σ0 => y1
  | f + 1, y1, y4, σ0 => (fX5_digest_L76 z3 f (((31 : Int64) * y1) + (Int32.toInt64 (fX4_inField σ0 z3 y4))) (y4 + 1) σ0)
def fX5_digest_L6 : Nat → Int64 → Int32 → CSt → Int64
  | 0, y1, y3, σ0 => y1
  | f + 1, y1, y3, σ0 => (fX5_digest_L6 f (fX5_digest_L76 y3 (((Int32.toInt (fX4_fieldsOf σ0 y3)) - (Int32.toInt (0 : Int32))).toNat) (((31 : Int64) * (((31 : Int64) * (((31 : Int64) * y1) + (Int32.toInt64 (fX4_placeOf σ0 y3)))) + (Int32.toInt64 (fX4_colourOf σ0 y3)))) + (Int32.toInt64 (if (fX4_isFreed σ0 y3) = (0 : Int32) then (0 : Int32) else (1 : Int32)))) (0 : Int32) σ0) (y3 + 1) σ0)
def fX5_digest_L121 : Nat → Int64 → Int32 → CSt → Int64
  | 0, y1, y3, σ0 => (((31 : Int64) * y1) + (Int32.toInt64 (c_under σ0)))
  | f + 1, y1, y3, σ0 => (fX5_digest_L121 f (((31 : Int64) * y1) + (Int32.toInt64 (fX5_holder σ0 y3))) (y3 + 1) σ0)
def fX5_digest (σ : CSt) : Int64 := (fX5_digest_L121 (((Int32.toInt (30 : Int32)) - (Int32.toInt (0 : Int32))).toNat) (fX5_digest_L6 (((Int32.toInt (c_tmade σ)) - (Int32.toInt (0 : Int32))).toNat) (3 : Int64) (0 : Int32) σ) (0 : Int32) σ)
theorem hdX5_digest : yX5_digest.cls = RX5 ∧ yX5_digest.cls ≠ "java/lang/invoke/MethodHandle" ∧ yX5_digest.cls ≠ "java/lang/invoke/VarHandle" ∧ (parseMethodDescriptor yX5_digest.desc).map (fun d => d.parameters.length) = some 0 := by decide +kernel
set_option maxHeartbeats 250000 in
set_option maxRecDepth 100000 in
theorem kX5_digest (l : Launch) (D : va_G) (a : Nat → Nat) (cI cZ : ClassId) (σ : CSt) : CJ l D (tyIZ cI cZ) (wC a cI cZ) yX5_digest cX5_digest 5 (rmk 3 65) [.ref (a 0)] σ (fX5_digest σ) σ := by
  refine CJ.of pnX5 ⟨rfl, rfl⟩ (Nat.le_of_ble_eq_true rfl) (fun p e s m args below meth c A Q ls C X hA hl ret => ?_)
  have C : Cx p s m args meth c cX5_digest 5 RX5 D (tyIZ cI cZ) := C
  have hx := C.1
  have hb := C.2.1
  have hl : lv_has ls 5 [(0, .ref (a 0))] := hl
  refine lv_ldc2 (v := (3)) hx hb C.2.2.2.1 (C.2.2.2.2.1 _ wv_X5_305) dX5_digest_0 ?_
  refine lv_lstore_n (lv' := [(1, .long (3 : Int64)), (0, .ref (a 0))]) hx hb dX5_digest_3 rfl hl (by decide) rfl (fun ls hl => ?_)
  refine lv_iconst (v := (0)) hx hb dX5_digest_4 (by decide) ?_
  refine lv_istore_n (lv' := [(3, .int (0 : Int32)), (1, .long (3 : Int64)), (0, .ref (a 0))]) hx hb dX5_digest_5 rfl hl (by decide) rfl (fun ls hl => ?_)
  have L6 : ∀ (res : Int64) (hx6 : ∀ (H : Heap) (locs : List Loc) (ls : Array Slot), Sx A D (wC a cI cZ σ) s H locs → lv_has ls 5 [(0, .ref (a 0)), (1, .long res)] → W p l e (rmk 3 65) s m args below meth c H locs 0 0 Q (F0 m 119 ls [])) (f : Nat) (y1 : Int64) (y3 : Int32) (hf : ((Int32.toInt (c_tmade σ)) - (Int32.toInt y3)).toNat = f) (hnn : 0 ≤ Int32.toInt y3) (he : fX5_digest_L6 f y1 y3 σ = res) (H : Heap) (locs : List Loc) (ls : Array Slot) (X : Sx A D (wC a cI cZ σ) s H locs) (hl : lv_has ls 5 [(0, .ref (a 0)), (1, .long y1), (3, .int y3)]), W p l e (rmk 3 65) s m args below meth c H locs 0 0 Q (F0 m 6 ls []) := by
    intro res hx6 f
    induction f with
    | zero =>
      intro y1 y3 hf hnn he H locs ls X hl
      refine lv_iload_n hx hb dX5_digest_6 rfl (lv_at hl 2 rfl) ?_
      refine lv_aload_n hx hb dX5_digest_7 rfl (lv_at hl 0 rfl) ?_
      refine cg_X5_X5_things C X dX5_digest_8 ?_
      refine cg_X5_X4_made (v := (c_tmade σ)) C X rfl dX5_digest_11 ?_
      refine lv_icmp_ge (tgt := 119) hx hb dX5_digest_14 (by decide) (fun c14 => ?_) (fun c14 => (lp_z hf c14).elim)
      exact hx6 _ _ _ (Eq.subst (motive := fun z => Sx A D (wC a cI cZ σ) s _ _) he X) (Eq.subst (motive := fun z => lv_has _ 5 [(0, .ref (a 0)), (1, .long z)]) he (lv_sub hl [0, 1] rfl))
    | succ f ih6 =>
      intro y1 y3 hf hnn he H locs ls X hl
      refine lv_iload_n hx hb dX5_digest_6 rfl (lv_at hl 2 rfl) ?_
      refine lv_aload_n hx hb dX5_digest_7 rfl (lv_at hl 0 rfl) ?_
      refine cg_X5_X5_things C X dX5_digest_8 ?_
      refine cg_X5_X4_made (v := (c_tmade σ)) C X rfl dX5_digest_11 ?_
      refine lv_icmp_ge (tgt := 119) hx hb dX5_digest_14 (by decide) (fun c14 => (lp_s hf c14).elim) (fun c14 => ?_)
      refine lv_ldc2 (v := (31)) hx hb C.2.2.2.1 (C.2.2.2.2.1 _ wv_X5_307) dX5_digest_17 ?_
      refine lv_lload_n hx hb dX5_digest_20 rfl (lv_at hl 1 rfl) ?_
      refine lv_lmul hx hb dX5_digest_21 ?_
      refine lv_aload_n hx hb dX5_digest_22 rfl (lv_at hl 0 rfl) ?_
      refine cg_X5_X5_things C X dX5_digest_23 ?_
      refine lv_iload_n hx hb dX5_digest_26 rfl (lv_at hl 2 rfl) ?_
      refine callVR (rest := [.long ((31 : Int64) * y1)]) C hA (wC_sh a cI cZ) X (kX4_placeOf l D a cI cZ _ y3) (cwV 1 C.2.2.2.2.1 (gV wl_X5_241 wt_yX4_placeOf ws_yX4_placeOf wi_X4 wk_yX4_placeOf) rfl rfl rfl hdX4_placeOf ⟨Nat.le_of_ble_eq_true rfl, Nat.le_of_ble_eq_true rfl⟩) (ci := 4) (q0 := 1) rfl rfl rfl hl.1 rfl (Nat.le_of_ble_eq_true rfl) dX5_digest_27 ⟨Nat.le_refl 0, Nat.le_refl 0⟩ (fun H locs X => ?_)
      refine lv_i2l hx hb dX5_digest_30 rfl ?_
      refine lv_ladd hx hb dX5_digest_31 ?_
      refine lv_lstore_n (lv' := [(1, .long (((31 : Int64) * y1) + (Int32.toInt64 (fX4_placeOf σ y3)))), (0, .ref (a 0)), (3, .int y3)]) hx hb dX5_digest_32 rfl hl (by decide) rfl (fun ls hl => ?_)
      refine lv_ldc2 (v := (31)) hx hb C.2.2.2.1 (C.2.2.2.2.1 _ wv_X5_307) dX5_digest_33 ?_
      refine lv_lload_n hx hb dX5_digest_36 rfl (lv_at hl 0 rfl) ?_
      refine lv_lmul hx hb dX5_digest_37 ?_
      refine lv_aload_n hx hb dX5_digest_38 rfl (lv_at hl 1 rfl) ?_
      refine cg_X5_X5_things C X dX5_digest_39 ?_
      refine lv_iload_n hx hb dX5_digest_42 rfl (lv_at hl 2 rfl) ?_
      refine callVR (rest := [.long ((31 : Int64) * (((31 : Int64) * y1) + (Int32.toInt64 (fX4_placeOf σ y3))))]) C hA (wC_sh a cI cZ) X (kX4_colourOf l D a cI cZ _ y3) (cwV 1 C.2.2.2.2.1 (gV wl_X5_271 wt_yX4_colourOf ws_yX4_colourOf wi_X4 wk_yX4_colourOf) rfl rfl rfl hdX4_colourOf ⟨Nat.le_of_ble_eq_true rfl, Nat.le_of_ble_eq_true rfl⟩) (ci := 4) (q0 := 1) rfl rfl rfl hl.1 rfl (Nat.le_of_ble_eq_true rfl) dX5_digest_43 ⟨Nat.le_refl 0, Nat.le_refl 0⟩ (fun H locs X => ?_)
      refine lv_i2l hx hb dX5_digest_46 rfl ?_
      refine lv_ladd hx hb dX5_digest_47 ?_
      refine lv_lstore_n (lv' := [(1, .long (((31 : Int64) * (((31 : Int64) * y1) + (Int32.toInt64 (fX4_placeOf σ y3)))) + (Int32.toInt64 (fX4_colourOf σ y3)))), (0, .ref (a 0)), (3, .int y3)]) hx hb dX5_digest_48 rfl hl (by decide) rfl (fun ls hl => ?_)
      refine lv_ldc2 (v := (31)) hx hb C.2.2.2.1 (C.2.2.2.2.1 _ wv_X5_307) dX5_digest_49 ?_
      refine lv_lload_n hx hb dX5_digest_52 rfl (lv_at hl 0 rfl) ?_
      refine lv_lmul hx hb dX5_digest_53 ?_
      refine lv_aload_n hx hb dX5_digest_54 rfl (lv_at hl 1 rfl) ?_
      refine cg_X5_X5_things C X dX5_digest_55 ?_
      refine lv_iload_n hx hb dX5_digest_58 rfl (lv_at hl 2 rfl) ?_
      refine callVR (rest := [.long ((31 : Int64) * (((31 : Int64) * (((31 : Int64) * y1) + (Int32.toInt64 (fX4_placeOf σ y3)))) + (Int32.toInt64 (fX4_colourOf σ y3))))]) C hA (wC_sh a cI cZ) X (kX4_isFreed l D a cI cZ _ y3) (cwV 1 C.2.2.2.2.1 (gV wl_X5_141 wt_yX4_isFreed ws_yX4_isFreed wi_X4 wk_yX4_isFreed) rfl rfl rfl hdX4_isFreed ⟨Nat.le_of_ble_eq_true rfl, Nat.le_of_ble_eq_true rfl⟩) (ci := 4) (q0 := 1) rfl rfl rfl hl.1 rfl (Nat.le_of_ble_eq_true rfl) dX5_digest_59 ⟨Nat.le_refl 0, Nat.le_refl 0⟩ (fun H locs X => ?_)
      have J70 : W p l e (rmk 3 65) s m args below meth c H locs 0 0 Q (F0 m 70 ls [.int (if (fX4_isFreed σ y3) = (0 : Int32) then (0 : Int32) else (1 : Int32)), .long ((31 : Int64) * (((31 : Int64) * (((31 : Int64) * y1) + (Int32.toInt64 (fX4_placeOf σ y3)))) + (Int32.toInt64 (fX4_colourOf σ y3))))]) := by
        refine lv_i2l hx hb dX5_digest_70 rfl ?_
        refine lv_ladd hx hb dX5_digest_71 ?_
        refine lv_lstore_n (lv' := [(1, .long (((31 : Int64) * (((31 : Int64) * (((31 : Int64) * y1) + (Int32.toInt64 (fX4_placeOf σ y3)))) + (Int32.toInt64 (fX4_colourOf σ y3)))) + (Int32.toInt64 (if (fX4_isFreed σ y3) = (0 : Int32) then (0 : Int32) else (1 : Int32))))), (0, .ref (a 0)), (3, .int y3)]) hx hb dX5_digest_72 rfl hl (by decide) rfl (fun ls hl => ?_)
        refine lv_iconst (v := (0)) hx hb dX5_digest_73 (by decide) ?_
        refine lv_istore (lv' := [(4, .int (0 : Int32)), (1, .long (((31 : Int64) * (((31 : Int64) * (((31 : Int64) * y1) + (Int32.toInt64 (fX4_placeOf σ y3)))) + (Int32.toInt64 (fX4_colourOf σ y3)))) + (Int32.toInt64 (if (fX4_isFreed σ y3) = (0 : Int32) then (0 : Int32) else (1 : Int32))))), (0, .ref (a 0)), (3, .int y3)]) hx hb dX5_digest_74 hl (by decide) rfl (fun ls hl => ?_)
        have L76 : ∀ (res : Int64) (hx76 : ∀ (H : Heap) (locs : List Loc) (ls : Array Slot), Sx A D (wC a cI cZ σ) s H locs → lv_has ls 5 [(0, .ref (a 0)), (1, .long res), (3, .int y3)] → W p l e (rmk 3 65) s m args below meth c H locs 0 0 Q (F0 m 113 ls [])) (f : Nat) (y1 : Int64) (y4 : Int32) (hf : ((Int32.toInt (fX4_fieldsOf σ y3)) - (Int32.toInt y4)).toNat = f) (hnn : 0 ≤ Int32.toInt y4) (he : fX5_digest_L76 y3 f y1 y4 σ = res) (H : Heap) (locs : List Loc) (ls : Array Slot) (X : Sx A D (wC a cI cZ σ) s H locs) (hl : lv_has ls 5 [(0, .ref (a 0)), (1, .long y1), (3, .int y3), (4, .int y4)]), W p l e (rmk 3 65) s m args below meth c H locs 0 0 Q (F0 m 76 ls []) := by
          intro res hx76 f
          induction f with
          | zero =>
            intro y1 y4 hf hnn he H locs ls X hl
            refine lv_iload hx hb dX5_digest_76 (lv_at hl 3 rfl) ?_
            refine lv_aload_n hx hb dX5_digest_78 rfl (lv_at hl 0 rfl) ?_
            refine cg_X5_X5_things C X dX5_digest_79 ?_
            refine lv_iload_n hx hb dX5_digest_82 rfl (lv_at hl 2 rfl) ?_
            refine callVR (rest := [.int y4]) C hA (wC_sh a cI cZ) X (kX4_fieldsOf l D a cI cZ _ y3) (cwV 1 C.2.2.2.2.1 (gV wl_X5_268 wt_yX4_fieldsOf ws_yX4_fieldsOf wi_X4 wk_yX4_fieldsOf) rfl rfl rfl hdX4_fieldsOf ⟨Nat.le_of_ble_eq_true rfl, Nat.le_of_ble_eq_true rfl⟩) (ci := 4) (q0 := 1) rfl rfl rfl hl.1 rfl (Nat.le_of_ble_eq_true rfl) dX5_digest_83 ⟨Nat.le_refl 0, Nat.le_refl 0⟩ (fun H locs X => ?_)
            refine lv_icmp_ge (tgt := 113) hx hb dX5_digest_86 (by decide) (fun c86 => ?_) (fun c86 => (lp_z hf c86).elim)
            exact hx76 _ _ _ (Eq.subst (motive := fun z => Sx A D (wC a cI cZ σ) s _ _) he X) (Eq.subst (motive := fun z => lv_has _ 5 [(0, .ref (a 0)), (1, .long z), (3, .int y3)]) he (lv_sub hl [0, 1, 2] rfl))
          | succ f ih76 =>
            intro y1 y4 hf hnn he H locs ls X hl
            refine lv_iload hx hb dX5_digest_76 (lv_at hl 3 rfl) ?_
            refine lv_aload_n hx hb dX5_digest_78 rfl (lv_at hl 0 rfl) ?_
            refine cg_X5_X5_things C X dX5_digest_79 ?_
            refine lv_iload_n hx hb dX5_digest_82 rfl (lv_at hl 2 rfl) ?_
            refine callVR (rest := [.int y4]) C hA (wC_sh a cI cZ) X (kX4_fieldsOf l D a cI cZ _ y3) (cwV 1 C.2.2.2.2.1 (gV wl_X5_268 wt_yX4_fieldsOf ws_yX4_fieldsOf wi_X4 wk_yX4_fieldsOf) rfl rfl rfl hdX4_fieldsOf ⟨Nat.le_of_ble_eq_true rfl, Nat.le_of_ble_eq_true rfl⟩) (ci := 4) (q0 := 1) rfl rfl rfl hl.1 rfl (Nat.le_of_ble_eq_true rfl) dX5_digest_83 ⟨Nat.le_refl 0, Nat.le_refl 0⟩ (fun H locs X => ?_)
            refine lv_icmp_ge (tgt := 113) hx hb dX5_digest_86 (by decide) (fun c86 => (lp_s hf c86).elim) (fun c86 => ?_)
            refine lv_ldc2 (v := (31)) hx hb C.2.2.2.1 (C.2.2.2.2.1 _ wv_X5_307) dX5_digest_89 ?_
            refine lv_lload_n hx hb dX5_digest_92 rfl (lv_at hl 1 rfl) ?_
            refine lv_lmul hx hb dX5_digest_93 ?_
            refine lv_aload_n hx hb dX5_digest_94 rfl (lv_at hl 0 rfl) ?_
            refine cg_X5_X5_things C X dX5_digest_95 ?_
            refine lv_iload_n hx hb dX5_digest_98 rfl (lv_at hl 2 rfl) ?_
            refine lv_iload hx hb dX5_digest_99 (lv_at hl 3 rfl) ?_
            refine callVR (rest := [.long ((31 : Int64) * y1)]) C hA (wC_sh a cI cZ) X (kX4_inField l D a cI cZ _ y3 y4) (cwV 2 C.2.2.2.2.1 (gV wl_X5_128 wt_yX4_inField ws_yX4_inField wi_X4 wk_yX4_inField) rfl rfl rfl hdX4_inField ⟨Nat.le_of_ble_eq_true rfl, Nat.le_of_ble_eq_true rfl⟩) (ci := 4) (q0 := 1) rfl rfl rfl hl.1 rfl (Nat.le_of_ble_eq_true rfl) dX5_digest_101 ⟨Nat.le_refl 0, Nat.le_refl 0⟩ (fun H locs X => ?_)
            refine lv_i2l hx hb dX5_digest_104 rfl ?_
            refine lv_ladd hx hb dX5_digest_105 ?_
            refine lv_lstore_n (lv' := [(1, .long (((31 : Int64) * y1) + (Int32.toInt64 (fX4_inField σ y3 y4)))), (0, .ref (a 0)), (3, .int y3), (4, .int y4)]) hx hb dX5_digest_106 rfl hl (by decide) rfl (fun ls hl => ?_)
            refine lv_iinc (v := (y4 + 1)) (lv' := [(4, .int (y4 + 1)), (1, .long (((31 : Int64) * y1) + (Int32.toInt64 (fX4_inField σ y3 y4)))), (0, .ref (a 0)), (3, .int y3)]) hx hb dX5_digest_107 hl (k := 3) rfl rfl (by decide) rfl (fun ls hl => ?_)
            refine lv_goto (tgt := 76) hx hb dX5_digest_110 (by decide) ?_
            exact ih76 (((31 : Int64) * y1) + (Int32.toInt64 (fX4_inField σ y3 y4))) (y4 + 1) (lp_b hf) (lp_nn hnn hf) he _ _ _ X (lv_sub hl [2, 1, 3, 0] rfl)
        refine L76 (fX5_digest_L76 y3 (((Int32.toInt (fX4_fieldsOf σ y3)) - (Int32.toInt (0 : Int32))).toNat) (((31 : Int64) * (((31 : Int64) * (((31 : Int64) * y1) + (Int32.toInt64 (fX4_placeOf σ y3)))) + (Int32.toInt64 (fX4_colourOf σ y3)))) + (Int32.toInt64 (if (fX4_isFreed σ y3) = (0 : Int32) then (0 : Int32) else (1 : Int32)))) (0 : Int32) σ) (fun H locs ls X hl => ?_) (((Int32.toInt (fX4_fieldsOf σ y3)) - (Int32.toInt (0 : Int32))).toNat) (((31 : Int64) * (((31 : Int64) * (((31 : Int64) * y1) + (Int32.toInt64 (fX4_placeOf σ y3)))) + (Int32.toInt64 (fX4_colourOf σ y3)))) + (Int32.toInt64 (if (fX4_isFreed σ y3) = (0 : Int32) then (0 : Int32) else (1 : Int32)))) (0 : Int32) rfl (by decide) rfl _ _ _ X (lv_sub hl [2, 1, 3, 0] rfl)
        refine lv_iinc (v := (y3 + 1)) (lv' := [(3, .int (y3 + 1)), (0, .ref (a 0)), (1, .long (fX5_digest_L76 y3 (((Int32.toInt (fX4_fieldsOf σ y3)) - (Int32.toInt (0 : Int32))).toNat) (((31 : Int64) * (((31 : Int64) * (((31 : Int64) * y1) + (Int32.toInt64 (fX4_placeOf σ y3)))) + (Int32.toInt64 (fX4_colourOf σ y3)))) + (Int32.toInt64 (if (fX4_isFreed σ y3) = (0 : Int32) then (0 : Int32) else (1 : Int32)))) (0 : Int32) σ))]) hx hb dX5_digest_113 hl (k := 2) rfl rfl (by decide) rfl (fun ls hl => ?_)
        refine lv_goto (tgt := 6) hx hb dX5_digest_116 (by decide) ?_
        exact ih6 (fX5_digest_L76 y3 (((Int32.toInt (fX4_fieldsOf σ y3)) - (Int32.toInt (0 : Int32))).toNat) (((31 : Int64) * (((31 : Int64) * (((31 : Int64) * y1) + (Int32.toInt64 (fX4_placeOf σ y3)))) + (Int32.toInt64 (fX4_colourOf σ y3)))) + (Int32.toInt64 (if (fX4_isFreed σ y3) = (0 : Int32) then (0 : Int32) else (1 : Int32)))) (0 : Int32) σ) (y3 + 1) (lp_b hf) (lp_nn hnn hf) he _ _ _ X (lv_sub hl [1, 2, 0] rfl)
      refine lv_if_eq (tgt := 69) hx hb dX5_digest_62 (by decide) (fun c62 => ?_) (fun c62 => ?_)
      · refine lv_iconst (v := (0)) hx hb dX5_digest_69 (by decide) ?_
        rw [if_pos c62] at J70
        exact J70
      · refine lv_iconst (v := (1)) hx hb dX5_digest_65 (by decide) ?_
        refine lv_goto (tgt := 70) hx hb dX5_digest_66 (by decide) ?_
        rw [if_neg c62] at J70
        exact J70
  refine L6 (fX5_digest_L6 (((Int32.toInt (c_tmade σ)) - (Int32.toInt (0 : Int32))).toNat) (3 : Int64) (0 : Int32) σ) (fun H locs ls X hl => ?_) (((Int32.toInt (c_tmade σ)) - (Int32.toInt (0 : Int32))).toNat) (3 : Int64) (0 : Int32) rfl (by decide) rfl _ _ _ X (lv_sub hl [2, 1, 0] rfl)
  refine lv_iconst (v := (0)) hx hb dX5_digest_119 (by decide) ?_
  refine lv_istore_n (lv' := [(3, .int (0 : Int32)), (0, .ref (a 0)), (1, .long (fX5_digest_L6 (((Int32.toInt (c_tmade σ)) - (Int32.toInt (0 : Int32))).toNat) (3 : Int64) (0 : Int32) σ))]) hx hb dX5_digest_120 rfl hl (by decide) rfl (fun ls hl => ?_)
  have L121 : ∀ (f : Nat) (y1 : Int64) (y3 : Int32) (hf : ((Int32.toInt (30 : Int32)) - (Int32.toInt y3)).toNat = f) (hnn : 0 ≤ Int32.toInt y3) (he : fX5_digest_L121 f y1 y3 σ = (fX5_digest σ)) (H : Heap) (locs : List Loc) (ls : Array Slot) (X : Sx A D (wC a cI cZ σ) s H locs) (hl : lv_has ls 5 [(0, .ref (a 0)), (1, .long y1), (3, .int y3)]), W p l e (rmk 3 65) s m args below meth c H locs 0 0 Q (F0 m 121 ls []) := by
    intro f
    induction f with
    | zero =>
      intro y1 y3 hf hnn he H locs ls X hl
      refine lv_iload_n hx hb dX5_digest_121 rfl (lv_at hl 2 rfl) ?_
      refine lv_bipush (v := (30)) hx hb dX5_digest_122 (by decide) ?_
      refine lv_icmp_ge (tgt := 146) hx hb dX5_digest_124 (by decide) (fun c124 => ?_) (fun c124 => (lp_z hf c124).elim)
      refine lv_ldc2 (v := (31)) hx hb C.2.2.2.1 (C.2.2.2.2.1 _ wv_X5_307) dX5_digest_146 ?_
      refine lv_lload_n hx hb dX5_digest_149 rfl (lv_at hl 1 rfl) ?_
      refine lv_lmul hx hb dX5_digest_150 ?_
      refine lv_aload_n hx hb dX5_digest_151 rfl (lv_at hl 0 rfl) ?_
      refine cg_X5_X5_underWay (v := (c_under σ)) C X rfl dX5_digest_152 ?_
      refine lv_i2l hx hb dX5_digest_155 rfl ?_
      refine lv_ladd hx hb dX5_digest_156 ?_
      exact ret dX5_digest_157 (congrArg (fun z => (z, _)) he) X
    | succ f ih121 =>
      intro y1 y3 hf hnn he H locs ls X hl
      refine lv_iload_n hx hb dX5_digest_121 rfl (lv_at hl 2 rfl) ?_
      refine lv_bipush (v := (30)) hx hb dX5_digest_122 (by decide) ?_
      refine lv_icmp_ge (tgt := 146) hx hb dX5_digest_124 (by decide) (fun c124 => (lp_s hf c124).elim) (fun c124 => ?_)
      refine lv_ldc2 (v := (31)) hx hb C.2.2.2.1 (C.2.2.2.2.1 _ wv_X5_307) dX5_digest_127 ?_
      refine lv_lload_n hx hb dX5_digest_130 rfl (lv_at hl 1 rfl) ?_
      refine lv_lmul hx hb dX5_digest_131 ?_
      refine lv_aload_n hx hb dX5_digest_132 rfl (lv_at hl 0 rfl) ?_
      refine lv_iload_n hx hb dX5_digest_133 rfl (lv_at hl 2 rfl) ?_
      refine callVR (rest := [.long ((31 : Int64) * y1)]) C hA (wC_sh a cI cZ) X (kX5_holder l D a cI cZ _ y3) (cwV 1 C.2.2.2.2.1 (gV wl_X5_309 wt_yX5_holder ws_yX5_holder wi_X5 wk_yX5_holder) rfl rfl rfl hdX5_holder ⟨Nat.le_of_ble_eq_true rfl, Nat.le_of_ble_eq_true rfl⟩) (ci := 5) (q0 := 0) rfl rfl rfl hl.1 rfl (Nat.le_of_ble_eq_true rfl) dX5_digest_134 ⟨Nat.le_refl 0, Nat.le_refl 0⟩ (fun H locs X => ?_)
      refine lv_i2l hx hb dX5_digest_137 rfl ?_
      refine lv_ladd hx hb dX5_digest_138 ?_
      refine lv_lstore_n (lv' := [(1, .long (((31 : Int64) * y1) + (Int32.toInt64 (fX5_holder σ y3)))), (0, .ref (a 0)), (3, .int y3)]) hx hb dX5_digest_139 rfl hl (by decide) rfl (fun ls hl => ?_)
      refine lv_iinc (v := (y3 + 1)) (lv' := [(3, .int (y3 + 1)), (1, .long (((31 : Int64) * y1) + (Int32.toInt64 (fX5_holder σ y3)))), (0, .ref (a 0))]) hx hb dX5_digest_140 hl (k := 2) rfl rfl (by decide) rfl (fun ls hl => ?_)
      refine lv_goto (tgt := 121) hx hb dX5_digest_143 (by decide) ?_
      exact ih121 (((31 : Int64) * y1) + (Int32.toInt64 (fX5_holder σ y3))) (y3 + 1) (lp_b hf) (lp_nn hnn hf) he _ _ _ X (lv_sub hl [2, 1, 0] rfl)
  exact L121 (((Int32.toInt (30 : Int32)) - (Int32.toInt (0 : Int32))).toNat) (fX5_digest_L6 (((Int32.toInt (c_tmade σ)) - (Int32.toInt (0 : Int32))).toNat) (3 : Int64) (0 : Int32) σ) (0 : Int32) rfl (by decide) rfl _ _ _ X (lv_sub hl [1, 2, 0] rfl)
