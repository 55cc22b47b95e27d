theorem cq_colours_places (σ : CSt) (v : (Nat → Int32)) : c_colours (c_places_s σ v) = c_colours σ := rfl
theorem cq_colours_sizes (σ : CSt) (v : (Nat → Int32)) : c_colours (c_sizes_s σ v) = c_colours σ := rfl
theorem cq_freed_colours (σ : CSt) (v : (Nat → Int32)) : c_freed (c_colours_s σ v) = c_freed σ := rfl
theorem cq_freed_moves (σ : CSt) (v : (Nat → Int32)) : c_freed (c_moves_s σ v) = c_freed σ := rfl
theorem cq_freed_places (σ : CSt) (v : (Nat → Int32)) : c_freed (c_places_s σ v) = c_freed σ := rfl
theorem cq_freed_sizes (σ : CSt) (v : (Nat → Int32)) : c_freed (c_sizes_s σ v) = c_freed σ := rfl
theorem cq_moves_colours (σ : CSt) (v : (Nat → Int32)) : c_moves (c_colours_s σ v) = c_moves σ := rfl
theorem cq_moves_places (σ : CSt) (v : (Nat → Int32)) : c_moves (c_places_s σ v) = c_moves σ := rfl
theorem cq_moves_sizes (σ : CSt) (v : (Nat → Int32)) : c_moves (c_sizes_s σ v) = c_moves σ := rfl
theorem cq_places_freed (σ : CSt) (v : (Nat → Int32)) : c_places (c_freed_s σ v) = c_places σ := rfl
theorem cq_places_sizes (σ : CSt) (v : (Nat → Int32)) : c_places (c_sizes_s σ v) = c_places σ := rfl
theorem cq_wishing_colours (σ : CSt) (v : (Nat → Int32)) : c_wishing (c_colours_s σ v) = c_wishing σ := rfl
theorem cq_wishing_freed (σ : CSt) (v : (Nat → Int32)) : c_wishing (c_freed_s σ v) = c_wishing σ := rfl
theorem cq_wishing_moves (σ : CSt) (v : (Nat → Int32)) : c_wishing (c_moves_s σ v) = c_wishing σ := rfl
theorem cq_wishing_places (σ : CSt) (v : (Nat → Int32)) : c_wishing (c_places_s σ v) = c_wishing σ := rfl
theorem cq_wishing_sizes (σ : CSt) (v : (Nat → Int32)) : c_wishing (c_sizes_s σ v) = c_wishing σ := rfl
def fX4_isThing (σ : CSt) (x1 : Int32) : Int32 := (if x1 < (0 : Int32) then (0 : Int32) else (if (c_tmade σ) ≤ x1 then (0 : Int32) else (if (120 : Int32) ≤ x1 then (0 : Int32) else (1 : Int32))))
theorem hdX4_isThing : yX4_isThing.cls = RX4 ∧ yX4_isThing.cls ≠ "java/lang/invoke/MethodHandle" ∧ yX4_isThing.cls ≠ "java/lang/invoke/VarHandle" ∧ (parseMethodDescriptor yX4_isThing.desc).map (fun d => d.parameters.length) = some 1 := by decide +kernel
theorem bX4_isThing (σ : CSt) (x1 : Int32) : (fX4_isThing σ x1) = 0 ∨ (fX4_isThing σ x1) = 1 := by
  unfold fX4_isThing
  (repeat' split) <;> first | exact Or.inl rfl | exact Or.inr rfl
set_option maxHeartbeats 250000 in
set_option maxRecDepth 100000 in
theorem kX4_isThing (l : Launch) (D : va_G) (a : Nat → Nat) (cI cZ : ClassId) (σ : CSt) (x1 : Int32) : CR l D (tyIZ cI cZ) (wC a cI cZ) yX4_isThing cX4_isThing 2 .boolean (rmk 0 0) [.ref (a 1), .int x1] σ (fX4_isThing σ x1) σ := by
  refine CR.of pnX4 ⟨rfl, rfl⟩ (Nat.le_of_ble_eq_true rfl) (nar_b (bX4_isThing σ x1)) (fun p e s m args below meth c A Q ls C X hA hl ret => ?_)
  have C : Cx p s m args meth c cX4_isThing 2 RX4 D (tyIZ cI cZ) := C
  have hx := C.1
  have hb := C.2.1
  have hl : lv_has ls 2 [(0, .ref (a 1)), (1, .int x1)] := hl
  refine lv_iload_n hx hb dX4_isThing_0 rfl (lv_at hl 1 rfl) ?_
  refine lv_if_lt (tgt := 22) hx hb dX4_isThing_1 (by decide) (fun c1 => ?_) (fun c1 => ?_)
  · refine lv_iconst (v := (0)) hx hb dX4_isThing_22 (by decide) ?_
    exact ret dX4_isThing_23 (congrArg (fun z => (z, _)) (Eq.symm (if_pos c1))) X
  · refine lv_iload_n hx hb dX4_isThing_4 rfl (lv_at hl 1 rfl) ?_
    refine lv_aload_n hx hb dX4_isThing_5 rfl (lv_at hl 0 rfl) ?_
    refine cg_X4_X4_made (v := (c_tmade σ)) C X rfl dX4_isThing_6 ?_
    refine lv_icmp_ge (tgt := 22) hx hb dX4_isThing_9 (by decide) (fun c9 => ?_) (fun c9 => ?_)
    · refine lv_iconst (v := (0)) hx hb dX4_isThing_22 (by decide) ?_
      exact ret dX4_isThing_23 (congrArg (fun z => (z, _)) (Eq.symm (Eq.trans (if_neg c1) (if_pos c9)))) X
    · refine lv_iload_n hx hb dX4_isThing_12 rfl (lv_at hl 1 rfl) ?_
      refine lv_bipush (v := (120)) hx hb dX4_isThing_13 (by decide) ?_
      refine lv_icmp_ge (tgt := 22) hx hb dX4_isThing_15 (by decide) (fun c15 => ?_) (fun c15 => ?_)
      · refine lv_iconst (v := (0)) hx hb dX4_isThing_22 (by decide) ?_
        exact ret dX4_isThing_23 (congrArg (fun z => (z, _)) (Eq.symm (Eq.trans (if_neg c1) (Eq.trans (if_neg c9) (if_pos c15))))) X
      · refine lv_iconst (v := (1)) hx hb dX4_isThing_18 (by decide) ?_
        refine lv_goto (tgt := 23) hx hb dX4_isThing_19 (by decide) ?_
        exact ret dX4_isThing_23 (congrArg (fun z => (z, _)) (Eq.symm (Eq.trans (if_neg c1) (Eq.trans (if_neg c9) (if_neg c15))))) X
theorem in_isThing {σ : CSt} {x : Int32} (h : ¬ fX4_isThing σ x = 0) : vp_in x 120 := by
  unfold fX4_isThing at h
  split at h
  · exact absurd rfl h
  · split at h
    · exact absurd rfl h
    · split at h
      · exact absurd rfl h
      · rename_i h1 h2 h3
        exact vp_in_iff.mpr (by have a1 := i32_nlt h1; have a3 := i32_nle h3; have q : (120 : Int32).toInt = 120 := rfl; have q2 : (0 : Int32).toInt = 0 := rfl; omega)

def fX4_sizeOf (σ : CSt) (x1 : Int32) : Int32 := (if (fX4_isThing σ x1) = (0 : Int32) then (0 : Int32) else ((c_sizes σ) (ix x1)))
theorem hdX4_sizeOf : yX4_sizeOf.cls = RX4 ∧ yX4_sizeOf.cls ≠ "java/lang/invoke/MethodHandle" ∧ yX4_sizeOf.cls ≠ "java/lang/invoke/VarHandle" ∧ (parseMethodDescriptor yX4_sizeOf.desc).map (fun d => d.parameters.length) = some 1 := by decide +kernel
set_option maxHeartbeats 250000 in
set_option maxRecDepth 100000 in
theorem kX4_sizeOf (l : Launch) (D : va_G) (a : Nat → Nat) (cI cZ : ClassId) (σ : CSt) (x1 : Int32) : CR l D (tyIZ cI cZ) (wC a cI cZ) yX4_sizeOf cX4_sizeOf 2 .int (rmk 1 21) [.ref (a 1), .int x1] σ (fX4_sizeOf σ x1) σ := by
  refine CR.of pnX4 ⟨rfl, rfl⟩ (Nat.le_of_ble_eq_true rfl) rfl (fun p e s m args below meth c A Q ls C X hA hl ret => ?_)
  have C : Cx p s m args meth c cX4_sizeOf 2 RX4 D (tyIZ cI cZ) := C
  have hx := C.1
  have hb := C.2.1
  have hl : lv_has ls 2 [(0, .ref (a 1)), (1, .int x1)] := hl
  refine lv_aload_n hx hb dX4_sizeOf_0 rfl (lv_at hl 0 rfl) ?_
  refine lv_iload_n hx hb dX4_sizeOf_1 rfl (lv_at hl 1 rfl) ?_
  refine callVR (rest := []) C hA (wC_sh a cI cZ) X (kX4_isThing l D a cI cZ _ x1) (cwV 1 C.2.2.2.2.1 (gV wl_X4_38 wt_yX4_isThing ws_yX4_isThing wi_X4 wk_yX4_isThing) rfl rfl rfl hdX4_isThing ⟨Nat.le_of_ble_eq_true rfl, Nat.le_of_ble_eq_true rfl⟩) (ci := 4) (q0 := 1) rfl rfl rfl hl.1 rfl (Nat.le_of_ble_eq_true rfl) dX4_sizeOf_2 ⟨Nat.le_refl 0, Nat.le_refl 0⟩ (fun H locs X => ?_)
  refine lv_if_eq (tgt := 17) hx hb dX4_sizeOf_5 (by decide) (fun c5 => ?_) (fun c5 => ?_)
  · refine lv_iconst (v := (0)) hx hb dX4_sizeOf_17 (by decide) ?_
    exact ret dX4_sizeOf_18 (congrArg (fun z => (z, _)) (Eq.symm (if_pos c5))) X
  · refine lv_aload_n hx hb dX4_sizeOf_8 rfl (lv_at hl 0 rfl) ?_
    refine cg_X4_X4_sizes C X dX4_sizeOf_9 ?_
    refine lv_iload_n hx hb dX4_sizeOf_12 rfl (lv_at hl 1 rfl) ?_
    refine ca_sizes (v := ((c_sizes σ) (ix x1))) C X (in_isThing c5) rfl dX4_sizeOf_13 ?_
    refine lv_goto (tgt := 18) hx hb dX4_sizeOf_14 (by decide) ?_
    exact ret dX4_sizeOf_18 (congrArg (fun z => (z, _)) (Eq.symm (if_neg c5))) X
def fX4_fieldsOf (σ : CSt) (x1 : Int32) : Int32 := (if (fX4_isThing σ x1) = (0 : Int32) then (0 : Int32) else (((c_sizes σ) (ix x1)) - (1 : Int32)))
theorem hdX4_fieldsOf : yX4_fieldsOf.cls = RX4 ∧ yX4_fieldsOf.cls ≠ "java/lang/invoke/MethodHandle" ∧ yX4_fieldsOf.cls ≠ "java/lang/invoke/VarHandle" ∧ (parseMethodDescriptor yX4_fieldsOf.desc).map (fun d => d.parameters.length) = some 1 := by decide +kernel
set_option maxHeartbeats 250000 in
set_option maxRecDepth 100000 in
theorem kX4_fieldsOf (l : Launch) (D : va_G) (a : Nat → Nat) (cI cZ : ClassId) (σ : CSt) (x1 : Int32) : CR l D (tyIZ cI cZ) (wC a cI cZ) yX4_fieldsOf cX4_fieldsOf 2 .int (rmk 1 21) [.ref (a 1), .int x1] σ (fX4_fieldsOf σ x1) σ := by
  refine CR.of pnX4 ⟨rfl, rfl⟩ (Nat.le_of_ble_eq_true rfl) rfl (fun p e s m args below meth c A Q ls C X hA hl ret => ?_)
  have C : Cx p s m args meth c cX4_fieldsOf 2 RX4 D (tyIZ cI cZ) := C
  have hx := C.1
  have hb := C.2.1
  have hl : lv_has ls 2 [(0, .ref (a 1)), (1, .int x1)] := hl
  refine lv_aload_n hx hb dX4_fieldsOf_0 rfl (lv_at hl 0 rfl) ?_
  refine lv_iload_n hx hb dX4_fieldsOf_1 rfl (lv_at hl 1 rfl) ?_
  refine callVR (rest := []) C hA (wC_sh a cI cZ) X (kX4_isThing l D a cI cZ _ x1) (cwV 1 C.2.2.2.2.1 (gV wl_X4_38 wt_yX4_isThing ws_yX4_isThing wi_X4 wk_yX4_isThing) rfl rfl rfl hdX4_isThing ⟨Nat.le_of_ble_eq_true rfl, Nat.le_of_ble_eq_true rfl⟩) (ci := 4) (q0 := 1) rfl rfl rfl hl.1 rfl (Nat.le_of_ble_eq_true rfl) dX4_fieldsOf_2 ⟨Nat.le_refl 0, Nat.le_refl 0⟩ (fun H locs X => ?_)
  refine lv_if_eq (tgt := 19) hx hb dX4_fieldsOf_5 (by decide) (fun c5 => ?_) (fun c5 => ?_)
  · refine lv_iconst (v := (0)) hx hb dX4_fieldsOf_19 (by decide) ?_
    exact ret dX4_fieldsOf_20 (congrArg (fun z => (z, _)) (Eq.symm (if_pos c5))) X
  · refine lv_aload_n hx hb dX4_fieldsOf_8 rfl (lv_at hl 0 rfl) ?_
    refine cg_X4_X4_sizes C X dX4_fieldsOf_9 ?_
    refine lv_iload_n hx hb dX4_fieldsOf_12 rfl (lv_at hl 1 rfl) ?_
    refine ca_sizes (v := ((c_sizes σ) (ix x1))) C X (in_isThing c5) rfl dX4_fieldsOf_13 ?_
    refine lv_iconst (v := (1)) hx hb dX4_fieldsOf_14 (by decide) ?_
    refine lv_isub hx hb dX4_fieldsOf_15 ?_
    refine lv_goto (tgt := 20) hx hb dX4_fieldsOf_16 (by decide) ?_
    exact ret dX4_fieldsOf_20 (congrArg (fun z => (z, _)) (Eq.symm (if_neg c5))) X
def fX4_placeOf (σ : CSt) (x1 : Int32) : Int32 := (if (fX4_isThing σ x1) = (0 : Int32) then (-1 : Int32) else ((c_places σ) (ix x1)))
theorem hdX4_placeOf : yX4_placeOf.cls = RX4 ∧ yX4_placeOf.cls ≠ "java/lang/invoke/MethodHandle" ∧ yX4_placeOf.cls ≠ "java/lang/invoke/VarHandle" ∧ (parseMethodDescriptor yX4_placeOf.desc).map (fun d => d.parameters.length) = some 1 := by decide +kernel
set_option maxHeartbeats 250000 in
set_option maxRecDepth 100000 in
theorem kX4_placeOf (l : Launch) (D : va_G) (a : Nat → Nat) (cI cZ : ClassId) (σ : CSt) (x1 : Int32) : CR l D (tyIZ cI cZ) (wC a cI cZ) yX4_placeOf cX4_placeOf 2 .int (rmk 1 21) [.ref (a 1), .int x1] σ (fX4_placeOf σ x1) σ := by
  refine CR.of pnX4 ⟨rfl, rfl⟩ (Nat.le_of_ble_eq_true rfl) rfl (fun p e s m args below meth c A Q ls C X hA hl ret => ?_)
  have C : Cx p s m args meth c cX4_placeOf 2 RX4 D (tyIZ cI cZ) := C
  have hx := C.1
  have hb := C.2.1
  have hl : lv_has ls 2 [(0, .ref (a 1)), (1, .int x1)] := hl
  refine lv_aload_n hx hb dX4_placeOf_0 rfl (lv_at hl 0 rfl) ?_
  refine lv_iload_n hx hb dX4_placeOf_1 rfl (lv_at hl 1 rfl) ?_
  refine callVR (rest := []) C hA (wC_sh a cI cZ) X (kX4_isThing l D a cI cZ _ x1) (cwV 1 C.2.2.2.2.1 (gV wl_X4_38 wt_yX4_isThing ws_yX4_isThing wi_X4 wk_yX4_isThing) rfl rfl rfl hdX4_isThing ⟨Nat.le_of_ble_eq_true rfl, Nat.le_of_ble_eq_true rfl⟩) (ci := 4) (q0 := 1) rfl rfl rfl hl.1 rfl (Nat.le_of_ble_eq_true rfl) dX4_placeOf_2 ⟨Nat.le_refl 0, Nat.le_refl 0⟩ (fun H locs X => ?_)
  refine lv_if_eq (tgt := 17) hx hb dX4_placeOf_5 (by decide) (fun c5 => ?_) (fun c5 => ?_)
  · refine lv_iconst (v := (-1)) hx hb dX4_placeOf_17 (by decide) ?_
    exact ret dX4_placeOf_18 (congrArg (fun z => (z, _)) (Eq.symm (if_pos c5))) X
  · refine lv_aload_n hx hb dX4_placeOf_8 rfl (lv_at hl 0 rfl) ?_
    refine cg_X4_X4_places C X dX4_placeOf_9 ?_
    refine lv_iload_n hx hb dX4_placeOf_12 rfl (lv_at hl 1 rfl) ?_
    refine ca_places (v := ((c_places σ) (ix x1))) C X (in_isThing c5) rfl dX4_placeOf_13 ?_
    refine lv_goto (tgt := 18) hx hb dX4_placeOf_14 (by decide) ?_
    exact ret dX4_placeOf_18 (congrArg (fun z => (z, _)) (Eq.symm (if_neg c5))) X
def fX4_colourOf (σ : CSt) (x1 : Int32) : Int32 := (if (fX4_isThing σ x1) = (0 : Int32) then (-1 : Int32) else ((c_colours σ) (ix x1)))
theorem hdX4_colourOf : yX4_colourOf.cls = RX4 ∧ yX4_colourOf.cls ≠ "java/lang/invoke/MethodHandle" ∧ yX4_colourOf.cls ≠ "java/lang/invoke/VarHandle" ∧ (parseMethodDescriptor yX4_colourOf.desc).map (fun d => d.parameters.length) = some 1 := by decide +kernel
set_option maxHeartbeats 250000 in
set_option maxRecDepth 100000 in
theorem kX4_colourOf (l : Launch) (D : va_G) (a : Nat → Nat) (cI cZ : ClassId) (σ : CSt) (x1 : Int32) : CR l D (tyIZ cI cZ) (wC a cI cZ) yX4_colourOf cX4_colourOf 2 .int (rmk 1 21) [.ref (a 1), .int x1] σ (fX4_colourOf σ x1) σ := by
  refine CR.of pnX4 ⟨rfl, rfl⟩ (Nat.le_of_ble_eq_true rfl) rfl (fun p e s m args below meth c A Q ls C X hA hl ret => ?_)
  have C : Cx p s m args meth c cX4_colourOf 2 RX4 D (tyIZ cI cZ) := C
  have hx := C.1
  have hb := C.2.1
  have hl : lv_has ls 2 [(0, .ref (a 1)), (1, .int x1)] := hl
  refine lv_aload_n hx hb dX4_colourOf_0 rfl (lv_at hl 0 rfl) ?_
  refine lv_iload_n hx hb dX4_colourOf_1 rfl (lv_at hl 1 rfl) ?_
  refine callVR (rest := []) C hA (wC_sh a cI cZ) X (kX4_isThing l D a cI cZ _ x1) (cwV 1 C.2.2.2.2.1 (gV wl_X4_38 wt_yX4_isThing ws_yX4_isThing wi_X4 wk_yX4_isThing) rfl rfl rfl hdX4_isThing ⟨Nat.le_of_ble_eq_true rfl, Nat.le_of_ble_eq_true rfl⟩) (ci := 4) (q0 := 1) rfl rfl rfl hl.1 rfl (Nat.le_of_ble_eq_true rfl) dX4_colourOf_2 ⟨Nat.le_refl 0, Nat.le_refl 0⟩ (fun H locs X => ?_)
  refine lv_if_eq (tgt := 17) hx hb dX4_colourOf_5 (by decide) (fun c5 => ?_) (fun c5 => ?_)
  · refine lv_iconst (v := (-1)) hx hb dX4_colourOf_17 (by decide) ?_
    exact ret dX4_colourOf_18 (congrArg (fun z => (z, _)) (Eq.symm (if_pos c5))) X
  · refine lv_aload_n hx hb dX4_colourOf_8 rfl (lv_at hl 0 rfl) ?_
    refine cg_X4_X4_colours C X dX4_colourOf_9 ?_
    refine lv_iload_n hx hb dX4_colourOf_12 rfl (lv_at hl 1 rfl) ?_
    refine ca_colours (v := ((c_colours σ) (ix x1))) C X (in_isThing c5) rfl dX4_colourOf_13 ?_
    refine lv_goto (tgt := 18) hx hb dX4_colourOf_14 (by decide) ?_
    exact ret dX4_colourOf_18 (congrArg (fun z => (z, _)) (Eq.symm (if_neg c5))) X
def fX4_movesOf (σ : CSt) (x1 : Int32) : Int32 := (if (fX4_isThing σ x1) = (0 : Int32) then (0 : Int32) else ((c_moves σ) (ix x1)))
theorem hdX4_movesOf : yX4_movesOf.cls = RX4 ∧ yX4_movesOf.cls ≠ "java/lang/invoke/MethodHandle" ∧ yX4_movesOf.cls ≠ "java/lang/invoke/VarHandle" ∧ (parseMethodDescriptor yX4_movesOf.desc).map (fun d => d.parameters.length) = some 1 := by decide +kernel
set_option maxHeartbeats 250000 in
set_option maxRecDepth 100000 in
theorem kX4_movesOf (l : Launch) (D : va_G) (a : Nat → Nat) (cI cZ : ClassId) (σ : CSt) (x1 : Int32) : CR l D (tyIZ cI cZ) (wC a cI cZ) yX4_movesOf cX4_movesOf 2 .int (rmk 1 21) [.ref (a 1), .int x1] σ (fX4_movesOf σ x1) σ := by
  refine CR.of pnX4 ⟨rfl, rfl⟩ (Nat.le_of_ble_eq_true rfl) rfl (fun p e s m args below meth c A Q ls C X hA hl ret => ?_)
  have C : Cx p s m args meth c cX4_movesOf 2 RX4 D (tyIZ cI cZ) := C
  have hx := C.1
  have hb := C.2.1
  have hl : lv_has ls 2 [(0, .ref (a 1)), (1, .int x1)] := hl
  refine lv_aload_n hx hb dX4_movesOf_0 rfl (lv_at hl 0 rfl) ?_
  refine lv_iload_n hx hb dX4_movesOf_1 rfl (lv_at hl 1 rfl) ?_
  refine callVR (rest := []) C hA (wC_sh a cI cZ) X (kX4_isThing l D a cI cZ _ x1) (cwV 1 C.2.2.2.2.1 (gV wl_X4_38 wt_yX4_isThing ws_yX4_isThing wi_X4 wk_yX4_isThing) rfl rfl rfl hdX4_isThing ⟨Nat.le_of_ble_eq_true rfl, Nat.le_of_ble_eq_true rfl⟩) (ci := 4) (q0 := 1) rfl rfl rfl hl.1 rfl (Nat.le_of_ble_eq_true rfl) dX4_movesOf_2 ⟨Nat.le_refl 0, Nat.le_refl 0⟩ (fun H locs X => ?_)
  refine lv_if_eq (tgt := 17) hx hb dX4_movesOf_5 (by decide) (fun c5 => ?_) (fun c5 => ?_)
  · refine lv_iconst (v := (0)) hx hb dX4_movesOf_17 (by decide) ?_
    exact ret dX4_movesOf_18 (congrArg (fun z => (z, _)) (Eq.symm (if_pos c5))) X
  · refine lv_aload_n hx hb dX4_movesOf_8 rfl (lv_at hl 0 rfl) ?_
    refine cg_X4_X4_moves C X dX4_movesOf_9 ?_
    refine lv_iload_n hx hb dX4_movesOf_12 rfl (lv_at hl 1 rfl) ?_
    refine ca_moves (v := ((c_moves σ) (ix x1))) C X (in_isThing c5) rfl dX4_movesOf_13 ?_
    refine lv_goto (tgt := 18) hx hb dX4_movesOf_14 (by decide) ?_
    exact ret dX4_movesOf_18 (congrArg (fun z => (z, _)) (Eq.symm (if_neg c5))) X
def fX4_isWhite (σ : CSt) (x1 : Int32) : Int32 := (if (fX4_isThing σ x1) = (0 : Int32) then (0 : Int32) else (if ((c_colours σ) (ix x1)) = (0 : Int32) then (1 : Int32) else (0 : Int32)))
theorem hdX4_isWhite : yX4_isWhite.cls = RX4 ∧ yX4_isWhite.cls ≠ "java/lang/invoke/MethodHandle" ∧ yX4_isWhite.cls ≠ "java/lang/invoke/VarHandle" ∧ (parseMethodDescriptor yX4_isWhite.desc).map (fun d => d.parameters.length) = some 1 := by decide +kernel
theorem bX4_isWhite (σ : CSt) (x1 : Int32) : (fX4_isWhite σ x1) = 0 ∨ (fX4_isWhite σ x1) = 1 := by
  unfold fX4_isWhite
  (repeat' split) <;> first | exact Or.inl rfl | exact Or.inr rfl
set_option maxHeartbeats 250000 in
set_option maxRecDepth 100000 in
theorem kX4_isWhite (l : Launch) (D : va_G) (a : Nat → Nat) (cI cZ : ClassId) (σ : CSt) (x1 : Int32) : CR l D (tyIZ cI cZ) (wC a cI cZ) yX4_isWhite cX4_isWhite 2 .boolean (rmk 1 21) [.ref (a 1), .int x1] σ (fX4_isWhite σ x1) σ := by
  refine CR.of pnX4 ⟨rfl, rfl⟩ (Nat.le_of_ble_eq_true rfl) (nar_b (bX4_isWhite σ x1)) (fun p e s m args below meth c A Q ls C X hA hl ret => ?_)
  have C : Cx p s m args meth c cX4_isWhite 2 RX4 D (tyIZ cI cZ) := C
  have hx := C.1
  have hb := C.2.1
  have hl : lv_has ls 2 [(0, .ref (a 1)), (1, .int x1)] := hl
  refine lv_aload_n hx hb dX4_isWhite_0 rfl (lv_at hl 0 rfl) ?_
  refine lv_iload_n hx hb dX4_isWhite_1 rfl (lv_at hl 1 rfl) ?_
  refine callVR (rest := []) C hA (wC_sh a cI cZ) X (kX4_isThing l D a cI cZ _ x1) (cwV 1 C.2.2.2.2.1 (gV wl_X4_38 wt_yX4_isThing ws_yX4_isThing wi_X4 wk_yX4_isThing) rfl rfl rfl hdX4_isThing ⟨Nat.le_of_ble_eq_true rfl, Nat.le_of_ble_eq_true rfl⟩) (ci := 4) (q0 := 1) rfl rfl rfl hl.1 rfl (Nat.le_of_ble_eq_true rfl) dX4_isWhite_2 ⟨Nat.le_refl 0, Nat.le_refl 0⟩ (fun H locs X => ?_)
  refine lv_if_eq (tgt := 21) hx hb dX4_isWhite_5 (by decide) (fun c5 => ?_) (fun c5 => ?_)
  · refine lv_iconst (v := (0)) hx hb dX4_isWhite_21 (by decide) ?_
    exact ret dX4_isWhite_22 (congrArg (fun z => (z, _)) (Eq.symm (if_pos c5))) X
  · refine lv_aload_n hx hb dX4_isWhite_8 rfl (lv_at hl 0 rfl) ?_
    refine cg_X4_X4_colours C X dX4_isWhite_9 ?_
    refine lv_iload_n hx hb dX4_isWhite_12 rfl (lv_at hl 1 rfl) ?_
    refine ca_colours (v := ((c_colours σ) (ix x1))) C X (in_isThing c5) rfl dX4_isWhite_13 ?_
    refine lv_if_ne (tgt := 21) hx hb dX4_isWhite_14 (by decide) (fun c14 => ?_) (fun c14 => ?_)
    · refine lv_iconst (v := (0)) hx hb dX4_isWhite_21 (by decide) ?_
      exact ret dX4_isWhite_22 (congrArg (fun z => (z, _)) (Eq.symm (Eq.trans (if_neg c5) (if_neg c14)))) X
    · refine lv_iconst (v := (1)) hx hb dX4_isWhite_17 (by decide) ?_
      refine lv_goto (tgt := 22) hx hb dX4_isWhite_18 (by decide) ?_
      exact ret dX4_isWhite_22 (congrArg (fun z => (z, _)) (Eq.symm (Eq.trans (if_neg c5) (if_pos c14)))) X
def fX4_isFreed (σ : CSt) (x1 : Int32) : Int32 := (if (fX4_isThing σ x1) = (0 : Int32) then (0 : Int32) else (if ((c_freed σ) (ix x1)) = (0 : Int32) then (0 : Int32) else (1 : Int32)))
theorem hdX4_isFreed : yX4_isFreed.cls = RX4 ∧ yX4_isFreed.cls ≠ "java/lang/invoke/MethodHandle" ∧ yX4_isFreed.cls ≠ "java/lang/invoke/VarHandle" ∧ (parseMethodDescriptor yX4_isFreed.desc).map (fun d => d.parameters.length) = some 1 := by decide +kernel
theorem bX4_isFreed (σ : CSt) (x1 : Int32) : (fX4_isFreed σ x1) = 0 ∨ (fX4_isFreed σ x1) = 1 := by
  unfold fX4_isFreed
  (repeat' split) <;> first | exact Or.inl rfl | exact Or.inr rfl
set_option maxHeartbeats 250000 in
set_option maxRecDepth 100000 in
theorem kX4_isFreed (l : Launch) (D : va_G) (a : Nat → Nat) (cI cZ : ClassId) (σ : CSt) (x1 : Int32) : CR l D (tyIZ cI cZ) (wC a cI cZ) yX4_isFreed cX4_isFreed 2 .boolean (rmk 1 21) [.ref (a 1), .int x1] σ (fX4_isFreed σ x1) σ := by
  refine CR.of pnX4 ⟨rfl, rfl⟩ (Nat.le_of_ble_eq_true rfl) (nar_b (bX4_isFreed σ x1)) (fun p e s m args below meth c A Q ls C X hA hl ret => ?_)
  have C : Cx p s m args meth c cX4_isFreed 2 RX4 D (tyIZ cI cZ) := C
  have hx := C.1
  have hb := C.2.1
  have hl : lv_has ls 2 [(0, .ref (a 1)), (1, .int x1)] := hl
  refine lv_aload_n hx hb dX4_isFreed_0 rfl (lv_at hl 0 rfl) ?_
  refine lv_iload_n hx hb dX4_isFreed_1 rfl (lv_at hl 1 rfl) ?_
  refine callVR (rest := []) C hA (wC_sh a cI cZ) X (kX4_isThing l D a cI cZ _ x1) (cwV 1 C.2.2.2.2.1 (gV wl_X4_38 wt_yX4_isThing ws_yX4_isThing wi_X4 wk_yX4_isThing) rfl rfl rfl hdX4_isThing ⟨Nat.le_of_ble_eq_true rfl, Nat.le_of_ble_eq_true rfl⟩) (ci := 4) (q0 := 1) rfl rfl rfl hl.1 rfl (Nat.le_of_ble_eq_true rfl) dX4_isFreed_2 ⟨Nat.le_refl 0, Nat.le_refl 0⟩ (fun H locs X => ?_)
  refine lv_if_eq (tgt := 21) hx hb dX4_isFreed_5 (by decide) (fun c5 => ?_) (fun c5 => ?_)
  · refine lv_iconst (v := (0)) hx hb dX4_isFreed_21 (by decide) ?_
    exact ret dX4_isFreed_22 (congrArg (fun z => (z, _)) (Eq.symm (if_pos c5))) X
  · refine lv_aload_n hx hb dX4_isFreed_8 rfl (lv_at hl 0 rfl) ?_
    refine cg_X4_X4_freed C X dX4_isFreed_9 ?_
    refine lv_iload_n hx hb dX4_isFreed_12 rfl (lv_at hl 1 rfl) ?_
    refine ca_freed (v := ((c_freed σ) (ix x1))) C X (in_isThing c5) rfl dX4_isFreed_13 ?_
    refine lv_if_eq (tgt := 21) hx hb dX4_isFreed_14 (by decide) (fun c14 => ?_) (fun c14 => ?_)
    · refine lv_iconst (v := (0)) hx hb dX4_isFreed_21 (by decide) ?_
      exact ret dX4_isFreed_22 (congrArg (fun z => (z, _)) (Eq.symm (Eq.trans (if_neg c5) (if_pos c14)))) X
    · refine lv_iconst (v := (1)) hx hb dX4_isFreed_17 (by decide) ?_
      refine lv_goto (tgt := 22) hx hb dX4_isFreed_18 (by decide) ?_
      exact ret dX4_isFreed_22 (congrArg (fun z => (z, _)) (Eq.symm (Eq.trans (if_neg c5) (if_neg c14)))) X
def fX4_hasWish (σ : CSt) (x1 : Int32) : Int32 := (if (fX4_isThing σ x1) = (0 : Int32) then (0 : Int32) else (if ((c_wishing σ) (ix x1)) = (0 : Int32) then (0 : Int32) else (1 : Int32)))
theorem hdX4_hasWish : yX4_hasWish.cls = RX4 ∧ yX4_hasWish.cls ≠ "java/lang/invoke/MethodHandle" ∧ yX4_hasWish.cls ≠ "java/lang/invoke/VarHandle" ∧ (parseMethodDescriptor yX4_hasWish.desc).map (fun d => d.parameters.length) = some 1 := by decide +kernel
theorem bX4_hasWish (σ : CSt) (x1 : Int32) : (fX4_hasWish σ x1) = 0 ∨ (fX4_hasWish σ x1) = 1 := by
  unfold fX4_hasWish
  (repeat' split) <;> first | exact Or.inl rfl | exact Or.inr rfl
set_option maxHeartbeats 250000 in
set_option maxRecDepth 100000 in
theorem kX4_hasWish (l : Launch) (D : va_G) (a : Nat → Nat) (cI cZ : ClassId) (σ : CSt) (x1 : Int32) : CR l D (tyIZ cI cZ) (wC a cI cZ) yX4_hasWish cX4_hasWish 2 .boolean (rmk 1 21) [.ref (a 1), .int x1] σ (fX4_hasWish σ x1) σ := by
  refine CR.of pnX4 ⟨rfl, rfl⟩ (Nat.le_of_ble_eq_true rfl) (nar_b (bX4_hasWish σ x1)) (fun p e s m args below meth c A Q ls C X hA hl ret => ?_)
  have C : Cx p s m args meth c cX4_hasWish 2 RX4 D (tyIZ cI cZ) := C
  have hx := C.1
  have hb := C.2.1
  have hl : lv_has ls 2 [(0, .ref (a 1)), (1, .int x1)] := hl
  refine lv_aload_n hx hb dX4_hasWish_0 rfl (lv_at hl 0 rfl) ?_
  refine lv_iload_n hx hb dX4_hasWish_1 rfl (lv_at hl 1 rfl) ?_
  refine callVR (rest := []) C hA (wC_sh a cI cZ) X (kX4_isThing l D a cI cZ _ x1) (cwV 1 C.2.2.2.2.1 (gV wl_X4_38 wt_yX4_isThing ws_yX4_isThing wi_X4 wk_yX4_isThing) rfl rfl rfl hdX4_isThing ⟨Nat.le_of_ble_eq_true rfl, Nat.le_of_ble_eq_true rfl⟩) (ci := 4) (q0 := 1) rfl rfl rfl hl.1 rfl (Nat.le_of_ble_eq_true rfl) dX4_hasWish_2 ⟨Nat.le_refl 0, Nat.le_refl 0⟩ (fun H locs X => ?_)
  refine lv_if_eq (tgt := 21) hx hb dX4_hasWish_5 (by decide) (fun c5 => ?_) (fun c5 => ?_)
  · refine lv_iconst (v := (0)) hx hb dX4_hasWish_21 (by decide) ?_
    exact ret dX4_hasWish_22 (congrArg (fun z => (z, _)) (Eq.symm (if_pos c5))) X
  · refine lv_aload_n hx hb dX4_hasWish_8 rfl (lv_at hl 0 rfl) ?_
    refine cg_X4_X4_wishing C X dX4_hasWish_9 ?_
    refine lv_iload_n hx hb dX4_hasWish_12 rfl (lv_at hl 1 rfl) ?_
    refine ca_wishing (v := ((c_wishing σ) (ix x1))) C X (in_isThing c5) rfl dX4_hasWish_13 ?_
    refine lv_if_eq (tgt := 21) hx hb dX4_hasWish_14 (by decide) (fun c14 => ?_) (fun c14 => ?_)
    · refine lv_iconst (v := (0)) hx hb dX4_hasWish_21 (by decide) ?_
      exact ret dX4_hasWish_22 (congrArg (fun z => (z, _)) (Eq.symm (Eq.trans (if_neg c5) (if_pos c14)))) X
    · refine lv_iconst (v := (1)) hx hb dX4_hasWish_17 (by decide) ?_
      refine lv_goto (tgt := 22) hx hb dX4_hasWish_18 (by decide) ?_
      exact ret dX4_hasWish_22 (congrArg (fun z => (z, _)) (Eq.symm (Eq.trans (if_neg c5) (if_neg c14)))) X
def fX4_hasField (σ : CSt) (x1 : Int32) (x2 : Int32) : Int32 := (if (fX4_isThing σ x1) = (0 : Int32) then (0 : Int32) else (if x2 < (0 : Int32) then (0 : Int32) else (if (6 : Int32) ≤ x2 then (0 : Int32) else (if (((c_sizes σ) (ix x1)) - (1 : Int32)) ≤ x2 then (0 : Int32) else (1 : Int32)))))
theorem hdX4_hasField : yX4_hasField.cls = RX4 ∧ yX4_hasField.cls ≠ "java/lang/invoke/MethodHandle" ∧ yX4_hasField.cls ≠ "java/lang/invoke/VarHandle" ∧ (parseMethodDescriptor yX4_hasField.desc).map (fun d => d.parameters.length) = some 2 := by decide +kernel
theorem bX4_hasField (σ : CSt) (x1 : Int32) (x2 : Int32) : (fX4_hasField σ x1 x2) = 0 ∨ (fX4_hasField σ x1 x2) = 1 := by
  unfold fX4_hasField
  (repeat' split) <;> first | exact Or.inl rfl | exact Or.inr rfl
set_option maxHeartbeats 250000 in
set_option maxRecDepth 100000 in
theorem kX4_hasField (l : Launch) (D : va_G) (a : Nat → Nat) (cI cZ : ClassId) (σ : CSt) (x1 : Int32) (x2 : Int32) : CR l D (tyIZ cI cZ) (wC a cI cZ) yX4_hasField cX4_hasField 3 .boolean (rmk 1 21) [.ref (a 1), .int x1, .int x2] σ (fX4_hasField σ x1 x2) σ := by
  refine CR.of pnX4 ⟨rfl, rfl⟩ (Nat.le_of_ble_eq_true rfl) (nar_b (bX4_hasField σ x1 x2)) (fun p e s m args below meth c A Q ls C X hA hl ret => ?_)
  have C : Cx p s m args meth c cX4_hasField 3 RX4 D (tyIZ cI cZ) := C
  have hx := C.1
  have hb := C.2.1
  have hl : lv_has ls 3 [(0, .ref (a 1)), (1, .int x1), (2, .int x2)] := hl
  refine lv_aload_n hx hb dX4_hasField_0 rfl (lv_at hl 0 rfl) ?_
  refine lv_iload_n hx hb dX4_hasField_1 rfl (lv_at hl 1 rfl) ?_
  refine callVR (rest := []) C hA (wC_sh a cI cZ) X (kX4_isThing l D a cI cZ _ x1) (cwV 1 C.2.2.2.2.1 (gV wl_X4_38 wt_yX4_isThing ws_yX4_isThing wi_X4 wk_yX4_isThing) rfl rfl rfl hdX4_isThing ⟨Nat.le_of_ble_eq_true rfl, Nat.le_of_ble_eq_true rfl⟩) (ci := 4) (q0 := 1) rfl rfl rfl hl.1 rfl (Nat.le_of_ble_eq_true rfl) dX4_hasField_2 ⟨Nat.le_refl 0, Nat.le_refl 0⟩ (fun H locs X => ?_)
  refine lv_if_eq (tgt := 34) hx hb dX4_hasField_5 (by decide) (fun c5 => ?_) (fun c5 => ?_)
  · refine lv_iconst (v := (0)) hx hb dX4_hasField_34 (by decide) ?_
    exact ret dX4_hasField_35 (congrArg (fun z => (z, _)) (Eq.symm (if_pos c5))) X
  · refine lv_iload_n hx hb dX4_hasField_8 rfl (lv_at hl 2 rfl) ?_
    refine lv_if_lt (tgt := 34) hx hb dX4_hasField_9 (by decide) (fun c9 => ?_) (fun c9 => ?_)
    · refine lv_iconst (v := (0)) hx hb dX4_hasField_34 (by decide) ?_
      exact ret dX4_hasField_35 (congrArg (fun z => (z, _)) (Eq.symm (Eq.trans (if_neg c5) (if_pos c9)))) X
    · refine lv_iload_n hx hb dX4_hasField_12 rfl (lv_at hl 2 rfl) ?_
      refine lv_bipush (v := (6)) hx hb dX4_hasField_13 (by decide) ?_
      refine lv_icmp_ge (tgt := 34) hx hb dX4_hasField_15 (by decide) (fun c15 => ?_) (fun c15 => ?_)
      · refine lv_iconst (v := (0)) hx hb dX4_hasField_34 (by decide) ?_
        exact ret dX4_hasField_35 (congrArg (fun z => (z, _)) (Eq.symm (Eq.trans (if_neg c5) (Eq.trans (if_neg c9) (if_pos c15))))) X
      · refine lv_iload_n hx hb dX4_hasField_18 rfl (lv_at hl 2 rfl) ?_
        refine lv_aload_n hx hb dX4_hasField_19 rfl (lv_at hl 0 rfl) ?_
        refine cg_X4_X4_sizes C X dX4_hasField_20 ?_
        refine lv_iload_n hx hb dX4_hasField_23 rfl (lv_at hl 1 rfl) ?_
        refine ca_sizes (v := ((c_sizes σ) (ix x1))) C X (in_isThing c5) rfl dX4_hasField_24 ?_
        refine lv_iconst (v := (1)) hx hb dX4_hasField_25 (by decide) ?_
        refine lv_isub hx hb dX4_hasField_26 ?_
        refine lv_icmp_ge (tgt := 34) hx hb dX4_hasField_27 (by decide) (fun c27 => ?_) (fun c27 => ?_)
        · refine lv_iconst (v := (0)) hx hb dX4_hasField_34 (by decide) ?_
          exact ret dX4_hasField_35 (congrArg (fun z => (z, _)) (Eq.symm (Eq.trans (if_neg c5) (Eq.trans (if_neg c9) (Eq.trans (if_neg c15) (if_pos c27)))))) X
        · refine lv_iconst (v := (1)) hx hb dX4_hasField_30 (by decide) ?_
          refine lv_goto (tgt := 35) hx hb dX4_hasField_31 (by decide) ?_
          exact ret dX4_hasField_35 (congrArg (fun z => (z, _)) (Eq.symm (Eq.trans (if_neg c5) (Eq.trans (if_neg c9) (Eq.trans (if_neg c15) (if_neg c27)))))) X
theorem in_hasField {σ : CSt} {x i : Int32} (h : ¬ fX4_hasField σ x i = 0) : vp_in (x * 6 + i) 720 := by
  unfold fX4_hasField at h
  split at h
  · exact absurd rfl h
  · rename_i h0
    have hx := vp_in_iff.mp (in_isThing h0)
    split at h
    · exact absurd rfl h
    · split at h
      · exact absurd rfl h
      · rename_i h1 h2
        have a1 := i32_nlt h1
        have a2 := i32_nle h2
        have q : (6 : Int32).toInt = 6 := rfl
        have q2 : (0 : Int32).toInt = 0 := rfl
        refine vp_in_iff.mpr ?_
        have e : (x * 6 + i).toInt = x.toInt * 6 + i.toInt := by
          rw [Int32.toInt_add, Int32.toInt_mul, q]
          have e1 : (x.toInt * 6).bmod (2 ^ 32) = x.toInt * 6 := Int.bmod_eq_of_le (by omega) (by omega)
          rw [e1]
          exact Int.bmod_eq_of_le (by omega) (by omega)
        rw [e]
        omega

def fX4_inField (σ : CSt) (x1 : Int32) (x2 : Int32) : Int32 := (if (fX4_hasField σ x1 x2) = (0 : Int32) then (-1 : Int32) else ((c_theld σ) (ix ((x1 * (6 : Int32)) + x2))))
theorem hdX4_inField : yX4_inField.cls = RX4 ∧ yX4_inField.cls ≠ "java/lang/invoke/MethodHandle" ∧ yX4_inField.cls ≠ "java/lang/invoke/VarHandle" ∧ (parseMethodDescriptor yX4_inField.desc).map (fun d => d.parameters.length) = some 2 := by decide +kernel
set_option maxHeartbeats 250000 in
set_option maxRecDepth 100000 in
theorem kX4_inField (l : Launch) (D : va_G) (a : Nat → Nat) (cI cZ : ClassId) (σ : CSt) (x1 : Int32) (x2 : Int32) : CR l D (tyIZ cI cZ) (wC a cI cZ) yX4_inField cX4_inField 3 .int (rmk 2 43) [.ref (a 1), .int x1, .int x2] σ (fX4_inField σ x1 x2) σ := by
  refine CR.of pnX4 ⟨rfl, rfl⟩ (Nat.le_of_ble_eq_true rfl) rfl (fun p e s m args below meth c A Q ls C X hA hl ret => ?_)
  have C : Cx p s m args meth c cX4_inField 3 RX4 D (tyIZ cI cZ) := C
  have hx := C.1
  have hb := C.2.1
  have hl : lv_has ls 3 [(0, .ref (a 1)), (1, .int x1), (2, .int x2)] := hl
  refine lv_aload_n hx hb dX4_inField_0 rfl (lv_at hl 0 rfl) ?_
  refine lv_iload_n hx hb dX4_inField_1 rfl (lv_at hl 1 rfl) ?_
  refine lv_iload_n hx hb dX4_inField_2 rfl (lv_at hl 2 rfl) ?_
  refine callVR (rest := []) C hA (wC_sh a cI cZ) X (kX4_hasField l D a cI cZ _ x1 x2) (cwV 2 C.2.2.2.2.1 (gV wl_X4_42 wt_yX4_hasField ws_yX4_hasField wi_X4 wk_yX4_hasField) rfl rfl rfl hdX4_hasField ⟨Nat.le_of_ble_eq_true rfl, Nat.le_of_ble_eq_true rfl⟩) (ci := 4) (q0 := 1) rfl rfl rfl hl.1 rfl (Nat.le_of_ble_eq_true rfl) dX4_inField_3 ⟨Nat.le_refl 0, Nat.le_refl 0⟩ (fun H locs X => ?_)
  refine lv_if_eq (tgt := 23) hx hb dX4_inField_6 (by decide) (fun c6 => ?_) (fun c6 => ?_)
  · refine lv_iconst (v := (-1)) hx hb dX4_inField_23 (by decide) ?_
    exact ret dX4_inField_24 (congrArg (fun z => (z, _)) (Eq.symm (if_pos c6))) X
  · refine lv_aload_n hx hb dX4_inField_9 rfl (lv_at hl 0 rfl) ?_
    refine cg_X4_X4_held C X dX4_inField_10 ?_
    refine lv_iload_n hx hb dX4_inField_13 rfl (lv_at hl 1 rfl) ?_
    refine lv_bipush (v := (6)) hx hb dX4_inField_14 (by decide) ?_
    refine lv_imul hx hb dX4_inField_16 ?_
    refine lv_iload_n hx hb dX4_inField_17 rfl (lv_at hl 2 rfl) ?_
    refine lv_iadd hx hb dX4_inField_18 ?_
    refine ca_theld (v := ((c_theld σ) (ix ((x1 * (6 : Int32)) + x2)))) C X (in_hasField c6) rfl dX4_inField_19 ?_
    refine lv_goto (tgt := 24) hx hb dX4_inField_20 (by decide) ?_
    exact ret dX4_inField_24 (congrArg (fun z => (z, _)) (Eq.symm (if_neg c6))) X
def fX4_setField (σ : CSt) (x1 : Int32) (x2 : Int32) (x3 : Int32) : CSt := (if (fX4_hasField σ x1 x2) = (0 : Int32) then σ else (c_theld_s σ (upd (c_theld σ) (ix ((x1 * (6 : Int32)) + x2)) x3)))
theorem hdX4_setField : yX4_setField.cls = RX4 ∧ yX4_setField.cls ≠ "java/lang/invoke/MethodHandle" ∧ yX4_setField.cls ≠ "java/lang/invoke/VarHandle" ∧ (parseMethodDescriptor yX4_setField.desc).map (fun d => d.parameters.length) = some 3 := by decide +kernel
set_option maxHeartbeats 250000 in
set_option maxRecDepth 100000 in
theorem kX4_setField (l : Launch) (D : va_G) (a : Nat → Nat) (cI cZ : ClassId) (σ : CSt) (x1 : Int32) (x2 : Int32) (x3 : Int32) : CU l D (tyIZ cI cZ) (wC a cI cZ) yX4_setField cX4_setField 4 (rmk 2 43) [.ref (a 1), .int x1, .int x2, .int x3] σ (fX4_setField σ x1 x2 x3) := by
  refine CU.of pnX4 ⟨rfl, rfl⟩ (Nat.le_of_ble_eq_true rfl) (fun p e s m args below meth c A Q ls C X hA hl ret => ?_)
  have C : Cx p s m args meth c cX4_setField 4 RX4 D (tyIZ cI cZ) := C
  have hx := C.1
  have hb := C.2.1
  have hl : lv_has ls 4 [(0, .ref (a 1)), (1, .int x1), (2, .int x2), (3, .int x3)] := hl
  refine lv_aload_n hx hb dX4_setField_0 rfl (lv_at hl 0 rfl) ?_
  refine lv_iload_n hx hb dX4_setField_1 rfl (lv_at hl 1 rfl) ?_
  refine lv_iload_n hx hb dX4_setField_2 rfl (lv_at hl 2 rfl) ?_
  refine callVR (rest := []) C hA (wC_sh a cI cZ) X (kX4_hasField l D a cI cZ _ x1 x2) (cwV 2 C.2.2.2.2.1 (gV wl_X4_42 wt_yX4_hasField ws_yX4_hasField wi_X4 wk_yX4_hasField) rfl rfl rfl hdX4_hasField ⟨Nat.le_of_ble_eq_true rfl, Nat.le_of_ble_eq_true rfl⟩) (ci := 4) (q0 := 1) rfl rfl rfl hl.1 rfl (Nat.le_of_ble_eq_true rfl) dX4_setField_3 ⟨Nat.le_refl 0, Nat.le_refl 0⟩ (fun H locs X => ?_)
  refine lv_if_eq (tgt := 21) hx hb dX4_setField_6 (by decide) (fun c6 => ?_) (fun c6 => ?_)
  · exact ret dX4_setField_21 (Eq.symm (if_pos c6)) X
  · refine lv_aload_n hx hb dX4_setField_9 rfl (lv_at hl 0 rfl) ?_
    refine cg_X4_X4_held C X dX4_setField_10 ?_
    refine lv_iload_n hx hb dX4_setField_13 rfl (lv_at hl 1 rfl) ?_
    refine lv_bipush (v := (6)) hx hb dX4_setField_14 (by decide) ?_
    refine lv_imul hx hb dX4_setField_16 ?_
    refine lv_iload_n hx hb dX4_setField_17 rfl (lv_at hl 2 rfl) ?_
    refine lv_iadd hx hb dX4_setField_18 ?_
    refine lv_iload_n hx hb dX4_setField_19 rfl (lv_at hl 3 rfl) ?_
    refine cs_theld (g := (upd (c_theld σ) (ix ((x1 * (6 : Int32)) + x2)) x3)) C X (in_hasField c6) rfl dX4_setField_20 (fun H locs X => ?_)
    exact ret dX4_setField_21 (Eq.symm (if_neg c6)) X
def fX4_paint (σ : CSt) (x1 : Int32) (x2 : Int32) : CSt := (if (fX4_isThing σ x1) = (0 : Int32) then σ else (c_colours_s σ (upd (c_colours σ) (ix x1) x2)))
theorem hdX4_paint : yX4_paint.cls = RX4 ∧ yX4_paint.cls ≠ "java/lang/invoke/MethodHandle" ∧ yX4_paint.cls ≠ "java/lang/invoke/VarHandle" ∧ (parseMethodDescriptor yX4_paint.desc).map (fun d => d.parameters.length) = some 2 := by decide +kernel
set_option maxHeartbeats 250000 in
set_option maxRecDepth 100000 in
theorem kX4_paint (l : Launch) (D : va_G) (a : Nat → Nat) (cI cZ : ClassId) (σ : CSt) (x1 : Int32) (x2 : Int32) : CU l D (tyIZ cI cZ) (wC a cI cZ) yX4_paint cX4_paint 3 (rmk 1 21) [.ref (a 1), .int x1, .int x2] σ (fX4_paint σ x1 x2) := by
  refine CU.of pnX4 ⟨rfl, rfl⟩ (Nat.le_of_ble_eq_true rfl) (fun p e s m args below meth c A Q ls C X hA hl ret => ?_)
  have C : Cx p s m args meth c cX4_paint 3 RX4 D (tyIZ cI cZ) := C
  have hx := C.1
  have hb := C.2.1
  have hl : lv_has ls 3 [(0, .ref (a 1)), (1, .int x1), (2, .int x2)] := hl
  refine lv_aload_n hx hb dX4_paint_0 rfl (lv_at hl 0 rfl) ?_
  refine lv_iload_n hx hb dX4_paint_1 rfl (lv_at hl 1 rfl) ?_
  refine callVR (rest := []) C hA (wC_sh a cI cZ) X (kX4_isThing l D a cI cZ _ x1) (cwV 1 C.2.2.2.2.1 (gV wl_X4_38 wt_yX4_isThing ws_yX4_isThing wi_X4 wk_yX4_isThing) rfl rfl rfl hdX4_isThing ⟨Nat.le_of_ble_eq_true rfl, Nat.le_of_ble_eq_true rfl⟩) (ci := 4) (q0 := 1) rfl rfl rfl hl.1 rfl (Nat.le_of_ble_eq_true rfl) dX4_paint_2 ⟨Nat.le_refl 0, Nat.le_refl 0⟩ (fun H locs X => ?_)
  refine lv_if_eq (tgt := 15) hx hb dX4_paint_5 (by decide) (fun c5 => ?_) (fun c5 => ?_)
  · exact ret dX4_paint_15 (Eq.symm (if_pos c5)) X
  · refine lv_aload_n hx hb dX4_paint_8 rfl (lv_at hl 0 rfl) ?_
    refine cg_X4_X4_colours C X dX4_paint_9 ?_
    refine lv_iload_n hx hb dX4_paint_12 rfl (lv_at hl 1 rfl) ?_
    refine lv_iload_n hx hb dX4_paint_13 rfl (lv_at hl 2 rfl) ?_
    refine cs_colours (g := (upd (c_colours σ) (ix x1) x2)) C X (in_isThing c5) rfl dX4_paint_14 (fun H locs X => ?_)
    exact ret dX4_paint_15 (Eq.symm (if_neg c5)) X
theorem tmade_paint {σ : CSt} {x y : Int32} : c_tmade (fX4_paint σ x y) = c_tmade σ := by
  unfold fX4_paint
  split <;> rfl

def fX4_moveTo (σ : CSt) (x1 : Int32) (x2 : Int32) : CSt := (if (fX4_isThing σ x1) = (0 : Int32) then σ else (c_moves_s (c_places_s σ (upd (c_places σ) (ix x1) x2)) (upd (c_moves σ) (ix x1) (((c_moves σ) (ix x1)) + (1 : Int32)))))
theorem hdX4_moveTo : yX4_moveTo.cls = RX4 ∧ yX4_moveTo.cls ≠ "java/lang/invoke/MethodHandle" ∧ yX4_moveTo.cls ≠ "java/lang/invoke/VarHandle" ∧ (parseMethodDescriptor yX4_moveTo.desc).map (fun d => d.parameters.length) = some 2 := by decide +kernel
set_option maxHeartbeats 250000 in
set_option maxRecDepth 100000 in
theorem kX4_moveTo (l : Launch) (D : va_G) (a : Nat → Nat) (cI cZ : ClassId) (σ : CSt) (x1 : Int32) (x2 : Int32) : CU l D (tyIZ cI cZ) (wC a cI cZ) yX4_moveTo cX4_moveTo 3 (rmk 1 21) [.ref (a 1), .int x1, .int x2] σ (fX4_moveTo σ x1 x2) := by
  refine CU.of pnX4 ⟨rfl, rfl⟩ (Nat.le_of_ble_eq_true rfl) (fun p e s m args below meth c A Q ls C X hA hl ret => ?_)
  have C : Cx p s m args meth c cX4_moveTo 3 RX4 D (tyIZ cI cZ) := C
  have hx := C.1
  have hb := C.2.1
  have hl : lv_has ls 3 [(0, .ref (a 1)), (1, .int x1), (2, .int x2)] := hl
  refine lv_aload_n hx hb dX4_moveTo_0 rfl (lv_at hl 0 rfl) ?_
  refine lv_iload_n hx hb dX4_moveTo_1 rfl (lv_at hl 1 rfl) ?_
  refine callVR (rest := []) C hA (wC_sh a cI cZ) X (kX4_isThing l D a cI cZ _ x1) (cwV 1 C.2.2.2.2.1 (gV wl_X4_38 wt_yX4_isThing ws_yX4_isThing wi_X4 wk_yX4_isThing) rfl rfl rfl hdX4_isThing ⟨Nat.le_of_ble_eq_true rfl, Nat.le_of_ble_eq_true rfl⟩) (ci := 4) (q0 := 1) rfl rfl rfl hl.1 rfl (Nat.le_of_ble_eq_true rfl) dX4_moveTo_2 ⟨Nat.le_refl 0, Nat.le_refl 0⟩ (fun H locs X => ?_)
  refine lv_if_eq (tgt := 25) hx hb dX4_moveTo_5 (by decide) (fun c5 => ?_) (fun c5 => ?_)
  · exact ret dX4_moveTo_25 (Eq.symm (if_pos c5)) X
  · refine lv_aload_n hx hb dX4_moveTo_8 rfl (lv_at hl 0 rfl) ?_
    refine cg_X4_X4_places C X dX4_moveTo_9 ?_
    refine lv_iload_n hx hb dX4_moveTo_12 rfl (lv_at hl 1 rfl) ?_
    refine lv_iload_n hx hb dX4_moveTo_13 rfl (lv_at hl 2 rfl) ?_
    refine cs_places (g := (upd (c_places σ) (ix x1) x2)) C X (in_isThing c5) rfl dX4_moveTo_14 (fun H locs X => ?_)
    refine lv_aload_n hx hb dX4_moveTo_15 rfl (lv_at hl 0 rfl) ?_
    refine cg_X4_X4_moves C X dX4_moveTo_16 ?_
    refine lv_iload_n hx hb dX4_moveTo_19 rfl (lv_at hl 1 rfl) ?_
    refine lv_dup2_11 hx hb dX4_moveTo_20 rfl rfl ?_
    refine ca_moves (v := ((c_moves σ) (ix x1))) C X (in_isThing c5) (congrFun (cq_moves_places _ _) _) dX4_moveTo_21 ?_
    refine lv_iconst (v := (1)) hx hb dX4_moveTo_22 (by decide) ?_
    refine lv_iadd hx hb dX4_moveTo_23 ?_
    refine cs_moves (g := (upd (c_moves σ) (ix x1) (((c_moves σ) (ix x1)) + (1 : Int32)))) C X (in_isThing c5) (congrArg (fun z => upd z _ _) (cq_moves_places _ _)) dX4_moveTo_24 (fun H locs X => ?_)
    exact ret dX4_moveTo_25 (Eq.symm (if_neg c5)) X
def fX4_free (σ : CSt) (x1 : Int32) : CSt := (if (fX4_isThing σ x1) = (0 : Int32) then σ else (c_places_s (c_freed_s σ (upd (c_freed σ) (ix x1) (1 : Int32))) (upd (c_places σ) (ix x1) (-1 : Int32))))
theorem hdX4_free : yX4_free.cls = RX4 ∧ yX4_free.cls ≠ "java/lang/invoke/MethodHandle" ∧ yX4_free.cls ≠ "java/lang/invoke/VarHandle" ∧ (parseMethodDescriptor yX4_free.desc).map (fun d => d.parameters.length) = some 1 := by decide +kernel
set_option maxHeartbeats 250000 in
set_option maxRecDepth 100000 in
theorem kX4_free (l : Launch) (D : va_G) (a : Nat → Nat) (cI cZ : ClassId) (σ : CSt) (x1 : Int32) : CU l D (tyIZ cI cZ) (wC a cI cZ) yX4_free cX4_free 2 (rmk 1 21) [.ref (a 1), .int x1] σ (fX4_free σ x1) := by
  refine CU.of pnX4 ⟨rfl, rfl⟩ (Nat.le_of_ble_eq_true rfl) (fun p e s m args below meth c A Q ls C X hA hl ret => ?_)
  have C : Cx p s m args meth c cX4_free 2 RX4 D (tyIZ cI cZ) := C
  have hx := C.1
  have hb := C.2.1
  have hl : lv_has ls 2 [(0, .ref (a 1)), (1, .int x1)] := hl
  refine lv_aload_n hx hb dX4_free_0 rfl (lv_at hl 0 rfl) ?_
  refine lv_iload_n hx hb dX4_free_1 rfl (lv_at hl 1 rfl) ?_
  refine callVR (rest := []) C hA (wC_sh a cI cZ) X (kX4_isThing l D a cI cZ _ x1) (cwV 1 C.2.2.2.2.1 (gV wl_X4_38 wt_yX4_isThing ws_yX4_isThing wi_X4 wk_yX4_isThing) rfl rfl rfl hdX4_isThing ⟨Nat.le_of_ble_eq_true rfl, Nat.le_of_ble_eq_true rfl⟩) (ci := 4) (q0 := 1) rfl rfl rfl hl.1 rfl (Nat.le_of_ble_eq_true rfl) dX4_free_2 ⟨Nat.le_refl 0, Nat.le_refl 0⟩ (fun H locs X => ?_)
  refine lv_if_eq (tgt := 22) hx hb dX4_free_5 (by decide) (fun c5 => ?_) (fun c5 => ?_)
  · exact ret dX4_free_22 (Eq.symm (if_pos c5)) X
  · refine lv_aload_n hx hb dX4_free_8 rfl (lv_at hl 0 rfl) ?_
    refine cg_X4_X4_freed C X dX4_free_9 ?_
    refine lv_iload_n hx hb dX4_free_12 rfl (lv_at hl 1 rfl) ?_
    refine lv_iconst (v := (1)) hx hb dX4_free_13 (by decide) ?_
    refine cs_freed (x1 := (1 : Int32)) (g := (upd (c_freed σ) (ix x1) (1 : Int32))) C X (in_isThing c5) rfl rfl dX4_free_14 (fun H locs X => ?_)
    refine lv_aload_n hx hb dX4_free_15 rfl (lv_at hl 0 rfl) ?_
    refine cg_X4_X4_places C X dX4_free_16 ?_
    refine lv_iload_n hx hb dX4_free_19 rfl (lv_at hl 1 rfl) ?_
    refine lv_iconst (v := (-1)) hx hb dX4_free_20 (by decide) ?_
    refine cs_places (g := (upd (c_places σ) (ix x1) (-1 : Int32))) C X (in_isThing c5) (congrArg (fun z => upd z _ _) (cq_places_freed _ _)) dX4_free_21 (fun H locs X => ?_)
    exact ret dX4_free_22 (Eq.symm (if_neg c5)) X
def fX4_endWish (σ : CSt) (x1 : Int32) : CSt := (if (fX4_isThing σ x1) = (0 : Int32) then σ else (c_wishing_s σ (upd (c_wishing σ) (ix x1) (0 : Int32))))
theorem hdX4_endWish : yX4_endWish.cls = RX4 ∧ yX4_endWish.cls ≠ "java/lang/invoke/MethodHandle" ∧ yX4_endWish.cls ≠ "java/lang/invoke/VarHandle" ∧ (parseMethodDescriptor yX4_endWish.desc).map (fun d => d.parameters.length) = some 1 := by decide +kernel
set_option maxHeartbeats 250000 in
set_option maxRecDepth 100000 in
theorem kX4_endWish (l : Launch) (D : va_G) (a : Nat → Nat) (cI cZ : ClassId) (σ : CSt) (x1 : Int32) : CU l D (tyIZ cI cZ) (wC a cI cZ) yX4_endWish cX4_endWish 2 (rmk 1 21) [.ref (a 1), .int x1] σ (fX4_endWish σ x1) := by
  refine CU.of pnX4 ⟨rfl, rfl⟩ (Nat.le_of_ble_eq_true rfl) (fun p e s m args below meth c A Q ls C X hA hl ret => ?_)
  have C : Cx p s m args meth c cX4_endWish 2 RX4 D (tyIZ cI cZ) := C
  have hx := C.1
  have hb := C.2.1
  have hl : lv_has ls 2 [(0, .ref (a 1)), (1, .int x1)] := hl
  refine lv_aload_n hx hb dX4_endWish_0 rfl (lv_at hl 0 rfl) ?_
  refine lv_iload_n hx hb dX4_endWish_1 rfl (lv_at hl 1 rfl) ?_
  refine callVR (rest := []) C hA (wC_sh a cI cZ) X (kX4_isThing l D a cI cZ _ x1) (cwV 1 C.2.2.2.2.1 (gV wl_X4_38 wt_yX4_isThing ws_yX4_isThing wi_X4 wk_yX4_isThing) rfl rfl rfl hdX4_isThing ⟨Nat.le_of_ble_eq_true rfl, Nat.le_of_ble_eq_true rfl⟩) (ci := 4) (q0 := 1) rfl rfl rfl hl.1 rfl (Nat.le_of_ble_eq_true rfl) dX4_endWish_2 ⟨Nat.le_refl 0, Nat.le_refl 0⟩ (fun H locs X => ?_)
  refine lv_if_eq (tgt := 15) hx hb dX4_endWish_5 (by decide) (fun c5 => ?_) (fun c5 => ?_)
  · exact ret dX4_endWish_15 (Eq.symm (if_pos c5)) X
  · refine lv_aload_n hx hb dX4_endWish_8 rfl (lv_at hl 0 rfl) ?_
    refine cg_X4_X4_wishing C X dX4_endWish_9 ?_
    refine lv_iload_n hx hb dX4_endWish_12 rfl (lv_at hl 1 rfl) ?_
    refine lv_iconst (v := (0)) hx hb dX4_endWish_13 (by decide) ?_
    refine cs_wishing (x1 := (0 : Int32)) (g := (upd (c_wishing σ) (ix x1) (0 : Int32))) C X (in_isThing c5) rfl rfl dX4_endWish_14 (fun H locs X => ?_)
    exact ret dX4_endWish_15 (Eq.symm (if_neg c5)) X
def fX4_whitenAll_L2 : Nat → Int32 → CSt → CSt
  | 0, y1, σ2 => σ2
  | f + 1, y1, σ2 => (if (fX4_isFreed σ2 y1) = (0 : Int32) then (fX4_whitenAll_L2 f (y1 + 1) (fX4_paint σ2 y1 (0 : Int32))) else (fX4_whitenAll_L2 f (y1 + 1) σ2))
def fX4_whitenAll (σ : CSt) : CSt := (fX4_whitenAll_L2 (((Int32.toInt (c_tmade σ)) - (Int32.toInt (0 : Int32))).toNat) (0 : Int32) σ)
theorem hdX4_whitenAll : yX4_whitenAll.cls = RX4 ∧ yX4_whitenAll.cls ≠ "java/lang/invoke/MethodHandle" ∧ yX4_whitenAll.cls ≠ "java/lang/invoke/VarHandle" ∧ (parseMethodDescriptor yX4_whitenAll.desc).map (fun d => d.parameters.length) = some 0 := by decide +kernel
set_option maxHeartbeats 250000 in
set_option maxRecDepth 100000 in
theorem kX4_whitenAll (l : Launch) (D : va_G) (a : Nat → Nat) (cI cZ : ClassId) (σ : CSt) : CU l D (tyIZ cI cZ) (wC a cI cZ) yX4_whitenAll cX4_whitenAll 2 (rmk 2 43) [.ref (a 1)] σ (fX4_whitenAll σ) := by
  refine CU.of pnX4 ⟨rfl, rfl⟩ (Nat.le_of_ble_eq_true rfl) (fun p e s m args below meth c A Q ls C X hA hl ret => ?_)
  have C : Cx p s m args meth c cX4_whitenAll 2 RX4 D (tyIZ cI cZ) := C
  have hx := C.1
  have hb := C.2.1
  have hl : lv_has ls 2 [(0, .ref (a 1))] := hl
  refine lv_iconst (v := (0)) hx hb dX4_whitenAll_0 (by decide) ?_
  refine lv_istore_n (lv' := [(1, .int (0 : Int32)), (0, .ref (a 1))]) hx hb dX4_whitenAll_1 rfl hl (by decide) rfl (fun ls hl => ?_)
  have L2 : ∀ (f : Nat) (y1 : Int32) (σ2 : CSt) (hf : ((Int32.toInt (c_tmade σ2)) - (Int32.toInt y1)).toNat = f) (hnn : 0 ≤ Int32.toInt y1) (he : fX4_whitenAll_L2 f y1 σ2 = (fX4_whitenAll σ)) (H : Heap) (locs : List Loc) (ls : Array Slot) (X : Sx A D (wC a cI cZ σ2) s H locs) (hl : lv_has ls 2 [(0, .ref (a 1)), (1, .int y1)]), W p l e (rmk 2 43) s m args below meth c H locs 0 0 Q (F0 m 2 ls []) := by
    intro f
    induction f with
    | zero =>
      intro y1 σ2 hf hnn he H locs ls X hl
      refine lv_iload_n hx hb dX4_whitenAll_2 rfl (lv_at hl 1 rfl) ?_
      refine lv_aload_n hx hb dX4_whitenAll_3 rfl (lv_at hl 0 rfl) ?_
      refine cg_X4_X4_made (v := (c_tmade σ2)) C X rfl dX4_whitenAll_4 ?_
      refine lv_icmp_ge (tgt := 30) hx hb dX4_whitenAll_7 (by decide) (fun c7 => ?_) (fun c7 => (lp_z hf c7).elim)
      exact ret dX4_whitenAll_30 he X
    | succ f ih2 =>
      intro y1 σ2 hf hnn he H locs ls X hl
      refine lv_iload_n hx hb dX4_whitenAll_2 rfl (lv_at hl 1 rfl) ?_
      refine lv_aload_n hx hb dX4_whitenAll_3 rfl (lv_at hl 0 rfl) ?_
      refine cg_X4_X4_made (v := (c_tmade σ2)) C X rfl dX4_whitenAll_4 ?_
      refine lv_icmp_ge (tgt := 30) hx hb dX4_whitenAll_7 (by decide) (fun c7 => (lp_s hf c7).elim) (fun c7 => ?_)
      refine lv_aload_n hx hb dX4_whitenAll_10 rfl (lv_at hl 0 rfl) ?_
      refine lv_iload_n hx hb dX4_whitenAll_11 rfl (lv_at hl 1 rfl) ?_
      refine callVR (rest := []) C hA (wC_sh a cI cZ) X (kX4_isFreed l D a cI cZ _ y1) (cwV 1 C.2.2.2.2.1 (gV wl_X4_46 wt_yX4_isFreed ws_yX4_isFreed wi_X4 wk_yX4_isFreed) rfl rfl rfl hdX4_isFreed ⟨Nat.le_of_ble_eq_true rfl, Nat.le_of_ble_eq_true rfl⟩) (ci := 4) (q0 := 1) rfl rfl rfl hl.1 rfl (Nat.le_of_ble_eq_true rfl) dX4_whitenAll_12 ⟨Nat.le_refl 0, Nat.le_refl 0⟩ (fun H locs X => ?_)
      refine lv_if_ne (tgt := 24) hx hb dX4_whitenAll_15 (by decide) (fun c15 => ?_) (fun c15 => ?_)
      · refine lv_iinc (v := (y1 + 1)) (lv' := [(1, .int (y1 + 1)), (0, .ref (a 1))]) hx hb dX4_whitenAll_24 hl (k := 1) rfl rfl (by decide) rfl (fun ls hl => ?_)
        refine lv_goto (tgt := 2) hx hb dX4_whitenAll_27 (by decide) ?_
        exact ih2 (y1 + 1) σ2 (by first | with_reducible exact lp_b hf | (rw [tmade_paint]; exact lp_b hf)) (lp_nn hnn hf) (Eq.trans (Eq.symm (if_neg c15)) he) _ _ _ X (lv_sub hl [1, 0] rfl)
      · refine lv_aload_n hx hb dX4_whitenAll_18 rfl (lv_at hl 0 rfl) ?_
        refine lv_iload_n hx hb dX4_whitenAll_19 rfl (lv_at hl 1 rfl) ?_
        refine lv_iconst (v := (0)) hx hb dX4_whitenAll_20 (by decide) ?_
        refine callVU (rest := []) C hA (wC_sh a cI cZ) X (kX4_paint l D a cI cZ _ y1 (0 : Int32)) (cwV 2 C.2.2.2.2.1 (gV wl_X4_49 wt_yX4_paint ws_yX4_paint wi_X4 wk_yX4_paint) rfl rfl rfl hdX4_paint ⟨Nat.le_of_ble_eq_true rfl, Nat.le_of_ble_eq_true rfl⟩) (ci := 4) (q0 := 1) rfl rfl rfl hl.1 rfl (Nat.le_of_ble_eq_true rfl) dX4_whitenAll_21 ⟨Nat.le_refl 0, Nat.le_refl 0⟩ (fun H locs X => ?_)
        refine lv_iinc (v := (y1 + 1)) (lv' := [(1, .int (y1 + 1)), (0, .ref (a 1))]) hx hb dX4_whitenAll_24 hl (k := 1) rfl rfl (by decide) rfl (fun ls hl => ?_)
        refine lv_goto (tgt := 2) hx hb dX4_whitenAll_27 (by decide) ?_
        exact ih2 (y1 + 1) (fX4_paint σ2 y1 (0 : Int32)) (by first | with_reducible exact lp_b hf | (rw [tmade_paint]; exact lp_b hf)) (lp_nn hnn hf) (Eq.trans (Eq.symm (if_pos c15)) he) _ _ _ X (lv_sub hl [1, 0] rfl)
  exact L2 (((Int32.toInt (c_tmade σ)) - (Int32.toInt (0 : Int32))).toNat) (0 : Int32) σ rfl (by decide) rfl _ _ _ X (lv_sub hl [1, 0] rfl)
def fX4_leastGray_L2 : Nat → Int32 → CSt → Int32
  | 0, y1, σ0 => (-1 : Int32)
  | f + 1, y1, σ0 => (if (fX4_colourOf σ0 y1) = (1 : Int32) then y1 else (fX4_leastGray_L2 f (y1 + 1) σ0))
def fX4_leastGray (σ : CSt) : Int32 := (fX4_leastGray_L2 (((Int32.toInt (c_tmade σ)) - (Int32.toInt (0 : Int32))).toNat) (0 : Int32) σ)
theorem hdX4_leastGray : yX4_leastGray.cls = RX4 ∧ yX4_leastGray.cls ≠ "java/lang/invoke/MethodHandle" ∧ yX4_leastGray.cls ≠ "java/lang/invoke/VarHandle" ∧ (parseMethodDescriptor yX4_leastGray.desc).map (fun d => d.parameters.length) = some 0 := by decide +kernel
set_option maxHeartbeats 250000 in
set_option maxRecDepth 100000 in
theorem kX4_leastGray (l : Launch) (D : va_G) (a : Nat → Nat) (cI cZ : ClassId) (σ : CSt) : CR l D (tyIZ cI cZ) (wC a cI cZ) yX4_leastGray cX4_leastGray 2 .int (rmk 2 42) [.ref (a 1)] σ (fX4_leastGray σ) σ := by
  refine CR.of pnX4 ⟨rfl, rfl⟩ (Nat.le_of_ble_eq_true rfl) rfl (fun p e s m args below meth c A Q ls C X hA hl ret => ?_)
  have C : Cx p s m args meth c cX4_leastGray 2 RX4 D (tyIZ cI cZ) := C
  have hx := C.1
  have hb := C.2.1
  have hl : lv_has ls 2 [(0, .ref (a 1))] := hl
  refine lv_iconst (v := (0)) hx hb dX4_leastGray_0 (by decide) ?_
  refine lv_istore_n (lv' := [(1, .int (0 : Int32)), (0, .ref (a 1))]) hx hb dX4_leastGray_1 rfl hl (by decide) rfl (fun ls hl => ?_)
  have L2 : ∀ (f : Nat) (y1 : Int32) (hf : ((Int32.toInt (c_tmade σ)) - (Int32.toInt y1)).toNat = f) (hnn : 0 ≤ Int32.toInt y1) (he : fX4_leastGray_L2 f y1 σ = (fX4_leastGray σ)) (H : Heap) (locs : List Loc) (ls : Array Slot) (X : Sx A D (wC a cI cZ σ) s H locs) (hl : lv_has ls 2 [(0, .ref (a 1)), (1, .int y1)]), W p l e (rmk 2 42) s m args below meth c H locs 0 0 Q (F0 m 2 ls []) := by
    intro f
    induction f with
    | zero =>
      intro y1 hf hnn he H locs ls X hl
      refine lv_iload_n hx hb dX4_leastGray_2 rfl (lv_at hl 1 rfl) ?_
      refine lv_aload_n hx hb dX4_leastGray_3 rfl (lv_at hl 0 rfl) ?_
      refine cg_X4_X4_made (v := (c_tmade σ)) C X rfl dX4_leastGray_4 ?_
      refine lv_icmp_ge (tgt := 27) hx hb dX4_leastGray_7 (by decide) (fun c7 => ?_) (fun c7 => (lp_z hf c7).elim)
      refine lv_iconst (v := (-1)) hx hb dX4_leastGray_27 (by decide) ?_
      exact ret dX4_leastGray_28 (congrArg (fun z => (z, _)) he) X
    | succ f ih2 =>
      intro y1 hf hnn he H locs ls X hl
      refine lv_iload_n hx hb dX4_leastGray_2 rfl (lv_at hl 1 rfl) ?_
      refine lv_aload_n hx hb dX4_leastGray_3 rfl (lv_at hl 0 rfl) ?_
      refine cg_X4_X4_made (v := (c_tmade σ)) C X rfl dX4_leastGray_4 ?_
      refine lv_icmp_ge (tgt := 27) hx hb dX4_leastGray_7 (by decide) (fun c7 => (lp_s hf c7).elim) (fun c7 => ?_)
      refine lv_aload_n hx hb dX4_leastGray_10 rfl (lv_at hl 0 rfl) ?_
      refine lv_iload_n hx hb dX4_leastGray_11 rfl (lv_at hl 1 rfl) ?_
      refine callVR (rest := []) C hA (wC_sh a cI cZ) X (kX4_colourOf l D a cI cZ _ y1) (cwV 1 C.2.2.2.2.1 (gV wl_X4_53 wt_yX4_colourOf ws_yX4_colourOf wi_X4 wk_yX4_colourOf) rfl rfl rfl hdX4_colourOf ⟨Nat.le_of_ble_eq_true rfl, Nat.le_of_ble_eq_true rfl⟩) (ci := 4) (q0 := 1) rfl rfl rfl hl.1 rfl (Nat.le_of_ble_eq_true rfl) dX4_leastGray_12 ⟨Nat.le_refl 0, Nat.le_refl 0⟩ (fun H locs X => ?_)
      refine lv_iconst (v := (1)) hx hb dX4_leastGray_15 (by decide) ?_
      refine lv_icmp_ne (tgt := 21) hx hb dX4_leastGray_16 (by decide) (fun c16 => ?_) (fun c16 => ?_)
      · refine lv_iinc (v := (y1 + 1)) (lv' := [(1, .int (y1 + 1)), (0, .ref (a 1))]) hx hb dX4_leastGray_21 hl (k := 1) rfl rfl (by decide) rfl (fun ls hl => ?_)
        refine lv_goto (tgt := 2) hx hb dX4_leastGray_24 (by decide) ?_
        exact ih2 (y1 + 1) (lp_b hf) (lp_nn hnn hf) (Eq.trans (Eq.symm (if_neg c16)) he) _ _ _ X (lv_sub hl [1, 0] rfl)
      · refine lv_iload_n hx hb dX4_leastGray_19 rfl (lv_at hl 1 rfl) ?_
        exact ret dX4_leastGray_20 (congrArg (fun z => (z, _)) (Eq.trans (Eq.symm (if_pos c16)) he)) X
  exact L2 (((Int32.toInt (c_tmade σ)) - (Int32.toInt (0 : Int32))).toNat) (0 : Int32) rfl (by decide) rfl _ _ _ X (lv_sub hl [1, 0] rfl)
def fX4_nextNotFreed_L2 : Nat → Int32 → CSt → Int32
  | 0, y2, σ0 => (-1 : Int32)
  | f + 1, y2, σ0 => (if (fX4_isFreed σ0 y2) = (0 : Int32) then y2 else (fX4_nextNotFreed_L2 f (y2 + 1) σ0))
def fX4_nextNotFreed (σ : CSt) (x1 : Int32) : Int32 := (fX4_nextNotFreed_L2 (((Int32.toInt (c_tmade σ)) - (Int32.toInt x1)).toNat) x1 σ)
theorem hdX4_nextNotFreed : yX4_nextNotFreed.cls = RX4 ∧ yX4_nextNotFreed.cls ≠ "java/lang/invoke/MethodHandle" ∧ yX4_nextNotFreed.cls ≠ "java/lang/invoke/VarHandle" ∧ (parseMethodDescriptor yX4_nextNotFreed.desc).map (fun d => d.parameters.length) = some 1 := by decide +kernel
set_option maxHeartbeats 250000 in
set_option maxRecDepth 100000 in
theorem kX4_nextNotFreed (l : Launch) (D : va_G) (a : Nat → Nat) (cI cZ : ClassId) (σ : CSt) (x1 : Int32) : CR l D (tyIZ cI cZ) (wC a cI cZ) yX4_nextNotFreed cX4_nextNotFreed 3 .int (rmk 2 42) [.ref (a 1), .int x1] σ (fX4_nextNotFreed σ x1) σ := by
  refine CR.of pnX4 ⟨rfl, rfl⟩ (Nat.le_of_ble_eq_true rfl) rfl (fun p e s m args below meth c A Q ls C X hA hl ret => ?_)
  have C : Cx p s m args meth c cX4_nextNotFreed 3 RX4 D (tyIZ cI cZ) := C
  have hx := C.1
  have hb := C.2.1
  have hl : lv_has ls 3 [(0, .ref (a 1)), (1, .int x1)] := hl
  refine lv_iload_n hx hb dX4_nextNotFreed_0 rfl (lv_at hl 1 rfl) ?_
  refine lv_istore_n (lv' := [(2, .int x1), (0, .ref (a 1)), (1, .int x1)]) hx hb dX4_nextNotFreed_1 rfl hl (by decide) rfl (fun ls hl => ?_)
  have L2 : ∀ (f : Nat) (y2 : Int32) (hf : ((Int32.toInt (c_tmade σ)) - (Int32.toInt y2)).toNat = f) (he : fX4_nextNotFreed_L2 f y2 σ = (fX4_nextNotFreed σ x1)) (H : Heap) (locs : List Loc) (ls : Array Slot) (X : Sx A D (wC a cI cZ σ) s H locs) (hl : lv_has ls 3 [(0, .ref (a 1)), (2, .int y2)]), W p l e (rmk 2 42) s m args below meth c H locs 0 0 Q (F0 m 2 ls []) := by
    intro f
    induction f with
    | zero =>
      intro y2 hf he H locs ls X hl
      refine lv_iload_n hx hb dX4_nextNotFreed_2 rfl (lv_at hl 1 rfl) ?_
      refine lv_aload_n hx hb dX4_nextNotFreed_3 rfl (lv_at hl 0 rfl) ?_
      refine cg_X4_X4_made (v := (c_tmade σ)) C X rfl dX4_nextNotFreed_4 ?_
      refine lv_icmp_ge (tgt := 26) hx hb dX4_nextNotFreed_7 (by decide) (fun c7 => ?_) (fun c7 => (lp_z hf c7).elim)
      refine lv_iconst (v := (-1)) hx hb dX4_nextNotFreed_26 (by decide) ?_
      exact ret dX4_nextNotFreed_27 (congrArg (fun z => (z, _)) he) X
    | succ f ih2 =>
      intro y2 hf he H locs ls X hl
      refine lv_iload_n hx hb dX4_nextNotFreed_2 rfl (lv_at hl 1 rfl) ?_
      refine lv_aload_n hx hb dX4_nextNotFreed_3 rfl (lv_at hl 0 rfl) ?_
      refine cg_X4_X4_made (v := (c_tmade σ)) C X rfl dX4_nextNotFreed_4 ?_
      refine lv_icmp_ge (tgt := 26) hx hb dX4_nextNotFreed_7 (by decide) (fun c7 => (lp_s hf c7).elim) (fun c7 => ?_)
      refine lv_aload_n hx hb dX4_nextNotFreed_10 rfl (lv_at hl 0 rfl) ?_
      refine lv_iload_n hx hb dX4_nextNotFreed_11 rfl (lv_at hl 1 rfl) ?_
      refine callVR (rest := []) C hA (wC_sh a cI cZ) X (kX4_isFreed l D a cI cZ _ y2) (cwV 1 C.2.2.2.2.1 (gV wl_X4_46 wt_yX4_isFreed ws_yX4_isFreed wi_X4 wk_yX4_isFreed) rfl rfl rfl hdX4_isFreed ⟨Nat.le_of_ble_eq_true rfl, Nat.le_of_ble_eq_true rfl⟩) (ci := 4) (q0 := 1) rfl rfl rfl hl.1 rfl (Nat.le_of_ble_eq_true rfl) dX4_nextNotFreed_12 ⟨Nat.le_refl 0, Nat.le_refl 0⟩ (fun H locs X => ?_)
      refine lv_if_ne (tgt := 20) hx hb dX4_nextNotFreed_15 (by decide) (fun c15 => ?_) (fun c15 => ?_)
      · refine lv_iinc (v := (y2 + 1)) (lv' := [(2, .int (y2 + 1)), (0, .ref (a 1))]) hx hb dX4_nextNotFreed_20 hl (k := 1) rfl rfl (by decide) rfl (fun ls hl => ?_)
        refine lv_goto (tgt := 2) hx hb dX4_nextNotFreed_23 (by decide) ?_
        exact ih2 (y2 + 1) (lp_b hf) (Eq.trans (Eq.symm (if_neg c15)) he) _ _ _ X (lv_sub hl [1, 0] rfl)
      · refine lv_iload_n hx hb dX4_nextNotFreed_18 rfl (lv_at hl 1 rfl) ?_
        exact ret dX4_nextNotFreed_19 (congrArg (fun z => (z, _)) (Eq.trans (Eq.symm (if_pos c15)) he)) X
  exact L2 (((Int32.toInt (c_tmade σ)) - (Int32.toInt x1)).toNat) x1 rfl rfl _ _ _ X (lv_sub hl [1, 0] rfl)
def fX4_countGray_L4 : Nat → Int32 → Int32 → CSt → Int32
  | 0, y1, y2, σ0 => y1
  | f + 1, y1, y2, σ0 => (if (fX4_colourOf σ0 y2) = (1 : Int32) then (fX4_countGray_L4 f (y1 + 1) (y2 + 1) σ0) else (fX4_countGray_L4 f y1 (y2 + 1) σ0))
def fX4_countGray (σ : CSt) : Int32 := (fX4_countGray_L4 (((Int32.toInt (c_tmade σ)) - (Int32.toInt (0 : Int32))).toNat) (0 : Int32) (0 : Int32) σ)
theorem hdX4_countGray : yX4_countGray.cls = RX4 ∧ yX4_countGray.cls ≠ "java/lang/invoke/MethodHandle" ∧ yX4_countGray.cls ≠ "java/lang/invoke/VarHandle" ∧ (parseMethodDescriptor yX4_countGray.desc).map (fun d => d.parameters.length) = some 0 := by decide +kernel
set_option maxHeartbeats 250000 in
set_option maxRecDepth 100000 in
theorem kX4_countGray (l : Launch) (D : va_G) (a : Nat → Nat) (cI cZ : ClassId) (σ : CSt) : CR l D (tyIZ cI cZ) (wC a cI cZ) yX4_countGray cX4_countGray 3 .int (rmk 2 42) [.ref (a 1)] σ (fX4_countGray σ) σ := by
  refine CR.of pnX4 ⟨rfl, rfl⟩ (Nat.le_of_ble_eq_true rfl) rfl (fun p e s m args below meth c A Q ls C X hA hl ret => ?_)
  have C : Cx p s m args meth c cX4_countGray 3 RX4 D (tyIZ cI cZ) := C
  have hx := C.1
  have hb := C.2.1
  have hl : lv_has ls 3 [(0, .ref (a 1))] := hl
  refine lv_iconst (v := (0)) hx hb dX4_countGray_0 (by decide) ?_
  refine lv_istore_n (lv' := [(1, .int (0 : Int32)), (0, .ref (a 1))]) hx hb dX4_countGray_1 rfl hl (by decide) rfl (fun ls hl => ?_)
  refine lv_iconst (v := (0)) hx hb dX4_countGray_2 (by decide) ?_
  refine lv_istore_n (lv' := [(2, .int (0 : Int32)), (1, .int (0 : Int32)), (0, .ref (a 1))]) hx hb dX4_countGray_3 rfl hl (by decide) rfl (fun ls hl => ?_)
  have L4 : ∀ (f : Nat) (y1 : Int32) (y2 : Int32) (hf : ((Int32.toInt (c_tmade σ)) - (Int32.toInt y2)).toNat = f) (hnn : 0 ≤ Int32.toInt y2) (he : fX4_countGray_L4 f y1 y2 σ = (fX4_countGray σ)) (H : Heap) (locs : List Loc) (ls : Array Slot) (X : Sx A D (wC a cI cZ σ) s H locs) (hl : lv_has ls 3 [(0, .ref (a 1)), (1, .int y1), (2, .int y2)]), W p l e (rmk 2 42) s m args below meth c H locs 0 0 Q (F0 m 4 ls []) := by
    intro f
    induction f with
    | zero =>
      intro y1 y2 hf hnn he H locs ls X hl
      refine lv_iload_n hx hb dX4_countGray_4 rfl (lv_at hl 2 rfl) ?_
      refine lv_aload_n hx hb dX4_countGray_5 rfl (lv_at hl 0 rfl) ?_
      refine cg_X4_X4_made (v := (c_tmade σ)) C X rfl dX4_countGray_6 ?_
      refine lv_icmp_ge (tgt := 30) hx hb dX4_countGray_9 (by decide) (fun c9 => ?_) (fun c9 => (lp_z hf c9).elim)
      refine lv_iload_n hx hb dX4_countGray_30 rfl (lv_at hl 1 rfl) ?_
      exact ret dX4_countGray_31 (congrArg (fun z => (z, _)) he) X
    | succ f ih4 =>
      intro y1 y2 hf hnn he H locs ls X hl
      refine lv_iload_n hx hb dX4_countGray_4 rfl (lv_at hl 2 rfl) ?_
      refine lv_aload_n hx hb dX4_countGray_5 rfl (lv_at hl 0 rfl) ?_
      refine cg_X4_X4_made (v := (c_tmade σ)) C X rfl dX4_countGray_6 ?_
      refine lv_icmp_ge (tgt := 30) hx hb dX4_countGray_9 (by decide) (fun c9 => (lp_s hf c9).elim) (fun c9 => ?_)
      refine lv_aload_n hx hb dX4_countGray_12 rfl (lv_at hl 0 rfl) ?_
      refine lv_iload_n hx hb dX4_countGray_13 rfl (lv_at hl 2 rfl) ?_
      refine callVR (rest := []) C hA (wC_sh a cI cZ) X (kX4_colourOf l D a cI cZ _ y2) (cwV 1 C.2.2.2.2.1 (gV wl_X4_53 wt_yX4_colourOf ws_yX4_colourOf wi_X4 wk_yX4_colourOf) rfl rfl rfl hdX4_colourOf ⟨Nat.le_of_ble_eq_true rfl, Nat.le_of_ble_eq_true rfl⟩) (ci := 4) (q0 := 1) rfl rfl rfl hl.1 rfl (Nat.le_of_ble_eq_true rfl) dX4_countGray_14 ⟨Nat.le_refl 0, Nat.le_refl 0⟩ (fun H locs X => ?_)
      refine lv_iconst (v := (1)) hx hb dX4_countGray_17 (by decide) ?_
      refine lv_icmp_ne (tgt := 24) hx hb dX4_countGray_18 (by decide) (fun c18 => ?_) (fun c18 => ?_)
      · refine lv_iinc (v := (y2 + 1)) (lv' := [(2, .int (y2 + 1)), (0, .ref (a 1)), (1, .int y1)]) hx hb dX4_countGray_24 hl (k := 2) rfl rfl (by decide) rfl (fun ls hl => ?_)
        refine lv_goto (tgt := 4) hx hb dX4_countGray_27 (by decide) ?_
        exact ih4 y1 (y2 + 1) (lp_b hf) (lp_nn hnn hf) (Eq.trans (Eq.symm (if_neg c18)) he) _ _ _ X (lv_sub hl [1, 2, 0] rfl)
      · refine lv_iinc (v := (y1 + 1)) (lv' := [(1, .int (y1 + 1)), (0, .ref (a 1)), (2, .int y2)]) hx hb dX4_countGray_21 hl (k := 1) rfl rfl (by decide) rfl (fun ls hl => ?_)
        refine lv_iinc (v := (y2 + 1)) (lv' := [(2, .int (y2 + 1)), (1, .int (y1 + 1)), (0, .ref (a 1))]) hx hb dX4_countGray_24 hl (k := 2) rfl rfl (by decide) rfl (fun ls hl => ?_)
        refine lv_goto (tgt := 4) hx hb dX4_countGray_27 (by decide) ?_
        exact ih4 (y1 + 1) (y2 + 1) (lp_b hf) (lp_nn hnn hf) (Eq.trans (Eq.symm (if_pos c18)) he) _ _ _ X (lv_sub hl [2, 1, 0] rfl)
  exact L4 (((Int32.toInt (c_tmade σ)) - (Int32.toInt (0 : Int32))).toNat) (0 : Int32) (0 : Int32) rfl (by decide) rfl _ _ _ X (lv_sub hl [2, 1, 0] rfl)
def fX4_countNotFreed_L4 : Nat → Int32 → Int32 → CSt → Int32
  | 0, y1, y2, σ0 => y1
  | f + 1, y1, y2, σ0 => (if (fX4_isFreed σ0 y2) = (0 : Int32) then (fX4_countNotFreed_L4 f (y1 + 1) (y2 + 1) σ0) else (fX4_countNotFreed_L4 f y1 (y2 + 1) σ0))
def fX4_countNotFreed (σ : CSt) : Int32 := (fX4_countNotFreed_L4 (((Int32.toInt (c_tmade σ)) - (Int32.toInt (0 : Int32))).toNat) (0 : Int32) (0 : Int32) σ)
theorem hdX4_countNotFreed : yX4_countNotFreed.cls = RX4 ∧ yX4_countNotFreed.cls ≠ "java/lang/invoke/MethodHandle" ∧ yX4_countNotFreed.cls ≠ "java/lang/invoke/VarHandle" ∧ (parseMethodDescriptor yX4_countNotFreed.desc).map (fun d => d.parameters.length) = some 0 := by decide +kernel
set_option maxHeartbeats 250000 in
set_option maxRecDepth 100000 in
theorem kX4_countNotFreed (l : Launch) (D : va_G) (a : Nat → Nat) (cI cZ : ClassId) (σ : CSt) : CR l D (tyIZ cI cZ) (wC a cI cZ) yX4_countNotFreed cX4_countNotFreed 3 .int (rmk 2 42) [.ref (a 1)] σ (fX4_countNotFreed σ) σ := by
  refine CR.of pnX4 ⟨rfl, rfl⟩ (Nat.le_of_ble_eq_true rfl) rfl (fun p e s m args below meth c A Q ls C X hA hl ret => ?_)
  have C : Cx p s m args meth c cX4_countNotFreed 3 RX4 D (tyIZ cI cZ) := C
  have hx := C.1
  have hb := C.2.1
  have hl : lv_has ls 3 [(0, .ref (a 1))] := hl
  refine lv_iconst (v := (0)) hx hb dX4_countNotFreed_0 (by decide) ?_
  refine lv_istore_n (lv' := [(1, .int (0 : Int32)), (0, .ref (a 1))]) hx hb dX4_countNotFreed_1 rfl hl (by decide) rfl (fun ls hl => ?_)
  refine lv_iconst (v := (0)) hx hb dX4_countNotFreed_2 (by decide) ?_
  refine lv_istore_n (lv' := [(2, .int (0 : Int32)), (1, .int (0 : Int32)), (0, .ref (a 1))]) hx hb dX4_countNotFreed_3 rfl hl (by decide) rfl (fun ls hl => ?_)
  have L4 : ∀ (f : Nat) (y1 : Int32) (y2 : Int32) (hf : ((Int32.toInt (c_tmade σ)) - (Int32.toInt y2)).toNat = f) (hnn : 0 ≤ Int32.toInt y2) (he : fX4_countNotFreed_L4 f y1 y2 σ = (fX4_countNotFreed σ)) (H : Heap) (locs : List Loc) (ls : Array Slot) (X : Sx A D (wC a cI cZ σ) s H locs) (hl : lv_has ls 3 [(0, .ref (a 1)), (1, .int y1), (2, .int y2)]), W p l e (rmk 2 42) s m args below meth c H locs 0 0 Q (F0 m 4 ls []) := by
    intro f
    induction f with
    | zero =>
      intro y1 y2 hf hnn he H locs ls X hl
      refine lv_iload_n hx hb dX4_countNotFreed_4 rfl (lv_at hl 2 rfl) ?_
      refine lv_aload_n hx hb dX4_countNotFreed_5 rfl (lv_at hl 0 rfl) ?_
      refine cg_X4_X4_made (v := (c_tmade σ)) C X rfl dX4_countNotFreed_6 ?_
      refine lv_icmp_ge (tgt := 29) hx hb dX4_countNotFreed_9 (by decide) (fun c9 => ?_) (fun c9 => (lp_z hf c9).elim)
      refine lv_iload_n hx hb dX4_countNotFreed_29 rfl (lv_at hl 1 rfl) ?_
      exact ret dX4_countNotFreed_30 (congrArg (fun z => (z, _)) he) X
    | succ f ih4 =>
      intro y1 y2 hf hnn he H locs ls X hl
      refine lv_iload_n hx hb dX4_countNotFreed_4 rfl (lv_at hl 2 rfl) ?_
      refine lv_aload_n hx hb dX4_countNotFreed_5 rfl (lv_at hl 0 rfl) ?_
      refine cg_X4_X4_made (v := (c_tmade σ)) C X rfl dX4_countNotFreed_6 ?_
      refine lv_icmp_ge (tgt := 29) hx hb dX4_countNotFreed_9 (by decide) (fun c9 => (lp_s hf c9).elim) (fun c9 => ?_)
      refine lv_aload_n hx hb dX4_countNotFreed_12 rfl (lv_at hl 0 rfl) ?_
      refine lv_iload_n hx hb dX4_countNotFreed_13 rfl (lv_at hl 2 rfl) ?_
      refine callVR (rest := []) C hA (wC_sh a cI cZ) X (kX4_isFreed l D a cI cZ _ y2) (cwV 1 C.2.2.2.2.1 (gV wl_X4_46 wt_yX4_isFreed ws_yX4_isFreed wi_X4 wk_yX4_isFreed) rfl rfl rfl hdX4_isFreed ⟨Nat.le_of_ble_eq_true rfl, Nat.le_of_ble_eq_true rfl⟩) (ci := 4) (q0 := 1) rfl rfl rfl hl.1 rfl (Nat.le_of_ble_eq_true rfl) dX4_countNotFreed_14 ⟨Nat.le_refl 0, Nat.le_refl 0⟩ (fun H locs X => ?_)
      refine lv_if_ne (tgt := 23) hx hb dX4_countNotFreed_17 (by decide) (fun c17 => ?_) (fun c17 => ?_)
      · refine lv_iinc (v := (y2 + 1)) (lv' := [(2, .int (y2 + 1)), (0, .ref (a 1)), (1, .int y1)]) hx hb dX4_countNotFreed_23 hl (k := 2) rfl rfl (by decide) rfl (fun ls hl => ?_)
        refine lv_goto (tgt := 4) hx hb dX4_countNotFreed_26 (by decide) ?_
        exact ih4 y1 (y2 + 1) (lp_b hf) (lp_nn hnn hf) (Eq.trans (Eq.symm (if_neg c17)) he) _ _ _ X (lv_sub hl [1, 2, 0] rfl)
      · refine lv_iinc (v := (y1 + 1)) (lv' := [(1, .int (y1 + 1)), (0, .ref (a 1)), (2, .int y2)]) hx hb dX4_countNotFreed_20 hl (k := 1) rfl rfl (by decide) rfl (fun ls hl => ?_)
        refine lv_iinc (v := (y2 + 1)) (lv' := [(2, .int (y2 + 1)), (1, .int (y1 + 1)), (0, .ref (a 1))]) hx hb dX4_countNotFreed_23 hl (k := 2) rfl rfl (by decide) rfl (fun ls hl => ?_)
        refine lv_goto (tgt := 4) hx hb dX4_countNotFreed_26 (by decide) ?_
        exact ih4 (y1 + 1) (y2 + 1) (lp_b hf) (lp_nn hnn hf) (Eq.trans (Eq.symm (if_pos c17)) he) _ _ _ X (lv_sub hl [2, 1, 0] rfl)
  exact L4 (((Int32.toInt (c_tmade σ)) - (Int32.toInt (0 : Int32))).toNat) (0 : Int32) (0 : Int32) rfl (by decide) rfl _ _ _ X (lv_sub hl [2, 1, 0] rfl)
def fX4_cellsOfWhite_L4 : Nat → Int32 → Int32 → CSt → Int32
  | 0, y1, y2, σ0 => y1
  | f + 1, y1, y2, σ0 => (if (fX4_isWhite σ0 y2) = (0 : Int32) then (fX4_cellsOfWhite_L4 f y1 (y2 + 1) σ0) else (if (fX4_isFreed σ0 y2) = (0 : Int32) then (fX4_cellsOfWhite_L4 f (y1 + (fX4_sizeOf σ0 y2)) (y2 + 1) σ0) else (fX4_cellsOfWhite_L4 f y1 (y2 + 1) σ0)))
def fX4_cellsOfWhite (σ : CSt) : Int32 := (fX4_cellsOfWhite_L4 (((Int32.toInt (c_tmade σ)) - (Int32.toInt (0 : Int32))).toNat) (0 : Int32) (0 : Int32) σ)
theorem hdX4_cellsOfWhite : yX4_cellsOfWhite.cls = RX4 ∧ yX4_cellsOfWhite.cls ≠ "java/lang/invoke/MethodHandle" ∧ yX4_cellsOfWhite.cls ≠ "java/lang/invoke/VarHandle" ∧ (parseMethodDescriptor yX4_cellsOfWhite.desc).map (fun d => d.parameters.length) = some 0 := by decide +kernel
set_option maxHeartbeats 250000 in
set_option maxRecDepth 100000 in
theorem kX4_cellsOfWhite (l : Launch) (D : va_G) (a : Nat → Nat) (cI cZ : ClassId) (σ : CSt) : CR l D (tyIZ cI cZ) (wC a cI cZ) yX4_cellsOfWhite cX4_cellsOfWhite 3 .int (rmk 2 42) [.ref (a 1)] σ (fX4_cellsOfWhite σ) σ := by
  refine CR.of pnX4 ⟨rfl, rfl⟩ (Nat.le_of_ble_eq_true rfl) rfl (fun p e s m args below meth c A Q ls C X hA hl ret => ?_)
  have C : Cx p s m args meth c cX4_cellsOfWhite 3 RX4 D (tyIZ cI cZ) := C
  have hx := C.1
  have hb := C.2.1
  have hl : lv_has ls 3 [(0, .ref (a 1))] := hl
  refine lv_iconst (v := (0)) hx hb dX4_cellsOfWhite_0 (by decide) ?_
  refine lv_istore_n (lv' := [(1, .int (0 : Int32)), (0, .ref (a 1))]) hx hb dX4_cellsOfWhite_1 rfl hl (by decide) rfl (fun ls hl => ?_)
  refine lv_iconst (v := (0)) hx hb dX4_cellsOfWhite_2 (by decide) ?_
  refine lv_istore_n (lv' := [(2, .int (0 : Int32)), (1, .int (0 : Int32)), (0, .ref (a 1))]) hx hb dX4_cellsOfWhite_3 rfl hl (by decide) rfl (fun ls hl => ?_)
  have L4 : ∀ (f : Nat) (y1 : Int32) (y2 : Int32) (hf : ((Int32.toInt (c_tmade σ)) - (Int32.toInt y2)).toNat = f) (hnn : 0 ≤ Int32.toInt y2) (he : fX4_cellsOfWhite_L4 f y1 y2 σ = (fX4_cellsOfWhite σ)) (H : Heap) (locs : List Loc) (ls : Array Slot) (X : Sx A D (wC a cI cZ σ) s H locs) (hl : lv_has ls 3 [(0, .ref (a 1)), (1, .int y1), (2, .int y2)]), W p l e (rmk 2 42) s m args below meth c H locs 0 0 Q (F0 m 4 ls []) := by
    intro f
    induction f with
    | zero =>
      intro y1 y2 hf hnn he H locs ls X hl
      refine lv_iload_n hx hb dX4_cellsOfWhite_4 rfl (lv_at hl 2 rfl) ?_
      refine lv_aload_n hx hb dX4_cellsOfWhite_5 rfl (lv_at hl 0 rfl) ?_
      refine cg_X4_X4_made (v := (c_tmade σ)) C X rfl dX4_cellsOfWhite_6 ?_
      refine lv_icmp_ge (tgt := 42) hx hb dX4_cellsOfWhite_9 (by decide) (fun c9 => ?_) (fun c9 => (lp_z hf c9).elim)
      refine lv_iload_n hx hb dX4_cellsOfWhite_42 rfl (lv_at hl 1 rfl) ?_
      exact ret dX4_cellsOfWhite_43 (congrArg (fun z => (z, _)) he) X
    | succ f ih4 =>
      intro y1 y2 hf hnn he H locs ls X hl
      refine lv_iload_n hx hb dX4_cellsOfWhite_4 rfl (lv_at hl 2 rfl) ?_
      refine lv_aload_n hx hb dX4_cellsOfWhite_5 rfl (lv_at hl 0 rfl) ?_
      refine cg_X4_X4_made (v := (c_tmade σ)) C X rfl dX4_cellsOfWhite_6 ?_
      refine lv_icmp_ge (tgt := 42) hx hb dX4_cellsOfWhite_9 (by decide) (fun c9 => (lp_s hf c9).elim) (fun c9 => ?_)
      refine lv_aload_n hx hb dX4_cellsOfWhite_12 rfl (lv_at hl 0 rfl) ?_
      refine lv_iload_n hx hb dX4_cellsOfWhite_13 rfl (lv_at hl 2 rfl) ?_
      refine callVR (rest := []) C hA (wC_sh a cI cZ) X (kX4_isWhite l D a cI cZ _ y2) (cwV 1 C.2.2.2.2.1 (gV wl_X4_57 wt_yX4_isWhite ws_yX4_isWhite wi_X4 wk_yX4_isWhite) rfl rfl rfl hdX4_isWhite ⟨Nat.le_of_ble_eq_true rfl, Nat.le_of_ble_eq_true rfl⟩) (ci := 4) (q0 := 1) rfl rfl rfl hl.1 rfl (Nat.le_of_ble_eq_true rfl) dX4_cellsOfWhite_14 ⟨Nat.le_refl 0, Nat.le_refl 0⟩ (fun H locs X => ?_)
      refine lv_if_eq (tgt := 36) hx hb dX4_cellsOfWhite_17 (by decide) (fun c17 => ?_) (fun c17 => ?_)
      · refine lv_iinc (v := (y2 + 1)) (lv' := [(2, .int (y2 + 1)), (0, .ref (a 1)), (1, .int y1)]) hx hb dX4_cellsOfWhite_36 hl (k := 2) rfl rfl (by decide) rfl (fun ls hl => ?_)
        refine lv_goto (tgt := 4) hx hb dX4_cellsOfWhite_39 (by decide) ?_
        exact ih4 y1 (y2 + 1) (lp_b hf) (lp_nn hnn hf) (Eq.trans (Eq.symm (if_pos c17)) he) _ _ _ X (lv_sub hl [1, 2, 0] rfl)
      · refine lv_aload_n hx hb dX4_cellsOfWhite_20 rfl (lv_at hl 0 rfl) ?_
        refine lv_iload_n hx hb dX4_cellsOfWhite_21 rfl (lv_at hl 2 rfl) ?_
        refine callVR (rest := []) C hA (wC_sh a cI cZ) X (kX4_isFreed l D a cI cZ _ y2) (cwV 1 C.2.2.2.2.1 (gV wl_X4_46 wt_yX4_isFreed ws_yX4_isFreed wi_X4 wk_yX4_isFreed) rfl rfl rfl hdX4_isFreed ⟨Nat.le_of_ble_eq_true rfl, Nat.le_of_ble_eq_true rfl⟩) (ci := 4) (q0 := 1) rfl rfl rfl hl.1 rfl (Nat.le_of_ble_eq_true rfl) dX4_cellsOfWhite_22 ⟨Nat.le_refl 0, Nat.le_refl 0⟩ (fun H locs X => ?_)
        refine lv_if_ne (tgt := 36) hx hb dX4_cellsOfWhite_25 (by decide) (fun c25 => ?_) (fun c25 => ?_)
        · refine lv_iinc (v := (y2 + 1)) (lv' := [(2, .int (y2 + 1)), (0, .ref (a 1)), (1, .int y1)]) hx hb dX4_cellsOfWhite_36 hl (k := 2) rfl rfl (by decide) rfl (fun ls hl => ?_)
          refine lv_goto (tgt := 4) hx hb dX4_cellsOfWhite_39 (by decide) ?_
          exact ih4 y1 (y2 + 1) (lp_b hf) (lp_nn hnn hf) (Eq.trans (Eq.symm (Eq.trans (if_neg c17) (if_neg c25))) he) _ _ _ X (lv_sub hl [1, 2, 0] rfl)
        · refine lv_iload_n hx hb dX4_cellsOfWhite_28 rfl (lv_at hl 1 rfl) ?_
          refine lv_aload_n hx hb dX4_cellsOfWhite_29 rfl (lv_at hl 0 rfl) ?_
          refine lv_iload_n hx hb dX4_cellsOfWhite_30 rfl (lv_at hl 2 rfl) ?_
          refine callVR (rest := [.int y1]) C hA (wC_sh a cI cZ) X (kX4_sizeOf l D a cI cZ _ y2) (cwV 1 C.2.2.2.2.1 (gV wl_X4_60 wt_yX4_sizeOf ws_yX4_sizeOf wi_X4 wk_yX4_sizeOf) rfl rfl rfl hdX4_sizeOf ⟨Nat.le_of_ble_eq_true rfl, Nat.le_of_ble_eq_true rfl⟩) (ci := 4) (q0 := 1) rfl rfl rfl hl.1 rfl (Nat.le_of_ble_eq_true rfl) dX4_cellsOfWhite_31 ⟨Nat.le_refl 0, Nat.le_refl 0⟩ (fun H locs X => ?_)
          refine lv_iadd hx hb dX4_cellsOfWhite_34 ?_
          refine lv_istore_n (lv' := [(1, .int (y1 + (fX4_sizeOf σ y2))), (0, .ref (a 1)), (2, .int y2)]) hx hb dX4_cellsOfWhite_35 rfl hl (by decide) rfl (fun ls hl => ?_)
          refine lv_iinc (v := (y2 + 1)) (lv' := [(2, .int (y2 + 1)), (1, .int (y1 + (fX4_sizeOf σ y2))), (0, .ref (a 1))]) hx hb dX4_cellsOfWhite_36 hl (k := 2) rfl rfl (by decide) rfl (fun ls hl => ?_)
          refine lv_goto (tgt := 4) hx hb dX4_cellsOfWhite_39 (by decide) ?_
          exact ih4 (y1 + (fX4_sizeOf σ y2)) (y2 + 1) (lp_b hf) (lp_nn hnn hf) (Eq.trans (Eq.symm (Eq.trans (if_neg c17) (if_pos c25))) he) _ _ _ X (lv_sub hl [2, 1, 0] rfl)
  exact L4 (((Int32.toInt (c_tmade σ)) - (Int32.toInt (0 : Int32))).toNat) (0 : Int32) (0 : Int32) rfl (by decide) rfl _ _ _ X (lv_sub hl [2, 1, 0] rfl)
def fX4_add_L78 (z5 : Int32) : Nat → Int32 → CSt → Int32 × CSt
  | 0, y6, σ78 => (z5, (c_tmade_s σ78 ((c_tmade σ78) + (1 : Int32))))
  | f + 1, y6, σ78 => (fX4_add_L78 z5 f (y6 + 1) (c_theld_s σ78 (upd (c_theld σ78) (ix ((z5 * (6 : Int32)) + y6)) (-1 : Int32))))
def fX4_add (σ : CSt) (x1 : Int32) (x2 : Int32) (x3 : Int32) (x4 : Int32) : Int32 × CSt := (if (c_tmade σ) < (0 : Int32) then ((-1 : Int32), σ) else (if (c_tmade σ) < (120 : Int32) then (fX4_add_L78 (c_tmade σ) (((Int32.toInt (6 : Int32)) - (Int32.toInt (0 : Int32))).toNat) (0 : Int32) (c_wishing_s (c_freed_s (c_moves_s (c_colours_s (c_places_s (c_sizes_s σ (upd (c_sizes σ) (ix (c_tmade σ)) (x1 + (1 : Int32)))) (upd (c_places σ) (ix (c_tmade σ)) x4)) (upd (c_colours σ) (ix (c_tmade σ)) x3)) (upd (c_moves σ) (ix (c_tmade σ)) (0 : Int32))) (upd (c_freed σ) (ix (c_tmade σ)) (0 : Int32))) (upd (c_wishing σ) (ix (c_tmade σ)) (vp_nar .boolean x2)))) else ((-1 : Int32), σ)))
theorem hdX4_add : yX4_add.cls = RX4 ∧ yX4_add.cls ≠ "java/lang/invoke/MethodHandle" ∧ yX4_add.cls ≠ "java/lang/invoke/VarHandle" ∧ (parseMethodDescriptor yX4_add.desc).map (fun d => d.parameters.length) = some 4 := by decide +kernel
set_option maxHeartbeats 250000 in
set_option maxRecDepth 100000 in
theorem kX4_add (l : Launch) (D : va_G) (a : Nat → Nat) (cI cZ : ClassId) (σ : CSt) (x1 : Int32) (x2 : Int32) (x3 : Int32) (x4 : Int32) : CR l D (tyIZ cI cZ) (wC a cI cZ) yX4_add cX4_add 7 .int (rmk 0 0) [.ref (a 1), .int x1, .int x2, .int x3, .int x4] σ (fX4_add σ x1 x2 x3 x4).1 (fX4_add σ x1 x2 x3 x4).2 := by
  refine CR.of pnX4 ⟨rfl, rfl⟩ (Nat.le_of_ble_eq_true rfl) rfl (fun p e s m args below meth c A Q ls C X hA hl ret => ?_)
  have C : Cx p s m args meth c cX4_add 7 RX4 D (tyIZ cI cZ) := C
  have hx := C.1
  have hb := C.2.1
  have hl : lv_has ls 7 [(0, .ref (a 1)), (1, .int x1), (2, .int x2), (3, .int x3), (4, .int x4)] := hl
  refine lv_aload_n hx hb dX4_add_0 rfl (lv_at hl 0 rfl) ?_
  refine cg_X4_X4_made (v := (c_tmade σ)) C X rfl dX4_add_1 ?_
  refine lv_if_lt (tgt := 16) hx hb dX4_add_4 (by decide) (fun c4 => ?_) (fun c4 => ?_)
  · refine lv_iconst (v := (-1)) hx hb dX4_add_16 (by decide) ?_
    exact ret dX4_add_17 (pe_ (Eq.symm (if_pos c4))) X
  · refine lv_aload_n hx hb dX4_add_7 rfl (lv_at hl 0 rfl) ?_
    refine cg_X4_X4_made (v := (c_tmade σ)) C X rfl dX4_add_8 ?_
    refine lv_bipush (v := (120)) hx hb dX4_add_11 (by decide) ?_
    refine lv_icmp_lt (tgt := 18) hx hb dX4_add_13 (by decide) (fun c13 => ?_) (fun c13 => ?_)
    · refine lv_aload_n hx hb dX4_add_18 rfl (lv_at hl 0 rfl) ?_
      refine cg_X4_X4_made (v := (c_tmade σ)) C X rfl dX4_add_19 ?_
      refine lv_istore (lv' := [(5, .int (c_tmade σ)), (0, .ref (a 1)), (1, .int x1), (2, .int x2), (3, .int x3), (4, .int x4)]) hx hb dX4_add_22 hl (by decide) rfl (fun ls hl => ?_)
      refine lv_aload_n hx hb dX4_add_24 rfl (lv_at hl 1 rfl) ?_
      refine cg_X4_X4_sizes C X dX4_add_25 ?_
      refine lv_iload hx hb dX4_add_28 (lv_at hl 0 rfl) ?_
      refine lv_iload_n hx hb dX4_add_30 rfl (lv_at hl 2 rfl) ?_
      refine lv_iconst (v := (1)) hx hb dX4_add_31 (by decide) ?_
      refine lv_iadd hx hb dX4_add_32 ?_
      refine cs_sizes (g := (upd (c_sizes σ) (ix (c_tmade σ)) (x1 + (1 : Int32)))) C X (vp_in_iff.mpr (by have tc4 := i32_nlt c4; have tc13 := i32_lt c13; have q0_ : (0 : Int32).toInt = 0 := rfl; have q1_ : (120 : Int32).toInt = 120 := rfl; omega)) rfl dX4_add_33 (fun H locs X => ?_)
      refine lv_aload_n hx hb dX4_add_34 rfl (lv_at hl 1 rfl) ?_
      refine cg_X4_X4_places C X dX4_add_35 ?_
      refine lv_iload hx hb dX4_add_38 (lv_at hl 0 rfl) ?_
      refine lv_iload hx hb dX4_add_40 (lv_at hl 5 rfl) ?_
      refine cs_places (g := (upd (c_places σ) (ix (c_tmade σ)) x4)) C X (vp_in_iff.mpr (by have tc4 := i32_nlt c4; have tc13 := i32_lt c13; have q0_ : (0 : Int32).toInt = 0 := rfl; have q1_ : (120 : Int32).toInt = 120 := rfl; omega)) (congrArg (fun z => upd z _ _) (cq_places_sizes _ _)) dX4_add_42 (fun H locs X => ?_)
      refine lv_aload_n hx hb dX4_add_43 rfl (lv_at hl 1 rfl) ?_
      refine cg_X4_X4_colours C X dX4_add_44 ?_
      refine lv_iload hx hb dX4_add_47 (lv_at hl 0 rfl) ?_
      refine lv_iload_n hx hb dX4_add_49 rfl (lv_at hl 4 rfl) ?_
      refine cs_colours (g := (upd (c_colours σ) (ix (c_tmade σ)) x3)) C X (vp_in_iff.mpr (by have tc4 := i32_nlt c4; have tc13 := i32_lt c13; have q0_ : (0 : Int32).toInt = 0 := rfl; have q1_ : (120 : Int32).toInt = 120 := rfl; omega)) (congrArg (fun z => upd z _ _) (Eq.trans (cq_colours_places _ _) (cq_colours_sizes _ _))) dX4_add_50 (fun H locs X => ?_)
      refine lv_aload_n hx hb dX4_add_51 rfl (lv_at hl 1 rfl) ?_
      refine cg_X4_X4_moves C X dX4_add_52 ?_
      refine lv_iload hx hb dX4_add_55 (lv_at hl 0 rfl) ?_
      refine lv_iconst (v := (0)) hx hb dX4_add_57 (by decide) ?_
      refine cs_moves (g := (upd (c_moves σ) (ix (c_tmade σ)) (0 : Int32))) C X (vp_in_iff.mpr (by have tc4 := i32_nlt c4; have tc13 := i32_lt c13; have q0_ : (0 : Int32).toInt = 0 := rfl; have q1_ : (120 : Int32).toInt = 120 := rfl; omega)) (congrArg (fun z => upd z _ _) (Eq.trans (cq_moves_colours _ _) (Eq.trans (cq_moves_places _ _) (cq_moves_sizes _ _)))) dX4_add_58 (fun H locs X => ?_)
      refine lv_aload_n hx hb dX4_add_59 rfl (lv_at hl 1 rfl) ?_
      refine cg_X4_X4_freed C X dX4_add_60 ?_
      refine lv_iload hx hb dX4_add_63 (lv_at hl 0 rfl) ?_
      refine lv_iconst (v := (0)) hx hb dX4_add_65 (by decide) ?_
      refine cs_freed (x1 := (0 : Int32)) (g := (upd (c_freed σ) (ix (c_tmade σ)) (0 : Int32))) C X (vp_in_iff.mpr (by have tc4 := i32_nlt c4; have tc13 := i32_lt c13; have q0_ : (0 : Int32).toInt = 0 := rfl; have q1_ : (120 : Int32).toInt = 120 := rfl; omega)) rfl (congrArg (fun z => upd z _ _) (Eq.trans (cq_freed_moves _ _) (Eq.trans (cq_freed_colours _ _) (Eq.trans (cq_freed_places _ _) (cq_freed_sizes _ _))))) dX4_add_66 (fun H locs X => ?_)
      refine lv_aload_n hx hb dX4_add_67 rfl (lv_at hl 1 rfl) ?_
      refine cg_X4_X4_wishing C X dX4_add_68 ?_
      refine lv_iload hx hb dX4_add_71 (lv_at hl 0 rfl) ?_
      refine lv_iload_n hx hb dX4_add_73 rfl (lv_at hl 3 rfl) ?_
      refine cs_wishing (x1 := (vp_nar .boolean x2)) (g := (upd (c_wishing σ) (ix (c_tmade σ)) (vp_nar .boolean x2))) C X (vp_in_iff.mpr (by have tc4 := i32_nlt c4; have tc13 := i32_lt c13; have q0_ : (0 : Int32).toInt = 0 := rfl; have q1_ : (120 : Int32).toInt = 120 := rfl; omega)) rfl (congrArg (fun z => upd z _ _) (Eq.trans (cq_wishing_freed _ _) (Eq.trans (cq_wishing_moves _ _) (Eq.trans (cq_wishing_colours _ _) (Eq.trans (cq_wishing_places _ _) (cq_wishing_sizes _ _)))))) dX4_add_74 (fun H locs X => ?_)
      refine lv_iconst (v := (0)) hx hb dX4_add_75 (by decide) ?_
      refine lv_istore (lv' := [(6, .int (0 : Int32)), (5, .int (c_tmade σ)), (0, .ref (a 1)), (1, .int x1), (2, .int x2), (3, .int x3), (4, .int x4)]) hx hb dX4_add_76 hl (by decide) rfl (fun ls hl => ?_)
      have L78 : ∀ (f : Nat) (y6 : Int32) (σ78 : CSt) (hf : ((Int32.toInt (6 : Int32)) - (Int32.toInt y6)).toNat = f) (hnn : 0 ≤ Int32.toInt y6) (he : fX4_add_L78 (c_tmade σ) f y6 σ78 = (fX4_add σ x1 x2 x3 x4)) (H : Heap) (locs : List Loc) (ls : Array Slot) (X : Sx A D (wC a cI cZ σ78) s H locs) (hl : lv_has ls 7 [(0, .ref (a 1)), (5, .int (c_tmade σ)), (6, .int y6)]), W p l e (rmk 0 0) s m args below meth c H locs 0 0 Q (F0 m 78 ls []) := by
        intro f
        induction f with
        | zero =>
          intro y6 σ78 hf hnn he H locs ls X hl
          refine lv_iload hx hb dX4_add_78 (lv_at hl 2 rfl) ?_
          refine lv_bipush (v := (6)) hx hb dX4_add_80 (by decide) ?_
          refine lv_icmp_ge (tgt := 105) hx hb dX4_add_82 (by decide) (fun c82 => ?_) (fun c82 => (lp_z hf c82).elim)
          refine lv_aload_n hx hb dX4_add_105 rfl (lv_at hl 0 rfl) ?_
          refine lv_dup hx hb dX4_add_106 rfl ?_
          refine cg_X4_X4_made (v := (c_tmade σ78)) C X rfl dX4_add_107 ?_
          refine lv_iconst (v := (1)) hx hb dX4_add_110 (by decide) ?_
          refine lv_iadd hx hb dX4_add_111 ?_
          refine cp_X4_X4_made C X dX4_add_112 (fun H locs X => ?_)
          refine lv_iload hx hb dX4_add_115 (lv_at hl 1 rfl) ?_
          exact ret dX4_add_117 (pe_ he) X
        | succ f ih78 =>
          intro y6 σ78 hf hnn he H locs ls X hl
          refine lv_iload hx hb dX4_add_78 (lv_at hl 2 rfl) ?_
          refine lv_bipush (v := (6)) hx hb dX4_add_80 (by decide) ?_
          refine lv_icmp_ge (tgt := 105) hx hb dX4_add_82 (by decide) (fun c82 => (lp_s hf c82).elim) (fun c82 => ?_)
          refine lv_aload_n hx hb dX4_add_85 rfl (lv_at hl 0 rfl) ?_
          refine cg_X4_X4_held C X dX4_add_86 ?_
          refine lv_iload hx hb dX4_add_89 (lv_at hl 1 rfl) ?_
          refine lv_bipush (v := (6)) hx hb dX4_add_91 (by decide) ?_
          refine lv_imul hx hb dX4_add_93 ?_
          refine lv_iload hx hb dX4_add_94 (lv_at hl 2 rfl) ?_
          refine lv_iadd hx hb dX4_add_96 ?_
          refine lv_iconst (v := (-1)) hx hb dX4_add_97 (by decide) ?_
          refine cs_theld (g := (upd (c_theld σ78) (ix (((c_tmade σ) * (6 : Int32)) + y6)) (-1 : Int32))) C X (in_x6 (vp_in_iff.mpr (by have a1 := i32_nlt c4; have a2 := i32_lt c13; have q0_ : (120 : Int32).toInt = 120 := rfl; have q1_ : (0 : Int32).toInt = 0 := rfl; omega)) (lp_in hnn hf (show (Int32.toInt (6 : Int32) : Int) ≤ 6 by decide))) rfl dX4_add_98 (fun H locs X => ?_)
          refine lv_iinc (v := (y6 + 1)) (lv' := [(6, .int (y6 + 1)), (0, .ref (a 1)), (5, .int (c_tmade σ))]) hx hb dX4_add_99 hl (k := 2) rfl rfl (by decide) rfl (fun ls hl => ?_)
          refine lv_goto (tgt := 78) hx hb dX4_add_102 (by decide) ?_
          exact ih78 (y6 + 1) (c_theld_s σ78 (upd (c_theld σ78) (ix (((c_tmade σ) * (6 : Int32)) + y6)) (-1 : Int32))) (lp_b hf) (lp_nn hnn hf) he _ _ _ X (lv_sub hl [1, 2, 0] rfl)
      exact L78 (((Int32.toInt (6 : Int32)) - (Int32.toInt (0 : Int32))).toNat) (0 : Int32) (c_wishing_s (c_freed_s (c_moves_s (c_colours_s (c_places_s (c_sizes_s σ (upd (c_sizes σ) (ix (c_tmade σ)) (x1 + (1 : Int32)))) (upd (c_places σ) (ix (c_tmade σ)) x4)) (upd (c_colours σ) (ix (c_tmade σ)) x3)) (upd (c_moves σ) (ix (c_tmade σ)) (0 : Int32))) (upd (c_freed σ) (ix (c_tmade σ)) (0 : Int32))) (upd (c_wishing σ) (ix (c_tmade σ)) (vp_nar .boolean x2))) rfl (by decide) (Eq.symm (Eq.trans (if_neg c4) (if_pos c13))) _ _ _ X (lv_sub hl [2, 1, 0] rfl)
    · refine lv_iconst (v := (-1)) hx hb dX4_add_16 (by decide) ?_
      exact ret dX4_add_17 (pe_ (Eq.symm (Eq.trans (if_neg c4) (if_neg c13)))) X
