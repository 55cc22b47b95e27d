theorem cq_manner_nextS (σ : CSt) (v : Int32) : c_manner (c_nextS_s σ v) = c_manner σ := rfl
theorem cq_manner_under (σ : CSt) (v : Int32) : c_manner (c_under_s σ v) = c_manner σ := rfl
theorem cq_rounds_under (σ : CSt) (v : Int32) : c_rounds (c_under_s σ v) = c_rounds σ := rfl
def FR3 (σ τ : CSt) : Prop := c_tmade τ = c_tmade σ ∧ c_wishes τ = c_wishes σ ∧ c_pmade τ = c_pmade σ
theorem fr_rf (σ : CSt) : FR3 σ σ := ⟨rfl, rfl, rfl⟩
theorem fs_behind (σ : CSt) (v : Int32) : FR3 σ (c_behind_s σ v) := ⟨rfl, rfl, rfl⟩
theorem fs_shaded (σ : CSt) (v : Int32) : FR3 σ (c_shaded_s σ v) := ⟨rfl, rfl, rfl⟩
theorem fs_moved (σ : CSt) (v : Int32) : FR3 σ (c_moved_s σ v) := ⟨rfl, rfl, rfl⟩
theorem fs_cmap (σ : CSt) (v : Nat → Int32) : FR3 σ (c_cmap_s σ v) := ⟨rfl, rfl, rfl⟩
theorem fr_tr {σ τ υ : CSt} (h : FR3 σ τ) (h2 : FR3 τ υ) : FR3 σ υ := ⟨h2.1.trans h.1, h2.2.1.trans h.2.1, h2.2.2.trans h.2.2⟩
theorem fr_paint (τ : CSt) (x y : Int32) : FR3 τ (fX4_paint τ x y) := by unfold fX4_paint; split <;> exact ⟨rfl, rfl, rfl⟩
theorem fr_moveTo (τ : CSt) (x y : Int32) : FR3 τ (fX4_moveTo τ x y) := by unfold fX4_moveTo; split <;> exact ⟨rfl, rfl, rfl⟩
theorem fr_free (τ : CSt) (x : Int32) : FR3 τ (fX4_free τ x) := by unfold fX4_free; split <;> exact ⟨rfl, rfl, rfl⟩
theorem fr_endWish (τ : CSt) (x : Int32) : FR3 τ (fX4_endWish τ x) := by unfold fX4_endWish; split <;> exact ⟨rfl, rfl, rfl⟩
theorem fr_assign_L (z1 z2 z3 : Int32) (f : Nat) : ∀ (y : Int32) (τ : CSt), FR3 τ (fX0_assign_L3 z1 z2 z3 f y τ) := by
  induction f with
  | zero => intro y τ; exact fr_rf τ
  | succ f ih =>
    intro y τ
    unfold fX0_assign_L3
    split
    · exact ih _ _
    · split
      · exact ih _ _
      · exact fr_tr (fs_cmap _ _) (ih _ _)
theorem fr_assign (τ : CSt) (x y z : Int32) : FR3 τ (fX0_assign τ x y z) := fr_assign_L _ _ _ _ _ _
theorem fr_takeBehind (τ : CSt) (x y : Int32) : FR3 τ (fX0_takeBehind τ x y) := by unfold fX0_takeBehind; exact fr_tr (fr_assign _ _ _ _) (fs_behind _ _)

def fX5_shade_J89 (z1 : Int32) (σ89 : CSt) : CSt := (c_moved_s (fX0_takeBehind σ89 (fX4_sizeOf σ89 z1) z1) ((c_moved (fX0_takeBehind σ89 (fX4_sizeOf σ89 z1) z1)) + (1 : Int32)))
def fX5_shade_J74 (z1 : Int32) (σ74 : CSt) : CSt := (fX5_shade_J89 z1 (fX4_moveTo σ74 z1 (c_behind σ74)))
def fX5_shade_J42 (z1 : Int32) (σ42 : CSt) : CSt := (if (c_manner σ42) = (3 : Int32) then (fX5_shade_J74 z1 (fX0_assign σ42 (fX4_placeOf σ42 z1) (fX4_sizeOf σ42 z1) (-1 : Int32))) else σ42)
def fX5_shade (σ : CSt) (x1 : Int32) : CSt := (if (fX4_isWhite σ x1) = (0 : Int32) then σ else (if (fX4_isFreed σ x1) = (0 : Int32) then (fX5_shade_J42 x1 (c_shaded_s (fX4_paint σ x1 (1 : Int32)) ((c_shaded (fX4_paint σ x1 (1 : Int32))) + (1 : Int32)))) else σ))
theorem hdX5_shade : yX5_shade.cls = RX5 ∧ yX5_shade.cls ≠ "java/lang/invoke/MethodHandle" ∧ yX5_shade.cls ≠ "java/lang/invoke/VarHandle" ∧ (parseMethodDescriptor yX5_shade.desc).map (fun d => d.parameters.length) = some 1 := by decide +kernel
set_option maxHeartbeats 250000 in
set_option maxRecDepth 100000 in
theorem kX5_shade (l : Launch) (D : va_G) (a : Nat → Nat) (cI cZ : ClassId) (σ : CSt) (x1 : Int32) : CU l D (tyIZ cI cZ) (wC a cI cZ) yX5_shade cX5_shade 2 (rmk 2 46) [.ref (a 0), .int x1] σ (fX5_shade σ x1) := by
  refine CU.of pnX5 ⟨rfl, rfl⟩ (Nat.le_of_ble_eq_true rfl) (fun p e s m args below meth c A Q ls C X hA hl ret => ?_)
  have C : Cx p s m args meth c cX5_shade 2 RX5 D (tyIZ cI cZ) := C
  have hx := C.1
  have hb := C.2.1
  have hl : lv_has ls 2 [(0, .ref (a 0)), (1, .int x1)] := hl
  refine lv_aload_n hx hb dX5_shade_0 rfl (lv_at hl 0 rfl) ?_
  refine cg_X5_X5_things C X dX5_shade_1 ?_
  refine lv_iload_n hx hb dX5_shade_4 rfl (lv_at hl 1 rfl) ?_
  refine callVR (rest := []) C hA (wC_sh a cI cZ) X (kX4_isWhite l D a cI cZ _ x1) (cwV 1 C.2.2.2.2.1 (gV wl_X5_229 wt_yX4_isWhite ws_yX4_isWhite wi_X4 wk_yX4_isWhite) rfl rfl rfl hdX4_isWhite ⟨Nat.le_of_ble_eq_true rfl, Nat.le_of_ble_eq_true rfl⟩) (ci := 4) (q0 := 1) rfl rfl rfl hl.1 rfl (Nat.le_of_ble_eq_true rfl) dX5_shade_5 ⟨Nat.le_refl 0, Nat.le_refl 0⟩ (fun H locs X => ?_)
  refine lv_if_eq (tgt := 22) hx hb dX5_shade_8 (by decide) (fun c8 => ?_) (fun c8 => ?_)
  · exact ret dX5_shade_22 (Eq.symm (if_pos c8)) X
  · refine lv_aload_n hx hb dX5_shade_11 rfl (lv_at hl 0 rfl) ?_
    refine cg_X5_X5_things C X dX5_shade_12 ?_
    refine lv_iload_n hx hb dX5_shade_15 rfl (lv_at hl 1 rfl) ?_
    refine callVR (rest := []) C hA (wC_sh a cI cZ) X (kX4_isFreed l D a cI cZ _ x1) (cwV 1 C.2.2.2.2.1 (gV wl_X5_141 wt_yX4_isFreed ws_yX4_isFreed wi_X4 wk_yX4_isFreed) rfl rfl rfl hdX4_isFreed ⟨Nat.le_of_ble_eq_true rfl, Nat.le_of_ble_eq_true rfl⟩) (ci := 4) (q0 := 1) rfl rfl rfl hl.1 rfl (Nat.le_of_ble_eq_true rfl) dX5_shade_16 ⟨Nat.le_refl 0, Nat.le_refl 0⟩ (fun H locs X => ?_)
    refine lv_if_eq (tgt := 23) hx hb dX5_shade_19 (by decide) (fun c19 => ?_) (fun c19 => ?_)
    · have J42 : ∀ (σ42 : CSt) (he : fX5_shade_J42 x1 σ42 = (fX5_shade σ x1)) (H : Heap) (locs : List Loc) (ls : Array Slot) (X : Sx A D (wC a cI cZ σ42) s H locs) (hl : lv_has ls 2 [(0, .ref (a 0)), (1, .int x1)]), W p l e (rmk 2 46) s m args below meth c H locs 0 0 Q (F0 m 42 ls []) := by
        intro σ42 he H locs ls X hl
        refine lv_aload_n hx hb dX5_shade_42 rfl (lv_at hl 0 rfl) ?_
        refine cg_X5_X5_manner (v := (c_manner σ42)) C X rfl dX5_shade_43 ?_
        refine lv_iconst (v := (3)) hx hb dX5_shade_46 (by decide) ?_
        refine lv_icmp_ne (tgt := 115) hx hb dX5_shade_47 (by decide) (fun c47 => ?_) (fun c47 => ?_)
        · exact ret dX5_shade_115 (Eq.trans (Eq.symm (if_neg c47)) he) X
        · have J74 : ∀ (σ74 : CSt) (he : fX5_shade_J74 x1 σ74 = (fX5_shade σ x1)) (H : Heap) (locs : List Loc) (ls : Array Slot) (X : Sx A D (wC a cI cZ σ74) s H locs) (hl : lv_has ls 2 [(0, .ref (a 0)), (1, .int x1)]), W p l e (rmk 2 46) s m args below meth c H locs 0 0 Q (F0 m 74 ls []) := by
            intro σ74 he H locs ls X hl
            have J89 : ∀ (σ89 : CSt) (he : fX5_shade_J89 x1 σ89 = (fX5_shade σ x1)) (H : Heap) (locs : List Loc) (ls : Array Slot) (X : Sx A D (wC a cI cZ σ89) s H locs) (hl : lv_has ls 2 [(0, .ref (a 0)), (1, .int x1)]), W p l e (rmk 2 46) s m args below meth c H locs 0 0 Q (F0 m 89 ls []) := by
              intro σ89 he H locs ls X hl
              refine lv_aload_n hx hb dX5_shade_89 rfl (lv_at hl 0 rfl) ?_
              refine cg_X5_X5_cells C X dX5_shade_90 ?_
              refine lv_aload_n hx hb dX5_shade_93 rfl (lv_at hl 0 rfl) ?_
              refine cg_X5_X5_things C X dX5_shade_94 ?_
              refine lv_iload_n hx hb dX5_shade_97 rfl (lv_at hl 1 rfl) ?_
              refine callVR (rest := [.ref (a 2)]) C hA (wC_sh a cI cZ) X (kX4_sizeOf l D a cI cZ _ x1) (cwV 1 C.2.2.2.2.1 (gV wl_X5_244 wt_yX4_sizeOf ws_yX4_sizeOf wi_X4 wk_yX4_sizeOf) rfl rfl rfl hdX4_sizeOf ⟨Nat.le_of_ble_eq_true rfl, Nat.le_of_ble_eq_true rfl⟩) (ci := 4) (q0 := 1) rfl rfl rfl hl.1 rfl (Nat.le_of_ble_eq_true rfl) dX5_shade_98 ⟨Nat.le_refl 0, Nat.le_refl 0⟩ (fun H locs X => ?_)
              refine lv_iload_n hx hb dX5_shade_101 rfl (lv_at hl 1 rfl) ?_
              refine callVU (rest := []) C hA (wC_sh a cI cZ) X (kX0_takeBehind l D a cI cZ _ (fX4_sizeOf σ89 x1) x1) (cwV 2 C.2.2.2.2.1 (gV wl_X5_96 wt_yX0_takeBehind ws_yX0_takeBehind wi_X0 wk_yX0_takeBehind) rfl rfl rfl hdX0_takeBehind ⟨Nat.le_of_ble_eq_true rfl, Nat.le_of_ble_eq_true rfl⟩) (ci := 0) (q0 := 2) rfl rfl rfl hl.1 rfl (Nat.le_of_ble_eq_true rfl) dX5_shade_102 ⟨Nat.le_refl 0, Nat.le_refl 0⟩ (fun H locs X => ?_)
              refine lv_aload_n hx hb dX5_shade_105 rfl (lv_at hl 0 rfl) ?_
              refine lv_dup hx hb dX5_shade_106 rfl ?_
              refine cg_X5_X5_moved (v := (c_moved (fX0_takeBehind σ89 (fX4_sizeOf σ89 x1) x1))) C X rfl dX5_shade_107 ?_
              refine lv_iconst (v := (1)) hx hb dX5_shade_110 (by decide) ?_
              refine lv_iadd hx hb dX5_shade_111 ?_
              refine cp_X5_X5_moved C X dX5_shade_112 (fun H locs X => ?_)
              exact ret dX5_shade_115 he X
            refine lv_aload_n hx hb dX5_shade_74 rfl (lv_at hl 0 rfl) ?_
            refine cg_X5_X5_things C X dX5_shade_75 ?_
            refine lv_iload_n hx hb dX5_shade_78 rfl (lv_at hl 1 rfl) ?_
            refine lv_aload_n hx hb dX5_shade_79 rfl (lv_at hl 0 rfl) ?_
            refine cg_X5_X5_cells C X dX5_shade_80 ?_
            refine cg_X5_X0_behind (v := (c_behind σ74)) C X rfl dX5_shade_83 ?_
            refine callVU (rest := []) C hA (wC_sh a cI cZ) X (kX4_moveTo l D a cI cZ _ x1 (c_behind σ74)) (cwV 2 C.2.2.2.2.1 (gV wl_X5_247 wt_yX4_moveTo ws_yX4_moveTo wi_X4 wk_yX4_moveTo) rfl rfl rfl hdX4_moveTo ⟨Nat.le_of_ble_eq_true rfl, Nat.le_of_ble_eq_true rfl⟩) (ci := 4) (q0 := 1) rfl rfl rfl hl.1 rfl (Nat.le_of_ble_eq_true rfl) dX5_shade_86 ⟨Nat.le_refl 0, Nat.le_refl 0⟩ (fun H locs X => ?_)
            exact J89  (fX4_moveTo σ74 x1 (c_behind σ74)) he _ _ _ X (lv_sub hl [0, 1] rfl)
          refine lv_aload_n hx hb dX5_shade_50 rfl (lv_at hl 0 rfl) ?_
          refine cg_X5_X5_cells C X dX5_shade_51 ?_
          refine lv_aload_n hx hb dX5_shade_54 rfl (lv_at hl 0 rfl) ?_
          refine cg_X5_X5_things C X dX5_shade_55 ?_
          refine lv_iload_n hx hb dX5_shade_58 rfl (lv_at hl 1 rfl) ?_
          refine callVR (rest := [.ref (a 2)]) C hA (wC_sh a cI cZ) X (kX4_placeOf l D a cI cZ _ x1) (cwV 1 C.2.2.2.2.1 (gV wl_X5_241 wt_yX4_placeOf ws_yX4_placeOf wi_X4 wk_yX4_placeOf) rfl rfl rfl hdX4_placeOf ⟨Nat.le_of_ble_eq_true rfl, Nat.le_of_ble_eq_true rfl⟩) (ci := 4) (q0 := 1) rfl rfl rfl hl.1 rfl (Nat.le_of_ble_eq_true rfl) dX5_shade_59 ⟨Nat.le_refl 0, Nat.le_refl 0⟩ (fun H locs X => ?_)
          refine lv_aload_n hx hb dX5_shade_62 rfl (lv_at hl 0 rfl) ?_
          refine cg_X5_X5_things C X dX5_shade_63 ?_
          refine lv_iload_n hx hb dX5_shade_66 rfl (lv_at hl 1 rfl) ?_
          refine callVR (rest := [.int (fX4_placeOf σ42 x1), .ref (a 2)]) C hA (wC_sh a cI cZ) X (kX4_sizeOf l D a cI cZ _ x1) (cwV 1 C.2.2.2.2.1 (gV wl_X5_244 wt_yX4_sizeOf ws_yX4_sizeOf wi_X4 wk_yX4_sizeOf) rfl rfl rfl hdX4_sizeOf ⟨Nat.le_of_ble_eq_true rfl, Nat.le_of_ble_eq_true rfl⟩) (ci := 4) (q0 := 1) rfl rfl rfl hl.1 rfl (Nat.le_of_ble_eq_true rfl) dX5_shade_67 ⟨Nat.le_refl 0, Nat.le_refl 0⟩ (fun H locs X => ?_)
          refine lv_iconst (v := (-1)) hx hb dX5_shade_70 (by decide) ?_
          refine callVU (rest := []) C hA (wC_sh a cI cZ) X (kX0_assign l D a cI cZ _ (fX4_placeOf σ42 x1) (fX4_sizeOf σ42 x1) (-1 : Int32)) (cwV 3 C.2.2.2.2.1 (gV wl_X5_99 wt_yX0_assign ws_yX0_assign wi_X0 wk_yX0_assign) rfl rfl rfl hdX0_assign ⟨Nat.le_of_ble_eq_true rfl, Nat.le_of_ble_eq_true rfl⟩) (ci := 0) (q0 := 2) rfl rfl rfl hl.1 rfl (Nat.le_of_ble_eq_true rfl) dX5_shade_71 ⟨Nat.le_refl 0, Nat.le_refl 0⟩ (fun H locs X => ?_)
          exact J74  (fX0_assign σ42 (fX4_placeOf σ42 x1) (fX4_sizeOf σ42 x1) (-1 : Int32)) (Eq.trans (Eq.symm (if_pos c47)) he) _ _ _ X (lv_sub hl [0, 1] rfl)
      refine lv_aload_n hx hb dX5_shade_23 rfl (lv_at hl 0 rfl) ?_
      refine cg_X5_X5_things C X dX5_shade_24 ?_
      refine lv_iload_n hx hb dX5_shade_27 rfl (lv_at hl 1 rfl) ?_
      refine lv_iconst (v := (1)) hx hb dX5_shade_28 (by decide) ?_
      refine callVU (rest := []) C hA (wC_sh a cI cZ) X (kX4_paint l D a cI cZ _ x1 (1 : Int32)) (cwV 2 C.2.2.2.2.1 (gV wl_X5_214 wt_yX4_paint ws_yX4_paint wi_X4 wk_yX4_paint) rfl rfl rfl hdX4_paint ⟨Nat.le_of_ble_eq_true rfl, Nat.le_of_ble_eq_true rfl⟩) (ci := 4) (q0 := 1) rfl rfl rfl hl.1 rfl (Nat.le_of_ble_eq_true rfl) dX5_shade_29 ⟨Nat.le_refl 0, Nat.le_refl 0⟩ (fun H locs X => ?_)
      refine lv_aload_n hx hb dX5_shade_32 rfl (lv_at hl 0 rfl) ?_
      refine lv_dup hx hb dX5_shade_33 rfl ?_
      refine cg_X5_X5_shaded (v := (c_shaded (fX4_paint σ x1 (1 : Int32)))) C X rfl dX5_shade_34 ?_
      refine lv_iconst (v := (1)) hx hb dX5_shade_37 (by decide) ?_
      refine lv_iadd hx hb dX5_shade_38 ?_
      refine cp_X5_X5_shaded C X dX5_shade_39 (fun H locs X => ?_)
      exact J42  (c_shaded_s (fX4_paint σ x1 (1 : Int32)) ((c_shaded (fX4_paint σ x1 (1 : Int32))) + (1 : Int32))) (Eq.symm (Eq.trans (if_neg c8) (if_pos c19))) _ _ _ X (lv_sub hl [0, 1] rfl)
    · exact ret dX5_shade_22 (Eq.symm (Eq.trans (if_neg c8) (if_neg c19))) X
theorem fr_shade (σ : CSt) (x : Int32) : FR3 σ (fX5_shade σ x) := by
  unfold fX5_shade
  split
  · exact fr_rf σ
  · split
    · refine fr_tr (fr_tr (fr_paint σ x 1) (fs_shaded _ (c_shaded (fX4_paint σ x 1) + 1))) ?_
      unfold fX5_shade_J42
      split
      · unfold fX5_shade_J74 fX5_shade_J89
        exact fr_tr (fr_assign _ _ _ _) (fr_tr (fr_moveTo _ _ _) (fr_tr (fr_takeBehind _ _ _) (fs_moved _ _)))
      · exact fr_rf _
    · exact fr_rf σ

def fX5_shadeFieldsOf_L2 (z1 : Int32) : Nat → Int32 → CSt → CSt
  | 0, y2, σ2 => σ2
  | f + 1, y2, σ2 => (fX5_shadeFieldsOf_L2 z1 f (y2 + 1) (fX5_shade σ2 (fX4_inField σ2 z1 y2)))
def fX5_shadeFieldsOf (σ : CSt) (x1 : Int32) : CSt := (fX5_shadeFieldsOf_L2 x1 (((Int32.toInt (6 : Int32)) - (Int32.toInt (0 : Int32))).toNat) (0 : Int32) σ)
theorem hdX5_shadeFieldsOf : yX5_shadeFieldsOf.cls = RX5 ∧ yX5_shadeFieldsOf.cls ≠ "java/lang/invoke/MethodHandle" ∧ yX5_shadeFieldsOf.cls ≠ "java/lang/invoke/VarHandle" ∧ (parseMethodDescriptor yX5_shadeFieldsOf.desc).map (fun d => d.parameters.length) = some 1 := by decide +kernel
set_option maxHeartbeats 250000 in
set_option maxRecDepth 100000 in
theorem kX5_shadeFieldsOf (l : Launch) (D : va_G) (a : Nat → Nat) (cI cZ : ClassId) (σ : CSt) (x1 : Int32) : CU l D (tyIZ cI cZ) (wC a cI cZ) yX5_shadeFieldsOf cX5_shadeFieldsOf 3 (rmk 3 67) [.ref (a 0), .int x1] σ (fX5_shadeFieldsOf σ x1) := by
  refine CU.of pnX5 ⟨rfl, rfl⟩ (Nat.le_of_ble_eq_true rfl) (fun p e s m args below meth c A Q ls C X hA hl ret => ?_)
  have C : Cx p s m args meth c cX5_shadeFieldsOf 3 RX5 D (tyIZ cI cZ) := C
  have hx := C.1
  have hb := C.2.1
  have hl : lv_has ls 3 [(0, .ref (a 0)), (1, .int x1)] := hl
  refine lv_iconst (v := (0)) hx hb dX5_shadeFieldsOf_0 (by decide) ?_
  refine lv_istore_n (lv' := [(2, .int (0 : Int32)), (0, .ref (a 0)), (1, .int x1)]) hx hb dX5_shadeFieldsOf_1 rfl hl (by decide) rfl (fun ls hl => ?_)
  have L2 : ∀ (f : Nat) (y2 : Int32) (σ2 : CSt) (hf : ((Int32.toInt (6 : Int32)) - (Int32.toInt y2)).toNat = f) (hnn : 0 ≤ Int32.toInt y2) (he : fX5_shadeFieldsOf_L2 x1 f y2 σ2 = (fX5_shadeFieldsOf σ x1)) (H : Heap) (locs : List Loc) (ls : Array Slot) (X : Sx A D (wC a cI cZ σ2) s H locs) (hl : lv_has ls 3 [(0, .ref (a 0)), (1, .int x1), (2, .int y2)]), W p l e (rmk 3 67) s m args below meth c H locs 0 0 Q (F0 m 2 ls []) := by
    intro f
    induction f with
    | zero =>
      intro y2 σ2 hf hnn he H locs ls X hl
      refine lv_iload_n hx hb dX5_shadeFieldsOf_2 rfl (lv_at hl 2 rfl) ?_
      refine lv_bipush (v := (6)) hx hb dX5_shadeFieldsOf_3 (by decide) ?_
      refine lv_icmp_ge (tgt := 27) hx hb dX5_shadeFieldsOf_5 (by decide) (fun c5 => ?_) (fun c5 => (lp_z hf c5).elim)
      exact ret dX5_shadeFieldsOf_27 he X
    | succ f ih2 =>
      intro y2 σ2 hf hnn he H locs ls X hl
      refine lv_iload_n hx hb dX5_shadeFieldsOf_2 rfl (lv_at hl 2 rfl) ?_
      refine lv_bipush (v := (6)) hx hb dX5_shadeFieldsOf_3 (by decide) ?_
      refine lv_icmp_ge (tgt := 27) hx hb dX5_shadeFieldsOf_5 (by decide) (fun c5 => (lp_s hf c5).elim) (fun c5 => ?_)
      refine lv_aload_n hx hb dX5_shadeFieldsOf_8 rfl (lv_at hl 0 rfl) ?_
      refine lv_aload_n hx hb dX5_shadeFieldsOf_9 rfl (lv_at hl 0 rfl) ?_
      refine cg_X5_X5_things C X dX5_shadeFieldsOf_10 ?_
      refine lv_iload_n hx hb dX5_shadeFieldsOf_13 rfl (lv_at hl 1 rfl) ?_
      refine lv_iload_n hx hb dX5_shadeFieldsOf_14 rfl (lv_at hl 2 rfl) ?_
      refine callVR (rest := [.ref (a 0)]) C hA (wC_sh a cI cZ) X (kX4_inField l D a cI cZ _ x1 y2) (cwV 2 C.2.2.2.2.1 (gV wl_X5_128 wt_yX4_inField ws_yX4_inField wi_X4 wk_yX4_inField) rfl rfl rfl hdX4_inField ⟨Nat.le_of_ble_eq_true rfl, Nat.le_of_ble_eq_true rfl⟩) (ci := 4) (q0 := 1) rfl rfl rfl hl.1 rfl (Nat.le_of_ble_eq_true rfl) dX5_shadeFieldsOf_15 ⟨Nat.le_refl 0, Nat.le_refl 0⟩ (fun H locs X => ?_)
      refine callVU (rest := []) C hA (wC_sh a cI cZ) X (kX5_shade l D a cI cZ _ (fX4_inField σ2 x1 y2)) (cwV 1 C.2.2.2.2.1 (gV wl_X5_177 wt_yX5_shade ws_yX5_shade wi_X5 wk_yX5_shade) rfl rfl rfl hdX5_shade ⟨Nat.le_of_ble_eq_true rfl, Nat.le_of_ble_eq_true rfl⟩) (ci := 5) (q0 := 0) rfl rfl rfl hl.1 rfl (Nat.le_of_ble_eq_true rfl) dX5_shadeFieldsOf_18 ⟨Nat.le_refl 0, Nat.le_refl 0⟩ (fun H locs X => ?_)
      refine lv_iinc (v := (y2 + 1)) (lv' := [(2, .int (y2 + 1)), (0, .ref (a 0)), (1, .int x1)]) hx hb dX5_shadeFieldsOf_21 hl (k := 2) rfl rfl (by decide) rfl (fun ls hl => ?_)
      refine lv_goto (tgt := 2) hx hb dX5_shadeFieldsOf_24 (by decide) ?_
      exact ih2 (y2 + 1) (fX5_shade σ2 (fX4_inField σ2 x1 y2)) (lp_b hf) (lp_nn hnn hf) he _ _ _ X (lv_sub hl [1, 2, 0] rfl)
  exact L2 (((Int32.toInt (6 : Int32)) - (Int32.toInt (0 : Int32))).toNat) (0 : Int32) σ rfl (by decide) rfl _ _ _ X (lv_sub hl [1, 2, 0] rfl)
def fX5_shadeHeld_L2 : Nat → Int32 → CSt → CSt
  | 0, y1, σ2 => σ2
  | f + 1, y1, σ2 => (fX5_shadeHeld_L2 f (y1 + 1) (fX5_shade σ2 (fX1_heldAt σ2 y1)))
def fX5_shadeHeld (σ : CSt) : CSt := (fX5_shadeHeld_L2 (((Int32.toInt ((16 : Int32) + (c_wishes σ))) - (Int32.toInt (0 : Int32))).toNat) (0 : Int32) σ)
theorem hdX5_shadeHeld : yX5_shadeHeld.cls = RX5 ∧ yX5_shadeHeld.cls ≠ "java/lang/invoke/MethodHandle" ∧ yX5_shadeHeld.cls ≠ "java/lang/invoke/VarHandle" ∧ (parseMethodDescriptor yX5_shadeHeld.desc).map (fun d => d.parameters.length) = some 0 := by decide +kernel
set_option maxHeartbeats 250000 in
set_option maxRecDepth 100000 in
theorem kX5_shadeHeld (l : Launch) (D : va_G) (a : Nat → Nat) (cI cZ : ClassId) (σ : CSt) : CU l D (tyIZ cI cZ) (wC a cI cZ) yX5_shadeHeld cX5_shadeHeld 2 (rmk 3 67) [.ref (a 0)] σ (fX5_shadeHeld σ) := by
  refine CU.of pnX5 ⟨rfl, rfl⟩ (Nat.le_of_ble_eq_true rfl) (fun p e s m args below meth c A Q ls C X hA hl ret => ?_)
  have C : Cx p s m args meth c cX5_shadeHeld 2 RX5 D (tyIZ cI cZ) := C
  have hx := C.1
  have hb := C.2.1
  have hl : lv_has ls 2 [(0, .ref (a 0))] := hl
  refine lv_iconst (v := (0)) hx hb dX5_shadeHeld_0 (by decide) ?_
  refine lv_istore_n (lv' := [(1, .int (0 : Int32)), (0, .ref (a 0))]) hx hb dX5_shadeHeld_1 rfl hl (by decide) rfl (fun ls hl => ?_)
  have L2 : ∀ (f : Nat) (y1 : Int32) (σ2 : CSt) (hf : ((Int32.toInt ((16 : Int32) + (c_wishes σ2))) - (Int32.toInt y1)).toNat = f) (hnn : 0 ≤ Int32.toInt y1) (he : fX5_shadeHeld_L2 f y1 σ2 = (fX5_shadeHeld σ)) (H : Heap) (locs : List Loc) (ls : Array Slot) (X : Sx A D (wC a cI cZ σ2) s H locs) (hl : lv_has ls 2 [(0, .ref (a 0)), (1, .int y1)]), W p l e (rmk 3 67) s m args below meth c H locs 0 0 Q (F0 m 2 ls []) := by
    intro f
    induction f with
    | zero =>
      intro y1 σ2 hf hnn he H locs ls X hl
      refine lv_iload_n hx hb dX5_shadeHeld_2 rfl (lv_at hl 1 rfl) ?_
      refine lv_bipush (v := (16)) hx hb dX5_shadeHeld_3 (by decide) ?_
      refine lv_aload_n hx hb dX5_shadeHeld_5 rfl (lv_at hl 0 rfl) ?_
      refine cg_X5_X5_holders C X dX5_shadeHeld_6 ?_
      refine cg_X5_X1_wishes (v := (c_wishes σ2)) C X rfl dX5_shadeHeld_9 ?_
      refine lv_iadd hx hb dX5_shadeHeld_12 ?_
      refine lv_icmp_ge (tgt := 34) hx hb dX5_shadeHeld_13 (by decide) (fun c13 => ?_) (fun c13 => (lp_z hf c13).elim)
      exact ret dX5_shadeHeld_34 he X
    | succ f ih2 =>
      intro y1 σ2 hf hnn he H locs ls X hl
      refine lv_iload_n hx hb dX5_shadeHeld_2 rfl (lv_at hl 1 rfl) ?_
      refine lv_bipush (v := (16)) hx hb dX5_shadeHeld_3 (by decide) ?_
      refine lv_aload_n hx hb dX5_shadeHeld_5 rfl (lv_at hl 0 rfl) ?_
      refine cg_X5_X5_holders C X dX5_shadeHeld_6 ?_
      refine cg_X5_X1_wishes (v := (c_wishes σ2)) C X rfl dX5_shadeHeld_9 ?_
      refine lv_iadd hx hb dX5_shadeHeld_12 ?_
      refine lv_icmp_ge (tgt := 34) hx hb dX5_shadeHeld_13 (by decide) (fun c13 => (lp_s hf c13).elim) (fun c13 => ?_)
      refine lv_aload_n hx hb dX5_shadeHeld_16 rfl (lv_at hl 0 rfl) ?_
      refine lv_aload_n hx hb dX5_shadeHeld_17 rfl (lv_at hl 0 rfl) ?_
      refine cg_X5_X5_holders C X dX5_shadeHeld_18 ?_
      refine lv_iload_n hx hb dX5_shadeHeld_21 rfl (lv_at hl 1 rfl) ?_
      refine callVR (rest := [.ref (a 0)]) C hA (wC_sh a cI cZ) X (kX1_heldAt l D a cI cZ _ y1) (cwV 1 C.2.2.2.2.1 (gV wl_X5_148 wt_yX1_heldAt ws_yX1_heldAt wi_X1 wk_yX1_heldAt) rfl rfl rfl hdX1_heldAt ⟨Nat.le_of_ble_eq_true rfl, Nat.le_of_ble_eq_true rfl⟩) (ci := 1) (q0 := 3) rfl rfl rfl hl.1 rfl (Nat.le_of_ble_eq_true rfl) dX5_shadeHeld_22 ⟨Nat.le_refl 0, Nat.le_refl 0⟩ (fun H locs X => ?_)
      refine callVU (rest := []) C hA (wC_sh a cI cZ) X (kX5_shade l D a cI cZ _ (fX1_heldAt σ2 y1)) (cwV 1 C.2.2.2.2.1 (gV wl_X5_177 wt_yX5_shade ws_yX5_shade wi_X5 wk_yX5_shade) rfl rfl rfl hdX5_shade ⟨Nat.le_of_ble_eq_true rfl, Nat.le_of_ble_eq_true rfl⟩) (ci := 5) (q0 := 0) rfl rfl rfl hl.1 rfl (Nat.le_of_ble_eq_true rfl) dX5_shadeHeld_25 ⟨Nat.le_refl 0, Nat.le_refl 0⟩ (fun H locs X => ?_)
      refine lv_iinc (v := (y1 + 1)) (lv' := [(1, .int (y1 + 1)), (0, .ref (a 0))]) hx hb dX5_shadeHeld_28 hl (k := 1) rfl rfl (by decide) rfl (fun ls hl => ?_)
      refine lv_goto (tgt := 2) hx hb dX5_shadeHeld_31 (by decide) ?_
      exact ih2 (y1 + 1) (fX5_shade σ2 (fX1_heldAt σ2 y1)) (by first | with_reducible exact lp_b hf | (rw [(fr_shade _ _).2.1]; exact lp_b hf)) (lp_nn hnn hf) he _ _ _ X (lv_sub hl [1, 0] rfl)
  exact L2 (((Int32.toInt ((16 : Int32) + (c_wishes σ))) - (Int32.toInt (0 : Int32))).toNat) (0 : Int32) σ rfl (by decide) rfl _ _ _ X (lv_sub hl [1, 0] rfl)
def fX5_shadeValues_L2 : Nat → Int32 → CSt → CSt
  | 0, y1, σ2 => σ2
  | f + 1, y1, σ2 => (if (fX2_keyOf σ2 y1) = (-1 : Int32) then (fX5_shadeValues_L2 f (y1 + 1) σ2) else (if (fX4_isWhite σ2 (fX2_keyOf σ2 y1)) = (0 : Int32) then (fX5_shadeValues_L2 f (y1 + 1) (fX5_shade σ2 (fX2_valueOf σ2 y1))) else (fX5_shadeValues_L2 f (y1 + 1) σ2)))
def fX5_shadeValues (σ : CSt) : CSt := (fX5_shadeValues_L2 (((Int32.toInt (c_pmade σ)) - (Int32.toInt (0 : Int32))).toNat) (0 : Int32) σ)
theorem hdX5_shadeValues : yX5_shadeValues.cls = RX5 ∧ yX5_shadeValues.cls ≠ "java/lang/invoke/MethodHandle" ∧ yX5_shadeValues.cls ≠ "java/lang/invoke/VarHandle" ∧ (parseMethodDescriptor yX5_shadeValues.desc).map (fun d => d.parameters.length) = some 0 := by decide +kernel
set_option maxHeartbeats 250000 in
set_option maxRecDepth 100000 in
theorem kX5_shadeValues (l : Launch) (D : va_G) (a : Nat → Nat) (cI cZ : ClassId) (σ : CSt) : CU l D (tyIZ cI cZ) (wC a cI cZ) yX5_shadeValues cX5_shadeValues 3 (rmk 3 67) [.ref (a 0)] σ (fX5_shadeValues σ) := by
  refine CU.of pnX5 ⟨rfl, rfl⟩ (Nat.le_of_ble_eq_true rfl) (fun p e s m args below meth c A Q ls C X hA hl ret => ?_)
  have C : Cx p s m args meth c cX5_shadeValues 3 RX5 D (tyIZ cI cZ) := C
  have hx := C.1
  have hb := C.2.1
  have hl : lv_has ls 3 [(0, .ref (a 0))] := hl
  refine lv_iconst (v := (0)) hx hb dX5_shadeValues_0 (by decide) ?_
  refine lv_istore_n (lv' := [(1, .int (0 : Int32)), (0, .ref (a 0))]) hx hb dX5_shadeValues_1 rfl hl (by decide) rfl (fun ls hl => ?_)
  have L2 : ∀ (f : Nat) (y1 : Int32) (σ2 : CSt) (hf : ((Int32.toInt (c_pmade σ2)) - (Int32.toInt y1)).toNat = f) (hnn : 0 ≤ Int32.toInt y1) (he : fX5_shadeValues_L2 f y1 σ2 = (fX5_shadeValues σ)) (H : Heap) (locs : List Loc) (ls : Array Slot) (X : Sx A D (wC a cI cZ σ2) s H locs) (hl : lv_has ls 3 [(0, .ref (a 0)), (1, .int y1)]), W p l e (rmk 3 67) s m args below meth c H locs 0 0 Q (F0 m 2 ls []) := by
    intro f
    induction f with
    | zero =>
      intro y1 σ2 hf hnn he H locs ls X hl
      refine lv_iload_n hx hb dX5_shadeValues_2 rfl (lv_at hl 1 rfl) ?_
      refine lv_aload_n hx hb dX5_shadeValues_3 rfl (lv_at hl 0 rfl) ?_
      refine cg_X5_X5_pairs C X dX5_shadeValues_4 ?_
      refine cg_X5_X2_made (v := (c_pmade σ2)) C X rfl dX5_shadeValues_7 ?_
      refine lv_icmp_ge (tgt := 56) hx hb dX5_shadeValues_10 (by decide) (fun c10 => ?_) (fun c10 => (lp_z hf c10).elim)
      exact ret dX5_shadeValues_56 he X
    | succ f ih2 =>
      intro y1 σ2 hf hnn he H locs ls X hl
      refine lv_iload_n hx hb dX5_shadeValues_2 rfl (lv_at hl 1 rfl) ?_
      refine lv_aload_n hx hb dX5_shadeValues_3 rfl (lv_at hl 0 rfl) ?_
      refine cg_X5_X5_pairs C X dX5_shadeValues_4 ?_
      refine cg_X5_X2_made (v := (c_pmade σ2)) C X rfl dX5_shadeValues_7 ?_
      refine lv_icmp_ge (tgt := 56) hx hb dX5_shadeValues_10 (by decide) (fun c10 => (lp_s hf c10).elim) (fun c10 => ?_)
      refine lv_aload_n hx hb dX5_shadeValues_13 rfl (lv_at hl 0 rfl) ?_
      refine cg_X5_X5_pairs C X dX5_shadeValues_14 ?_
      refine lv_iload_n hx hb dX5_shadeValues_17 rfl (lv_at hl 1 rfl) ?_
      refine callVR (rest := []) C hA (wC_sh a cI cZ) X (kX2_keyOf l D a cI cZ _ y1) (cwV 1 C.2.2.2.2.1 (gV wl_X5_226 wt_yX2_keyOf ws_yX2_keyOf wi_X2 wk_yX2_keyOf) rfl rfl rfl hdX2_keyOf ⟨Nat.le_of_ble_eq_true rfl, Nat.le_of_ble_eq_true rfl⟩) (ci := 2) (q0 := 4) rfl rfl rfl hl.1 rfl (Nat.le_of_ble_eq_true rfl) dX5_shadeValues_18 ⟨Nat.le_refl 0, Nat.le_refl 0⟩ (fun H locs X => ?_)
      refine lv_istore_n (lv' := [(2, .int (fX2_keyOf σ2 y1)), (0, .ref (a 0)), (1, .int y1)]) hx hb dX5_shadeValues_21 rfl hl (by decide) rfl (fun ls hl => ?_)
      refine lv_iload_n hx hb dX5_shadeValues_22 rfl (lv_at hl 0 rfl) ?_
      refine lv_iconst (v := (-1)) hx hb dX5_shadeValues_23 (by decide) ?_
      refine lv_icmp_eq (tgt := 50) hx hb dX5_shadeValues_24 (by decide) (fun c24 => ?_) (fun c24 => ?_)
      · refine lv_iinc (v := (y1 + 1)) (lv' := [(1, .int (y1 + 1)), (2, .int (fX2_keyOf σ2 y1)), (0, .ref (a 0))]) hx hb dX5_shadeValues_50 hl (k := 2) rfl rfl (by decide) rfl (fun ls hl => ?_)
        refine lv_goto (tgt := 2) hx hb dX5_shadeValues_53 (by decide) ?_
        exact ih2 (y1 + 1) σ2 (by first | with_reducible exact lp_b hf | (rw [(fr_shade _ _).2.2]; exact lp_b hf)) (lp_nn hnn hf) (Eq.trans (Eq.symm (if_pos c24)) he) _ _ _ X (lv_sub hl [2, 0] rfl)
      · refine lv_aload_n hx hb dX5_shadeValues_27 rfl (lv_at hl 1 rfl) ?_
        refine cg_X5_X5_things C X dX5_shadeValues_28 ?_
        refine lv_iload_n hx hb dX5_shadeValues_31 rfl (lv_at hl 0 rfl) ?_
        refine callVR (rest := []) C hA (wC_sh a cI cZ) X (kX4_isWhite l D a cI cZ _ (fX2_keyOf σ2 y1)) (cwV 1 C.2.2.2.2.1 (gV wl_X5_229 wt_yX4_isWhite ws_yX4_isWhite wi_X4 wk_yX4_isWhite) rfl rfl rfl hdX4_isWhite ⟨Nat.le_of_ble_eq_true rfl, Nat.le_of_ble_eq_true rfl⟩) (ci := 4) (q0 := 1) rfl rfl rfl hl.1 rfl (Nat.le_of_ble_eq_true rfl) dX5_shadeValues_32 ⟨Nat.le_refl 0, Nat.le_refl 0⟩ (fun H locs X => ?_)
        refine lv_if_ne (tgt := 50) hx hb dX5_shadeValues_35 (by decide) (fun c35 => ?_) (fun c35 => ?_)
        · refine lv_iinc (v := (y1 + 1)) (lv' := [(1, .int (y1 + 1)), (2, .int (fX2_keyOf σ2 y1)), (0, .ref (a 0))]) hx hb dX5_shadeValues_50 hl (k := 2) rfl rfl (by decide) rfl (fun ls hl => ?_)
          refine lv_goto (tgt := 2) hx hb dX5_shadeValues_53 (by decide) ?_
          exact ih2 (y1 + 1) σ2 (by first | with_reducible exact lp_b hf | (rw [(fr_shade _ _).2.2]; exact lp_b hf)) (lp_nn hnn hf) (Eq.trans (Eq.symm (Eq.trans (if_neg c24) (if_neg c35))) he) _ _ _ X (lv_sub hl [2, 0] rfl)
        · refine lv_aload_n hx hb dX5_shadeValues_38 rfl (lv_at hl 1 rfl) ?_
          refine lv_aload_n hx hb dX5_shadeValues_39 rfl (lv_at hl 1 rfl) ?_
          refine cg_X5_X5_pairs C X dX5_shadeValues_40 ?_
          refine lv_iload_n hx hb dX5_shadeValues_43 rfl (lv_at hl 2 rfl) ?_
          refine callVR (rest := [.ref (a 0)]) C hA (wC_sh a cI cZ) X (kX2_valueOf l D a cI cZ _ y1) (cwV 1 C.2.2.2.2.1 (gV wl_X5_168 wt_yX2_valueOf ws_yX2_valueOf wi_X2 wk_yX2_valueOf) rfl rfl rfl hdX2_valueOf ⟨Nat.le_of_ble_eq_true rfl, Nat.le_of_ble_eq_true rfl⟩) (ci := 2) (q0 := 4) rfl rfl rfl hl.1 rfl (Nat.le_of_ble_eq_true rfl) dX5_shadeValues_44 ⟨Nat.le_refl 0, Nat.le_refl 0⟩ (fun H locs X => ?_)
          refine callVU (rest := []) C hA (wC_sh a cI cZ) X (kX5_shade l D a cI cZ _ (fX2_valueOf σ2 y1)) (cwV 1 C.2.2.2.2.1 (gV wl_X5_177 wt_yX5_shade ws_yX5_shade wi_X5 wk_yX5_shade) rfl rfl rfl hdX5_shade ⟨Nat.le_of_ble_eq_true rfl, Nat.le_of_ble_eq_true rfl⟩) (ci := 5) (q0 := 0) rfl rfl rfl hl.1 rfl (Nat.le_of_ble_eq_true rfl) dX5_shadeValues_47 ⟨Nat.le_refl 0, Nat.le_refl 0⟩ (fun H locs X => ?_)
          refine lv_iinc (v := (y1 + 1)) (lv' := [(1, .int (y1 + 1)), (2, .int (fX2_keyOf σ2 y1)), (0, .ref (a 0))]) hx hb dX5_shadeValues_50 hl (k := 2) rfl rfl (by decide) rfl (fun ls hl => ?_)
          refine lv_goto (tgt := 2) hx hb dX5_shadeValues_53 (by decide) ?_
          exact ih2 (y1 + 1) (fX5_shade σ2 (fX2_valueOf σ2 y1)) (by first | with_reducible exact lp_b hf | (rw [(fr_shade _ _).2.2]; exact lp_b hf)) (lp_nn hnn hf) (Eq.trans (Eq.symm (Eq.trans (if_neg c24) (if_pos c35))) he) _ _ _ X (lv_sub hl [2, 0] rfl)
  exact L2 (((Int32.toInt (c_pmade σ)) - (Int32.toInt (0 : Int32))).toNat) (0 : Int32) σ rfl (by decide) rfl _ _ _ X (lv_sub hl [1, 0] rfl)
def fX5_grantWishes_L2 : Nat → Int32 → CSt → CSt
  | 0, y1, σ2 => σ2
  | f + 1, y1, σ2 => (if (fX4_hasWish σ2 y1) = (0 : Int32) then (fX5_grantWishes_L2 f (y1 + 1) σ2) else (if (fX4_isWhite σ2 y1) = (0 : Int32) then (fX5_grantWishes_L2 f (y1 + 1) σ2) else (if (fX4_isFreed σ2 y1) = (0 : Int32) then (fX5_grantWishes_L2 f (y1 + 1) (fX5_shade (fX1_addWish (fX4_endWish σ2 y1) y1) y1)) else (fX5_grantWishes_L2 f (y1 + 1) σ2))))
def fX5_grantWishes (σ : CSt) : CSt := (fX5_grantWishes_L2 (((Int32.toInt (c_tmade σ)) - (Int32.toInt (0 : Int32))).toNat) (0 : Int32) σ)
theorem hdX5_grantWishes : yX5_grantWishes.cls = RX5 ∧ yX5_grantWishes.cls ≠ "java/lang/invoke/MethodHandle" ∧ yX5_grantWishes.cls ≠ "java/lang/invoke/VarHandle" ∧ (parseMethodDescriptor yX5_grantWishes.desc).map (fun d => d.parameters.length) = some 0 := by decide +kernel
set_option maxHeartbeats 250000 in
set_option maxRecDepth 100000 in
theorem kX5_grantWishes (l : Launch) (D : va_G) (a : Nat → Nat) (cI cZ : ClassId) (σ : CSt) : CU l D (tyIZ cI cZ) (wC a cI cZ) yX5_grantWishes cX5_grantWishes 2 (rmk 3 67) [.ref (a 0)] σ (fX5_grantWishes σ) := by
  refine CU.of pnX5 ⟨rfl, rfl⟩ (Nat.le_of_ble_eq_true rfl) (fun p e s m args below meth c A Q ls C X hA hl ret => ?_)
  have C : Cx p s m args meth c cX5_grantWishes 2 RX5 D (tyIZ cI cZ) := C
  have hx := C.1
  have hb := C.2.1
  have hl : lv_has ls 2 [(0, .ref (a 0))] := hl
  refine lv_iconst (v := (0)) hx hb dX5_grantWishes_0 (by decide) ?_
  refine lv_istore_n (lv' := [(1, .int (0 : Int32)), (0, .ref (a 0))]) hx hb dX5_grantWishes_1 rfl hl (by decide) rfl (fun ls hl => ?_)
  have L2 : ∀ (f : Nat) (y1 : Int32) (σ2 : CSt) (hf : ((Int32.toInt (c_tmade σ2)) - (Int32.toInt y1)).toNat = f) (hnn : 0 ≤ Int32.toInt y1) (he : fX5_grantWishes_L2 f y1 σ2 = (fX5_grantWishes σ)) (H : Heap) (locs : List Loc) (ls : Array Slot) (X : Sx A D (wC a cI cZ σ2) s H locs) (hl : lv_has ls 2 [(0, .ref (a 0)), (1, .int y1)]), W p l e (rmk 3 67) s m args below meth c H locs 0 0 Q (F0 m 2 ls []) := by
    intro f
    induction f with
    | zero =>
      intro y1 σ2 hf hnn he H locs ls X hl
      refine lv_iload_n hx hb dX5_grantWishes_2 rfl (lv_at hl 1 rfl) ?_
      refine lv_aload_n hx hb dX5_grantWishes_3 rfl (lv_at hl 0 rfl) ?_
      refine cg_X5_X5_things C X dX5_grantWishes_4 ?_
      refine cg_X5_X4_made (v := (c_tmade σ2)) C X rfl dX5_grantWishes_7 ?_
      refine lv_icmp_ge (tgt := 73) hx hb dX5_grantWishes_10 (by decide) (fun c10 => ?_) (fun c10 => (lp_z hf c10).elim)
      exact ret dX5_grantWishes_73 he X
    | succ f ih2 =>
      intro y1 σ2 hf hnn he H locs ls X hl
      refine lv_iload_n hx hb dX5_grantWishes_2 rfl (lv_at hl 1 rfl) ?_
      refine lv_aload_n hx hb dX5_grantWishes_3 rfl (lv_at hl 0 rfl) ?_
      refine cg_X5_X5_things C X dX5_grantWishes_4 ?_
      refine cg_X5_X4_made (v := (c_tmade σ2)) C X rfl dX5_grantWishes_7 ?_
      refine lv_icmp_ge (tgt := 73) hx hb dX5_grantWishes_10 (by decide) (fun c10 => (lp_s hf c10).elim) (fun c10 => ?_)
      refine lv_aload_n hx hb dX5_grantWishes_13 rfl (lv_at hl 0 rfl) ?_
      refine cg_X5_X5_things C X dX5_grantWishes_14 ?_
      refine lv_iload_n hx hb dX5_grantWishes_17 rfl (lv_at hl 1 rfl) ?_
      refine callVR (rest := []) C hA (wC_sh a cI cZ) X (kX4_hasWish l D a cI cZ _ y1) (cwV 1 C.2.2.2.2.1 (gV wl_X5_232 wt_yX4_hasWish ws_yX4_hasWish wi_X4 wk_yX4_hasWish) rfl rfl rfl hdX4_hasWish ⟨Nat.le_of_ble_eq_true rfl, Nat.le_of_ble_eq_true rfl⟩) (ci := 4) (q0 := 1) rfl rfl rfl hl.1 rfl (Nat.le_of_ble_eq_true rfl) dX5_grantWishes_18 ⟨Nat.le_refl 0, Nat.le_refl 0⟩ (fun H locs X => ?_)
      refine lv_if_eq (tgt := 67) hx hb dX5_grantWishes_21 (by decide) (fun c21 => ?_) (fun c21 => ?_)
      · refine lv_iinc (v := (y1 + 1)) (lv' := [(1, .int (y1 + 1)), (0, .ref (a 0))]) hx hb dX5_grantWishes_67 hl (k := 1) rfl rfl (by decide) rfl (fun ls hl => ?_)
        refine lv_goto (tgt := 2) hx hb dX5_grantWishes_70 (by decide) ?_
        exact ih2 (y1 + 1) σ2 (by first | with_reducible exact lp_b hf | (rw [(fr_shade _ _).1, tm_addWish, (fr_endWish _ _).1]; exact lp_b hf)) (lp_nn hnn hf) (Eq.trans (Eq.symm (if_pos c21)) he) _ _ _ X (lv_sub hl [1, 0] rfl)
      · refine lv_aload_n hx hb dX5_grantWishes_24 rfl (lv_at hl 0 rfl) ?_
        refine cg_X5_X5_things C X dX5_grantWishes_25 ?_
        refine lv_iload_n hx hb dX5_grantWishes_28 rfl (lv_at hl 1 rfl) ?_
        refine callVR (rest := []) C hA (wC_sh a cI cZ) X (kX4_isWhite l D a cI cZ _ y1) (cwV 1 C.2.2.2.2.1 (gV wl_X5_229 wt_yX4_isWhite ws_yX4_isWhite wi_X4 wk_yX4_isWhite) rfl rfl rfl hdX4_isWhite ⟨Nat.le_of_ble_eq_true rfl, Nat.le_of_ble_eq_true rfl⟩) (ci := 4) (q0 := 1) rfl rfl rfl hl.1 rfl (Nat.le_of_ble_eq_true rfl) dX5_grantWishes_29 ⟨Nat.le_refl 0, Nat.le_refl 0⟩ (fun H locs X => ?_)
        refine lv_if_eq (tgt := 67) hx hb dX5_grantWishes_32 (by decide) (fun c32 => ?_) (fun c32 => ?_)
        · refine lv_iinc (v := (y1 + 1)) (lv' := [(1, .int (y1 + 1)), (0, .ref (a 0))]) hx hb dX5_grantWishes_67 hl (k := 1) rfl rfl (by decide) rfl (fun ls hl => ?_)
          refine lv_goto (tgt := 2) hx hb dX5_grantWishes_70 (by decide) ?_
          exact ih2 (y1 + 1) σ2 (by first | with_reducible exact lp_b hf | (rw [(fr_shade _ _).1, tm_addWish, (fr_endWish _ _).1]; exact lp_b hf)) (lp_nn hnn hf) (Eq.trans (Eq.symm (Eq.trans (if_neg c21) (if_pos c32))) he) _ _ _ X (lv_sub hl [1, 0] rfl)
        · refine lv_aload_n hx hb dX5_grantWishes_35 rfl (lv_at hl 0 rfl) ?_
          refine cg_X5_X5_things C X dX5_grantWishes_36 ?_
          refine lv_iload_n hx hb dX5_grantWishes_39 rfl (lv_at hl 1 rfl) ?_
          refine callVR (rest := []) C hA (wC_sh a cI cZ) X (kX4_isFreed l D a cI cZ _ y1) (cwV 1 C.2.2.2.2.1 (gV wl_X5_141 wt_yX4_isFreed ws_yX4_isFreed wi_X4 wk_yX4_isFreed) rfl rfl rfl hdX4_isFreed ⟨Nat.le_of_ble_eq_true rfl, Nat.le_of_ble_eq_true rfl⟩) (ci := 4) (q0 := 1) rfl rfl rfl hl.1 rfl (Nat.le_of_ble_eq_true rfl) dX5_grantWishes_40 ⟨Nat.le_refl 0, Nat.le_refl 0⟩ (fun H locs X => ?_)
          refine lv_if_ne (tgt := 67) hx hb dX5_grantWishes_43 (by decide) (fun c43 => ?_) (fun c43 => ?_)
          · refine lv_iinc (v := (y1 + 1)) (lv' := [(1, .int (y1 + 1)), (0, .ref (a 0))]) hx hb dX5_grantWishes_67 hl (k := 1) rfl rfl (by decide) rfl (fun ls hl => ?_)
            refine lv_goto (tgt := 2) hx hb dX5_grantWishes_70 (by decide) ?_
            exact ih2 (y1 + 1) σ2 (by first | with_reducible exact lp_b hf | (rw [(fr_shade _ _).1, tm_addWish, (fr_endWish _ _).1]; exact lp_b hf)) (lp_nn hnn hf) (Eq.trans (Eq.symm (Eq.trans (if_neg c21) (Eq.trans (if_neg c32) (if_neg c43)))) he) _ _ _ X (lv_sub hl [1, 0] rfl)
          · refine lv_aload_n hx hb dX5_grantWishes_46 rfl (lv_at hl 0 rfl) ?_
            refine cg_X5_X5_things C X dX5_grantWishes_47 ?_
            refine lv_iload_n hx hb dX5_grantWishes_50 rfl (lv_at hl 1 rfl) ?_
            refine callVU (rest := []) C hA (wC_sh a cI cZ) X (kX4_endWish l D a cI cZ _ y1) (cwV 1 C.2.2.2.2.1 (gV wl_X5_235 wt_yX4_endWish ws_yX4_endWish wi_X4 wk_yX4_endWish) rfl rfl rfl hdX4_endWish ⟨Nat.le_of_ble_eq_true rfl, Nat.le_of_ble_eq_true rfl⟩) (ci := 4) (q0 := 1) rfl rfl rfl hl.1 rfl (Nat.le_of_ble_eq_true rfl) dX5_grantWishes_51 ⟨Nat.le_refl 0, Nat.le_refl 0⟩ (fun H locs X => ?_)
            refine lv_aload_n hx hb dX5_grantWishes_54 rfl (lv_at hl 0 rfl) ?_
            refine cg_X5_X5_holders C X dX5_grantWishes_55 ?_
            refine lv_iload_n hx hb dX5_grantWishes_58 rfl (lv_at hl 1 rfl) ?_
            refine callVU (rest := []) C hA (wC_sh a cI cZ) X (kX1_addWish l D a cI cZ _ y1) (cwV 1 C.2.2.2.2.1 (gV wl_X5_238 wt_yX1_addWish ws_yX1_addWish wi_X1 wk_yX1_addWish) rfl rfl rfl hdX1_addWish ⟨Nat.le_of_ble_eq_true rfl, Nat.le_of_ble_eq_true rfl⟩) (ci := 1) (q0 := 3) rfl rfl rfl hl.1 rfl (Nat.le_of_ble_eq_true rfl) dX5_grantWishes_59 ⟨Nat.le_refl 0, Nat.le_refl 0⟩ (fun H locs X => ?_)
            refine lv_aload_n hx hb dX5_grantWishes_62 rfl (lv_at hl 0 rfl) ?_
            refine lv_iload_n hx hb dX5_grantWishes_63 rfl (lv_at hl 1 rfl) ?_
            refine callVU (rest := []) C hA (wC_sh a cI cZ) X (kX5_shade l D a cI cZ _ y1) (cwV 1 C.2.2.2.2.1 (gV wl_X5_177 wt_yX5_shade ws_yX5_shade wi_X5 wk_yX5_shade) rfl rfl rfl hdX5_shade ⟨Nat.le_of_ble_eq_true rfl, Nat.le_of_ble_eq_true rfl⟩) (ci := 5) (q0 := 0) rfl rfl rfl hl.1 rfl (Nat.le_of_ble_eq_true rfl) dX5_grantWishes_64 ⟨Nat.le_refl 0, Nat.le_refl 0⟩ (fun H locs X => ?_)
            refine lv_iinc (v := (y1 + 1)) (lv' := [(1, .int (y1 + 1)), (0, .ref (a 0))]) hx hb dX5_grantWishes_67 hl (k := 1) rfl rfl (by decide) rfl (fun ls hl => ?_)
            refine lv_goto (tgt := 2) hx hb dX5_grantWishes_70 (by decide) ?_
            exact ih2 (y1 + 1) (fX5_shade (fX1_addWish (fX4_endWish σ2 y1) y1) y1) (by first | with_reducible exact lp_b hf | (rw [(fr_shade _ _).1, tm_addWish, (fr_endWish _ _).1]; exact lp_b hf)) (lp_nn hnn hf) (Eq.trans (Eq.symm (Eq.trans (if_neg c21) (Eq.trans (if_neg c32) (if_pos c43)))) he) _ _ _ X (lv_sub hl [1, 0] rfl)
  exact L2 (((Int32.toInt (c_tmade σ)) - (Int32.toInt (0 : Int32))).toNat) (0 : Int32) σ rfl (by decide) rfl _ _ _ X (lv_sub hl [1, 0] rfl)
def fX5_freeIfWhite (σ : CSt) (x1 : Int32) : CSt := (if (fX4_isWhite σ x1) = (0 : Int32) then σ else (if (fX4_isFreed σ x1) = (0 : Int32) then (fX4_free (fX0_assign σ (fX4_placeOf σ x1) (fX4_sizeOf σ x1) (-1 : Int32)) x1) else σ))
theorem hdX5_freeIfWhite : yX5_freeIfWhite.cls = RX5 ∧ yX5_freeIfWhite.cls ≠ "java/lang/invoke/MethodHandle" ∧ yX5_freeIfWhite.cls ≠ "java/lang/invoke/VarHandle" ∧ (parseMethodDescriptor yX5_freeIfWhite.desc).map (fun d => d.parameters.length) = some 1 := by decide +kernel
set_option maxHeartbeats 250000 in
set_option maxRecDepth 100000 in
theorem kX5_freeIfWhite (l : Launch) (D : va_G) (a : Nat → Nat) (cI cZ : ClassId) (σ : CSt) (x1 : Int32) : CU l D (tyIZ cI cZ) (wC a cI cZ) yX5_freeIfWhite cX5_freeIfWhite 2 (rmk 2 42) [.ref (a 0), .int x1] σ (fX5_freeIfWhite σ x1) := by
  refine CU.of pnX5 ⟨rfl, rfl⟩ (Nat.le_of_ble_eq_true rfl) (fun p e s m args below meth c A Q ls C X hA hl ret => ?_)
  have C : Cx p s m args meth c cX5_freeIfWhite 2 RX5 D (tyIZ cI cZ) := C
  have hx := C.1
  have hb := C.2.1
  have hl : lv_has ls 2 [(0, .ref (a 0)), (1, .int x1)] := hl
  refine lv_aload_n hx hb dX5_freeIfWhite_0 rfl (lv_at hl 0 rfl) ?_
  refine cg_X5_X5_things C X dX5_freeIfWhite_1 ?_
  refine lv_iload_n hx hb dX5_freeIfWhite_4 rfl (lv_at hl 1 rfl) ?_
  refine callVR (rest := []) C hA (wC_sh a cI cZ) X (kX4_isWhite l D a cI cZ _ x1) (cwV 1 C.2.2.2.2.1 (gV wl_X5_229 wt_yX4_isWhite ws_yX4_isWhite wi_X4 wk_yX4_isWhite) rfl rfl rfl hdX4_isWhite ⟨Nat.le_of_ble_eq_true rfl, Nat.le_of_ble_eq_true rfl⟩) (ci := 4) (q0 := 1) rfl rfl rfl hl.1 rfl (Nat.le_of_ble_eq_true rfl) dX5_freeIfWhite_5 ⟨Nat.le_refl 0, Nat.le_refl 0⟩ (fun H locs X => ?_)
  refine lv_if_eq (tgt := 54) hx hb dX5_freeIfWhite_8 (by decide) (fun c8 => ?_) (fun c8 => ?_)
  · exact ret dX5_freeIfWhite_54 (Eq.symm (if_pos c8)) X
  · refine lv_aload_n hx hb dX5_freeIfWhite_11 rfl (lv_at hl 0 rfl) ?_
    refine cg_X5_X5_things C X dX5_freeIfWhite_12 ?_
    refine lv_iload_n hx hb dX5_freeIfWhite_15 rfl (lv_at hl 1 rfl) ?_
    refine callVR (rest := []) C hA (wC_sh a cI cZ) X (kX4_isFreed l D a cI cZ _ x1) (cwV 1 C.2.2.2.2.1 (gV wl_X5_141 wt_yX4_isFreed ws_yX4_isFreed wi_X4 wk_yX4_isFreed) rfl rfl rfl hdX4_isFreed ⟨Nat.le_of_ble_eq_true rfl, Nat.le_of_ble_eq_true rfl⟩) (ci := 4) (q0 := 1) rfl rfl rfl hl.1 rfl (Nat.le_of_ble_eq_true rfl) dX5_freeIfWhite_16 ⟨Nat.le_refl 0, Nat.le_refl 0⟩ (fun H locs X => ?_)
    refine lv_if_ne (tgt := 54) hx hb dX5_freeIfWhite_19 (by decide) (fun c19 => ?_) (fun c19 => ?_)
    · exact ret dX5_freeIfWhite_54 (Eq.symm (Eq.trans (if_neg c8) (if_neg c19))) X
    · refine lv_aload_n hx hb dX5_freeIfWhite_22 rfl (lv_at hl 0 rfl) ?_
      refine cg_X5_X5_cells C X dX5_freeIfWhite_23 ?_
      refine lv_aload_n hx hb dX5_freeIfWhite_26 rfl (lv_at hl 0 rfl) ?_
      refine cg_X5_X5_things C X dX5_freeIfWhite_27 ?_
      refine lv_iload_n hx hb dX5_freeIfWhite_30 rfl (lv_at hl 1 rfl) ?_
      refine callVR (rest := [.ref (a 2)]) C hA (wC_sh a cI cZ) X (kX4_placeOf l D a cI cZ _ x1) (cwV 1 C.2.2.2.2.1 (gV wl_X5_241 wt_yX4_placeOf ws_yX4_placeOf wi_X4 wk_yX4_placeOf) rfl rfl rfl hdX4_placeOf ⟨Nat.le_of_ble_eq_true rfl, Nat.le_of_ble_eq_true rfl⟩) (ci := 4) (q0 := 1) rfl rfl rfl hl.1 rfl (Nat.le_of_ble_eq_true rfl) dX5_freeIfWhite_31 ⟨Nat.le_refl 0, Nat.le_refl 0⟩ (fun H locs X => ?_)
      refine lv_aload_n hx hb dX5_freeIfWhite_34 rfl (lv_at hl 0 rfl) ?_
      refine cg_X5_X5_things C X dX5_freeIfWhite_35 ?_
      refine lv_iload_n hx hb dX5_freeIfWhite_38 rfl (lv_at hl 1 rfl) ?_
      refine callVR (rest := [.int (fX4_placeOf σ x1), .ref (a 2)]) C hA (wC_sh a cI cZ) X (kX4_sizeOf l D a cI cZ _ x1) (cwV 1 C.2.2.2.2.1 (gV wl_X5_244 wt_yX4_sizeOf ws_yX4_sizeOf wi_X4 wk_yX4_sizeOf) rfl rfl rfl hdX4_sizeOf ⟨Nat.le_of_ble_eq_true rfl, Nat.le_of_ble_eq_true rfl⟩) (ci := 4) (q0 := 1) rfl rfl rfl hl.1 rfl (Nat.le_of_ble_eq_true rfl) dX5_freeIfWhite_39 ⟨Nat.le_refl 0, Nat.le_refl 0⟩ (fun H locs X => ?_)
      refine lv_iconst (v := (-1)) hx hb dX5_freeIfWhite_42 (by decide) ?_
      refine callVU (rest := []) C hA (wC_sh a cI cZ) X (kX0_assign l D a cI cZ _ (fX4_placeOf σ x1) (fX4_sizeOf σ x1) (-1 : Int32)) (cwV 3 C.2.2.2.2.1 (gV wl_X5_99 wt_yX0_assign ws_yX0_assign wi_X0 wk_yX0_assign) rfl rfl rfl hdX0_assign ⟨Nat.le_of_ble_eq_true rfl, Nat.le_of_ble_eq_true rfl⟩) (ci := 0) (q0 := 2) rfl rfl rfl hl.1 rfl (Nat.le_of_ble_eq_true rfl) dX5_freeIfWhite_43 ⟨Nat.le_refl 0, Nat.le_refl 0⟩ (fun H locs X => ?_)
      refine lv_aload_n hx hb dX5_freeIfWhite_46 rfl (lv_at hl 0 rfl) ?_
      refine cg_X5_X5_things C X dX5_freeIfWhite_47 ?_
      refine lv_iload_n hx hb dX5_freeIfWhite_50 rfl (lv_at hl 1 rfl) ?_
      refine callVU (rest := []) C hA (wC_sh a cI cZ) X (kX4_free l D a cI cZ _ x1) (cwV 1 C.2.2.2.2.1 (gV wl_X5_262 wt_yX4_free ws_yX4_free wi_X4 wk_yX4_free) rfl rfl rfl hdX4_free ⟨Nat.le_of_ble_eq_true rfl, Nat.le_of_ble_eq_true rfl⟩) (ci := 4) (q0 := 1) rfl rfl rfl hl.1 rfl (Nat.le_of_ble_eq_true rfl) dX5_freeIfWhite_51 ⟨Nat.le_refl 0, Nat.le_refl 0⟩ (fun H locs X => ?_)
      exact ret dX5_freeIfWhite_54 (Eq.symm (Eq.trans (if_neg c8) (if_pos c19))) X
theorem fr_freeIfWhite (σ : CSt) (x : Int32) : FR3 σ (fX5_freeIfWhite σ x) := by
  unfold fX5_freeIfWhite
  (repeat' split) <;> first | exact fr_rf σ | exact fr_tr (fr_assign _ _ _ _) (fr_free _ _)

def fX5_endRound (σ : CSt) : CSt := (c_rounds_s (c_under_s σ (0 : Int32)) ((c_rounds σ) + (1 : Int32)))
theorem hdX5_endRound : yX5_endRound.cls = RX5 ∧ yX5_endRound.cls ≠ "java/lang/invoke/MethodHandle" ∧ yX5_endRound.cls ≠ "java/lang/invoke/VarHandle" ∧ (parseMethodDescriptor yX5_endRound.desc).map (fun d => d.parameters.length) = some 0 := by decide +kernel
set_option maxHeartbeats 250000 in
set_option maxRecDepth 100000 in
theorem kX5_endRound (l : Launch) (D : va_G) (a : Nat → Nat) (cI cZ : ClassId) (σ : CSt) : CU l D (tyIZ cI cZ) (wC a cI cZ) yX5_endRound cX5_endRound 1 (rmk 0 0) [.ref (a 0)] σ (fX5_endRound σ) := by
  refine CU.of pnX5 ⟨rfl, rfl⟩ (Nat.le_of_ble_eq_true rfl) (fun p e s m args below meth c A Q ls C X hA hl ret => ?_)
  have C : Cx p s m args meth c cX5_endRound 1 RX5 D (tyIZ cI cZ) := C
  have hx := C.1
  have hb := C.2.1
  have hl : lv_has ls 1 [(0, .ref (a 0))] := hl
  refine lv_aload_n hx hb dX5_endRound_0 rfl (lv_at hl 0 rfl) ?_
  refine lv_iconst (v := (0)) hx hb dX5_endRound_1 (by decide) ?_
  refine cp_X5_X5_underWay C X dX5_endRound_2 (fun H locs X => ?_)
  refine lv_aload_n hx hb dX5_endRound_5 rfl (lv_at hl 0 rfl) ?_
  refine lv_dup hx hb dX5_endRound_6 rfl ?_
  refine cg_X5_X5_rounds (v := (c_rounds σ)) C X (cq_rounds_under _ _) dX5_endRound_7 ?_
  refine lv_iconst (v := (1)) hx hb dX5_endRound_10 (by decide) ?_
  refine lv_iadd hx hb dX5_endRound_11 ?_
  refine cp_X5_X5_rounds C X dX5_endRound_12 (fun H locs X => ?_)
  exact ret dX5_endRound_15 rfl X
def fX5_sweepStep (σ : CSt) : CSt := (if (fX4_nextNotFreed σ (c_nextS σ)) = (-1 : Int32) then (fX5_endRound σ) else (c_nextS_s (fX5_freeIfWhite σ (fX4_nextNotFreed σ (c_nextS σ))) ((fX4_nextNotFreed σ (c_nextS σ)) + (1 : Int32))))
theorem hdX5_sweepStep : yX5_sweepStep.cls = RX5 ∧ yX5_sweepStep.cls ≠ "java/lang/invoke/MethodHandle" ∧ yX5_sweepStep.cls ≠ "java/lang/invoke/VarHandle" ∧ (parseMethodDescriptor yX5_sweepStep.desc).map (fun d => d.parameters.length) = some 0 := by decide +kernel
set_option maxHeartbeats 250000 in
set_option maxRecDepth 100000 in
theorem kX5_sweepStep (l : Launch) (D : va_G) (a : Nat → Nat) (cI cZ : ClassId) (σ : CSt) : CU l D (tyIZ cI cZ) (wC a cI cZ) yX5_sweepStep cX5_sweepStep 2 (rmk 3 64) [.ref (a 0)] σ (fX5_sweepStep σ) := by
  refine CU.of pnX5 ⟨rfl, rfl⟩ (Nat.le_of_ble_eq_true rfl) (fun p e s m args below meth c A Q ls C X hA hl ret => ?_)
  have C : Cx p s m args meth c cX5_sweepStep 2 RX5 D (tyIZ cI cZ) := C
  have hx := C.1
  have hb := C.2.1
  have hl : lv_has ls 2 [(0, .ref (a 0))] := hl
  refine lv_aload_n hx hb dX5_sweepStep_0 rfl (lv_at hl 0 rfl) ?_
  refine cg_X5_X5_things C X dX5_sweepStep_1 ?_
  refine lv_aload_n hx hb dX5_sweepStep_4 rfl (lv_at hl 0 rfl) ?_
  refine cg_X5_X5_nextToSweep (v := (c_nextS σ)) C X rfl dX5_sweepStep_5 ?_
  refine callVR (rest := []) C hA (wC_sh a cI cZ) X (kX4_nextNotFreed l D a cI cZ _ (c_nextS σ)) (cwV 1 C.2.2.2.2.1 (gV wl_X5_259 wt_yX4_nextNotFreed ws_yX4_nextNotFreed wi_X4 wk_yX4_nextNotFreed) rfl rfl rfl hdX4_nextNotFreed ⟨Nat.le_of_ble_eq_true rfl, Nat.le_of_ble_eq_true rfl⟩) (ci := 4) (q0 := 1) rfl rfl rfl hl.1 rfl (Nat.le_of_ble_eq_true rfl) dX5_sweepStep_8 ⟨Nat.le_refl 0, Nat.le_refl 0⟩ (fun H locs X => ?_)
  refine lv_istore_n (lv' := [(1, .int (fX4_nextNotFreed σ (c_nextS σ))), (0, .ref (a 0))]) hx hb dX5_sweepStep_11 rfl hl (by decide) rfl (fun ls hl => ?_)
  refine lv_iload_n hx hb dX5_sweepStep_12 rfl (lv_at hl 0 rfl) ?_
  refine lv_iconst (v := (-1)) hx hb dX5_sweepStep_13 (by decide) ?_
  refine lv_icmp_ne (tgt := 22) hx hb dX5_sweepStep_14 (by decide) (fun c14 => ?_) (fun c14 => ?_)
  · refine lv_aload_n hx hb dX5_sweepStep_22 rfl (lv_at hl 1 rfl) ?_
    refine lv_iload_n hx hb dX5_sweepStep_23 rfl (lv_at hl 0 rfl) ?_
    refine callVU (rest := []) C hA (wC_sh a cI cZ) X (kX5_freeIfWhite l D a cI cZ _ (fX4_nextNotFreed σ (c_nextS σ))) (cwV 1 C.2.2.2.2.1 (gV wl_X5_253 wt_yX5_freeIfWhite ws_yX5_freeIfWhite wi_X5 wk_yX5_freeIfWhite) rfl rfl rfl hdX5_freeIfWhite ⟨Nat.le_of_ble_eq_true rfl, Nat.le_of_ble_eq_true rfl⟩) (ci := 5) (q0 := 0) rfl rfl rfl hl.1 rfl (Nat.le_of_ble_eq_true rfl) dX5_sweepStep_24 ⟨Nat.le_refl 0, Nat.le_refl 0⟩ (fun H locs X => ?_)
    refine lv_aload_n hx hb dX5_sweepStep_27 rfl (lv_at hl 1 rfl) ?_
    refine lv_iload_n hx hb dX5_sweepStep_28 rfl (lv_at hl 0 rfl) ?_
    refine lv_iconst (v := (1)) hx hb dX5_sweepStep_29 (by decide) ?_
    refine lv_iadd hx hb dX5_sweepStep_30 ?_
    refine cp_X5_X5_nextToSweep C X dX5_sweepStep_31 (fun H locs X => ?_)
    exact ret dX5_sweepStep_34 (Eq.symm (if_neg c14)) X
  · refine lv_aload_n hx hb dX5_sweepStep_17 rfl (lv_at hl 1 rfl) ?_
    refine callVU (rest := []) C hA (wC_sh a cI cZ) X (kX5_endRound l D a cI cZ _ ) (cwV 0 C.2.2.2.2.1 (gV wl_X5_256 wt_yX5_endRound ws_yX5_endRound wi_X5 wk_yX5_endRound) rfl rfl rfl hdX5_endRound ⟨Nat.le_of_ble_eq_true rfl, Nat.le_of_ble_eq_true rfl⟩) (ci := 5) (q0 := 0) rfl rfl rfl hl.1 rfl (Nat.le_of_ble_eq_true rfl) dX5_sweepStep_18 ⟨Nat.le_refl 0, Nat.le_refl 0⟩ (fun H locs X => ?_)
    exact ret dX5_sweepStep_21 (Eq.symm (if_pos c14)) X
def fX5_endMarking_L2 : Nat → Int32 → CSt → CSt
  | 0, y1, σ2 => σ2
  | f + 1, y1, σ2 => (if (fX4_isWhite σ2 (fX1_namedBy σ2 y1)) = (0 : Int32) then (fX5_endMarking_L2 f (y1 + 1) σ2) else (fX5_endMarking_L2 f (y1 + 1) (fX1_name σ2 y1 (-1 : Int32))))
def fX5_endMarking_L43 : Nat → Int32 → CSt → CSt
  | 0, y1, σ43 => σ43
  | f + 1, y1, σ43 => (if (fX4_isWhite σ43 (fX2_keyOf σ43 y1)) = (0 : Int32) then (fX5_endMarking_L43 f (y1 + 1) σ43) else (fX5_endMarking_L43 f (y1 + 1) (fX2_end σ43 y1)))
def fX5_endMarking_L106 : Nat → Int32 → CSt → CSt
  | 0, y1, σ106 => (fX5_endRound σ106)
  | f + 1, y1, σ106 => (fX5_endMarking_L106 f (y1 + 1) (fX5_freeIfWhite σ106 y1))
def fX5_endMarking (σ : CSt) : CSt := (if (c_manner (fX5_endMarking_L43 (((Int32.toInt (c_pmade (fX5_endMarking_L2 (((Int32.toInt (6 : Int32)) - (Int32.toInt (0 : Int32))).toNat) (0 : Int32) σ))) - (Int32.toInt (0 : Int32))).toNat) (0 : Int32) (fX5_endMarking_L2 (((Int32.toInt (6 : Int32)) - (Int32.toInt (0 : Int32))).toNat) (0 : Int32) σ))) = (3 : Int32) then (fX5_endMarking_L106 (((Int32.toInt (c_tmade (c_nextS_s (c_under_s (fX5_endMarking_L43 (((Int32.toInt (c_pmade (fX5_endMarking_L2 (((Int32.toInt (6 : Int32)) - (Int32.toInt (0 : Int32))).toNat) (0 : Int32) σ))) - (Int32.toInt (0 : Int32))).toNat) (0 : Int32) (fX5_endMarking_L2 (((Int32.toInt (6 : Int32)) - (Int32.toInt (0 : Int32))).toNat) (0 : Int32) σ)) (2 : Int32)) (0 : Int32)))) - (Int32.toInt (0 : Int32))).toNat) (0 : Int32) (c_nextS_s (c_under_s (fX5_endMarking_L43 (((Int32.toInt (c_pmade (fX5_endMarking_L2 (((Int32.toInt (6 : Int32)) - (Int32.toInt (0 : Int32))).toNat) (0 : Int32) σ))) - (Int32.toInt (0 : Int32))).toNat) (0 : Int32) (fX5_endMarking_L2 (((Int32.toInt (6 : Int32)) - (Int32.toInt (0 : Int32))).toNat) (0 : Int32) σ)) (2 : Int32)) (0 : Int32))) else (c_nextS_s (c_under_s (fX5_endMarking_L43 (((Int32.toInt (c_pmade (fX5_endMarking_L2 (((Int32.toInt (6 : Int32)) - (Int32.toInt (0 : Int32))).toNat) (0 : Int32) σ))) - (Int32.toInt (0 : Int32))).toNat) (0 : Int32) (fX5_endMarking_L2 (((Int32.toInt (6 : Int32)) - (Int32.toInt (0 : Int32))).toNat) (0 : Int32) σ)) (2 : Int32)) (0 : Int32)))
theorem hdX5_endMarking : yX5_endMarking.cls = RX5 ∧ yX5_endMarking.cls ≠ "java/lang/invoke/MethodHandle" ∧ yX5_endMarking.cls ≠ "java/lang/invoke/VarHandle" ∧ (parseMethodDescriptor yX5_endMarking.desc).map (fun d => d.parameters.length) = some 0 := by decide +kernel
set_option maxHeartbeats 250000 in
set_option maxRecDepth 100000 in
theorem kX5_endMarking (l : Launch) (D : va_G) (a : Nat → Nat) (cI cZ : ClassId) (σ : CSt) : CU l D (tyIZ cI cZ) (wC a cI cZ) yX5_endMarking cX5_endMarking 2 (rmk 3 63) [.ref (a 0)] σ (fX5_endMarking σ) := by
  refine CU.of pnX5 ⟨rfl, rfl⟩ (Nat.le_of_ble_eq_true rfl) (fun p e s m args below meth c A Q ls C X hA hl ret => ?_)
  have C : Cx p s m args meth c cX5_endMarking 2 RX5 D (tyIZ cI cZ) := C
  have hx := C.1
  have hb := C.2.1
  have hl : lv_has ls 2 [(0, .ref (a 0))] := hl
  refine lv_iconst (v := (0)) hx hb dX5_endMarking_0 (by decide) ?_
  refine lv_istore_n (lv' := [(1, .int (0 : Int32)), (0, .ref (a 0))]) hx hb dX5_endMarking_1 rfl hl (by decide) rfl (fun ls hl => ?_)
  have L2 : ∀ (res : CSt) (hx2 : ∀ (H : Heap) (locs : List Loc) (ls : Array Slot), Sx A D (wC a cI cZ res) s H locs → lv_has ls 2 [(0, .ref (a 0))] → W p l e (rmk 3 63) s m args below meth c H locs 0 0 Q (F0 m 41 ls [])) (f : Nat) (y1 : Int32) (σ2 : CSt) (hf : ((Int32.toInt (6 : Int32)) - (Int32.toInt y1)).toNat = f) (hnn : 0 ≤ Int32.toInt y1) (he : fX5_endMarking_L2 f y1 σ2 = res) (H : Heap) (locs : List Loc) (ls : Array Slot) (X : Sx A D (wC a cI cZ σ2) s H locs) (hl : lv_has ls 2 [(0, .ref (a 0)), (1, .int y1)]), W p l e (rmk 3 63) s m args below meth c H locs 0 0 Q (F0 m 2 ls []) := by
    intro res hx2 f
    induction f with
    | zero =>
      intro y1 σ2 hf hnn he H locs ls X hl
      refine lv_iload_n hx hb dX5_endMarking_2 rfl (lv_at hl 1 rfl) ?_
      refine lv_bipush (v := (6)) hx hb dX5_endMarking_3 (by decide) ?_
      refine lv_icmp_ge (tgt := 41) hx hb dX5_endMarking_5 (by decide) (fun c5 => ?_) (fun c5 => (lp_z hf c5).elim)
      exact hx2 _ _ _ (Eq.subst (motive := fun z => Sx A D (wC a cI cZ z) s _ _) he X) (Eq.subst (motive := fun z => lv_has _ 2 [(0, .ref (a 0))]) he (lv_sub hl [0] rfl))
    | succ f ih2 =>
      intro y1 σ2 hf hnn he H locs ls X hl
      refine lv_iload_n hx hb dX5_endMarking_2 rfl (lv_at hl 1 rfl) ?_
      refine lv_bipush (v := (6)) hx hb dX5_endMarking_3 (by decide) ?_
      refine lv_icmp_ge (tgt := 41) hx hb dX5_endMarking_5 (by decide) (fun c5 => (lp_s hf c5).elim) (fun c5 => ?_)
      refine lv_aload_n hx hb dX5_endMarking_8 rfl (lv_at hl 0 rfl) ?_
      refine cg_X5_X5_things C X dX5_endMarking_9 ?_
      refine lv_aload_n hx hb dX5_endMarking_12 rfl (lv_at hl 0 rfl) ?_
      refine cg_X5_X5_holders C X dX5_endMarking_13 ?_
      refine lv_iload_n hx hb dX5_endMarking_16 rfl (lv_at hl 1 rfl) ?_
      refine callVR (rest := [.ref (a 1)]) C hA (wC_sh a cI cZ) X (kX1_namedBy l D a cI cZ _ y1) (cwV 1 C.2.2.2.2.1 (gV wl_X5_157 wt_yX1_namedBy ws_yX1_namedBy wi_X1 wk_yX1_namedBy) rfl rfl rfl hdX1_namedBy ⟨Nat.le_of_ble_eq_true rfl, Nat.le_of_ble_eq_true rfl⟩) (ci := 1) (q0 := 3) rfl rfl rfl hl.1 rfl (Nat.le_of_ble_eq_true rfl) dX5_endMarking_17 ⟨Nat.le_refl 0, Nat.le_refl 0⟩ (fun H locs X => ?_)
      refine callVR (rest := []) C hA (wC_sh a cI cZ) X (kX4_isWhite l D a cI cZ _ (fX1_namedBy σ2 y1)) (cwV 1 C.2.2.2.2.1 (gV wl_X5_229 wt_yX4_isWhite ws_yX4_isWhite wi_X4 wk_yX4_isWhite) rfl rfl rfl hdX4_isWhite ⟨Nat.le_of_ble_eq_true rfl, Nat.le_of_ble_eq_true rfl⟩) (ci := 4) (q0 := 1) rfl rfl rfl hl.1 rfl (Nat.le_of_ble_eq_true rfl) dX5_endMarking_20 ⟨Nat.le_refl 0, Nat.le_refl 0⟩ (fun H locs X => ?_)
      refine lv_if_eq (tgt := 35) hx hb dX5_endMarking_23 (by decide) (fun c23 => ?_) (fun c23 => ?_)
      · refine lv_iinc (v := (y1 + 1)) (lv' := [(1, .int (y1 + 1)), (0, .ref (a 0))]) hx hb dX5_endMarking_35 hl (k := 1) rfl rfl (by decide) rfl (fun ls hl => ?_)
        refine lv_goto (tgt := 2) hx hb dX5_endMarking_38 (by decide) ?_
        exact ih2 (y1 + 1) σ2 (lp_b hf) (lp_nn hnn hf) (Eq.trans (Eq.symm (if_pos c23)) he) _ _ _ X (lv_sub hl [1, 0] rfl)
      · refine lv_aload_n hx hb dX5_endMarking_26 rfl (lv_at hl 0 rfl) ?_
        refine cg_X5_X5_holders C X dX5_endMarking_27 ?_
        refine lv_iload_n hx hb dX5_endMarking_30 rfl (lv_at hl 1 rfl) ?_
        refine lv_iconst (v := (-1)) hx hb dX5_endMarking_31 (by decide) ?_
        refine callVU (rest := []) C hA (wC_sh a cI cZ) X (kX1_name l D a cI cZ _ y1 (-1 : Int32)) (cwV 2 C.2.2.2.2.1 (gV wl_X5_154 wt_yX1_name ws_yX1_name wi_X1 wk_yX1_name) rfl rfl rfl hdX1_name ⟨Nat.le_of_ble_eq_true rfl, Nat.le_of_ble_eq_true rfl⟩) (ci := 1) (q0 := 3) rfl rfl rfl hl.1 rfl (Nat.le_of_ble_eq_true rfl) dX5_endMarking_32 ⟨Nat.le_refl 0, Nat.le_refl 0⟩ (fun H locs X => ?_)
        refine lv_iinc (v := (y1 + 1)) (lv' := [(1, .int (y1 + 1)), (0, .ref (a 0))]) hx hb dX5_endMarking_35 hl (k := 1) rfl rfl (by decide) rfl (fun ls hl => ?_)
        refine lv_goto (tgt := 2) hx hb dX5_endMarking_38 (by decide) ?_
        exact ih2 (y1 + 1) (fX1_name σ2 y1 (-1 : Int32)) (lp_b hf) (lp_nn hnn hf) (Eq.trans (Eq.symm (if_neg c23)) he) _ _ _ X (lv_sub hl [1, 0] rfl)
  refine L2 (fX5_endMarking_L2 (((Int32.toInt (6 : Int32)) - (Int32.toInt (0 : Int32))).toNat) (0 : Int32) σ) (fun H locs ls X hl => ?_) (((Int32.toInt (6 : Int32)) - (Int32.toInt (0 : Int32))).toNat) (0 : Int32) σ rfl (by decide) rfl _ _ _ X (lv_sub hl [1, 0] rfl)
  refine lv_iconst (v := (0)) hx hb dX5_endMarking_41 (by decide) ?_
  refine lv_istore_n (lv' := [(1, .int (0 : Int32)), (0, .ref (a 0))]) hx hb dX5_endMarking_42 rfl hl (by decide) rfl (fun ls hl => ?_)
  have L43 : ∀ (res : CSt) (hx43 : ∀ (H : Heap) (locs : List Loc) (ls : Array Slot), Sx A D (wC a cI cZ res) s H locs → lv_has ls 2 [(0, .ref (a 0))] → W p l e (rmk 3 63) s m args below meth c H locs 0 0 Q (F0 m 86 ls [])) (f : Nat) (y1 : Int32) (σ43 : CSt) (hf : ((Int32.toInt (c_pmade σ43)) - (Int32.toInt y1)).toNat = f) (hnn : 0 ≤ Int32.toInt y1) (he : fX5_endMarking_L43 f y1 σ43 = res) (H : Heap) (locs : List Loc) (ls : Array Slot) (X : Sx A D (wC a cI cZ σ43) s H locs) (hl : lv_has ls 2 [(0, .ref (a 0)), (1, .int y1)]), W p l e (rmk 3 63) s m args below meth c H locs 0 0 Q (F0 m 43 ls []) := by
    intro res hx43 f
    induction f with
    | zero =>
      intro y1 σ43 hf hnn he H locs ls X hl
      refine lv_iload_n hx hb dX5_endMarking_43 rfl (lv_at hl 1 rfl) ?_
      refine lv_aload_n hx hb dX5_endMarking_44 rfl (lv_at hl 0 rfl) ?_
      refine cg_X5_X5_pairs C X dX5_endMarking_45 ?_
      refine cg_X5_X2_made (v := (c_pmade σ43)) C X rfl dX5_endMarking_48 ?_
      refine lv_icmp_ge (tgt := 86) hx hb dX5_endMarking_51 (by decide) (fun c51 => ?_) (fun c51 => (lp_z hf c51).elim)
      exact hx43 _ _ _ (Eq.subst (motive := fun z => Sx A D (wC a cI cZ z) s _ _) he X) (Eq.subst (motive := fun z => lv_has _ 2 [(0, .ref (a 0))]) he (lv_sub hl [0] rfl))
    | succ f ih43 =>
      intro y1 σ43 hf hnn he H locs ls X hl
      refine lv_iload_n hx hb dX5_endMarking_43 rfl (lv_at hl 1 rfl) ?_
      refine lv_aload_n hx hb dX5_endMarking_44 rfl (lv_at hl 0 rfl) ?_
      refine cg_X5_X5_pairs C X dX5_endMarking_45 ?_
      refine cg_X5_X2_made (v := (c_pmade σ43)) C X rfl dX5_endMarking_48 ?_
      refine lv_icmp_ge (tgt := 86) hx hb dX5_endMarking_51 (by decide) (fun c51 => (lp_s hf c51).elim) (fun c51 => ?_)
      refine lv_aload_n hx hb dX5_endMarking_54 rfl (lv_at hl 0 rfl) ?_
      refine cg_X5_X5_things C X dX5_endMarking_55 ?_
      refine lv_aload_n hx hb dX5_endMarking_58 rfl (lv_at hl 0 rfl) ?_
      refine cg_X5_X5_pairs C X dX5_endMarking_59 ?_
      refine lv_iload_n hx hb dX5_endMarking_62 rfl (lv_at hl 1 rfl) ?_
      refine callVR (rest := [.ref (a 1)]) C hA (wC_sh a cI cZ) X (kX2_keyOf l D a cI cZ _ y1) (cwV 1 C.2.2.2.2.1 (gV wl_X5_226 wt_yX2_keyOf ws_yX2_keyOf wi_X2 wk_yX2_keyOf) rfl rfl rfl hdX2_keyOf ⟨Nat.le_of_ble_eq_true rfl, Nat.le_of_ble_eq_true rfl⟩) (ci := 2) (q0 := 4) rfl rfl rfl hl.1 rfl (Nat.le_of_ble_eq_true rfl) dX5_endMarking_63 ⟨Nat.le_refl 0, Nat.le_refl 0⟩ (fun H locs X => ?_)
      refine callVR (rest := []) C hA (wC_sh a cI cZ) X (kX4_isWhite l D a cI cZ _ (fX2_keyOf σ43 y1)) (cwV 1 C.2.2.2.2.1 (gV wl_X5_229 wt_yX4_isWhite ws_yX4_isWhite wi_X4 wk_yX4_isWhite) rfl rfl rfl hdX4_isWhite ⟨Nat.le_of_ble_eq_true rfl, Nat.le_of_ble_eq_true rfl⟩) (ci := 4) (q0 := 1) rfl rfl rfl hl.1 rfl (Nat.le_of_ble_eq_true rfl) dX5_endMarking_66 ⟨Nat.le_refl 0, Nat.le_refl 0⟩ (fun H locs X => ?_)
      refine lv_if_eq (tgt := 80) hx hb dX5_endMarking_69 (by decide) (fun c69 => ?_) (fun c69 => ?_)
      · refine lv_iinc (v := (y1 + 1)) (lv' := [(1, .int (y1 + 1)), (0, .ref (a 0))]) hx hb dX5_endMarking_80 hl (k := 1) rfl rfl (by decide) rfl (fun ls hl => ?_)
        refine lv_goto (tgt := 43) hx hb dX5_endMarking_83 (by decide) ?_
        exact ih43 (y1 + 1) σ43 (by first | with_reducible exact lp_b hf | (rw [pm_end]; exact lp_b hf)) (lp_nn hnn hf) (Eq.trans (Eq.symm (if_pos c69)) he) _ _ _ X (lv_sub hl [1, 0] rfl)
      · refine lv_aload_n hx hb dX5_endMarking_72 rfl (lv_at hl 0 rfl) ?_
        refine cg_X5_X5_pairs C X dX5_endMarking_73 ?_
        refine lv_iload_n hx hb dX5_endMarking_76 rfl (lv_at hl 1 rfl) ?_
        refine callVU (rest := []) C hA (wC_sh a cI cZ) X (kX2_end l D a cI cZ _ y1) (cwV 1 C.2.2.2.2.1 (gV wl_X5_250 wt_yX2_end ws_yX2_end wi_X2 wk_yX2_end) rfl rfl rfl hdX2_end ⟨Nat.le_of_ble_eq_true rfl, Nat.le_of_ble_eq_true rfl⟩) (ci := 2) (q0 := 4) rfl rfl rfl hl.1 rfl (Nat.le_of_ble_eq_true rfl) dX5_endMarking_77 ⟨Nat.le_refl 0, Nat.le_refl 0⟩ (fun H locs X => ?_)
        refine lv_iinc (v := (y1 + 1)) (lv' := [(1, .int (y1 + 1)), (0, .ref (a 0))]) hx hb dX5_endMarking_80 hl (k := 1) rfl rfl (by decide) rfl (fun ls hl => ?_)
        refine lv_goto (tgt := 43) hx hb dX5_endMarking_83 (by decide) ?_
        exact ih43 (y1 + 1) (fX2_end σ43 y1) (by first | with_reducible exact lp_b hf | (rw [pm_end]; exact lp_b hf)) (lp_nn hnn hf) (Eq.trans (Eq.symm (if_neg c69)) he) _ _ _ X (lv_sub hl [1, 0] rfl)
  refine L43 (fX5_endMarking_L43 (((Int32.toInt (c_pmade (fX5_endMarking_L2 (((Int32.toInt (6 : Int32)) - (Int32.toInt (0 : Int32))).toNat) (0 : Int32) σ))) - (Int32.toInt (0 : Int32))).toNat) (0 : Int32) (fX5_endMarking_L2 (((Int32.toInt (6 : Int32)) - (Int32.toInt (0 : Int32))).toNat) (0 : Int32) σ)) (fun H locs ls X hl => ?_) (((Int32.toInt (c_pmade (fX5_endMarking_L2 (((Int32.toInt (6 : Int32)) - (Int32.toInt (0 : Int32))).toNat) (0 : Int32) σ))) - (Int32.toInt (0 : Int32))).toNat) (0 : Int32) (fX5_endMarking_L2 (((Int32.toInt (6 : Int32)) - (Int32.toInt (0 : Int32))).toNat) (0 : Int32) σ) rfl (by decide) rfl _ _ _ X (lv_sub hl [1, 0] rfl)
  refine lv_aload_n hx hb dX5_endMarking_86 rfl (lv_at hl 0 rfl) ?_
  refine lv_iconst (v := (2)) hx hb dX5_endMarking_87 (by decide) ?_
  refine cp_X5_X5_underWay C X dX5_endMarking_88 (fun H locs X => ?_)
  refine lv_aload_n hx hb dX5_endMarking_91 rfl (lv_at hl 0 rfl) ?_
  refine lv_iconst (v := (0)) hx hb dX5_endMarking_92 (by decide) ?_
  refine cp_X5_X5_nextToSweep C X dX5_endMarking_93 (fun H locs X => ?_)
  refine lv_aload_n hx hb dX5_endMarking_96 rfl (lv_at hl 0 rfl) ?_
  refine cg_X5_X5_manner (v := (c_manner (fX5_endMarking_L43 (((Int32.toInt (c_pmade (fX5_endMarking_L2 (((Int32.toInt (6 : Int32)) - (Int32.toInt (0 : Int32))).toNat) (0 : Int32) σ))) - (Int32.toInt (0 : Int32))).toNat) (0 : Int32) (fX5_endMarking_L2 (((Int32.toInt (6 : Int32)) - (Int32.toInt (0 : Int32))).toNat) (0 : Int32) σ)))) C X (Eq.trans (cq_manner_nextS _ _) (cq_manner_under _ _)) dX5_endMarking_97 ?_
  refine lv_iconst (v := (3)) hx hb dX5_endMarking_100 (by decide) ?_
  refine lv_icmp_ne (tgt := 132) hx hb dX5_endMarking_101 (by decide) (fun c101 => ?_) (fun c101 => ?_)
  · exact ret dX5_endMarking_132 (Eq.symm (if_neg c101)) X
  · refine lv_iconst (v := (0)) hx hb dX5_endMarking_104 (by decide) ?_
    refine lv_istore_n (lv' := [(1, .int (0 : Int32)), (0, .ref (a 0))]) hx hb dX5_endMarking_105 rfl hl (by decide) rfl (fun ls hl => ?_)
    have L106 : ∀ (f : Nat) (y1 : Int32) (σ106 : CSt) (hf : ((Int32.toInt (c_tmade σ106)) - (Int32.toInt y1)).toNat = f) (hnn : 0 ≤ Int32.toInt y1) (he : fX5_endMarking_L106 f y1 σ106 = (fX5_endMarking σ)) (H : Heap) (locs : List Loc) (ls : Array Slot) (X : Sx A D (wC a cI cZ σ106) s H locs) (hl : lv_has ls 2 [(0, .ref (a 0)), (1, .int y1)]), W p l e (rmk 3 63) s m args below meth c H locs 0 0 Q (F0 m 106 ls []) := by
      intro f
      induction f with
      | zero =>
        intro y1 σ106 hf hnn he H locs ls X hl
        refine lv_iload_n hx hb dX5_endMarking_106 rfl (lv_at hl 1 rfl) ?_
        refine lv_aload_n hx hb dX5_endMarking_107 rfl (lv_at hl 0 rfl) ?_
        refine cg_X5_X5_things C X dX5_endMarking_108 ?_
        refine cg_X5_X4_made (v := (c_tmade σ106)) C X rfl dX5_endMarking_111 ?_
        refine lv_icmp_ge (tgt := 128) hx hb dX5_endMarking_114 (by decide) (fun c114 => ?_) (fun c114 => (lp_z hf c114).elim)
        refine lv_aload_n hx hb dX5_endMarking_128 rfl (lv_at hl 0 rfl) ?_
        refine callVU (rest := []) C hA (wC_sh a cI cZ) X (kX5_endRound l D a cI cZ _ ) (cwV 0 C.2.2.2.2.1 (gV wl_X5_256 wt_yX5_endRound ws_yX5_endRound wi_X5 wk_yX5_endRound) rfl rfl rfl hdX5_endRound ⟨Nat.le_of_ble_eq_true rfl, Nat.le_of_ble_eq_true rfl⟩) (ci := 5) (q0 := 0) rfl rfl rfl hl.1 rfl (Nat.le_of_ble_eq_true rfl) dX5_endMarking_129 ⟨Nat.le_refl 0, Nat.le_refl 0⟩ (fun H locs X => ?_)
        exact ret dX5_endMarking_132 he X
      | succ f ih106 =>
        intro y1 σ106 hf hnn he H locs ls X hl
        refine lv_iload_n hx hb dX5_endMarking_106 rfl (lv_at hl 1 rfl) ?_
        refine lv_aload_n hx hb dX5_endMarking_107 rfl (lv_at hl 0 rfl) ?_
        refine cg_X5_X5_things C X dX5_endMarking_108 ?_
        refine cg_X5_X4_made (v := (c_tmade σ106)) C X rfl dX5_endMarking_111 ?_
        refine lv_icmp_ge (tgt := 128) hx hb dX5_endMarking_114 (by decide) (fun c114 => (lp_s hf c114).elim) (fun c114 => ?_)
        refine lv_aload_n hx hb dX5_endMarking_117 rfl (lv_at hl 0 rfl) ?_
        refine lv_iload_n hx hb dX5_endMarking_118 rfl (lv_at hl 1 rfl) ?_
        refine callVU (rest := []) C hA (wC_sh a cI cZ) X (kX5_freeIfWhite l D a cI cZ _ y1) (cwV 1 C.2.2.2.2.1 (gV wl_X5_253 wt_yX5_freeIfWhite ws_yX5_freeIfWhite wi_X5 wk_yX5_freeIfWhite) rfl rfl rfl hdX5_freeIfWhite ⟨Nat.le_of_ble_eq_true rfl, Nat.le_of_ble_eq_true rfl⟩) (ci := 5) (q0 := 0) rfl rfl rfl hl.1 rfl (Nat.le_of_ble_eq_true rfl) dX5_endMarking_119 ⟨Nat.le_refl 0, Nat.le_refl 0⟩ (fun H locs X => ?_)
        refine lv_iinc (v := (y1 + 1)) (lv' := [(1, .int (y1 + 1)), (0, .ref (a 0))]) hx hb dX5_endMarking_122 hl (k := 1) rfl rfl (by decide) rfl (fun ls hl => ?_)
        refine lv_goto (tgt := 106) hx hb dX5_endMarking_125 (by decide) ?_
        exact ih106 (y1 + 1) (fX5_freeIfWhite σ106 y1) (by first | with_reducible exact lp_b hf | (rw [(fr_freeIfWhite _ _).1]; exact lp_b hf)) (lp_nn hnn hf) he _ _ _ X (lv_sub hl [1, 0] rfl)
    exact L106 (((Int32.toInt (c_tmade (c_nextS_s (c_under_s (fX5_endMarking_L43 (((Int32.toInt (c_pmade (fX5_endMarking_L2 (((Int32.toInt (6 : Int32)) - (Int32.toInt (0 : Int32))).toNat) (0 : Int32) σ))) - (Int32.toInt (0 : Int32))).toNat) (0 : Int32) (fX5_endMarking_L2 (((Int32.toInt (6 : Int32)) - (Int32.toInt (0 : Int32))).toNat) (0 : Int32) σ)) (2 : Int32)) (0 : Int32)))) - (Int32.toInt (0 : Int32))).toNat) (0 : Int32) (c_nextS_s (c_under_s (fX5_endMarking_L43 (((Int32.toInt (c_pmade (fX5_endMarking_L2 (((Int32.toInt (6 : Int32)) - (Int32.toInt (0 : Int32))).toNat) (0 : Int32) σ))) - (Int32.toInt (0 : Int32))).toNat) (0 : Int32) (fX5_endMarking_L2 (((Int32.toInt (6 : Int32)) - (Int32.toInt (0 : Int32))).toNat) (0 : Int32) σ)) (2 : Int32)) (0 : Int32)) rfl (by decide) (Eq.symm (if_pos c101)) _ _ _ X (lv_sub hl [1, 0] rfl)
def fX5_markStep_J69 (z2 : Int32) (σ69 : CSt) : CSt := (if (c_shaded σ69) = z2 then (fX5_endMarking σ69) else σ69)
def fX5_markStep_J57 (z2 : Int32) (σ57 : CSt) : CSt := (if (c_shaded σ57) = z2 then (fX5_markStep_J69 z2 (fX5_grantWishes σ57)) else (fX5_markStep_J69 z2 σ57))
def fX5_markStep_J45 (z2 : Int32) (σ45 : CSt) : CSt := (if (c_shaded σ45) = z2 then (fX5_markStep_J57 z2 (fX5_shadeValues σ45)) else (fX5_markStep_J57 z2 σ45))
def fX5_markStep (σ : CSt) : CSt := (if (fX4_leastGray σ) = (-1 : Int32) then (if (c_manner σ) = (2 : Int32) then (fX5_markStep_J45 (c_shaded σ) (fX5_shadeHeld σ)) else (fX5_markStep_J45 (c_shaded σ) σ)) else (fX4_paint (fX5_shadeFieldsOf σ (fX4_leastGray σ)) (fX4_leastGray σ) (2 : Int32)))
theorem hdX5_markStep : yX5_markStep.cls = RX5 ∧ yX5_markStep.cls ≠ "java/lang/invoke/MethodHandle" ∧ yX5_markStep.cls ≠ "java/lang/invoke/VarHandle" ∧ (parseMethodDescriptor yX5_markStep.desc).map (fun d => d.parameters.length) = some 0 := by decide +kernel
set_option maxHeartbeats 250000 in
set_option maxRecDepth 100000 in
theorem kX5_markStep (l : Launch) (D : va_G) (a : Nat → Nat) (cI cZ : ClassId) (σ : CSt) : CU l D (tyIZ cI cZ) (wC a cI cZ) yX5_markStep cX5_markStep 3 (rmk 4 89) [.ref (a 0)] σ (fX5_markStep σ) := by
  refine CU.of pnX5 ⟨rfl, rfl⟩ (Nat.le_of_ble_eq_true rfl) (fun p e s m args below meth c A Q ls C X hA hl ret => ?_)
  have C : Cx p s m args meth c cX5_markStep 3 RX5 D (tyIZ cI cZ) := C
  have hx := C.1
  have hb := C.2.1
  have hl : lv_has ls 3 [(0, .ref (a 0))] := hl
  refine lv_aload_n hx hb dX5_markStep_0 rfl (lv_at hl 0 rfl) ?_
  refine cg_X5_X5_things C X dX5_markStep_1 ?_
  refine callVR (rest := []) C hA (wC_sh a cI cZ) X (kX4_leastGray l D a cI cZ _ ) (cwV 0 C.2.2.2.2.1 (gV wl_X5_208 wt_yX4_leastGray ws_yX4_leastGray wi_X4 wk_yX4_leastGray) rfl rfl rfl hdX4_leastGray ⟨Nat.le_of_ble_eq_true rfl, Nat.le_of_ble_eq_true rfl⟩) (ci := 4) (q0 := 1) rfl rfl rfl hl.1 rfl (Nat.le_of_ble_eq_true rfl) dX5_markStep_4 ⟨Nat.le_refl 0, Nat.le_refl 0⟩ (fun H locs X => ?_)
  refine lv_istore_n (lv' := [(1, .int (fX4_leastGray σ)), (0, .ref (a 0))]) hx hb dX5_markStep_7 rfl hl (by decide) rfl (fun ls hl => ?_)
  refine lv_iload_n hx hb dX5_markStep_8 rfl (lv_at hl 0 rfl) ?_
  refine lv_iconst (v := (-1)) hx hb dX5_markStep_9 (by decide) ?_
  refine lv_icmp_eq (tgt := 28) hx hb dX5_markStep_10 (by decide) (fun c10 => ?_) (fun c10 => ?_)
  · refine lv_aload_n hx hb dX5_markStep_28 rfl (lv_at hl 1 rfl) ?_
    refine cg_X5_X5_shaded (v := (c_shaded σ)) C X rfl dX5_markStep_29 ?_
    refine lv_istore_n (lv' := [(2, .int (c_shaded σ)), (1, .int (fX4_leastGray σ)), (0, .ref (a 0))]) hx hb dX5_markStep_32 rfl hl (by decide) rfl (fun ls hl => ?_)
    have J45 : ∀ (σ45 : CSt) (he : fX5_markStep_J45 (c_shaded σ) σ45 = (fX5_markStep σ)) (H : Heap) (locs : List Loc) (ls : Array Slot) (X : Sx A D (wC a cI cZ σ45) s H locs) (hl : lv_has ls 3 [(0, .ref (a 0)), (2, .int (c_shaded σ))]), W p l e (rmk 4 89) s m args below meth c H locs 0 0 Q (F0 m 45 ls []) := by
      intro σ45 he H locs ls X hl
      have J57 : ∀ (σ57 : CSt) (he : fX5_markStep_J57 (c_shaded σ) σ57 = (fX5_markStep σ)) (H : Heap) (locs : List Loc) (ls : Array Slot) (X : Sx A D (wC a cI cZ σ57) s H locs) (hl : lv_has ls 3 [(0, .ref (a 0)), (2, .int (c_shaded σ))]), W p l e (rmk 4 89) s m args below meth c H locs 0 0 Q (F0 m 57 ls []) := by
        intro σ57 he H locs ls X hl
        have J69 : ∀ (σ69 : CSt) (he : fX5_markStep_J69 (c_shaded σ) σ69 = (fX5_markStep σ)) (H : Heap) (locs : List Loc) (ls : Array Slot) (X : Sx A D (wC a cI cZ σ69) s H locs) (hl : lv_has ls 3 [(0, .ref (a 0)), (2, .int (c_shaded σ))]), W p l e (rmk 4 89) s m args below meth c H locs 0 0 Q (F0 m 69 ls []) := by
          intro σ69 he H locs ls X hl
          refine lv_aload_n hx hb dX5_markStep_69 rfl (lv_at hl 0 rfl) ?_
          refine cg_X5_X5_shaded (v := (c_shaded σ69)) C X rfl dX5_markStep_70 ?_
          refine lv_iload_n hx hb dX5_markStep_73 rfl (lv_at hl 1 rfl) ?_
          refine lv_icmp_ne (tgt := 81) hx hb dX5_markStep_74 (by decide) (fun c74 => ?_) (fun c74 => ?_)
          · exact ret dX5_markStep_81 (Eq.trans (Eq.symm (if_neg c74)) he) X
          · refine lv_aload_n hx hb dX5_markStep_77 rfl (lv_at hl 0 rfl) ?_
            refine callVU (rest := []) C hA (wC_sh a cI cZ) X (kX5_endMarking l D a cI cZ _ ) (cwV 0 C.2.2.2.2.1 (gV wl_X5_223 wt_yX5_endMarking ws_yX5_endMarking wi_X5 wk_yX5_endMarking) rfl rfl rfl hdX5_endMarking ⟨Nat.le_of_ble_eq_true rfl, Nat.le_of_ble_eq_true rfl⟩) (ci := 5) (q0 := 0) rfl rfl rfl hl.1 rfl (Nat.le_of_ble_eq_true rfl) dX5_markStep_78 ⟨Nat.le_refl 0, Nat.le_refl 0⟩ (fun H locs X => ?_)
            exact ret dX5_markStep_81 (Eq.trans (Eq.symm (if_pos c74)) he) X
        refine lv_aload_n hx hb dX5_markStep_57 rfl (lv_at hl 0 rfl) ?_
        refine cg_X5_X5_shaded (v := (c_shaded σ57)) C X rfl dX5_markStep_58 ?_
        refine lv_iload_n hx hb dX5_markStep_61 rfl (lv_at hl 1 rfl) ?_
        refine lv_icmp_ne (tgt := 69) hx hb dX5_markStep_62 (by decide) (fun c62 => ?_) (fun c62 => ?_)
        · exact J69  σ57 (Eq.trans (Eq.symm (if_neg c62)) he) _ _ _ X (lv_sub hl [0, 1] rfl)
        · refine lv_aload_n hx hb dX5_markStep_65 rfl (lv_at hl 0 rfl) ?_
          refine callVU (rest := []) C hA (wC_sh a cI cZ) X (kX5_grantWishes l D a cI cZ _ ) (cwV 0 C.2.2.2.2.1 (gV wl_X5_220 wt_yX5_grantWishes ws_yX5_grantWishes wi_X5 wk_yX5_grantWishes) rfl rfl rfl hdX5_grantWishes ⟨Nat.le_of_ble_eq_true rfl, Nat.le_of_ble_eq_true rfl⟩) (ci := 5) (q0 := 0) rfl rfl rfl hl.1 rfl (Nat.le_of_ble_eq_true rfl) dX5_markStep_66 ⟨Nat.le_refl 0, Nat.le_refl 0⟩ (fun H locs X => ?_)
          exact J69  (fX5_grantWishes σ57) (Eq.trans (Eq.symm (if_pos c62)) he) _ _ _ X (lv_sub hl [0, 1] rfl)
      refine lv_aload_n hx hb dX5_markStep_45 rfl (lv_at hl 0 rfl) ?_
      refine cg_X5_X5_shaded (v := (c_shaded σ45)) C X rfl dX5_markStep_46 ?_
      refine lv_iload_n hx hb dX5_markStep_49 rfl (lv_at hl 1 rfl) ?_
      refine lv_icmp_ne (tgt := 57) hx hb dX5_markStep_50 (by decide) (fun c50 => ?_) (fun c50 => ?_)
      · exact J57  σ45 (Eq.trans (Eq.symm (if_neg c50)) he) _ _ _ X (lv_sub hl [0, 1] rfl)
      · refine lv_aload_n hx hb dX5_markStep_53 rfl (lv_at hl 0 rfl) ?_
        refine callVU (rest := []) C hA (wC_sh a cI cZ) X (kX5_shadeValues l D a cI cZ _ ) (cwV 0 C.2.2.2.2.1 (gV wl_X5_217 wt_yX5_shadeValues ws_yX5_shadeValues wi_X5 wk_yX5_shadeValues) rfl rfl rfl hdX5_shadeValues ⟨Nat.le_of_ble_eq_true rfl, Nat.le_of_ble_eq_true rfl⟩) (ci := 5) (q0 := 0) rfl rfl rfl hl.1 rfl (Nat.le_of_ble_eq_true rfl) dX5_markStep_54 ⟨Nat.le_refl 0, Nat.le_refl 0⟩ (fun H locs X => ?_)
        exact J57  (fX5_shadeValues σ45) (Eq.trans (Eq.symm (if_pos c50)) he) _ _ _ X (lv_sub hl [0, 1] rfl)
    refine lv_aload_n hx hb dX5_markStep_33 rfl (lv_at hl 2 rfl) ?_
    refine cg_X5_X5_manner (v := (c_manner σ)) C X rfl dX5_markStep_34 ?_
    refine lv_iconst (v := (2)) hx hb dX5_markStep_37 (by decide) ?_
    refine lv_icmp_ne (tgt := 45) hx hb dX5_markStep_38 (by decide) (fun c38 => ?_) (fun c38 => ?_)
    · exact J45  σ (Eq.symm (Eq.trans (if_pos c10) (if_neg c38))) _ _ _ X (lv_sub hl [2, 0] rfl)
    · refine lv_aload_n hx hb dX5_markStep_41 rfl (lv_at hl 2 rfl) ?_
      refine callVU (rest := []) C hA (wC_sh a cI cZ) X (kX5_shadeHeld l D a cI cZ _ ) (cwV 0 C.2.2.2.2.1 (gV wl_X5_199 wt_yX5_shadeHeld ws_yX5_shadeHeld wi_X5 wk_yX5_shadeHeld) rfl rfl rfl hdX5_shadeHeld ⟨Nat.le_of_ble_eq_true rfl, Nat.le_of_ble_eq_true rfl⟩) (ci := 5) (q0 := 0) rfl rfl rfl hl.1 rfl (Nat.le_of_ble_eq_true rfl) dX5_markStep_42 ⟨Nat.le_refl 0, Nat.le_refl 0⟩ (fun H locs X => ?_)
      exact J45  (fX5_shadeHeld σ) (Eq.symm (Eq.trans (if_pos c10) (if_pos c38))) _ _ _ X (lv_sub hl [2, 0] rfl)
  · refine lv_aload_n hx hb dX5_markStep_13 rfl (lv_at hl 1 rfl) ?_
    refine lv_iload_n hx hb dX5_markStep_14 rfl (lv_at hl 0 rfl) ?_
    refine callVU (rest := []) C hA (wC_sh a cI cZ) X (kX5_shadeFieldsOf l D a cI cZ _ (fX4_leastGray σ)) (cwV 1 C.2.2.2.2.1 (gV wl_X5_211 wt_yX5_shadeFieldsOf ws_yX5_shadeFieldsOf wi_X5 wk_yX5_shadeFieldsOf) rfl rfl rfl hdX5_shadeFieldsOf ⟨Nat.le_of_ble_eq_true rfl, Nat.le_of_ble_eq_true rfl⟩) (ci := 5) (q0 := 0) rfl rfl rfl hl.1 rfl (Nat.le_of_ble_eq_true rfl) dX5_markStep_15 ⟨Nat.le_refl 0, Nat.le_refl 0⟩ (fun H locs X => ?_)
    refine lv_aload_n hx hb dX5_markStep_18 rfl (lv_at hl 1 rfl) ?_
    refine cg_X5_X5_things C X dX5_markStep_19 ?_
    refine lv_iload_n hx hb dX5_markStep_22 rfl (lv_at hl 0 rfl) ?_
    refine lv_iconst (v := (2)) hx hb dX5_markStep_23 (by decide) ?_
    refine callVU (rest := []) C hA (wC_sh a cI cZ) X (kX4_paint l D a cI cZ _ (fX4_leastGray σ) (2 : Int32)) (cwV 2 C.2.2.2.2.1 (gV wl_X5_214 wt_yX4_paint ws_yX4_paint wi_X4 wk_yX4_paint) rfl rfl rfl hdX4_paint ⟨Nat.le_of_ble_eq_true rfl, Nat.le_of_ble_eq_true rfl⟩) (ci := 4) (q0 := 1) rfl rfl rfl hl.1 rfl (Nat.le_of_ble_eq_true rfl) dX5_markStep_24 ⟨Nat.le_refl 0, Nat.le_refl 0⟩ (fun H locs X => ?_)
    exact ret dX5_markStep_27 (Eq.symm (if_neg c10)) X
def fX5_takeSteps_L2 (z1 : Int32) : Nat → Int32 → CSt → Int32 × CSt
  | 0, y2, σ2 => (y2, σ2)
  | f + 1, y2, σ2 => (if (c_under σ2) = (0 : Int32) then (y2, σ2) else (if (c_under σ2) = (1 : Int32) then (fX5_takeSteps_L2 z1 f (y2 + 1) (c_steps_s (fX5_markStep σ2) ((c_steps (fX5_markStep σ2)) + (1 : Int32)))) else (fX5_takeSteps_L2 z1 f (y2 + 1) (c_steps_s (fX5_sweepStep σ2) ((c_steps (fX5_sweepStep σ2)) + (1 : Int32))))))
def fX5_takeSteps (σ : CSt) (x1 : Int32) : Int32 × CSt := (fX5_takeSteps_L2 x1 (((Int32.toInt x1) - (Int32.toInt (0 : Int32))).toNat) (0 : Int32) σ)
theorem hdX5_takeSteps : yX5_takeSteps.cls = RX5 ∧ yX5_takeSteps.cls ≠ "java/lang/invoke/MethodHandle" ∧ yX5_takeSteps.cls ≠ "java/lang/invoke/VarHandle" ∧ (parseMethodDescriptor yX5_takeSteps.desc).map (fun d => d.parameters.length) = some 1 := by decide +kernel
set_option maxHeartbeats 250000 in
set_option maxRecDepth 100000 in
theorem kX5_takeSteps (l : Launch) (D : va_G) (a : Nat → Nat) (cI cZ : ClassId) (σ : CSt) (x1 : Int32) : CR l D (tyIZ cI cZ) (wC a cI cZ) yX5_takeSteps cX5_takeSteps 3 .int (rmk 5 111) [.ref (a 0), .int x1] σ (fX5_takeSteps σ x1).1 (fX5_takeSteps σ x1).2 := by
  refine CR.of pnX5 ⟨rfl, rfl⟩ (Nat.le_of_ble_eq_true rfl) rfl (fun p e s m args below meth c A Q ls C X hA hl ret => ?_)
  have C : Cx p s m args meth c cX5_takeSteps 3 RX5 D (tyIZ cI cZ) := C
  have hx := C.1
  have hb := C.2.1
  have hl : lv_has ls 3 [(0, .ref (a 0)), (1, .int x1)] := hl
  refine lv_iconst (v := (0)) hx hb dX5_takeSteps_0 (by decide) ?_
  refine lv_istore_n (lv' := [(2, .int (0 : Int32)), (0, .ref (a 0)), (1, .int x1)]) hx hb dX5_takeSteps_1 rfl hl (by decide) rfl (fun ls hl => ?_)
  have L2 : ∀ (f : Nat) (y2 : Int32) (σ2 : CSt) (hf : ((Int32.toInt x1) - (Int32.toInt y2)).toNat = f) (hnn : 0 ≤ Int32.toInt y2) (he : fX5_takeSteps_L2 x1 f y2 σ2 = (fX5_takeSteps σ x1)) (H : Heap) (locs : List Loc) (ls : Array Slot) (X : Sx A D (wC a cI cZ σ2) s H locs) (hl : lv_has ls 3 [(0, .ref (a 0)), (1, .int x1), (2, .int y2)]), W p l e (rmk 5 111) s m args below meth c H locs 0 0 Q (F0 m 2 ls []) := by
    intro f
    induction f with
    | zero =>
      intro y2 σ2 hf hnn he H locs ls X hl
      refine lv_iload_n hx hb dX5_takeSteps_2 rfl (lv_at hl 2 rfl) ?_
      refine lv_iload_n hx hb dX5_takeSteps_3 rfl (lv_at hl 1 rfl) ?_
      refine lv_icmp_ge (tgt := 49) hx hb dX5_takeSteps_4 (by decide) (fun c4 => ?_) (fun c4 => (lp_z hf c4).elim)
      refine lv_iload_n hx hb dX5_takeSteps_49 rfl (lv_at hl 2 rfl) ?_
      exact ret dX5_takeSteps_50 (pe_ he) X
    | succ f ih2 =>
      intro y2 σ2 hf hnn he H locs ls X hl
      refine lv_iload_n hx hb dX5_takeSteps_2 rfl (lv_at hl 2 rfl) ?_
      refine lv_iload_n hx hb dX5_takeSteps_3 rfl (lv_at hl 1 rfl) ?_
      refine lv_icmp_ge (tgt := 49) hx hb dX5_takeSteps_4 (by decide) (fun c4 => (lp_s hf c4).elim) (fun c4 => ?_)
      refine lv_aload_n hx hb dX5_takeSteps_7 rfl (lv_at hl 0 rfl) ?_
      refine cg_X5_X5_underWay (v := (c_under σ2)) C X rfl dX5_takeSteps_8 ?_
      refine lv_if_eq (tgt := 49) hx hb dX5_takeSteps_11 (by decide) (fun c11 => ?_) (fun c11 => ?_)
      · refine lv_iload_n hx hb dX5_takeSteps_49 rfl (lv_at hl 2 rfl) ?_
        exact ret dX5_takeSteps_50 (pe_ (Eq.trans (Eq.symm (if_pos c11)) he)) X
      · refine lv_aload_n hx hb dX5_takeSteps_14 rfl (lv_at hl 0 rfl) ?_
        refine cg_X5_X5_underWay (v := (c_under σ2)) C X rfl dX5_takeSteps_15 ?_
        refine lv_iconst (v := (1)) hx hb dX5_takeSteps_18 (by decide) ?_
        refine lv_icmp_ne (tgt := 29) hx hb dX5_takeSteps_19 (by decide) (fun c19 => ?_) (fun c19 => ?_)
        · refine lv_aload_n hx hb dX5_takeSteps_29 rfl (lv_at hl 0 rfl) ?_
          refine callVU (rest := []) C hA (wC_sh a cI cZ) X (kX5_sweepStep l D a cI cZ _ ) (cwV 0 C.2.2.2.2.1 (gV wl_X5_205 wt_yX5_sweepStep ws_yX5_sweepStep wi_X5 wk_yX5_sweepStep) rfl rfl rfl hdX5_sweepStep ⟨Nat.le_of_ble_eq_true rfl, Nat.le_of_ble_eq_true rfl⟩) (ci := 5) (q0 := 0) rfl rfl rfl hl.1 rfl (Nat.le_of_ble_eq_true rfl) dX5_takeSteps_30 ⟨Nat.le_refl 0, Nat.le_refl 0⟩ (fun H locs X => ?_)
          refine lv_iinc (v := (y2 + 1)) (lv' := [(2, .int (y2 + 1)), (0, .ref (a 0)), (1, .int x1)]) hx hb dX5_takeSteps_33 hl (k := 2) rfl rfl (by decide) rfl (fun ls hl => ?_)
          refine lv_aload_n hx hb dX5_takeSteps_36 rfl (lv_at hl 1 rfl) ?_
          refine lv_dup hx hb dX5_takeSteps_37 rfl ?_
          refine cg_X5_X5_steps (v := (c_steps (fX5_sweepStep σ2))) C X rfl dX5_takeSteps_38 ?_
          refine lv_iconst (v := (1)) hx hb dX5_takeSteps_41 (by decide) ?_
          refine lv_iadd hx hb dX5_takeSteps_42 ?_
          refine cp_X5_X5_steps C X dX5_takeSteps_43 (fun H locs X => ?_)
          refine lv_goto (tgt := 2) hx hb dX5_takeSteps_46 (by decide) ?_
          exact ih2 (y2 + 1) (c_steps_s (fX5_sweepStep σ2) ((c_steps (fX5_sweepStep σ2)) + (1 : Int32))) (lp_b hf) (lp_nn hnn hf) (Eq.trans (Eq.symm (Eq.trans (if_neg c11) (if_neg c19))) he) _ _ _ X (lv_sub hl [1, 2, 0] rfl)
        · refine lv_aload_n hx hb dX5_takeSteps_22 rfl (lv_at hl 0 rfl) ?_
          refine callVU (rest := []) C hA (wC_sh a cI cZ) X (kX5_markStep l D a cI cZ _ ) (cwV 0 C.2.2.2.2.1 (gV wl_X5_202 wt_yX5_markStep ws_yX5_markStep wi_X5 wk_yX5_markStep) rfl rfl rfl hdX5_markStep ⟨Nat.le_of_ble_eq_true rfl, Nat.le_of_ble_eq_true rfl⟩) (ci := 5) (q0 := 0) rfl rfl rfl hl.1 rfl (Nat.le_of_ble_eq_true rfl) dX5_takeSteps_23 ⟨Nat.le_refl 0, Nat.le_refl 0⟩ (fun H locs X => ?_)
          refine lv_goto (tgt := 33) hx hb dX5_takeSteps_26 (by decide) ?_
          refine lv_iinc (v := (y2 + 1)) (lv' := [(2, .int (y2 + 1)), (0, .ref (a 0)), (1, .int x1)]) hx hb dX5_takeSteps_33 hl (k := 2) rfl rfl (by decide) rfl (fun ls hl => ?_)
          refine lv_aload_n hx hb dX5_takeSteps_36 rfl (lv_at hl 1 rfl) ?_
          refine lv_dup hx hb dX5_takeSteps_37 rfl ?_
          refine cg_X5_X5_steps (v := (c_steps (fX5_markStep σ2))) C X rfl dX5_takeSteps_38 ?_
          refine lv_iconst (v := (1)) hx hb dX5_takeSteps_41 (by decide) ?_
          refine lv_iadd hx hb dX5_takeSteps_42 ?_
          refine cp_X5_X5_steps C X dX5_takeSteps_43 (fun H locs X => ?_)
          refine lv_goto (tgt := 2) hx hb dX5_takeSteps_46 (by decide) ?_
          exact ih2 (y2 + 1) (c_steps_s (fX5_markStep σ2) ((c_steps (fX5_markStep σ2)) + (1 : Int32))) (lp_b hf) (lp_nn hnn hf) (Eq.trans (Eq.symm (Eq.trans (if_neg c11) (if_pos c19))) he) _ _ _ X (lv_sub hl [1, 2, 0] rfl)
  exact L2 (((Int32.toInt x1) - (Int32.toInt (0 : Int32))).toNat) (0 : Int32) σ rfl (by decide) rfl _ _ _ X (lv_sub hl [1, 2, 0] rfl)
def fX5_note (σ : CSt) (x1 : Int32) : CSt := (if (c_under σ) = (1 : Int32) then (if (c_fault σ) = (1 : Int32) then σ else (fX5_shade σ x1)) else σ)
theorem hdX5_note : yX5_note.cls = RX5 ∧ yX5_note.cls ≠ "java/lang/invoke/MethodHandle" ∧ yX5_note.cls ≠ "java/lang/invoke/VarHandle" ∧ (parseMethodDescriptor yX5_note.desc).map (fun d => d.parameters.length) = some 1 := by decide +kernel
set_option maxHeartbeats 250000 in
set_option maxRecDepth 100000 in
theorem kX5_note (l : Launch) (D : va_G) (a : Nat → Nat) (cI cZ : ClassId) (σ : CSt) (x1 : Int32) : CU l D (tyIZ cI cZ) (wC a cI cZ) yX5_note cX5_note 2 (rmk 3 67) [.ref (a 0), .int x1] σ (fX5_note σ x1) := by
  refine CU.of pnX5 ⟨rfl, rfl⟩ (Nat.le_of_ble_eq_true rfl) (fun p e s m args below meth c A Q ls C X hA hl ret => ?_)
  have C : Cx p s m args meth c cX5_note 2 RX5 D (tyIZ cI cZ) := C
  have hx := C.1
  have hb := C.2.1
  have hl : lv_has ls 2 [(0, .ref (a 0)), (1, .int x1)] := hl
  refine lv_aload_n hx hb dX5_note_0 rfl (lv_at hl 0 rfl) ?_
  refine cg_X5_X5_underWay (v := (c_under σ)) C X rfl dX5_note_1 ?_
  refine lv_iconst (v := (1)) hx hb dX5_note_4 (by decide) ?_
  refine lv_icmp_ne (tgt := 21) hx hb dX5_note_5 (by decide) (fun c5 => ?_) (fun c5 => ?_)
  · exact ret dX5_note_21 (Eq.symm (if_neg c5)) X
  · refine lv_aload_n hx hb dX5_note_8 rfl (lv_at hl 0 rfl) ?_
    refine cg_X5_X5_fault (v := (c_fault σ)) C X rfl dX5_note_9 ?_
    refine lv_iconst (v := (1)) hx hb dX5_note_12 (by decide) ?_
    refine lv_icmp_eq (tgt := 21) hx hb dX5_note_13 (by decide) (fun c13 => ?_) (fun c13 => ?_)
    · exact ret dX5_note_21 (Eq.symm (Eq.trans (if_pos c5) (if_pos c13))) X
    · refine lv_aload_n hx hb dX5_note_16 rfl (lv_at hl 0 rfl) ?_
      refine lv_iload_n hx hb dX5_note_17 rfl (lv_at hl 1 rfl) ?_
      refine callVU (rest := []) C hA (wC_sh a cI cZ) X (kX5_shade l D a cI cZ _ x1) (cwV 1 C.2.2.2.2.1 (gV wl_X5_177 wt_yX5_shade ws_yX5_shade wi_X5 wk_yX5_shade) rfl rfl rfl hdX5_shade ⟨Nat.le_of_ble_eq_true rfl, Nat.le_of_ble_eq_true rfl⟩) (ci := 5) (q0 := 0) rfl rfl rfl hl.1 rfl (Nat.le_of_ble_eq_true rfl) dX5_note_18 ⟨Nat.le_refl 0, Nat.le_refl 0⟩ (fun H locs X => ?_)
      exact ret dX5_note_21 (Eq.symm (Eq.trans (if_pos c5) (if_neg c13))) X
def fX5_noteWeakRead (σ : CSt) (x1 : Int32) : CSt := (if (c_manner σ) = (1 : Int32) then (fX5_note σ x1) else (if (c_manner σ) = (3 : Int32) then (fX5_note σ x1) else σ))
theorem hdX5_noteWeakRead : yX5_noteWeakRead.cls = RX5 ∧ yX5_noteWeakRead.cls ≠ "java/lang/invoke/MethodHandle" ∧ yX5_noteWeakRead.cls ≠ "java/lang/invoke/VarHandle" ∧ (parseMethodDescriptor yX5_noteWeakRead.desc).map (fun d => d.parameters.length) = some 1 := by decide +kernel
set_option maxHeartbeats 250000 in
set_option maxRecDepth 100000 in
theorem kX5_noteWeakRead (l : Launch) (D : va_G) (a : Nat → Nat) (cI cZ : ClassId) (σ : CSt) (x1 : Int32) : CU l D (tyIZ cI cZ) (wC a cI cZ) yX5_noteWeakRead cX5_noteWeakRead 2 (rmk 4 88) [.ref (a 0), .int x1] σ (fX5_noteWeakRead σ x1) := by
  refine CU.of pnX5 ⟨rfl, rfl⟩ (Nat.le_of_ble_eq_true rfl) (fun p e s m args below meth c A Q ls C X hA hl ret => ?_)
  have C : Cx p s m args meth c cX5_noteWeakRead 2 RX5 D (tyIZ cI cZ) := C
  have hx := C.1
  have hb := C.2.1
  have hl : lv_has ls 2 [(0, .ref (a 0)), (1, .int x1)] := hl
  refine lv_aload_n hx hb dX5_noteWeakRead_0 rfl (lv_at hl 0 rfl) ?_
  refine cg_X5_X5_manner (v := (c_manner σ)) C X rfl dX5_noteWeakRead_1 ?_
  refine lv_iconst (v := (1)) hx hb dX5_noteWeakRead_4 (by decide) ?_
  refine lv_icmp_eq (tgt := 16) hx hb dX5_noteWeakRead_5 (by decide) (fun c5 => ?_) (fun c5 => ?_)
  · refine lv_aload_n hx hb dX5_noteWeakRead_16 rfl (lv_at hl 0 rfl) ?_
    refine lv_iload_n hx hb dX5_noteWeakRead_17 rfl (lv_at hl 1 rfl) ?_
    refine callVU (rest := []) C hA (wC_sh a cI cZ) X (kX5_note l D a cI cZ _ x1) (cwV 1 C.2.2.2.2.1 (gV wl_X5_131 wt_yX5_note ws_yX5_note wi_X5 wk_yX5_note) rfl rfl rfl hdX5_note ⟨Nat.le_of_ble_eq_true rfl, Nat.le_of_ble_eq_true rfl⟩) (ci := 5) (q0 := 0) rfl rfl rfl hl.1 rfl (Nat.le_of_ble_eq_true rfl) dX5_noteWeakRead_18 ⟨Nat.le_refl 0, Nat.le_refl 0⟩ (fun H locs X => ?_)
    exact ret dX5_noteWeakRead_21 (Eq.symm (if_pos c5)) X
  · refine lv_aload_n hx hb dX5_noteWeakRead_8 rfl (lv_at hl 0 rfl) ?_
    refine cg_X5_X5_manner (v := (c_manner σ)) C X rfl dX5_noteWeakRead_9 ?_
    refine lv_iconst (v := (3)) hx hb dX5_noteWeakRead_12 (by decide) ?_
    refine lv_icmp_ne (tgt := 21) hx hb dX5_noteWeakRead_13 (by decide) (fun c13 => ?_) (fun c13 => ?_)
    · exact ret dX5_noteWeakRead_21 (Eq.symm (Eq.trans (if_neg c5) (if_neg c13))) X
    · refine lv_aload_n hx hb dX5_noteWeakRead_16 rfl (lv_at hl 0 rfl) ?_
      refine lv_iload_n hx hb dX5_noteWeakRead_17 rfl (lv_at hl 1 rfl) ?_
      refine callVU (rest := []) C hA (wC_sh a cI cZ) X (kX5_note l D a cI cZ _ x1) (cwV 1 C.2.2.2.2.1 (gV wl_X5_131 wt_yX5_note ws_yX5_note wi_X5 wk_yX5_note) rfl rfl rfl hdX5_note ⟨Nat.le_of_ble_eq_true rfl, Nat.le_of_ble_eq_true rfl⟩) (ci := 5) (q0 := 0) rfl rfl rfl hl.1 rfl (Nat.le_of_ble_eq_true rfl) dX5_noteWeakRead_18 ⟨Nat.le_refl 0, Nat.le_refl 0⟩ (fun H locs X => ?_)
      exact ret dX5_noteWeakRead_21 (Eq.symm (Eq.trans (if_neg c5) (if_pos c13))) X
def fX5_startRound (σ : CSt) : CSt := (if (c_manner (fX4_whitenAll (c_shaded_s (c_steps_s (c_under_s σ (1 : Int32)) (0 : Int32)) (0 : Int32)))) = (3 : Int32) then (fX5_shadeHeld (fX0_changeHalves (fX4_whitenAll (c_shaded_s (c_steps_s (c_under_s σ (1 : Int32)) (0 : Int32)) (0 : Int32))))) else (fX5_shadeHeld (fX4_whitenAll (c_shaded_s (c_steps_s (c_under_s σ (1 : Int32)) (0 : Int32)) (0 : Int32)))))
theorem hdX5_startRound : yX5_startRound.cls = RX5 ∧ yX5_startRound.cls ≠ "java/lang/invoke/MethodHandle" ∧ yX5_startRound.cls ≠ "java/lang/invoke/VarHandle" ∧ (parseMethodDescriptor yX5_startRound.desc).map (fun d => d.parameters.length) = some 0 := by decide +kernel
set_option maxHeartbeats 250000 in
set_option maxRecDepth 100000 in
theorem kX5_startRound (l : Launch) (D : va_G) (a : Nat → Nat) (cI cZ : ClassId) (σ : CSt) : CU l D (tyIZ cI cZ) (wC a cI cZ) yX5_startRound cX5_startRound 1 (rmk 4 88) [.ref (a 0)] σ (fX5_startRound σ) := by
  refine CU.of pnX5 ⟨rfl, rfl⟩ (Nat.le_of_ble_eq_true rfl) (fun p e s m args below meth c A Q ls C X hA hl ret => ?_)
  have C : Cx p s m args meth c cX5_startRound 1 RX5 D (tyIZ cI cZ) := C
  have hx := C.1
  have hb := C.2.1
  have hl : lv_has ls 1 [(0, .ref (a 0))] := hl
  refine lv_aload_n hx hb dX5_startRound_0 rfl (lv_at hl 0 rfl) ?_
  refine lv_iconst (v := (1)) hx hb dX5_startRound_1 (by decide) ?_
  refine cp_X5_X5_underWay C X dX5_startRound_2 (fun H locs X => ?_)
  refine lv_aload_n hx hb dX5_startRound_5 rfl (lv_at hl 0 rfl) ?_
  refine lv_iconst (v := (0)) hx hb dX5_startRound_6 (by decide) ?_
  refine cp_X5_X5_steps C X dX5_startRound_7 (fun H locs X => ?_)
  refine lv_aload_n hx hb dX5_startRound_10 rfl (lv_at hl 0 rfl) ?_
  refine lv_iconst (v := (0)) hx hb dX5_startRound_11 (by decide) ?_
  refine cp_X5_X5_shaded C X dX5_startRound_12 (fun H locs X => ?_)
  refine lv_aload_n hx hb dX5_startRound_15 rfl (lv_at hl 0 rfl) ?_
  refine cg_X5_X5_things C X dX5_startRound_16 ?_
  refine callVU (rest := []) C hA (wC_sh a cI cZ) X (kX4_whitenAll l D a cI cZ _ ) (cwV 0 C.2.2.2.2.1 (gV wl_X5_193 wt_yX4_whitenAll ws_yX4_whitenAll wi_X4 wk_yX4_whitenAll) rfl rfl rfl hdX4_whitenAll ⟨Nat.le_of_ble_eq_true rfl, Nat.le_of_ble_eq_true rfl⟩) (ci := 4) (q0 := 1) rfl rfl rfl hl.1 rfl (Nat.le_of_ble_eq_true rfl) dX5_startRound_19 ⟨Nat.le_refl 0, Nat.le_refl 0⟩ (fun H locs X => ?_)
  refine lv_aload_n hx hb dX5_startRound_22 rfl (lv_at hl 0 rfl) ?_
  refine cg_X5_X5_manner (v := (c_manner (fX4_whitenAll (c_shaded_s (c_steps_s (c_under_s σ (1 : Int32)) (0 : Int32)) (0 : Int32))))) C X rfl dX5_startRound_23 ?_
  refine lv_iconst (v := (3)) hx hb dX5_startRound_26 (by decide) ?_
  refine lv_icmp_ne (tgt := 37) hx hb dX5_startRound_27 (by decide) (fun c27 => ?_) (fun c27 => ?_)
  · refine lv_aload_n hx hb dX5_startRound_37 rfl (lv_at hl 0 rfl) ?_
    refine callVU (rest := []) C hA (wC_sh a cI cZ) X (kX5_shadeHeld l D a cI cZ _ ) (cwV 0 C.2.2.2.2.1 (gV wl_X5_199 wt_yX5_shadeHeld ws_yX5_shadeHeld wi_X5 wk_yX5_shadeHeld) rfl rfl rfl hdX5_shadeHeld ⟨Nat.le_of_ble_eq_true rfl, Nat.le_of_ble_eq_true rfl⟩) (ci := 5) (q0 := 0) rfl rfl rfl hl.1 rfl (Nat.le_of_ble_eq_true rfl) dX5_startRound_38 ⟨Nat.le_refl 0, Nat.le_refl 0⟩ (fun H locs X => ?_)
    exact ret dX5_startRound_41 (Eq.symm (if_neg c27)) X
  · refine lv_aload_n hx hb dX5_startRound_30 rfl (lv_at hl 0 rfl) ?_
    refine cg_X5_X5_cells C X dX5_startRound_31 ?_
    refine callVU (rest := []) C hA (wC_sh a cI cZ) X (kX0_changeHalves l D a cI cZ _ ) (cwV 0 C.2.2.2.2.1 (gV wl_X5_196 wt_yX0_changeHalves ws_yX0_changeHalves wi_X0 wk_yX0_changeHalves) rfl rfl rfl hdX0_changeHalves ⟨Nat.le_of_ble_eq_true rfl, Nat.le_of_ble_eq_true rfl⟩) (ci := 0) (q0 := 2) rfl rfl rfl hl.1 rfl (Nat.le_of_ble_eq_true rfl) dX5_startRound_34 ⟨Nat.le_refl 0, Nat.le_refl 0⟩ (fun H locs X => ?_)
    refine lv_aload_n hx hb dX5_startRound_37 rfl (lv_at hl 0 rfl) ?_
    refine callVU (rest := []) C hA (wC_sh a cI cZ) X (kX5_shadeHeld l D a cI cZ _ ) (cwV 0 C.2.2.2.2.1 (gV wl_X5_199 wt_yX5_shadeHeld ws_yX5_shadeHeld wi_X5 wk_yX5_shadeHeld) rfl rfl rfl hdX5_shadeHeld ⟨Nat.le_of_ble_eq_true rfl, Nat.le_of_ble_eq_true rfl⟩) (ci := 5) (q0 := 0) rfl rfl rfl hl.1 rfl (Nat.le_of_ble_eq_true rfl) dX5_startRound_38 ⟨Nat.le_refl 0, Nat.le_refl 0⟩ (fun H locs X => ?_)
    exact ret dX5_startRound_41 (Eq.symm (if_pos c27)) X
