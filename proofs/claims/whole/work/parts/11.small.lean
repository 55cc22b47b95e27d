theorem cq_behind_behind (σ : CSt) (v : Int32) : c_behind (c_behind_s σ v) = v := rfl
theorem cq_pmade_keys (σ : CSt) (v : (Nat → Int32)) : c_pmade (c_keys_s σ v) = c_pmade σ := rfl
theorem cq_pmade_pmade (σ : CSt) (v : Int32) : c_pmade (c_pmade_s σ v) = v := rfl
theorem cq_pmade_values (σ : CSt) (v : (Nat → Int32)) : c_pmade (c_values_s σ v) = c_pmade σ := rfl
theorem cq_values_keys (σ : CSt) (v : (Nat → Int32)) : c_values (c_keys_s σ v) = c_values σ := rfl
theorem cq_wishes_hheld (σ : CSt) (v : (Nat → Int32)) : c_wishes (c_hheld_s σ v) = c_wishes σ := rfl
def fX0_empty_L2 : Nat → Int32 → CSt → CSt
  | 0, y1, σ2 => (c_halfEnd_s (c_behind_s σ2 (0 : Int32)) (100 : Int32))
  | f + 1, y1, σ2 => (fX0_empty_L2 f (y1 + 1) (c_cmap_s σ2 (upd (c_cmap σ2) (ix y1) (-1 : Int32))))
def fX0_empty (σ : CSt) : CSt := (fX0_empty_L2 (((Int32.toInt (200 : Int32)) - (Int32.toInt (0 : Int32))).toNat) (0 : Int32) σ)
theorem hdX0_empty : yX0_empty.cls = RX0 ∧ yX0_empty.cls ≠ "java/lang/invoke/MethodHandle" ∧ yX0_empty.cls ≠ "java/lang/invoke/VarHandle" ∧ (parseMethodDescriptor yX0_empty.desc).map (fun d => d.parameters.length) = some 0 := by decide +kernel
set_option maxHeartbeats 250000 in
set_option maxRecDepth 100000 in
theorem kX0_empty (l : Launch) (D : va_G) (a : Nat → Nat) (cI cZ : ClassId) (σ : CSt) : CU l D (tyIZ cI cZ) (wC a cI cZ) yX0_empty cX0_empty 2 (rmk 0 0) [.ref (a 2)] σ (fX0_empty σ) := by
  refine CU.of pnX0 ⟨rfl, rfl⟩ (Nat.le_of_ble_eq_true rfl) (fun p e s m args below meth c A Q ls C X hA hl ret => ?_)
  have C : Cx p s m args meth c cX0_empty 2 RX0 D (tyIZ cI cZ) := C
  have hx := C.1
  have hb := C.2.1
  have hl : lv_has ls 2 [(0, .ref (a 2))] := hl
  refine lv_iconst (v := (0)) hx hb dX0_empty_0 (by decide) ?_
  refine lv_istore_n (lv' := [(1, .int (0 : Int32)), (0, .ref (a 2))]) hx hb dX0_empty_1 rfl hl (by decide) rfl (fun ls hl => ?_)
  have L2 : ∀ (f : Nat) (y1 : Int32) (σ2 : CSt) (hf : ((Int32.toInt (200 : Int32)) - (Int32.toInt y1)).toNat = f) (hnn : 0 ≤ Int32.toInt y1) (he : fX0_empty_L2 f y1 σ2 = (fX0_empty σ)) (H : Heap) (locs : List Loc) (ls : Array Slot) (X : Sx A D (wC a cI cZ σ2) s H locs) (hl : lv_has ls 2 [(0, .ref (a 2)), (1, .int y1)]), W p l e (rmk 0 0) s m args below meth c H locs 0 0 Q (F0 m 2 ls []) := by
    intro f
    induction f with
    | zero =>
      intro y1 σ2 hf hnn he H locs ls X hl
      refine lv_iload_n hx hb dX0_empty_2 rfl (lv_at hl 1 rfl) ?_
      refine lv_sipush (v := (200)) hx hb dX0_empty_3 (by decide) ?_
      refine lv_icmp_ge (tgt := 22) hx hb dX0_empty_6 (by decide) (fun c6 => ?_) (fun c6 => (lp_z hf c6).elim)
      refine lv_aload_n hx hb dX0_empty_22 rfl (lv_at hl 0 rfl) ?_
      refine lv_iconst (v := (0)) hx hb dX0_empty_23 (by decide) ?_
      refine cp_X0_X0_behind C X dX0_empty_24 (fun H locs X => ?_)
      refine lv_aload_n hx hb dX0_empty_27 rfl (lv_at hl 0 rfl) ?_
      refine lv_bipush (v := (100)) hx hb dX0_empty_28 (by decide) ?_
      refine cp_X0_X0_halfEnd C X dX0_empty_30 (fun H locs X => ?_)
      exact ret dX0_empty_33 he X
    | succ f ih2 =>
      intro y1 σ2 hf hnn he H locs ls X hl
      refine lv_iload_n hx hb dX0_empty_2 rfl (lv_at hl 1 rfl) ?_
      refine lv_sipush (v := (200)) hx hb dX0_empty_3 (by decide) ?_
      refine lv_icmp_ge (tgt := 22) hx hb dX0_empty_6 (by decide) (fun c6 => (lp_s hf c6).elim) (fun c6 => ?_)
      refine lv_aload_n hx hb dX0_empty_9 rfl (lv_at hl 0 rfl) ?_
      refine cg_X0_X0_things C X dX0_empty_10 ?_
      refine lv_iload_n hx hb dX0_empty_13 rfl (lv_at hl 1 rfl) ?_
      refine lv_iconst (v := (-1)) hx hb dX0_empty_14 (by decide) ?_
      refine cs_cmap (g := (upd (c_cmap σ2) (ix y1) (-1 : Int32))) C X (lp_in hnn hf (show (Int32.toInt (200 : Int32) : Int) ≤ 200 by decide)) rfl dX0_empty_15 (fun H locs X => ?_)
      refine lv_iinc (v := (y1 + 1)) (lv' := [(1, .int (y1 + 1)), (0, .ref (a 2))]) hx hb dX0_empty_16 hl (k := 1) rfl rfl (by decide) rfl (fun ls hl => ?_)
      refine lv_goto (tgt := 2) hx hb dX0_empty_19 (by decide) ?_
      exact ih2 (y1 + 1) (c_cmap_s σ2 (upd (c_cmap σ2) (ix y1) (-1 : Int32))) (lp_b hf) (lp_nn hnn hf) he _ _ _ X (lv_sub hl [1, 0] rfl)
  exact L2 (((Int32.toInt (200 : Int32)) - (Int32.toInt (0 : Int32))).toNat) (0 : Int32) σ rfl (by decide) rfl _ _ _ X (lv_sub hl [1, 0] rfl)
def fX0_changeHalves (σ : CSt) : CSt := (if (c_halfEnd σ) = (100 : Int32) then (c_halfEnd_s (c_behind_s σ (100 : Int32)) ((100 : Int32) + (100 : Int32))) else (c_halfEnd_s (c_behind_s σ (0 : Int32)) ((0 : Int32) + (100 : Int32))))
theorem hdX0_changeHalves : yX0_changeHalves.cls = RX0 ∧ yX0_changeHalves.cls ≠ "java/lang/invoke/MethodHandle" ∧ yX0_changeHalves.cls ≠ "java/lang/invoke/VarHandle" ∧ (parseMethodDescriptor yX0_changeHalves.desc).map (fun d => d.parameters.length) = some 0 := by decide +kernel
set_option maxHeartbeats 250000 in
set_option maxRecDepth 100000 in
theorem kX0_changeHalves (l : Launch) (D : va_G) (a : Nat → Nat) (cI cZ : ClassId) (σ : CSt) : CU l D (tyIZ cI cZ) (wC a cI cZ) yX0_changeHalves cX0_changeHalves 1 (rmk 0 0) [.ref (a 2)] σ (fX0_changeHalves σ) := by
  refine CU.of pnX0 ⟨rfl, rfl⟩ (Nat.le_of_ble_eq_true rfl) (fun p e s m args below meth c A Q ls C X hA hl ret => ?_)
  have C : Cx p s m args meth c cX0_changeHalves 1 RX0 D (tyIZ cI cZ) := C
  have hx := C.1
  have hb := C.2.1
  have hl : lv_has ls 1 [(0, .ref (a 2))] := hl
  refine lv_aload_n hx hb dX0_changeHalves_0 rfl (lv_at hl 0 rfl) ?_
  refine lv_aload_n hx hb dX0_changeHalves_1 rfl (lv_at hl 0 rfl) ?_
  refine cg_X0_X0_halfEnd (v := (c_halfEnd σ)) C X rfl dX0_changeHalves_2 ?_
  refine lv_bipush (v := (100)) hx hb dX0_changeHalves_5 (by decide) ?_
  refine lv_icmp_ne (tgt := 15) hx hb dX0_changeHalves_7 (by decide) (fun c7 => ?_) (fun c7 => ?_)
  · refine lv_iconst (v := (0)) hx hb dX0_changeHalves_15 (by decide) ?_
    refine cp_X0_X0_behind C X dX0_changeHalves_16 (fun H locs X => ?_)
    refine lv_aload_n hx hb dX0_changeHalves_19 rfl (lv_at hl 0 rfl) ?_
    refine lv_aload_n hx hb dX0_changeHalves_20 rfl (lv_at hl 0 rfl) ?_
    refine cg_X0_X0_behind (v := (0 : Int32)) C X (cq_behind_behind _ _) dX0_changeHalves_21 ?_
    refine lv_bipush (v := (100)) hx hb dX0_changeHalves_24 (by decide) ?_
    refine lv_iadd hx hb dX0_changeHalves_26 ?_
    refine cp_X0_X0_halfEnd C X dX0_changeHalves_27 (fun H locs X => ?_)
    exact ret dX0_changeHalves_30 (Eq.symm (if_neg c7)) X
  · refine lv_bipush (v := (100)) hx hb dX0_changeHalves_10 (by decide) ?_
    refine lv_goto (tgt := 16) hx hb dX0_changeHalves_12 (by decide) ?_
    refine cp_X0_X0_behind C X dX0_changeHalves_16 (fun H locs X => ?_)
    refine lv_aload_n hx hb dX0_changeHalves_19 rfl (lv_at hl 0 rfl) ?_
    refine lv_aload_n hx hb dX0_changeHalves_20 rfl (lv_at hl 0 rfl) ?_
    refine cg_X0_X0_behind (v := (100 : Int32)) C X (cq_behind_behind _ _) dX0_changeHalves_21 ?_
    refine lv_bipush (v := (100)) hx hb dX0_changeHalves_24 (by decide) ?_
    refine lv_iadd hx hb dX0_changeHalves_26 ?_
    refine cp_X0_X0_halfEnd C X dX0_changeHalves_27 (fun H locs X => ?_)
    exact ret dX0_changeHalves_30 (Eq.symm (if_pos c7)) X
def fX0_leftBehind (σ : CSt) : Int32 := ((c_halfEnd σ) - (c_behind σ))
theorem hdX0_leftBehind : yX0_leftBehind.cls = RX0 ∧ yX0_leftBehind.cls ≠ "java/lang/invoke/MethodHandle" ∧ yX0_leftBehind.cls ≠ "java/lang/invoke/VarHandle" ∧ (parseMethodDescriptor yX0_leftBehind.desc).map (fun d => d.parameters.length) = some 0 := by decide +kernel
set_option maxHeartbeats 250000 in
set_option maxRecDepth 100000 in
theorem kX0_leftBehind (l : Launch) (D : va_G) (a : Nat → Nat) (cI cZ : ClassId) (σ : CSt) : CR l D (tyIZ cI cZ) (wC a cI cZ) yX0_leftBehind cX0_leftBehind 1 .int (rmk 0 0) [.ref (a 2)] σ (fX0_leftBehind σ) σ := by
  refine CR.of pnX0 ⟨rfl, rfl⟩ (Nat.le_of_ble_eq_true rfl) rfl (fun p e s m args below meth c A Q ls C X hA hl ret => ?_)
  have C : Cx p s m args meth c cX0_leftBehind 1 RX0 D (tyIZ cI cZ) := C
  have hx := C.1
  have hb := C.2.1
  have hl : lv_has ls 1 [(0, .ref (a 2))] := hl
  refine lv_aload_n hx hb dX0_leftBehind_0 rfl (lv_at hl 0 rfl) ?_
  refine cg_X0_X0_halfEnd (v := (c_halfEnd σ)) C X rfl dX0_leftBehind_1 ?_
  refine lv_aload_n hx hb dX0_leftBehind_4 rfl (lv_at hl 0 rfl) ?_
  refine cg_X0_X0_behind (v := (c_behind σ)) C X rfl dX0_leftBehind_5 ?_
  refine lv_isub hx hb dX0_leftBehind_8 ?_
  exact ret dX0_leftBehind_9 (congrArg (fun z => (z, _)) rfl) X
def fX0_thingAt (σ : CSt) (x1 : Int32) : Int32 := (if x1 < (0 : Int32) then (-1 : Int32) else (if (200 : Int32) ≤ x1 then (-1 : Int32) else ((c_cmap σ) (ix x1))))
theorem hdX0_thingAt : yX0_thingAt.cls = RX0 ∧ yX0_thingAt.cls ≠ "java/lang/invoke/MethodHandle" ∧ yX0_thingAt.cls ≠ "java/lang/invoke/VarHandle" ∧ (parseMethodDescriptor yX0_thingAt.desc).map (fun d => d.parameters.length) = some 1 := by decide +kernel
set_option maxHeartbeats 250000 in
set_option maxRecDepth 100000 in
theorem kX0_thingAt (l : Launch) (D : va_G) (a : Nat → Nat) (cI cZ : ClassId) (σ : CSt) (x1 : Int32) : CR l D (tyIZ cI cZ) (wC a cI cZ) yX0_thingAt cX0_thingAt 2 .int (rmk 0 0) [.ref (a 2), .int x1] σ (fX0_thingAt σ x1) σ := by
  refine CR.of pnX0 ⟨rfl, rfl⟩ (Nat.le_of_ble_eq_true rfl) rfl (fun p e s m args below meth c A Q ls C X hA hl ret => ?_)
  have C : Cx p s m args meth c cX0_thingAt 2 RX0 D (tyIZ cI cZ) := C
  have hx := C.1
  have hb := C.2.1
  have hl : lv_has ls 2 [(0, .ref (a 2)), (1, .int x1)] := hl
  refine lv_iload_n hx hb dX0_thingAt_0 rfl (lv_at hl 1 rfl) ?_
  refine lv_if_lt (tgt := 20) hx hb dX0_thingAt_1 (by decide) (fun c1 => ?_) (fun c1 => ?_)
  · refine lv_iconst (v := (-1)) hx hb dX0_thingAt_20 (by decide) ?_
    exact ret dX0_thingAt_21 (congrArg (fun z => (z, _)) (Eq.symm (if_pos c1))) X
  · refine lv_iload_n hx hb dX0_thingAt_4 rfl (lv_at hl 1 rfl) ?_
    refine lv_sipush (v := (200)) hx hb dX0_thingAt_5 (by decide) ?_
    refine lv_icmp_ge (tgt := 20) hx hb dX0_thingAt_8 (by decide) (fun c8 => ?_) (fun c8 => ?_)
    · refine lv_iconst (v := (-1)) hx hb dX0_thingAt_20 (by decide) ?_
      exact ret dX0_thingAt_21 (congrArg (fun z => (z, _)) (Eq.symm (Eq.trans (if_neg c1) (if_pos c8)))) X
    · refine lv_aload_n hx hb dX0_thingAt_11 rfl (lv_at hl 0 rfl) ?_
      refine cg_X0_X0_things C X dX0_thingAt_12 ?_
      refine lv_iload_n hx hb dX0_thingAt_15 rfl (lv_at hl 1 rfl) ?_
      refine ca_cmap (v := ((c_cmap σ) (ix x1))) C X (vp_in_iff.mpr (by have tc1 := i32_nlt c1; have tc8 := i32_nle c8; have q0_ : (0 : Int32).toInt = 0 := rfl; have q1_ : (200 : Int32).toInt = 200 := rfl; omega)) rfl dX0_thingAt_16 ?_
      refine lv_goto (tgt := 21) hx hb dX0_thingAt_17 (by decide) ?_
      exact ret dX0_thingAt_21 (congrArg (fun z => (z, _)) (Eq.symm (Eq.trans (if_neg c1) (if_neg c8)))) X
def fX0_assign_L3 (z1 : Int32) (z2 : Int32) (z3 : Int32) : Nat → Int32 → CSt → CSt
  | 0, y4, σ3 => σ3
  | f + 1, y4, σ3 => (if y4 < (0 : Int32) then (fX0_assign_L3 z1 z2 z3 f (y4 + 1) σ3) else (if (200 : Int32) ≤ y4 then (fX0_assign_L3 z1 z2 z3 f (y4 + 1) σ3) else (fX0_assign_L3 z1 z2 z3 f (y4 + 1) (c_cmap_s σ3 (upd (c_cmap σ3) (ix y4) z3)))))
def fX0_assign (σ : CSt) (x1 : Int32) (x2 : Int32) (x3 : Int32) : CSt := (fX0_assign_L3 x1 x2 x3 (((Int32.toInt (x1 + x2)) - (Int32.toInt x1)).toNat) x1 σ)
theorem hdX0_assign : yX0_assign.cls = RX0 ∧ yX0_assign.cls ≠ "java/lang/invoke/MethodHandle" ∧ yX0_assign.cls ≠ "java/lang/invoke/VarHandle" ∧ (parseMethodDescriptor yX0_assign.desc).map (fun d => d.parameters.length) = some 3 := by decide +kernel
set_option maxHeartbeats 250000 in
set_option maxRecDepth 100000 in
theorem kX0_assign (l : Launch) (D : va_G) (a : Nat → Nat) (cI cZ : ClassId) (σ : CSt) (x1 : Int32) (x2 : Int32) (x3 : Int32) : CU l D (tyIZ cI cZ) (wC a cI cZ) yX0_assign cX0_assign 5 (rmk 0 0) [.ref (a 2), .int x1, .int x2, .int x3] σ (fX0_assign σ x1 x2 x3) := by
  refine CU.of pnX0 ⟨rfl, rfl⟩ (Nat.le_of_ble_eq_true rfl) (fun p e s m args below meth c A Q ls C X hA hl ret => ?_)
  have C : Cx p s m args meth c cX0_assign 5 RX0 D (tyIZ cI cZ) := C
  have hx := C.1
  have hb := C.2.1
  have hl : lv_has ls 5 [(0, .ref (a 2)), (1, .int x1), (2, .int x2), (3, .int x3)] := hl
  refine lv_iload_n hx hb dX0_assign_0 rfl (lv_at hl 1 rfl) ?_
  refine lv_istore (lv' := [(4, .int x1), (0, .ref (a 2)), (1, .int x1), (2, .int x2), (3, .int x3)]) hx hb dX0_assign_1 hl (by decide) rfl (fun ls hl => ?_)
  have L3 : ∀ (f : Nat) (y4 : Int32) (σ3 : CSt) (hf : ((Int32.toInt (x1 + x2)) - (Int32.toInt y4)).toNat = f) (he : fX0_assign_L3 x1 x2 x3 f y4 σ3 = (fX0_assign σ x1 x2 x3)) (H : Heap) (locs : List Loc) (ls : Array Slot) (X : Sx A D (wC a cI cZ σ3) s H locs) (hl : lv_has ls 5 [(0, .ref (a 2)), (1, .int x1), (2, .int x2), (3, .int x3), (4, .int y4)]), W p l e (rmk 0 0) s m args below meth c H locs 0 0 Q (F0 m 3 ls []) := by
    intro f
    induction f with
    | zero =>
      intro y4 σ3 hf he H locs ls X hl
      refine lv_iload hx hb dX0_assign_3 (lv_at hl 4 rfl) ?_
      refine lv_iload_n hx hb dX0_assign_5 rfl (lv_at hl 1 rfl) ?_
      refine lv_iload_n hx hb dX0_assign_6 rfl (lv_at hl 2 rfl) ?_
      refine lv_iadd hx hb dX0_assign_7 ?_
      refine lv_icmp_ge (tgt := 38) hx hb dX0_assign_8 (by decide) (fun c8 => ?_) (fun c8 => (lp_z hf c8).elim)
      exact ret dX0_assign_38 he X
    | succ f ih3 =>
      intro y4 σ3 hf he H locs ls X hl
      refine lv_iload hx hb dX0_assign_3 (lv_at hl 4 rfl) ?_
      refine lv_iload_n hx hb dX0_assign_5 rfl (lv_at hl 1 rfl) ?_
      refine lv_iload_n hx hb dX0_assign_6 rfl (lv_at hl 2 rfl) ?_
      refine lv_iadd hx hb dX0_assign_7 ?_
      refine lv_icmp_ge (tgt := 38) hx hb dX0_assign_8 (by decide) (fun c8 => (lp_s hf c8).elim) (fun c8 => ?_)
      refine lv_iload hx hb dX0_assign_11 (lv_at hl 4 rfl) ?_
      refine lv_if_lt (tgt := 32) hx hb dX0_assign_13 (by decide) (fun c13 => ?_) (fun c13 => ?_)
      · refine lv_iinc (v := (y4 + 1)) (lv' := [(4, .int (y4 + 1)), (0, .ref (a 2)), (1, .int x1), (2, .int x2), (3, .int x3)]) hx hb dX0_assign_32 hl (k := 4) rfl rfl (by decide) rfl (fun ls hl => ?_)
        refine lv_goto (tgt := 3) hx hb dX0_assign_35 (by decide) ?_
        exact ih3 (y4 + 1) σ3 (lp_b hf) (Eq.trans (Eq.symm (if_pos c13)) he) _ _ _ X (lv_sub hl [1, 2, 3, 4, 0] rfl)
      · refine lv_iload hx hb dX0_assign_16 (lv_at hl 4 rfl) ?_
        refine lv_sipush (v := (200)) hx hb dX0_assign_18 (by decide) ?_
        refine lv_icmp_ge (tgt := 32) hx hb dX0_assign_21 (by decide) (fun c21 => ?_) (fun c21 => ?_)
        · refine lv_iinc (v := (y4 + 1)) (lv' := [(4, .int (y4 + 1)), (0, .ref (a 2)), (1, .int x1), (2, .int x2), (3, .int x3)]) hx hb dX0_assign_32 hl (k := 4) rfl rfl (by decide) rfl (fun ls hl => ?_)
          refine lv_goto (tgt := 3) hx hb dX0_assign_35 (by decide) ?_
          exact ih3 (y4 + 1) σ3 (lp_b hf) (Eq.trans (Eq.symm (Eq.trans (if_neg c13) (if_pos c21))) he) _ _ _ X (lv_sub hl [1, 2, 3, 4, 0] rfl)
        · refine lv_aload_n hx hb dX0_assign_24 rfl (lv_at hl 0 rfl) ?_
          refine cg_X0_X0_things C X dX0_assign_25 ?_
          refine lv_iload hx hb dX0_assign_28 (lv_at hl 4 rfl) ?_
          refine lv_iload_n hx hb dX0_assign_30 rfl (lv_at hl 3 rfl) ?_
          refine cs_cmap (g := (upd (c_cmap σ3) (ix y4) x3)) C X (vp_in_iff.mpr (by have tc8 := i32_nle c8; have tc13 := i32_nlt c13; have tc21 := i32_nle c21; have q0_ : (0 : Int32).toInt = 0 := rfl; have q1_ : (200 : Int32).toInt = 200 := rfl; omega)) rfl dX0_assign_31 (fun H locs X => ?_)
          refine lv_iinc (v := (y4 + 1)) (lv' := [(4, .int (y4 + 1)), (0, .ref (a 2)), (1, .int x1), (2, .int x2), (3, .int x3)]) hx hb dX0_assign_32 hl (k := 4) rfl rfl (by decide) rfl (fun ls hl => ?_)
          refine lv_goto (tgt := 3) hx hb dX0_assign_35 (by decide) ?_
          exact ih3 (y4 + 1) (c_cmap_s σ3 (upd (c_cmap σ3) (ix y4) x3)) (lp_b hf) (Eq.trans (Eq.symm (Eq.trans (if_neg c13) (if_neg c21))) he) _ _ _ X (lv_sub hl [1, 2, 3, 4, 0] rfl)
  exact L3 (((Int32.toInt (x1 + x2)) - (Int32.toInt x1)).toNat) x1 σ rfl rfl _ _ _ X (lv_sub hl [1, 2, 3, 4, 0] rfl)
def fX0_takeBehind (σ : CSt) (x1 : Int32) (x2 : Int32) : CSt := (c_behind_s (fX0_assign σ (c_behind σ) x1 x2) ((c_behind (fX0_assign σ (c_behind σ) x1 x2)) + x1))
theorem hdX0_takeBehind : yX0_takeBehind.cls = RX0 ∧ yX0_takeBehind.cls ≠ "java/lang/invoke/MethodHandle" ∧ yX0_takeBehind.cls ≠ "java/lang/invoke/VarHandle" ∧ (parseMethodDescriptor yX0_takeBehind.desc).map (fun d => d.parameters.length) = some 2 := by decide +kernel
set_option maxHeartbeats 250000 in
set_option maxRecDepth 100000 in
theorem kX0_takeBehind (l : Launch) (D : va_G) (a : Nat → Nat) (cI cZ : ClassId) (σ : CSt) (x1 : Int32) (x2 : Int32) : CU l D (tyIZ cI cZ) (wC a cI cZ) yX0_takeBehind cX0_takeBehind 3 (rmk 1 24) [.ref (a 2), .int x1, .int x2] σ (fX0_takeBehind σ x1 x2) := by
  refine CU.of pnX0 ⟨rfl, rfl⟩ (Nat.le_of_ble_eq_true rfl) (fun p e s m args below meth c A Q ls C X hA hl ret => ?_)
  have C : Cx p s m args meth c cX0_takeBehind 3 RX0 D (tyIZ cI cZ) := C
  have hx := C.1
  have hb := C.2.1
  have hl : lv_has ls 3 [(0, .ref (a 2)), (1, .int x1), (2, .int x2)] := hl
  refine lv_aload_n hx hb dX0_takeBehind_0 rfl (lv_at hl 0 rfl) ?_
  refine lv_aload_n hx hb dX0_takeBehind_1 rfl (lv_at hl 0 rfl) ?_
  refine cg_X0_X0_behind (v := (c_behind σ)) C X rfl dX0_takeBehind_2 ?_
  refine lv_iload_n hx hb dX0_takeBehind_5 rfl (lv_at hl 1 rfl) ?_
  refine lv_iload_n hx hb dX0_takeBehind_6 rfl (lv_at hl 2 rfl) ?_
  refine callVU (rest := []) C hA (wC_sh a cI cZ) X (kX0_assign l D a cI cZ _ (c_behind σ) x1 x2) (cwV 3 C.2.2.2.2.1 (gV wl_X0_22 wt_yX0_assign ws_yX0_assign wi_X0 wk_yX0_assign) rfl rfl rfl hdX0_assign ⟨Nat.le_of_ble_eq_true rfl, Nat.le_of_ble_eq_true rfl⟩) (ci := 0) (q0 := 2) rfl rfl rfl hl.1 rfl (Nat.le_of_ble_eq_true rfl) dX0_takeBehind_7 ⟨Nat.le_refl 0, Nat.le_refl 0⟩ (fun H locs X => ?_)
  refine lv_aload_n hx hb dX0_takeBehind_10 rfl (lv_at hl 0 rfl) ?_
  refine lv_dup hx hb dX0_takeBehind_11 rfl ?_
  refine cg_X0_X0_behind (v := (c_behind (fX0_assign σ (c_behind σ) x1 x2))) C X rfl dX0_takeBehind_12 ?_
  refine lv_iload_n hx hb dX0_takeBehind_15 rfl (lv_at hl 1 rfl) ?_
  refine lv_iadd hx hb dX0_takeBehind_16 ?_
  refine cp_X0_X0_behind C X dX0_takeBehind_17 (fun H locs X => ?_)
  exact ret dX0_takeBehind_20 rfl X
def fX0_leastPlace_L4 (z1 : Int32) : Nat → Int32 → Int32 → CSt → Int32
  | 0, y2, y3, σ0 => (-1 : Int32)
  | f + 1, y2, y3, σ0 => (if ((c_cmap σ0) (ix y3)) = (-1 : Int32) then (if (y2 + (1 : Int32)) = z1 then ((y3 + (1 : Int32)) - z1) else (fX0_leastPlace_L4 z1 f (y2 + (1 : Int32)) (y3 + 1) σ0)) else (if (0 : Int32) = z1 then ((y3 + (1 : Int32)) - z1) else (fX0_leastPlace_L4 z1 f (0 : Int32) (y3 + 1) σ0)))
def fX0_leastPlace (σ : CSt) (x1 : Int32) : Int32 := (fX0_leastPlace_L4 x1 (((Int32.toInt (200 : Int32)) - (Int32.toInt (0 : Int32))).toNat) (0 : Int32) (0 : Int32) σ)
theorem hdX0_leastPlace : yX0_leastPlace.cls = RX0 ∧ yX0_leastPlace.cls ≠ "java/lang/invoke/MethodHandle" ∧ yX0_leastPlace.cls ≠ "java/lang/invoke/VarHandle" ∧ (parseMethodDescriptor yX0_leastPlace.desc).map (fun d => d.parameters.length) = some 1 := by decide +kernel
set_option maxHeartbeats 250000 in
set_option maxRecDepth 100000 in
theorem kX0_leastPlace (l : Launch) (D : va_G) (a : Nat → Nat) (cI cZ : ClassId) (σ : CSt) (x1 : Int32) : CR l D (tyIZ cI cZ) (wC a cI cZ) yX0_leastPlace cX0_leastPlace 4 .int (rmk 0 0) [.ref (a 2), .int x1] σ (fX0_leastPlace σ x1) σ := by
  refine CR.of pnX0 ⟨rfl, rfl⟩ (Nat.le_of_ble_eq_true rfl) rfl (fun p e s m args below meth c A Q ls C X hA hl ret => ?_)
  have C : Cx p s m args meth c cX0_leastPlace 4 RX0 D (tyIZ cI cZ) := C
  have hx := C.1
  have hb := C.2.1
  have hl : lv_has ls 4 [(0, .ref (a 2)), (1, .int x1)] := hl
  refine lv_iconst (v := (0)) hx hb dX0_leastPlace_0 (by decide) ?_
  refine lv_istore_n (lv' := [(2, .int (0 : Int32)), (0, .ref (a 2)), (1, .int x1)]) hx hb dX0_leastPlace_1 rfl hl (by decide) rfl (fun ls hl => ?_)
  refine lv_iconst (v := (0)) hx hb dX0_leastPlace_2 (by decide) ?_
  refine lv_istore_n (lv' := [(3, .int (0 : Int32)), (2, .int (0 : Int32)), (0, .ref (a 2)), (1, .int x1)]) hx hb dX0_leastPlace_3 rfl hl (by decide) rfl (fun ls hl => ?_)
  have L4 : ∀ (f : Nat) (y2 : Int32) (y3 : Int32) (hf : ((Int32.toInt (200 : Int32)) - (Int32.toInt y3)).toNat = f) (hnn : 0 ≤ Int32.toInt y3) (he : fX0_leastPlace_L4 x1 f y2 y3 σ = (fX0_leastPlace σ x1)) (H : Heap) (locs : List Loc) (ls : Array Slot) (X : Sx A D (wC a cI cZ σ) s H locs) (hl : lv_has ls 4 [(0, .ref (a 2)), (1, .int x1), (2, .int y2), (3, .int y3)]), W p l e (rmk 0 0) s m args below meth c H locs 0 0 Q (F0 m 4 ls []) := by
    intro f
    induction f with
    | zero =>
      intro y2 y3 hf hnn he H locs ls X hl
      refine lv_iload_n hx hb dX0_leastPlace_4 rfl (lv_at hl 3 rfl) ?_
      refine lv_sipush (v := (200)) hx hb dX0_leastPlace_5 (by decide) ?_
      refine lv_icmp_ge (tgt := 46) hx hb dX0_leastPlace_8 (by decide) (fun c8 => ?_) (fun c8 => (lp_z hf c8).elim)
      refine lv_iconst (v := (-1)) hx hb dX0_leastPlace_46 (by decide) ?_
      exact ret dX0_leastPlace_47 (congrArg (fun z => (z, _)) he) X
    | succ f ih4 =>
      intro y2 y3 hf hnn he H locs ls X hl
      refine lv_iload_n hx hb dX0_leastPlace_4 rfl (lv_at hl 3 rfl) ?_
      refine lv_sipush (v := (200)) hx hb dX0_leastPlace_5 (by decide) ?_
      refine lv_icmp_ge (tgt := 46) hx hb dX0_leastPlace_8 (by decide) (fun c8 => (lp_s hf c8).elim) (fun c8 => ?_)
      refine lv_aload_n hx hb dX0_leastPlace_11 rfl (lv_at hl 0 rfl) ?_
      refine cg_X0_X0_things C X dX0_leastPlace_12 ?_
      refine lv_iload_n hx hb dX0_leastPlace_15 rfl (lv_at hl 3 rfl) ?_
      refine ca_cmap (v := ((c_cmap σ) (ix y3))) C X (lp_in hnn hf (show (Int32.toInt (200 : Int32) : Int) ≤ 200 by decide)) rfl dX0_leastPlace_16 ?_
      refine lv_iconst (v := (-1)) hx hb dX0_leastPlace_17 (by decide) ?_
      refine lv_icmp_ne (tgt := 27) hx hb dX0_leastPlace_18 (by decide) (fun c18 => ?_) (fun c18 => ?_)
      · refine lv_iconst (v := (0)) hx hb dX0_leastPlace_27 (by decide) ?_
        refine lv_istore_n (lv' := [(2, .int (0 : Int32)), (0, .ref (a 2)), (1, .int x1), (3, .int y3)]) hx hb dX0_leastPlace_28 rfl hl (by decide) rfl (fun ls hl => ?_)
        refine lv_iload_n hx hb dX0_leastPlace_29 rfl (lv_at hl 0 rfl) ?_
        refine lv_iload_n hx hb dX0_leastPlace_30 rfl (lv_at hl 2 rfl) ?_
        refine lv_icmp_ne (tgt := 40) hx hb dX0_leastPlace_31 (by decide) (fun c31 => ?_) (fun c31 => ?_)
        · refine lv_iinc (v := (y3 + 1)) (lv' := [(3, .int (y3 + 1)), (2, .int (0 : Int32)), (0, .ref (a 2)), (1, .int x1)]) hx hb dX0_leastPlace_40 hl (k := 3) rfl rfl (by decide) rfl (fun ls hl => ?_)
          refine lv_goto (tgt := 4) hx hb dX0_leastPlace_43 (by decide) ?_
          exact ih4 (0 : Int32) (y3 + 1) (lp_b hf) (lp_nn hnn hf) (Eq.trans (Eq.symm (Eq.trans (if_neg c18) (if_neg c31))) he) _ _ _ X (lv_sub hl [2, 3, 1, 0] rfl)
        · refine lv_iload_n hx hb dX0_leastPlace_34 rfl (lv_at hl 3 rfl) ?_
          refine lv_iconst (v := (1)) hx hb dX0_leastPlace_35 (by decide) ?_
          refine lv_iadd hx hb dX0_leastPlace_36 ?_
          refine lv_iload_n hx hb dX0_leastPlace_37 rfl (lv_at hl 2 rfl) ?_
          refine lv_isub hx hb dX0_leastPlace_38 ?_
          exact ret dX0_leastPlace_39 (congrArg (fun z => (z, _)) (Eq.trans (Eq.symm (Eq.trans (if_neg c18) (if_pos c31))) he)) X
      · refine lv_iload_n hx hb dX0_leastPlace_21 rfl (lv_at hl 2 rfl) ?_
        refine lv_iconst (v := (1)) hx hb dX0_leastPlace_22 (by decide) ?_
        refine lv_iadd hx hb dX0_leastPlace_23 ?_
        refine lv_goto (tgt := 28) hx hb dX0_leastPlace_24 (by decide) ?_
        refine lv_istore_n (lv' := [(2, .int (y2 + (1 : Int32))), (0, .ref (a 2)), (1, .int x1), (3, .int y3)]) hx hb dX0_leastPlace_28 rfl hl (by decide) rfl (fun ls hl => ?_)
        refine lv_iload_n hx hb dX0_leastPlace_29 rfl (lv_at hl 0 rfl) ?_
        refine lv_iload_n hx hb dX0_leastPlace_30 rfl (lv_at hl 2 rfl) ?_
        refine lv_icmp_ne (tgt := 40) hx hb dX0_leastPlace_31 (by decide) (fun c31 => ?_) (fun c31 => ?_)
        · refine lv_iinc (v := (y3 + 1)) (lv' := [(3, .int (y3 + 1)), (2, .int (y2 + (1 : Int32))), (0, .ref (a 2)), (1, .int x1)]) hx hb dX0_leastPlace_40 hl (k := 3) rfl rfl (by decide) rfl (fun ls hl => ?_)
          refine lv_goto (tgt := 4) hx hb dX0_leastPlace_43 (by decide) ?_
          exact ih4 (y2 + (1 : Int32)) (y3 + 1) (lp_b hf) (lp_nn hnn hf) (Eq.trans (Eq.symm (Eq.trans (if_pos c18) (if_neg c31))) he) _ _ _ X (lv_sub hl [2, 3, 1, 0] rfl)
        · refine lv_iload_n hx hb dX0_leastPlace_34 rfl (lv_at hl 3 rfl) ?_
          refine lv_iconst (v := (1)) hx hb dX0_leastPlace_35 (by decide) ?_
          refine lv_iadd hx hb dX0_leastPlace_36 ?_
          refine lv_iload_n hx hb dX0_leastPlace_37 rfl (lv_at hl 2 rfl) ?_
          refine lv_isub hx hb dX0_leastPlace_38 ?_
          exact ret dX0_leastPlace_39 (congrArg (fun z => (z, _)) (Eq.trans (Eq.symm (Eq.trans (if_pos c18) (if_pos c31))) he)) X
  exact L4 (((Int32.toInt (200 : Int32)) - (Int32.toInt (0 : Int32))).toNat) (0 : Int32) (0 : Int32) rfl (by decide) rfl _ _ _ X (lv_sub hl [2, 3, 1, 0] rfl)
def fX0_countFree_L4 : Nat → Int32 → Int32 → CSt → Int32
  | 0, y1, y2, σ0 => y1
  | f + 1, y1, y2, σ0 => (if ((c_cmap σ0) (ix y2)) = (-1 : Int32) then (fX0_countFree_L4 f (y1 + 1) (y2 + 1) σ0) else (fX0_countFree_L4 f y1 (y2 + 1) σ0))
def fX0_countFree (σ : CSt) : Int32 := (fX0_countFree_L4 (((Int32.toInt (200 : Int32)) - (Int32.toInt (0 : Int32))).toNat) (0 : Int32) (0 : Int32) σ)
theorem hdX0_countFree : yX0_countFree.cls = RX0 ∧ yX0_countFree.cls ≠ "java/lang/invoke/MethodHandle" ∧ yX0_countFree.cls ≠ "java/lang/invoke/VarHandle" ∧ (parseMethodDescriptor yX0_countFree.desc).map (fun d => d.parameters.length) = some 0 := by decide +kernel
set_option maxHeartbeats 250000 in
set_option maxRecDepth 100000 in
theorem kX0_countFree (l : Launch) (D : va_G) (a : Nat → Nat) (cI cZ : ClassId) (σ : CSt) : CR l D (tyIZ cI cZ) (wC a cI cZ) yX0_countFree cX0_countFree 3 .int (rmk 0 0) [.ref (a 2)] σ (fX0_countFree σ) σ := by
  refine CR.of pnX0 ⟨rfl, rfl⟩ (Nat.le_of_ble_eq_true rfl) rfl (fun p e s m args below meth c A Q ls C X hA hl ret => ?_)
  have C : Cx p s m args meth c cX0_countFree 3 RX0 D (tyIZ cI cZ) := C
  have hx := C.1
  have hb := C.2.1
  have hl : lv_has ls 3 [(0, .ref (a 2))] := hl
  refine lv_iconst (v := (0)) hx hb dX0_countFree_0 (by decide) ?_
  refine lv_istore_n (lv' := [(1, .int (0 : Int32)), (0, .ref (a 2))]) hx hb dX0_countFree_1 rfl hl (by decide) rfl (fun ls hl => ?_)
  refine lv_iconst (v := (0)) hx hb dX0_countFree_2 (by decide) ?_
  refine lv_istore_n (lv' := [(2, .int (0 : Int32)), (1, .int (0 : Int32)), (0, .ref (a 2))]) hx hb dX0_countFree_3 rfl hl (by decide) rfl (fun ls hl => ?_)
  have L4 : ∀ (f : Nat) (y1 : Int32) (y2 : Int32) (hf : ((Int32.toInt (200 : Int32)) - (Int32.toInt y2)).toNat = f) (hnn : 0 ≤ Int32.toInt y2) (he : fX0_countFree_L4 f y1 y2 σ = (fX0_countFree σ)) (H : Heap) (locs : List Loc) (ls : Array Slot) (X : Sx A D (wC a cI cZ σ) s H locs) (hl : lv_has ls 3 [(0, .ref (a 2)), (1, .int y1), (2, .int y2)]), W p l e (rmk 0 0) s m args below meth c H locs 0 0 Q (F0 m 4 ls []) := by
    intro f
    induction f with
    | zero =>
      intro y1 y2 hf hnn he H locs ls X hl
      refine lv_iload_n hx hb dX0_countFree_4 rfl (lv_at hl 2 rfl) ?_
      refine lv_sipush (v := (200)) hx hb dX0_countFree_5 (by decide) ?_
      refine lv_icmp_ge (tgt := 30) hx hb dX0_countFree_8 (by decide) (fun c8 => ?_) (fun c8 => (lp_z hf c8).elim)
      refine lv_iload_n hx hb dX0_countFree_30 rfl (lv_at hl 1 rfl) ?_
      exact ret dX0_countFree_31 (congrArg (fun z => (z, _)) he) X
    | succ f ih4 =>
      intro y1 y2 hf hnn he H locs ls X hl
      refine lv_iload_n hx hb dX0_countFree_4 rfl (lv_at hl 2 rfl) ?_
      refine lv_sipush (v := (200)) hx hb dX0_countFree_5 (by decide) ?_
      refine lv_icmp_ge (tgt := 30) hx hb dX0_countFree_8 (by decide) (fun c8 => (lp_s hf c8).elim) (fun c8 => ?_)
      refine lv_aload_n hx hb dX0_countFree_11 rfl (lv_at hl 0 rfl) ?_
      refine cg_X0_X0_things C X dX0_countFree_12 ?_
      refine lv_iload_n hx hb dX0_countFree_15 rfl (lv_at hl 2 rfl) ?_
      refine ca_cmap (v := ((c_cmap σ) (ix y2))) C X (lp_in hnn hf (show (Int32.toInt (200 : Int32) : Int) ≤ 200 by decide)) rfl dX0_countFree_16 ?_
      refine lv_iconst (v := (-1)) hx hb dX0_countFree_17 (by decide) ?_
      refine lv_icmp_ne (tgt := 24) hx hb dX0_countFree_18 (by decide) (fun c18 => ?_) (fun c18 => ?_)
      · refine lv_iinc (v := (y2 + 1)) (lv' := [(2, .int (y2 + 1)), (0, .ref (a 2)), (1, .int y1)]) hx hb dX0_countFree_24 hl (k := 2) rfl rfl (by decide) rfl (fun ls hl => ?_)
        refine lv_goto (tgt := 4) hx hb dX0_countFree_27 (by decide) ?_
        exact ih4 y1 (y2 + 1) (lp_b hf) (lp_nn hnn hf) (Eq.trans (Eq.symm (if_neg c18)) he) _ _ _ X (lv_sub hl [1, 2, 0] rfl)
      · refine lv_iinc (v := (y1 + 1)) (lv' := [(1, .int (y1 + 1)), (0, .ref (a 2)), (2, .int y2)]) hx hb dX0_countFree_21 hl (k := 1) rfl rfl (by decide) rfl (fun ls hl => ?_)
        refine lv_iinc (v := (y2 + 1)) (lv' := [(2, .int (y2 + 1)), (1, .int (y1 + 1)), (0, .ref (a 2))]) hx hb dX0_countFree_24 hl (k := 2) rfl rfl (by decide) rfl (fun ls hl => ?_)
        refine lv_goto (tgt := 4) hx hb dX0_countFree_27 (by decide) ?_
        exact ih4 (y1 + 1) (y2 + 1) (lp_b hf) (lp_nn hnn hf) (Eq.trans (Eq.symm (if_pos c18)) he) _ _ _ X (lv_sub hl [2, 1, 0] rfl)
  exact L4 (((Int32.toInt (200 : Int32)) - (Int32.toInt (0 : Int32))).toNat) (0 : Int32) (0 : Int32) rfl (by decide) rfl _ _ _ X (lv_sub hl [2, 1, 0] rfl)
def fX0_longestFree_L6 : Nat → Int32 → Int32 → Int32 → CSt → Int32
  | 0, y1, y2, y3, σ0 => y1
  | f + 1, y1, y2, y3, σ0 => (if ((c_cmap σ0) (ix y3)) = (-1 : Int32) then (fX0_longestFree_L6 f (if y1 < (y2 + (1 : Int32)) then (y2 + (1 : Int32)) else y1) (y2 + (1 : Int32)) (y3 + 1) σ0) else (fX0_longestFree_L6 f (if y1 < (0 : Int32) then (0 : Int32) else y1) (0 : Int32) (y3 + 1) σ0))
def fX0_longestFree (σ : CSt) : Int32 := (fX0_longestFree_L6 (((Int32.toInt (200 : Int32)) - (Int32.toInt (0 : Int32))).toNat) (0 : Int32) (0 : Int32) (0 : Int32) σ)
theorem hdX0_longestFree : yX0_longestFree.cls = RX0 ∧ yX0_longestFree.cls ≠ "java/lang/invoke/MethodHandle" ∧ yX0_longestFree.cls ≠ "java/lang/invoke/VarHandle" ∧ (parseMethodDescriptor yX0_longestFree.desc).map (fun d => d.parameters.length) = some 0 := by decide +kernel
set_option maxHeartbeats 250000 in
set_option maxRecDepth 100000 in
theorem kX0_longestFree (l : Launch) (D : va_G) (a : Nat → Nat) (cI cZ : ClassId) (σ : CSt) : CR l D (tyIZ cI cZ) (wC a cI cZ) yX0_longestFree cX0_longestFree 4 .int (rmk 1 29) [.ref (a 2)] σ (fX0_longestFree σ) σ := by
  refine CR.of pnX0 ⟨rfl, rfl⟩ (Nat.le_of_ble_eq_true rfl) rfl (fun p e s m args below meth c A Q ls C X hA hl ret => ?_)
  have C : Cx p s m args meth c cX0_longestFree 4 RX0 D (tyIZ cI cZ) := C
  have hx := C.1
  have hb := C.2.1
  have hl : lv_has ls 4 [(0, .ref (a 2))] := hl
  refine lv_iconst (v := (0)) hx hb dX0_longestFree_0 (by decide) ?_
  refine lv_istore_n (lv' := [(1, .int (0 : Int32)), (0, .ref (a 2))]) hx hb dX0_longestFree_1 rfl hl (by decide) rfl (fun ls hl => ?_)
  refine lv_iconst (v := (0)) hx hb dX0_longestFree_2 (by decide) ?_
  refine lv_istore_n (lv' := [(2, .int (0 : Int32)), (1, .int (0 : Int32)), (0, .ref (a 2))]) hx hb dX0_longestFree_3 rfl hl (by decide) rfl (fun ls hl => ?_)
  refine lv_iconst (v := (0)) hx hb dX0_longestFree_4 (by decide) ?_
  refine lv_istore_n (lv' := [(3, .int (0 : Int32)), (2, .int (0 : Int32)), (1, .int (0 : Int32)), (0, .ref (a 2))]) hx hb dX0_longestFree_5 rfl hl (by decide) rfl (fun ls hl => ?_)
  have L6 : ∀ (f : Nat) (y1 : Int32) (y2 : Int32) (y3 : Int32) (hf : ((Int32.toInt (200 : Int32)) - (Int32.toInt y3)).toNat = f) (hnn : 0 ≤ Int32.toInt y3) (he : fX0_longestFree_L6 f y1 y2 y3 σ = (fX0_longestFree σ)) (H : Heap) (locs : List Loc) (ls : Array Slot) (X : Sx A D (wC a cI cZ σ) s H locs) (hl : lv_has ls 4 [(0, .ref (a 2)), (1, .int y1), (2, .int y2), (3, .int y3)]), W p l e (rmk 1 29) s m args below meth c H locs 0 0 Q (F0 m 6 ls []) := by
    intro f
    induction f with
    | zero =>
      intro y1 y2 y3 hf hnn he H locs ls X hl
      refine lv_iload_n hx hb dX0_longestFree_6 rfl (lv_at hl 3 rfl) ?_
      refine lv_sipush (v := (200)) hx hb dX0_longestFree_7 (by decide) ?_
      refine lv_icmp_ge (tgt := 43) hx hb dX0_longestFree_10 (by decide) (fun c10 => ?_) (fun c10 => (lp_z hf c10).elim)
      refine lv_iload_n hx hb dX0_longestFree_43 rfl (lv_at hl 1 rfl) ?_
      exact ret dX0_longestFree_44 (congrArg (fun z => (z, _)) he) X
    | succ f ih6 =>
      intro y1 y2 y3 hf hnn he H locs ls X hl
      refine lv_iload_n hx hb dX0_longestFree_6 rfl (lv_at hl 3 rfl) ?_
      refine lv_sipush (v := (200)) hx hb dX0_longestFree_7 (by decide) ?_
      refine lv_icmp_ge (tgt := 43) hx hb dX0_longestFree_10 (by decide) (fun c10 => (lp_s hf c10).elim) (fun c10 => ?_)
      refine lv_aload_n hx hb dX0_longestFree_13 rfl (lv_at hl 0 rfl) ?_
      refine cg_X0_X0_things C X dX0_longestFree_14 ?_
      refine lv_iload_n hx hb dX0_longestFree_17 rfl (lv_at hl 3 rfl) ?_
      refine ca_cmap (v := ((c_cmap σ) (ix y3))) C X (lp_in hnn hf (show (Int32.toInt (200 : Int32) : Int) ≤ 200 by decide)) rfl dX0_longestFree_18 ?_
      refine lv_iconst (v := (-1)) hx hb dX0_longestFree_19 (by decide) ?_
      refine lv_icmp_ne (tgt := 29) hx hb dX0_longestFree_20 (by decide) (fun c20 => ?_) (fun c20 => ?_)
      · refine lv_iconst (v := (0)) hx hb dX0_longestFree_29 (by decide) ?_
        refine lv_istore_n (lv' := [(2, .int (0 : Int32)), (0, .ref (a 2)), (1, .int y1), (3, .int y3)]) hx hb dX0_longestFree_30 rfl hl (by decide) rfl (fun ls hl => ?_)
        refine lv_iload_n hx hb dX0_longestFree_31 rfl (lv_at hl 2 rfl) ?_
        refine lv_iload_n hx hb dX0_longestFree_32 rfl (lv_at hl 0 rfl) ?_
        refine va_mmax hx hb (C.2.2.1.trans hl.1.symm) C.2.2.2.1 (C.2.2.2.2.1 _ wl_X0_26) (C.2.2.2.2.1 _ wz_Lib_Math_max_name) (C.2.2.2.2.1 _ wi_J9) (C.2.2.2.2.1 _ wk_Lib_Math_max_name) (by decide) (Nat.le_of_ble_eq_true rfl) (Nat.le_refl 0) (Nat.le_refl 0) dX0_longestFree_33 ?_
        refine lv_istore_n (lv' := [(1, .int (if y1 < (0 : Int32) then (0 : Int32) else y1)), (2, .int (0 : Int32)), (0, .ref (a 2)), (3, .int y3)]) hx hb dX0_longestFree_36 rfl hl (by decide) rfl (fun ls hl => ?_)
        refine lv_iinc (v := (y3 + 1)) (lv' := [(3, .int (y3 + 1)), (1, .int (if y1 < (0 : Int32) then (0 : Int32) else y1)), (2, .int (0 : Int32)), (0, .ref (a 2))]) hx hb dX0_longestFree_37 hl (k := 3) rfl rfl (by decide) rfl (fun ls hl => ?_)
        refine lv_goto (tgt := 6) hx hb dX0_longestFree_40 (by decide) ?_
        exact ih6 (if y1 < (0 : Int32) then (0 : Int32) else y1) (0 : Int32) (y3 + 1) (lp_b hf) (lp_nn hnn hf) (Eq.trans (Eq.symm (if_neg c20)) he) _ _ _ X (lv_sub hl [3, 1, 2, 0] rfl)
      · refine lv_iload_n hx hb dX0_longestFree_23 rfl (lv_at hl 2 rfl) ?_
        refine lv_iconst (v := (1)) hx hb dX0_longestFree_24 (by decide) ?_
        refine lv_iadd hx hb dX0_longestFree_25 ?_
        refine lv_goto (tgt := 30) hx hb dX0_longestFree_26 (by decide) ?_
        refine lv_istore_n (lv' := [(2, .int (y2 + (1 : Int32))), (0, .ref (a 2)), (1, .int y1), (3, .int y3)]) hx hb dX0_longestFree_30 rfl hl (by decide) rfl (fun ls hl => ?_)
        refine lv_iload_n hx hb dX0_longestFree_31 rfl (lv_at hl 2 rfl) ?_
        refine lv_iload_n hx hb dX0_longestFree_32 rfl (lv_at hl 0 rfl) ?_
        refine va_mmax hx hb (C.2.2.1.trans hl.1.symm) C.2.2.2.1 (C.2.2.2.2.1 _ wl_X0_26) (C.2.2.2.2.1 _ wz_Lib_Math_max_name) (C.2.2.2.2.1 _ wi_J9) (C.2.2.2.2.1 _ wk_Lib_Math_max_name) (by decide) (Nat.le_of_ble_eq_true rfl) (Nat.le_refl 0) (Nat.le_refl 0) dX0_longestFree_33 ?_
        refine lv_istore_n (lv' := [(1, .int (if y1 < (y2 + (1 : Int32)) then (y2 + (1 : Int32)) else y1)), (2, .int (y2 + (1 : Int32))), (0, .ref (a 2)), (3, .int y3)]) hx hb dX0_longestFree_36 rfl hl (by decide) rfl (fun ls hl => ?_)
        refine lv_iinc (v := (y3 + 1)) (lv' := [(3, .int (y3 + 1)), (1, .int (if y1 < (y2 + (1 : Int32)) then (y2 + (1 : Int32)) else y1)), (2, .int (y2 + (1 : Int32))), (0, .ref (a 2))]) hx hb dX0_longestFree_37 hl (k := 3) rfl rfl (by decide) rfl (fun ls hl => ?_)
        refine lv_goto (tgt := 6) hx hb dX0_longestFree_40 (by decide) ?_
        exact ih6 (if y1 < (y2 + (1 : Int32)) then (y2 + (1 : Int32)) else y1) (y2 + (1 : Int32)) (y3 + 1) (lp_b hf) (lp_nn hnn hf) (Eq.trans (Eq.symm (if_pos c20)) he) _ _ _ X (lv_sub hl [3, 1, 2, 0] rfl)
  exact L6 (((Int32.toInt (200 : Int32)) - (Int32.toInt (0 : Int32))).toNat) (0 : Int32) (0 : Int32) (0 : Int32) rfl (by decide) rfl _ _ _ X (lv_sub hl [3, 2, 1, 0] rfl)
def fX5_isWeakHolder (σ : CSt) (x0 : Int32) : Int32 := (if x0 < (0 : Int32) then (0 : Int32) else (if (6 : Int32) ≤ x0 then (0 : Int32) else (1 : Int32)))
theorem hdX5_isWeakHolder : yX5_isWeakHolder.cls = RX5 ∧ yX5_isWeakHolder.cls ≠ "java/lang/invoke/MethodHandle" ∧ yX5_isWeakHolder.cls ≠ "java/lang/invoke/VarHandle" ∧ (parseMethodDescriptor yX5_isWeakHolder.desc).map (fun d => d.parameters.length) = some 1 := by decide +kernel
theorem bX5_isWeakHolder (σ : CSt) (x0 : Int32) : (fX5_isWeakHolder σ x0) = 0 ∨ (fX5_isWeakHolder σ x0) = 1 := by
  unfold fX5_isWeakHolder
  (repeat' split) <;> first | exact Or.inl rfl | exact Or.inr rfl
set_option maxHeartbeats 250000 in
set_option maxRecDepth 100000 in
theorem kX5_isWeakHolder (l : Launch) (D : va_G) (a : Nat → Nat) (cI cZ : ClassId) (σ : CSt) (x0 : Int32) : CR l D (tyIZ cI cZ) (wC a cI cZ) yX5_isWeakHolder cX5_isWeakHolder 1 .boolean (rmk 0 0) [.int x0] σ (fX5_isWeakHolder σ x0) σ := by
  refine CR.of pnX5 ⟨rfl, rfl⟩ (Nat.le_of_ble_eq_true rfl) (nar_b (bX5_isWeakHolder σ x0)) (fun p e s m args below meth c A Q ls C X hA hl ret => ?_)
  have C : Cx p s m args meth c cX5_isWeakHolder 1 RX5 D (tyIZ cI cZ) := C
  have hx := C.1
  have hb := C.2.1
  have hl : lv_has ls 1 [(0, .int x0)] := hl
  refine lv_iload_n hx hb dX5_isWeakHolder_0 rfl (lv_at hl 0 rfl) ?_
  refine lv_if_lt (tgt := 14) hx hb dX5_isWeakHolder_1 (by decide) (fun c1 => ?_) (fun c1 => ?_)
  · refine lv_iconst (v := (0)) hx hb dX5_isWeakHolder_14 (by decide) ?_
    exact ret dX5_isWeakHolder_15 (congrArg (fun z => (z, _)) (Eq.symm (if_pos c1))) X
  · refine lv_iload_n hx hb dX5_isWeakHolder_4 rfl (lv_at hl 0 rfl) ?_
    refine lv_bipush (v := (6)) hx hb dX5_isWeakHolder_5 (by decide) ?_
    refine lv_icmp_ge (tgt := 14) hx hb dX5_isWeakHolder_7 (by decide) (fun c7 => ?_) (fun c7 => ?_)
    · refine lv_iconst (v := (0)) hx hb dX5_isWeakHolder_14 (by decide) ?_
      exact ret dX5_isWeakHolder_15 (congrArg (fun z => (z, _)) (Eq.symm (Eq.trans (if_neg c1) (if_pos c7)))) X
    · refine lv_iconst (v := (1)) hx hb dX5_isWeakHolder_10 (by decide) ?_
      refine lv_goto (tgt := 15) hx hb dX5_isWeakHolder_11 (by decide) ?_
      exact ret dX5_isWeakHolder_15 (congrArg (fun z => (z, _)) (Eq.symm (Eq.trans (if_neg c1) (if_neg c7)))) X
theorem in_isWeakHolder {σ : CSt} {x : Int32} (h : ¬ fX5_isWeakHolder σ x = 0) : vp_in x 6 := by
  unfold fX5_isWeakHolder at h
  split at h
  · exact absurd rfl h
  · split at h
    · exact absurd rfl h
    · rename_i h1 h3
      exact vp_in_iff.mpr (by have a1 := i32_nlt h1; have a3 := i32_nle h3; have q : (6 : Int32).toInt = 6 := rfl; have q2 : (0 : Int32).toInt = 0 := rfl; omega)

def fX1_empty_L2 : Nat → Int32 → CSt → CSt
  | 0, y1, σ2 => σ2
  | f + 1, y1, σ2 => (fX1_empty_L2 f (y1 + 1) (c_hheld_s σ2 (upd (c_hheld σ2) (ix y1) (-1 : Int32))))
def fX1_empty_L23 : Nat → Int32 → CSt → CSt
  | 0, y1, σ23 => (c_wishes_s σ23 (0 : Int32))
  | f + 1, y1, σ23 => (fX1_empty_L23 f (y1 + 1) (c_named_s σ23 (upd (c_named σ23) (ix y1) (-1 : Int32))))
def fX1_empty (σ : CSt) : CSt := (fX1_empty_L23 (((Int32.toInt (6 : Int32)) - (Int32.toInt (0 : Int32))).toNat) (0 : Int32) (fX1_empty_L2 (((Int32.toInt (16 : Int32)) - (Int32.toInt (0 : Int32))).toNat) (0 : Int32) σ))
theorem hdX1_empty : yX1_empty.cls = RX1 ∧ yX1_empty.cls ≠ "java/lang/invoke/MethodHandle" ∧ yX1_empty.cls ≠ "java/lang/invoke/VarHandle" ∧ (parseMethodDescriptor yX1_empty.desc).map (fun d => d.parameters.length) = some 0 := by decide +kernel
set_option maxHeartbeats 250000 in
set_option maxRecDepth 100000 in
theorem kX1_empty (l : Launch) (D : va_G) (a : Nat → Nat) (cI cZ : ClassId) (σ : CSt) : CU l D (tyIZ cI cZ) (wC a cI cZ) yX1_empty cX1_empty 2 (rmk 0 0) [.ref (a 3)] σ (fX1_empty σ) := by
  refine CU.of pnX1 ⟨rfl, rfl⟩ (Nat.le_of_ble_eq_true rfl) (fun p e s m args below meth c A Q ls C X hA hl ret => ?_)
  have C : Cx p s m args meth c cX1_empty 2 RX1 D (tyIZ cI cZ) := C
  have hx := C.1
  have hb := C.2.1
  have hl : lv_has ls 2 [(0, .ref (a 3))] := hl
  refine lv_iconst (v := (0)) hx hb dX1_empty_0 (by decide) ?_
  refine lv_istore_n (lv' := [(1, .int (0 : Int32)), (0, .ref (a 3))]) hx hb dX1_empty_1 rfl hl (by decide) rfl (fun ls hl => ?_)
  have L2 : ∀ (res : CSt) (hx2 : ∀ (H : Heap) (locs : List Loc) (ls : Array Slot), Sx A D (wC a cI cZ res) s H locs → lv_has ls 2 [(0, .ref (a 3))] → W p l e (rmk 0 0) s m args below meth c H locs 0 0 Q (F0 m 21 ls [])) (f : Nat) (y1 : Int32) (σ2 : CSt) (hf : ((Int32.toInt (16 : Int32)) - (Int32.toInt y1)).toNat = f) (hnn : 0 ≤ Int32.toInt y1) (he : fX1_empty_L2 f y1 σ2 = res) (H : Heap) (locs : List Loc) (ls : Array Slot) (X : Sx A D (wC a cI cZ σ2) s H locs) (hl : lv_has ls 2 [(0, .ref (a 3)), (1, .int y1)]), W p l e (rmk 0 0) s m args below meth c H locs 0 0 Q (F0 m 2 ls []) := by
    intro res hx2 f
    induction f with
    | zero =>
      intro y1 σ2 hf hnn he H locs ls X hl
      refine lv_iload_n hx hb dX1_empty_2 rfl (lv_at hl 1 rfl) ?_
      refine lv_bipush (v := (16)) hx hb dX1_empty_3 (by decide) ?_
      refine lv_icmp_ge (tgt := 21) hx hb dX1_empty_5 (by decide) (fun c5 => ?_) (fun c5 => (lp_z hf c5).elim)
      exact hx2 _ _ _ (Eq.subst (motive := fun z => Sx A D (wC a cI cZ z) s _ _) he X) (Eq.subst (motive := fun z => lv_has _ 2 [(0, .ref (a 3))]) he (lv_sub hl [0] rfl))
    | succ f ih2 =>
      intro y1 σ2 hf hnn he H locs ls X hl
      refine lv_iload_n hx hb dX1_empty_2 rfl (lv_at hl 1 rfl) ?_
      refine lv_bipush (v := (16)) hx hb dX1_empty_3 (by decide) ?_
      refine lv_icmp_ge (tgt := 21) hx hb dX1_empty_5 (by decide) (fun c5 => (lp_s hf c5).elim) (fun c5 => ?_)
      refine lv_aload_n hx hb dX1_empty_8 rfl (lv_at hl 0 rfl) ?_
      refine cg_X1_X1_held C X dX1_empty_9 ?_
      refine lv_iload_n hx hb dX1_empty_12 rfl (lv_at hl 1 rfl) ?_
      refine lv_iconst (v := (-1)) hx hb dX1_empty_13 (by decide) ?_
      refine cs_hheld (g := (upd (c_hheld σ2) (ix y1) (-1 : Int32))) C X (lp_in hnn hf (show (Int32.toInt (16 : Int32) : Int) ≤ 136 by decide)) rfl dX1_empty_14 (fun H locs X => ?_)
      refine lv_iinc (v := (y1 + 1)) (lv' := [(1, .int (y1 + 1)), (0, .ref (a 3))]) hx hb dX1_empty_15 hl (k := 1) rfl rfl (by decide) rfl (fun ls hl => ?_)
      refine lv_goto (tgt := 2) hx hb dX1_empty_18 (by decide) ?_
      exact ih2 (y1 + 1) (c_hheld_s σ2 (upd (c_hheld σ2) (ix y1) (-1 : Int32))) (lp_b hf) (lp_nn hnn hf) he _ _ _ X (lv_sub hl [1, 0] rfl)
  refine L2 (fX1_empty_L2 (((Int32.toInt (16 : Int32)) - (Int32.toInt (0 : Int32))).toNat) (0 : Int32) σ) (fun H locs ls X hl => ?_) (((Int32.toInt (16 : Int32)) - (Int32.toInt (0 : Int32))).toNat) (0 : Int32) σ rfl (by decide) rfl _ _ _ X (lv_sub hl [1, 0] rfl)
  refine lv_iconst (v := (0)) hx hb dX1_empty_21 (by decide) ?_
  refine lv_istore_n (lv' := [(1, .int (0 : Int32)), (0, .ref (a 3))]) hx hb dX1_empty_22 rfl hl (by decide) rfl (fun ls hl => ?_)
  have L23 : ∀ (f : Nat) (y1 : Int32) (σ23 : CSt) (hf : ((Int32.toInt (6 : Int32)) - (Int32.toInt y1)).toNat = f) (hnn : 0 ≤ Int32.toInt y1) (he : fX1_empty_L23 f y1 σ23 = (fX1_empty σ)) (H : Heap) (locs : List Loc) (ls : Array Slot) (X : Sx A D (wC a cI cZ σ23) s H locs) (hl : lv_has ls 2 [(0, .ref (a 3)), (1, .int y1)]), W p l e (rmk 0 0) s m args below meth c H locs 0 0 Q (F0 m 23 ls []) := by
    intro f
    induction f with
    | zero =>
      intro y1 σ23 hf hnn he H locs ls X hl
      refine lv_iload_n hx hb dX1_empty_23 rfl (lv_at hl 1 rfl) ?_
      refine lv_bipush (v := (6)) hx hb dX1_empty_24 (by decide) ?_
      refine lv_icmp_ge (tgt := 42) hx hb dX1_empty_26 (by decide) (fun c26 => ?_) (fun c26 => (lp_z hf c26).elim)
      refine lv_aload_n hx hb dX1_empty_42 rfl (lv_at hl 0 rfl) ?_
      refine lv_iconst (v := (0)) hx hb dX1_empty_43 (by decide) ?_
      refine cp_X1_X1_wishes C X dX1_empty_44 (fun H locs X => ?_)
      exact ret dX1_empty_47 he X
    | succ f ih23 =>
      intro y1 σ23 hf hnn he H locs ls X hl
      refine lv_iload_n hx hb dX1_empty_23 rfl (lv_at hl 1 rfl) ?_
      refine lv_bipush (v := (6)) hx hb dX1_empty_24 (by decide) ?_
      refine lv_icmp_ge (tgt := 42) hx hb dX1_empty_26 (by decide) (fun c26 => (lp_s hf c26).elim) (fun c26 => ?_)
      refine lv_aload_n hx hb dX1_empty_29 rfl (lv_at hl 0 rfl) ?_
      refine cg_X1_X1_named C X dX1_empty_30 ?_
      refine lv_iload_n hx hb dX1_empty_33 rfl (lv_at hl 1 rfl) ?_
      refine lv_iconst (v := (-1)) hx hb dX1_empty_34 (by decide) ?_
      refine cs_named (g := (upd (c_named σ23) (ix y1) (-1 : Int32))) C X (lp_in hnn hf (show (Int32.toInt (6 : Int32) : Int) ≤ 6 by decide)) rfl dX1_empty_35 (fun H locs X => ?_)
      refine lv_iinc (v := (y1 + 1)) (lv' := [(1, .int (y1 + 1)), (0, .ref (a 3))]) hx hb dX1_empty_36 hl (k := 1) rfl rfl (by decide) rfl (fun ls hl => ?_)
      refine lv_goto (tgt := 23) hx hb dX1_empty_39 (by decide) ?_
      exact ih23 (y1 + 1) (c_named_s σ23 (upd (c_named σ23) (ix y1) (-1 : Int32))) (lp_b hf) (lp_nn hnn hf) he _ _ _ X (lv_sub hl [1, 0] rfl)
  exact L23 (((Int32.toInt (6 : Int32)) - (Int32.toInt (0 : Int32))).toNat) (0 : Int32) (fX1_empty_L2 (((Int32.toInt (16 : Int32)) - (Int32.toInt (0 : Int32))).toNat) (0 : Int32) σ) rfl (by decide) rfl _ _ _ X (lv_sub hl [1, 0] rfl)
def fX1_heldAt (σ : CSt) (x1 : Int32) : Int32 := (if x1 < (0 : Int32) then (-1 : Int32) else (if ((16 : Int32) + (c_wishes σ)) ≤ x1 then (-1 : Int32) else (if (136 : Int32) ≤ x1 then (-1 : Int32) else ((c_hheld σ) (ix x1)))))
theorem hdX1_heldAt : yX1_heldAt.cls = RX1 ∧ yX1_heldAt.cls ≠ "java/lang/invoke/MethodHandle" ∧ yX1_heldAt.cls ≠ "java/lang/invoke/VarHandle" ∧ (parseMethodDescriptor yX1_heldAt.desc).map (fun d => d.parameters.length) = some 1 := by decide +kernel
set_option maxHeartbeats 250000 in
set_option maxRecDepth 100000 in
theorem kX1_heldAt (l : Launch) (D : va_G) (a : Nat → Nat) (cI cZ : ClassId) (σ : CSt) (x1 : Int32) : CR l D (tyIZ cI cZ) (wC a cI cZ) yX1_heldAt cX1_heldAt 2 .int (rmk 0 0) [.ref (a 3), .int x1] σ (fX1_heldAt σ x1) σ := by
  refine CR.of pnX1 ⟨rfl, rfl⟩ (Nat.le_of_ble_eq_true rfl) rfl (fun p e s m args below meth c A Q ls C X hA hl ret => ?_)
  have C : Cx p s m args meth c cX1_heldAt 2 RX1 D (tyIZ cI cZ) := C
  have hx := C.1
  have hb := C.2.1
  have hl : lv_has ls 2 [(0, .ref (a 3)), (1, .int x1)] := hl
  refine lv_iload_n hx hb dX1_heldAt_0 rfl (lv_at hl 1 rfl) ?_
  refine lv_if_lt (tgt := 33) hx hb dX1_heldAt_1 (by decide) (fun c1 => ?_) (fun c1 => ?_)
  · refine lv_iconst (v := (-1)) hx hb dX1_heldAt_33 (by decide) ?_
    exact ret dX1_heldAt_34 (congrArg (fun z => (z, _)) (Eq.symm (if_pos c1))) X
  · refine lv_iload_n hx hb dX1_heldAt_4 rfl (lv_at hl 1 rfl) ?_
    refine lv_bipush (v := (16)) hx hb dX1_heldAt_5 (by decide) ?_
    refine lv_aload_n hx hb dX1_heldAt_7 rfl (lv_at hl 0 rfl) ?_
    refine cg_X1_X1_wishes (v := (c_wishes σ)) C X rfl dX1_heldAt_8 ?_
    refine lv_iadd hx hb dX1_heldAt_11 ?_
    refine lv_icmp_ge (tgt := 33) hx hb dX1_heldAt_12 (by decide) (fun c12 => ?_) (fun c12 => ?_)
    · refine lv_iconst (v := (-1)) hx hb dX1_heldAt_33 (by decide) ?_
      exact ret dX1_heldAt_34 (congrArg (fun z => (z, _)) (Eq.symm (Eq.trans (if_neg c1) (if_pos c12)))) X
    · refine lv_iload_n hx hb dX1_heldAt_15 rfl (lv_at hl 1 rfl) ?_
      refine lv_aload_n hx hb dX1_heldAt_16 rfl (lv_at hl 0 rfl) ?_
      refine cg_X1_X1_held C X dX1_heldAt_17 ?_
      refine va_alen (v := (136)) hx hb C.2.2.2.2.2.1 X.1 14 0 rfl rfl rfl dX1_heldAt_20 ?_
      refine lv_icmp_ge (tgt := 33) hx hb dX1_heldAt_21 (by decide) (fun c21 => ?_) (fun c21 => ?_)
      · refine lv_iconst (v := (-1)) hx hb dX1_heldAt_33 (by decide) ?_
        exact ret dX1_heldAt_34 (congrArg (fun z => (z, _)) (Eq.symm (Eq.trans (if_neg c1) (Eq.trans (if_neg c12) (if_pos c21))))) X
      · refine lv_aload_n hx hb dX1_heldAt_24 rfl (lv_at hl 0 rfl) ?_
        refine cg_X1_X1_held C X dX1_heldAt_25 ?_
        refine lv_iload_n hx hb dX1_heldAt_28 rfl (lv_at hl 1 rfl) ?_
        refine ca_hheld (v := ((c_hheld σ) (ix x1))) C X (vp_in_iff.mpr (by have tc1 := i32_nlt c1; have tc12 := i32_nle c12; have tc21 := i32_nle c21; have q0_ : (0 : Int32).toInt = 0 := rfl; have q1_ : (136 : Int32).toInt = 136 := rfl; omega)) rfl dX1_heldAt_29 ?_
        refine lv_goto (tgt := 34) hx hb dX1_heldAt_30 (by decide) ?_
        exact ret dX1_heldAt_34 (congrArg (fun z => (z, _)) (Eq.symm (Eq.trans (if_neg c1) (Eq.trans (if_neg c12) (if_neg c21))))) X
def fX1_hold (σ : CSt) (x1 : Int32) (x2 : Int32) : Int32 × CSt := (if x1 < (0 : Int32) then (x2, σ) else (if (16 : Int32) ≤ x1 then (x2, σ) else (x2, (c_hheld_s σ (upd (c_hheld σ) (ix x1) x2)))))
theorem hdX1_hold : yX1_hold.cls = RX1 ∧ yX1_hold.cls ≠ "java/lang/invoke/MethodHandle" ∧ yX1_hold.cls ≠ "java/lang/invoke/VarHandle" ∧ (parseMethodDescriptor yX1_hold.desc).map (fun d => d.parameters.length) = some 2 := by decide +kernel
set_option maxHeartbeats 250000 in
set_option maxRecDepth 100000 in
theorem kX1_hold (l : Launch) (D : va_G) (a : Nat → Nat) (cI cZ : ClassId) (σ : CSt) (x1 : Int32) (x2 : Int32) : CR l D (tyIZ cI cZ) (wC a cI cZ) yX1_hold cX1_hold 3 .int (rmk 0 0) [.ref (a 3), .int x1, .int x2] σ (fX1_hold σ x1 x2).1 (fX1_hold σ x1 x2).2 := by
  refine CR.of pnX1 ⟨rfl, rfl⟩ (Nat.le_of_ble_eq_true rfl) rfl (fun p e s m args below meth c A Q ls C X hA hl ret => ?_)
  have C : Cx p s m args meth c cX1_hold 3 RX1 D (tyIZ cI cZ) := C
  have hx := C.1
  have hb := C.2.1
  have hl : lv_has ls 3 [(0, .ref (a 3)), (1, .int x1), (2, .int x2)] := hl
  refine lv_iload_n hx hb dX1_hold_0 rfl (lv_at hl 1 rfl) ?_
  refine lv_if_lt (tgt := 17) hx hb dX1_hold_1 (by decide) (fun c1 => ?_) (fun c1 => ?_)
  · refine lv_iload_n hx hb dX1_hold_17 rfl (lv_at hl 2 rfl) ?_
    exact ret dX1_hold_18 (pe_ (Eq.symm (if_pos c1))) X
  · refine lv_iload_n hx hb dX1_hold_4 rfl (lv_at hl 1 rfl) ?_
    refine lv_bipush (v := (16)) hx hb dX1_hold_5 (by decide) ?_
    refine lv_icmp_ge (tgt := 17) hx hb dX1_hold_7 (by decide) (fun c7 => ?_) (fun c7 => ?_)
    · refine lv_iload_n hx hb dX1_hold_17 rfl (lv_at hl 2 rfl) ?_
      exact ret dX1_hold_18 (pe_ (Eq.symm (Eq.trans (if_neg c1) (if_pos c7)))) X
    · refine lv_aload_n hx hb dX1_hold_10 rfl (lv_at hl 0 rfl) ?_
      refine cg_X1_X1_held C X dX1_hold_11 ?_
      refine lv_iload_n hx hb dX1_hold_14 rfl (lv_at hl 1 rfl) ?_
      refine lv_iload_n hx hb dX1_hold_15 rfl (lv_at hl 2 rfl) ?_
      refine cs_hheld (g := (upd (c_hheld σ) (ix x1) x2)) C X (vp_in_iff.mpr (by have tc1 := i32_nlt c1; have tc7 := i32_nle c7; have q0_ : (0 : Int32).toInt = 0 := rfl; have q1_ : (16 : Int32).toInt = 16 := rfl; omega)) rfl dX1_hold_16 (fun H locs X => ?_)
      refine lv_iload_n hx hb dX1_hold_17 rfl (lv_at hl 2 rfl) ?_
      exact ret dX1_hold_18 (pe_ (Eq.symm (Eq.trans (if_neg c1) (if_neg c7)))) X
def fX1_namedBy (σ : CSt) (x1 : Int32) : Int32 := (if (fX5_isWeakHolder σ x1) = (0 : Int32) then (-1 : Int32) else ((c_named σ) (ix x1)))
theorem hdX1_namedBy : yX1_namedBy.cls = RX1 ∧ yX1_namedBy.cls ≠ "java/lang/invoke/MethodHandle" ∧ yX1_namedBy.cls ≠ "java/lang/invoke/VarHandle" ∧ (parseMethodDescriptor yX1_namedBy.desc).map (fun d => d.parameters.length) = some 1 := by decide +kernel
set_option maxHeartbeats 250000 in
set_option maxRecDepth 100000 in
theorem kX1_namedBy (l : Launch) (D : va_G) (a : Nat → Nat) (cI cZ : ClassId) (σ : CSt) (x1 : Int32) : CR l D (tyIZ cI cZ) (wC a cI cZ) yX1_namedBy cX1_namedBy 2 .int (rmk 1 20) [.ref (a 3), .int x1] σ (fX1_namedBy σ x1) σ := by
  refine CR.of pnX1 ⟨rfl, rfl⟩ (Nat.le_of_ble_eq_true rfl) rfl (fun p e s m args below meth c A Q ls C X hA hl ret => ?_)
  have C : Cx p s m args meth c cX1_namedBy 2 RX1 D (tyIZ cI cZ) := C
  have hx := C.1
  have hb := C.2.1
  have hl : lv_has ls 2 [(0, .ref (a 3)), (1, .int x1)] := hl
  refine lv_iload_n hx hb dX1_namedBy_0 rfl (lv_at hl 1 rfl) ?_
  refine callNR (rest := []) C hA (wC_sh a cI cZ) X (kX5_isWeakHolder l D a cI cZ _ x1) ⟨va_cnB 1 C.2.2.2.2.1 (gCode wk_yX5_isWeakHolder) rfl rfl rfl (C.2.2.2.2.2.2 _ (List.mem_of_getElem? (i := 11) rfl)) (C.2.2.2.2.1 _ wi_X5) hdX5_isWeakHolder.2 ⟨Nat.le_of_ble_eq_true rfl, Nat.le_of_ble_eq_true rfl⟩, C.2.2.2.2.1 _ wz_yX5_isWeakHolder, trivial⟩ rfl hl.1 rfl (Nat.le_of_ble_eq_true rfl) dX1_namedBy_1 ⟨Nat.le_refl 0, Nat.le_refl 0⟩ (fun H locs X => ?_)
  refine lv_if_eq (tgt := 16) hx hb dX1_namedBy_4 (by decide) (fun c4 => ?_) (fun c4 => ?_)
  · refine lv_iconst (v := (-1)) hx hb dX1_namedBy_16 (by decide) ?_
    exact ret dX1_namedBy_17 (congrArg (fun z => (z, _)) (Eq.symm (if_pos c4))) X
  · refine lv_aload_n hx hb dX1_namedBy_7 rfl (lv_at hl 0 rfl) ?_
    refine cg_X1_X1_named C X dX1_namedBy_8 ?_
    refine lv_iload_n hx hb dX1_namedBy_11 rfl (lv_at hl 1 rfl) ?_
    refine ca_named (v := ((c_named σ) (ix x1))) C X (in_isWeakHolder c4) rfl dX1_namedBy_12 ?_
    refine lv_goto (tgt := 17) hx hb dX1_namedBy_13 (by decide) ?_
    exact ret dX1_namedBy_17 (congrArg (fun z => (z, _)) (Eq.symm (if_neg c4))) X
def fX1_name (σ : CSt) (x1 : Int32) (x2 : Int32) : CSt := (if (fX5_isWeakHolder σ x1) = (0 : Int32) then σ else (c_named_s σ (upd (c_named σ) (ix x1) x2)))
theorem hdX1_name : yX1_name.cls = RX1 ∧ yX1_name.cls ≠ "java/lang/invoke/MethodHandle" ∧ yX1_name.cls ≠ "java/lang/invoke/VarHandle" ∧ (parseMethodDescriptor yX1_name.desc).map (fun d => d.parameters.length) = some 2 := by decide +kernel
set_option maxHeartbeats 250000 in
set_option maxRecDepth 100000 in
theorem kX1_name (l : Launch) (D : va_G) (a : Nat → Nat) (cI cZ : ClassId) (σ : CSt) (x1 : Int32) (x2 : Int32) : CU l D (tyIZ cI cZ) (wC a cI cZ) yX1_name cX1_name 3 (rmk 1 20) [.ref (a 3), .int x1, .int x2] σ (fX1_name σ x1 x2) := by
  refine CU.of pnX1 ⟨rfl, rfl⟩ (Nat.le_of_ble_eq_true rfl) (fun p e s m args below meth c A Q ls C X hA hl ret => ?_)
  have C : Cx p s m args meth c cX1_name 3 RX1 D (tyIZ cI cZ) := C
  have hx := C.1
  have hb := C.2.1
  have hl : lv_has ls 3 [(0, .ref (a 3)), (1, .int x1), (2, .int x2)] := hl
  refine lv_iload_n hx hb dX1_name_0 rfl (lv_at hl 1 rfl) ?_
  refine callNR (rest := []) C hA (wC_sh a cI cZ) X (kX5_isWeakHolder l D a cI cZ _ x1) ⟨va_cnB 1 C.2.2.2.2.1 (gCode wk_yX5_isWeakHolder) rfl rfl rfl (C.2.2.2.2.2.2 _ (List.mem_of_getElem? (i := 11) rfl)) (C.2.2.2.2.1 _ wi_X5) hdX5_isWeakHolder.2 ⟨Nat.le_of_ble_eq_true rfl, Nat.le_of_ble_eq_true rfl⟩, C.2.2.2.2.1 _ wz_yX5_isWeakHolder, trivial⟩ rfl hl.1 rfl (Nat.le_of_ble_eq_true rfl) dX1_name_1 ⟨Nat.le_refl 0, Nat.le_refl 0⟩ (fun H locs X => ?_)
  refine lv_if_eq (tgt := 14) hx hb dX1_name_4 (by decide) (fun c4 => ?_) (fun c4 => ?_)
  · exact ret dX1_name_14 (Eq.symm (if_pos c4)) X
  · refine lv_aload_n hx hb dX1_name_7 rfl (lv_at hl 0 rfl) ?_
    refine cg_X1_X1_named C X dX1_name_8 ?_
    refine lv_iload_n hx hb dX1_name_11 rfl (lv_at hl 1 rfl) ?_
    refine lv_iload_n hx hb dX1_name_12 rfl (lv_at hl 2 rfl) ?_
    refine cs_named (g := (upd (c_named σ) (ix x1) x2)) C X (in_isWeakHolder c4) rfl dX1_name_13 (fun H locs X => ?_)
    exact ret dX1_name_14 (Eq.symm (if_neg c4)) X
def fX1_wishAt (σ : CSt) (x1 : Int32) : Int32 := (if x1 < (0 : Int32) then (-1 : Int32) else (if (c_wishes σ) ≤ x1 then (-1 : Int32) else (fX1_heldAt σ ((16 : Int32) + x1))))
theorem hdX1_wishAt : yX1_wishAt.cls = RX1 ∧ yX1_wishAt.cls ≠ "java/lang/invoke/MethodHandle" ∧ yX1_wishAt.cls ≠ "java/lang/invoke/VarHandle" ∧ (parseMethodDescriptor yX1_wishAt.desc).map (fun d => d.parameters.length) = some 1 := by decide +kernel
set_option maxHeartbeats 250000 in
set_option maxRecDepth 100000 in
theorem kX1_wishAt (l : Launch) (D : va_G) (a : Nat → Nat) (cI cZ : ClassId) (σ : CSt) (x1 : Int32) : CR l D (tyIZ cI cZ) (wC a cI cZ) yX1_wishAt cX1_wishAt 2 .int (rmk 1 21) [.ref (a 3), .int x1] σ (fX1_wishAt σ x1) σ := by
  refine CR.of pnX1 ⟨rfl, rfl⟩ (Nat.le_of_ble_eq_true rfl) rfl (fun p e s m args below meth c A Q ls C X hA hl ret => ?_)
  have C : Cx p s m args meth c cX1_wishAt 2 RX1 D (tyIZ cI cZ) := C
  have hx := C.1
  have hb := C.2.1
  have hl : lv_has ls 2 [(0, .ref (a 3)), (1, .int x1)] := hl
  refine lv_iload_n hx hb dX1_wishAt_0 rfl (lv_at hl 1 rfl) ?_
  refine lv_if_lt (tgt := 23) hx hb dX1_wishAt_1 (by decide) (fun c1 => ?_) (fun c1 => ?_)
  · refine lv_iconst (v := (-1)) hx hb dX1_wishAt_23 (by decide) ?_
    exact ret dX1_wishAt_24 (congrArg (fun z => (z, _)) (Eq.symm (if_pos c1))) X
  · refine lv_iload_n hx hb dX1_wishAt_4 rfl (lv_at hl 1 rfl) ?_
    refine lv_aload_n hx hb dX1_wishAt_5 rfl (lv_at hl 0 rfl) ?_
    refine cg_X1_X1_wishes (v := (c_wishes σ)) C X rfl dX1_wishAt_6 ?_
    refine lv_icmp_ge (tgt := 23) hx hb dX1_wishAt_9 (by decide) (fun c9 => ?_) (fun c9 => ?_)
    · refine lv_iconst (v := (-1)) hx hb dX1_wishAt_23 (by decide) ?_
      exact ret dX1_wishAt_24 (congrArg (fun z => (z, _)) (Eq.symm (Eq.trans (if_neg c1) (if_pos c9)))) X
    · refine lv_aload_n hx hb dX1_wishAt_12 rfl (lv_at hl 0 rfl) ?_
      refine lv_bipush (v := (16)) hx hb dX1_wishAt_13 (by decide) ?_
      refine lv_iload_n hx hb dX1_wishAt_15 rfl (lv_at hl 1 rfl) ?_
      refine lv_iadd hx hb dX1_wishAt_16 ?_
      refine callVR (rest := []) C hA (wC_sh a cI cZ) X (kX1_heldAt l D a cI cZ _ ((16 : Int32) + x1)) (cwV 1 C.2.2.2.2.1 (gV wl_X1_26 wt_yX1_heldAt ws_yX1_heldAt wi_X1 wk_yX1_heldAt) rfl rfl rfl hdX1_heldAt ⟨Nat.le_of_ble_eq_true rfl, Nat.le_of_ble_eq_true rfl⟩) (ci := 1) (q0 := 3) rfl rfl rfl hl.1 rfl (Nat.le_of_ble_eq_true rfl) dX1_wishAt_17 ⟨Nat.le_refl 0, Nat.le_refl 0⟩ (fun H locs X => ?_)
      refine lv_goto (tgt := 24) hx hb dX1_wishAt_20 (by decide) ?_
      exact ret dX1_wishAt_24 (congrArg (fun z => (z, _)) (Eq.symm (Eq.trans (if_neg c1) (if_neg c9)))) X
def fX1_addWish (σ : CSt) (x1 : Int32) : CSt := (if (c_wishes σ) < (0 : Int32) then σ else (if (120 : Int32) ≤ (c_wishes σ) then σ else (c_wishes_s (c_hheld_s σ (upd (c_hheld σ) (ix ((16 : Int32) + (c_wishes σ))) x1)) ((c_wishes σ) + (1 : Int32)))))
theorem hdX1_addWish : yX1_addWish.cls = RX1 ∧ yX1_addWish.cls ≠ "java/lang/invoke/MethodHandle" ∧ yX1_addWish.cls ≠ "java/lang/invoke/VarHandle" ∧ (parseMethodDescriptor yX1_addWish.desc).map (fun d => d.parameters.length) = some 1 := by decide +kernel
set_option maxHeartbeats 250000 in
set_option maxRecDepth 100000 in
theorem kX1_addWish (l : Launch) (D : va_G) (a : Nat → Nat) (cI cZ : ClassId) (σ : CSt) (x1 : Int32) : CU l D (tyIZ cI cZ) (wC a cI cZ) yX1_addWish cX1_addWish 2 (rmk 0 0) [.ref (a 3), .int x1] σ (fX1_addWish σ x1) := by
  refine CU.of pnX1 ⟨rfl, rfl⟩ (Nat.le_of_ble_eq_true rfl) (fun p e s m args below meth c A Q ls C X hA hl ret => ?_)
  have C : Cx p s m args meth c cX1_addWish 2 RX1 D (tyIZ cI cZ) := C
  have hx := C.1
  have hb := C.2.1
  have hl : lv_has ls 2 [(0, .ref (a 3)), (1, .int x1)] := hl
  refine lv_aload_n hx hb dX1_addWish_0 rfl (lv_at hl 0 rfl) ?_
  refine cg_X1_X1_wishes (v := (c_wishes σ)) C X rfl dX1_addWish_1 ?_
  refine lv_if_lt (tgt := 39) hx hb dX1_addWish_4 (by decide) (fun c4 => ?_) (fun c4 => ?_)
  · exact ret dX1_addWish_39 (Eq.symm (if_pos c4)) X
  · refine lv_aload_n hx hb dX1_addWish_7 rfl (lv_at hl 0 rfl) ?_
    refine cg_X1_X1_wishes (v := (c_wishes σ)) C X rfl dX1_addWish_8 ?_
    refine lv_bipush (v := (120)) hx hb dX1_addWish_11 (by decide) ?_
    refine lv_icmp_ge (tgt := 39) hx hb dX1_addWish_13 (by decide) (fun c13 => ?_) (fun c13 => ?_)
    · exact ret dX1_addWish_39 (Eq.symm (Eq.trans (if_neg c4) (if_pos c13))) X
    · refine lv_aload_n hx hb dX1_addWish_16 rfl (lv_at hl 0 rfl) ?_
      refine cg_X1_X1_held C X dX1_addWish_17 ?_
      refine lv_bipush (v := (16)) hx hb dX1_addWish_20 (by decide) ?_
      refine lv_aload_n hx hb dX1_addWish_22 rfl (lv_at hl 0 rfl) ?_
      refine cg_X1_X1_wishes (v := (c_wishes σ)) C X rfl dX1_addWish_23 ?_
      refine lv_iadd hx hb dX1_addWish_26 ?_
      refine lv_iload_n hx hb dX1_addWish_27 rfl (lv_at hl 1 rfl) ?_
      refine cs_hheld (g := (upd (c_hheld σ) (ix ((16 : Int32) + (c_wishes σ))) x1)) C X (in_16 (vp_in_iff.mpr (by have t1 := i32_nlt c4; have t2 := i32_nle c13; have q : (120 : Int32).toInt = 120 := rfl; have q1 : (0 : Int32).toInt = 0 := rfl; omega))) rfl dX1_addWish_28 (fun H locs X => ?_)
      refine lv_aload_n hx hb dX1_addWish_29 rfl (lv_at hl 0 rfl) ?_
      refine lv_dup hx hb dX1_addWish_30 rfl ?_
      refine cg_X1_X1_wishes (v := (c_wishes σ)) C X (cq_wishes_hheld _ _) dX1_addWish_31 ?_
      refine lv_iconst (v := (1)) hx hb dX1_addWish_34 (by decide) ?_
      refine lv_iadd hx hb dX1_addWish_35 ?_
      refine cp_X1_X1_wishes C X dX1_addWish_36 (fun H locs X => ?_)
      exact ret dX1_addWish_39 (Eq.symm (Eq.trans (if_neg c4) (if_neg c13))) X
theorem tm_addWish (σ : CSt) (x : Int32) : c_tmade (fX1_addWish σ x) = c_tmade σ := by unfold fX1_addWish; (repeat' split) <;> rfl

def fX1_takeFirstWish_L10 (z1 : Int32) : Nat → Int32 → CSt → Int32 × CSt
  | 0, y2, σ10 => (if (c_wishes σ10) ≤ (0 : Int32) then (z1, σ10) else (z1, (c_wishes_s σ10 ((c_wishes σ10) - (1 : Int32)))))
  | f + 1, y2, σ10 => (if (136 : Int32) ≤ (y2 + (1 : Int32)) then (if (c_wishes σ10) ≤ (0 : Int32) then (z1, σ10) else (z1, (c_wishes_s σ10 ((c_wishes σ10) - (1 : Int32))))) else (fX1_takeFirstWish_L10 z1 f (y2 + 1) (c_hheld_s σ10 (upd (c_hheld σ10) (ix y2) ((c_hheld σ10) (ix (y2 + (1 : Int32))))))))
def fX1_takeFirstWish (σ : CSt) : Int32 × CSt := (fX1_takeFirstWish_L10 (fX1_heldAt σ (16 : Int32)) (((Int32.toInt ((16 : Int32) + (c_wishes σ))) - (Int32.toInt ((16 : Int32) + (1 : Int32)))).toNat) (16 : Int32) σ)
theorem hdX1_takeFirstWish : yX1_takeFirstWish.cls = RX1 ∧ yX1_takeFirstWish.cls ≠ "java/lang/invoke/MethodHandle" ∧ yX1_takeFirstWish.cls ≠ "java/lang/invoke/VarHandle" ∧ (parseMethodDescriptor yX1_takeFirstWish.desc).map (fun d => d.parameters.length) = some 0 := by decide +kernel
set_option maxHeartbeats 250000 in
set_option maxRecDepth 100000 in
theorem kX1_takeFirstWish (l : Launch) (D : va_G) (a : Nat → Nat) (cI cZ : ClassId) (σ : CSt) : CR l D (tyIZ cI cZ) (wC a cI cZ) yX1_takeFirstWish cX1_takeFirstWish 3 .int (rmk 1 21) [.ref (a 3)] σ (fX1_takeFirstWish σ).1 (fX1_takeFirstWish σ).2 := by
  refine CR.of pnX1 ⟨rfl, rfl⟩ (Nat.le_of_ble_eq_true rfl) rfl (fun p e s m args below meth c A Q ls C X hA hl ret => ?_)
  have C : Cx p s m args meth c cX1_takeFirstWish 3 RX1 D (tyIZ cI cZ) := C
  have hx := C.1
  have hb := C.2.1
  have hl : lv_has ls 3 [(0, .ref (a 3))] := hl
  refine lv_aload_n hx hb dX1_takeFirstWish_0 rfl (lv_at hl 0 rfl) ?_
  refine lv_bipush (v := (16)) hx hb dX1_takeFirstWish_1 (by decide) ?_
  refine callVR (rest := []) C hA (wC_sh a cI cZ) X (kX1_heldAt l D a cI cZ _ (16 : Int32)) (cwV 1 C.2.2.2.2.1 (gV wl_X1_26 wt_yX1_heldAt ws_yX1_heldAt wi_X1 wk_yX1_heldAt) rfl rfl rfl hdX1_heldAt ⟨Nat.le_of_ble_eq_true rfl, Nat.le_of_ble_eq_true rfl⟩) (ci := 1) (q0 := 3) rfl rfl rfl hl.1 rfl (Nat.le_of_ble_eq_true rfl) dX1_takeFirstWish_3 ⟨Nat.le_refl 0, Nat.le_refl 0⟩ (fun H locs X => ?_)
  refine lv_istore_n (lv' := [(1, .int (fX1_heldAt σ (16 : Int32))), (0, .ref (a 3))]) hx hb dX1_takeFirstWish_6 rfl hl (by decide) rfl (fun ls hl => ?_)
  refine lv_bipush (v := (16)) hx hb dX1_takeFirstWish_7 (by decide) ?_
  refine lv_istore_n (lv' := [(2, .int (16 : Int32)), (1, .int (fX1_heldAt σ (16 : Int32))), (0, .ref (a 3))]) hx hb dX1_takeFirstWish_9 rfl hl (by decide) rfl (fun ls hl => ?_)
  have L10 : ∀ (f : Nat) (y2 : Int32) (σ10 : CSt) (hf : ((Int32.toInt ((16 : Int32) + (c_wishes σ10))) - (Int32.toInt (y2 + (1 : Int32)))).toNat = f) (hnn : 0 ≤ Int32.toInt (y2 + (1 : Int32))) (hy : 0 ≤ Int32.toInt y2) (he : fX1_takeFirstWish_L10 (fX1_heldAt σ (16 : Int32)) f y2 σ10 = (fX1_takeFirstWish σ)) (H : Heap) (locs : List Loc) (ls : Array Slot) (X : Sx A D (wC a cI cZ σ10) s H locs) (hl : lv_has ls 3 [(0, .ref (a 3)), (1, .int (fX1_heldAt σ (16 : Int32))), (2, .int y2)]), W p l e (rmk 1 21) s m args below meth c H locs 0 0 Q (F0 m 10 ls []) := by
    intro f
    induction f with
    | zero =>
      intro y2 σ10 hf hnn hy he H locs ls X hl
      refine lv_iload_n hx hb dX1_takeFirstWish_10 rfl (lv_at hl 2 rfl) ?_
      refine lv_iconst (v := (1)) hx hb dX1_takeFirstWish_11 (by decide) ?_
      refine lv_iadd hx hb dX1_takeFirstWish_12 ?_
      refine lv_bipush (v := (16)) hx hb dX1_takeFirstWish_13 (by decide) ?_
      refine lv_aload_n hx hb dX1_takeFirstWish_15 rfl (lv_at hl 0 rfl) ?_
      refine cg_X1_X1_wishes (v := (c_wishes σ10)) C X rfl dX1_takeFirstWish_16 ?_
      refine lv_iadd hx hb dX1_takeFirstWish_19 ?_
      refine lv_icmp_ge (tgt := 54) hx hb dX1_takeFirstWish_20 (by decide) (fun c20 => ?_) (fun c20 => (lp_z hf c20).elim)
      refine lv_aload_n hx hb dX1_takeFirstWish_54 rfl (lv_at hl 0 rfl) ?_
      refine cg_X1_X1_wishes (v := (c_wishes σ10)) C X rfl dX1_takeFirstWish_55 ?_
      refine lv_if_le (tgt := 71) hx hb dX1_takeFirstWish_58 (by decide) (fun c58 => ?_) (fun c58 => ?_)
      · refine lv_iload_n hx hb dX1_takeFirstWish_71 rfl (lv_at hl 1 rfl) ?_
        exact ret dX1_takeFirstWish_72 (pe_ (Eq.trans (Eq.symm (if_pos c58)) he)) X
      · refine lv_aload_n hx hb dX1_takeFirstWish_61 rfl (lv_at hl 0 rfl) ?_
        refine lv_dup hx hb dX1_takeFirstWish_62 rfl ?_
        refine cg_X1_X1_wishes (v := (c_wishes σ10)) C X rfl dX1_takeFirstWish_63 ?_
        refine lv_iconst (v := (1)) hx hb dX1_takeFirstWish_66 (by decide) ?_
        refine lv_isub hx hb dX1_takeFirstWish_67 ?_
        refine cp_X1_X1_wishes C X dX1_takeFirstWish_68 (fun H locs X => ?_)
        refine lv_iload_n hx hb dX1_takeFirstWish_71 rfl (lv_at hl 1 rfl) ?_
        exact ret dX1_takeFirstWish_72 (pe_ (Eq.trans (Eq.symm (if_neg c58)) he)) X
    | succ f ih10 =>
      intro y2 σ10 hf hnn hy he H locs ls X hl
      refine lv_iload_n hx hb dX1_takeFirstWish_10 rfl (lv_at hl 2 rfl) ?_
      refine lv_iconst (v := (1)) hx hb dX1_takeFirstWish_11 (by decide) ?_
      refine lv_iadd hx hb dX1_takeFirstWish_12 ?_
      refine lv_bipush (v := (16)) hx hb dX1_takeFirstWish_13 (by decide) ?_
      refine lv_aload_n hx hb dX1_takeFirstWish_15 rfl (lv_at hl 0 rfl) ?_
      refine cg_X1_X1_wishes (v := (c_wishes σ10)) C X rfl dX1_takeFirstWish_16 ?_
      refine lv_iadd hx hb dX1_takeFirstWish_19 ?_
      refine lv_icmp_ge (tgt := 54) hx hb dX1_takeFirstWish_20 (by decide) (fun c20 => (lp_s hf c20).elim) (fun c20 => ?_)
      refine lv_iload_n hx hb dX1_takeFirstWish_23 rfl (lv_at hl 2 rfl) ?_
      refine lv_iconst (v := (1)) hx hb dX1_takeFirstWish_24 (by decide) ?_
      refine lv_iadd hx hb dX1_takeFirstWish_25 ?_
      refine lv_aload_n hx hb dX1_takeFirstWish_26 rfl (lv_at hl 0 rfl) ?_
      refine cg_X1_X1_held C X dX1_takeFirstWish_27 ?_
      refine va_alen (v := (136)) hx hb C.2.2.2.2.2.1 X.1 14 0 rfl rfl rfl dX1_takeFirstWish_30 ?_
      refine lv_icmp_ge (tgt := 54) hx hb dX1_takeFirstWish_31 (by decide) (fun c31 => ?_) (fun c31 => ?_)
      · refine lv_aload_n hx hb dX1_takeFirstWish_54 rfl (lv_at hl 0 rfl) ?_
        refine cg_X1_X1_wishes (v := (c_wishes σ10)) C X rfl dX1_takeFirstWish_55 ?_
        refine lv_if_le (tgt := 71) hx hb dX1_takeFirstWish_58 (by decide) (fun c58 => ?_) (fun c58 => ?_)
        · refine lv_iload_n hx hb dX1_takeFirstWish_71 rfl (lv_at hl 1 rfl) ?_
          exact ret dX1_takeFirstWish_72 (pe_ (Eq.trans (Eq.symm (Eq.trans (if_pos c31) (if_pos c58))) he)) X
        · refine lv_aload_n hx hb dX1_takeFirstWish_61 rfl (lv_at hl 0 rfl) ?_
          refine lv_dup hx hb dX1_takeFirstWish_62 rfl ?_
          refine cg_X1_X1_wishes (v := (c_wishes σ10)) C X rfl dX1_takeFirstWish_63 ?_
          refine lv_iconst (v := (1)) hx hb dX1_takeFirstWish_66 (by decide) ?_
          refine lv_isub hx hb dX1_takeFirstWish_67 ?_
          refine cp_X1_X1_wishes C X dX1_takeFirstWish_68 (fun H locs X => ?_)
          refine lv_iload_n hx hb dX1_takeFirstWish_71 rfl (lv_at hl 1 rfl) ?_
          exact ret dX1_takeFirstWish_72 (pe_ (Eq.trans (Eq.symm (Eq.trans (if_pos c31) (if_neg c58))) he)) X
      · refine lv_aload_n hx hb dX1_takeFirstWish_34 rfl (lv_at hl 0 rfl) ?_
        refine cg_X1_X1_held C X dX1_takeFirstWish_35 ?_
        refine lv_iload_n hx hb dX1_takeFirstWish_38 rfl (lv_at hl 2 rfl) ?_
        refine lv_aload_n hx hb dX1_takeFirstWish_39 rfl (lv_at hl 0 rfl) ?_
        refine cg_X1_X1_held C X dX1_takeFirstWish_40 ?_
        refine lv_iload_n hx hb dX1_takeFirstWish_43 rfl (lv_at hl 2 rfl) ?_
        refine lv_iconst (v := (1)) hx hb dX1_takeFirstWish_44 (by decide) ?_
        refine lv_iadd hx hb dX1_takeFirstWish_45 ?_
        refine ca_hheld (v := ((c_hheld σ10) (ix (y2 + (1 : Int32))))) C X (vp_in_iff.mpr (by have t := i32_nle c31; have q : (136 : Int32).toInt = 136 := rfl; omega)) rfl dX1_takeFirstWish_46 ?_
        refine cs_hheld (g := (upd (c_hheld σ10) (ix y2) ((c_hheld σ10) (ix (y2 + (1 : Int32)))))) C X (vp_in_iff.mpr (by have t := i32_nle c31; have q : (136 : Int32).toInt = 136 := rfl; have e := i32_p hy hnn; omega)) rfl dX1_takeFirstWish_47 (fun H locs X => ?_)
        refine lv_iinc (v := (y2 + 1)) (lv' := [(2, .int (y2 + 1)), (0, .ref (a 3)), (1, .int (fX1_heldAt σ (16 : Int32)))]) hx hb dX1_takeFirstWish_48 hl (k := 2) rfl rfl (by decide) rfl (fun ls hl => ?_)
        refine lv_goto (tgt := 10) hx hb dX1_takeFirstWish_51 (by decide) ?_
        exact ih10 (y2 + 1) (c_hheld_s σ10 (upd (c_hheld σ10) (ix y2) ((c_hheld σ10) (ix (y2 + (1 : Int32)))))) (lp_b hf) (lp_nn hnn hf) (hnn) (Eq.trans (Eq.symm (if_neg c31)) he) _ _ _ X (lv_sub hl [1, 2, 0] rfl)
  exact L10 (((Int32.toInt ((16 : Int32) + (c_wishes σ))) - (Int32.toInt ((16 : Int32) + (1 : Int32)))).toNat) (16 : Int32) σ rfl (by decide) (by decide) rfl _ _ _ X (lv_sub hl [2, 1, 0] rfl)
def fX2_isPair (σ : CSt) (x1 : Int32) : Int32 := (if x1 < (0 : Int32) then (0 : Int32) else (if (c_pmade σ) ≤ x1 then (0 : Int32) else (if (8 : Int32) ≤ x1 then (0 : Int32) else (1 : Int32))))
theorem hdX2_isPair : yX2_isPair.cls = RX2 ∧ yX2_isPair.cls ≠ "java/lang/invoke/MethodHandle" ∧ yX2_isPair.cls ≠ "java/lang/invoke/VarHandle" ∧ (parseMethodDescriptor yX2_isPair.desc).map (fun d => d.parameters.length) = some 1 := by decide +kernel
theorem bX2_isPair (σ : CSt) (x1 : Int32) : (fX2_isPair σ x1) = 0 ∨ (fX2_isPair σ x1) = 1 := by
  unfold fX2_isPair
  (repeat' split) <;> first | exact Or.inl rfl | exact Or.inr rfl
set_option maxHeartbeats 250000 in
set_option maxRecDepth 100000 in
theorem kX2_isPair (l : Launch) (D : va_G) (a : Nat → Nat) (cI cZ : ClassId) (σ : CSt) (x1 : Int32) : CR l D (tyIZ cI cZ) (wC a cI cZ) yX2_isPair cX2_isPair 2 .boolean (rmk 0 0) [.ref (a 4), .int x1] σ (fX2_isPair σ x1) σ := by
  refine CR.of pnX2 ⟨rfl, rfl⟩ (Nat.le_of_ble_eq_true rfl) (nar_b (bX2_isPair σ x1)) (fun p e s m args below meth c A Q ls C X hA hl ret => ?_)
  have C : Cx p s m args meth c cX2_isPair 2 RX2 D (tyIZ cI cZ) := C
  have hx := C.1
  have hb := C.2.1
  have hl : lv_has ls 2 [(0, .ref (a 4)), (1, .int x1)] := hl
  refine lv_iload_n hx hb dX2_isPair_0 rfl (lv_at hl 1 rfl) ?_
  refine lv_if_lt (tgt := 22) hx hb dX2_isPair_1 (by decide) (fun c1 => ?_) (fun c1 => ?_)
  · refine lv_iconst (v := (0)) hx hb dX2_isPair_22 (by decide) ?_
    exact ret dX2_isPair_23 (congrArg (fun z => (z, _)) (Eq.symm (if_pos c1))) X
  · refine lv_iload_n hx hb dX2_isPair_4 rfl (lv_at hl 1 rfl) ?_
    refine lv_aload_n hx hb dX2_isPair_5 rfl (lv_at hl 0 rfl) ?_
    refine cg_X2_X2_made (v := (c_pmade σ)) C X rfl dX2_isPair_6 ?_
    refine lv_icmp_ge (tgt := 22) hx hb dX2_isPair_9 (by decide) (fun c9 => ?_) (fun c9 => ?_)
    · refine lv_iconst (v := (0)) hx hb dX2_isPair_22 (by decide) ?_
      exact ret dX2_isPair_23 (congrArg (fun z => (z, _)) (Eq.symm (Eq.trans (if_neg c1) (if_pos c9)))) X
    · refine lv_iload_n hx hb dX2_isPair_12 rfl (lv_at hl 1 rfl) ?_
      refine lv_bipush (v := (8)) hx hb dX2_isPair_13 (by decide) ?_
      refine lv_icmp_ge (tgt := 22) hx hb dX2_isPair_15 (by decide) (fun c15 => ?_) (fun c15 => ?_)
      · refine lv_iconst (v := (0)) hx hb dX2_isPair_22 (by decide) ?_
        exact ret dX2_isPair_23 (congrArg (fun z => (z, _)) (Eq.symm (Eq.trans (if_neg c1) (Eq.trans (if_neg c9) (if_pos c15))))) X
      · refine lv_iconst (v := (1)) hx hb dX2_isPair_18 (by decide) ?_
        refine lv_goto (tgt := 23) hx hb dX2_isPair_19 (by decide) ?_
        exact ret dX2_isPair_23 (congrArg (fun z => (z, _)) (Eq.symm (Eq.trans (if_neg c1) (Eq.trans (if_neg c9) (if_neg c15))))) X
theorem in_isPair {σ : CSt} {x : Int32} (h : ¬ fX2_isPair σ x = 0) : vp_in x 8 := by
  unfold fX2_isPair at h
  split at h
  · exact absurd rfl h
  · split at h
    · exact absurd rfl h
    · split at h
      · exact absurd rfl h
      · rename_i h1 h2 h3
        exact vp_in_iff.mpr (by have a1 := i32_nlt h1; have a3 := i32_nle h3; have q : (8 : Int32).toInt = 8 := rfl; have q2 : (0 : Int32).toInt = 0 := rfl; omega)

def fX2_add (σ : CSt) (x1 : Int32) (x2 : Int32) : Int32 × CSt := (if (c_pmade σ) < (0 : Int32) then ((-4 : Int32), σ) else (if (c_pmade σ) < (8 : Int32) then ((((c_pmade σ) + (1 : Int32)) - (1 : Int32)), (c_pmade_s (c_values_s (c_keys_s σ (upd (c_keys σ) (ix (c_pmade σ)) x1)) (upd (c_values σ) (ix (c_pmade σ)) x2)) ((c_pmade σ) + (1 : Int32)))) else ((-4 : Int32), σ)))
theorem hdX2_add : yX2_add.cls = RX2 ∧ yX2_add.cls ≠ "java/lang/invoke/MethodHandle" ∧ yX2_add.cls ≠ "java/lang/invoke/VarHandle" ∧ (parseMethodDescriptor yX2_add.desc).map (fun d => d.parameters.length) = some 2 := by decide +kernel
set_option maxHeartbeats 250000 in
set_option maxRecDepth 100000 in
theorem kX2_add (l : Launch) (D : va_G) (a : Nat → Nat) (cI cZ : ClassId) (σ : CSt) (x1 : Int32) (x2 : Int32) : CR l D (tyIZ cI cZ) (wC a cI cZ) yX2_add cX2_add 3 .int (rmk 0 0) [.ref (a 4), .int x1, .int x2] σ (fX2_add σ x1 x2).1 (fX2_add σ x1 x2).2 := by
  refine CR.of pnX2 ⟨rfl, rfl⟩ (Nat.le_of_ble_eq_true rfl) rfl (fun p e s m args below meth c A Q ls C X hA hl ret => ?_)
  have C : Cx p s m args meth c cX2_add 3 RX2 D (tyIZ cI cZ) := C
  have hx := C.1
  have hb := C.2.1
  have hl : lv_has ls 3 [(0, .ref (a 4)), (1, .int x1), (2, .int x2)] := hl
  refine lv_aload_n hx hb dX2_add_0 rfl (lv_at hl 0 rfl) ?_
  refine cg_X2_X2_made (v := (c_pmade σ)) C X rfl dX2_add_1 ?_
  refine lv_if_lt (tgt := 16) hx hb dX2_add_4 (by decide) (fun c4 => ?_) (fun c4 => ?_)
  · refine lv_bipush (v := (-4)) hx hb dX2_add_16 (by decide) ?_
    exact ret dX2_add_18 (pe_ (Eq.symm (if_pos c4))) X
  · refine lv_aload_n hx hb dX2_add_7 rfl (lv_at hl 0 rfl) ?_
    refine cg_X2_X2_made (v := (c_pmade σ)) C X rfl dX2_add_8 ?_
    refine lv_bipush (v := (8)) hx hb dX2_add_11 (by decide) ?_
    refine lv_icmp_lt (tgt := 19) hx hb dX2_add_13 (by decide) (fun c13 => ?_) (fun c13 => ?_)
    · refine lv_aload_n hx hb dX2_add_19 rfl (lv_at hl 0 rfl) ?_
      refine cg_X2_X2_keys C X dX2_add_20 ?_
      refine lv_aload_n hx hb dX2_add_23 rfl (lv_at hl 0 rfl) ?_
      refine cg_X2_X2_made (v := (c_pmade σ)) C X rfl dX2_add_24 ?_
      refine lv_iload_n hx hb dX2_add_27 rfl (lv_at hl 1 rfl) ?_
      refine cs_keys (g := (upd (c_keys σ) (ix (c_pmade σ)) x1)) C X (vp_in_iff.mpr (by have tc4 := i32_nlt c4; have tc13 := i32_lt c13; have q0_ : (0 : Int32).toInt = 0 := rfl; have q1_ : (8 : Int32).toInt = 8 := rfl; omega)) rfl dX2_add_28 (fun H locs X => ?_)
      refine lv_aload_n hx hb dX2_add_29 rfl (lv_at hl 0 rfl) ?_
      refine cg_X2_X2_values C X dX2_add_30 ?_
      refine lv_aload_n hx hb dX2_add_33 rfl (lv_at hl 0 rfl) ?_
      refine cg_X2_X2_made (v := (c_pmade σ)) C X (cq_pmade_keys _ _) dX2_add_34 ?_
      refine lv_iload_n hx hb dX2_add_37 rfl (lv_at hl 2 rfl) ?_
      refine cs_values (g := (upd (c_values σ) (ix (c_pmade σ)) x2)) C X (vp_in_iff.mpr (by have tc4 := i32_nlt c4; have tc13 := i32_lt c13; have q0_ : (0 : Int32).toInt = 0 := rfl; have q1_ : (8 : Int32).toInt = 8 := rfl; omega)) (congrArg (fun z => upd z _ _) (cq_values_keys _ _)) dX2_add_38 (fun H locs X => ?_)
      refine lv_aload_n hx hb dX2_add_39 rfl (lv_at hl 0 rfl) ?_
      refine lv_dup hx hb dX2_add_40 rfl ?_
      refine cg_X2_X2_made (v := (c_pmade σ)) C X (Eq.trans (cq_pmade_values _ _) (cq_pmade_keys _ _)) dX2_add_41 ?_
      refine lv_iconst (v := (1)) hx hb dX2_add_44 (by decide) ?_
      refine lv_iadd hx hb dX2_add_45 ?_
      refine cp_X2_X2_made C X dX2_add_46 (fun H locs X => ?_)
      refine lv_aload_n hx hb dX2_add_49 rfl (lv_at hl 0 rfl) ?_
      refine cg_X2_X2_made (v := ((c_pmade σ) + (1 : Int32))) C X (cq_pmade_pmade _ _) dX2_add_50 ?_
      refine lv_iconst (v := (1)) hx hb dX2_add_53 (by decide) ?_
      refine lv_isub hx hb dX2_add_54 ?_
      exact ret dX2_add_55 (pe_ (Eq.symm (Eq.trans (if_neg c4) (if_pos c13)))) X
    · refine lv_bipush (v := (-4)) hx hb dX2_add_16 (by decide) ?_
      exact ret dX2_add_18 (pe_ (Eq.symm (Eq.trans (if_neg c4) (if_neg c13)))) X
def fX2_end (σ : CSt) (x1 : Int32) : CSt := (if (fX2_isPair σ x1) = (0 : Int32) then σ else (c_values_s (c_keys_s σ (upd (c_keys σ) (ix x1) (-1 : Int32))) (upd (c_values σ) (ix x1) (-1 : Int32))))
theorem hdX2_end : yX2_end.cls = RX2 ∧ yX2_end.cls ≠ "java/lang/invoke/MethodHandle" ∧ yX2_end.cls ≠ "java/lang/invoke/VarHandle" ∧ (parseMethodDescriptor yX2_end.desc).map (fun d => d.parameters.length) = some 1 := by decide +kernel
set_option maxHeartbeats 250000 in
set_option maxRecDepth 100000 in
theorem kX2_end (l : Launch) (D : va_G) (a : Nat → Nat) (cI cZ : ClassId) (σ : CSt) (x1 : Int32) : CU l D (tyIZ cI cZ) (wC a cI cZ) yX2_end cX2_end 2 (rmk 1 21) [.ref (a 4), .int x1] σ (fX2_end σ x1) := by
  refine CU.of pnX2 ⟨rfl, rfl⟩ (Nat.le_of_ble_eq_true rfl) (fun p e s m args below meth c A Q ls C X hA hl ret => ?_)
  have C : Cx p s m args meth c cX2_end 2 RX2 D (tyIZ cI cZ) := C
  have hx := C.1
  have hb := C.2.1
  have hl : lv_has ls 2 [(0, .ref (a 4)), (1, .int x1)] := hl
  refine lv_aload_n hx hb dX2_end_0 rfl (lv_at hl 0 rfl) ?_
  refine lv_iload_n hx hb dX2_end_1 rfl (lv_at hl 1 rfl) ?_
  refine callVR (rest := []) C hA (wC_sh a cI cZ) X (kX2_isPair l D a cI cZ _ x1) (cwV 1 C.2.2.2.2.1 (gV wl_X2_22 wt_yX2_isPair ws_yX2_isPair wi_X2 wk_yX2_isPair) rfl rfl rfl hdX2_isPair ⟨Nat.le_of_ble_eq_true rfl, Nat.le_of_ble_eq_true rfl⟩) (ci := 2) (q0 := 4) rfl rfl rfl hl.1 rfl (Nat.le_of_ble_eq_true rfl) dX2_end_2 ⟨Nat.le_refl 0, Nat.le_refl 0⟩ (fun H locs X => ?_)
  refine lv_if_eq (tgt := 22) hx hb dX2_end_5 (by decide) (fun c5 => ?_) (fun c5 => ?_)
  · exact ret dX2_end_22 (Eq.symm (if_pos c5)) X
  · refine lv_aload_n hx hb dX2_end_8 rfl (lv_at hl 0 rfl) ?_
    refine cg_X2_X2_keys C X dX2_end_9 ?_
    refine lv_iload_n hx hb dX2_end_12 rfl (lv_at hl 1 rfl) ?_
    refine lv_iconst (v := (-1)) hx hb dX2_end_13 (by decide) ?_
    refine cs_keys (g := (upd (c_keys σ) (ix x1) (-1 : Int32))) C X (in_isPair c5) rfl dX2_end_14 (fun H locs X => ?_)
    refine lv_aload_n hx hb dX2_end_15 rfl (lv_at hl 0 rfl) ?_
    refine cg_X2_X2_values C X dX2_end_16 ?_
    refine lv_iload_n hx hb dX2_end_19 rfl (lv_at hl 1 rfl) ?_
    refine lv_iconst (v := (-1)) hx hb dX2_end_20 (by decide) ?_
    refine cs_values (g := (upd (c_values σ) (ix x1) (-1 : Int32))) C X (in_isPair c5) (congrArg (fun z => upd z _ _) (cq_values_keys _ _)) dX2_end_21 (fun H locs X => ?_)
    exact ret dX2_end_22 (Eq.symm (if_neg c5)) X
theorem pm_end (σ : CSt) (x : Int32) : c_pmade (fX2_end σ x) = c_pmade σ := by unfold fX2_end; split <;> rfl

def fX2_keyOf (σ : CSt) (x1 : Int32) : Int32 := (if (fX2_isPair σ x1) = (0 : Int32) then (-1 : Int32) else ((c_keys σ) (ix x1)))
theorem hdX2_keyOf : yX2_keyOf.cls = RX2 ∧ yX2_keyOf.cls ≠ "java/lang/invoke/MethodHandle" ∧ yX2_keyOf.cls ≠ "java/lang/invoke/VarHandle" ∧ (parseMethodDescriptor yX2_keyOf.desc).map (fun d => d.parameters.length) = some 1 := by decide +kernel
set_option maxHeartbeats 250000 in
set_option maxRecDepth 100000 in
theorem kX2_keyOf (l : Launch) (D : va_G) (a : Nat → Nat) (cI cZ : ClassId) (σ : CSt) (x1 : Int32) : CR l D (tyIZ cI cZ) (wC a cI cZ) yX2_keyOf cX2_keyOf 2 .int (rmk 1 21) [.ref (a 4), .int x1] σ (fX2_keyOf σ x1) σ := by
  refine CR.of pnX2 ⟨rfl, rfl⟩ (Nat.le_of_ble_eq_true rfl) rfl (fun p e s m args below meth c A Q ls C X hA hl ret => ?_)
  have C : Cx p s m args meth c cX2_keyOf 2 RX2 D (tyIZ cI cZ) := C
  have hx := C.1
  have hb := C.2.1
  have hl : lv_has ls 2 [(0, .ref (a 4)), (1, .int x1)] := hl
  refine lv_aload_n hx hb dX2_keyOf_0 rfl (lv_at hl 0 rfl) ?_
  refine lv_iload_n hx hb dX2_keyOf_1 rfl (lv_at hl 1 rfl) ?_
  refine callVR (rest := []) C hA (wC_sh a cI cZ) X (kX2_isPair l D a cI cZ _ x1) (cwV 1 C.2.2.2.2.1 (gV wl_X2_22 wt_yX2_isPair ws_yX2_isPair wi_X2 wk_yX2_isPair) rfl rfl rfl hdX2_isPair ⟨Nat.le_of_ble_eq_true rfl, Nat.le_of_ble_eq_true rfl⟩) (ci := 2) (q0 := 4) rfl rfl rfl hl.1 rfl (Nat.le_of_ble_eq_true rfl) dX2_keyOf_2 ⟨Nat.le_refl 0, Nat.le_refl 0⟩ (fun H locs X => ?_)
  refine lv_if_eq (tgt := 17) hx hb dX2_keyOf_5 (by decide) (fun c5 => ?_) (fun c5 => ?_)
  · refine lv_iconst (v := (-1)) hx hb dX2_keyOf_17 (by decide) ?_
    exact ret dX2_keyOf_18 (congrArg (fun z => (z, _)) (Eq.symm (if_pos c5))) X
  · refine lv_aload_n hx hb dX2_keyOf_8 rfl (lv_at hl 0 rfl) ?_
    refine cg_X2_X2_keys C X dX2_keyOf_9 ?_
    refine lv_iload_n hx hb dX2_keyOf_12 rfl (lv_at hl 1 rfl) ?_
    refine ca_keys (v := ((c_keys σ) (ix x1))) C X (in_isPair c5) rfl dX2_keyOf_13 ?_
    refine lv_goto (tgt := 18) hx hb dX2_keyOf_14 (by decide) ?_
    exact ret dX2_keyOf_18 (congrArg (fun z => (z, _)) (Eq.symm (if_neg c5))) X
def fX2_valueOf (σ : CSt) (x1 : Int32) : Int32 := (if (fX2_isPair σ x1) = (0 : Int32) then (-1 : Int32) else ((c_values σ) (ix x1)))
theorem hdX2_valueOf : yX2_valueOf.cls = RX2 ∧ yX2_valueOf.cls ≠ "java/lang/invoke/MethodHandle" ∧ yX2_valueOf.cls ≠ "java/lang/invoke/VarHandle" ∧ (parseMethodDescriptor yX2_valueOf.desc).map (fun d => d.parameters.length) = some 1 := by decide +kernel
set_option maxHeartbeats 250000 in
set_option maxRecDepth 100000 in
theorem kX2_valueOf (l : Launch) (D : va_G) (a : Nat → Nat) (cI cZ : ClassId) (σ : CSt) (x1 : Int32) : CR l D (tyIZ cI cZ) (wC a cI cZ) yX2_valueOf cX2_valueOf 2 .int (rmk 1 21) [.ref (a 4), .int x1] σ (fX2_valueOf σ x1) σ := by
  refine CR.of pnX2 ⟨rfl, rfl⟩ (Nat.le_of_ble_eq_true rfl) rfl (fun p e s m args below meth c A Q ls C X hA hl ret => ?_)
  have C : Cx p s m args meth c cX2_valueOf 2 RX2 D (tyIZ cI cZ) := C
  have hx := C.1
  have hb := C.2.1
  have hl : lv_has ls 2 [(0, .ref (a 4)), (1, .int x1)] := hl
  refine lv_aload_n hx hb dX2_valueOf_0 rfl (lv_at hl 0 rfl) ?_
  refine lv_iload_n hx hb dX2_valueOf_1 rfl (lv_at hl 1 rfl) ?_
  refine callVR (rest := []) C hA (wC_sh a cI cZ) X (kX2_isPair l D a cI cZ _ x1) (cwV 1 C.2.2.2.2.1 (gV wl_X2_22 wt_yX2_isPair ws_yX2_isPair wi_X2 wk_yX2_isPair) rfl rfl rfl hdX2_isPair ⟨Nat.le_of_ble_eq_true rfl, Nat.le_of_ble_eq_true rfl⟩) (ci := 2) (q0 := 4) rfl rfl rfl hl.1 rfl (Nat.le_of_ble_eq_true rfl) dX2_valueOf_2 ⟨Nat.le_refl 0, Nat.le_refl 0⟩ (fun H locs X => ?_)
  refine lv_if_eq (tgt := 17) hx hb dX2_valueOf_5 (by decide) (fun c5 => ?_) (fun c5 => ?_)
  · refine lv_iconst (v := (-1)) hx hb dX2_valueOf_17 (by decide) ?_
    exact ret dX2_valueOf_18 (congrArg (fun z => (z, _)) (Eq.symm (if_pos c5))) X
  · refine lv_aload_n hx hb dX2_valueOf_8 rfl (lv_at hl 0 rfl) ?_
    refine cg_X2_X2_values C X dX2_valueOf_9 ?_
    refine lv_iload_n hx hb dX2_valueOf_12 rfl (lv_at hl 1 rfl) ?_
    refine ca_values (v := ((c_values σ) (ix x1))) C X (in_isPair c5) rfl dX2_valueOf_13 ?_
    refine lv_goto (tgt := 18) hx hb dX2_valueOf_14 (by decide) ?_
    exact ret dX2_valueOf_18 (congrArg (fun z => (z, _)) (Eq.symm (if_neg c5))) X
def fX2_countNotDropped_L4 : Nat → Int32 → Int32 → CSt → Int32
  | 0, y1, y2, σ0 => y1
  | f + 1, y1, y2, σ0 => (if (fX2_keyOf σ0 y2) = (-1 : Int32) then (fX2_countNotDropped_L4 f y1 (y2 + 1) σ0) else (fX2_countNotDropped_L4 f (y1 + 1) (y2 + 1) σ0))
def fX2_countNotDropped (σ : CSt) : Int32 := (fX2_countNotDropped_L4 (((Int32.toInt (c_pmade σ)) - (Int32.toInt (0 : Int32))).toNat) (0 : Int32) (0 : Int32) σ)
theorem hdX2_countNotDropped : yX2_countNotDropped.cls = RX2 ∧ yX2_countNotDropped.cls ≠ "java/lang/invoke/MethodHandle" ∧ yX2_countNotDropped.cls ≠ "java/lang/invoke/VarHandle" ∧ (parseMethodDescriptor yX2_countNotDropped.desc).map (fun d => d.parameters.length) = some 0 := by decide +kernel
set_option maxHeartbeats 250000 in
set_option maxRecDepth 100000 in
theorem kX2_countNotDropped (l : Launch) (D : va_G) (a : Nat → Nat) (cI cZ : ClassId) (σ : CSt) : CR l D (tyIZ cI cZ) (wC a cI cZ) yX2_countNotDropped cX2_countNotDropped 3 .int (rmk 2 42) [.ref (a 4)] σ (fX2_countNotDropped σ) σ := by
  refine CR.of pnX2 ⟨rfl, rfl⟩ (Nat.le_of_ble_eq_true rfl) rfl (fun p e s m args below meth c A Q ls C X hA hl ret => ?_)
  have C : Cx p s m args meth c cX2_countNotDropped 3 RX2 D (tyIZ cI cZ) := C
  have hx := C.1
  have hb := C.2.1
  have hl : lv_has ls 3 [(0, .ref (a 4))] := hl
  refine lv_iconst (v := (0)) hx hb dX2_countNotDropped_0 (by decide) ?_
  refine lv_istore_n (lv' := [(1, .int (0 : Int32)), (0, .ref (a 4))]) hx hb dX2_countNotDropped_1 rfl hl (by decide) rfl (fun ls hl => ?_)
  refine lv_iconst (v := (0)) hx hb dX2_countNotDropped_2 (by decide) ?_
  refine lv_istore_n (lv' := [(2, .int (0 : Int32)), (1, .int (0 : Int32)), (0, .ref (a 4))]) hx hb dX2_countNotDropped_3 rfl hl (by decide) rfl (fun ls hl => ?_)
  have L4 : ∀ (f : Nat) (y1 : Int32) (y2 : Int32) (hf : ((Int32.toInt (c_pmade σ)) - (Int32.toInt y2)).toNat = f) (hnn : 0 ≤ Int32.toInt y2) (he : fX2_countNotDropped_L4 f y1 y2 σ = (fX2_countNotDropped σ)) (H : Heap) (locs : List Loc) (ls : Array Slot) (X : Sx A D (wC a cI cZ σ) s H locs) (hl : lv_has ls 3 [(0, .ref (a 4)), (1, .int y1), (2, .int y2)]), W p l e (rmk 2 42) s m args below meth c H locs 0 0 Q (F0 m 4 ls []) := by
    intro f
    induction f with
    | zero =>
      intro y1 y2 hf hnn he H locs ls X hl
      refine lv_iload_n hx hb dX2_countNotDropped_4 rfl (lv_at hl 2 rfl) ?_
      refine lv_aload_n hx hb dX2_countNotDropped_5 rfl (lv_at hl 0 rfl) ?_
      refine cg_X2_X2_made (v := (c_pmade σ)) C X rfl dX2_countNotDropped_6 ?_
      refine lv_icmp_ge (tgt := 30) hx hb dX2_countNotDropped_9 (by decide) (fun c9 => ?_) (fun c9 => (lp_z hf c9).elim)
      refine lv_iload_n hx hb dX2_countNotDropped_30 rfl (lv_at hl 1 rfl) ?_
      exact ret dX2_countNotDropped_31 (congrArg (fun z => (z, _)) he) X
    | succ f ih4 =>
      intro y1 y2 hf hnn he H locs ls X hl
      refine lv_iload_n hx hb dX2_countNotDropped_4 rfl (lv_at hl 2 rfl) ?_
      refine lv_aload_n hx hb dX2_countNotDropped_5 rfl (lv_at hl 0 rfl) ?_
      refine cg_X2_X2_made (v := (c_pmade σ)) C X rfl dX2_countNotDropped_6 ?_
      refine lv_icmp_ge (tgt := 30) hx hb dX2_countNotDropped_9 (by decide) (fun c9 => (lp_s hf c9).elim) (fun c9 => ?_)
      refine lv_aload_n hx hb dX2_countNotDropped_12 rfl (lv_at hl 0 rfl) ?_
      refine lv_iload_n hx hb dX2_countNotDropped_13 rfl (lv_at hl 2 rfl) ?_
      refine callVR (rest := []) C hA (wC_sh a cI cZ) X (kX2_keyOf l D a cI cZ _ y2) (cwV 1 C.2.2.2.2.1 (gV wl_X2_26 wt_yX2_keyOf ws_yX2_keyOf wi_X2 wk_yX2_keyOf) rfl rfl rfl hdX2_keyOf ⟨Nat.le_of_ble_eq_true rfl, Nat.le_of_ble_eq_true rfl⟩) (ci := 2) (q0 := 4) rfl rfl rfl hl.1 rfl (Nat.le_of_ble_eq_true rfl) dX2_countNotDropped_14 ⟨Nat.le_refl 0, Nat.le_refl 0⟩ (fun H locs X => ?_)
      refine lv_iconst (v := (-1)) hx hb dX2_countNotDropped_17 (by decide) ?_
      refine lv_icmp_eq (tgt := 24) hx hb dX2_countNotDropped_18 (by decide) (fun c18 => ?_) (fun c18 => ?_)
      · refine lv_iinc (v := (y2 + 1)) (lv' := [(2, .int (y2 + 1)), (0, .ref (a 4)), (1, .int y1)]) hx hb dX2_countNotDropped_24 hl (k := 2) rfl rfl (by decide) rfl (fun ls hl => ?_)
        refine lv_goto (tgt := 4) hx hb dX2_countNotDropped_27 (by decide) ?_
        exact ih4 y1 (y2 + 1) (lp_b hf) (lp_nn hnn hf) (Eq.trans (Eq.symm (if_pos c18)) he) _ _ _ X (lv_sub hl [1, 2, 0] rfl)
      · refine lv_iinc (v := (y1 + 1)) (lv' := [(1, .int (y1 + 1)), (0, .ref (a 4)), (2, .int y2)]) hx hb dX2_countNotDropped_21 hl (k := 1) rfl rfl (by decide) rfl (fun ls hl => ?_)
        refine lv_iinc (v := (y2 + 1)) (lv' := [(2, .int (y2 + 1)), (1, .int (y1 + 1)), (0, .ref (a 4))]) hx hb dX2_countNotDropped_24 hl (k := 2) rfl rfl (by decide) rfl (fun ls hl => ?_)
        refine lv_goto (tgt := 4) hx hb dX2_countNotDropped_27 (by decide) ?_
        exact ih4 (y1 + 1) (y2 + 1) (lp_b hf) (lp_nn hnn hf) (Eq.trans (Eq.symm (if_neg c18)) he) _ _ _ X (lv_sub hl [2, 1, 0] rfl)
  exact L4 (((Int32.toInt (c_pmade σ)) - (Int32.toInt (0 : Int32))).toNat) (0 : Int32) (0 : Int32) rfl (by decide) rfl _ _ _ X (lv_sub hl [2, 1, 0] rfl)
