theorem rq_colour_many (σ : RSt) (v : (Nat → Int32)) : r_colour (r_many_s σ v) = r_colour σ := rfl
theorem rq_colour_place (σ : RSt) (v : (Nat → Int32)) : r_colour (r_place_s σ v) = r_colour σ := rfl
theorem rq_hasWish_colour (σ : RSt) (v : (Nat → Int32)) : r_hasWish (r_colour_s σ v) = r_hasWish σ := rfl
theorem rq_hasWish_isFreed (σ : RSt) (v : (Nat → Int32)) : r_hasWish (r_isFreed_s σ v) = r_hasWish σ := rfl
theorem rq_hasWish_many (σ : RSt) (v : (Nat → Int32)) : r_hasWish (r_many_s σ v) = r_hasWish σ := rfl
theorem rq_hasWish_place (σ : RSt) (v : (Nat → Int32)) : r_hasWish (r_place_s σ v) = r_hasWish σ := rfl
theorem rq_isFreed_colour (σ : RSt) (v : (Nat → Int32)) : r_isFreed (r_colour_s σ v) = r_isFreed σ := rfl
theorem rq_isFreed_many (σ : RSt) (v : (Nat → Int32)) : r_isFreed (r_many_s σ v) = r_isFreed σ := rfl
theorem rq_isFreed_place (σ : RSt) (v : (Nat → Int32)) : r_isFreed (r_place_s σ v) = r_isFreed σ := rfl
theorem rq_isPair_key (σ : RSt) (v : (Nat → Int32)) : r_isPair (r_key_s σ v) = r_isPair σ := rfl
theorem rq_isPair_value (σ : RSt) (v : (Nat → Int32)) : r_isPair (r_value_s σ v) = r_isPair σ := rfl
theorem rq_moved_colour (σ : RSt) (v : (Nat → Int32)) : r_moved (r_colour_s σ v) = r_moved σ := rfl
theorem rq_moved_hasWish (σ : RSt) (v : (Nat → Int32)) : r_moved (r_hasWish_s σ v) = r_moved σ := rfl
theorem rq_moved_isFreed (σ : RSt) (v : (Nat → Int32)) : r_moved (r_isFreed_s σ v) = r_moved σ := rfl
theorem rq_moved_many (σ : RSt) (v : (Nat → Int32)) : r_moved (r_many_s σ v) = r_moved σ := rfl
theorem rq_pairs_isPair (σ : RSt) (v : (Nat → Int32)) : r_pairs (r_isPair_s σ v) = r_pairs σ := rfl
theorem rq_pairs_key (σ : RSt) (v : (Nat → Int32)) : r_pairs (r_key_s σ v) = r_pairs σ := rfl
theorem rq_pairs_pairs (σ : RSt) (v : Int32) : r_pairs (r_pairs_s σ v) = v := rfl
theorem rq_pairs_value (σ : RSt) (v : (Nat → Int32)) : r_pairs (r_value_s σ v) = r_pairs σ := rfl
theorem rq_place_many (σ : RSt) (v : (Nat → Int32)) : r_place (r_many_s σ v) = r_place σ := rfl
theorem rq_things_top (σ : RSt) (v : Int32) : r_things (r_top_s σ v) = r_things σ := rfl
theorem rq_value_key (σ : RSt) (v : (Nat → Int32)) : r_value (r_key_s σ v) = r_value σ := rfl
theorem rq_way_steps (σ : RSt) (v : Int32) : r_way (r_steps_s σ v) = r_way σ := rfl
theorem lq_b {B x : Int32} {f : Nat} (h : (B.toInt + 1 - x.toInt).toNat = f + 1) (hB : B = 200 := by rfl) : (B.toInt + 1 - (x + 1).toInt).toNat = f := by
  subst hB
  have q : (200 : Int32).toInt = 200 := rfl
  rw [i32_1 (B := 201) (by have q2 : (201 : Int32).toInt = 201 := rfl; omega)]
  omega

def fX6_sweeps_J36 (σ36 : RSt) : RSt := (if (r_next σ36) = (r_things σ36) then (fX6_over σ36) else (if (fX6_isWhite σ36 (r_next σ36)) = (0 : Int32) then (r_next_s σ36 ((r_next σ36) + (1 : Int32))) else (r_next_s (fX6_frees σ36 (r_next σ36)) ((r_next (fX6_frees σ36 (r_next σ36))) + (1 : Int32)))))
def fX6_sweeps_L0 : Nat → RSt → RSt
  | 0, σ0 => σ0
  | f + 1, σ0 => (if ((r_isFreed σ0) (ix (r_next σ0))) = (0 : Int32) then σ0 else (fX6_sweeps_L0 f (r_next_s σ0 ((r_next σ0) + (1 : Int32)))))
def fX6_sweeps (σ : RSt) : RSt := (fX6_sweeps_J36 (fX6_sweeps_L0 (((Int32.toInt (r_things σ)) - (Int32.toInt (r_next σ))).toNat) σ))
theorem hdX6_sweeps : yX6_sweeps.cls = RX6 ∧ yX6_sweeps.cls ≠ "java/lang/invoke/MethodHandle" ∧ yX6_sweeps.cls ≠ "java/lang/invoke/VarHandle" ∧ (parseMethodDescriptor yX6_sweeps.desc).map (fun d => d.parameters.length) = some 0 := by decide +kernel
theorem sw_L0 (f : Nat) : ∀ (σ : RSt), S0 σ → 0 ≤ Int32.toInt (r_next σ) → Int32.toInt (r_next σ) ≤ Int32.toInt (r_things σ) → ((Int32.toInt (r_things σ)) - (Int32.toInt (r_next σ))).toNat = f → S0 (fX6_sweeps_L0 f σ) ∧ 0 ≤ Int32.toInt (r_next (fX6_sweeps_L0 f σ)) ∧ Int32.toInt (r_next (fX6_sweeps_L0 f σ)) ≤ Int32.toInt (r_things (fX6_sweeps_L0 f σ)) ∧ Int32.toInt (r_next σ) ≤ Int32.toInt (r_next (fX6_sweeps_L0 f σ)) ∧ r_way (fX6_sweeps_L0 f σ) = r_way σ ∧ r_things (fX6_sweeps_L0 f σ) = r_things σ := by
  induction f with
  | zero => intro σ hS h0 h1 hf; exact ⟨hS, h0, h1, Int.le_refl _, rfl, rfl⟩
  | succ f ih =>
    intro σ hS h0 h1 hf
    unfold fX6_sweeps_L0
    split
    · exact ⟨hS, h0, h1, Int.le_refl _, rfl, rfl⟩
    · have e := i32_1 (x := r_next σ) (B := r_things σ) (by omega)
      have hn : r_next (r_next_s σ (r_next σ + 1)) = r_next σ + 1 := rfl
      have ht : r_things (r_next_s σ (r_next σ + 1)) = r_things σ := rfl
      have hw : r_way (r_next_s σ (r_next σ + 1)) = r_way σ := rfl
      have h2 := ih (r_next_s σ (r_next σ + 1)) (s0_nx hS _ (by omega) (Or.inr (Or.inr (by omega)))) (by rw [hn]; omega) (by rw [hn, ht]; omega) (by rw [hn, ht]; omega)
      obtain ⟨b1, b2, b3, b4, b5, b6⟩ := h2
      refine ⟨b1, b2, b3, ?_, b5.trans hw, b6.trans ht⟩
      rw [hn] at b4
      omega

set_option maxHeartbeats 250000 in
set_option maxRecDepth 100000 in
theorem kX6_sweeps (l : Launch) (D : va_G) (a : Nat → Nat) (cI cZ : ClassId) (σ : RSt) (hS : S0 σ) (hw : ¬ r_way σ = 1) (hw0 : ¬ r_way σ = 0) : CU l D (tyIZ cI cZ) (wR a cI cZ) yX6_sweeps cX6_sweeps 1 (rmk 1 21) [.ref (a 0)] σ (fX6_sweeps σ) := by
  refine CU.of pnX6 ⟨rfl, rfl⟩ (Nat.le_of_ble_eq_true rfl) (fun p e s m args below meth c A Q ls C X hA hl ret => ?_)
  have C : Cx p s m args meth c cX6_sweeps 1 RX6 D (tyIZ cI cZ) := C
  have hx := C.1
  have hb := C.2.1
  have hl : lv_has ls 1 [(0, .ref (a 0))] := hl
  have J36 : ∀ (σ36 : RSt) (h36 : S0 σ36 ∧ 0 ≤ Int32.toInt (r_next σ36) ∧ Int32.toInt (r_next σ36) ≤ Int32.toInt (r_things σ36)) (he : fX6_sweeps_J36 σ36 = (fX6_sweeps σ)) (H : Heap) (locs : List Loc) (ls : Array Slot) (X : Sx A D (wR a cI cZ σ36) s H locs) (hl : lv_has ls 1 [(0, .ref (a 0))]), W p l e (rmk 1 21) s m args below meth c H locs 0 0 Q (F0 m 36 ls []) := by
    intro σ36 h36 he H locs ls X hl
    refine lv_aload_n hx hb dX6_sweeps_36 rfl (lv_at hl 0 rfl) ?_
    refine rg_X6_X6_next (v := (r_next σ36)) C X rfl dX6_sweeps_37 ?_
    refine lv_aload_n hx hb dX6_sweeps_40 rfl (lv_at hl 0 rfl) ?_
    refine rg_X6_X6_things (v := (r_things σ36)) C X rfl dX6_sweeps_41 ?_
    refine lv_icmp_ne (tgt := 52) hx hb dX6_sweeps_44 (by decide) (fun c44 => ?_) (fun c44 => ?_)
    · refine lv_aload_n hx hb dX6_sweeps_52 rfl (lv_at hl 0 rfl) ?_
      refine lv_aload_n hx hb dX6_sweeps_53 rfl (lv_at hl 0 rfl) ?_
      refine rg_X6_X6_next (v := (r_next σ36)) C X rfl dX6_sweeps_54 ?_
      refine callVR (rest := []) C hA (wR_sh a cI cZ) X (kX6_isWhite l D a cI cZ _ (r_next σ36) (vp_in_iff.mpr (by have t := i32_ne c44; have t2 := s0_th h36.1; omega))) (cwV 1 C.2.2.2.2.1 (gV wl_X6_110 wt_yX6_isWhite ws_yX6_isWhite wi_X6 wk_yX6_isWhite) rfl rfl rfl hdX6_isWhite ⟨Nat.le_of_ble_eq_true rfl, Nat.le_of_ble_eq_true rfl⟩) (ci := 6) (q0 := 0) rfl rfl rfl hl.1 rfl (Nat.le_of_ble_eq_true rfl) dX6_sweeps_57 ⟨Nat.le_refl 0, Nat.le_refl 0⟩ (fun H locs X => ?_)
      refine lv_if_eq (tgt := 71) hx hb dX6_sweeps_60 (by decide) (fun c60 => ?_) (fun c60 => ?_)
      · refine lv_aload_n hx hb dX6_sweeps_71 rfl (lv_at hl 0 rfl) ?_
        refine lv_dup hx hb dX6_sweeps_72 rfl ?_
        refine rg_X6_X6_next (v := (r_next σ36)) C X rfl dX6_sweeps_73 ?_
        refine lv_iconst (v := (1)) hx hb dX6_sweeps_76 (by decide) ?_
        refine lv_iadd hx hb dX6_sweeps_77 ?_
        refine rp_X6_X6_next C X dX6_sweeps_78 (fun H locs X => ?_)
        exact ret dX6_sweeps_81 (Eq.trans (Eq.symm (Eq.trans (if_neg c44) (if_pos c60))) he) X
      · refine lv_aload_n hx hb dX6_sweeps_63 rfl (lv_at hl 0 rfl) ?_
        refine lv_aload_n hx hb dX6_sweeps_64 rfl (lv_at hl 0 rfl) ?_
        refine rg_X6_X6_next (v := (r_next σ36)) C X rfl dX6_sweeps_65 ?_
        refine callVU (rest := []) C hA (wR_sh a cI cZ) X (kX6_frees l D a cI cZ _ (r_next σ36) (vp_in_iff.mpr (by have t := i32_ne c44; have t2 := s0_th h36.1; omega))) (cwV 1 C.2.2.2.2.1 (gV wl_X6_127 wt_yX6_frees ws_yX6_frees wi_X6 wk_yX6_frees) rfl rfl rfl hdX6_frees ⟨Nat.le_of_ble_eq_true rfl, Nat.le_of_ble_eq_true rfl⟩) (ci := 6) (q0 := 0) rfl rfl rfl hl.1 rfl (Nat.le_of_ble_eq_true rfl) dX6_sweeps_68 ⟨Nat.le_refl 0, Nat.le_refl 0⟩ (fun H locs X => ?_)
        refine lv_aload_n hx hb dX6_sweeps_71 rfl (lv_at hl 0 rfl) ?_
        refine lv_dup hx hb dX6_sweeps_72 rfl ?_
        refine rg_X6_X6_next (v := (r_next (fX6_frees σ36 (r_next σ36)))) C X rfl dX6_sweeps_73 ?_
        refine lv_iconst (v := (1)) hx hb dX6_sweeps_76 (by decide) ?_
        refine lv_iadd hx hb dX6_sweeps_77 ?_
        refine rp_X6_X6_next C X dX6_sweeps_78 (fun H locs X => ?_)
        exact ret dX6_sweeps_81 (Eq.trans (Eq.symm (Eq.trans (if_neg c44) (if_neg c60))) he) X
    · refine lv_aload_n hx hb dX6_sweeps_47 rfl (lv_at hl 0 rfl) ?_
      refine callVU (rest := []) C hA (wR_sh a cI cZ) X (kX6_over l D a cI cZ _ ) (cwV 0 C.2.2.2.2.1 (gV wl_X6_130 wt_yX6_over ws_yX6_over wi_X6 wk_yX6_over) rfl rfl rfl hdX6_over ⟨Nat.le_of_ble_eq_true rfl, Nat.le_of_ble_eq_true rfl⟩) (ci := 6) (q0 := 0) rfl rfl rfl hl.1 rfl (Nat.le_of_ble_eq_true rfl) dX6_sweeps_48 ⟨Nat.le_refl 0, Nat.le_refl 0⟩ (fun H locs X => ?_)
      exact ret dX6_sweeps_51 (Eq.trans (Eq.symm (if_pos c44)) he) X
  have L0 : ∀ (res : RSt) (hx0 : ∀ (H : Heap) (locs : List Loc) (ls : Array Slot), Sx A D (wR a cI cZ res) s H locs → lv_has ls 1 [(0, .ref (a 0))] → W p l e (rmk 1 21) s m args below meth c H locs 0 0 Q (F0 m 36 ls [])) (f : Nat) (σ0 : RSt) (hf : ((Int32.toInt (r_things σ0)) - (Int32.toInt (r_next σ0))).toNat = f) (hnn : 0 ≤ Int32.toInt (r_next σ0)) (hS : S0 σ0) (he : fX6_sweeps_L0 f σ0 = res) (H : Heap) (locs : List Loc) (ls : Array Slot) (X : Sx A D (wR a cI cZ σ0) s H locs) (hl : lv_has ls 1 [(0, .ref (a 0))]), W p l e (rmk 1 21) s m args below meth c H locs 0 0 Q (F0 m 0 ls []) := by
    intro res hx0 f
    induction f with
    | zero =>
      intro σ0 hf hnn hS he H locs ls X hl
      refine lv_aload_n hx hb dX6_sweeps_0 rfl (lv_at hl 0 rfl) ?_
      refine rg_X6_X6_next (v := (r_next σ0)) C X rfl dX6_sweeps_1 ?_
      refine lv_aload_n hx hb dX6_sweeps_4 rfl (lv_at hl 0 rfl) ?_
      refine rg_X6_X6_things (v := (r_things σ0)) C X rfl dX6_sweeps_5 ?_
      refine lv_icmp_ge (tgt := 36) hx hb dX6_sweeps_8 (by decide) (fun c8 => ?_) (fun c8 => (lp_z hf c8).elim)
      exact hx0 _ _ _ (Eq.subst (motive := fun z => Sx A D (wR a cI cZ z) s _ _) he X) (Eq.subst (motive := fun z => lv_has _ 1 [(0, .ref (a 0))]) he (lv_sub hl [0] rfl))
    | succ f ih0 =>
      intro σ0 hf hnn hS he H locs ls X hl
      refine lv_aload_n hx hb dX6_sweeps_0 rfl (lv_at hl 0 rfl) ?_
      refine rg_X6_X6_next (v := (r_next σ0)) C X rfl dX6_sweeps_1 ?_
      refine lv_aload_n hx hb dX6_sweeps_4 rfl (lv_at hl 0 rfl) ?_
      refine rg_X6_X6_things (v := (r_things σ0)) C X rfl dX6_sweeps_5 ?_
      refine lv_icmp_ge (tgt := 36) hx hb dX6_sweeps_8 (by decide) (fun c8 => (lp_s hf c8).elim) (fun c8 => ?_)
      refine lv_aload_n hx hb dX6_sweeps_11 rfl (lv_at hl 0 rfl) ?_
      refine rg_X6_X6_isFreed C X dX6_sweeps_12 ?_
      refine lv_aload_n hx hb dX6_sweeps_15 rfl (lv_at hl 0 rfl) ?_
      refine rg_X6_X6_next (v := (r_next σ0)) C X rfl dX6_sweeps_16 ?_
      refine ra_isFreed (v := ((r_isFreed σ0) (ix (r_next σ0)))) C X (lp_in hnn hf (s0_th hS)) rfl dX6_sweeps_19 ?_
      refine lv_if_eq (tgt := 36) hx hb dX6_sweeps_20 (by decide) (fun c20 => ?_) (fun c20 => ?_)
      · exact hx0 _ _ _ (Eq.subst (motive := fun z => Sx A D (wR a cI cZ z) s _ _) (Eq.trans (Eq.symm (if_pos c20)) he) X) (Eq.subst (motive := fun z => lv_has _ 1 [(0, .ref (a 0))]) (Eq.trans (Eq.symm (if_pos c20)) he) (lv_sub hl [0] rfl))
      · refine lv_aload_n hx hb dX6_sweeps_23 rfl (lv_at hl 0 rfl) ?_
        refine lv_dup hx hb dX6_sweeps_24 rfl ?_
        refine rg_X6_X6_next (v := (r_next σ0)) C X rfl dX6_sweeps_25 ?_
        refine lv_iconst (v := (1)) hx hb dX6_sweeps_28 (by decide) ?_
        refine lv_iadd hx hb dX6_sweeps_29 ?_
        refine rp_X6_X6_next C X dX6_sweeps_30 (fun H locs X => ?_)
        refine lv_goto (tgt := 0) hx hb dX6_sweeps_33 (by decide) ?_
        exact ih0  (r_next_s σ0 ((r_next σ0) + (1 : Int32))) (lp_b hf) (lp_nn hnn hf) (s0_nx hS _ (lp_nn hnn hf) (Or.inr (Or.inr (by rw [i32_1 (B := r_things σ0) (by omega)]; omega)))) (Eq.trans (Eq.symm (if_neg c20)) he) _ _ _ X (lv_sub hl [0] rfl)
  refine L0 (fX6_sweeps_L0 (((Int32.toInt (r_things σ)) - (Int32.toInt (r_next σ))).toNat) σ) (fun H locs ls X hl => ?_) (((Int32.toInt (r_things σ)) - (Int32.toInt (r_next σ))).toNat)  σ rfl (s0_next hS) (hS) rfl _ _ _ X (lv_sub hl [0] rfl)
  exact J36  (fX6_sweeps_L0 (((Int32.toInt (r_things σ)) - (Int32.toInt (r_next σ))).toNat) σ) ((fun h => ⟨h.1, h.2.1, h.2.2.1⟩) (sw_L0 _ _ hS (s0_next hS) ((s0_way hS).resolve_left hw0 |>.resolve_left hw) rfl)) rfl _ _ _ X (lv_sub hl [0] rfl)
def fX6_step (σ : RSt) : RSt := (if (r_way σ) = (1 : Int32) then (fX6_marks (r_steps_s σ ((r_steps σ) + (1 : Int32)))) else (fX6_sweeps (r_steps_s σ ((r_steps σ) + (1 : Int32)))))
theorem hdX6_step : yX6_step.cls = RX6 ∧ yX6_step.cls ≠ "java/lang/invoke/MethodHandle" ∧ yX6_step.cls ≠ "java/lang/invoke/VarHandle" ∧ (parseMethodDescriptor yX6_step.desc).map (fun d => d.parameters.length) = some 0 := by decide +kernel
set_option maxHeartbeats 250000 in
set_option maxRecDepth 100000 in
theorem kX6_step (l : Launch) (D : va_G) (a : Nat → Nat) (cI cZ : ClassId) (σ : RSt) (hS : S0 σ) (hw0 : ¬ r_way σ = 0) : CU l D (tyIZ cI cZ) (wR a cI cZ) yX6_step cX6_step 1 (rmk 4 86) [.ref (a 0)] σ (fX6_step σ) := by
  refine CU.of pnX6 ⟨rfl, rfl⟩ (Nat.le_of_ble_eq_true rfl) (fun p e s m args below meth c A Q ls C X hA hl ret => ?_)
  have C : Cx p s m args meth c cX6_step 1 RX6 D (tyIZ cI cZ) := C
  have hx := C.1
  have hb := C.2.1
  have hl : lv_has ls 1 [(0, .ref (a 0))] := hl
  refine lv_aload_n hx hb dX6_step_0 rfl (lv_at hl 0 rfl) ?_
  refine lv_dup hx hb dX6_step_1 rfl ?_
  refine rg_X6_X6_steps (v := (r_steps σ)) C X rfl dX6_step_2 ?_
  refine lv_iconst (v := (1)) hx hb dX6_step_5 (by decide) ?_
  refine lv_iadd hx hb dX6_step_6 ?_
  refine rp_X6_X6_steps C X dX6_step_7 (fun H locs X => ?_)
  refine lv_aload_n hx hb dX6_step_10 rfl (lv_at hl 0 rfl) ?_
  refine rg_X6_X6_way (v := (r_way σ)) C X (rq_way_steps _ _) dX6_step_11 ?_
  refine lv_iconst (v := (1)) hx hb dX6_step_14 (by decide) ?_
  refine lv_icmp_ne (tgt := 25) hx hb dX6_step_15 (by decide) (fun c15 => ?_) (fun c15 => ?_)
  · refine lv_aload_n hx hb dX6_step_25 rfl (lv_at hl 0 rfl) ?_
    refine callVU (rest := []) C hA (wR_sh a cI cZ) X (kX6_sweeps l D a cI cZ _  (s0_sa (sa_steps _ _) hS) c15 hw0) (cwV 0 C.2.2.2.2.1 (gV wl_X6_136 wt_yX6_sweeps ws_yX6_sweeps wi_X6 wk_yX6_sweeps) rfl rfl rfl hdX6_sweeps ⟨Nat.le_of_ble_eq_true rfl, Nat.le_of_ble_eq_true rfl⟩) (ci := 6) (q0 := 0) rfl rfl rfl hl.1 rfl (Nat.le_of_ble_eq_true rfl) dX6_step_26 ⟨Nat.le_refl 0, Nat.le_refl 0⟩ (fun H locs X => ?_)
    exact ret dX6_step_29 (Eq.symm (if_neg c15)) X
  · refine lv_aload_n hx hb dX6_step_18 rfl (lv_at hl 0 rfl) ?_
    refine callVU (rest := []) C hA (wR_sh a cI cZ) X (kX6_marks l D a cI cZ _  (s0_sa (sa_steps _ _) hS)) (cwV 0 C.2.2.2.2.1 (gV wl_X6_133 wt_yX6_marks ws_yX6_marks wi_X6 wk_yX6_marks) rfl rfl rfl hdX6_marks ⟨Nat.le_of_ble_eq_true rfl, Nat.le_of_ble_eq_true rfl⟩) (ci := 6) (q0 := 0) rfl rfl rfl hl.1 rfl (Nat.le_of_ble_eq_true rfl) dX6_step_19 ⟨Nat.le_refl 0, Nat.le_refl 0⟩ (fun H locs X => ?_)
    refine lv_goto (tgt := 29) hx hb dX6_step_22 (by decide) ?_
    exact ret dX6_step_29 (Eq.symm (if_pos c15)) X
def fX6_under (σ : RSt) : Int32 := (r_way σ)
theorem hdX6_under : yX6_under.cls = RX6 ∧ yX6_under.cls ≠ "java/lang/invoke/MethodHandle" ∧ yX6_under.cls ≠ "java/lang/invoke/VarHandle" ∧ (parseMethodDescriptor yX6_under.desc).map (fun d => d.parameters.length) = some 0 := by decide +kernel
set_option maxHeartbeats 250000 in
set_option maxRecDepth 100000 in
theorem kX6_under (l : Launch) (D : va_G) (a : Nat → Nat) (cI cZ : ClassId) (σ : RSt) : CR l D (tyIZ cI cZ) (wR a cI cZ) yX6_under cX6_under 1 .int (rmk 0 0) [.ref (a 0)] σ (fX6_under σ) σ := by
  refine CR.of pnX6 ⟨rfl, rfl⟩ (Nat.le_of_ble_eq_true rfl) rfl (fun p e s m args below meth c A Q ls C X hA hl ret => ?_)
  have C : Cx p s m args meth c cX6_under 1 RX6 D (tyIZ cI cZ) := C
  have hx := C.1
  have hb := C.2.1
  have hl : lv_has ls 1 [(0, .ref (a 0))] := hl
  refine lv_aload_n hx hb dX6_under_0 rfl (lv_at hl 0 rfl) ?_
  refine rg_X6_X6_way (v := (r_way σ)) C X rfl dX6_under_1 ?_
  exact ret dX6_under_4 (congrArg (fun z => (z, _)) rfl) X
def fX6_notes (σ : RSt) : Int32 := (if (r_way σ) = (1 : Int32) then (if (r_fault σ) = (1 : Int32) then (0 : Int32) else (1 : Int32)) else (0 : Int32))
theorem hdX6_notes : yX6_notes.cls = RX6 ∧ yX6_notes.cls ≠ "java/lang/invoke/MethodHandle" ∧ yX6_notes.cls ≠ "java/lang/invoke/VarHandle" ∧ (parseMethodDescriptor yX6_notes.desc).map (fun d => d.parameters.length) = some 0 := by decide +kernel
theorem bX6_notes (σ : RSt) : (fX6_notes σ) = 0 ∨ (fX6_notes σ) = 1 := by
  unfold fX6_notes
  (repeat' split) <;> first | exact Or.inl rfl | exact Or.inr rfl
set_option maxHeartbeats 250000 in
set_option maxRecDepth 100000 in
theorem kX6_notes (l : Launch) (D : va_G) (a : Nat → Nat) (cI cZ : ClassId) (σ : RSt) : CR l D (tyIZ cI cZ) (wR a cI cZ) yX6_notes cX6_notes 1 .boolean (rmk 0 0) [.ref (a 0)] σ (fX6_notes σ) σ := by
  refine CR.of pnX6 ⟨rfl, rfl⟩ (Nat.le_of_ble_eq_true rfl) (nar_b (bX6_notes σ)) (fun p e s m args below meth c A Q ls C X hA hl ret => ?_)
  have C : Cx p s m args meth c cX6_notes 1 RX6 D (tyIZ cI cZ) := C
  have hx := C.1
  have hb := C.2.1
  have hl : lv_has ls 1 [(0, .ref (a 0))] := hl
  refine lv_aload_n hx hb dX6_notes_0 rfl (lv_at hl 0 rfl) ?_
  refine rg_X6_X6_way (v := (r_way σ)) C X rfl dX6_notes_1 ?_
  refine lv_iconst (v := (1)) hx hb dX6_notes_4 (by decide) ?_
  refine lv_icmp_ne (tgt := 20) hx hb dX6_notes_5 (by decide) (fun c5 => ?_) (fun c5 => ?_)
  · refine lv_iconst (v := (0)) hx hb dX6_notes_20 (by decide) ?_
    exact ret dX6_notes_21 (congrArg (fun z => (z, _)) (Eq.symm (if_neg c5))) X
  · refine lv_aload_n hx hb dX6_notes_8 rfl (lv_at hl 0 rfl) ?_
    refine rg_X6_X6_fault (v := (r_fault σ)) C X rfl dX6_notes_9 ?_
    refine lv_iconst (v := (1)) hx hb dX6_notes_12 (by decide) ?_
    refine lv_icmp_eq (tgt := 20) hx hb dX6_notes_13 (by decide) (fun c13 => ?_) (fun c13 => ?_)
    · refine lv_iconst (v := (0)) hx hb dX6_notes_20 (by decide) ?_
      exact ret dX6_notes_21 (congrArg (fun z => (z, _)) (Eq.symm (Eq.trans (if_pos c5) (if_pos c13)))) X
    · refine lv_iconst (v := (1)) hx hb dX6_notes_16 (by decide) ?_
      refine lv_goto (tgt := 21) hx hb dX6_notes_17 (by decide) ?_
      exact ret dX6_notes_21 (congrArg (fun z => (z, _)) (Eq.symm (Eq.trans (if_pos c5) (if_neg c13)))) X
def fX6_isFree_L2 (z1 : Int32) (z2 : Int32) : Nat → Int32 → RSt → Int32
  | 0, y3, σ0 => (1 : Int32)
  | f + 1, y3, σ0 => (if ((r_isFreed σ0) (ix y3)) = (0 : Int32) then (if (z1 + z2) ≤ ((r_place σ0) (ix y3)) then (fX6_isFree_L2 z1 z2 f (y3 + 1) σ0) else (if ((((r_place σ0) (ix y3)) + ((r_many σ0) (ix y3))) + (1 : Int32)) ≤ z1 then (fX6_isFree_L2 z1 z2 f (y3 + 1) σ0) else (0 : Int32))) else (fX6_isFree_L2 z1 z2 f (y3 + 1) σ0))
def fX6_isFree (σ : RSt) (x1 : Int32) (x2 : Int32) : Int32 := (fX6_isFree_L2 x1 x2 (((Int32.toInt (r_things σ)) - (Int32.toInt (0 : Int32))).toNat) (0 : Int32) σ)
theorem hdX6_isFree : yX6_isFree.cls = RX6 ∧ yX6_isFree.cls ≠ "java/lang/invoke/MethodHandle" ∧ yX6_isFree.cls ≠ "java/lang/invoke/VarHandle" ∧ (parseMethodDescriptor yX6_isFree.desc).map (fun d => d.parameters.length) = some 2 := by decide +kernel
theorem bb_isFree_L (z1 z2 : Int32) (f : Nat) : ∀ (y : Int32) (σ : RSt), fX6_isFree_L2 z1 z2 f y σ = 0 ∨ fX6_isFree_L2 z1 z2 f y σ = 1 := by
  induction f with
  | zero => intro y σ; exact Or.inr rfl
  | succ f ih =>
    intro y σ
    unfold fX6_isFree_L2
    (repeat' split) <;> first | exact ih _ _ | exact Or.inl rfl

theorem bX6_isFree (σ : RSt) (x1 : Int32) (x2 : Int32) : (fX6_isFree σ x1 x2) = 0 ∨ (fX6_isFree σ x1 x2) = 1 := bb_isFree_L _ _ _ _ _
set_option maxHeartbeats 250000 in
set_option maxRecDepth 100000 in
theorem kX6_isFree (l : Launch) (D : va_G) (a : Nat → Nat) (cI cZ : ClassId) (σ : RSt) (x1 : Int32) (x2 : Int32) (hS : S0 σ) : CR l D (tyIZ cI cZ) (wR a cI cZ) yX6_isFree cX6_isFree 4 .boolean (rmk 0 0) [.ref (a 0), .int x1, .int x2] σ (fX6_isFree σ x1 x2) σ := by
  refine CR.of pnX6 ⟨rfl, rfl⟩ (Nat.le_of_ble_eq_true rfl) (nar_b (bX6_isFree σ x1 x2)) (fun p e s m args below meth c A Q ls C X hA hl ret => ?_)
  have C : Cx p s m args meth c cX6_isFree 4 RX6 D (tyIZ cI cZ) := C
  have hx := C.1
  have hb := C.2.1
  have hl : lv_has ls 4 [(0, .ref (a 0)), (1, .int x1), (2, .int x2)] := hl
  refine lv_iconst (v := (0)) hx hb dX6_isFree_0 (by decide) ?_
  refine lv_istore_n (lv' := [(3, .int (0 : Int32)), (0, .ref (a 0)), (1, .int x1), (2, .int x2)]) hx hb dX6_isFree_1 rfl hl (by decide) rfl (fun ls hl => ?_)
  have L2 : ∀ (f : Nat) (y3 : Int32) (hf : ((Int32.toInt (r_things σ)) - (Int32.toInt y3)).toNat = f) (hnn : 0 ≤ Int32.toInt y3) (he : fX6_isFree_L2 x1 x2 f y3 σ = (fX6_isFree σ x1 x2)) (H : Heap) (locs : List Loc) (ls : Array Slot) (X : Sx A D (wR a cI cZ σ) s H locs) (hl : lv_has ls 4 [(0, .ref (a 0)), (1, .int x1), (2, .int x2), (3, .int y3)]), W p l e (rmk 0 0) s m args below meth c H locs 0 0 Q (F0 m 2 ls []) := by
    intro f
    induction f with
    | zero =>
      intro y3 hf hnn he H locs ls X hl
      refine lv_iload_n hx hb dX6_isFree_2 rfl (lv_at hl 3 rfl) ?_
      refine lv_aload_n hx hb dX6_isFree_3 rfl (lv_at hl 0 rfl) ?_
      refine rg_X6_X6_things (v := (r_things σ)) C X rfl dX6_isFree_4 ?_
      refine lv_icmp_ge (tgt := 58) hx hb dX6_isFree_7 (by decide) (fun c7 => ?_) (fun c7 => (lp_z hf c7).elim)
      refine lv_iconst (v := (1)) hx hb dX6_isFree_58 (by decide) ?_
      exact ret dX6_isFree_59 (congrArg (fun z => (z, _)) he) X
    | succ f ih2 =>
      intro y3 hf hnn he H locs ls X hl
      refine lv_iload_n hx hb dX6_isFree_2 rfl (lv_at hl 3 rfl) ?_
      refine lv_aload_n hx hb dX6_isFree_3 rfl (lv_at hl 0 rfl) ?_
      refine rg_X6_X6_things (v := (r_things σ)) C X rfl dX6_isFree_4 ?_
      refine lv_icmp_ge (tgt := 58) hx hb dX6_isFree_7 (by decide) (fun c7 => (lp_s hf c7).elim) (fun c7 => ?_)
      refine lv_aload_n hx hb dX6_isFree_10 rfl (lv_at hl 0 rfl) ?_
      refine rg_X6_X6_isFreed C X dX6_isFree_11 ?_
      refine lv_iload_n hx hb dX6_isFree_14 rfl (lv_at hl 3 rfl) ?_
      refine ra_isFreed (v := ((r_isFreed σ) (ix y3))) C X (lp_in hnn hf (s0_th hS)) rfl dX6_isFree_15 ?_
      refine lv_if_ne (tgt := 52) hx hb dX6_isFree_16 (by decide) (fun c16 => ?_) (fun c16 => ?_)
      · refine lv_iinc (v := (y3 + 1)) (lv' := [(3, .int (y3 + 1)), (0, .ref (a 0)), (1, .int x1), (2, .int x2)]) hx hb dX6_isFree_52 hl (k := 3) rfl rfl (by decide) rfl (fun ls hl => ?_)
        refine lv_goto (tgt := 2) hx hb dX6_isFree_55 (by decide) ?_
        exact ih2 (y3 + 1) (lp_b hf) (lp_nn hnn hf) (Eq.trans (Eq.symm (if_neg c16)) he) _ _ _ X (lv_sub hl [1, 2, 3, 0] rfl)
      · refine lv_aload_n hx hb dX6_isFree_19 rfl (lv_at hl 0 rfl) ?_
        refine rg_X6_X6_place C X dX6_isFree_20 ?_
        refine lv_iload_n hx hb dX6_isFree_23 rfl (lv_at hl 3 rfl) ?_
        refine ra_place (v := ((r_place σ) (ix y3))) C X (lp_in hnn hf (s0_th hS)) rfl dX6_isFree_24 ?_
        refine lv_iload_n hx hb dX6_isFree_25 rfl (lv_at hl 1 rfl) ?_
        refine lv_iload_n hx hb dX6_isFree_26 rfl (lv_at hl 2 rfl) ?_
        refine lv_iadd hx hb dX6_isFree_27 ?_
        refine lv_icmp_ge (tgt := 52) hx hb dX6_isFree_28 (by decide) (fun c28 => ?_) (fun c28 => ?_)
        · refine lv_iinc (v := (y3 + 1)) (lv' := [(3, .int (y3 + 1)), (0, .ref (a 0)), (1, .int x1), (2, .int x2)]) hx hb dX6_isFree_52 hl (k := 3) rfl rfl (by decide) rfl (fun ls hl => ?_)
          refine lv_goto (tgt := 2) hx hb dX6_isFree_55 (by decide) ?_
          exact ih2 (y3 + 1) (lp_b hf) (lp_nn hnn hf) (Eq.trans (Eq.symm (Eq.trans (if_pos c16) (if_pos c28))) he) _ _ _ X (lv_sub hl [1, 2, 3, 0] rfl)
        · refine lv_iload_n hx hb dX6_isFree_31 rfl (lv_at hl 1 rfl) ?_
          refine lv_aload_n hx hb dX6_isFree_32 rfl (lv_at hl 0 rfl) ?_
          refine rg_X6_X6_place C X dX6_isFree_33 ?_
          refine lv_iload_n hx hb dX6_isFree_36 rfl (lv_at hl 3 rfl) ?_
          refine ra_place (v := ((r_place σ) (ix y3))) C X (lp_in hnn hf (s0_th hS)) rfl dX6_isFree_37 ?_
          refine lv_aload_n hx hb dX6_isFree_38 rfl (lv_at hl 0 rfl) ?_
          refine rg_X6_X6_many C X dX6_isFree_39 ?_
          refine lv_iload_n hx hb dX6_isFree_42 rfl (lv_at hl 3 rfl) ?_
          refine ra_many (v := ((r_many σ) (ix y3))) C X (lp_in hnn hf (s0_th hS)) rfl dX6_isFree_43 ?_
          refine lv_iadd hx hb dX6_isFree_44 ?_
          refine lv_iconst (v := (1)) hx hb dX6_isFree_45 (by decide) ?_
          refine lv_iadd hx hb dX6_isFree_46 ?_
          refine lv_icmp_ge (tgt := 52) hx hb dX6_isFree_47 (by decide) (fun c47 => ?_) (fun c47 => ?_)
          · refine lv_iinc (v := (y3 + 1)) (lv' := [(3, .int (y3 + 1)), (0, .ref (a 0)), (1, .int x1), (2, .int x2)]) hx hb dX6_isFree_52 hl (k := 3) rfl rfl (by decide) rfl (fun ls hl => ?_)
            refine lv_goto (tgt := 2) hx hb dX6_isFree_55 (by decide) ?_
            exact ih2 (y3 + 1) (lp_b hf) (lp_nn hnn hf) (Eq.trans (Eq.symm (Eq.trans (if_pos c16) (Eq.trans (if_neg c28) (if_pos c47)))) he) _ _ _ X (lv_sub hl [1, 2, 3, 0] rfl)
          · refine lv_iconst (v := (0)) hx hb dX6_isFree_50 (by decide) ?_
            exact ret dX6_isFree_51 (congrArg (fun z => (z, _)) (Eq.trans (Eq.symm (Eq.trans (if_pos c16) (Eq.trans (if_neg c28) (if_neg c47)))) he)) X
  exact L2 (((Int32.toInt (r_things σ)) - (Int32.toInt (0 : Int32))).toNat) (0 : Int32) rfl (by decide) rfl _ _ _ X (lv_sub hl [1, 2, 3, 0] rfl)
def fX6_whiteCells_L4 : Nat → Int32 → Int32 → RSt → Int32
  | 0, y1, y2, σ0 => y1
  | f + 1, y1, y2, σ0 => (if (fX6_isWhite σ0 y2) = (0 : Int32) then (fX6_whiteCells_L4 f (y1 + (0 : Int32)) (y2 + 1) σ0) else (if ((r_isFreed σ0) (ix y2)) = (0 : Int32) then (fX6_whiteCells_L4 f (y1 + (((r_many σ0) (ix y2)) + (1 : Int32))) (y2 + 1) σ0) else (fX6_whiteCells_L4 f (y1 + (0 : Int32)) (y2 + 1) σ0)))
def fX6_whiteCells (σ : RSt) : Int32 := (fX6_whiteCells_L4 (((Int32.toInt (r_things σ)) - (Int32.toInt (0 : Int32))).toNat) (0 : Int32) (0 : Int32) σ)
theorem hdX6_whiteCells : yX6_whiteCells.cls = RX6 ∧ yX6_whiteCells.cls ≠ "java/lang/invoke/MethodHandle" ∧ yX6_whiteCells.cls ≠ "java/lang/invoke/VarHandle" ∧ (parseMethodDescriptor yX6_whiteCells.desc).map (fun d => d.parameters.length) = some 0 := by decide +kernel
set_option maxHeartbeats 250000 in
set_option maxRecDepth 100000 in
theorem kX6_whiteCells (l : Launch) (D : va_G) (a : Nat → Nat) (cI cZ : ClassId) (σ : RSt) (hS : S0 σ) : CR l D (tyIZ cI cZ) (wR a cI cZ) yX6_whiteCells cX6_whiteCells 3 .int (rmk 1 21) [.ref (a 0)] σ (fX6_whiteCells σ) σ := by
  refine CR.of pnX6 ⟨rfl, rfl⟩ (Nat.le_of_ble_eq_true rfl) rfl (fun p e s m args below meth c A Q ls C X hA hl ret => ?_)
  have C : Cx p s m args meth c cX6_whiteCells 3 RX6 D (tyIZ cI cZ) := C
  have hx := C.1
  have hb := C.2.1
  have hl : lv_has ls 3 [(0, .ref (a 0))] := hl
  refine lv_iconst (v := (0)) hx hb dX6_whiteCells_0 (by decide) ?_
  refine lv_istore_n (lv' := [(1, .int (0 : Int32)), (0, .ref (a 0))]) hx hb dX6_whiteCells_1 rfl hl (by decide) rfl (fun ls hl => ?_)
  refine lv_iconst (v := (0)) hx hb dX6_whiteCells_2 (by decide) ?_
  refine lv_istore_n (lv' := [(2, .int (0 : Int32)), (1, .int (0 : Int32)), (0, .ref (a 0))]) hx hb dX6_whiteCells_3 rfl hl (by decide) rfl (fun ls hl => ?_)
  have L4 : ∀ (f : Nat) (y1 : Int32) (y2 : Int32) (hf : ((Int32.toInt (r_things σ)) - (Int32.toInt y2)).toNat = f) (hnn : 0 ≤ Int32.toInt y2) (he : fX6_whiteCells_L4 f y1 y2 σ = (fX6_whiteCells σ)) (H : Heap) (locs : List Loc) (ls : Array Slot) (X : Sx A D (wR a cI cZ σ) s H locs) (hl : lv_has ls 3 [(0, .ref (a 0)), (1, .int y1), (2, .int y2)]), W p l e (rmk 1 21) s m args below meth c H locs 0 0 Q (F0 m 4 ls []) := by
    intro f
    induction f with
    | zero =>
      intro y1 y2 hf hnn he H locs ls X hl
      refine lv_iload_n hx hb dX6_whiteCells_4 rfl (lv_at hl 2 rfl) ?_
      refine lv_aload_n hx hb dX6_whiteCells_5 rfl (lv_at hl 0 rfl) ?_
      refine rg_X6_X6_things (v := (r_things σ)) C X rfl dX6_whiteCells_6 ?_
      refine lv_icmp_ge (tgt := 50) hx hb dX6_whiteCells_9 (by decide) (fun c9 => ?_) (fun c9 => (lp_z hf c9).elim)
      refine lv_iload_n hx hb dX6_whiteCells_50 rfl (lv_at hl 1 rfl) ?_
      exact ret dX6_whiteCells_51 (congrArg (fun z => (z, _)) he) X
    | succ f ih4 =>
      intro y1 y2 hf hnn he H locs ls X hl
      refine lv_iload_n hx hb dX6_whiteCells_4 rfl (lv_at hl 2 rfl) ?_
      refine lv_aload_n hx hb dX6_whiteCells_5 rfl (lv_at hl 0 rfl) ?_
      refine rg_X6_X6_things (v := (r_things σ)) C X rfl dX6_whiteCells_6 ?_
      refine lv_icmp_ge (tgt := 50) hx hb dX6_whiteCells_9 (by decide) (fun c9 => (lp_s hf c9).elim) (fun c9 => ?_)
      refine lv_iload_n hx hb dX6_whiteCells_12 rfl (lv_at hl 1 rfl) ?_
      refine lv_aload_n hx hb dX6_whiteCells_13 rfl (lv_at hl 0 rfl) ?_
      refine lv_iload_n hx hb dX6_whiteCells_14 rfl (lv_at hl 2 rfl) ?_
      refine callVR (rest := [.int y1]) C hA (wR_sh a cI cZ) X (kX6_isWhite l D a cI cZ _ y2 (lp_in hnn hf (s0_th hS))) (cwV 1 C.2.2.2.2.1 (gV wl_X6_110 wt_yX6_isWhite ws_yX6_isWhite wi_X6 wk_yX6_isWhite) rfl rfl rfl hdX6_isWhite ⟨Nat.le_of_ble_eq_true rfl, Nat.le_of_ble_eq_true rfl⟩) (ci := 6) (q0 := 0) rfl rfl rfl hl.1 rfl (Nat.le_of_ble_eq_true rfl) dX6_whiteCells_15 ⟨Nat.le_refl 0, Nat.le_refl 0⟩ (fun H locs X => ?_)
      refine lv_if_eq (tgt := 41) hx hb dX6_whiteCells_18 (by decide) (fun c18 => ?_) (fun c18 => ?_)
      · refine lv_iconst (v := (0)) hx hb dX6_whiteCells_41 (by decide) ?_
        refine lv_iadd hx hb dX6_whiteCells_42 ?_
        refine lv_istore_n (lv' := [(1, .int (y1 + (0 : Int32))), (0, .ref (a 0)), (2, .int y2)]) hx hb dX6_whiteCells_43 rfl hl (by decide) rfl (fun ls hl => ?_)
        refine lv_iinc (v := (y2 + 1)) (lv' := [(2, .int (y2 + 1)), (1, .int (y1 + (0 : Int32))), (0, .ref (a 0))]) hx hb dX6_whiteCells_44 hl (k := 2) rfl rfl (by decide) rfl (fun ls hl => ?_)
        refine lv_goto (tgt := 4) hx hb dX6_whiteCells_47 (by decide) ?_
        exact ih4 (y1 + (0 : Int32)) (y2 + 1) (lp_b hf) (lp_nn hnn hf) (Eq.trans (Eq.symm (if_pos c18)) he) _ _ _ X (lv_sub hl [2, 1, 0] rfl)
      · refine lv_aload_n hx hb dX6_whiteCells_21 rfl (lv_at hl 0 rfl) ?_
        refine rg_X6_X6_isFreed C X dX6_whiteCells_22 ?_
        refine lv_iload_n hx hb dX6_whiteCells_25 rfl (lv_at hl 2 rfl) ?_
        refine ra_isFreed (v := ((r_isFreed σ) (ix y2))) C X (lp_in hnn hf (s0_th hS)) rfl dX6_whiteCells_26 ?_
        refine lv_if_ne (tgt := 41) hx hb dX6_whiteCells_27 (by decide) (fun c27 => ?_) (fun c27 => ?_)
        · refine lv_iconst (v := (0)) hx hb dX6_whiteCells_41 (by decide) ?_
          refine lv_iadd hx hb dX6_whiteCells_42 ?_
          refine lv_istore_n (lv' := [(1, .int (y1 + (0 : Int32))), (0, .ref (a 0)), (2, .int y2)]) hx hb dX6_whiteCells_43 rfl hl (by decide) rfl (fun ls hl => ?_)
          refine lv_iinc (v := (y2 + 1)) (lv' := [(2, .int (y2 + 1)), (1, .int (y1 + (0 : Int32))), (0, .ref (a 0))]) hx hb dX6_whiteCells_44 hl (k := 2) rfl rfl (by decide) rfl (fun ls hl => ?_)
          refine lv_goto (tgt := 4) hx hb dX6_whiteCells_47 (by decide) ?_
          exact ih4 (y1 + (0 : Int32)) (y2 + 1) (lp_b hf) (lp_nn hnn hf) (Eq.trans (Eq.symm (Eq.trans (if_neg c18) (if_neg c27))) he) _ _ _ X (lv_sub hl [2, 1, 0] rfl)
        · refine lv_aload_n hx hb dX6_whiteCells_30 rfl (lv_at hl 0 rfl) ?_
          refine rg_X6_X6_many C X dX6_whiteCells_31 ?_
          refine lv_iload_n hx hb dX6_whiteCells_34 rfl (lv_at hl 2 rfl) ?_
          refine ra_many (v := ((r_many σ) (ix y2))) C X (lp_in hnn hf (s0_th hS)) rfl dX6_whiteCells_35 ?_
          refine lv_iconst (v := (1)) hx hb dX6_whiteCells_36 (by decide) ?_
          refine lv_iadd hx hb dX6_whiteCells_37 ?_
          refine lv_goto (tgt := 42) hx hb dX6_whiteCells_38 (by decide) ?_
          refine lv_iadd hx hb dX6_whiteCells_42 ?_
          refine lv_istore_n (lv' := [(1, .int (y1 + (((r_many σ) (ix y2)) + (1 : Int32)))), (0, .ref (a 0)), (2, .int y2)]) hx hb dX6_whiteCells_43 rfl hl (by decide) rfl (fun ls hl => ?_)
          refine lv_iinc (v := (y2 + 1)) (lv' := [(2, .int (y2 + 1)), (1, .int (y1 + (((r_many σ) (ix y2)) + (1 : Int32)))), (0, .ref (a 0))]) hx hb dX6_whiteCells_44 hl (k := 2) rfl rfl (by decide) rfl (fun ls hl => ?_)
          refine lv_goto (tgt := 4) hx hb dX6_whiteCells_47 (by decide) ?_
          exact ih4 (y1 + (((r_many σ) (ix y2)) + (1 : Int32))) (y2 + 1) (lp_b hf) (lp_nn hnn hf) (Eq.trans (Eq.symm (Eq.trans (if_neg c18) (if_pos c27))) he) _ _ _ X (lv_sub hl [2, 1, 0] rfl)
  exact L4 (((Int32.toInt (r_things σ)) - (Int32.toInt (0 : Int32))).toNat) (0 : Int32) (0 : Int32) rfl (by decide) rfl _ _ _ X (lv_sub hl [2, 1, 0] rfl)
def fX6_newColour (σ : RSt) : Int32 := (if (r_way σ) = (0 : Int32) then (0 : Int32) else (if (r_fault σ) = (2 : Int32) then (0 : Int32) else (2 : Int32)))
theorem hdX6_newColour : yX6_newColour.cls = RX6 ∧ yX6_newColour.cls ≠ "java/lang/invoke/MethodHandle" ∧ yX6_newColour.cls ≠ "java/lang/invoke/VarHandle" ∧ (parseMethodDescriptor yX6_newColour.desc).map (fun d => d.parameters.length) = some 0 := by decide +kernel
set_option maxHeartbeats 250000 in
set_option maxRecDepth 100000 in
theorem kX6_newColour (l : Launch) (D : va_G) (a : Nat → Nat) (cI cZ : ClassId) (σ : RSt) : CR l D (tyIZ cI cZ) (wR a cI cZ) yX6_newColour cX6_newColour 1 .int (rmk 0 0) [.ref (a 0)] σ (fX6_newColour σ) σ := by
  refine CR.of pnX6 ⟨rfl, rfl⟩ (Nat.le_of_ble_eq_true rfl) rfl (fun p e s m args below meth c A Q ls C X hA hl ret => ?_)
  have C : Cx p s m args meth c cX6_newColour 1 RX6 D (tyIZ cI cZ) := C
  have hx := C.1
  have hb := C.2.1
  have hl : lv_has ls 1 [(0, .ref (a 0))] := hl
  refine lv_aload_n hx hb dX6_newColour_0 rfl (lv_at hl 0 rfl) ?_
  refine rg_X6_X6_way (v := (r_way σ)) C X rfl dX6_newColour_1 ?_
  refine lv_if_eq (tgt := 19) hx hb dX6_newColour_4 (by decide) (fun c4 => ?_) (fun c4 => ?_)
  · refine lv_iconst (v := (0)) hx hb dX6_newColour_19 (by decide) ?_
    exact ret dX6_newColour_20 (congrArg (fun z => (z, _)) (Eq.symm (if_pos c4))) X
  · refine lv_aload_n hx hb dX6_newColour_7 rfl (lv_at hl 0 rfl) ?_
    refine rg_X6_X6_fault (v := (r_fault σ)) C X rfl dX6_newColour_8 ?_
    refine lv_iconst (v := (2)) hx hb dX6_newColour_11 (by decide) ?_
    refine lv_icmp_eq (tgt := 19) hx hb dX6_newColour_12 (by decide) (fun c12 => ?_) (fun c12 => ?_)
    · refine lv_iconst (v := (0)) hx hb dX6_newColour_19 (by decide) ?_
      exact ret dX6_newColour_20 (congrArg (fun z => (z, _)) (Eq.symm (Eq.trans (if_neg c4) (if_pos c12)))) X
    · refine lv_iconst (v := (2)) hx hb dX6_newColour_15 (by decide) ?_
      refine lv_goto (tgt := 20) hx hb dX6_newColour_16 (by decide) ?_
      exact ret dX6_newColour_20 (congrArg (fun z => (z, _)) (Eq.symm (Eq.trans (if_neg c4) (if_neg c12)))) X
def fX6_newPlace_L76 (z1 : Int32) : Nat → Int32 → RSt → Int32
  | 0, y2, σ0 => (-1 : Int32)
  | f + 1, y2, σ0 => (if (fX6_isFree σ0 y2 z1) = (0 : Int32) then (fX6_newPlace_L76 z1 f (y2 + 1) σ0) else y2)
def fX6_newPlace (σ : RSt) (x1 : Int32) : Int32 := (if (r_manner σ) = (3 : Int32) then (if (r_way σ) = (1 : Int32) then (if (fX6_newColour σ) = (0 : Int32) then (if (((100 : Int32) - (r_top σ)) - x1) < (0 : Int32) then (-1 : Int32) else (if ((fX6_whiteCells σ) + x1) ≤ (((100 : Int32) - (r_top σ)) - x1) then (((100 : Int32) * (r_half σ)) + (r_top σ)) else (-1 : Int32))) else (if (((100 : Int32) - (r_top σ)) - x1) < (0 : Int32) then (-1 : Int32) else (if ((fX6_whiteCells σ) + (0 : Int32)) ≤ (((100 : Int32) - (r_top σ)) - x1) then (((100 : Int32) * (r_half σ)) + (r_top σ)) else (-1 : Int32)))) else (if (((100 : Int32) - (r_top σ)) - x1) < (0 : Int32) then (-1 : Int32) else (if (0 : Int32) ≤ (((100 : Int32) - (r_top σ)) - x1) then (((100 : Int32) * (r_half σ)) + (r_top σ)) else (-1 : Int32)))) else (fX6_newPlace_L76 x1 (((Int32.toInt (200 : Int32)) + 1 - (Int32.toInt ((0 : Int32) + x1))).toNat) (0 : Int32) σ))
theorem hdX6_newPlace : yX6_newPlace.cls = RX6 ∧ yX6_newPlace.cls ≠ "java/lang/invoke/MethodHandle" ∧ yX6_newPlace.cls ≠ "java/lang/invoke/VarHandle" ∧ (parseMethodDescriptor yX6_newPlace.desc).map (fun d => d.parameters.length) = some 1 := by decide +kernel
set_option maxHeartbeats 250000 in
set_option maxRecDepth 100000 in
theorem kX6_newPlace (l : Launch) (D : va_G) (a : Nat → Nat) (cI cZ : ClassId) (σ : RSt) (x1 : Int32) (hS : S0 σ) : CR l D (tyIZ cI cZ) (wR a cI cZ) yX6_newPlace cX6_newPlace 4 .int (rmk 2 43) [.ref (a 0), .int x1] σ (fX6_newPlace σ x1) σ := by
  refine CR.of pnX6 ⟨rfl, rfl⟩ (Nat.le_of_ble_eq_true rfl) rfl (fun p e s m args below meth c A Q ls C X hA hl ret => ?_)
  have C : Cx p s m args meth c cX6_newPlace 4 RX6 D (tyIZ cI cZ) := C
  have hx := C.1
  have hb := C.2.1
  have hl : lv_has ls 4 [(0, .ref (a 0)), (1, .int x1)] := hl
  refine lv_aload_n hx hb dX6_newPlace_0 rfl (lv_at hl 0 rfl) ?_
  refine rg_X6_X6_manner (v := (r_manner σ)) C X rfl dX6_newPlace_1 ?_
  refine lv_iconst (v := (3)) hx hb dX6_newPlace_4 (by decide) ?_
  refine lv_icmp_ne (tgt := 74) hx hb dX6_newPlace_5 (by decide) (fun c5 => ?_) (fun c5 => ?_)
  · refine lv_iconst (v := (0)) hx hb dX6_newPlace_74 (by decide) ?_
    refine lv_istore_n (lv' := [(2, .int (0 : Int32)), (0, .ref (a 0)), (1, .int x1)]) hx hb dX6_newPlace_75 rfl hl (by decide) rfl (fun ls hl => ?_)
    have L76 : ∀ (f : Nat) (y2 : Int32) (hf : ((Int32.toInt (200 : Int32)) + 1 - (Int32.toInt (y2 + x1))).toNat = f) (he : fX6_newPlace_L76 x1 f y2 σ = (fX6_newPlace σ x1)) (H : Heap) (locs : List Loc) (ls : Array Slot) (X : Sx A D (wR a cI cZ σ) s H locs) (hl : lv_has ls 4 [(0, .ref (a 0)), (1, .int x1), (2, .int y2)]), W p l e (rmk 2 43) s m args below meth c H locs 0 0 Q (F0 m 76 ls []) := by
      intro f
      induction f with
      | zero =>
        intro y2 hf he H locs ls X hl
        refine lv_iload_n hx hb dX6_newPlace_76 rfl (lv_at hl 2 rfl) ?_
        refine lv_iload_n hx hb dX6_newPlace_77 rfl (lv_at hl 1 rfl) ?_
        refine lv_iadd hx hb dX6_newPlace_78 ?_
        refine lv_sipush (v := (200)) hx hb dX6_newPlace_79 (by decide) ?_
        refine lv_icmp_gt (tgt := 102) hx hb dX6_newPlace_82 (by decide) (fun c82 => ?_) (fun c82 => (lq_z hf c82).elim)
        refine lv_iconst (v := (-1)) hx hb dX6_newPlace_102 (by decide) ?_
        exact ret dX6_newPlace_103 (congrArg (fun z => (z, _)) he) X
      | succ f ih76 =>
        intro y2 hf he H locs ls X hl
        refine lv_iload_n hx hb dX6_newPlace_76 rfl (lv_at hl 2 rfl) ?_
        refine lv_iload_n hx hb dX6_newPlace_77 rfl (lv_at hl 1 rfl) ?_
        refine lv_iadd hx hb dX6_newPlace_78 ?_
        refine lv_sipush (v := (200)) hx hb dX6_newPlace_79 (by decide) ?_
        refine lv_icmp_gt (tgt := 102) hx hb dX6_newPlace_82 (by decide) (fun c82 => (lq_s hf c82).elim) (fun c82 => ?_)
        refine lv_aload_n hx hb dX6_newPlace_85 rfl (lv_at hl 0 rfl) ?_
        refine lv_iload_n hx hb dX6_newPlace_86 rfl (lv_at hl 2 rfl) ?_
        refine lv_iload_n hx hb dX6_newPlace_87 rfl (lv_at hl 1 rfl) ?_
        refine callVR (rest := []) C hA (wR_sh a cI cZ) X (kX6_isFree l D a cI cZ _ y2 x1 hS) (cwV 2 C.2.2.2.2.1 (gV wl_X6_148 wt_yX6_isFree ws_yX6_isFree wi_X6 wk_yX6_isFree) rfl rfl rfl hdX6_isFree ⟨Nat.le_of_ble_eq_true rfl, Nat.le_of_ble_eq_true rfl⟩) (ci := 6) (q0 := 0) rfl rfl rfl hl.1 rfl (Nat.le_of_ble_eq_true rfl) dX6_newPlace_88 ⟨Nat.le_refl 0, Nat.le_refl 0⟩ (fun H locs X => ?_)
        refine lv_if_eq (tgt := 96) hx hb dX6_newPlace_91 (by decide) (fun c91 => ?_) (fun c91 => ?_)
        · refine lv_iinc (v := (y2 + 1)) (lv' := [(2, .int (y2 + 1)), (0, .ref (a 0)), (1, .int x1)]) hx hb dX6_newPlace_96 hl (k := 2) rfl rfl (by decide) rfl (fun ls hl => ?_)
          refine lv_goto (tgt := 76) hx hb dX6_newPlace_99 (by decide) ?_
          exact ih76 (y2 + 1) (by first | with_reducible exact lp_b hf | (rw [show y2 + 1 + x1 = y2 + x1 + 1 from by rw [Int32.add_assoc, Int32.add_comm 1, ← Int32.add_assoc]]; exact lq_b hf)) (Eq.trans (Eq.symm (if_pos c91)) he) _ _ _ X (lv_sub hl [1, 2, 0] rfl)
        · refine lv_iload_n hx hb dX6_newPlace_94 rfl (lv_at hl 2 rfl) ?_
          exact ret dX6_newPlace_95 (congrArg (fun z => (z, _)) (Eq.trans (Eq.symm (if_neg c91)) he)) X
    exact L76 (((Int32.toInt (200 : Int32)) + 1 - (Int32.toInt ((0 : Int32) + x1))).toNat) (0 : Int32) rfl (Eq.symm (if_neg c5)) _ _ _ X (lv_sub hl [1, 2, 0] rfl)
  · refine lv_bipush (v := (100)) hx hb dX6_newPlace_8 (by decide) ?_
    refine lv_aload_n hx hb dX6_newPlace_10 rfl (lv_at hl 0 rfl) ?_
    refine rg_X6_X6_top (v := (r_top σ)) C X rfl dX6_newPlace_11 ?_
    refine lv_isub hx hb dX6_newPlace_14 ?_
    refine lv_iload_n hx hb dX6_newPlace_15 rfl (lv_at hl 1 rfl) ?_
    refine lv_isub hx hb dX6_newPlace_16 ?_
    refine lv_istore_n (lv' := [(2, .int (((100 : Int32) - (r_top σ)) - x1)), (0, .ref (a 0)), (1, .int x1)]) hx hb dX6_newPlace_17 rfl hl (by decide) rfl (fun ls hl => ?_)
    refine lv_aload_n hx hb dX6_newPlace_18 rfl (lv_at hl 1 rfl) ?_
    refine rg_X6_X6_way (v := (r_way σ)) C X rfl dX6_newPlace_19 ?_
    refine lv_iconst (v := (1)) hx hb dX6_newPlace_22 (by decide) ?_
    refine lv_icmp_ne (tgt := 46) hx hb dX6_newPlace_23 (by decide) (fun c23 => ?_) (fun c23 => ?_)
    · refine lv_iconst (v := (0)) hx hb dX6_newPlace_46 (by decide) ?_
      refine lv_istore_n (lv' := [(3, .int (0 : Int32)), (2, .int (((100 : Int32) - (r_top σ)) - x1)), (0, .ref (a 0)), (1, .int x1)]) hx hb dX6_newPlace_47 rfl hl (by decide) rfl (fun ls hl => ?_)
      refine lv_iload_n hx hb dX6_newPlace_48 rfl (lv_at hl 1 rfl) ?_
      refine lv_if_lt (tgt := 57) hx hb dX6_newPlace_49 (by decide) (fun c49 => ?_) (fun c49 => ?_)
      · refine lv_iconst (v := (-1)) hx hb dX6_newPlace_57 (by decide) ?_
        refine lv_goto (tgt := 73) hx hb dX6_newPlace_58 (by decide) ?_
        exact ret dX6_newPlace_73 (congrArg (fun z => (z, _)) (Eq.symm (Eq.trans (if_pos c5) (Eq.trans (if_neg c23) (if_pos c49))))) X
      · refine lv_iload_n hx hb dX6_newPlace_52 rfl (lv_at hl 1 rfl) ?_
        refine lv_iload_n hx hb dX6_newPlace_53 rfl (lv_at hl 0 rfl) ?_
        refine lv_icmp_ge (tgt := 61) hx hb dX6_newPlace_54 (by decide) (fun c54 => ?_) (fun c54 => ?_)
        · refine lv_bipush (v := (100)) hx hb dX6_newPlace_61 (by decide) ?_
          refine lv_aload_n hx hb dX6_newPlace_63 rfl (lv_at hl 2 rfl) ?_
          refine rg_X6_X6_half (v := (r_half σ)) C X rfl dX6_newPlace_64 ?_
          refine lv_imul hx hb dX6_newPlace_67 ?_
          refine lv_aload_n hx hb dX6_newPlace_68 rfl (lv_at hl 2 rfl) ?_
          refine rg_X6_X6_top (v := (r_top σ)) C X rfl dX6_newPlace_69 ?_
          refine lv_iadd hx hb dX6_newPlace_72 ?_
          exact ret dX6_newPlace_73 (congrArg (fun z => (z, _)) (Eq.symm (Eq.trans (if_pos c5) (Eq.trans (if_neg c23) (Eq.trans (if_neg c49) (if_pos c54)))))) X
        · refine lv_iconst (v := (-1)) hx hb dX6_newPlace_57 (by decide) ?_
          refine lv_goto (tgt := 73) hx hb dX6_newPlace_58 (by decide) ?_
          exact ret dX6_newPlace_73 (congrArg (fun z => (z, _)) (Eq.symm (Eq.trans (if_pos c5) (Eq.trans (if_neg c23) (Eq.trans (if_neg c49) (if_neg c54)))))) X
    · refine lv_aload_n hx hb dX6_newPlace_26 rfl (lv_at hl 1 rfl) ?_
      refine callVR (rest := []) C hA (wR_sh a cI cZ) X (kX6_whiteCells l D a cI cZ _  hS) (cwV 0 C.2.2.2.2.1 (gV wl_X6_142 wt_yX6_whiteCells ws_yX6_whiteCells wi_X6 wk_yX6_whiteCells) rfl rfl rfl hdX6_whiteCells ⟨Nat.le_of_ble_eq_true rfl, Nat.le_of_ble_eq_true rfl⟩) (ci := 6) (q0 := 0) rfl rfl rfl hl.1 rfl (Nat.le_of_ble_eq_true rfl) dX6_newPlace_27 ⟨Nat.le_refl 0, Nat.le_refl 0⟩ (fun H locs X => ?_)
      refine lv_aload_n hx hb dX6_newPlace_30 rfl (lv_at hl 1 rfl) ?_
      refine callVR (rest := [.int (fX6_whiteCells σ)]) C hA (wR_sh a cI cZ) X (kX6_newColour l D a cI cZ _ ) (cwV 0 C.2.2.2.2.1 (gV wl_X6_145 wt_yX6_newColour ws_yX6_newColour wi_X6 wk_yX6_newColour) rfl rfl rfl hdX6_newColour ⟨Nat.le_of_ble_eq_true rfl, Nat.le_of_ble_eq_true rfl⟩) (ci := 6) (q0 := 0) rfl rfl rfl hl.1 rfl (Nat.le_of_ble_eq_true rfl) dX6_newPlace_31 ⟨Nat.le_refl 0, Nat.le_refl 0⟩ (fun H locs X => ?_)
      refine lv_if_ne (tgt := 41) hx hb dX6_newPlace_34 (by decide) (fun c34 => ?_) (fun c34 => ?_)
      · refine lv_iconst (v := (0)) hx hb dX6_newPlace_41 (by decide) ?_
        refine lv_iadd hx hb dX6_newPlace_42 ?_
        refine lv_goto (tgt := 47) hx hb dX6_newPlace_43 (by decide) ?_
        refine lv_istore_n (lv' := [(3, .int ((fX6_whiteCells σ) + (0 : Int32))), (2, .int (((100 : Int32) - (r_top σ)) - x1)), (0, .ref (a 0)), (1, .int x1)]) hx hb dX6_newPlace_47 rfl hl (by decide) rfl (fun ls hl => ?_)
        refine lv_iload_n hx hb dX6_newPlace_48 rfl (lv_at hl 1 rfl) ?_
        refine lv_if_lt (tgt := 57) hx hb dX6_newPlace_49 (by decide) (fun c49 => ?_) (fun c49 => ?_)
        · refine lv_iconst (v := (-1)) hx hb dX6_newPlace_57 (by decide) ?_
          refine lv_goto (tgt := 73) hx hb dX6_newPlace_58 (by decide) ?_
          exact ret dX6_newPlace_73 (congrArg (fun z => (z, _)) (Eq.symm (Eq.trans (if_pos c5) (Eq.trans (if_pos c23) (Eq.trans (if_neg c34) (if_pos c49)))))) X
        · refine lv_iload_n hx hb dX6_newPlace_52 rfl (lv_at hl 1 rfl) ?_
          refine lv_iload_n hx hb dX6_newPlace_53 rfl (lv_at hl 0 rfl) ?_
          refine lv_icmp_ge (tgt := 61) hx hb dX6_newPlace_54 (by decide) (fun c54 => ?_) (fun c54 => ?_)
          · refine lv_bipush (v := (100)) hx hb dX6_newPlace_61 (by decide) ?_
            refine lv_aload_n hx hb dX6_newPlace_63 rfl (lv_at hl 2 rfl) ?_
            refine rg_X6_X6_half (v := (r_half σ)) C X rfl dX6_newPlace_64 ?_
            refine lv_imul hx hb dX6_newPlace_67 ?_
            refine lv_aload_n hx hb dX6_newPlace_68 rfl (lv_at hl 2 rfl) ?_
            refine rg_X6_X6_top (v := (r_top σ)) C X rfl dX6_newPlace_69 ?_
            refine lv_iadd hx hb dX6_newPlace_72 ?_
            exact ret dX6_newPlace_73 (congrArg (fun z => (z, _)) (Eq.symm (Eq.trans (if_pos c5) (Eq.trans (if_pos c23) (Eq.trans (if_neg c34) (Eq.trans (if_neg c49) (if_pos c54))))))) X
          · refine lv_iconst (v := (-1)) hx hb dX6_newPlace_57 (by decide) ?_
            refine lv_goto (tgt := 73) hx hb dX6_newPlace_58 (by decide) ?_
            exact ret dX6_newPlace_73 (congrArg (fun z => (z, _)) (Eq.symm (Eq.trans (if_pos c5) (Eq.trans (if_pos c23) (Eq.trans (if_neg c34) (Eq.trans (if_neg c49) (if_neg c54))))))) X
      · refine lv_iload_n hx hb dX6_newPlace_37 rfl (lv_at hl 2 rfl) ?_
        refine lv_goto (tgt := 42) hx hb dX6_newPlace_38 (by decide) ?_
        refine lv_iadd hx hb dX6_newPlace_42 ?_
        refine lv_goto (tgt := 47) hx hb dX6_newPlace_43 (by decide) ?_
        refine lv_istore_n (lv' := [(3, .int ((fX6_whiteCells σ) + x1)), (2, .int (((100 : Int32) - (r_top σ)) - x1)), (0, .ref (a 0)), (1, .int x1)]) hx hb dX6_newPlace_47 rfl hl (by decide) rfl (fun ls hl => ?_)
        refine lv_iload_n hx hb dX6_newPlace_48 rfl (lv_at hl 1 rfl) ?_
        refine lv_if_lt (tgt := 57) hx hb dX6_newPlace_49 (by decide) (fun c49 => ?_) (fun c49 => ?_)
        · refine lv_iconst (v := (-1)) hx hb dX6_newPlace_57 (by decide) ?_
          refine lv_goto (tgt := 73) hx hb dX6_newPlace_58 (by decide) ?_
          exact ret dX6_newPlace_73 (congrArg (fun z => (z, _)) (Eq.symm (Eq.trans (if_pos c5) (Eq.trans (if_pos c23) (Eq.trans (if_pos c34) (if_pos c49)))))) X
        · refine lv_iload_n hx hb dX6_newPlace_52 rfl (lv_at hl 1 rfl) ?_
          refine lv_iload_n hx hb dX6_newPlace_53 rfl (lv_at hl 0 rfl) ?_
          refine lv_icmp_ge (tgt := 61) hx hb dX6_newPlace_54 (by decide) (fun c54 => ?_) (fun c54 => ?_)
          · refine lv_bipush (v := (100)) hx hb dX6_newPlace_61 (by decide) ?_
            refine lv_aload_n hx hb dX6_newPlace_63 rfl (lv_at hl 2 rfl) ?_
            refine rg_X6_X6_half (v := (r_half σ)) C X rfl dX6_newPlace_64 ?_
            refine lv_imul hx hb dX6_newPlace_67 ?_
            refine lv_aload_n hx hb dX6_newPlace_68 rfl (lv_at hl 2 rfl) ?_
            refine rg_X6_X6_top (v := (r_top σ)) C X rfl dX6_newPlace_69 ?_
            refine lv_iadd hx hb dX6_newPlace_72 ?_
            exact ret dX6_newPlace_73 (congrArg (fun z => (z, _)) (Eq.symm (Eq.trans (if_pos c5) (Eq.trans (if_pos c23) (Eq.trans (if_pos c34) (Eq.trans (if_neg c49) (if_pos c54))))))) X
          · refine lv_iconst (v := (-1)) hx hb dX6_newPlace_57 (by decide) ?_
            refine lv_goto (tgt := 73) hx hb dX6_newPlace_58 (by decide) ?_
            exact ret dX6_newPlace_73 (congrArg (fun z => (z, _)) (Eq.symm (Eq.trans (if_pos c5) (Eq.trans (if_pos c23) (Eq.trans (if_pos c34) (Eq.trans (if_neg c49) (if_neg c54))))))) X
def fX6_make_L114 (z1 : Int32) (z2 : Int32) (z3 : Int32) (z6 : Int32) : Nat → Int32 → RSt → RSt
  | 0, y7, σ114 => σ114
  | f + 1, y7, σ114 => (fX6_make_L114 z1 z2 z3 z6 f (y7 + 1) (r_field_s σ114 (upd (r_field σ114) (ix (((6 : Int32) * z6) + y7)) (-1 : Int32))))
def fX6_make (σ : RSt) (x1 : Int32) (x2 : Int32) (x3 : Int32) (x4 : Int32) : Int32 × RSt := (if (fX6_isRegister σ x1 x2) = (0 : Int32) then ((-2 : Int32), σ) else (if (fX6_in σ x3 (0 : Int32) (6 : Int32)) = (0 : Int32) then ((-2 : Int32), σ) else (if (r_things σ) = (120 : Int32) then ((-4 : Int32), σ) else (if (fX6_newPlace σ (x3 + (1 : Int32))) = (-1 : Int32) then ((-4 : Int32), σ) else (if (r_manner (fX6_make_L114 x1 x2 x3 (r_things σ) (((Int32.toInt (6 : Int32)) - (Int32.toInt (0 : Int32))).toNat) (0 : Int32) (r_moved_s (r_hasWish_s (r_isFreed_s (r_colour_s (r_place_s (r_many_s σ (upd (r_many σ) (ix (r_things σ)) x3)) (upd (r_place σ) (ix (r_things σ)) (fX6_newPlace σ (x3 + (1 : Int32))))) (upd (r_colour σ) (ix (r_things σ)) (fX6_newColour (r_place_s (r_many_s σ (upd (r_many σ) (ix (r_things σ)) x3)) (upd (r_place σ) (ix (r_things σ)) (fX6_newPlace σ (x3 + (1 : Int32)))))))) (upd (r_isFreed σ) (ix (r_things σ)) (0 : Int32))) (upd (r_hasWish σ) (ix (r_things σ)) (vp_nar .boolean x4))) (upd (r_moved σ) (ix (r_things σ)) (0 : Int32))))) = (3 : Int32) then ((fX6_holds (r_things_s (r_top_s (fX6_make_L114 x1 x2 x3 (r_things σ) (((Int32.toInt (6 : Int32)) - (Int32.toInt (0 : Int32))).toNat) (0 : Int32) (r_moved_s (r_hasWish_s (r_isFreed_s (r_colour_s (r_place_s (r_many_s σ (upd (r_many σ) (ix (r_things σ)) x3)) (upd (r_place σ) (ix (r_things σ)) (fX6_newPlace σ (x3 + (1 : Int32))))) (upd (r_colour σ) (ix (r_things σ)) (fX6_newColour (r_place_s (r_many_s σ (upd (r_many σ) (ix (r_things σ)) x3)) (upd (r_place σ) (ix (r_things σ)) (fX6_newPlace σ (x3 + (1 : Int32)))))))) (upd (r_isFreed σ) (ix (r_things σ)) (0 : Int32))) (upd (r_hasWish σ) (ix (r_things σ)) (vp_nar .boolean x4))) (upd (r_moved σ) (ix (r_things σ)) (0 : Int32)))) ((r_top (fX6_make_L114 x1 x2 x3 (r_things σ) (((Int32.toInt (6 : Int32)) - (Int32.toInt (0 : Int32))).toNat) (0 : Int32) (r_moved_s (r_hasWish_s (r_isFreed_s (r_colour_s (r_place_s (r_many_s σ (upd (r_many σ) (ix (r_things σ)) x3)) (upd (r_place σ) (ix (r_things σ)) (fX6_newPlace σ (x3 + (1 : Int32))))) (upd (r_colour σ) (ix (r_things σ)) (fX6_newColour (r_place_s (r_many_s σ (upd (r_many σ) (ix (r_things σ)) x3)) (upd (r_place σ) (ix (r_things σ)) (fX6_newPlace σ (x3 + (1 : Int32)))))))) (upd (r_isFreed σ) (ix (r_things σ)) (0 : Int32))) (upd (r_hasWish σ) (ix (r_things σ)) (vp_nar .boolean x4))) (upd (r_moved σ) (ix (r_things σ)) (0 : Int32))))) + (x3 + (1 : Int32)))) ((r_things (fX6_make_L114 x1 x2 x3 (r_things σ) (((Int32.toInt (6 : Int32)) - (Int32.toInt (0 : Int32))).toNat) (0 : Int32) (r_moved_s (r_hasWish_s (r_isFreed_s (r_colour_s (r_place_s (r_many_s σ (upd (r_many σ) (ix (r_things σ)) x3)) (upd (r_place σ) (ix (r_things σ)) (fX6_newPlace σ (x3 + (1 : Int32))))) (upd (r_colour σ) (ix (r_things σ)) (fX6_newColour (r_place_s (r_many_s σ (upd (r_many σ) (ix (r_things σ)) x3)) (upd (r_place σ) (ix (r_things σ)) (fX6_newPlace σ (x3 + (1 : Int32)))))))) (upd (r_isFreed σ) (ix (r_things σ)) (0 : Int32))) (upd (r_hasWish σ) (ix (r_things σ)) (vp_nar .boolean x4))) (upd (r_moved σ) (ix (r_things σ)) (0 : Int32))))) + (1 : Int32))) x1 x2 (r_things σ)).1, (fX6_holds (r_things_s (r_top_s (fX6_make_L114 x1 x2 x3 (r_things σ) (((Int32.toInt (6 : Int32)) - (Int32.toInt (0 : Int32))).toNat) (0 : Int32) (r_moved_s (r_hasWish_s (r_isFreed_s (r_colour_s (r_place_s (r_many_s σ (upd (r_many σ) (ix (r_things σ)) x3)) (upd (r_place σ) (ix (r_things σ)) (fX6_newPlace σ (x3 + (1 : Int32))))) (upd (r_colour σ) (ix (r_things σ)) (fX6_newColour (r_place_s (r_many_s σ (upd (r_many σ) (ix (r_things σ)) x3)) (upd (r_place σ) (ix (r_things σ)) (fX6_newPlace σ (x3 + (1 : Int32)))))))) (upd (r_isFreed σ) (ix (r_things σ)) (0 : Int32))) (upd (r_hasWish σ) (ix (r_things σ)) (vp_nar .boolean x4))) (upd (r_moved σ) (ix (r_things σ)) (0 : Int32)))) ((r_top (fX6_make_L114 x1 x2 x3 (r_things σ) (((Int32.toInt (6 : Int32)) - (Int32.toInt (0 : Int32))).toNat) (0 : Int32) (r_moved_s (r_hasWish_s (r_isFreed_s (r_colour_s (r_place_s (r_many_s σ (upd (r_many σ) (ix (r_things σ)) x3)) (upd (r_place σ) (ix (r_things σ)) (fX6_newPlace σ (x3 + (1 : Int32))))) (upd (r_colour σ) (ix (r_things σ)) (fX6_newColour (r_place_s (r_many_s σ (upd (r_many σ) (ix (r_things σ)) x3)) (upd (r_place σ) (ix (r_things σ)) (fX6_newPlace σ (x3 + (1 : Int32)))))))) (upd (r_isFreed σ) (ix (r_things σ)) (0 : Int32))) (upd (r_hasWish σ) (ix (r_things σ)) (vp_nar .boolean x4))) (upd (r_moved σ) (ix (r_things σ)) (0 : Int32))))) + (x3 + (1 : Int32)))) ((r_things (fX6_make_L114 x1 x2 x3 (r_things σ) (((Int32.toInt (6 : Int32)) - (Int32.toInt (0 : Int32))).toNat) (0 : Int32) (r_moved_s (r_hasWish_s (r_isFreed_s (r_colour_s (r_place_s (r_many_s σ (upd (r_many σ) (ix (r_things σ)) x3)) (upd (r_place σ) (ix (r_things σ)) (fX6_newPlace σ (x3 + (1 : Int32))))) (upd (r_colour σ) (ix (r_things σ)) (fX6_newColour (r_place_s (r_many_s σ (upd (r_many σ) (ix (r_things σ)) x3)) (upd (r_place σ) (ix (r_things σ)) (fX6_newPlace σ (x3 + (1 : Int32)))))))) (upd (r_isFreed σ) (ix (r_things σ)) (0 : Int32))) (upd (r_hasWish σ) (ix (r_things σ)) (vp_nar .boolean x4))) (upd (r_moved σ) (ix (r_things σ)) (0 : Int32))))) + (1 : Int32))) x1 x2 (r_things σ)).2) else ((fX6_holds (r_things_s (r_top_s (fX6_make_L114 x1 x2 x3 (r_things σ) (((Int32.toInt (6 : Int32)) - (Int32.toInt (0 : Int32))).toNat) (0 : Int32) (r_moved_s (r_hasWish_s (r_isFreed_s (r_colour_s (r_place_s (r_many_s σ (upd (r_many σ) (ix (r_things σ)) x3)) (upd (r_place σ) (ix (r_things σ)) (fX6_newPlace σ (x3 + (1 : Int32))))) (upd (r_colour σ) (ix (r_things σ)) (fX6_newColour (r_place_s (r_many_s σ (upd (r_many σ) (ix (r_things σ)) x3)) (upd (r_place σ) (ix (r_things σ)) (fX6_newPlace σ (x3 + (1 : Int32)))))))) (upd (r_isFreed σ) (ix (r_things σ)) (0 : Int32))) (upd (r_hasWish σ) (ix (r_things σ)) (vp_nar .boolean x4))) (upd (r_moved σ) (ix (r_things σ)) (0 : Int32)))) ((r_top (fX6_make_L114 x1 x2 x3 (r_things σ) (((Int32.toInt (6 : Int32)) - (Int32.toInt (0 : Int32))).toNat) (0 : Int32) (r_moved_s (r_hasWish_s (r_isFreed_s (r_colour_s (r_place_s (r_many_s σ (upd (r_many σ) (ix (r_things σ)) x3)) (upd (r_place σ) (ix (r_things σ)) (fX6_newPlace σ (x3 + (1 : Int32))))) (upd (r_colour σ) (ix (r_things σ)) (fX6_newColour (r_place_s (r_many_s σ (upd (r_many σ) (ix (r_things σ)) x3)) (upd (r_place σ) (ix (r_things σ)) (fX6_newPlace σ (x3 + (1 : Int32)))))))) (upd (r_isFreed σ) (ix (r_things σ)) (0 : Int32))) (upd (r_hasWish σ) (ix (r_things σ)) (vp_nar .boolean x4))) (upd (r_moved σ) (ix (r_things σ)) (0 : Int32))))) + (0 : Int32))) ((r_things (fX6_make_L114 x1 x2 x3 (r_things σ) (((Int32.toInt (6 : Int32)) - (Int32.toInt (0 : Int32))).toNat) (0 : Int32) (r_moved_s (r_hasWish_s (r_isFreed_s (r_colour_s (r_place_s (r_many_s σ (upd (r_many σ) (ix (r_things σ)) x3)) (upd (r_place σ) (ix (r_things σ)) (fX6_newPlace σ (x3 + (1 : Int32))))) (upd (r_colour σ) (ix (r_things σ)) (fX6_newColour (r_place_s (r_many_s σ (upd (r_many σ) (ix (r_things σ)) x3)) (upd (r_place σ) (ix (r_things σ)) (fX6_newPlace σ (x3 + (1 : Int32)))))))) (upd (r_isFreed σ) (ix (r_things σ)) (0 : Int32))) (upd (r_hasWish σ) (ix (r_things σ)) (vp_nar .boolean x4))) (upd (r_moved σ) (ix (r_things σ)) (0 : Int32))))) + (1 : Int32))) x1 x2 (r_things σ)).1, (fX6_holds (r_things_s (r_top_s (fX6_make_L114 x1 x2 x3 (r_things σ) (((Int32.toInt (6 : Int32)) - (Int32.toInt (0 : Int32))).toNat) (0 : Int32) (r_moved_s (r_hasWish_s (r_isFreed_s (r_colour_s (r_place_s (r_many_s σ (upd (r_many σ) (ix (r_things σ)) x3)) (upd (r_place σ) (ix (r_things σ)) (fX6_newPlace σ (x3 + (1 : Int32))))) (upd (r_colour σ) (ix (r_things σ)) (fX6_newColour (r_place_s (r_many_s σ (upd (r_many σ) (ix (r_things σ)) x3)) (upd (r_place σ) (ix (r_things σ)) (fX6_newPlace σ (x3 + (1 : Int32)))))))) (upd (r_isFreed σ) (ix (r_things σ)) (0 : Int32))) (upd (r_hasWish σ) (ix (r_things σ)) (vp_nar .boolean x4))) (upd (r_moved σ) (ix (r_things σ)) (0 : Int32)))) ((r_top (fX6_make_L114 x1 x2 x3 (r_things σ) (((Int32.toInt (6 : Int32)) - (Int32.toInt (0 : Int32))).toNat) (0 : Int32) (r_moved_s (r_hasWish_s (r_isFreed_s (r_colour_s (r_place_s (r_many_s σ (upd (r_many σ) (ix (r_things σ)) x3)) (upd (r_place σ) (ix (r_things σ)) (fX6_newPlace σ (x3 + (1 : Int32))))) (upd (r_colour σ) (ix (r_things σ)) (fX6_newColour (r_place_s (r_many_s σ (upd (r_many σ) (ix (r_things σ)) x3)) (upd (r_place σ) (ix (r_things σ)) (fX6_newPlace σ (x3 + (1 : Int32)))))))) (upd (r_isFreed σ) (ix (r_things σ)) (0 : Int32))) (upd (r_hasWish σ) (ix (r_things σ)) (vp_nar .boolean x4))) (upd (r_moved σ) (ix (r_things σ)) (0 : Int32))))) + (0 : Int32))) ((r_things (fX6_make_L114 x1 x2 x3 (r_things σ) (((Int32.toInt (6 : Int32)) - (Int32.toInt (0 : Int32))).toNat) (0 : Int32) (r_moved_s (r_hasWish_s (r_isFreed_s (r_colour_s (r_place_s (r_many_s σ (upd (r_many σ) (ix (r_things σ)) x3)) (upd (r_place σ) (ix (r_things σ)) (fX6_newPlace σ (x3 + (1 : Int32))))) (upd (r_colour σ) (ix (r_things σ)) (fX6_newColour (r_place_s (r_many_s σ (upd (r_many σ) (ix (r_things σ)) x3)) (upd (r_place σ) (ix (r_things σ)) (fX6_newPlace σ (x3 + (1 : Int32)))))))) (upd (r_isFreed σ) (ix (r_things σ)) (0 : Int32))) (upd (r_hasWish σ) (ix (r_things σ)) (vp_nar .boolean x4))) (upd (r_moved σ) (ix (r_things σ)) (0 : Int32))))) + (1 : Int32))) x1 x2 (r_things σ)).2))))))
theorem hdX6_make : yX6_make.cls = RX6 ∧ yX6_make.cls ≠ "java/lang/invoke/MethodHandle" ∧ yX6_make.cls ≠ "java/lang/invoke/VarHandle" ∧ (parseMethodDescriptor yX6_make.desc).map (fun d => d.parameters.length) = some 4 := by decide +kernel
set_option maxHeartbeats 250000 in
set_option maxRecDepth 100000 in
theorem kX6_make (l : Launch) (D : va_G) (a : Nat → Nat) (cI cZ : ClassId) (σ : RSt) (x1 : Int32) (x2 : Int32) (x3 : Int32) (x4 : Int32) (hS : S0 σ) : CR l D (tyIZ cI cZ) (wR a cI cZ) yX6_make cX6_make 8 .int (rmk 3 66) [.ref (a 0), .int x1, .int x2, .int x3, .int x4] σ (fX6_make σ x1 x2 x3 x4).1 (fX6_make σ x1 x2 x3 x4).2 := by
  refine CR.of pnX6 ⟨rfl, rfl⟩ (Nat.le_of_ble_eq_true rfl) rfl (fun p e s m args below meth c A Q ls C X hA hl ret => ?_)
  have C : Cx p s m args meth c cX6_make 8 RX6 D (tyIZ cI cZ) := C
  have hx := C.1
  have hb := C.2.1
  have hl : lv_has ls 8 [(0, .ref (a 0)), (1, .int x1), (2, .int x2), (3, .int x3), (4, .int x4)] := hl
  refine lv_iload_n hx hb dX6_make_0 rfl (lv_at hl 1 rfl) ?_
  refine lv_iload_n hx hb dX6_make_1 rfl (lv_at hl 2 rfl) ?_
  refine callSR (rest := []) C hA (wR_sh a cI cZ) X (kX6_isRegister l D a cI cZ _ x1 x2) (cwS 2 C.2.2.2.2.1 (gS wl_X6_152 wz_yX6_isRegister wi_X6 wk_yX6_isRegister) rfl rfl rfl hdX6_isRegister ⟨Nat.le_of_ble_eq_true rfl, Nat.le_of_ble_eq_true rfl⟩) rfl hl.1 rfl (Nat.le_of_ble_eq_true rfl) dX6_make_2 ⟨Nat.le_refl 0, Nat.le_refl 0⟩ (fun H locs X => ?_)
  refine lv_if_eq (tgt := 18) hx hb dX6_make_5 (by decide) (fun c5 => ?_) (fun c5 => ?_)
  · refine lv_bipush (v := (-2)) hx hb dX6_make_18 (by decide) ?_
    exact ret dX6_make_20 (pe_ (Eq.symm (if_pos c5))) X
  · refine lv_iload_n hx hb dX6_make_8 rfl (lv_at hl 3 rfl) ?_
    refine lv_iconst (v := (0)) hx hb dX6_make_9 (by decide) ?_
    refine lv_bipush (v := (6)) hx hb dX6_make_10 (by decide) ?_
    refine callSR (rest := []) C hA (wR_sh a cI cZ) X (kX6_in l D a cI cZ _ x3 (0 : Int32) (6 : Int32)) (cwS 3 C.2.2.2.2.1 (gS wl_X6_90 wz_yX6_in wi_X6 wk_yX6_in) rfl rfl rfl hdX6_in ⟨Nat.le_of_ble_eq_true rfl, Nat.le_of_ble_eq_true rfl⟩) rfl hl.1 rfl (Nat.le_of_ble_eq_true rfl) dX6_make_12 ⟨Nat.le_refl 0, Nat.le_refl 0⟩ (fun H locs X => ?_)
    refine lv_if_ne (tgt := 21) hx hb dX6_make_15 (by decide) (fun c15 => ?_) (fun c15 => ?_)
    · refine lv_aload_n hx hb dX6_make_21 rfl (lv_at hl 0 rfl) ?_
      refine rg_X6_X6_things (v := (r_things σ)) C X rfl dX6_make_22 ?_
      refine lv_bipush (v := (120)) hx hb dX6_make_25 (by decide) ?_
      refine lv_icmp_ne (tgt := 34) hx hb dX6_make_27 (by decide) (fun c27 => ?_) (fun c27 => ?_)
      · have ht := s0_tlt hS c27
        refine lv_aload_n hx hb dX6_make_34 rfl (lv_at hl 0 rfl) ?_
        refine lv_iload_n hx hb dX6_make_35 rfl (lv_at hl 3 rfl) ?_
        refine lv_iconst (v := (1)) hx hb dX6_make_36 (by decide) ?_
        refine lv_iadd hx hb dX6_make_37 ?_
        refine callVR (rest := []) C hA (wR_sh a cI cZ) X (kX6_newPlace l D a cI cZ _ (x3 + (1 : Int32)) hS) (cwV 1 C.2.2.2.2.1 (gV wl_X6_155 wt_yX6_newPlace ws_yX6_newPlace wi_X6 wk_yX6_newPlace) rfl rfl rfl hdX6_newPlace ⟨Nat.le_of_ble_eq_true rfl, Nat.le_of_ble_eq_true rfl⟩) (ci := 6) (q0 := 0) rfl rfl rfl hl.1 rfl (Nat.le_of_ble_eq_true rfl) dX6_make_38 ⟨Nat.le_refl 0, Nat.le_refl 0⟩ (fun H locs X => ?_)
        refine lv_istore (lv' := [(5, .int (fX6_newPlace σ (x3 + (1 : Int32)))), (0, .ref (a 0)), (1, .int x1), (2, .int x2), (3, .int x3), (4, .int x4)]) hx hb dX6_make_41 hl (by decide) rfl (fun ls hl => ?_)
        refine lv_iload hx hb dX6_make_43 (lv_at hl 0 rfl) ?_
        refine lv_iconst (v := (-1)) hx hb dX6_make_45 (by decide) ?_
        refine lv_icmp_ne (tgt := 52) hx hb dX6_make_46 (by decide) (fun c46 => ?_) (fun c46 => ?_)
        · refine lv_aload_n hx hb dX6_make_52 rfl (lv_at hl 1 rfl) ?_
          refine rg_X6_X6_things (v := (r_things σ)) C X rfl dX6_make_53 ?_
          refine lv_istore (lv' := [(6, .int (r_things σ)), (5, .int (fX6_newPlace σ (x3 + (1 : Int32)))), (0, .ref (a 0)), (1, .int x1), (2, .int x2), (3, .int x3), (4, .int x4)]) hx hb dX6_make_56 hl (by decide) rfl (fun ls hl => ?_)
          refine lv_aload_n hx hb dX6_make_58 rfl (lv_at hl 2 rfl) ?_
          refine rg_X6_X6_many C X dX6_make_59 ?_
          refine lv_iload hx hb dX6_make_62 (lv_at hl 0 rfl) ?_
          refine lv_iload_n hx hb dX6_make_64 rfl (lv_at hl 5 rfl) ?_
          refine rs_many (g := (upd (r_many σ) (ix (r_things σ)) x3)) C X ht rfl dX6_make_65 (fun H locs X => ?_)
          refine lv_aload_n hx hb dX6_make_66 rfl (lv_at hl 2 rfl) ?_
          refine rg_X6_X6_place C X dX6_make_67 ?_
          refine lv_iload hx hb dX6_make_70 (lv_at hl 0 rfl) ?_
          refine lv_iload hx hb dX6_make_72 (lv_at hl 1 rfl) ?_
          refine rs_place (g := (upd (r_place σ) (ix (r_things σ)) (fX6_newPlace σ (x3 + (1 : Int32))))) C X ht (congrArg (fun z => upd z _ _) (rq_place_many _ _)) dX6_make_74 (fun H locs X => ?_)
          refine lv_aload_n hx hb dX6_make_75 rfl (lv_at hl 2 rfl) ?_
          refine rg_X6_X6_colour C X dX6_make_76 ?_
          refine lv_iload hx hb dX6_make_79 (lv_at hl 0 rfl) ?_
          refine lv_aload_n hx hb dX6_make_81 rfl (lv_at hl 2 rfl) ?_
          refine callVR (rest := [.int (r_things σ), .ref (a 4)]) C hA (wR_sh a cI cZ) X (kX6_newColour l D a cI cZ _ ) (cwV 0 C.2.2.2.2.1 (gV wl_X6_145 wt_yX6_newColour ws_yX6_newColour wi_X6 wk_yX6_newColour) rfl rfl rfl hdX6_newColour ⟨Nat.le_of_ble_eq_true rfl, Nat.le_of_ble_eq_true rfl⟩) (ci := 6) (q0 := 0) rfl rfl rfl hl.1 rfl (Nat.le_of_ble_eq_true rfl) dX6_make_82 ⟨Nat.le_refl 0, Nat.le_refl 0⟩ (fun H locs X => ?_)
          refine rs_colour (g := (upd (r_colour σ) (ix (r_things σ)) (fX6_newColour (r_place_s (r_many_s σ (upd (r_many σ) (ix (r_things σ)) x3)) (upd (r_place σ) (ix (r_things σ)) (fX6_newPlace σ (x3 + (1 : Int32)))))))) C X ht (congrArg (fun z => upd z _ _) (Eq.trans (rq_colour_place _ _) (rq_colour_many _ _))) dX6_make_85 (fun H locs X => ?_)
          refine lv_aload_n hx hb dX6_make_86 rfl (lv_at hl 2 rfl) ?_
          refine rg_X6_X6_isFreed C X dX6_make_87 ?_
          refine lv_iload hx hb dX6_make_90 (lv_at hl 0 rfl) ?_
          refine lv_iconst (v := (0)) hx hb dX6_make_92 (by decide) ?_
          refine rs_isFreed (x1 := (0 : Int32)) (g := (upd (r_isFreed σ) (ix (r_things σ)) (0 : Int32))) C X ht rfl (congrArg (fun z => upd z _ _) (Eq.trans (rq_isFreed_colour _ _) (Eq.trans (rq_isFreed_place _ _) (rq_isFreed_many _ _)))) dX6_make_93 (fun H locs X => ?_)
          refine lv_aload_n hx hb dX6_make_94 rfl (lv_at hl 2 rfl) ?_
          refine rg_X6_X6_hasWish C X dX6_make_95 ?_
          refine lv_iload hx hb dX6_make_98 (lv_at hl 0 rfl) ?_
          refine lv_iload hx hb dX6_make_100 (lv_at hl 6 rfl) ?_
          refine rs_hasWish (x1 := (vp_nar .boolean x4)) (g := (upd (r_hasWish σ) (ix (r_things σ)) (vp_nar .boolean x4))) C X ht rfl (congrArg (fun z => upd z _ _) (Eq.trans (rq_hasWish_isFreed _ _) (Eq.trans (rq_hasWish_colour _ _) (Eq.trans (rq_hasWish_place _ _) (rq_hasWish_many _ _))))) dX6_make_102 (fun H locs X => ?_)
          refine lv_aload_n hx hb dX6_make_103 rfl (lv_at hl 2 rfl) ?_
          refine rg_X6_X6_moved C X dX6_make_104 ?_
          refine lv_iload hx hb dX6_make_107 (lv_at hl 0 rfl) ?_
          refine lv_iconst (v := (0)) hx hb dX6_make_109 (by decide) ?_
          refine rs_moved (g := (upd (r_moved σ) (ix (r_things σ)) (0 : Int32))) C X ht (congrArg (fun z => upd z _ _) (Eq.trans (rq_moved_hasWish _ _) (Eq.trans (rq_moved_isFreed _ _) (Eq.trans (rq_moved_colour _ _) (Eq.trans (rq_moved_place _ _) (rq_moved_many _ _)))))) dX6_make_110 (fun H locs X => ?_)
          refine lv_iconst (v := (0)) hx hb dX6_make_111 (by decide) ?_
          refine lv_istore (lv' := [(7, .int (0 : Int32)), (6, .int (r_things σ)), (5, .int (fX6_newPlace σ (x3 + (1 : Int32)))), (0, .ref (a 0)), (1, .int x1), (2, .int x2), (3, .int x3), (4, .int x4)]) hx hb dX6_make_112 hl (by decide) rfl (fun ls hl => ?_)
          have L114 : ∀ (res : RSt) (hx114 : ∀ (H : Heap) (locs : List Loc) (ls : Array Slot), Sx A D (wR a cI cZ res) s H locs → lv_has ls 8 [(0, .ref (a 0)), (1, .int x1), (2, .int x2), (3, .int x3), (6, .int (r_things σ))] → W p l e (rmk 3 66) s m args below meth c H locs 0 0 Q (F0 m 141 ls [])) (f : Nat) (y7 : Int32) (σ114 : RSt) (hf : ((Int32.toInt (6 : Int32)) - (Int32.toInt y7)).toNat = f) (hnn : 0 ≤ Int32.toInt y7) (he : fX6_make_L114 x1 x2 x3 (r_things σ) f y7 σ114 = res) (H : Heap) (locs : List Loc) (ls : Array Slot) (X : Sx A D (wR a cI cZ σ114) s H locs) (hl : lv_has ls 8 [(0, .ref (a 0)), (1, .int x1), (2, .int x2), (3, .int x3), (6, .int (r_things σ)), (7, .int y7)]), W p l e (rmk 3 66) s m args below meth c H locs 0 0 Q (F0 m 114 ls []) := by
            intro res hx114 f
            induction f with
            | zero =>
              intro y7 σ114 hf hnn he H locs ls X hl
              refine lv_iload hx hb dX6_make_114 (lv_at hl 5 rfl) ?_
              refine lv_bipush (v := (6)) hx hb dX6_make_116 (by decide) ?_
              refine lv_icmp_ge (tgt := 141) hx hb dX6_make_118 (by decide) (fun c118 => ?_) (fun c118 => (lp_z hf c118).elim)
              exact hx114 _ _ _ (Eq.subst (motive := fun z => Sx A D (wR a cI cZ z) s _ _) he X) (Eq.subst (motive := fun z => lv_has _ 8 [(0, .ref (a 0)), (1, .int x1), (2, .int x2), (3, .int x3), (6, .int (r_things σ))]) he (lv_sub hl [0, 1, 2, 3, 4] rfl))
            | succ f ih114 =>
              intro y7 σ114 hf hnn he H locs ls X hl
              refine lv_iload hx hb dX6_make_114 (lv_at hl 5 rfl) ?_
              refine lv_bipush (v := (6)) hx hb dX6_make_116 (by decide) ?_
              refine lv_icmp_ge (tgt := 141) hx hb dX6_make_118 (by decide) (fun c118 => (lp_s hf c118).elim) (fun c118 => ?_)
              refine lv_aload_n hx hb dX6_make_121 rfl (lv_at hl 0 rfl) ?_
              refine rg_X6_X6_field C X dX6_make_122 ?_
              refine lv_bipush (v := (6)) hx hb dX6_make_125 (by decide) ?_
              refine lv_iload hx hb dX6_make_127 (lv_at hl 4 rfl) ?_
              refine lv_imul hx hb dX6_make_129 ?_
              refine lv_iload hx hb dX6_make_130 (lv_at hl 5 rfl) ?_
              refine lv_iadd hx hb dX6_make_132 ?_
              refine lv_iconst (v := (-1)) hx hb dX6_make_133 (by decide) ?_
              refine rs_field (g := (upd (r_field σ114) (ix (((6 : Int32) * (r_things σ)) + y7)) (-1 : Int32))) C X (in_6x ht (lp_in hnn hf (show (Int32.toInt (6 : Int32) : Int) ≤ 6 by decide))) rfl dX6_make_134 (fun H locs X => ?_)
              refine lv_iinc (v := (y7 + 1)) (lv' := [(7, .int (y7 + 1)), (0, .ref (a 0)), (1, .int x1), (2, .int x2), (3, .int x3), (6, .int (r_things σ))]) hx hb dX6_make_135 hl (k := 5) rfl rfl (by decide) rfl (fun ls hl => ?_)
              refine lv_goto (tgt := 114) hx hb dX6_make_138 (by decide) ?_
              exact ih114 (y7 + 1) (r_field_s σ114 (upd (r_field σ114) (ix (((6 : Int32) * (r_things σ)) + y7)) (-1 : Int32))) (lp_b hf) (lp_nn hnn hf) he _ _ _ X (lv_sub hl [1, 2, 3, 4, 5, 0] rfl)
          refine L114 (fX6_make_L114 x1 x2 x3 (r_things σ) (((Int32.toInt (6 : Int32)) - (Int32.toInt (0 : Int32))).toNat) (0 : Int32) (r_moved_s (r_hasWish_s (r_isFreed_s (r_colour_s (r_place_s (r_many_s σ (upd (r_many σ) (ix (r_things σ)) x3)) (upd (r_place σ) (ix (r_things σ)) (fX6_newPlace σ (x3 + (1 : Int32))))) (upd (r_colour σ) (ix (r_things σ)) (fX6_newColour (r_place_s (r_many_s σ (upd (r_many σ) (ix (r_things σ)) x3)) (upd (r_place σ) (ix (r_things σ)) (fX6_newPlace σ (x3 + (1 : Int32)))))))) (upd (r_isFreed σ) (ix (r_things σ)) (0 : Int32))) (upd (r_hasWish σ) (ix (r_things σ)) (vp_nar .boolean x4))) (upd (r_moved σ) (ix (r_things σ)) (0 : Int32)))) (fun H locs ls X hl => ?_) (((Int32.toInt (6 : Int32)) - (Int32.toInt (0 : Int32))).toNat) (0 : Int32) (r_moved_s (r_hasWish_s (r_isFreed_s (r_colour_s (r_place_s (r_many_s σ (upd (r_many σ) (ix (r_things σ)) x3)) (upd (r_place σ) (ix (r_things σ)) (fX6_newPlace σ (x3 + (1 : Int32))))) (upd (r_colour σ) (ix (r_things σ)) (fX6_newColour (r_place_s (r_many_s σ (upd (r_many σ) (ix (r_things σ)) x3)) (upd (r_place σ) (ix (r_things σ)) (fX6_newPlace σ (x3 + (1 : Int32)))))))) (upd (r_isFreed σ) (ix (r_things σ)) (0 : Int32))) (upd (r_hasWish σ) (ix (r_things σ)) (vp_nar .boolean x4))) (upd (r_moved σ) (ix (r_things σ)) (0 : Int32))) rfl (by decide) rfl _ _ _ X (lv_sub hl [3, 4, 5, 6, 1, 0] rfl)
          refine lv_aload_n hx hb dX6_make_141 rfl (lv_at hl 0 rfl) ?_
          refine lv_dup hx hb dX6_make_142 rfl ?_
          refine rg_X6_X6_top (v := (r_top (fX6_make_L114 x1 x2 x3 (r_things σ) (((Int32.toInt (6 : Int32)) - (Int32.toInt (0 : Int32))).toNat) (0 : Int32) (r_moved_s (r_hasWish_s (r_isFreed_s (r_colour_s (r_place_s (r_many_s σ (upd (r_many σ) (ix (r_things σ)) x3)) (upd (r_place σ) (ix (r_things σ)) (fX6_newPlace σ (x3 + (1 : Int32))))) (upd (r_colour σ) (ix (r_things σ)) (fX6_newColour (r_place_s (r_many_s σ (upd (r_many σ) (ix (r_things σ)) x3)) (upd (r_place σ) (ix (r_things σ)) (fX6_newPlace σ (x3 + (1 : Int32)))))))) (upd (r_isFreed σ) (ix (r_things σ)) (0 : Int32))) (upd (r_hasWish σ) (ix (r_things σ)) (vp_nar .boolean x4))) (upd (r_moved σ) (ix (r_things σ)) (0 : Int32)))))) C X rfl dX6_make_143 ?_
          refine lv_aload_n hx hb dX6_make_146 rfl (lv_at hl 0 rfl) ?_
          refine rg_X6_X6_manner (v := (r_manner (fX6_make_L114 x1 x2 x3 (r_things σ) (((Int32.toInt (6 : Int32)) - (Int32.toInt (0 : Int32))).toNat) (0 : Int32) (r_moved_s (r_hasWish_s (r_isFreed_s (r_colour_s (r_place_s (r_many_s σ (upd (r_many σ) (ix (r_things σ)) x3)) (upd (r_place σ) (ix (r_things σ)) (fX6_newPlace σ (x3 + (1 : Int32))))) (upd (r_colour σ) (ix (r_things σ)) (fX6_newColour (r_place_s (r_many_s σ (upd (r_many σ) (ix (r_things σ)) x3)) (upd (r_place σ) (ix (r_things σ)) (fX6_newPlace σ (x3 + (1 : Int32)))))))) (upd (r_isFreed σ) (ix (r_things σ)) (0 : Int32))) (upd (r_hasWish σ) (ix (r_things σ)) (vp_nar .boolean x4))) (upd (r_moved σ) (ix (r_things σ)) (0 : Int32)))))) C X rfl dX6_make_147 ?_
          refine lv_iconst (v := (3)) hx hb dX6_make_150 (by decide) ?_
          refine lv_icmp_ne (tgt := 160) hx hb dX6_make_151 (by decide) (fun c151 => ?_) (fun c151 => ?_)
          · refine lv_iconst (v := (0)) hx hb dX6_make_160 (by decide) ?_
            refine lv_iadd hx hb dX6_make_161 ?_
            refine rp_X6_X6_top C X dX6_make_162 (fun H locs X => ?_)
            refine lv_aload_n hx hb dX6_make_165 rfl (lv_at hl 0 rfl) ?_
            refine lv_dup hx hb dX6_make_166 rfl ?_
            refine rg_X6_X6_things (v := (r_things (fX6_make_L114 x1 x2 x3 (r_things σ) (((Int32.toInt (6 : Int32)) - (Int32.toInt (0 : Int32))).toNat) (0 : Int32) (r_moved_s (r_hasWish_s (r_isFreed_s (r_colour_s (r_place_s (r_many_s σ (upd (r_many σ) (ix (r_things σ)) x3)) (upd (r_place σ) (ix (r_things σ)) (fX6_newPlace σ (x3 + (1 : Int32))))) (upd (r_colour σ) (ix (r_things σ)) (fX6_newColour (r_place_s (r_many_s σ (upd (r_many σ) (ix (r_things σ)) x3)) (upd (r_place σ) (ix (r_things σ)) (fX6_newPlace σ (x3 + (1 : Int32)))))))) (upd (r_isFreed σ) (ix (r_things σ)) (0 : Int32))) (upd (r_hasWish σ) (ix (r_things σ)) (vp_nar .boolean x4))) (upd (r_moved σ) (ix (r_things σ)) (0 : Int32)))))) C X (rq_things_top _ _) dX6_make_167 ?_
            refine lv_iconst (v := (1)) hx hb dX6_make_170 (by decide) ?_
            refine lv_iadd hx hb dX6_make_171 ?_
            refine rp_X6_X6_things C X dX6_make_172 (fun H locs X => ?_)
            refine lv_aload_n hx hb dX6_make_175 rfl (lv_at hl 0 rfl) ?_
            refine lv_iload_n hx hb dX6_make_176 rfl (lv_at hl 1 rfl) ?_
            refine lv_iload_n hx hb dX6_make_177 rfl (lv_at hl 2 rfl) ?_
            refine lv_iload hx hb dX6_make_178 (lv_at hl 4 rfl) ?_
            refine callVR (rest := []) C hA (wR_sh a cI cZ) X (kX6_holds l D a cI cZ _ x1 x2 (r_things σ) (in_reg c5)) (cwV 3 C.2.2.2.2.1 (gV wl_X6_159 wt_yX6_holds ws_yX6_holds wi_X6 wk_yX6_holds) rfl rfl rfl hdX6_holds ⟨Nat.le_of_ble_eq_true rfl, Nat.le_of_ble_eq_true rfl⟩) (ci := 6) (q0 := 0) rfl rfl rfl hl.1 rfl (Nat.le_of_ble_eq_true rfl) dX6_make_180 ⟨Nat.le_refl 0, Nat.le_refl 0⟩ (fun H locs X => ?_)
            exact ret dX6_make_183 (pe_ (Eq.symm (Eq.trans (if_neg c5) (Eq.trans (if_neg c15) (Eq.trans (if_neg c27) (Eq.trans (if_neg c46) (if_neg c151))))))) X
          · refine lv_iload_n hx hb dX6_make_154 rfl (lv_at hl 3 rfl) ?_
            refine lv_iconst (v := (1)) hx hb dX6_make_155 (by decide) ?_
            refine lv_iadd hx hb dX6_make_156 ?_
            refine lv_goto (tgt := 161) hx hb dX6_make_157 (by decide) ?_
            refine lv_iadd hx hb dX6_make_161 ?_
            refine rp_X6_X6_top C X dX6_make_162 (fun H locs X => ?_)
            refine lv_aload_n hx hb dX6_make_165 rfl (lv_at hl 0 rfl) ?_
            refine lv_dup hx hb dX6_make_166 rfl ?_
            refine rg_X6_X6_things (v := (r_things (fX6_make_L114 x1 x2 x3 (r_things σ) (((Int32.toInt (6 : Int32)) - (Int32.toInt (0 : Int32))).toNat) (0 : Int32) (r_moved_s (r_hasWish_s (r_isFreed_s (r_colour_s (r_place_s (r_many_s σ (upd (r_many σ) (ix (r_things σ)) x3)) (upd (r_place σ) (ix (r_things σ)) (fX6_newPlace σ (x3 + (1 : Int32))))) (upd (r_colour σ) (ix (r_things σ)) (fX6_newColour (r_place_s (r_many_s σ (upd (r_many σ) (ix (r_things σ)) x3)) (upd (r_place σ) (ix (r_things σ)) (fX6_newPlace σ (x3 + (1 : Int32)))))))) (upd (r_isFreed σ) (ix (r_things σ)) (0 : Int32))) (upd (r_hasWish σ) (ix (r_things σ)) (vp_nar .boolean x4))) (upd (r_moved σ) (ix (r_things σ)) (0 : Int32)))))) C X (rq_things_top _ _) dX6_make_167 ?_
            refine lv_iconst (v := (1)) hx hb dX6_make_170 (by decide) ?_
            refine lv_iadd hx hb dX6_make_171 ?_
            refine rp_X6_X6_things C X dX6_make_172 (fun H locs X => ?_)
            refine lv_aload_n hx hb dX6_make_175 rfl (lv_at hl 0 rfl) ?_
            refine lv_iload_n hx hb dX6_make_176 rfl (lv_at hl 1 rfl) ?_
            refine lv_iload_n hx hb dX6_make_177 rfl (lv_at hl 2 rfl) ?_
            refine lv_iload hx hb dX6_make_178 (lv_at hl 4 rfl) ?_
            refine callVR (rest := []) C hA (wR_sh a cI cZ) X (kX6_holds l D a cI cZ _ x1 x2 (r_things σ) (in_reg c5)) (cwV 3 C.2.2.2.2.1 (gV wl_X6_159 wt_yX6_holds ws_yX6_holds wi_X6 wk_yX6_holds) rfl rfl rfl hdX6_holds ⟨Nat.le_of_ble_eq_true rfl, Nat.le_of_ble_eq_true rfl⟩) (ci := 6) (q0 := 0) rfl rfl rfl hl.1 rfl (Nat.le_of_ble_eq_true rfl) dX6_make_180 ⟨Nat.le_refl 0, Nat.le_refl 0⟩ (fun H locs X => ?_)
            exact ret dX6_make_183 (pe_ (Eq.symm (Eq.trans (if_neg c5) (Eq.trans (if_neg c15) (Eq.trans (if_neg c27) (Eq.trans (if_neg c46) (if_pos c151))))))) X
        · refine lv_bipush (v := (-4)) hx hb dX6_make_49 (by decide) ?_
          exact ret dX6_make_51 (pe_ (Eq.symm (Eq.trans (if_neg c5) (Eq.trans (if_neg c15) (Eq.trans (if_neg c27) (if_pos c46)))))) X
      · refine lv_iconst (v := (-1)) hx hb dX6_make_30 (by decide) ?_
        refine lv_goto (tgt := 41) hx hb dX6_make_31 (by decide) ?_
        refine lv_istore (lv' := [(5, .int (-1 : Int32)), (0, .ref (a 0)), (1, .int x1), (2, .int x2), (3, .int x3), (4, .int x4)]) hx hb dX6_make_41 hl (by decide) rfl (fun ls hl => ?_)
        refine lv_iload hx hb dX6_make_43 (lv_at hl 0 rfl) ?_
        refine lv_iconst (v := (-1)) hx hb dX6_make_45 (by decide) ?_
        refine lv_icmp_ne (tgt := 52) hx hb dX6_make_46 (by decide) (fun c46 => absurd c46 (by decide)) (fun c46 => ?_)
        refine lv_bipush (v := (-4)) hx hb dX6_make_49 (by decide) ?_
        exact ret dX6_make_51 (pe_ (Eq.symm (Eq.trans (if_neg c5) (Eq.trans (if_neg c15) (if_pos c27))))) X
    · refine lv_bipush (v := (-2)) hx hb dX6_make_18 (by decide) ?_
      exact ret dX6_make_20 (pe_ (Eq.symm (Eq.trans (if_neg c5) (if_pos c15)))) X
def fX6_move (σ : RSt) (x1 : Int32) (x2 : Int32) (x3 : Int32) : Int32 × RSt := (if (fX6_isRegister σ x1 x2) = (0 : Int32) then ((-2 : Int32), σ) else (if (fX6_isRegister σ x1 x3) = (0 : Int32) then ((-2 : Int32), σ) else ((fX6_holds σ x1 x2 (fX6_held σ x1 x3)).1, (fX6_holds σ x1 x2 (fX6_held σ x1 x3)).2)))
theorem hdX6_move : yX6_move.cls = RX6 ∧ yX6_move.cls ≠ "java/lang/invoke/MethodHandle" ∧ yX6_move.cls ≠ "java/lang/invoke/VarHandle" ∧ (parseMethodDescriptor yX6_move.desc).map (fun d => d.parameters.length) = some 3 := by decide +kernel
set_option maxHeartbeats 250000 in
set_option maxRecDepth 100000 in
theorem kX6_move (l : Launch) (D : va_G) (a : Nat → Nat) (cI cZ : ClassId) (σ : RSt) (x1 : Int32) (x2 : Int32) (x3 : Int32) : CR l D (tyIZ cI cZ) (wR a cI cZ) yX6_move cX6_move 4 .int (rmk 2 43) [.ref (a 0), .int x1, .int x2, .int x3] σ (fX6_move σ x1 x2 x3).1 (fX6_move σ x1 x2 x3).2 := by
  refine CR.of pnX6 ⟨rfl, rfl⟩ (Nat.le_of_ble_eq_true rfl) rfl (fun p e s m args below meth c A Q ls C X hA hl ret => ?_)
  have C : Cx p s m args meth c cX6_move 4 RX6 D (tyIZ cI cZ) := C
  have hx := C.1
  have hb := C.2.1
  have hl : lv_has ls 4 [(0, .ref (a 0)), (1, .int x1), (2, .int x2), (3, .int x3)] := hl
  refine lv_iload_n hx hb dX6_move_0 rfl (lv_at hl 1 rfl) ?_
  refine lv_iload_n hx hb dX6_move_1 rfl (lv_at hl 2 rfl) ?_
  refine callSR (rest := []) C hA (wR_sh a cI cZ) X (kX6_isRegister l D a cI cZ _ x1 x2) (cwS 2 C.2.2.2.2.1 (gS wl_X6_152 wz_yX6_isRegister wi_X6 wk_yX6_isRegister) rfl rfl rfl hdX6_isRegister ⟨Nat.le_of_ble_eq_true rfl, Nat.le_of_ble_eq_true rfl⟩) rfl hl.1 rfl (Nat.le_of_ble_eq_true rfl) dX6_move_2 ⟨Nat.le_refl 0, Nat.le_refl 0⟩ (fun H locs X => ?_)
  refine lv_if_eq (tgt := 16) hx hb dX6_move_5 (by decide) (fun c5 => ?_) (fun c5 => ?_)
  · refine lv_bipush (v := (-2)) hx hb dX6_move_16 (by decide) ?_
    refine lv_goto (tgt := 33) hx hb dX6_move_18 (by decide) ?_
    exact ret dX6_move_33 (pe_ (Eq.symm (if_pos c5))) X
  · refine lv_iload_n hx hb dX6_move_8 rfl (lv_at hl 1 rfl) ?_
    refine lv_iload_n hx hb dX6_move_9 rfl (lv_at hl 3 rfl) ?_
    refine callSR (rest := []) C hA (wR_sh a cI cZ) X (kX6_isRegister l D a cI cZ _ x1 x3) (cwS 2 C.2.2.2.2.1 (gS wl_X6_152 wz_yX6_isRegister wi_X6 wk_yX6_isRegister) rfl rfl rfl hdX6_isRegister ⟨Nat.le_of_ble_eq_true rfl, Nat.le_of_ble_eq_true rfl⟩) rfl hl.1 rfl (Nat.le_of_ble_eq_true rfl) dX6_move_10 ⟨Nat.le_refl 0, Nat.le_refl 0⟩ (fun H locs X => ?_)
    refine lv_if_ne (tgt := 21) hx hb dX6_move_13 (by decide) (fun c13 => ?_) (fun c13 => ?_)
    · refine lv_aload_n hx hb dX6_move_21 rfl (lv_at hl 0 rfl) ?_
      refine lv_iload_n hx hb dX6_move_22 rfl (lv_at hl 1 rfl) ?_
      refine lv_iload_n hx hb dX6_move_23 rfl (lv_at hl 2 rfl) ?_
      refine lv_aload_n hx hb dX6_move_24 rfl (lv_at hl 0 rfl) ?_
      refine lv_iload_n hx hb dX6_move_25 rfl (lv_at hl 1 rfl) ?_
      refine lv_iload_n hx hb dX6_move_26 rfl (lv_at hl 3 rfl) ?_
      refine callVR (rest := [.int x2, .int x1, .ref (a 0)]) C hA (wR_sh a cI cZ) X (kX6_held l D a cI cZ _ x1 x3 (in_reg c13)) (cwV 2 C.2.2.2.2.1 (gV wl_X6_163 wt_yX6_held ws_yX6_held wi_X6 wk_yX6_held) rfl rfl rfl hdX6_held ⟨Nat.le_of_ble_eq_true rfl, Nat.le_of_ble_eq_true rfl⟩) (ci := 6) (q0 := 0) rfl rfl rfl hl.1 rfl (Nat.le_of_ble_eq_true rfl) dX6_move_27 ⟨Nat.le_refl 0, Nat.le_refl 0⟩ (fun H locs X => ?_)
      refine callVR (rest := []) C hA (wR_sh a cI cZ) X (kX6_holds l D a cI cZ _ x1 x2 (fX6_held σ x1 x3) (in_reg c5)) (cwV 3 C.2.2.2.2.1 (gV wl_X6_159 wt_yX6_holds ws_yX6_holds wi_X6 wk_yX6_holds) rfl rfl rfl hdX6_holds ⟨Nat.le_of_ble_eq_true rfl, Nat.le_of_ble_eq_true rfl⟩) (ci := 6) (q0 := 0) rfl rfl rfl hl.1 rfl (Nat.le_of_ble_eq_true rfl) dX6_move_30 ⟨Nat.le_refl 0, Nat.le_refl 0⟩ (fun H locs X => ?_)
      exact ret dX6_move_33 (pe_ (Eq.symm (Eq.trans (if_neg c5) (if_neg c13)))) X
    · refine lv_bipush (v := (-2)) hx hb dX6_move_16 (by decide) ?_
      refine lv_goto (tgt := 33) hx hb dX6_move_18 (by decide) ?_
      exact ret dX6_move_33 (pe_ (Eq.symm (Eq.trans (if_neg c5) (if_pos c13)))) X
def fX6_against (σ : RSt) (x1 : Int32) (x2 : Int32) (x3 : Int32) : Int32 := (if (fX6_held σ x1 x2) = (-1 : Int32) then (-3 : Int32) else (if (fX6_in σ x3 (0 : Int32) (((r_many σ) (ix (fX6_held σ x1 x2))) - (1 : Int32))) = (0 : Int32) then (-3 : Int32) else (if ((r_isFreed σ) (ix (fX6_held σ x1 x2))) = (0 : Int32) then (0 : Int32) else (-5 : Int32))))
theorem hdX6_against : yX6_against.cls = RX6 ∧ yX6_against.cls ≠ "java/lang/invoke/MethodHandle" ∧ yX6_against.cls ≠ "java/lang/invoke/VarHandle" ∧ (parseMethodDescriptor yX6_against.desc).map (fun d => d.parameters.length) = some 3 := by decide +kernel
set_option maxHeartbeats 250000 in
set_option maxRecDepth 100000 in
theorem kX6_against (l : Launch) (D : va_G) (a : Nat → Nat) (cI cZ : ClassId) (σ : RSt) (x1 : Int32) (x2 : Int32) (x3 : Int32) (hS : S0 σ) (hr : vp_in (4 * x1 + x2) 12) : CR l D (tyIZ cI cZ) (wR a cI cZ) yX6_against cX6_against 5 .int (rmk 1 22) [.ref (a 0), .int x1, .int x2, .int x3] σ (fX6_against σ x1 x2 x3) σ := by
  refine CR.of pnX6 ⟨rfl, rfl⟩ (Nat.le_of_ble_eq_true rfl) rfl (fun p e s m args below meth c A Q ls C X hA hl ret => ?_)
  have C : Cx p s m args meth c cX6_against 5 RX6 D (tyIZ cI cZ) := C
  have hx := C.1
  have hb := C.2.1
  have hl : lv_has ls 5 [(0, .ref (a 0)), (1, .int x1), (2, .int x2), (3, .int x3)] := hl
  refine lv_aload_n hx hb dX6_against_0 rfl (lv_at hl 0 rfl) ?_
  refine lv_iload_n hx hb dX6_against_1 rfl (lv_at hl 1 rfl) ?_
  refine lv_iload_n hx hb dX6_against_2 rfl (lv_at hl 2 rfl) ?_
  refine callVR (rest := []) C hA (wR_sh a cI cZ) X (kX6_held l D a cI cZ _ x1 x2 hr) (cwV 2 C.2.2.2.2.1 (gV wl_X6_163 wt_yX6_held ws_yX6_held wi_X6 wk_yX6_held) rfl rfl rfl hdX6_held ⟨Nat.le_of_ble_eq_true rfl, Nat.le_of_ble_eq_true rfl⟩) (ci := 6) (q0 := 0) rfl rfl rfl hl.1 rfl (Nat.le_of_ble_eq_true rfl) dX6_against_3 ⟨Nat.le_refl 0, Nat.le_refl 0⟩ (fun H locs X => ?_)
  refine lv_istore (lv' := [(4, .int (fX6_held σ x1 x2)), (0, .ref (a 0)), (1, .int x1), (2, .int x2), (3, .int x3)]) hx hb dX6_against_6 hl (by decide) rfl (fun ls hl => ?_)
  refine lv_iload hx hb dX6_against_8 (lv_at hl 0 rfl) ?_
  refine lv_iconst (v := (-1)) hx hb dX6_against_10 (by decide) ?_
  refine lv_icmp_eq (tgt := 31) hx hb dX6_against_11 (by decide) (fun c11 => ?_) (fun c11 => ?_)
  · refine lv_bipush (v := (-3)) hx hb dX6_against_31 (by decide) ?_
    refine lv_goto (tgt := 52) hx hb dX6_against_33 (by decide) ?_
    exact ret dX6_against_52 (congrArg (fun z => (z, _)) (Eq.symm (if_pos c11))) X
  · refine lv_iload_n hx hb dX6_against_14 rfl (lv_at hl 4 rfl) ?_
    refine lv_iconst (v := (0)) hx hb dX6_against_15 (by decide) ?_
    refine lv_aload_n hx hb dX6_against_16 rfl (lv_at hl 1 rfl) ?_
    refine rg_X6_X6_many C X dX6_against_17 ?_
    refine lv_iload hx hb dX6_against_20 (lv_at hl 0 rfl) ?_
    refine ra_many (v := ((r_many σ) (ix (fX6_held σ x1 x2)))) C X (vt_in (vt_held hS _ _) c11) rfl dX6_against_22 ?_
    refine lv_iconst (v := (1)) hx hb dX6_against_23 (by decide) ?_
    refine lv_isub hx hb dX6_against_24 ?_
    refine callSR (rest := []) C hA (wR_sh a cI cZ) X (kX6_in l D a cI cZ _ x3 (0 : Int32) (((r_many σ) (ix (fX6_held σ x1 x2))) - (1 : Int32))) (cwS 3 C.2.2.2.2.1 (gS wl_X6_90 wz_yX6_in wi_X6 wk_yX6_in) rfl rfl rfl hdX6_in ⟨Nat.le_of_ble_eq_true rfl, Nat.le_of_ble_eq_true rfl⟩) rfl hl.1 rfl (Nat.le_of_ble_eq_true rfl) dX6_against_25 ⟨Nat.le_refl 0, Nat.le_refl 0⟩ (fun H locs X => ?_)
    refine lv_if_ne (tgt := 36) hx hb dX6_against_28 (by decide) (fun c28 => ?_) (fun c28 => ?_)
    · refine lv_aload_n hx hb dX6_against_36 rfl (lv_at hl 1 rfl) ?_
      refine rg_X6_X6_isFreed C X dX6_against_37 ?_
      refine lv_iload hx hb dX6_against_40 (lv_at hl 0 rfl) ?_
      refine ra_isFreed (v := ((r_isFreed σ) (ix (fX6_held σ x1 x2)))) C X (vt_in (vt_held hS _ _) c11) rfl dX6_against_42 ?_
      refine lv_if_eq (tgt := 51) hx hb dX6_against_43 (by decide) (fun c43 => ?_) (fun c43 => ?_)
      · refine lv_iconst (v := (0)) hx hb dX6_against_51 (by decide) ?_
        exact ret dX6_against_52 (congrArg (fun z => (z, _)) (Eq.symm (Eq.trans (if_neg c11) (Eq.trans (if_neg c28) (if_pos c43))))) X
      · refine lv_bipush (v := (-5)) hx hb dX6_against_46 (by decide) ?_
        refine lv_goto (tgt := 52) hx hb dX6_against_48 (by decide) ?_
        exact ret dX6_against_52 (congrArg (fun z => (z, _)) (Eq.symm (Eq.trans (if_neg c11) (Eq.trans (if_neg c28) (if_neg c43))))) X
    · refine lv_bipush (v := (-3)) hx hb dX6_against_31 (by decide) ?_
      refine lv_goto (tgt := 52) hx hb dX6_against_33 (by decide) ?_
      exact ret dX6_against_52 (congrArg (fun z => (z, _)) (Eq.symm (Eq.trans (if_neg c11) (if_pos c28)))) X
theorem ag_in {σ : RSt} {o r i : Int32} (hS : S0 σ) (h : fX6_against σ o r i = 0) : vp_in (fX6_held σ o r) 120 ∧ vp_in (6 * fX6_held σ o r + i) 720 := by
  unfold fX6_against at h
  split at h
  · exact absurd h (by decide)
  · rename_i c
    have h1 := vt_in (vt_held hS o r) c
    split at h
    · exact absurd h (by decide)
    · rename_i c2
      refine ⟨h1, in_6x h1 ?_⟩
      have h2 := in_in c2
      have h3 := hS.2.1 (ix (fX6_held σ o r))
      have q : (0 : Int32).toInt = 0 := rfl
      rw [i32_m1 h3.1] at h2
      exact vp_in_iff.mpr (by omega)

def fX6_get (σ : RSt) (x1 : Int32) (x2 : Int32) (x3 : Int32) (x4 : Int32) : Int32 × RSt := (if (fX6_isRegister σ x1 x2) = (0 : Int32) then ((-2 : Int32), σ) else (if (fX6_isRegister σ x1 x3) = (0 : Int32) then ((-2 : Int32), σ) else (if (fX6_against σ x1 x3 x4) = (0 : Int32) then (if (r_manner σ) = (3 : Int32) then (if (fX6_notes σ) = (0 : Int32) then ((fX6_holds σ x1 x2 ((r_field σ) (ix (((6 : Int32) * (fX6_held σ x1 x3)) + x4)))).1, (fX6_holds σ x1 x2 ((r_field σ) (ix (((6 : Int32) * (fX6_held σ x1 x3)) + x4)))).2) else ((fX6_holds (fX6_shade σ ((r_field σ) (ix (((6 : Int32) * (fX6_held σ x1 x3)) + x4)))) x1 x2 ((r_field σ) (ix (((6 : Int32) * (fX6_held σ x1 x3)) + x4)))).1, (fX6_holds (fX6_shade σ ((r_field σ) (ix (((6 : Int32) * (fX6_held σ x1 x3)) + x4)))) x1 x2 ((r_field σ) (ix (((6 : Int32) * (fX6_held σ x1 x3)) + x4)))).2)) else ((fX6_holds σ x1 x2 ((r_field σ) (ix (((6 : Int32) * (fX6_held σ x1 x3)) + x4)))).1, (fX6_holds σ x1 x2 ((r_field σ) (ix (((6 : Int32) * (fX6_held σ x1 x3)) + x4)))).2)) else ((fX6_against σ x1 x3 x4), σ))))
theorem hdX6_get : yX6_get.cls = RX6 ∧ yX6_get.cls ≠ "java/lang/invoke/MethodHandle" ∧ yX6_get.cls ≠ "java/lang/invoke/VarHandle" ∧ (parseMethodDescriptor yX6_get.desc).map (fun d => d.parameters.length) = some 4 := by decide +kernel
set_option maxHeartbeats 250000 in
set_option maxRecDepth 100000 in
theorem kX6_get (l : Launch) (D : va_G) (a : Nat → Nat) (cI cZ : ClassId) (σ : RSt) (x1 : Int32) (x2 : Int32) (x3 : Int32) (x4 : Int32) (hS : S0 σ) : CR l D (tyIZ cI cZ) (wR a cI cZ) yX6_get cX6_get 7 .int (rmk 2 46) [.ref (a 0), .int x1, .int x2, .int x3, .int x4] σ (fX6_get σ x1 x2 x3 x4).1 (fX6_get σ x1 x2 x3 x4).2 := by
  refine CR.of pnX6 ⟨rfl, rfl⟩ (Nat.le_of_ble_eq_true rfl) rfl (fun p e s m args below meth c A Q ls C X hA hl ret => ?_)
  have C : Cx p s m args meth c cX6_get 7 RX6 D (tyIZ cI cZ) := C
  have hx := C.1
  have hb := C.2.1
  have hl : lv_has ls 7 [(0, .ref (a 0)), (1, .int x1), (2, .int x2), (3, .int x3), (4, .int x4)] := hl
  refine lv_iload_n hx hb dX6_get_0 rfl (lv_at hl 1 rfl) ?_
  refine lv_iload_n hx hb dX6_get_1 rfl (lv_at hl 2 rfl) ?_
  refine callSR (rest := []) C hA (wR_sh a cI cZ) X (kX6_isRegister l D a cI cZ _ x1 x2) (cwS 2 C.2.2.2.2.1 (gS wl_X6_152 wz_yX6_isRegister wi_X6 wk_yX6_isRegister) rfl rfl rfl hdX6_isRegister ⟨Nat.le_of_ble_eq_true rfl, Nat.le_of_ble_eq_true rfl⟩) rfl hl.1 rfl (Nat.le_of_ble_eq_true rfl) dX6_get_2 ⟨Nat.le_refl 0, Nat.le_refl 0⟩ (fun H locs X => ?_)
  refine lv_if_eq (tgt := 16) hx hb dX6_get_5 (by decide) (fun c5 => ?_) (fun c5 => ?_)
  · refine lv_bipush (v := (-2)) hx hb dX6_get_16 (by decide) ?_
    exact ret dX6_get_18 (pe_ (Eq.symm (if_pos c5))) X
  · refine lv_iload_n hx hb dX6_get_8 rfl (lv_at hl 1 rfl) ?_
    refine lv_iload_n hx hb dX6_get_9 rfl (lv_at hl 3 rfl) ?_
    refine callSR (rest := []) C hA (wR_sh a cI cZ) X (kX6_isRegister l D a cI cZ _ x1 x3) (cwS 2 C.2.2.2.2.1 (gS wl_X6_152 wz_yX6_isRegister wi_X6 wk_yX6_isRegister) rfl rfl rfl hdX6_isRegister ⟨Nat.le_of_ble_eq_true rfl, Nat.le_of_ble_eq_true rfl⟩) rfl hl.1 rfl (Nat.le_of_ble_eq_true rfl) dX6_get_10 ⟨Nat.le_refl 0, Nat.le_refl 0⟩ (fun H locs X => ?_)
    refine lv_if_ne (tgt := 19) hx hb dX6_get_13 (by decide) (fun c13 => ?_) (fun c13 => ?_)
    · refine lv_aload_n hx hb dX6_get_19 rfl (lv_at hl 0 rfl) ?_
      refine lv_iload_n hx hb dX6_get_20 rfl (lv_at hl 1 rfl) ?_
      refine lv_iload_n hx hb dX6_get_21 rfl (lv_at hl 3 rfl) ?_
      refine lv_iload hx hb dX6_get_22 (lv_at hl 4 rfl) ?_
      refine callVR (rest := []) C hA (wR_sh a cI cZ) X (kX6_against l D a cI cZ _ x1 x3 x4 hS (in_reg c13)) (cwV 3 C.2.2.2.2.1 (gV wl_X6_167 wt_yX6_against ws_yX6_against wi_X6 wk_yX6_against) rfl rfl rfl hdX6_against ⟨Nat.le_of_ble_eq_true rfl, Nat.le_of_ble_eq_true rfl⟩) (ci := 6) (q0 := 0) rfl rfl rfl hl.1 rfl (Nat.le_of_ble_eq_true rfl) dX6_get_24 ⟨Nat.le_refl 0, Nat.le_refl 0⟩ (fun H locs X => ?_)
      refine lv_istore (lv' := [(5, .int (fX6_against σ x1 x3 x4)), (0, .ref (a 0)), (1, .int x1), (2, .int x2), (3, .int x3), (4, .int x4)]) hx hb dX6_get_27 hl (by decide) rfl (fun ls hl => ?_)
      refine lv_iload hx hb dX6_get_29 (lv_at hl 0 rfl) ?_
      refine lv_if_eq (tgt := 37) hx hb dX6_get_31 (by decide) (fun c31 => ?_) (fun c31 => ?_)
      · refine lv_aload_n hx hb dX6_get_37 rfl (lv_at hl 1 rfl) ?_
        refine rg_X6_X6_field C X dX6_get_38 ?_
        refine lv_bipush (v := (6)) hx hb dX6_get_41 (by decide) ?_
        refine lv_aload_n hx hb dX6_get_43 rfl (lv_at hl 1 rfl) ?_
        refine lv_iload_n hx hb dX6_get_44 rfl (lv_at hl 2 rfl) ?_
        refine lv_iload_n hx hb dX6_get_45 rfl (lv_at hl 4 rfl) ?_
        refine callVR (rest := [.int (6 : Int32), .ref (a 2)]) C hA (wR_sh a cI cZ) X (kX6_held l D a cI cZ _ x1 x3 (in_reg c13)) (cwV 2 C.2.2.2.2.1 (gV wl_X6_163 wt_yX6_held ws_yX6_held wi_X6 wk_yX6_held) rfl rfl rfl hdX6_held ⟨Nat.le_of_ble_eq_true rfl, Nat.le_of_ble_eq_true rfl⟩) (ci := 6) (q0 := 0) rfl rfl rfl hl.1 rfl (Nat.le_of_ble_eq_true rfl) dX6_get_46 ⟨Nat.le_refl 0, Nat.le_refl 0⟩ (fun H locs X => ?_)
        refine lv_imul hx hb dX6_get_49 ?_
        refine lv_iload hx hb dX6_get_50 (lv_at hl 5 rfl) ?_
        refine lv_iadd hx hb dX6_get_52 ?_
        refine ra_field (v := ((r_field σ) (ix (((6 : Int32) * (fX6_held σ x1 x3)) + x4)))) C X (ag_in hS c31).2 rfl dX6_get_53 ?_
        refine lv_istore (lv' := [(6, .int ((r_field σ) (ix (((6 : Int32) * (fX6_held σ x1 x3)) + x4)))), (5, .int (fX6_against σ x1 x3 x4)), (0, .ref (a 0)), (1, .int x1), (2, .int x2), (3, .int x3), (4, .int x4)]) hx hb dX6_get_54 hl (by decide) rfl (fun ls hl => ?_)
        refine lv_aload_n hx hb dX6_get_56 rfl (lv_at hl 2 rfl) ?_
        refine rg_X6_X6_manner (v := (r_manner σ)) C X rfl dX6_get_57 ?_
        refine lv_iconst (v := (3)) hx hb dX6_get_60 (by decide) ?_
        refine lv_icmp_ne (tgt := 77) hx hb dX6_get_61 (by decide) (fun c61 => ?_) (fun c61 => ?_)
        · refine lv_aload_n hx hb dX6_get_77 rfl (lv_at hl 2 rfl) ?_
          refine lv_iload_n hx hb dX6_get_78 rfl (lv_at hl 3 rfl) ?_
          refine lv_iload_n hx hb dX6_get_79 rfl (lv_at hl 4 rfl) ?_
          refine lv_iload hx hb dX6_get_80 (lv_at hl 0 rfl) ?_
          refine callVR (rest := []) C hA (wR_sh a cI cZ) X (kX6_holds l D a cI cZ _ x1 x2 ((r_field σ) (ix (((6 : Int32) * (fX6_held σ x1 x3)) + x4))) (in_reg c5)) (cwV 3 C.2.2.2.2.1 (gV wl_X6_159 wt_yX6_holds ws_yX6_holds wi_X6 wk_yX6_holds) rfl rfl rfl hdX6_holds ⟨Nat.le_of_ble_eq_true rfl, Nat.le_of_ble_eq_true rfl⟩) (ci := 6) (q0 := 0) rfl rfl rfl hl.1 rfl (Nat.le_of_ble_eq_true rfl) dX6_get_82 ⟨Nat.le_refl 0, Nat.le_refl 0⟩ (fun H locs X => ?_)
          exact ret dX6_get_85 (pe_ (Eq.symm (Eq.trans (if_neg c5) (Eq.trans (if_neg c13) (Eq.trans (if_pos c31) (if_neg c61)))))) X
        · refine lv_aload_n hx hb dX6_get_64 rfl (lv_at hl 2 rfl) ?_
          refine callVR (rest := []) C hA (wR_sh a cI cZ) X (kX6_notes l D a cI cZ _ ) (cwV 0 C.2.2.2.2.1 (gV wl_X6_170 wt_yX6_notes ws_yX6_notes wi_X6 wk_yX6_notes) rfl rfl rfl hdX6_notes ⟨Nat.le_of_ble_eq_true rfl, Nat.le_of_ble_eq_true rfl⟩) (ci := 6) (q0 := 0) rfl rfl rfl hl.1 rfl (Nat.le_of_ble_eq_true rfl) dX6_get_65 ⟨Nat.le_refl 0, Nat.le_refl 0⟩ (fun H locs X => ?_)
          refine lv_if_eq (tgt := 77) hx hb dX6_get_68 (by decide) (fun c68 => ?_) (fun c68 => ?_)
          · refine lv_aload_n hx hb dX6_get_77 rfl (lv_at hl 2 rfl) ?_
            refine lv_iload_n hx hb dX6_get_78 rfl (lv_at hl 3 rfl) ?_
            refine lv_iload_n hx hb dX6_get_79 rfl (lv_at hl 4 rfl) ?_
            refine lv_iload hx hb dX6_get_80 (lv_at hl 0 rfl) ?_
            refine callVR (rest := []) C hA (wR_sh a cI cZ) X (kX6_holds l D a cI cZ _ x1 x2 ((r_field σ) (ix (((6 : Int32) * (fX6_held σ x1 x3)) + x4))) (in_reg c5)) (cwV 3 C.2.2.2.2.1 (gV wl_X6_159 wt_yX6_holds ws_yX6_holds wi_X6 wk_yX6_holds) rfl rfl rfl hdX6_holds ⟨Nat.le_of_ble_eq_true rfl, Nat.le_of_ble_eq_true rfl⟩) (ci := 6) (q0 := 0) rfl rfl rfl hl.1 rfl (Nat.le_of_ble_eq_true rfl) dX6_get_82 ⟨Nat.le_refl 0, Nat.le_refl 0⟩ (fun H locs X => ?_)
            exact ret dX6_get_85 (pe_ (Eq.symm (Eq.trans (if_neg c5) (Eq.trans (if_neg c13) (Eq.trans (if_pos c31) (Eq.trans (if_pos c61) (if_pos c68))))))) X
          · refine lv_aload_n hx hb dX6_get_71 rfl (lv_at hl 2 rfl) ?_
            refine lv_iload hx hb dX6_get_72 (lv_at hl 0 rfl) ?_
            refine callVU (rest := []) C hA (wR_sh a cI cZ) X (kX6_shade l D a cI cZ _ ((r_field σ) (ix (((6 : Int32) * (fX6_held σ x1 x3)) + x4))) (s0_field hS _)) (cwV 1 C.2.2.2.2.1 (gV wl_X6_100 wt_yX6_shade ws_yX6_shade wi_X6 wk_yX6_shade) rfl rfl rfl hdX6_shade ⟨Nat.le_of_ble_eq_true rfl, Nat.le_of_ble_eq_true rfl⟩) (ci := 6) (q0 := 0) rfl rfl rfl hl.1 rfl (Nat.le_of_ble_eq_true rfl) dX6_get_74 ⟨Nat.le_refl 0, Nat.le_refl 0⟩ (fun H locs X => ?_)
            refine lv_aload_n hx hb dX6_get_77 rfl (lv_at hl 2 rfl) ?_
            refine lv_iload_n hx hb dX6_get_78 rfl (lv_at hl 3 rfl) ?_
            refine lv_iload_n hx hb dX6_get_79 rfl (lv_at hl 4 rfl) ?_
            refine lv_iload hx hb dX6_get_80 (lv_at hl 0 rfl) ?_
            refine callVR (rest := []) C hA (wR_sh a cI cZ) X (kX6_holds l D a cI cZ _ x1 x2 ((r_field σ) (ix (((6 : Int32) * (fX6_held σ x1 x3)) + x4))) (in_reg c5)) (cwV 3 C.2.2.2.2.1 (gV wl_X6_159 wt_yX6_holds ws_yX6_holds wi_X6 wk_yX6_holds) rfl rfl rfl hdX6_holds ⟨Nat.le_of_ble_eq_true rfl, Nat.le_of_ble_eq_true rfl⟩) (ci := 6) (q0 := 0) rfl rfl rfl hl.1 rfl (Nat.le_of_ble_eq_true rfl) dX6_get_82 ⟨Nat.le_refl 0, Nat.le_refl 0⟩ (fun H locs X => ?_)
            exact ret dX6_get_85 (pe_ (Eq.symm (Eq.trans (if_neg c5) (Eq.trans (if_neg c13) (Eq.trans (if_pos c31) (Eq.trans (if_pos c61) (if_neg c68))))))) X
      · refine lv_iload hx hb dX6_get_34 (lv_at hl 0 rfl) ?_
        exact ret dX6_get_36 (pe_ (Eq.symm (Eq.trans (if_neg c5) (Eq.trans (if_neg c13) (if_neg c31))))) X
    · refine lv_bipush (v := (-2)) hx hb dX6_get_16 (by decide) ?_
      exact ret dX6_get_18 (pe_ (Eq.symm (Eq.trans (if_neg c5) (if_pos c13)))) X
def fX6_put (σ : RSt) (x1 : Int32) (x2 : Int32) (x3 : Int32) (x4 : Int32) : Int32 × RSt := (if (fX6_isRegister σ x1 x2) = (0 : Int32) then ((-2 : Int32), σ) else (if (fX6_isRegister σ x1 x4) = (0 : Int32) then ((-2 : Int32), σ) else (if (fX6_against σ x1 x2 x3) = (0 : Int32) then (if (fX6_notes σ) = (0 : Int32) then ((1 : Int32), (r_field_s σ (upd (r_field σ) (ix (((6 : Int32) * (fX6_held σ x1 x2)) + x3)) (fX6_held σ x1 x4)))) else (if (r_manner σ) = (1 : Int32) then ((1 : Int32), (r_field_s (fX6_shade σ ((r_field σ) (ix (((6 : Int32) * (fX6_held σ x1 x2)) + x3)))) (upd (r_field (fX6_shade σ ((r_field σ) (ix (((6 : Int32) * (fX6_held σ x1 x2)) + x3))))) (ix (((6 : Int32) * (fX6_held σ x1 x2)) + x3)) (fX6_held (fX6_shade σ ((r_field σ) (ix (((6 : Int32) * (fX6_held σ x1 x2)) + x3)))) x1 x4)))) else (if (r_manner σ) = (2 : Int32) then ((1 : Int32), (r_field_s (fX6_shade σ (fX6_held σ x1 x4)) (upd (r_field (fX6_shade σ (fX6_held σ x1 x4))) (ix (((6 : Int32) * (fX6_held σ x1 x2)) + x3)) (fX6_held (fX6_shade σ (fX6_held σ x1 x4)) x1 x4)))) else ((1 : Int32), (r_field_s σ (upd (r_field σ) (ix (((6 : Int32) * (fX6_held σ x1 x2)) + x3)) (fX6_held σ x1 x4))))))) else ((fX6_against σ x1 x2 x3), σ))))
theorem hdX6_put : yX6_put.cls = RX6 ∧ yX6_put.cls ≠ "java/lang/invoke/MethodHandle" ∧ yX6_put.cls ≠ "java/lang/invoke/VarHandle" ∧ (parseMethodDescriptor yX6_put.desc).map (fun d => d.parameters.length) = some 4 := by decide +kernel
set_option maxHeartbeats 250000 in
set_option maxRecDepth 100000 in
theorem kX6_put (l : Launch) (D : va_G) (a : Nat → Nat) (cI cZ : ClassId) (σ : RSt) (x1 : Int32) (x2 : Int32) (x3 : Int32) (x4 : Int32) (hS : S0 σ) : CR l D (tyIZ cI cZ) (wR a cI cZ) yX6_put cX6_put 7 .int (rmk 2 46) [.ref (a 0), .int x1, .int x2, .int x3, .int x4] σ (fX6_put σ x1 x2 x3 x4).1 (fX6_put σ x1 x2 x3 x4).2 := by
  refine CR.of pnX6 ⟨rfl, rfl⟩ (Nat.le_of_ble_eq_true rfl) rfl (fun p e s m args below meth c A Q ls C X hA hl ret => ?_)
  have C : Cx p s m args meth c cX6_put 7 RX6 D (tyIZ cI cZ) := C
  have hx := C.1
  have hb := C.2.1
  have hl : lv_has ls 7 [(0, .ref (a 0)), (1, .int x1), (2, .int x2), (3, .int x3), (4, .int x4)] := hl
  refine lv_iload_n hx hb dX6_put_0 rfl (lv_at hl 1 rfl) ?_
  refine lv_iload_n hx hb dX6_put_1 rfl (lv_at hl 2 rfl) ?_
  refine callSR (rest := []) C hA (wR_sh a cI cZ) X (kX6_isRegister l D a cI cZ _ x1 x2) (cwS 2 C.2.2.2.2.1 (gS wl_X6_152 wz_yX6_isRegister wi_X6 wk_yX6_isRegister) rfl rfl rfl hdX6_isRegister ⟨Nat.le_of_ble_eq_true rfl, Nat.le_of_ble_eq_true rfl⟩) rfl hl.1 rfl (Nat.le_of_ble_eq_true rfl) dX6_put_2 ⟨Nat.le_refl 0, Nat.le_refl 0⟩ (fun H locs X => ?_)
  refine lv_if_eq (tgt := 17) hx hb dX6_put_5 (by decide) (fun c5 => ?_) (fun c5 => ?_)
  · refine lv_bipush (v := (-2)) hx hb dX6_put_17 (by decide) ?_
    exact ret dX6_put_19 (pe_ (Eq.symm (if_pos c5))) X
  · refine lv_iload_n hx hb dX6_put_8 rfl (lv_at hl 1 rfl) ?_
    refine lv_iload hx hb dX6_put_9 (lv_at hl 4 rfl) ?_
    refine callSR (rest := []) C hA (wR_sh a cI cZ) X (kX6_isRegister l D a cI cZ _ x1 x4) (cwS 2 C.2.2.2.2.1 (gS wl_X6_152 wz_yX6_isRegister wi_X6 wk_yX6_isRegister) rfl rfl rfl hdX6_isRegister ⟨Nat.le_of_ble_eq_true rfl, Nat.le_of_ble_eq_true rfl⟩) rfl hl.1 rfl (Nat.le_of_ble_eq_true rfl) dX6_put_11 ⟨Nat.le_refl 0, Nat.le_refl 0⟩ (fun H locs X => ?_)
    refine lv_if_ne (tgt := 20) hx hb dX6_put_14 (by decide) (fun c14 => ?_) (fun c14 => ?_)
    · refine lv_aload_n hx hb dX6_put_20 rfl (lv_at hl 0 rfl) ?_
      refine lv_iload_n hx hb dX6_put_21 rfl (lv_at hl 1 rfl) ?_
      refine lv_iload_n hx hb dX6_put_22 rfl (lv_at hl 2 rfl) ?_
      refine lv_iload_n hx hb dX6_put_23 rfl (lv_at hl 3 rfl) ?_
      refine callVR (rest := []) C hA (wR_sh a cI cZ) X (kX6_against l D a cI cZ _ x1 x2 x3 hS (in_reg c5)) (cwV 3 C.2.2.2.2.1 (gV wl_X6_167 wt_yX6_against ws_yX6_against wi_X6 wk_yX6_against) rfl rfl rfl hdX6_against ⟨Nat.le_of_ble_eq_true rfl, Nat.le_of_ble_eq_true rfl⟩) (ci := 6) (q0 := 0) rfl rfl rfl hl.1 rfl (Nat.le_of_ble_eq_true rfl) dX6_put_24 ⟨Nat.le_refl 0, Nat.le_refl 0⟩ (fun H locs X => ?_)
      refine lv_istore (lv' := [(5, .int (fX6_against σ x1 x2 x3)), (0, .ref (a 0)), (1, .int x1), (2, .int x2), (3, .int x3), (4, .int x4)]) hx hb dX6_put_27 hl (by decide) rfl (fun ls hl => ?_)
      refine lv_iload hx hb dX6_put_29 (lv_at hl 0 rfl) ?_
      refine lv_if_eq (tgt := 37) hx hb dX6_put_31 (by decide) (fun c31 => ?_) (fun c31 => ?_)
      · refine lv_bipush (v := (6)) hx hb dX6_put_37 (by decide) ?_
        refine lv_aload_n hx hb dX6_put_39 rfl (lv_at hl 1 rfl) ?_
        refine lv_iload_n hx hb dX6_put_40 rfl (lv_at hl 2 rfl) ?_
        refine lv_iload_n hx hb dX6_put_41 rfl (lv_at hl 3 rfl) ?_
        refine callVR (rest := [.int (6 : Int32)]) C hA (wR_sh a cI cZ) X (kX6_held l D a cI cZ _ x1 x2 (in_reg c5)) (cwV 2 C.2.2.2.2.1 (gV wl_X6_163 wt_yX6_held ws_yX6_held wi_X6 wk_yX6_held) rfl rfl rfl hdX6_held ⟨Nat.le_of_ble_eq_true rfl, Nat.le_of_ble_eq_true rfl⟩) (ci := 6) (q0 := 0) rfl rfl rfl hl.1 rfl (Nat.le_of_ble_eq_true rfl) dX6_put_42 ⟨Nat.le_refl 0, Nat.le_refl 0⟩ (fun H locs X => ?_)
        refine lv_imul hx hb dX6_put_45 ?_
        refine lv_iload_n hx hb dX6_put_46 rfl (lv_at hl 4 rfl) ?_
        refine lv_iadd hx hb dX6_put_47 ?_
        refine lv_istore (lv' := [(6, .int (((6 : Int32) * (fX6_held σ x1 x2)) + x3)), (5, .int (fX6_against σ x1 x2 x3)), (0, .ref (a 0)), (1, .int x1), (2, .int x2), (3, .int x3), (4, .int x4)]) hx hb dX6_put_48 hl (by decide) rfl (fun ls hl => ?_)
        refine lv_aload_n hx hb dX6_put_50 rfl (lv_at hl 2 rfl) ?_
        refine callVR (rest := []) C hA (wR_sh a cI cZ) X (kX6_notes l D a cI cZ _ ) (cwV 0 C.2.2.2.2.1 (gV wl_X6_170 wt_yX6_notes ws_yX6_notes wi_X6 wk_yX6_notes) rfl rfl rfl hdX6_notes ⟨Nat.le_of_ble_eq_true rfl, Nat.le_of_ble_eq_true rfl⟩) (ci := 6) (q0 := 0) rfl rfl rfl hl.1 rfl (Nat.le_of_ble_eq_true rfl) dX6_put_51 ⟨Nat.le_refl 0, Nat.le_refl 0⟩ (fun H locs X => ?_)
        refine lv_if_eq (tgt := 98) hx hb dX6_put_54 (by decide) (fun c54 => ?_) (fun c54 => ?_)
        · refine lv_aload_n hx hb dX6_put_98 rfl (lv_at hl 2 rfl) ?_
          refine rg_X6_X6_field C X dX6_put_99 ?_
          refine lv_iload hx hb dX6_put_102 (lv_at hl 0 rfl) ?_
          refine lv_aload_n hx hb dX6_put_104 rfl (lv_at hl 2 rfl) ?_
          refine lv_iload_n hx hb dX6_put_105 rfl (lv_at hl 3 rfl) ?_
          refine lv_iload hx hb dX6_put_106 (lv_at hl 6 rfl) ?_
          refine callVR (rest := [.int (((6 : Int32) * (fX6_held σ x1 x2)) + x3), .ref (a 2)]) C hA (wR_sh a cI cZ) X (kX6_held l D a cI cZ _ x1 x4 (in_reg c14)) (cwV 2 C.2.2.2.2.1 (gV wl_X6_163 wt_yX6_held ws_yX6_held wi_X6 wk_yX6_held) rfl rfl rfl hdX6_held ⟨Nat.le_of_ble_eq_true rfl, Nat.le_of_ble_eq_true rfl⟩) (ci := 6) (q0 := 0) rfl rfl rfl hl.1 rfl (Nat.le_of_ble_eq_true rfl) dX6_put_108 ⟨Nat.le_refl 0, Nat.le_refl 0⟩ (fun H locs X => ?_)
          refine rs_field (g := (upd (r_field σ) (ix (((6 : Int32) * (fX6_held σ x1 x2)) + x3)) (fX6_held σ x1 x4))) C X (ag_in hS c31).2 rfl dX6_put_111 (fun H locs X => ?_)
          refine lv_iconst (v := (1)) hx hb dX6_put_112 (by decide) ?_
          exact ret dX6_put_113 (pe_ (Eq.symm (Eq.trans (if_neg c5) (Eq.trans (if_neg c14) (Eq.trans (if_pos c31) (if_pos c54)))))) X
        · refine lv_aload_n hx hb dX6_put_57 rfl (lv_at hl 2 rfl) ?_
          refine rg_X6_X6_manner (v := (r_manner σ)) C X rfl dX6_put_58 ?_
          refine lv_iconst (v := (1)) hx hb dX6_put_61 (by decide) ?_
          refine lv_icmp_ne (tgt := 79) hx hb dX6_put_62 (by decide) (fun c62 => ?_) (fun c62 => ?_)
          · refine lv_aload_n hx hb dX6_put_79 rfl (lv_at hl 2 rfl) ?_
            refine rg_X6_X6_manner (v := (r_manner σ)) C X rfl dX6_put_80 ?_
            refine lv_iconst (v := (2)) hx hb dX6_put_83 (by decide) ?_
            refine lv_icmp_ne (tgt := 98) hx hb dX6_put_84 (by decide) (fun c84 => ?_) (fun c84 => ?_)
            · refine lv_aload_n hx hb dX6_put_98 rfl (lv_at hl 2 rfl) ?_
              refine rg_X6_X6_field C X dX6_put_99 ?_
              refine lv_iload hx hb dX6_put_102 (lv_at hl 0 rfl) ?_
              refine lv_aload_n hx hb dX6_put_104 rfl (lv_at hl 2 rfl) ?_
              refine lv_iload_n hx hb dX6_put_105 rfl (lv_at hl 3 rfl) ?_
              refine lv_iload hx hb dX6_put_106 (lv_at hl 6 rfl) ?_
              refine callVR (rest := [.int (((6 : Int32) * (fX6_held σ x1 x2)) + x3), .ref (a 2)]) C hA (wR_sh a cI cZ) X (kX6_held l D a cI cZ _ x1 x4 (in_reg c14)) (cwV 2 C.2.2.2.2.1 (gV wl_X6_163 wt_yX6_held ws_yX6_held wi_X6 wk_yX6_held) rfl rfl rfl hdX6_held ⟨Nat.le_of_ble_eq_true rfl, Nat.le_of_ble_eq_true rfl⟩) (ci := 6) (q0 := 0) rfl rfl rfl hl.1 rfl (Nat.le_of_ble_eq_true rfl) dX6_put_108 ⟨Nat.le_refl 0, Nat.le_refl 0⟩ (fun H locs X => ?_)
              refine rs_field (g := (upd (r_field σ) (ix (((6 : Int32) * (fX6_held σ x1 x2)) + x3)) (fX6_held σ x1 x4))) C X (ag_in hS c31).2 rfl dX6_put_111 (fun H locs X => ?_)
              refine lv_iconst (v := (1)) hx hb dX6_put_112 (by decide) ?_
              exact ret dX6_put_113 (pe_ (Eq.symm (Eq.trans (if_neg c5) (Eq.trans (if_neg c14) (Eq.trans (if_pos c31) (Eq.trans (if_neg c54) (Eq.trans (if_neg c62) (if_neg c84)))))))) X
            · refine lv_aload_n hx hb dX6_put_87 rfl (lv_at hl 2 rfl) ?_
              refine lv_aload_n hx hb dX6_put_88 rfl (lv_at hl 2 rfl) ?_
              refine lv_iload_n hx hb dX6_put_89 rfl (lv_at hl 3 rfl) ?_
              refine lv_iload hx hb dX6_put_90 (lv_at hl 6 rfl) ?_
              refine callVR (rest := [.ref (a 0)]) C hA (wR_sh a cI cZ) X (kX6_held l D a cI cZ _ x1 x4 (in_reg c14)) (cwV 2 C.2.2.2.2.1 (gV wl_X6_163 wt_yX6_held ws_yX6_held wi_X6 wk_yX6_held) rfl rfl rfl hdX6_held ⟨Nat.le_of_ble_eq_true rfl, Nat.le_of_ble_eq_true rfl⟩) (ci := 6) (q0 := 0) rfl rfl rfl hl.1 rfl (Nat.le_of_ble_eq_true rfl) dX6_put_92 ⟨Nat.le_refl 0, Nat.le_refl 0⟩ (fun H locs X => ?_)
              refine callVU (rest := []) C hA (wR_sh a cI cZ) X (kX6_shade l D a cI cZ _ (fX6_held σ x1 x4) (vt_held hS _ _)) (cwV 1 C.2.2.2.2.1 (gV wl_X6_100 wt_yX6_shade ws_yX6_shade wi_X6 wk_yX6_shade) rfl rfl rfl hdX6_shade ⟨Nat.le_of_ble_eq_true rfl, Nat.le_of_ble_eq_true rfl⟩) (ci := 6) (q0 := 0) rfl rfl rfl hl.1 rfl (Nat.le_of_ble_eq_true rfl) dX6_put_95 ⟨Nat.le_refl 0, Nat.le_refl 0⟩ (fun H locs X => ?_)
              refine lv_aload_n hx hb dX6_put_98 rfl (lv_at hl 2 rfl) ?_
              refine rg_X6_X6_field C X dX6_put_99 ?_
              refine lv_iload hx hb dX6_put_102 (lv_at hl 0 rfl) ?_
              refine lv_aload_n hx hb dX6_put_104 rfl (lv_at hl 2 rfl) ?_
              refine lv_iload_n hx hb dX6_put_105 rfl (lv_at hl 3 rfl) ?_
              refine lv_iload hx hb dX6_put_106 (lv_at hl 6 rfl) ?_
              refine callVR (rest := [.int (((6 : Int32) * (fX6_held σ x1 x2)) + x3), .ref (a 2)]) C hA (wR_sh a cI cZ) X (kX6_held l D a cI cZ _ x1 x4 (in_reg c14)) (cwV 2 C.2.2.2.2.1 (gV wl_X6_163 wt_yX6_held ws_yX6_held wi_X6 wk_yX6_held) rfl rfl rfl hdX6_held ⟨Nat.le_of_ble_eq_true rfl, Nat.le_of_ble_eq_true rfl⟩) (ci := 6) (q0 := 0) rfl rfl rfl hl.1 rfl (Nat.le_of_ble_eq_true rfl) dX6_put_108 ⟨Nat.le_refl 0, Nat.le_refl 0⟩ (fun H locs X => ?_)
              refine rs_field (g := (upd (r_field (fX6_shade σ (fX6_held σ x1 x4))) (ix (((6 : Int32) * (fX6_held σ x1 x2)) + x3)) (fX6_held (fX6_shade σ (fX6_held σ x1 x4)) x1 x4))) C X (ag_in hS c31).2 rfl dX6_put_111 (fun H locs X => ?_)
              refine lv_iconst (v := (1)) hx hb dX6_put_112 (by decide) ?_
              exact ret dX6_put_113 (pe_ (Eq.symm (Eq.trans (if_neg c5) (Eq.trans (if_neg c14) (Eq.trans (if_pos c31) (Eq.trans (if_neg c54) (Eq.trans (if_neg c62) (if_pos c84)))))))) X
          · refine lv_aload_n hx hb dX6_put_65 rfl (lv_at hl 2 rfl) ?_
            refine lv_aload_n hx hb dX6_put_66 rfl (lv_at hl 2 rfl) ?_
            refine rg_X6_X6_field C X dX6_put_67 ?_
            refine lv_iload hx hb dX6_put_70 (lv_at hl 0 rfl) ?_
            refine ra_field (v := ((r_field σ) (ix (((6 : Int32) * (fX6_held σ x1 x2)) + x3)))) C X (ag_in hS c31).2 rfl dX6_put_72 ?_
            refine callVU (rest := []) C hA (wR_sh a cI cZ) X (kX6_shade l D a cI cZ _ ((r_field σ) (ix (((6 : Int32) * (fX6_held σ x1 x2)) + x3))) (s0_field hS _)) (cwV 1 C.2.2.2.2.1 (gV wl_X6_100 wt_yX6_shade ws_yX6_shade wi_X6 wk_yX6_shade) rfl rfl rfl hdX6_shade ⟨Nat.le_of_ble_eq_true rfl, Nat.le_of_ble_eq_true rfl⟩) (ci := 6) (q0 := 0) rfl rfl rfl hl.1 rfl (Nat.le_of_ble_eq_true rfl) dX6_put_73 ⟨Nat.le_refl 0, Nat.le_refl 0⟩ (fun H locs X => ?_)
            refine lv_goto (tgt := 98) hx hb dX6_put_76 (by decide) ?_
            refine lv_aload_n hx hb dX6_put_98 rfl (lv_at hl 2 rfl) ?_
            refine rg_X6_X6_field C X dX6_put_99 ?_
            refine lv_iload hx hb dX6_put_102 (lv_at hl 0 rfl) ?_
            refine lv_aload_n hx hb dX6_put_104 rfl (lv_at hl 2 rfl) ?_
            refine lv_iload_n hx hb dX6_put_105 rfl (lv_at hl 3 rfl) ?_
            refine lv_iload hx hb dX6_put_106 (lv_at hl 6 rfl) ?_
            refine callVR (rest := [.int (((6 : Int32) * (fX6_held σ x1 x2)) + x3), .ref (a 2)]) C hA (wR_sh a cI cZ) X (kX6_held l D a cI cZ _ x1 x4 (in_reg c14)) (cwV 2 C.2.2.2.2.1 (gV wl_X6_163 wt_yX6_held ws_yX6_held wi_X6 wk_yX6_held) rfl rfl rfl hdX6_held ⟨Nat.le_of_ble_eq_true rfl, Nat.le_of_ble_eq_true rfl⟩) (ci := 6) (q0 := 0) rfl rfl rfl hl.1 rfl (Nat.le_of_ble_eq_true rfl) dX6_put_108 ⟨Nat.le_refl 0, Nat.le_refl 0⟩ (fun H locs X => ?_)
            refine rs_field (g := (upd (r_field (fX6_shade σ ((r_field σ) (ix (((6 : Int32) * (fX6_held σ x1 x2)) + x3))))) (ix (((6 : Int32) * (fX6_held σ x1 x2)) + x3)) (fX6_held (fX6_shade σ ((r_field σ) (ix (((6 : Int32) * (fX6_held σ x1 x2)) + x3)))) x1 x4))) C X (ag_in hS c31).2 rfl dX6_put_111 (fun H locs X => ?_)
            refine lv_iconst (v := (1)) hx hb dX6_put_112 (by decide) ?_
            exact ret dX6_put_113 (pe_ (Eq.symm (Eq.trans (if_neg c5) (Eq.trans (if_neg c14) (Eq.trans (if_pos c31) (Eq.trans (if_neg c54) (if_pos c62))))))) X
      · refine lv_iload hx hb dX6_put_34 (lv_at hl 0 rfl) ?_
        exact ret dX6_put_36 (pe_ (Eq.symm (Eq.trans (if_neg c5) (Eq.trans (if_neg c14) (if_neg c31))))) X
    · refine lv_bipush (v := (-2)) hx hb dX6_put_17 (by decide) ?_
      exact ret dX6_put_19 (pe_ (Eq.symm (Eq.trans (if_neg c5) (if_pos c14)))) X
def fX6_drop (σ : RSt) (x1 : Int32) (x2 : Int32) : Int32 × RSt := (if (fX6_isRegister σ x1 x2) = (0 : Int32) then ((-2 : Int32), σ) else ((fX6_held σ x1 x2), (fX6_holds σ x1 x2 (-1 : Int32)).2))
theorem hdX6_drop : yX6_drop.cls = RX6 ∧ yX6_drop.cls ≠ "java/lang/invoke/MethodHandle" ∧ yX6_drop.cls ≠ "java/lang/invoke/VarHandle" ∧ (parseMethodDescriptor yX6_drop.desc).map (fun d => d.parameters.length) = some 2 := by decide +kernel
set_option maxHeartbeats 250000 in
set_option maxRecDepth 100000 in
theorem kX6_drop (l : Launch) (D : va_G) (a : Nat → Nat) (cI cZ : ClassId) (σ : RSt) (x1 : Int32) (x2 : Int32) : CR l D (tyIZ cI cZ) (wR a cI cZ) yX6_drop cX6_drop 4 .int (rmk 2 43) [.ref (a 0), .int x1, .int x2] σ (fX6_drop σ x1 x2).1 (fX6_drop σ x1 x2).2 := by
  refine CR.of pnX6 ⟨rfl, rfl⟩ (Nat.le_of_ble_eq_true rfl) rfl (fun p e s m args below meth c A Q ls C X hA hl ret => ?_)
  have C : Cx p s m args meth c cX6_drop 4 RX6 D (tyIZ cI cZ) := C
  have hx := C.1
  have hb := C.2.1
  have hl : lv_has ls 4 [(0, .ref (a 0)), (1, .int x1), (2, .int x2)] := hl
  refine lv_iload_n hx hb dX6_drop_0 rfl (lv_at hl 1 rfl) ?_
  refine lv_iload_n hx hb dX6_drop_1 rfl (lv_at hl 2 rfl) ?_
  refine callSR (rest := []) C hA (wR_sh a cI cZ) X (kX6_isRegister l D a cI cZ _ x1 x2) (cwS 2 C.2.2.2.2.1 (gS wl_X6_152 wz_yX6_isRegister wi_X6 wk_yX6_isRegister) rfl rfl rfl hdX6_isRegister ⟨Nat.le_of_ble_eq_true rfl, Nat.le_of_ble_eq_true rfl⟩) rfl hl.1 rfl (Nat.le_of_ble_eq_true rfl) dX6_drop_2 ⟨Nat.le_refl 0, Nat.le_refl 0⟩ (fun H locs X => ?_)
  refine lv_if_ne (tgt := 11) hx hb dX6_drop_5 (by decide) (fun c5 => ?_) (fun c5 => ?_)
  · refine lv_aload_n hx hb dX6_drop_11 rfl (lv_at hl 0 rfl) ?_
    refine lv_iload_n hx hb dX6_drop_12 rfl (lv_at hl 1 rfl) ?_
    refine lv_iload_n hx hb dX6_drop_13 rfl (lv_at hl 2 rfl) ?_
    refine callVR (rest := []) C hA (wR_sh a cI cZ) X (kX6_held l D a cI cZ _ x1 x2 (in_reg c5)) (cwV 2 C.2.2.2.2.1 (gV wl_X6_163 wt_yX6_held ws_yX6_held wi_X6 wk_yX6_held) rfl rfl rfl hdX6_held ⟨Nat.le_of_ble_eq_true rfl, Nat.le_of_ble_eq_true rfl⟩) (ci := 6) (q0 := 0) rfl rfl rfl hl.1 rfl (Nat.le_of_ble_eq_true rfl) dX6_drop_14 ⟨Nat.le_refl 0, Nat.le_refl 0⟩ (fun H locs X => ?_)
    refine lv_istore_n (lv' := [(3, .int (fX6_held σ x1 x2)), (0, .ref (a 0)), (1, .int x1), (2, .int x2)]) hx hb dX6_drop_17 rfl hl (by decide) rfl (fun ls hl => ?_)
    refine lv_aload_n hx hb dX6_drop_18 rfl (lv_at hl 1 rfl) ?_
    refine lv_iload_n hx hb dX6_drop_19 rfl (lv_at hl 2 rfl) ?_
    refine lv_iload_n hx hb dX6_drop_20 rfl (lv_at hl 3 rfl) ?_
    refine lv_iconst (v := (-1)) hx hb dX6_drop_21 (by decide) ?_
    refine callVR (rest := []) C hA (wR_sh a cI cZ) X (kX6_holds l D a cI cZ _ x1 x2 (-1 : Int32) (in_reg c5)) (cwV 3 C.2.2.2.2.1 (gV wl_X6_159 wt_yX6_holds ws_yX6_holds wi_X6 wk_yX6_holds) rfl rfl rfl hdX6_holds ⟨Nat.le_of_ble_eq_true rfl, Nat.le_of_ble_eq_true rfl⟩) (ci := 6) (q0 := 0) rfl rfl rfl hl.1 rfl (Nat.le_of_ble_eq_true rfl) dX6_drop_22 ⟨Nat.le_refl 0, Nat.le_refl 0⟩ (fun H locs X => ?_)
    refine lv_pop hx hb dX6_drop_25 rfl ?_
    refine lv_iload_n hx hb dX6_drop_26 rfl (lv_at hl 0 rfl) ?_
    exact ret dX6_drop_27 (pe_ (Eq.symm (if_neg c5))) X
  · refine lv_bipush (v := (-2)) hx hb dX6_drop_8 (by decide) ?_
    exact ret dX6_drop_10 (pe_ (Eq.symm (if_pos c5))) X
def fX6_store (σ : RSt) (x1 : Int32) (x2 : Int32) (x3 : Int32) : Int32 × RSt := (if (fX6_in σ x1 (0 : Int32) (3 : Int32)) = (0 : Int32) then ((-2 : Int32), σ) else (if (fX6_isRegister σ x2 x3) = (0 : Int32) then ((-2 : Int32), σ) else (((r_slot σ) (ix x1)), (r_slot_s σ (upd (r_slot σ) (ix x1) (fX6_held σ x2 x3))))))
theorem hdX6_store : yX6_store.cls = RX6 ∧ yX6_store.cls ≠ "java/lang/invoke/MethodHandle" ∧ yX6_store.cls ≠ "java/lang/invoke/VarHandle" ∧ (parseMethodDescriptor yX6_store.desc).map (fun d => d.parameters.length) = some 3 := by decide +kernel
set_option maxHeartbeats 250000 in
set_option maxRecDepth 100000 in
theorem kX6_store (l : Launch) (D : va_G) (a : Nat → Nat) (cI cZ : ClassId) (σ : RSt) (x1 : Int32) (x2 : Int32) (x3 : Int32) : CR l D (tyIZ cI cZ) (wR a cI cZ) yX6_store cX6_store 5 .int (rmk 2 43) [.ref (a 0), .int x1, .int x2, .int x3] σ (fX6_store σ x1 x2 x3).1 (fX6_store σ x1 x2 x3).2 := by
  refine CR.of pnX6 ⟨rfl, rfl⟩ (Nat.le_of_ble_eq_true rfl) rfl (fun p e s m args below meth c A Q ls C X hA hl ret => ?_)
  have C : Cx p s m args meth c cX6_store 5 RX6 D (tyIZ cI cZ) := C
  have hx := C.1
  have hb := C.2.1
  have hl : lv_has ls 5 [(0, .ref (a 0)), (1, .int x1), (2, .int x2), (3, .int x3)] := hl
  refine lv_iload_n hx hb dX6_store_0 rfl (lv_at hl 1 rfl) ?_
  refine lv_iconst (v := (0)) hx hb dX6_store_1 (by decide) ?_
  refine lv_iconst (v := (3)) hx hb dX6_store_2 (by decide) ?_
  refine callSR (rest := []) C hA (wR_sh a cI cZ) X (kX6_in l D a cI cZ _ x1 (0 : Int32) (3 : Int32)) (cwS 3 C.2.2.2.2.1 (gS wl_X6_90 wz_yX6_in wi_X6 wk_yX6_in) rfl rfl rfl hdX6_in ⟨Nat.le_of_ble_eq_true rfl, Nat.le_of_ble_eq_true rfl⟩) rfl hl.1 rfl (Nat.le_of_ble_eq_true rfl) dX6_store_3 ⟨Nat.le_refl 0, Nat.le_refl 0⟩ (fun H locs X => ?_)
  refine lv_if_eq (tgt := 17) hx hb dX6_store_6 (by decide) (fun c6 => ?_) (fun c6 => ?_)
  · refine lv_bipush (v := (-2)) hx hb dX6_store_17 (by decide) ?_
    exact ret dX6_store_19 (pe_ (Eq.symm (if_pos c6))) X
  · refine lv_iload_n hx hb dX6_store_9 rfl (lv_at hl 2 rfl) ?_
    refine lv_iload_n hx hb dX6_store_10 rfl (lv_at hl 3 rfl) ?_
    refine callSR (rest := []) C hA (wR_sh a cI cZ) X (kX6_isRegister l D a cI cZ _ x2 x3) (cwS 2 C.2.2.2.2.1 (gS wl_X6_152 wz_yX6_isRegister wi_X6 wk_yX6_isRegister) rfl rfl rfl hdX6_isRegister ⟨Nat.le_of_ble_eq_true rfl, Nat.le_of_ble_eq_true rfl⟩) rfl hl.1 rfl (Nat.le_of_ble_eq_true rfl) dX6_store_11 ⟨Nat.le_refl 0, Nat.le_refl 0⟩ (fun H locs X => ?_)
    refine lv_if_ne (tgt := 20) hx hb dX6_store_14 (by decide) (fun c14 => ?_) (fun c14 => ?_)
    · refine lv_aload_n hx hb dX6_store_20 rfl (lv_at hl 0 rfl) ?_
      refine rg_X6_X6_slot C X dX6_store_21 ?_
      refine lv_iload_n hx hb dX6_store_24 rfl (lv_at hl 1 rfl) ?_
      refine ra_slot (v := ((r_slot σ) (ix x1))) C X (in_inN c6 (by decide)) rfl dX6_store_25 ?_
      refine lv_istore (lv' := [(4, .int ((r_slot σ) (ix x1))), (0, .ref (a 0)), (1, .int x1), (2, .int x2), (3, .int x3)]) hx hb dX6_store_26 hl (by decide) rfl (fun ls hl => ?_)
      refine lv_aload_n hx hb dX6_store_28 rfl (lv_at hl 1 rfl) ?_
      refine rg_X6_X6_slot C X dX6_store_29 ?_
      refine lv_iload_n hx hb dX6_store_32 rfl (lv_at hl 2 rfl) ?_
      refine lv_aload_n hx hb dX6_store_33 rfl (lv_at hl 1 rfl) ?_
      refine lv_iload_n hx hb dX6_store_34 rfl (lv_at hl 3 rfl) ?_
      refine lv_iload_n hx hb dX6_store_35 rfl (lv_at hl 4 rfl) ?_
      refine callVR (rest := [.int x1, .ref (a 9)]) C hA (wR_sh a cI cZ) X (kX6_held l D a cI cZ _ x2 x3 (in_reg c14)) (cwV 2 C.2.2.2.2.1 (gV wl_X6_163 wt_yX6_held ws_yX6_held wi_X6 wk_yX6_held) rfl rfl rfl hdX6_held ⟨Nat.le_of_ble_eq_true rfl, Nat.le_of_ble_eq_true rfl⟩) (ci := 6) (q0 := 0) rfl rfl rfl hl.1 rfl (Nat.le_of_ble_eq_true rfl) dX6_store_36 ⟨Nat.le_refl 0, Nat.le_refl 0⟩ (fun H locs X => ?_)
      refine rs_slot (g := (upd (r_slot σ) (ix x1) (fX6_held σ x2 x3))) C X (in_inN c6 (by decide)) rfl dX6_store_39 (fun H locs X => ?_)
      refine lv_iload hx hb dX6_store_40 (lv_at hl 0 rfl) ?_
      exact ret dX6_store_42 (pe_ (Eq.symm (Eq.trans (if_neg c6) (if_neg c14)))) X
    · refine lv_bipush (v := (-2)) hx hb dX6_store_17 (by decide) ?_
      exact ret dX6_store_19 (pe_ (Eq.symm (Eq.trans (if_neg c6) (if_pos c14)))) X
def fX6_load (σ : RSt) (x1 : Int32) (x2 : Int32) (x3 : Int32) : Int32 × RSt := (if (fX6_in σ x3 (0 : Int32) (3 : Int32)) = (0 : Int32) then ((-2 : Int32), σ) else (if (fX6_isRegister σ x1 x2) = (0 : Int32) then ((-2 : Int32), σ) else ((fX6_holds σ x1 x2 ((r_slot σ) (ix x3))).1, (fX6_holds σ x1 x2 ((r_slot σ) (ix x3))).2)))
theorem hdX6_load : yX6_load.cls = RX6 ∧ yX6_load.cls ≠ "java/lang/invoke/MethodHandle" ∧ yX6_load.cls ≠ "java/lang/invoke/VarHandle" ∧ (parseMethodDescriptor yX6_load.desc).map (fun d => d.parameters.length) = some 3 := by decide +kernel
set_option maxHeartbeats 250000 in
set_option maxRecDepth 100000 in
theorem kX6_load (l : Launch) (D : va_G) (a : Nat → Nat) (cI cZ : ClassId) (σ : RSt) (x1 : Int32) (x2 : Int32) (x3 : Int32) : CR l D (tyIZ cI cZ) (wR a cI cZ) yX6_load cX6_load 4 .int (rmk 2 43) [.ref (a 0), .int x1, .int x2, .int x3] σ (fX6_load σ x1 x2 x3).1 (fX6_load σ x1 x2 x3).2 := by
  refine CR.of pnX6 ⟨rfl, rfl⟩ (Nat.le_of_ble_eq_true rfl) rfl (fun p e s m args below meth c A Q ls C X hA hl ret => ?_)
  have C : Cx p s m args meth c cX6_load 4 RX6 D (tyIZ cI cZ) := C
  have hx := C.1
  have hb := C.2.1
  have hl : lv_has ls 4 [(0, .ref (a 0)), (1, .int x1), (2, .int x2), (3, .int x3)] := hl
  refine lv_iload_n hx hb dX6_load_0 rfl (lv_at hl 3 rfl) ?_
  refine lv_iconst (v := (0)) hx hb dX6_load_1 (by decide) ?_
  refine lv_iconst (v := (3)) hx hb dX6_load_2 (by decide) ?_
  refine callSR (rest := []) C hA (wR_sh a cI cZ) X (kX6_in l D a cI cZ _ x3 (0 : Int32) (3 : Int32)) (cwS 3 C.2.2.2.2.1 (gS wl_X6_90 wz_yX6_in wi_X6 wk_yX6_in) rfl rfl rfl hdX6_in ⟨Nat.le_of_ble_eq_true rfl, Nat.le_of_ble_eq_true rfl⟩) rfl hl.1 rfl (Nat.le_of_ble_eq_true rfl) dX6_load_3 ⟨Nat.le_refl 0, Nat.le_refl 0⟩ (fun H locs X => ?_)
  refine lv_if_eq (tgt := 17) hx hb dX6_load_6 (by decide) (fun c6 => ?_) (fun c6 => ?_)
  · refine lv_bipush (v := (-2)) hx hb dX6_load_17 (by decide) ?_
    refine lv_goto (tgt := 34) hx hb dX6_load_19 (by decide) ?_
    exact ret dX6_load_34 (pe_ (Eq.symm (if_pos c6))) X
  · refine lv_iload_n hx hb dX6_load_9 rfl (lv_at hl 1 rfl) ?_
    refine lv_iload_n hx hb dX6_load_10 rfl (lv_at hl 2 rfl) ?_
    refine callSR (rest := []) C hA (wR_sh a cI cZ) X (kX6_isRegister l D a cI cZ _ x1 x2) (cwS 2 C.2.2.2.2.1 (gS wl_X6_152 wz_yX6_isRegister wi_X6 wk_yX6_isRegister) rfl rfl rfl hdX6_isRegister ⟨Nat.le_of_ble_eq_true rfl, Nat.le_of_ble_eq_true rfl⟩) rfl hl.1 rfl (Nat.le_of_ble_eq_true rfl) dX6_load_11 ⟨Nat.le_refl 0, Nat.le_refl 0⟩ (fun H locs X => ?_)
    refine lv_if_ne (tgt := 22) hx hb dX6_load_14 (by decide) (fun c14 => ?_) (fun c14 => ?_)
    · refine lv_aload_n hx hb dX6_load_22 rfl (lv_at hl 0 rfl) ?_
      refine lv_iload_n hx hb dX6_load_23 rfl (lv_at hl 1 rfl) ?_
      refine lv_iload_n hx hb dX6_load_24 rfl (lv_at hl 2 rfl) ?_
      refine lv_aload_n hx hb dX6_load_25 rfl (lv_at hl 0 rfl) ?_
      refine rg_X6_X6_slot C X dX6_load_26 ?_
      refine lv_iload_n hx hb dX6_load_29 rfl (lv_at hl 3 rfl) ?_
      refine ra_slot (v := ((r_slot σ) (ix x3))) C X (in_inN c6 (by decide)) rfl dX6_load_30 ?_
      refine callVR (rest := []) C hA (wR_sh a cI cZ) X (kX6_holds l D a cI cZ _ x1 x2 ((r_slot σ) (ix x3)) (in_reg c14)) (cwV 3 C.2.2.2.2.1 (gV wl_X6_159 wt_yX6_holds ws_yX6_holds wi_X6 wk_yX6_holds) rfl rfl rfl hdX6_holds ⟨Nat.le_of_ble_eq_true rfl, Nat.le_of_ble_eq_true rfl⟩) (ci := 6) (q0 := 0) rfl rfl rfl hl.1 rfl (Nat.le_of_ble_eq_true rfl) dX6_load_31 ⟨Nat.le_refl 0, Nat.le_refl 0⟩ (fun H locs X => ?_)
      exact ret dX6_load_34 (pe_ (Eq.symm (Eq.trans (if_neg c6) (if_neg c14)))) X
    · refine lv_bipush (v := (-2)) hx hb dX6_load_17 (by decide) ?_
      refine lv_goto (tgt := 34) hx hb dX6_load_19 (by decide) ?_
      exact ret dX6_load_34 (pe_ (Eq.symm (Eq.trans (if_neg c6) (if_pos c14)))) X
def fX6_same (σ : RSt) (x1 : Int32) (x2 : Int32) (x3 : Int32) (x4 : Int32) : Int32 := (if (fX6_isRegister σ x1 x2) = (0 : Int32) then (-2 : Int32) else (if (fX6_isRegister σ x3 x4) = (0 : Int32) then (-2 : Int32) else (if (fX6_held σ x1 x2) = (fX6_held σ x3 x4) then (1 : Int32) else (0 : Int32))))
theorem hdX6_same : yX6_same.cls = RX6 ∧ yX6_same.cls ≠ "java/lang/invoke/MethodHandle" ∧ yX6_same.cls ≠ "java/lang/invoke/VarHandle" ∧ (parseMethodDescriptor yX6_same.desc).map (fun d => d.parameters.length) = some 4 := by decide +kernel
set_option maxHeartbeats 250000 in
set_option maxRecDepth 100000 in
theorem kX6_same (l : Launch) (D : va_G) (a : Nat → Nat) (cI cZ : ClassId) (σ : RSt) (x1 : Int32) (x2 : Int32) (x3 : Int32) (x4 : Int32) : CR l D (tyIZ cI cZ) (wR a cI cZ) yX6_same cX6_same 5 .int (rmk 2 43) [.ref (a 0), .int x1, .int x2, .int x3, .int x4] σ (fX6_same σ x1 x2 x3 x4) σ := by
  refine CR.of pnX6 ⟨rfl, rfl⟩ (Nat.le_of_ble_eq_true rfl) rfl (fun p e s m args below meth c A Q ls C X hA hl ret => ?_)
  have C : Cx p s m args meth c cX6_same 5 RX6 D (tyIZ cI cZ) := C
  have hx := C.1
  have hb := C.2.1
  have hl : lv_has ls 5 [(0, .ref (a 0)), (1, .int x1), (2, .int x2), (3, .int x3), (4, .int x4)] := hl
  refine lv_iload_n hx hb dX6_same_0 rfl (lv_at hl 1 rfl) ?_
  refine lv_iload_n hx hb dX6_same_1 rfl (lv_at hl 2 rfl) ?_
  refine callSR (rest := []) C hA (wR_sh a cI cZ) X (kX6_isRegister l D a cI cZ _ x1 x2) (cwS 2 C.2.2.2.2.1 (gS wl_X6_152 wz_yX6_isRegister wi_X6 wk_yX6_isRegister) rfl rfl rfl hdX6_isRegister ⟨Nat.le_of_ble_eq_true rfl, Nat.le_of_ble_eq_true rfl⟩) rfl hl.1 rfl (Nat.le_of_ble_eq_true rfl) dX6_same_2 ⟨Nat.le_refl 0, Nat.le_refl 0⟩ (fun H locs X => ?_)
  refine lv_if_eq (tgt := 17) hx hb dX6_same_5 (by decide) (fun c5 => ?_) (fun c5 => ?_)
  · refine lv_bipush (v := (-2)) hx hb dX6_same_17 (by decide) ?_
    refine lv_goto (tgt := 43) hx hb dX6_same_19 (by decide) ?_
    exact ret dX6_same_43 (congrArg (fun z => (z, _)) (Eq.symm (if_pos c5))) X
  · refine lv_iload_n hx hb dX6_same_8 rfl (lv_at hl 3 rfl) ?_
    refine lv_iload hx hb dX6_same_9 (lv_at hl 4 rfl) ?_
    refine callSR (rest := []) C hA (wR_sh a cI cZ) X (kX6_isRegister l D a cI cZ _ x3 x4) (cwS 2 C.2.2.2.2.1 (gS wl_X6_152 wz_yX6_isRegister wi_X6 wk_yX6_isRegister) rfl rfl rfl hdX6_isRegister ⟨Nat.le_of_ble_eq_true rfl, Nat.le_of_ble_eq_true rfl⟩) rfl hl.1 rfl (Nat.le_of_ble_eq_true rfl) dX6_same_11 ⟨Nat.le_refl 0, Nat.le_refl 0⟩ (fun H locs X => ?_)
    refine lv_if_ne (tgt := 22) hx hb dX6_same_14 (by decide) (fun c14 => ?_) (fun c14 => ?_)
    · refine lv_aload_n hx hb dX6_same_22 rfl (lv_at hl 0 rfl) ?_
      refine lv_iload_n hx hb dX6_same_23 rfl (lv_at hl 1 rfl) ?_
      refine lv_iload_n hx hb dX6_same_24 rfl (lv_at hl 2 rfl) ?_
      refine callVR (rest := []) C hA (wR_sh a cI cZ) X (kX6_held l D a cI cZ _ x1 x2 (in_reg c5)) (cwV 2 C.2.2.2.2.1 (gV wl_X6_163 wt_yX6_held ws_yX6_held wi_X6 wk_yX6_held) rfl rfl rfl hdX6_held ⟨Nat.le_of_ble_eq_true rfl, Nat.le_of_ble_eq_true rfl⟩) (ci := 6) (q0 := 0) rfl rfl rfl hl.1 rfl (Nat.le_of_ble_eq_true rfl) dX6_same_25 ⟨Nat.le_refl 0, Nat.le_refl 0⟩ (fun H locs X => ?_)
      refine lv_aload_n hx hb dX6_same_28 rfl (lv_at hl 0 rfl) ?_
      refine lv_iload_n hx hb dX6_same_29 rfl (lv_at hl 3 rfl) ?_
      refine lv_iload hx hb dX6_same_30 (lv_at hl 4 rfl) ?_
      refine callVR (rest := [.int (fX6_held σ x1 x2)]) C hA (wR_sh a cI cZ) X (kX6_held l D a cI cZ _ x3 x4 (in_reg c14)) (cwV 2 C.2.2.2.2.1 (gV wl_X6_163 wt_yX6_held ws_yX6_held wi_X6 wk_yX6_held) rfl rfl rfl hdX6_held ⟨Nat.le_of_ble_eq_true rfl, Nat.le_of_ble_eq_true rfl⟩) (ci := 6) (q0 := 0) rfl rfl rfl hl.1 rfl (Nat.le_of_ble_eq_true rfl) dX6_same_32 ⟨Nat.le_refl 0, Nat.le_refl 0⟩ (fun H locs X => ?_)
      refine lv_icmp_ne (tgt := 42) hx hb dX6_same_35 (by decide) (fun c35 => ?_) (fun c35 => ?_)
      · refine lv_iconst (v := (0)) hx hb dX6_same_42 (by decide) ?_
        exact ret dX6_same_43 (congrArg (fun z => (z, _)) (Eq.symm (Eq.trans (if_neg c5) (Eq.trans (if_neg c14) (if_neg c35))))) X
      · refine lv_iconst (v := (1)) hx hb dX6_same_38 (by decide) ?_
        refine lv_goto (tgt := 43) hx hb dX6_same_39 (by decide) ?_
        exact ret dX6_same_43 (congrArg (fun z => (z, _)) (Eq.symm (Eq.trans (if_neg c5) (Eq.trans (if_neg c14) (if_pos c35))))) X
    · refine lv_bipush (v := (-2)) hx hb dX6_same_17 (by decide) ?_
      refine lv_goto (tgt := 43) hx hb dX6_same_19 (by decide) ?_
      exact ret dX6_same_43 (congrArg (fun z => (z, _)) (Eq.symm (Eq.trans (if_neg c5) (if_pos c14)))) X
def fX6_weak (σ : RSt) (x1 : Int32) (x2 : Int32) (x3 : Int32) : Int32 × RSt := (if (fX6_in σ x1 (0 : Int32) (5 : Int32)) = (0 : Int32) then ((-2 : Int32), σ) else (if (fX6_isRegister σ x2 x3) = (0 : Int32) then ((-2 : Int32), σ) else (if (fX6_held σ x2 x3) = (-1 : Int32) then ((-3 : Int32), σ) else ((1 : Int32), (r_weakAt_s σ (upd (r_weakAt σ) (ix x1) (fX6_held σ x2 x3)))))))
theorem hdX6_weak : yX6_weak.cls = RX6 ∧ yX6_weak.cls ≠ "java/lang/invoke/MethodHandle" ∧ yX6_weak.cls ≠ "java/lang/invoke/VarHandle" ∧ (parseMethodDescriptor yX6_weak.desc).map (fun d => d.parameters.length) = some 3 := by decide +kernel
set_option maxHeartbeats 250000 in
set_option maxRecDepth 100000 in
theorem kX6_weak (l : Launch) (D : va_G) (a : Nat → Nat) (cI cZ : ClassId) (σ : RSt) (x1 : Int32) (x2 : Int32) (x3 : Int32) : CR l D (tyIZ cI cZ) (wR a cI cZ) yX6_weak cX6_weak 4 .int (rmk 2 43) [.ref (a 0), .int x1, .int x2, .int x3] σ (fX6_weak σ x1 x2 x3).1 (fX6_weak σ x1 x2 x3).2 := by
  refine CR.of pnX6 ⟨rfl, rfl⟩ (Nat.le_of_ble_eq_true rfl) rfl (fun p e s m args below meth c A Q ls C X hA hl ret => ?_)
  have C : Cx p s m args meth c cX6_weak 4 RX6 D (tyIZ cI cZ) := C
  have hx := C.1
  have hb := C.2.1
  have hl : lv_has ls 4 [(0, .ref (a 0)), (1, .int x1), (2, .int x2), (3, .int x3)] := hl
  refine lv_iload_n hx hb dX6_weak_0 rfl (lv_at hl 1 rfl) ?_
  refine lv_iconst (v := (0)) hx hb dX6_weak_1 (by decide) ?_
  refine lv_iconst (v := (5)) hx hb dX6_weak_2 (by decide) ?_
  refine callSR (rest := []) C hA (wR_sh a cI cZ) X (kX6_in l D a cI cZ _ x1 (0 : Int32) (5 : Int32)) (cwS 3 C.2.2.2.2.1 (gS wl_X6_90 wz_yX6_in wi_X6 wk_yX6_in) rfl rfl rfl hdX6_in ⟨Nat.le_of_ble_eq_true rfl, Nat.le_of_ble_eq_true rfl⟩) rfl hl.1 rfl (Nat.le_of_ble_eq_true rfl) dX6_weak_3 ⟨Nat.le_refl 0, Nat.le_refl 0⟩ (fun H locs X => ?_)
  refine lv_if_eq (tgt := 17) hx hb dX6_weak_6 (by decide) (fun c6 => ?_) (fun c6 => ?_)
  · refine lv_bipush (v := (-2)) hx hb dX6_weak_17 (by decide) ?_
    exact ret dX6_weak_19 (pe_ (Eq.symm (if_pos c6))) X
  · refine lv_iload_n hx hb dX6_weak_9 rfl (lv_at hl 2 rfl) ?_
    refine lv_iload_n hx hb dX6_weak_10 rfl (lv_at hl 3 rfl) ?_
    refine callSR (rest := []) C hA (wR_sh a cI cZ) X (kX6_isRegister l D a cI cZ _ x2 x3) (cwS 2 C.2.2.2.2.1 (gS wl_X6_152 wz_yX6_isRegister wi_X6 wk_yX6_isRegister) rfl rfl rfl hdX6_isRegister ⟨Nat.le_of_ble_eq_true rfl, Nat.le_of_ble_eq_true rfl⟩) rfl hl.1 rfl (Nat.le_of_ble_eq_true rfl) dX6_weak_11 ⟨Nat.le_refl 0, Nat.le_refl 0⟩ (fun H locs X => ?_)
    refine lv_if_ne (tgt := 20) hx hb dX6_weak_14 (by decide) (fun c14 => ?_) (fun c14 => ?_)
    · refine lv_aload_n hx hb dX6_weak_20 rfl (lv_at hl 0 rfl) ?_
      refine lv_iload_n hx hb dX6_weak_21 rfl (lv_at hl 2 rfl) ?_
      refine lv_iload_n hx hb dX6_weak_22 rfl (lv_at hl 3 rfl) ?_
      refine callVR (rest := []) C hA (wR_sh a cI cZ) X (kX6_held l D a cI cZ _ x2 x3 (in_reg c14)) (cwV 2 C.2.2.2.2.1 (gV wl_X6_163 wt_yX6_held ws_yX6_held wi_X6 wk_yX6_held) rfl rfl rfl hdX6_held ⟨Nat.le_of_ble_eq_true rfl, Nat.le_of_ble_eq_true rfl⟩) (ci := 6) (q0 := 0) rfl rfl rfl hl.1 rfl (Nat.le_of_ble_eq_true rfl) dX6_weak_23 ⟨Nat.le_refl 0, Nat.le_refl 0⟩ (fun H locs X => ?_)
      refine lv_iconst (v := (-1)) hx hb dX6_weak_26 (by decide) ?_
      refine lv_icmp_ne (tgt := 33) hx hb dX6_weak_27 (by decide) (fun c27 => ?_) (fun c27 => ?_)
      · refine lv_aload_n hx hb dX6_weak_33 rfl (lv_at hl 0 rfl) ?_
        refine rg_X6_X6_weakAt C X dX6_weak_34 ?_
        refine lv_iload_n hx hb dX6_weak_37 rfl (lv_at hl 1 rfl) ?_
        refine lv_aload_n hx hb dX6_weak_38 rfl (lv_at hl 0 rfl) ?_
        refine lv_iload_n hx hb dX6_weak_39 rfl (lv_at hl 2 rfl) ?_
        refine lv_iload_n hx hb dX6_weak_40 rfl (lv_at hl 3 rfl) ?_
        refine callVR (rest := [.int x1, .ref (a 11)]) C hA (wR_sh a cI cZ) X (kX6_held l D a cI cZ _ x2 x3 (in_reg c14)) (cwV 2 C.2.2.2.2.1 (gV wl_X6_163 wt_yX6_held ws_yX6_held wi_X6 wk_yX6_held) rfl rfl rfl hdX6_held ⟨Nat.le_of_ble_eq_true rfl, Nat.le_of_ble_eq_true rfl⟩) (ci := 6) (q0 := 0) rfl rfl rfl hl.1 rfl (Nat.le_of_ble_eq_true rfl) dX6_weak_41 ⟨Nat.le_refl 0, Nat.le_refl 0⟩ (fun H locs X => ?_)
        refine rs_weakAt (g := (upd (r_weakAt σ) (ix x1) (fX6_held σ x2 x3))) C X (in_inN c6 (by decide)) rfl dX6_weak_44 (fun H locs X => ?_)
        refine lv_iconst (v := (1)) hx hb dX6_weak_45 (by decide) ?_
        exact ret dX6_weak_46 (pe_ (Eq.symm (Eq.trans (if_neg c6) (Eq.trans (if_neg c14) (if_neg c27))))) X
      · refine lv_bipush (v := (-3)) hx hb dX6_weak_30 (by decide) ?_
        exact ret dX6_weak_32 (pe_ (Eq.symm (Eq.trans (if_neg c6) (Eq.trans (if_neg c14) (if_pos c27))))) X
    · refine lv_bipush (v := (-2)) hx hb dX6_weak_17 (by decide) ?_
      exact ret dX6_weak_19 (pe_ (Eq.symm (Eq.trans (if_neg c6) (if_pos c14)))) X
def fX6_notesRead (σ : RSt) (x1 : Int32) : RSt := (if (r_manner σ) = (1 : Int32) then (if (fX6_notes σ) = (0 : Int32) then σ else (fX6_shade σ x1)) else (if (r_manner σ) = (3 : Int32) then (if (fX6_notes σ) = (0 : Int32) then σ else (fX6_shade σ x1)) else σ))
theorem hdX6_notesRead : yX6_notesRead.cls = RX6 ∧ yX6_notesRead.cls ≠ "java/lang/invoke/MethodHandle" ∧ yX6_notesRead.cls ≠ "java/lang/invoke/VarHandle" ∧ (parseMethodDescriptor yX6_notesRead.desc).map (fun d => d.parameters.length) = some 1 := by decide +kernel
set_option maxHeartbeats 250000 in
set_option maxRecDepth 100000 in
theorem kX6_notesRead (l : Launch) (D : va_G) (a : Nat → Nat) (cI cZ : ClassId) (σ : RSt) (x1 : Int32) (hv : VT x1) : CU l D (tyIZ cI cZ) (wR a cI cZ) yX6_notesRead cX6_notesRead 2 (rmk 1 21) [.ref (a 0), .int x1] σ (fX6_notesRead σ x1) := by
  refine CU.of pnX6 ⟨rfl, rfl⟩ (Nat.le_of_ble_eq_true rfl) (fun p e s m args below meth c A Q ls C X hA hl ret => ?_)
  have C : Cx p s m args meth c cX6_notesRead 2 RX6 D (tyIZ cI cZ) := C
  have hx := C.1
  have hb := C.2.1
  have hl : lv_has ls 2 [(0, .ref (a 0)), (1, .int x1)] := hl
  refine lv_aload_n hx hb dX6_notesRead_0 rfl (lv_at hl 0 rfl) ?_
  refine rg_X6_X6_manner (v := (r_manner σ)) C X rfl dX6_notesRead_1 ?_
  refine lv_iconst (v := (1)) hx hb dX6_notesRead_4 (by decide) ?_
  refine lv_icmp_eq (tgt := 16) hx hb dX6_notesRead_5 (by decide) (fun c5 => ?_) (fun c5 => ?_)
  · refine lv_aload_n hx hb dX6_notesRead_16 rfl (lv_at hl 0 rfl) ?_
    refine callVR (rest := []) C hA (wR_sh a cI cZ) X (kX6_notes l D a cI cZ _ ) (cwV 0 C.2.2.2.2.1 (gV wl_X6_170 wt_yX6_notes ws_yX6_notes wi_X6 wk_yX6_notes) rfl rfl rfl hdX6_notes ⟨Nat.le_of_ble_eq_true rfl, Nat.le_of_ble_eq_true rfl⟩) (ci := 6) (q0 := 0) rfl rfl rfl hl.1 rfl (Nat.le_of_ble_eq_true rfl) dX6_notesRead_17 ⟨Nat.le_refl 0, Nat.le_refl 0⟩ (fun H locs X => ?_)
    refine lv_if_eq (tgt := 28) hx hb dX6_notesRead_20 (by decide) (fun c20 => ?_) (fun c20 => ?_)
    · exact ret dX6_notesRead_28 (Eq.symm (Eq.trans (if_pos c5) (if_pos c20))) X
    · refine lv_aload_n hx hb dX6_notesRead_23 rfl (lv_at hl 0 rfl) ?_
      refine lv_iload_n hx hb dX6_notesRead_24 rfl (lv_at hl 1 rfl) ?_
      refine callVU (rest := []) C hA (wR_sh a cI cZ) X (kX6_shade l D a cI cZ _ x1 hv) (cwV 1 C.2.2.2.2.1 (gV wl_X6_100 wt_yX6_shade ws_yX6_shade wi_X6 wk_yX6_shade) rfl rfl rfl hdX6_shade ⟨Nat.le_of_ble_eq_true rfl, Nat.le_of_ble_eq_true rfl⟩) (ci := 6) (q0 := 0) rfl rfl rfl hl.1 rfl (Nat.le_of_ble_eq_true rfl) dX6_notesRead_25 ⟨Nat.le_refl 0, Nat.le_refl 0⟩ (fun H locs X => ?_)
      exact ret dX6_notesRead_28 (Eq.symm (Eq.trans (if_pos c5) (if_neg c20))) X
  · refine lv_aload_n hx hb dX6_notesRead_8 rfl (lv_at hl 0 rfl) ?_
    refine rg_X6_X6_manner (v := (r_manner σ)) C X rfl dX6_notesRead_9 ?_
    refine lv_iconst (v := (3)) hx hb dX6_notesRead_12 (by decide) ?_
    refine lv_icmp_ne (tgt := 28) hx hb dX6_notesRead_13 (by decide) (fun c13 => ?_) (fun c13 => ?_)
    · exact ret dX6_notesRead_28 (Eq.symm (Eq.trans (if_neg c5) (if_neg c13))) X
    · refine lv_aload_n hx hb dX6_notesRead_16 rfl (lv_at hl 0 rfl) ?_
      refine callVR (rest := []) C hA (wR_sh a cI cZ) X (kX6_notes l D a cI cZ _ ) (cwV 0 C.2.2.2.2.1 (gV wl_X6_170 wt_yX6_notes ws_yX6_notes wi_X6 wk_yX6_notes) rfl rfl rfl hdX6_notes ⟨Nat.le_of_ble_eq_true rfl, Nat.le_of_ble_eq_true rfl⟩) (ci := 6) (q0 := 0) rfl rfl rfl hl.1 rfl (Nat.le_of_ble_eq_true rfl) dX6_notesRead_17 ⟨Nat.le_refl 0, Nat.le_refl 0⟩ (fun H locs X => ?_)
      refine lv_if_eq (tgt := 28) hx hb dX6_notesRead_20 (by decide) (fun c20 => ?_) (fun c20 => ?_)
      · exact ret dX6_notesRead_28 (Eq.symm (Eq.trans (if_neg c5) (Eq.trans (if_pos c13) (if_pos c20)))) X
      · refine lv_aload_n hx hb dX6_notesRead_23 rfl (lv_at hl 0 rfl) ?_
        refine lv_iload_n hx hb dX6_notesRead_24 rfl (lv_at hl 1 rfl) ?_
        refine callVU (rest := []) C hA (wR_sh a cI cZ) X (kX6_shade l D a cI cZ _ x1 hv) (cwV 1 C.2.2.2.2.1 (gV wl_X6_100 wt_yX6_shade ws_yX6_shade wi_X6 wk_yX6_shade) rfl rfl rfl hdX6_shade ⟨Nat.le_of_ble_eq_true rfl, Nat.le_of_ble_eq_true rfl⟩) (ci := 6) (q0 := 0) rfl rfl rfl hl.1 rfl (Nat.le_of_ble_eq_true rfl) dX6_notesRead_25 ⟨Nat.le_refl 0, Nat.le_refl 0⟩ (fun H locs X => ?_)
        exact ret dX6_notesRead_28 (Eq.symm (Eq.trans (if_neg c5) (Eq.trans (if_pos c13) (if_neg c20)))) X
def fX6_strong (σ : RSt) (x1 : Int32) (x2 : Int32) (x3 : Int32) : Int32 × RSt := (if (fX6_in σ x3 (0 : Int32) (5 : Int32)) = (0 : Int32) then ((-2 : Int32), σ) else (if (fX6_isRegister σ x1 x2) = (0 : Int32) then ((-2 : Int32), σ) else ((fX6_holds (fX6_notesRead σ ((r_weakAt σ) (ix x3))) x1 x2 ((r_weakAt (fX6_notesRead σ ((r_weakAt σ) (ix x3)))) (ix x3))).1, (fX6_holds (fX6_notesRead σ ((r_weakAt σ) (ix x3))) x1 x2 ((r_weakAt (fX6_notesRead σ ((r_weakAt σ) (ix x3)))) (ix x3))).2)))
theorem hdX6_strong : yX6_strong.cls = RX6 ∧ yX6_strong.cls ≠ "java/lang/invoke/MethodHandle" ∧ yX6_strong.cls ≠ "java/lang/invoke/VarHandle" ∧ (parseMethodDescriptor yX6_strong.desc).map (fun d => d.parameters.length) = some 3 := by decide +kernel
set_option maxHeartbeats 250000 in
set_option maxRecDepth 100000 in
theorem kX6_strong (l : Launch) (D : va_G) (a : Nat → Nat) (cI cZ : ClassId) (σ : RSt) (x1 : Int32) (x2 : Int32) (x3 : Int32) (hS : S0 σ) : CR l D (tyIZ cI cZ) (wR a cI cZ) yX6_strong cX6_strong 4 .int (rmk 2 43) [.ref (a 0), .int x1, .int x2, .int x3] σ (fX6_strong σ x1 x2 x3).1 (fX6_strong σ x1 x2 x3).2 := by
  refine CR.of pnX6 ⟨rfl, rfl⟩ (Nat.le_of_ble_eq_true rfl) rfl (fun p e s m args below meth c A Q ls C X hA hl ret => ?_)
  have C : Cx p s m args meth c cX6_strong 4 RX6 D (tyIZ cI cZ) := C
  have hx := C.1
  have hb := C.2.1
  have hl : lv_has ls 4 [(0, .ref (a 0)), (1, .int x1), (2, .int x2), (3, .int x3)] := hl
  refine lv_iload_n hx hb dX6_strong_0 rfl (lv_at hl 3 rfl) ?_
  refine lv_iconst (v := (0)) hx hb dX6_strong_1 (by decide) ?_
  refine lv_iconst (v := (5)) hx hb dX6_strong_2 (by decide) ?_
  refine callSR (rest := []) C hA (wR_sh a cI cZ) X (kX6_in l D a cI cZ _ x3 (0 : Int32) (5 : Int32)) (cwS 3 C.2.2.2.2.1 (gS wl_X6_90 wz_yX6_in wi_X6 wk_yX6_in) rfl rfl rfl hdX6_in ⟨Nat.le_of_ble_eq_true rfl, Nat.le_of_ble_eq_true rfl⟩) rfl hl.1 rfl (Nat.le_of_ble_eq_true rfl) dX6_strong_3 ⟨Nat.le_refl 0, Nat.le_refl 0⟩ (fun H locs X => ?_)
  refine lv_if_eq (tgt := 17) hx hb dX6_strong_6 (by decide) (fun c6 => ?_) (fun c6 => ?_)
  · refine lv_bipush (v := (-2)) hx hb dX6_strong_17 (by decide) ?_
    exact ret dX6_strong_19 (pe_ (Eq.symm (if_pos c6))) X
  · refine lv_iload_n hx hb dX6_strong_9 rfl (lv_at hl 1 rfl) ?_
    refine lv_iload_n hx hb dX6_strong_10 rfl (lv_at hl 2 rfl) ?_
    refine callSR (rest := []) C hA (wR_sh a cI cZ) X (kX6_isRegister l D a cI cZ _ x1 x2) (cwS 2 C.2.2.2.2.1 (gS wl_X6_152 wz_yX6_isRegister wi_X6 wk_yX6_isRegister) rfl rfl rfl hdX6_isRegister ⟨Nat.le_of_ble_eq_true rfl, Nat.le_of_ble_eq_true rfl⟩) rfl hl.1 rfl (Nat.le_of_ble_eq_true rfl) dX6_strong_11 ⟨Nat.le_refl 0, Nat.le_refl 0⟩ (fun H locs X => ?_)
    refine lv_if_ne (tgt := 20) hx hb dX6_strong_14 (by decide) (fun c14 => ?_) (fun c14 => ?_)
    · refine lv_aload_n hx hb dX6_strong_20 rfl (lv_at hl 0 rfl) ?_
      refine lv_aload_n hx hb dX6_strong_21 rfl (lv_at hl 0 rfl) ?_
      refine rg_X6_X6_weakAt C X dX6_strong_22 ?_
      refine lv_iload_n hx hb dX6_strong_25 rfl (lv_at hl 3 rfl) ?_
      refine ra_weakAt (v := ((r_weakAt σ) (ix x3))) C X (in_inN c6 (by decide)) rfl dX6_strong_26 ?_
      refine callVU (rest := []) C hA (wR_sh a cI cZ) X (kX6_notesRead l D a cI cZ _ ((r_weakAt σ) (ix x3)) (s0_weakAt hS _)) (cwV 1 C.2.2.2.2.1 (gV wl_X6_173 wt_yX6_notesRead ws_yX6_notesRead wi_X6 wk_yX6_notesRead) rfl rfl rfl hdX6_notesRead ⟨Nat.le_of_ble_eq_true rfl, Nat.le_of_ble_eq_true rfl⟩) (ci := 6) (q0 := 0) rfl rfl rfl hl.1 rfl (Nat.le_of_ble_eq_true rfl) dX6_strong_27 ⟨Nat.le_refl 0, Nat.le_refl 0⟩ (fun H locs X => ?_)
      refine lv_aload_n hx hb dX6_strong_30 rfl (lv_at hl 0 rfl) ?_
      refine lv_iload_n hx hb dX6_strong_31 rfl (lv_at hl 1 rfl) ?_
      refine lv_iload_n hx hb dX6_strong_32 rfl (lv_at hl 2 rfl) ?_
      refine lv_aload_n hx hb dX6_strong_33 rfl (lv_at hl 0 rfl) ?_
      refine rg_X6_X6_weakAt C X dX6_strong_34 ?_
      refine lv_iload_n hx hb dX6_strong_37 rfl (lv_at hl 3 rfl) ?_
      refine ra_weakAt (v := ((r_weakAt (fX6_notesRead σ ((r_weakAt σ) (ix x3)))) (ix x3))) C X (in_inN c6 (by decide)) rfl dX6_strong_38 ?_
      refine callVR (rest := []) C hA (wR_sh a cI cZ) X (kX6_holds l D a cI cZ _ x1 x2 ((r_weakAt (fX6_notesRead σ ((r_weakAt σ) (ix x3)))) (ix x3)) (in_reg c14)) (cwV 3 C.2.2.2.2.1 (gV wl_X6_159 wt_yX6_holds ws_yX6_holds wi_X6 wk_yX6_holds) rfl rfl rfl hdX6_holds ⟨Nat.le_of_ble_eq_true rfl, Nat.le_of_ble_eq_true rfl⟩) (ci := 6) (q0 := 0) rfl rfl rfl hl.1 rfl (Nat.le_of_ble_eq_true rfl) dX6_strong_39 ⟨Nat.le_refl 0, Nat.le_refl 0⟩ (fun H locs X => ?_)
      exact ret dX6_strong_42 (pe_ (Eq.symm (Eq.trans (if_neg c6) (if_neg c14)))) X
    · refine lv_bipush (v := (-2)) hx hb dX6_strong_17 (by decide) ?_
      exact ret dX6_strong_19 (pe_ (Eq.symm (Eq.trans (if_neg c6) (if_pos c14)))) X
def fX6_pair (σ : RSt) (x1 : Int32) (x2 : Int32) (x3 : Int32) : Int32 × RSt := (if (fX6_isRegister σ x1 x2) = (0 : Int32) then ((-2 : Int32), σ) else (if (fX6_isRegister σ x1 x3) = (0 : Int32) then ((-2 : Int32), σ) else (if (fX6_held σ x1 x2) = (-1 : Int32) then ((-3 : Int32), σ) else (if (fX6_held σ x1 x3) = (-1 : Int32) then ((-3 : Int32), σ) else (if (r_pairs σ) = (8 : Int32) then ((-4 : Int32), σ) else ((((r_pairs σ) + (1 : Int32)) - (1 : Int32)), (r_pairs_s (r_isPair_s (r_value_s (r_key_s σ (upd (r_key σ) (ix (r_pairs σ)) (fX6_held σ x1 x2))) (upd (r_value σ) (ix (r_pairs σ)) (fX6_held (r_key_s σ (upd (r_key σ) (ix (r_pairs σ)) (fX6_held σ x1 x2))) x1 x3))) (upd (r_isPair σ) (ix (r_pairs σ)) (1 : Int32))) ((r_pairs σ) + (1 : Int32)))))))))
theorem hdX6_pair : yX6_pair.cls = RX6 ∧ yX6_pair.cls ≠ "java/lang/invoke/MethodHandle" ∧ yX6_pair.cls ≠ "java/lang/invoke/VarHandle" ∧ (parseMethodDescriptor yX6_pair.desc).map (fun d => d.parameters.length) = some 3 := by decide +kernel
set_option maxHeartbeats 250000 in
set_option maxRecDepth 100000 in
theorem kX6_pair (l : Launch) (D : va_G) (a : Nat → Nat) (cI cZ : ClassId) (σ : RSt) (x1 : Int32) (x2 : Int32) (x3 : Int32) (hS : S0 σ) : CR l D (tyIZ cI cZ) (wR a cI cZ) yX6_pair cX6_pair 4 .int (rmk 2 43) [.ref (a 0), .int x1, .int x2, .int x3] σ (fX6_pair σ x1 x2 x3).1 (fX6_pair σ x1 x2 x3).2 := by
  refine CR.of pnX6 ⟨rfl, rfl⟩ (Nat.le_of_ble_eq_true rfl) rfl (fun p e s m args below meth c A Q ls C X hA hl ret => ?_)
  have C : Cx p s m args meth c cX6_pair 4 RX6 D (tyIZ cI cZ) := C
  have hx := C.1
  have hb := C.2.1
  have hl : lv_has ls 4 [(0, .ref (a 0)), (1, .int x1), (2, .int x2), (3, .int x3)] := hl
  refine lv_iload_n hx hb dX6_pair_0 rfl (lv_at hl 1 rfl) ?_
  refine lv_iload_n hx hb dX6_pair_1 rfl (lv_at hl 2 rfl) ?_
  refine callSR (rest := []) C hA (wR_sh a cI cZ) X (kX6_isRegister l D a cI cZ _ x1 x2) (cwS 2 C.2.2.2.2.1 (gS wl_X6_152 wz_yX6_isRegister wi_X6 wk_yX6_isRegister) rfl rfl rfl hdX6_isRegister ⟨Nat.le_of_ble_eq_true rfl, Nat.le_of_ble_eq_true rfl⟩) rfl hl.1 rfl (Nat.le_of_ble_eq_true rfl) dX6_pair_2 ⟨Nat.le_refl 0, Nat.le_refl 0⟩ (fun H locs X => ?_)
  refine lv_if_eq (tgt := 16) hx hb dX6_pair_5 (by decide) (fun c5 => ?_) (fun c5 => ?_)
  · refine lv_bipush (v := (-2)) hx hb dX6_pair_16 (by decide) ?_
    exact ret dX6_pair_18 (pe_ (Eq.symm (if_pos c5))) X
  · refine lv_iload_n hx hb dX6_pair_8 rfl (lv_at hl 1 rfl) ?_
    refine lv_iload_n hx hb dX6_pair_9 rfl (lv_at hl 3 rfl) ?_
    refine callSR (rest := []) C hA (wR_sh a cI cZ) X (kX6_isRegister l D a cI cZ _ x1 x3) (cwS 2 C.2.2.2.2.1 (gS wl_X6_152 wz_yX6_isRegister wi_X6 wk_yX6_isRegister) rfl rfl rfl hdX6_isRegister ⟨Nat.le_of_ble_eq_true rfl, Nat.le_of_ble_eq_true rfl⟩) rfl hl.1 rfl (Nat.le_of_ble_eq_true rfl) dX6_pair_10 ⟨Nat.le_refl 0, Nat.le_refl 0⟩ (fun H locs X => ?_)
    refine lv_if_ne (tgt := 19) hx hb dX6_pair_13 (by decide) (fun c13 => ?_) (fun c13 => ?_)
    · refine lv_aload_n hx hb dX6_pair_19 rfl (lv_at hl 0 rfl) ?_
      refine lv_iload_n hx hb dX6_pair_20 rfl (lv_at hl 1 rfl) ?_
      refine lv_iload_n hx hb dX6_pair_21 rfl (lv_at hl 2 rfl) ?_
      refine callVR (rest := []) C hA (wR_sh a cI cZ) X (kX6_held l D a cI cZ _ x1 x2 (in_reg c5)) (cwV 2 C.2.2.2.2.1 (gV wl_X6_163 wt_yX6_held ws_yX6_held wi_X6 wk_yX6_held) rfl rfl rfl hdX6_held ⟨Nat.le_of_ble_eq_true rfl, Nat.le_of_ble_eq_true rfl⟩) (ci := 6) (q0 := 0) rfl rfl rfl hl.1 rfl (Nat.le_of_ble_eq_true rfl) dX6_pair_22 ⟨Nat.le_refl 0, Nat.le_refl 0⟩ (fun H locs X => ?_)
      refine lv_iconst (v := (-1)) hx hb dX6_pair_25 (by decide) ?_
      refine lv_icmp_eq (tgt := 39) hx hb dX6_pair_26 (by decide) (fun c26 => ?_) (fun c26 => ?_)
      · refine lv_bipush (v := (-3)) hx hb dX6_pair_39 (by decide) ?_
        exact ret dX6_pair_41 (pe_ (Eq.symm (Eq.trans (if_neg c5) (Eq.trans (if_neg c13) (if_pos c26))))) X
      · refine lv_aload_n hx hb dX6_pair_29 rfl (lv_at hl 0 rfl) ?_
        refine lv_iload_n hx hb dX6_pair_30 rfl (lv_at hl 1 rfl) ?_
        refine lv_iload_n hx hb dX6_pair_31 rfl (lv_at hl 3 rfl) ?_
        refine callVR (rest := []) C hA (wR_sh a cI cZ) X (kX6_held l D a cI cZ _ x1 x3 (in_reg c13)) (cwV 2 C.2.2.2.2.1 (gV wl_X6_163 wt_yX6_held ws_yX6_held wi_X6 wk_yX6_held) rfl rfl rfl hdX6_held ⟨Nat.le_of_ble_eq_true rfl, Nat.le_of_ble_eq_true rfl⟩) (ci := 6) (q0 := 0) rfl rfl rfl hl.1 rfl (Nat.le_of_ble_eq_true rfl) dX6_pair_32 ⟨Nat.le_refl 0, Nat.le_refl 0⟩ (fun H locs X => ?_)
        refine lv_iconst (v := (-1)) hx hb dX6_pair_35 (by decide) ?_
        refine lv_icmp_ne (tgt := 42) hx hb dX6_pair_36 (by decide) (fun c36 => ?_) (fun c36 => ?_)
        · refine lv_aload_n hx hb dX6_pair_42 rfl (lv_at hl 0 rfl) ?_
          refine rg_X6_X6_pairs (v := (r_pairs σ)) C X rfl dX6_pair_43 ?_
          refine lv_bipush (v := (8)) hx hb dX6_pair_46 (by decide) ?_
          refine lv_icmp_ne (tgt := 54) hx hb dX6_pair_48 (by decide) (fun c48 => ?_) (fun c48 => ?_)
          · refine lv_aload_n hx hb dX6_pair_54 rfl (lv_at hl 0 rfl) ?_
            refine rg_X6_X6_key C X dX6_pair_55 ?_
            refine lv_aload_n hx hb dX6_pair_58 rfl (lv_at hl 0 rfl) ?_
            refine rg_X6_X6_pairs (v := (r_pairs σ)) C X rfl dX6_pair_59 ?_
            refine lv_aload_n hx hb dX6_pair_62 rfl (lv_at hl 0 rfl) ?_
            refine lv_iload_n hx hb dX6_pair_63 rfl (lv_at hl 1 rfl) ?_
            refine lv_iload_n hx hb dX6_pair_64 rfl (lv_at hl 2 rfl) ?_
            refine callVR (rest := [.int (r_pairs σ), .ref (a 12)]) C hA (wR_sh a cI cZ) X (kX6_held l D a cI cZ _ x1 x2 (in_reg c5)) (cwV 2 C.2.2.2.2.1 (gV wl_X6_163 wt_yX6_held ws_yX6_held wi_X6 wk_yX6_held) rfl rfl rfl hdX6_held ⟨Nat.le_of_ble_eq_true rfl, Nat.le_of_ble_eq_true rfl⟩) (ci := 6) (q0 := 0) rfl rfl rfl hl.1 rfl (Nat.le_of_ble_eq_true rfl) dX6_pair_65 ⟨Nat.le_refl 0, Nat.le_refl 0⟩ (fun H locs X => ?_)
            refine rs_key (g := (upd (r_key σ) (ix (r_pairs σ)) (fX6_held σ x1 x2))) C X (s0_plt hS c48) rfl dX6_pair_68 (fun H locs X => ?_)
            refine lv_aload_n hx hb dX6_pair_69 rfl (lv_at hl 0 rfl) ?_
            refine rg_X6_X6_value C X dX6_pair_70 ?_
            refine lv_aload_n hx hb dX6_pair_73 rfl (lv_at hl 0 rfl) ?_
            refine rg_X6_X6_pairs (v := (r_pairs σ)) C X (rq_pairs_key _ _) dX6_pair_74 ?_
            refine lv_aload_n hx hb dX6_pair_77 rfl (lv_at hl 0 rfl) ?_
            refine lv_iload_n hx hb dX6_pair_78 rfl (lv_at hl 1 rfl) ?_
            refine lv_iload_n hx hb dX6_pair_79 rfl (lv_at hl 3 rfl) ?_
            refine callVR (rest := [.int (r_pairs σ), .ref (a 13)]) C hA (wR_sh a cI cZ) X (kX6_held l D a cI cZ _ x1 x3 (in_reg c13)) (cwV 2 C.2.2.2.2.1 (gV wl_X6_163 wt_yX6_held ws_yX6_held wi_X6 wk_yX6_held) rfl rfl rfl hdX6_held ⟨Nat.le_of_ble_eq_true rfl, Nat.le_of_ble_eq_true rfl⟩) (ci := 6) (q0 := 0) rfl rfl rfl hl.1 rfl (Nat.le_of_ble_eq_true rfl) dX6_pair_80 ⟨Nat.le_refl 0, Nat.le_refl 0⟩ (fun H locs X => ?_)
            refine rs_value (g := (upd (r_value σ) (ix (r_pairs σ)) (fX6_held (r_key_s σ (upd (r_key σ) (ix (r_pairs σ)) (fX6_held σ x1 x2))) x1 x3))) C X (s0_plt hS c48) (congrArg (fun z => upd z _ _) (rq_value_key _ _)) dX6_pair_83 (fun H locs X => ?_)
            refine lv_aload_n hx hb dX6_pair_84 rfl (lv_at hl 0 rfl) ?_
            refine rg_X6_X6_isPair C X dX6_pair_85 ?_
            refine lv_aload_n hx hb dX6_pair_88 rfl (lv_at hl 0 rfl) ?_
            refine rg_X6_X6_pairs (v := (r_pairs σ)) C X (Eq.trans (rq_pairs_value _ _) (rq_pairs_key _ _)) dX6_pair_89 ?_
            refine lv_iconst (v := (1)) hx hb dX6_pair_92 (by decide) ?_
            refine rs_isPair (x1 := (1 : Int32)) (g := (upd (r_isPair σ) (ix (r_pairs σ)) (1 : Int32))) C X (s0_plt hS c48) rfl (congrArg (fun z => upd z _ _) (Eq.trans (rq_isPair_value _ _) (rq_isPair_key _ _))) dX6_pair_93 (fun H locs X => ?_)
            refine lv_aload_n hx hb dX6_pair_94 rfl (lv_at hl 0 rfl) ?_
            refine lv_dup hx hb dX6_pair_95 rfl ?_
            refine rg_X6_X6_pairs (v := (r_pairs σ)) C X (Eq.trans (rq_pairs_isPair _ _) (Eq.trans (rq_pairs_value _ _) (rq_pairs_key _ _))) dX6_pair_96 ?_
            refine lv_iconst (v := (1)) hx hb dX6_pair_99 (by decide) ?_
            refine lv_iadd hx hb dX6_pair_100 ?_
            refine rp_X6_X6_pairs C X dX6_pair_101 (fun H locs X => ?_)
            refine lv_aload_n hx hb dX6_pair_104 rfl (lv_at hl 0 rfl) ?_
            refine rg_X6_X6_pairs (v := ((r_pairs σ) + (1 : Int32))) C X (rq_pairs_pairs _ _) dX6_pair_105 ?_
            refine lv_iconst (v := (1)) hx hb dX6_pair_108 (by decide) ?_
            refine lv_isub hx hb dX6_pair_109 ?_
            exact ret dX6_pair_110 (pe_ (Eq.symm (Eq.trans (if_neg c5) (Eq.trans (if_neg c13) (Eq.trans (if_neg c26) (Eq.trans (if_neg c36) (if_neg c48))))))) X
          · refine lv_bipush (v := (-4)) hx hb dX6_pair_51 (by decide) ?_
            exact ret dX6_pair_53 (pe_ (Eq.symm (Eq.trans (if_neg c5) (Eq.trans (if_neg c13) (Eq.trans (if_neg c26) (Eq.trans (if_neg c36) (if_pos c48))))))) X
        · refine lv_bipush (v := (-3)) hx hb dX6_pair_39 (by decide) ?_
          exact ret dX6_pair_41 (pe_ (Eq.symm (Eq.trans (if_neg c5) (Eq.trans (if_neg c13) (Eq.trans (if_neg c26) (if_pos c36)))))) X
    · refine lv_bipush (v := (-2)) hx hb dX6_pair_16 (by decide) ?_
      exact ret dX6_pair_18 (pe_ (Eq.symm (Eq.trans (if_neg c5) (if_pos c13)))) X
def fX6_value (σ : RSt) (x1 : Int32) (x2 : Int32) (x3 : Int32) : Int32 × RSt := (if (fX6_isRegister σ x1 x2) = (0 : Int32) then ((-2 : Int32), σ) else (if (fX6_in σ x3 (0 : Int32) ((r_pairs σ) - (1 : Int32))) = (0 : Int32) then ((-2 : Int32), σ) else (if ((r_isPair σ) (ix x3)) = (0 : Int32) then ((fX6_holds (fX6_notesRead σ (-1 : Int32)) x1 x2 (-1 : Int32)).1, (fX6_holds (fX6_notesRead σ (-1 : Int32)) x1 x2 (-1 : Int32)).2) else ((fX6_holds (fX6_notesRead σ ((r_value σ) (ix x3))) x1 x2 ((r_value σ) (ix x3))).1, (fX6_holds (fX6_notesRead σ ((r_value σ) (ix x3))) x1 x2 ((r_value σ) (ix x3))).2))))
theorem hdX6_value : yX6_value.cls = RX6 ∧ yX6_value.cls ≠ "java/lang/invoke/MethodHandle" ∧ yX6_value.cls ≠ "java/lang/invoke/VarHandle" ∧ (parseMethodDescriptor yX6_value.desc).map (fun d => d.parameters.length) = some 3 := by decide +kernel
set_option maxHeartbeats 250000 in
set_option maxRecDepth 100000 in
theorem kX6_value (l : Launch) (D : va_G) (a : Nat → Nat) (cI cZ : ClassId) (σ : RSt) (x1 : Int32) (x2 : Int32) (x3 : Int32) (hS : S0 σ) : CR l D (tyIZ cI cZ) (wR a cI cZ) yX6_value cX6_value 5 .int (rmk 2 43) [.ref (a 0), .int x1, .int x2, .int x3] σ (fX6_value σ x1 x2 x3).1 (fX6_value σ x1 x2 x3).2 := by
  refine CR.of pnX6 ⟨rfl, rfl⟩ (Nat.le_of_ble_eq_true rfl) rfl (fun p e s m args below meth c A Q ls C X hA hl ret => ?_)
  have C : Cx p s m args meth c cX6_value 5 RX6 D (tyIZ cI cZ) := C
  have hx := C.1
  have hb := C.2.1
  have hl : lv_has ls 5 [(0, .ref (a 0)), (1, .int x1), (2, .int x2), (3, .int x3)] := hl
  refine lv_iload_n hx hb dX6_value_0 rfl (lv_at hl 1 rfl) ?_
  refine lv_iload_n hx hb dX6_value_1 rfl (lv_at hl 2 rfl) ?_
  refine callSR (rest := []) C hA (wR_sh a cI cZ) X (kX6_isRegister l D a cI cZ _ x1 x2) (cwS 2 C.2.2.2.2.1 (gS wl_X6_152 wz_yX6_isRegister wi_X6 wk_yX6_isRegister) rfl rfl rfl hdX6_isRegister ⟨Nat.le_of_ble_eq_true rfl, Nat.le_of_ble_eq_true rfl⟩) rfl hl.1 rfl (Nat.le_of_ble_eq_true rfl) dX6_value_2 ⟨Nat.le_refl 0, Nat.le_refl 0⟩ (fun H locs X => ?_)
  refine lv_if_eq (tgt := 22) hx hb dX6_value_5 (by decide) (fun c5 => ?_) (fun c5 => ?_)
  · refine lv_bipush (v := (-2)) hx hb dX6_value_22 (by decide) ?_
    exact ret dX6_value_24 (pe_ (Eq.symm (if_pos c5))) X
  · refine lv_iload_n hx hb dX6_value_8 rfl (lv_at hl 3 rfl) ?_
    refine lv_iconst (v := (0)) hx hb dX6_value_9 (by decide) ?_
    refine lv_aload_n hx hb dX6_value_10 rfl (lv_at hl 0 rfl) ?_
    refine rg_X6_X6_pairs (v := (r_pairs σ)) C X rfl dX6_value_11 ?_
    refine lv_iconst (v := (1)) hx hb dX6_value_14 (by decide) ?_
    refine lv_isub hx hb dX6_value_15 ?_
    refine callSR (rest := []) C hA (wR_sh a cI cZ) X (kX6_in l D a cI cZ _ x3 (0 : Int32) ((r_pairs σ) - (1 : Int32))) (cwS 3 C.2.2.2.2.1 (gS wl_X6_90 wz_yX6_in wi_X6 wk_yX6_in) rfl rfl rfl hdX6_in ⟨Nat.le_of_ble_eq_true rfl, Nat.le_of_ble_eq_true rfl⟩) rfl hl.1 rfl (Nat.le_of_ble_eq_true rfl) dX6_value_16 ⟨Nat.le_refl 0, Nat.le_refl 0⟩ (fun H locs X => ?_)
    refine lv_if_ne (tgt := 25) hx hb dX6_value_19 (by decide) (fun c19 => ?_) (fun c19 => ?_)
    · refine lv_aload_n hx hb dX6_value_25 rfl (lv_at hl 0 rfl) ?_
      refine rg_X6_X6_isPair C X dX6_value_26 ?_
      refine lv_iload_n hx hb dX6_value_29 rfl (lv_at hl 3 rfl) ?_
      refine ra_isPair (v := ((r_isPair σ) (ix x3))) C X (s0_pin hS c19) rfl dX6_value_30 ?_
      refine lv_if_eq (tgt := 43) hx hb dX6_value_31 (by decide) (fun c31 => ?_) (fun c31 => ?_)
      · refine lv_iconst (v := (-1)) hx hb dX6_value_43 (by decide) ?_
        refine lv_istore (lv' := [(4, .int (-1 : Int32)), (0, .ref (a 0)), (1, .int x1), (2, .int x2), (3, .int x3)]) hx hb dX6_value_44 hl (by decide) rfl (fun ls hl => ?_)
        refine lv_aload_n hx hb dX6_value_46 rfl (lv_at hl 1 rfl) ?_
        refine lv_iload hx hb dX6_value_47 (lv_at hl 0 rfl) ?_
        refine callVU (rest := []) C hA (wR_sh a cI cZ) X (kX6_notesRead l D a cI cZ _ (-1 : Int32) (by first | exact s0_value hS _ | exact Or.inl rfl)) (cwV 1 C.2.2.2.2.1 (gV wl_X6_173 wt_yX6_notesRead ws_yX6_notesRead wi_X6 wk_yX6_notesRead) rfl rfl rfl hdX6_notesRead ⟨Nat.le_of_ble_eq_true rfl, Nat.le_of_ble_eq_true rfl⟩) (ci := 6) (q0 := 0) rfl rfl rfl hl.1 rfl (Nat.le_of_ble_eq_true rfl) dX6_value_49 ⟨Nat.le_refl 0, Nat.le_refl 0⟩ (fun H locs X => ?_)
        refine lv_aload_n hx hb dX6_value_52 rfl (lv_at hl 1 rfl) ?_
        refine lv_iload_n hx hb dX6_value_53 rfl (lv_at hl 2 rfl) ?_
        refine lv_iload_n hx hb dX6_value_54 rfl (lv_at hl 3 rfl) ?_
        refine lv_iload hx hb dX6_value_55 (lv_at hl 0 rfl) ?_
        refine callVR (rest := []) C hA (wR_sh a cI cZ) X (kX6_holds l D a cI cZ _ x1 x2 (-1 : Int32) (in_reg c5)) (cwV 3 C.2.2.2.2.1 (gV wl_X6_159 wt_yX6_holds ws_yX6_holds wi_X6 wk_yX6_holds) rfl rfl rfl hdX6_holds ⟨Nat.le_of_ble_eq_true rfl, Nat.le_of_ble_eq_true rfl⟩) (ci := 6) (q0 := 0) rfl rfl rfl hl.1 rfl (Nat.le_of_ble_eq_true rfl) dX6_value_57 ⟨Nat.le_refl 0, Nat.le_refl 0⟩ (fun H locs X => ?_)
        exact ret dX6_value_60 (pe_ (Eq.symm (Eq.trans (if_neg c5) (Eq.trans (if_neg c19) (if_pos c31))))) X
      · refine lv_aload_n hx hb dX6_value_34 rfl (lv_at hl 0 rfl) ?_
        refine rg_X6_X6_value C X dX6_value_35 ?_
        refine lv_iload_n hx hb dX6_value_38 rfl (lv_at hl 3 rfl) ?_
        refine ra_value (v := ((r_value σ) (ix x3))) C X (s0_pin hS c19) rfl dX6_value_39 ?_
        refine lv_goto (tgt := 44) hx hb dX6_value_40 (by decide) ?_
        refine lv_istore (lv' := [(4, .int ((r_value σ) (ix x3))), (0, .ref (a 0)), (1, .int x1), (2, .int x2), (3, .int x3)]) hx hb dX6_value_44 hl (by decide) rfl (fun ls hl => ?_)
        refine lv_aload_n hx hb dX6_value_46 rfl (lv_at hl 1 rfl) ?_
        refine lv_iload hx hb dX6_value_47 (lv_at hl 0 rfl) ?_
        refine callVU (rest := []) C hA (wR_sh a cI cZ) X (kX6_notesRead l D a cI cZ _ ((r_value σ) (ix x3)) (by first | exact s0_value hS _ | exact Or.inl rfl)) (cwV 1 C.2.2.2.2.1 (gV wl_X6_173 wt_yX6_notesRead ws_yX6_notesRead wi_X6 wk_yX6_notesRead) rfl rfl rfl hdX6_notesRead ⟨Nat.le_of_ble_eq_true rfl, Nat.le_of_ble_eq_true rfl⟩) (ci := 6) (q0 := 0) rfl rfl rfl hl.1 rfl (Nat.le_of_ble_eq_true rfl) dX6_value_49 ⟨Nat.le_refl 0, Nat.le_refl 0⟩ (fun H locs X => ?_)
        refine lv_aload_n hx hb dX6_value_52 rfl (lv_at hl 1 rfl) ?_
        refine lv_iload_n hx hb dX6_value_53 rfl (lv_at hl 2 rfl) ?_
        refine lv_iload_n hx hb dX6_value_54 rfl (lv_at hl 3 rfl) ?_
        refine lv_iload hx hb dX6_value_55 (lv_at hl 0 rfl) ?_
        refine callVR (rest := []) C hA (wR_sh a cI cZ) X (kX6_holds l D a cI cZ _ x1 x2 ((r_value σ) (ix x3)) (in_reg c5)) (cwV 3 C.2.2.2.2.1 (gV wl_X6_159 wt_yX6_holds ws_yX6_holds wi_X6 wk_yX6_holds) rfl rfl rfl hdX6_holds ⟨Nat.le_of_ble_eq_true rfl, Nat.le_of_ble_eq_true rfl⟩) (ci := 6) (q0 := 0) rfl rfl rfl hl.1 rfl (Nat.le_of_ble_eq_true rfl) dX6_value_57 ⟨Nat.le_refl 0, Nat.le_refl 0⟩ (fun H locs X => ?_)
        exact ret dX6_value_60 (pe_ (Eq.symm (Eq.trans (if_neg c5) (Eq.trans (if_neg c19) (if_neg c31))))) X
    · refine lv_bipush (v := (-2)) hx hb dX6_value_22 (by decide) ?_
      exact ret dX6_value_24 (pe_ (Eq.symm (Eq.trans (if_neg c5) (if_pos c19)))) X
def fX6_wish_L40 (z1 : Int32) (z2 : Int32) (z3 : Int32) : Nat → Int32 → RSt → RSt
  | 0, y4, σ40 => σ40
  | f + 1, y4, σ40 => (fX6_wish_L40 z1 z2 z3 f (y4 + 1) (r_wishAt_s σ40 (upd (r_wishAt σ40) (ix y4) ((r_wishAt σ40) (ix (y4 + (1 : Int32)))))))
def fX6_wish (σ : RSt) (x1 : Int32) (x2 : Int32) : Int32 × RSt := (if (fX6_isRegister σ x1 x2) = (0 : Int32) then ((-2 : Int32), σ) else (if (r_wishes σ) = (0 : Int32) then ((-1 : Int32), σ) else ((fX6_holds (fX6_wish_L40 x1 x2 ((r_wishAt σ) (ix (0 : Int32))) (((Int32.toInt (r_wishes (r_wishes_s σ ((r_wishes σ) - (1 : Int32))))) - (Int32.toInt (0 : Int32))).toNat) (0 : Int32) (r_wishes_s σ ((r_wishes σ) - (1 : Int32)))) x1 x2 ((r_wishAt σ) (ix (0 : Int32)))).1, (fX6_holds (fX6_wish_L40 x1 x2 ((r_wishAt σ) (ix (0 : Int32))) (((Int32.toInt (r_wishes (r_wishes_s σ ((r_wishes σ) - (1 : Int32))))) - (Int32.toInt (0 : Int32))).toNat) (0 : Int32) (r_wishes_s σ ((r_wishes σ) - (1 : Int32)))) x1 x2 ((r_wishAt σ) (ix (0 : Int32)))).2)))
theorem hdX6_wish : yX6_wish.cls = RX6 ∧ yX6_wish.cls ≠ "java/lang/invoke/MethodHandle" ∧ yX6_wish.cls ≠ "java/lang/invoke/VarHandle" ∧ (parseMethodDescriptor yX6_wish.desc).map (fun d => d.parameters.length) = some 2 := by decide +kernel
set_option maxHeartbeats 250000 in
set_option maxRecDepth 100000 in
theorem kX6_wish (l : Launch) (D : va_G) (a : Nat → Nat) (cI cZ : ClassId) (σ : RSt) (x1 : Int32) (x2 : Int32) (hS : S0 σ) : CR l D (tyIZ cI cZ) (wR a cI cZ) yX6_wish cX6_wish 5 .int (rmk 2 43) [.ref (a 0), .int x1, .int x2] σ (fX6_wish σ x1 x2).1 (fX6_wish σ x1 x2).2 := by
  refine CR.of pnX6 ⟨rfl, rfl⟩ (Nat.le_of_ble_eq_true rfl) rfl (fun p e s m args below meth c A Q ls C X hA hl ret => ?_)
  have C : Cx p s m args meth c cX6_wish 5 RX6 D (tyIZ cI cZ) := C
  have hx := C.1
  have hb := C.2.1
  have hl : lv_has ls 5 [(0, .ref (a 0)), (1, .int x1), (2, .int x2)] := hl
  refine lv_iload_n hx hb dX6_wish_0 rfl (lv_at hl 1 rfl) ?_
  refine lv_iload_n hx hb dX6_wish_1 rfl (lv_at hl 2 rfl) ?_
  refine callSR (rest := []) C hA (wR_sh a cI cZ) X (kX6_isRegister l D a cI cZ _ x1 x2) (cwS 2 C.2.2.2.2.1 (gS wl_X6_152 wz_yX6_isRegister wi_X6 wk_yX6_isRegister) rfl rfl rfl hdX6_isRegister ⟨Nat.le_of_ble_eq_true rfl, Nat.le_of_ble_eq_true rfl⟩) rfl hl.1 rfl (Nat.le_of_ble_eq_true rfl) dX6_wish_2 ⟨Nat.le_refl 0, Nat.le_refl 0⟩ (fun H locs X => ?_)
  refine lv_if_ne (tgt := 11) hx hb dX6_wish_5 (by decide) (fun c5 => ?_) (fun c5 => ?_)
  · refine lv_aload_n hx hb dX6_wish_11 rfl (lv_at hl 0 rfl) ?_
    refine rg_X6_X6_wishes (v := (r_wishes σ)) C X rfl dX6_wish_12 ?_
    refine lv_if_ne (tgt := 20) hx hb dX6_wish_15 (by decide) (fun c15 => ?_) (fun c15 => ?_)
    · have hw0 := hS.2.2.2.2.2.2.2.2.2.1
      have hw1 := s0_wishes hS
      have hw2 := i32_m1 hw0.1
      have hw3 := i32_ne c15
      have q0 : (0 : Int32).toInt = 0 := rfl
      refine lv_aload_n hx hb dX6_wish_20 rfl (lv_at hl 0 rfl) ?_
      refine rg_X6_X6_wishAt C X dX6_wish_21 ?_
      refine lv_iconst (v := (0)) hx hb dX6_wish_24 (by decide) ?_
      refine ra_wishAt (v := ((r_wishAt σ) (ix (0 : Int32)))) C X (vp_in_iff.mpr (by decide)) rfl dX6_wish_25 ?_
      refine lv_istore_n (lv' := [(3, .int ((r_wishAt σ) (ix (0 : Int32)))), (0, .ref (a 0)), (1, .int x1), (2, .int x2)]) hx hb dX6_wish_26 rfl hl (by decide) rfl (fun ls hl => ?_)
      refine lv_aload_n hx hb dX6_wish_27 rfl (lv_at hl 1 rfl) ?_
      refine lv_dup hx hb dX6_wish_28 rfl ?_
      refine rg_X6_X6_wishes (v := (r_wishes σ)) C X rfl dX6_wish_29 ?_
      refine lv_iconst (v := (1)) hx hb dX6_wish_32 (by decide) ?_
      refine lv_isub hx hb dX6_wish_33 ?_
      refine rp_X6_X6_wishes C X dX6_wish_34 (fun H locs X => ?_)
      refine lv_iconst (v := (0)) hx hb dX6_wish_37 (by decide) ?_
      refine lv_istore (lv' := [(4, .int (0 : Int32)), (3, .int ((r_wishAt σ) (ix (0 : Int32)))), (0, .ref (a 0)), (1, .int x1), (2, .int x2)]) hx hb dX6_wish_38 hl (by decide) rfl (fun ls hl => ?_)
      have L40 : ∀ (res : RSt) (hx40 : ∀ (H : Heap) (locs : List Loc) (ls : Array Slot), Sx A D (wR a cI cZ res) s H locs → lv_has ls 5 [(0, .ref (a 0)), (1, .int x1), (2, .int x2), (3, .int ((r_wishAt σ) (ix (0 : Int32))))] → W p l e (rmk 2 43) s m args below meth c H locs 0 0 Q (F0 m 71 ls [])) (f : Nat) (y4 : Int32) (σ40 : RSt) (hf : ((Int32.toInt (r_wishes σ40)) - (Int32.toInt y4)).toNat = f) (hnn : 0 ≤ Int32.toInt y4) (hw : Int32.toInt (r_wishes σ40) ≤ 119) (he : fX6_wish_L40 x1 x2 ((r_wishAt σ) (ix (0 : Int32))) f y4 σ40 = res) (H : Heap) (locs : List Loc) (ls : Array Slot) (X : Sx A D (wR a cI cZ σ40) s H locs) (hl : lv_has ls 5 [(0, .ref (a 0)), (1, .int x1), (2, .int x2), (3, .int ((r_wishAt σ) (ix (0 : Int32)))), (4, .int y4)]), W p l e (rmk 2 43) s m args below meth c H locs 0 0 Q (F0 m 40 ls []) := by
        intro res hx40 f
        induction f with
        | zero =>
          intro y4 σ40 hf hnn hw he H locs ls X hl
          refine lv_iload hx hb dX6_wish_40 (lv_at hl 4 rfl) ?_
          refine lv_aload_n hx hb dX6_wish_42 rfl (lv_at hl 0 rfl) ?_
          refine rg_X6_X6_wishes (v := (r_wishes σ40)) C X rfl dX6_wish_43 ?_
          refine lv_icmp_ge (tgt := 71) hx hb dX6_wish_46 (by decide) (fun c46 => ?_) (fun c46 => (lp_z hf c46).elim)
          exact hx40 _ _ _ (Eq.subst (motive := fun z => Sx A D (wR a cI cZ z) s _ _) he X) (Eq.subst (motive := fun z => lv_has _ 5 [(0, .ref (a 0)), (1, .int x1), (2, .int x2), (3, .int ((r_wishAt σ) (ix (0 : Int32))))]) he (lv_sub hl [0, 1, 2, 3] rfl))
        | succ f ih40 =>
          intro y4 σ40 hf hnn hw he H locs ls X hl
          refine lv_iload hx hb dX6_wish_40 (lv_at hl 4 rfl) ?_
          refine lv_aload_n hx hb dX6_wish_42 rfl (lv_at hl 0 rfl) ?_
          refine rg_X6_X6_wishes (v := (r_wishes σ40)) C X rfl dX6_wish_43 ?_
          refine lv_icmp_ge (tgt := 71) hx hb dX6_wish_46 (by decide) (fun c46 => (lp_s hf c46).elim) (fun c46 => ?_)
          refine lv_aload_n hx hb dX6_wish_49 rfl (lv_at hl 0 rfl) ?_
          refine rg_X6_X6_wishAt C X dX6_wish_50 ?_
          refine lv_iload hx hb dX6_wish_53 (lv_at hl 4 rfl) ?_
          refine lv_aload_n hx hb dX6_wish_55 rfl (lv_at hl 0 rfl) ?_
          refine rg_X6_X6_wishAt C X dX6_wish_56 ?_
          refine lv_iload hx hb dX6_wish_59 (lv_at hl 4 rfl) ?_
          refine lv_iconst (v := (1)) hx hb dX6_wish_61 (by decide) ?_
          refine lv_iadd hx hb dX6_wish_62 ?_
          refine ra_wishAt (v := ((r_wishAt σ40) (ix (y4 + (1 : Int32))))) C X (vp_in_iff.mpr (by have t := i32_1 (x := y4) (B := r_wishes σ40) (by omega); omega)) rfl dX6_wish_63 ?_
          refine rs_wishAt (g := (upd (r_wishAt σ40) (ix y4) ((r_wishAt σ40) (ix (y4 + (1 : Int32)))))) C X (vp_in_iff.mpr (by omega)) rfl dX6_wish_64 (fun H locs X => ?_)
          refine lv_iinc (v := (y4 + 1)) (lv' := [(4, .int (y4 + 1)), (0, .ref (a 0)), (1, .int x1), (2, .int x2), (3, .int ((r_wishAt σ) (ix (0 : Int32))))]) hx hb dX6_wish_65 hl (k := 4) rfl rfl (by decide) rfl (fun ls hl => ?_)
          refine lv_goto (tgt := 40) hx hb dX6_wish_68 (by decide) ?_
          exact ih40 (y4 + 1) (r_wishAt_s σ40 (upd (r_wishAt σ40) (ix y4) ((r_wishAt σ40) (ix (y4 + (1 : Int32)))))) (lp_b hf) (lp_nn hnn hf) (hw) he _ _ _ X (lv_sub hl [1, 2, 3, 4, 0] rfl)
      refine L40 (fX6_wish_L40 x1 x2 ((r_wishAt σ) (ix (0 : Int32))) (((Int32.toInt (r_wishes (r_wishes_s σ ((r_wishes σ) - (1 : Int32))))) - (Int32.toInt (0 : Int32))).toNat) (0 : Int32) (r_wishes_s σ ((r_wishes σ) - (1 : Int32)))) (fun H locs ls X hl => ?_) (((Int32.toInt (r_wishes (r_wishes_s σ ((r_wishes σ) - (1 : Int32))))) - (Int32.toInt (0 : Int32))).toNat) (0 : Int32) (r_wishes_s σ ((r_wishes σ) - (1 : Int32))) rfl (by decide) (by show Int32.toInt (r_wishes σ - 1) ≤ 119; omega) rfl _ _ _ X (lv_sub hl [2, 3, 4, 1, 0] rfl)
      refine lv_aload_n hx hb dX6_wish_71 rfl (lv_at hl 0 rfl) ?_
      refine lv_iload_n hx hb dX6_wish_72 rfl (lv_at hl 1 rfl) ?_
      refine lv_iload_n hx hb dX6_wish_73 rfl (lv_at hl 2 rfl) ?_
      refine lv_iload_n hx hb dX6_wish_74 rfl (lv_at hl 3 rfl) ?_
      refine callVR (rest := []) C hA (wR_sh a cI cZ) X (kX6_holds l D a cI cZ _ x1 x2 ((r_wishAt σ) (ix (0 : Int32))) (in_reg c5)) (cwV 3 C.2.2.2.2.1 (gV wl_X6_159 wt_yX6_holds ws_yX6_holds wi_X6 wk_yX6_holds) rfl rfl rfl hdX6_holds ⟨Nat.le_of_ble_eq_true rfl, Nat.le_of_ble_eq_true rfl⟩) (ci := 6) (q0 := 0) rfl rfl rfl hl.1 rfl (Nat.le_of_ble_eq_true rfl) dX6_wish_75 ⟨Nat.le_refl 0, Nat.le_refl 0⟩ (fun H locs X => ?_)
      exact ret dX6_wish_78 (pe_ (Eq.symm (Eq.trans (if_neg c5) (if_neg c15)))) X
    · refine lv_iconst (v := (-1)) hx hb dX6_wish_18 (by decide) ?_
      exact ret dX6_wish_19 (pe_ (Eq.symm (Eq.trans (if_neg c5) (if_pos c15)))) X
  · refine lv_bipush (v := (-2)) hx hb dX6_wish_8 (by decide) ?_
    exact ret dX6_wish_10 (pe_ (Eq.symm (if_pos c5))) X
def fX6_reach (σ : RSt) (x1 : Int32) : RSt := (if x1 = (-1 : Int32) then σ else (if ((r_isReached σ) (ix x1)) = (0 : Int32) then (r_more_s (r_isReached_s σ (upd (r_isReached σ) (ix x1) (1 : Int32))) (1 : Int32)) else σ))
theorem hdX6_reach : yX6_reach.cls = RX6 ∧ yX6_reach.cls ≠ "java/lang/invoke/MethodHandle" ∧ yX6_reach.cls ≠ "java/lang/invoke/VarHandle" ∧ (parseMethodDescriptor yX6_reach.desc).map (fun d => d.parameters.length) = some 1 := by decide +kernel
set_option maxHeartbeats 250000 in
set_option maxRecDepth 100000 in
theorem kX6_reach (l : Launch) (D : va_G) (a : Nat → Nat) (cI cZ : ClassId) (σ : RSt) (x1 : Int32) (hv : VT x1) : CU l D (tyIZ cI cZ) (wR a cI cZ) yX6_reach cX6_reach 2 (rmk 0 0) [.ref (a 0), .int x1] σ (fX6_reach σ x1) := by
  refine CU.of pnX6 ⟨rfl, rfl⟩ (Nat.le_of_ble_eq_true rfl) (fun p e s m args below meth c A Q ls C X hA hl ret => ?_)
  have C : Cx p s m args meth c cX6_reach 2 RX6 D (tyIZ cI cZ) := C
  have hx := C.1
  have hb := C.2.1
  have hl : lv_has ls 2 [(0, .ref (a 0)), (1, .int x1)] := hl
  refine lv_iload_n hx hb dX6_reach_0 rfl (lv_at hl 1 rfl) ?_
  refine lv_iconst (v := (-1)) hx hb dX6_reach_1 (by decide) ?_
  refine lv_icmp_eq (tgt := 26) hx hb dX6_reach_2 (by decide) (fun c2 => ?_) (fun c2 => ?_)
  · exact ret dX6_reach_26 (Eq.symm (if_pos c2)) X
  · refine lv_aload_n hx hb dX6_reach_5 rfl (lv_at hl 0 rfl) ?_
    refine rg_X6_X6_isReached C X dX6_reach_6 ?_
    refine lv_iload_n hx hb dX6_reach_9 rfl (lv_at hl 1 rfl) ?_
    refine ra_isReached (v := ((r_isReached σ) (ix x1))) C X (vt_in hv c2) rfl dX6_reach_10 ?_
    refine lv_if_ne (tgt := 26) hx hb dX6_reach_11 (by decide) (fun c11 => ?_) (fun c11 => ?_)
    · exact ret dX6_reach_26 (Eq.symm (Eq.trans (if_neg c2) (if_neg c11))) X
    · refine lv_aload_n hx hb dX6_reach_14 rfl (lv_at hl 0 rfl) ?_
      refine rg_X6_X6_isReached C X dX6_reach_15 ?_
      refine lv_iload_n hx hb dX6_reach_18 rfl (lv_at hl 1 rfl) ?_
      refine lv_iconst (v := (1)) hx hb dX6_reach_19 (by decide) ?_
      refine rs_isReached (x1 := (1 : Int32)) (g := (upd (r_isReached σ) (ix x1) (1 : Int32))) C X (vt_in hv c2) rfl rfl dX6_reach_20 (fun H locs X => ?_)
      refine lv_aload_n hx hb dX6_reach_21 rfl (lv_at hl 0 rfl) ?_
      refine lv_iconst (v := (1)) hx hb dX6_reach_22 (by decide) ?_
      refine rp_X6_X6_more C X rfl rfl dX6_reach_23 (fun H locs X => ?_)
      exact ret dX6_reach_26 (Eq.symm (Eq.trans (if_neg c2) (if_pos c11))) X
theorem sa_reach (σ : RSt) (x : Int32) : SA σ (fX6_reach σ x) := by
  unfold fX6_reach
  split
  · exact sa_rf σ
  · split
    · exact sa_tr (sa_isReached _ _) (sa_more _ _)
    · exact sa_rf σ
theorem many_reach {σ : RSt} {x : Int32} : r_many (fX6_reach σ x) = r_many σ := (sa_reach σ x).2.1
theorem wishes_reach {σ : RSt} {x : Int32} : r_wishes (fX6_reach σ x) = r_wishes σ := (sa_reach σ x).2.2.2.2.2.2.2.2.2.1
theorem pairs_reach {σ : RSt} {x : Int32} : r_pairs (fX6_reach σ x) = r_pairs σ := (sa_reach σ x).2.2.2.2.2.2.2.2.2.2.2.1
def cRn (σ : RSt) : Nat := cntB (r_isReached σ) 120
def RP (σ τ : RSt) : Prop := (cRn τ = cRn σ ∧ r_more τ = r_more σ) ∨ (cRn σ < cRn τ ∧ r_more τ = 1)
theorem rp_rf (σ : RSt) : RP σ σ := Or.inl ⟨rfl, rfl⟩
theorem rp_tr {σ τ υ : RSt} (h : RP σ τ) (g : RP τ υ) : RP σ υ := by
  rcases h with ⟨h1, h2⟩ | ⟨h1, h2⟩ <;> rcases g with ⟨g1, g2⟩ | ⟨g1, g2⟩
  · exact Or.inl ⟨g1.trans h1, g2.trans h2⟩
  · exact Or.inr ⟨by omega, g2⟩
  · exact Or.inr ⟨by omega, g2.trans h2⟩
  · exact Or.inr ⟨by omega, g2⟩
theorem vp_ix {x : Int32} {n : Nat} (h : vp_in x n) : ix x < n := by
  have h1 := vp_in_iff.mp h
  have := ix_nat h1.1
  omega
theorem rp_reach {σ : RSt} {x : Int32} (hv : VT x) : RP σ (fX6_reach σ x) := by
  unfold fX6_reach
  split
  · exact rp_rf σ
  · rename_i c
    split
    · rename_i c2
      refine Or.inr ⟨?_, rfl⟩
      show cntB (r_isReached σ) 120 < cntB (upd (r_isReached σ) (ix x) 1) 120
      rw [cntB_inc (vp_ix (vt_in hv c)) c2]
      omega
    · exact rp_rf σ
def nuR (σ : RSt) : Nat := if r_more σ = 0 then 0 else 1 + (120 - cRn σ)
theorem nu_back {σ τ : RSt} {f : Nat} (hm : nuR σ < f + 1) (c : ¬ r_more σ = 0) (h : RP (r_more_s σ 0) τ) : nuR τ < f := by
  unfold nuR at hm
  rw [if_neg c] at hm
  have h3 : cRn τ ≤ 120 := cntB_le
  have h4 : cRn (r_more_s σ 0) = cRn σ := rfl
  have h5 : r_more (r_more_s σ 0) = 0 := rfl
  unfold nuR
  rcases h with ⟨h1, h2⟩ | ⟨h1, h2⟩
  · rw [if_pos (h2.trans h5)]
    omega
  · split
    · omega
    · omega

def fX6_isThing (σ : RSt) (x1 : Int32) : Int32 := (fX6_in σ x1 (0 : Int32) ((r_things σ) - (1 : Int32)))
theorem hdX6_isThing : yX6_isThing.cls = RX6 ∧ yX6_isThing.cls ≠ "java/lang/invoke/MethodHandle" ∧ yX6_isThing.cls ≠ "java/lang/invoke/VarHandle" ∧ (parseMethodDescriptor yX6_isThing.desc).map (fun d => d.parameters.length) = some 1 := by decide +kernel
theorem bX6_isThing (σ : RSt) (x1 : Int32) : (fX6_isThing σ x1) = 0 ∨ (fX6_isThing σ x1) = 1 := bX6_in _ _ _ _
set_option maxHeartbeats 250000 in
set_option maxRecDepth 100000 in
theorem kX6_isThing (l : Launch) (D : va_G) (a : Nat → Nat) (cI cZ : ClassId) (σ : RSt) (x1 : Int32) : CR l D (tyIZ cI cZ) (wR a cI cZ) yX6_isThing cX6_isThing 2 .boolean (rmk 1 22) [.ref (a 0), .int x1] σ (fX6_isThing σ x1) σ := by
  refine CR.of pnX6 ⟨rfl, rfl⟩ (Nat.le_of_ble_eq_true rfl) (nar_b (bX6_isThing σ x1)) (fun p e s m args below meth c A Q ls C X hA hl ret => ?_)
  have C : Cx p s m args meth c cX6_isThing 2 RX6 D (tyIZ cI cZ) := C
  have hx := C.1
  have hb := C.2.1
  have hl : lv_has ls 2 [(0, .ref (a 0)), (1, .int x1)] := hl
  refine lv_iload_n hx hb dX6_isThing_0 rfl (lv_at hl 1 rfl) ?_
  refine lv_iconst (v := (0)) hx hb dX6_isThing_1 (by decide) ?_
  refine lv_aload_n hx hb dX6_isThing_2 rfl (lv_at hl 0 rfl) ?_
  refine rg_X6_X6_things (v := (r_things σ)) C X rfl dX6_isThing_3 ?_
  refine lv_iconst (v := (1)) hx hb dX6_isThing_6 (by decide) ?_
  refine lv_isub hx hb dX6_isThing_7 ?_
  refine callSR (rest := []) C hA (wR_sh a cI cZ) X (kX6_in l D a cI cZ _ x1 (0 : Int32) ((r_things σ) - (1 : Int32))) (cwS 3 C.2.2.2.2.1 (gS wl_X6_90 wz_yX6_in wi_X6 wk_yX6_in) rfl rfl rfl hdX6_in ⟨Nat.le_of_ble_eq_true rfl, Nat.le_of_ble_eq_true rfl⟩) rfl hl.1 rfl (Nat.le_of_ble_eq_true rfl) dX6_isThing_8 ⟨Nat.le_refl 0, Nat.le_refl 0⟩ (fun H locs X => ?_)
  exact ret dX6_isThing_11 (congrArg (fun z => (z, _)) rfl) X
theorem isThing_in {σ : RSt} {x : Int32} (hS : S0 σ) (c : ¬ fX6_isThing σ x = 0) : vp_in x 120 := by
  unfold fX6_isThing at c
  have h1 := hS.1
  refine in_inN c ?_
  rw [i32_m1 h1.1]
  omega

def fX6_field (σ : RSt) (x1 : Int32) (x2 : Int32) : Int32 := (if (fX6_isThing σ x1) = (0 : Int32) then (-2 : Int32) else (if (fX6_in σ x2 (0 : Int32) (((r_many σ) (ix x1)) - (1 : Int32))) = (0 : Int32) then (-1 : Int32) else ((r_field σ) (ix (((6 : Int32) * x1) + x2)))))
theorem hdX6_field : yX6_field.cls = RX6 ∧ yX6_field.cls ≠ "java/lang/invoke/MethodHandle" ∧ yX6_field.cls ≠ "java/lang/invoke/VarHandle" ∧ (parseMethodDescriptor yX6_field.desc).map (fun d => d.parameters.length) = some 2 := by decide +kernel
set_option maxHeartbeats 250000 in
set_option maxRecDepth 100000 in
theorem kX6_field (l : Launch) (D : va_G) (a : Nat → Nat) (cI cZ : ClassId) (σ : RSt) (x1 : Int32) (x2 : Int32) (hS : S0 σ) : CR l D (tyIZ cI cZ) (wR a cI cZ) yX6_field cX6_field 3 .int (rmk 2 43) [.ref (a 0), .int x1, .int x2] σ (fX6_field σ x1 x2) σ := by
  refine CR.of pnX6 ⟨rfl, rfl⟩ (Nat.le_of_ble_eq_true rfl) rfl (fun p e s m args below meth c A Q ls C X hA hl ret => ?_)
  have C : Cx p s m args meth c cX6_field 3 RX6 D (tyIZ cI cZ) := C
  have hx := C.1
  have hb := C.2.1
  have hl : lv_has ls 3 [(0, .ref (a 0)), (1, .int x1), (2, .int x2)] := hl
  refine lv_aload_n hx hb dX6_field_0 rfl (lv_at hl 0 rfl) ?_
  refine lv_iload_n hx hb dX6_field_1 rfl (lv_at hl 1 rfl) ?_
  refine callVR (rest := []) C hA (wR_sh a cI cZ) X (kX6_isThing l D a cI cZ _ x1) (cwV 1 C.2.2.2.2.1 (gV wl_X6_186 wt_yX6_isThing ws_yX6_isThing wi_X6 wk_yX6_isThing) rfl rfl rfl hdX6_isThing ⟨Nat.le_of_ble_eq_true rfl, Nat.le_of_ble_eq_true rfl⟩) (ci := 6) (q0 := 0) rfl rfl rfl hl.1 rfl (Nat.le_of_ble_eq_true rfl) dX6_field_2 ⟨Nat.le_refl 0, Nat.le_refl 0⟩ (fun H locs X => ?_)
  refine lv_if_ne (tgt := 13) hx hb dX6_field_5 (by decide) (fun c5 => ?_) (fun c5 => ?_)
  · refine lv_iload_n hx hb dX6_field_13 rfl (lv_at hl 2 rfl) ?_
    refine lv_iconst (v := (0)) hx hb dX6_field_14 (by decide) ?_
    refine lv_aload_n hx hb dX6_field_15 rfl (lv_at hl 0 rfl) ?_
    refine rg_X6_X6_many C X dX6_field_16 ?_
    refine lv_iload_n hx hb dX6_field_19 rfl (lv_at hl 1 rfl) ?_
    refine ra_many (v := ((r_many σ) (ix x1))) C X (isThing_in hS c5) rfl dX6_field_20 ?_
    refine lv_iconst (v := (1)) hx hb dX6_field_21 (by decide) ?_
    refine lv_isub hx hb dX6_field_22 ?_
    refine callSR (rest := []) C hA (wR_sh a cI cZ) X (kX6_in l D a cI cZ _ x2 (0 : Int32) (((r_many σ) (ix x1)) - (1 : Int32))) (cwS 3 C.2.2.2.2.1 (gS wl_X6_90 wz_yX6_in wi_X6 wk_yX6_in) rfl rfl rfl hdX6_in ⟨Nat.le_of_ble_eq_true rfl, Nat.le_of_ble_eq_true rfl⟩) rfl hl.1 rfl (Nat.le_of_ble_eq_true rfl) dX6_field_23 ⟨Nat.le_refl 0, Nat.le_refl 0⟩ (fun H locs X => ?_)
    refine lv_if_eq (tgt := 43) hx hb dX6_field_26 (by decide) (fun c26 => ?_) (fun c26 => ?_)
    · refine lv_iconst (v := (-1)) hx hb dX6_field_43 (by decide) ?_
      exact ret dX6_field_44 (congrArg (fun z => (z, _)) (Eq.symm (Eq.trans (if_neg c5) (if_pos c26)))) X
    · refine lv_aload_n hx hb dX6_field_29 rfl (lv_at hl 0 rfl) ?_
      refine rg_X6_X6_field C X dX6_field_30 ?_
      refine lv_bipush (v := (6)) hx hb dX6_field_33 (by decide) ?_
      refine lv_iload_n hx hb dX6_field_35 rfl (lv_at hl 1 rfl) ?_
      refine lv_imul hx hb dX6_field_36 ?_
      refine lv_iload_n hx hb dX6_field_37 rfl (lv_at hl 2 rfl) ?_
      refine lv_iadd hx hb dX6_field_38 ?_
      refine ra_field (v := ((r_field σ) (ix (((6 : Int32) * x1) + x2)))) C X (in_6x (isThing_in hS c5) (vp_in_iff.mpr (by have t := in_in c26; have t2 := hS.2.1 (ix x1); have t3 := i32_m1 t2.1; have q : (0 : Int32).toInt = 0 := rfl; omega))) rfl dX6_field_39 ?_
      refine lv_goto (tgt := 44) hx hb dX6_field_40 (by decide) ?_
      exact ret dX6_field_44 (congrArg (fun z => (z, _)) (Eq.symm (Eq.trans (if_neg c5) (if_neg c26)))) X
  · refine lv_bipush (v := (-2)) hx hb dX6_field_8 (by decide) ?_
    refine lv_goto (tgt := 44) hx hb dX6_field_10 (by decide) ?_
    exact ret dX6_field_44 (congrArg (fun z => (z, _)) (Eq.symm (if_pos c5))) X
def fX6_holder (σ : RSt) (x1 : Int32) : Int32 := (if (0 : Int32) ≤ x1 then (if (12 : Int32) ≤ x1 then (if (16 : Int32) ≤ x1 then (if (22 : Int32) ≤ x1 then (if (30 : Int32) ≤ x1 then (if (r_wishes σ) ≤ (x1 - (30 : Int32)) then (-1 : Int32) else ((r_wishAt σ) (ix (x1 - (30 : Int32))))) else (if ((r_isPair σ) (ix (x1 - (22 : Int32)))) = (0 : Int32) then (-1 : Int32) else ((r_key σ) (ix (x1 - (22 : Int32)))))) else ((r_weakAt σ) (ix (x1 - (16 : Int32))))) else ((r_slot σ) (ix (x1 - (12 : Int32))))) else ((r_register σ) (ix x1))) else (-2 : Int32))
theorem hdX6_holder : yX6_holder.cls = RX6 ∧ yX6_holder.cls ≠ "java/lang/invoke/MethodHandle" ∧ yX6_holder.cls ≠ "java/lang/invoke/VarHandle" ∧ (parseMethodDescriptor yX6_holder.desc).map (fun d => d.parameters.length) = some 1 := by decide +kernel
set_option maxHeartbeats 250000 in
set_option maxRecDepth 100000 in
theorem kX6_holder (l : Launch) (D : va_G) (a : Nat → Nat) (cI cZ : ClassId) (σ : RSt) (x1 : Int32) (hS : S0 σ) : CR l D (tyIZ cI cZ) (wR a cI cZ) yX6_holder cX6_holder 2 .int (rmk 0 0) [.ref (a 0), .int x1] σ (fX6_holder σ x1) σ := by
  refine CR.of pnX6 ⟨rfl, rfl⟩ (Nat.le_of_ble_eq_true rfl) rfl (fun p e s m args below meth c A Q ls C X hA hl ret => ?_)
  have C : Cx p s m args meth c cX6_holder 2 RX6 D (tyIZ cI cZ) := C
  have hx := C.1
  have hb := C.2.1
  have hl : lv_has ls 2 [(0, .ref (a 0)), (1, .int x1)] := hl
  refine lv_iload_n hx hb dX6_holder_0 rfl (lv_at hl 1 rfl) ?_
  refine lv_if_ge (tgt := 7) hx hb dX6_holder_1 (by decide) (fun c1 => ?_) (fun c1 => ?_)
  · refine lv_iload_n hx hb dX6_holder_7 rfl (lv_at hl 1 rfl) ?_
    refine lv_bipush (v := (12)) hx hb dX6_holder_8 (by decide) ?_
    refine lv_icmp_ge (tgt := 20) hx hb dX6_holder_10 (by decide) (fun c10 => ?_) (fun c10 => ?_)
    · refine lv_iload_n hx hb dX6_holder_20 rfl (lv_at hl 1 rfl) ?_
      refine lv_bipush (v := (16)) hx hb dX6_holder_21 (by decide) ?_
      refine lv_icmp_ge (tgt := 36) hx hb dX6_holder_23 (by decide) (fun c23 => ?_) (fun c23 => ?_)
      · refine lv_iload_n hx hb dX6_holder_36 rfl (lv_at hl 1 rfl) ?_
        refine lv_bipush (v := (22)) hx hb dX6_holder_37 (by decide) ?_
        refine lv_icmp_ge (tgt := 52) hx hb dX6_holder_39 (by decide) (fun c39 => ?_) (fun c39 => ?_)
        · refine lv_iload_n hx hb dX6_holder_52 rfl (lv_at hl 1 rfl) ?_
          refine lv_bipush (v := (30)) hx hb dX6_holder_53 (by decide) ?_
          refine lv_icmp_ge (tgt := 84) hx hb dX6_holder_55 (by decide) (fun c55 => ?_) (fun c55 => ?_)
          · refine lv_iload_n hx hb dX6_holder_84 rfl (lv_at hl 1 rfl) ?_
            refine lv_bipush (v := (30)) hx hb dX6_holder_85 (by decide) ?_
            refine lv_isub hx hb dX6_holder_87 ?_
            refine lv_aload_n hx hb dX6_holder_88 rfl (lv_at hl 0 rfl) ?_
            refine rg_X6_X6_wishes (v := (r_wishes σ)) C X rfl dX6_holder_89 ?_
            refine lv_icmp_ge (tgt := 107) hx hb dX6_holder_92 (by decide) (fun c92 => ?_) (fun c92 => ?_)
            · refine lv_iconst (v := (-1)) hx hb dX6_holder_107 (by decide) ?_
              exact ret dX6_holder_108 (congrArg (fun z => (z, _)) (Eq.symm (Eq.trans (if_pos c1) (Eq.trans (if_pos c10) (Eq.trans (if_pos c23) (Eq.trans (if_pos c39) (Eq.trans (if_pos c55) (if_pos c92)))))))) X
            · refine lv_aload_n hx hb dX6_holder_95 rfl (lv_at hl 0 rfl) ?_
              refine rg_X6_X6_wishAt C X dX6_holder_96 ?_
              refine lv_iload_n hx hb dX6_holder_99 rfl (lv_at hl 1 rfl) ?_
              refine lv_bipush (v := (30)) hx hb dX6_holder_100 (by decide) ?_
              refine lv_isub hx hb dX6_holder_102 ?_
              refine ra_wishAt (v := ((r_wishAt σ) (ix (x1 - (30 : Int32))))) C X (vp_in_iff.mpr (by have t := i32_nle c92; have t2 := s0_wishes hS; have t3 := i32_le c55; have q : (30 : Int32).toInt = 30 := rfl; have t4 := i32_subI (x := x1) (a := 30) (by decide) t3; omega)) rfl dX6_holder_103 ?_
              refine lv_goto (tgt := 108) hx hb dX6_holder_104 (by decide) ?_
              exact ret dX6_holder_108 (congrArg (fun z => (z, _)) (Eq.symm (Eq.trans (if_pos c1) (Eq.trans (if_pos c10) (Eq.trans (if_pos c23) (Eq.trans (if_pos c39) (Eq.trans (if_pos c55) (if_neg c92)))))))) X
          · refine lv_aload_n hx hb dX6_holder_58 rfl (lv_at hl 0 rfl) ?_
            refine rg_X6_X6_isPair C X dX6_holder_59 ?_
            refine lv_iload_n hx hb dX6_holder_62 rfl (lv_at hl 1 rfl) ?_
            refine lv_bipush (v := (22)) hx hb dX6_holder_63 (by decide) ?_
            refine lv_isub hx hb dX6_holder_65 ?_
            refine ra_isPair (v := ((r_isPair σ) (ix (x1 - (22 : Int32))))) C X (i32_sub_in (by decide) (by have t := i32_le c39; have q1 : (22 : Int32).toInt = 22 := rfl; omega) (by have t := i32_nle c55; have q1 : (22 : Int32).toInt = 22 := rfl; have q2 : (30 : Int32).toInt = 30 := rfl; omega)) rfl dX6_holder_66 ?_
            refine lv_if_eq (tgt := 82) hx hb dX6_holder_67 (by decide) (fun c67 => ?_) (fun c67 => ?_)
            · refine lv_iconst (v := (-1)) hx hb dX6_holder_82 (by decide) ?_
              exact ret dX6_holder_83 (congrArg (fun z => (z, _)) (Eq.symm (Eq.trans (if_pos c1) (Eq.trans (if_pos c10) (Eq.trans (if_pos c23) (Eq.trans (if_pos c39) (Eq.trans (if_neg c55) (if_pos c67)))))))) X
            · refine lv_aload_n hx hb dX6_holder_70 rfl (lv_at hl 0 rfl) ?_
              refine rg_X6_X6_key C X dX6_holder_71 ?_
              refine lv_iload_n hx hb dX6_holder_74 rfl (lv_at hl 1 rfl) ?_
              refine lv_bipush (v := (22)) hx hb dX6_holder_75 (by decide) ?_
              refine lv_isub hx hb dX6_holder_77 ?_
              refine ra_key (v := ((r_key σ) (ix (x1 - (22 : Int32))))) C X (i32_sub_in (by decide) (by have t := i32_le c39; have q1 : (22 : Int32).toInt = 22 := rfl; omega) (by have t := i32_nle c55; have q1 : (22 : Int32).toInt = 22 := rfl; have q2 : (30 : Int32).toInt = 30 := rfl; omega)) rfl dX6_holder_78 ?_
              refine lv_goto (tgt := 83) hx hb dX6_holder_79 (by decide) ?_
              exact ret dX6_holder_83 (congrArg (fun z => (z, _)) (Eq.symm (Eq.trans (if_pos c1) (Eq.trans (if_pos c10) (Eq.trans (if_pos c23) (Eq.trans (if_pos c39) (Eq.trans (if_neg c55) (if_neg c67)))))))) X
        · refine lv_aload_n hx hb dX6_holder_42 rfl (lv_at hl 0 rfl) ?_
          refine rg_X6_X6_weakAt C X dX6_holder_43 ?_
          refine lv_iload_n hx hb dX6_holder_46 rfl (lv_at hl 1 rfl) ?_
          refine lv_bipush (v := (16)) hx hb dX6_holder_47 (by decide) ?_
          refine lv_isub hx hb dX6_holder_49 ?_
          refine ra_weakAt (v := ((r_weakAt σ) (ix (x1 - (16 : Int32))))) C X (i32_sub_in (by decide) (by have t := i32_le c23; have q1 : (16 : Int32).toInt = 16 := rfl; omega) (by have t := i32_nle c39; have q1 : (16 : Int32).toInt = 16 := rfl; have q2 : (22 : Int32).toInt = 22 := rfl; omega)) rfl dX6_holder_50 ?_
          exact ret dX6_holder_51 (congrArg (fun z => (z, _)) (Eq.symm (Eq.trans (if_pos c1) (Eq.trans (if_pos c10) (Eq.trans (if_pos c23) (if_neg c39)))))) X
      · refine lv_aload_n hx hb dX6_holder_26 rfl (lv_at hl 0 rfl) ?_
        refine rg_X6_X6_slot C X dX6_holder_27 ?_
        refine lv_iload_n hx hb dX6_holder_30 rfl (lv_at hl 1 rfl) ?_
        refine lv_bipush (v := (12)) hx hb dX6_holder_31 (by decide) ?_
        refine lv_isub hx hb dX6_holder_33 ?_
        refine ra_slot (v := ((r_slot σ) (ix (x1 - (12 : Int32))))) C X (i32_sub_in (by decide) (by have t := i32_le c10; have q1 : (12 : Int32).toInt = 12 := rfl; omega) (by have t := i32_nle c23; have q1 : (12 : Int32).toInt = 12 := rfl; have q2 : (16 : Int32).toInt = 16 := rfl; omega)) rfl dX6_holder_34 ?_
        exact ret dX6_holder_35 (congrArg (fun z => (z, _)) (Eq.symm (Eq.trans (if_pos c1) (Eq.trans (if_pos c10) (if_neg c23))))) X
    · refine lv_aload_n hx hb dX6_holder_13 rfl (lv_at hl 0 rfl) ?_
      refine rg_X6_X6_register C X dX6_holder_14 ?_
      refine lv_iload_n hx hb dX6_holder_17 rfl (lv_at hl 1 rfl) ?_
      refine ra_register (v := ((r_register σ) (ix x1))) C X (vp_in_iff.mpr (by have tc1 := i32_le c1; have tc10 := i32_nle c10; have q0_ : (0 : Int32).toInt = 0 := rfl; have q1_ : (12 : Int32).toInt = 12 := rfl; omega)) rfl dX6_holder_18 ?_
      exact ret dX6_holder_19 (congrArg (fun z => (z, _)) (Eq.symm (Eq.trans (if_pos c1) (if_neg c10)))) X
  · refine lv_bipush (v := (-2)) hx hb dX6_holder_4 (by decide) ?_
    exact ret dX6_holder_6 (congrArg (fun z => (z, _)) (Eq.symm (if_neg c1))) X
def fX6_cellOf_L2 (z1 : Int32) : Nat → Int32 → RSt → Int32
  | 0, y2, σ0 => (-1 : Int32)
  | f + 1, y2, σ0 => (if ((r_isFreed σ0) (ix y2)) = (0 : Int32) then (if z1 < ((r_place σ0) (ix y2)) then (fX6_cellOf_L2 z1 f (y2 + 1) σ0) else (if (((r_place σ0) (ix y2)) + ((r_many σ0) (ix y2))) < z1 then (fX6_cellOf_L2 z1 f (y2 + 1) σ0) else y2)) else (fX6_cellOf_L2 z1 f (y2 + 1) σ0))
def fX6_cellOf (σ : RSt) (x1 : Int32) : Int32 := (fX6_cellOf_L2 x1 (((Int32.toInt (r_things σ)) - (Int32.toInt (0 : Int32))).toNat) (0 : Int32) σ)
theorem hdX6_cellOf : yX6_cellOf.cls = RX6 ∧ yX6_cellOf.cls ≠ "java/lang/invoke/MethodHandle" ∧ yX6_cellOf.cls ≠ "java/lang/invoke/VarHandle" ∧ (parseMethodDescriptor yX6_cellOf.desc).map (fun d => d.parameters.length) = some 1 := by decide +kernel
set_option maxHeartbeats 250000 in
set_option maxRecDepth 100000 in
theorem kX6_cellOf (l : Launch) (D : va_G) (a : Nat → Nat) (cI cZ : ClassId) (σ : RSt) (x1 : Int32) (hS : S0 σ) : CR l D (tyIZ cI cZ) (wR a cI cZ) yX6_cellOf cX6_cellOf 3 .int (rmk 0 0) [.ref (a 0), .int x1] σ (fX6_cellOf σ x1) σ := by
  refine CR.of pnX6 ⟨rfl, rfl⟩ (Nat.le_of_ble_eq_true rfl) rfl (fun p e s m args below meth c A Q ls C X hA hl ret => ?_)
  have C : Cx p s m args meth c cX6_cellOf 3 RX6 D (tyIZ cI cZ) := C
  have hx := C.1
  have hb := C.2.1
  have hl : lv_has ls 3 [(0, .ref (a 0)), (1, .int x1)] := hl
  refine lv_iconst (v := (0)) hx hb dX6_cellOf_0 (by decide) ?_
  refine lv_istore_n (lv' := [(2, .int (0 : Int32)), (0, .ref (a 0)), (1, .int x1)]) hx hb dX6_cellOf_1 rfl hl (by decide) rfl (fun ls hl => ?_)
  have L2 : ∀ (f : Nat) (y2 : Int32) (hf : ((Int32.toInt (r_things σ)) - (Int32.toInt y2)).toNat = f) (hnn : 0 ≤ Int32.toInt y2) (he : fX6_cellOf_L2 x1 f y2 σ = (fX6_cellOf σ x1)) (H : Heap) (locs : List Loc) (ls : Array Slot) (X : Sx A D (wR a cI cZ σ) s H locs) (hl : lv_has ls 3 [(0, .ref (a 0)), (1, .int x1), (2, .int y2)]), W p l e (rmk 0 0) s m args below meth c H locs 0 0 Q (F0 m 2 ls []) := by
    intro f
    induction f with
    | zero =>
      intro y2 hf hnn he H locs ls X hl
      refine lv_iload_n hx hb dX6_cellOf_2 rfl (lv_at hl 2 rfl) ?_
      refine lv_aload_n hx hb dX6_cellOf_3 rfl (lv_at hl 0 rfl) ?_
      refine rg_X6_X6_things (v := (r_things σ)) C X rfl dX6_cellOf_4 ?_
      refine lv_icmp_ge (tgt := 54) hx hb dX6_cellOf_7 (by decide) (fun c7 => ?_) (fun c7 => (lp_z hf c7).elim)
      refine lv_iconst (v := (-1)) hx hb dX6_cellOf_54 (by decide) ?_
      exact ret dX6_cellOf_55 (congrArg (fun z => (z, _)) he) X
    | succ f ih2 =>
      intro y2 hf hnn he H locs ls X hl
      refine lv_iload_n hx hb dX6_cellOf_2 rfl (lv_at hl 2 rfl) ?_
      refine lv_aload_n hx hb dX6_cellOf_3 rfl (lv_at hl 0 rfl) ?_
      refine rg_X6_X6_things (v := (r_things σ)) C X rfl dX6_cellOf_4 ?_
      refine lv_icmp_ge (tgt := 54) hx hb dX6_cellOf_7 (by decide) (fun c7 => (lp_s hf c7).elim) (fun c7 => ?_)
      refine lv_aload_n hx hb dX6_cellOf_10 rfl (lv_at hl 0 rfl) ?_
      refine rg_X6_X6_isFreed C X dX6_cellOf_11 ?_
      refine lv_iload_n hx hb dX6_cellOf_14 rfl (lv_at hl 2 rfl) ?_
      refine ra_isFreed (v := ((r_isFreed σ) (ix y2))) C X (lp_in hnn hf (s0_th hS)) rfl dX6_cellOf_15 ?_
      refine lv_if_ne (tgt := 48) hx hb dX6_cellOf_16 (by decide) (fun c16 => ?_) (fun c16 => ?_)
      · refine lv_iinc (v := (y2 + 1)) (lv' := [(2, .int (y2 + 1)), (0, .ref (a 0)), (1, .int x1)]) hx hb dX6_cellOf_48 hl (k := 2) rfl rfl (by decide) rfl (fun ls hl => ?_)
        refine lv_goto (tgt := 2) hx hb dX6_cellOf_51 (by decide) ?_
        exact ih2 (y2 + 1) (lp_b hf) (lp_nn hnn hf) (Eq.trans (Eq.symm (if_neg c16)) he) _ _ _ X (lv_sub hl [1, 2, 0] rfl)
      · refine lv_aload_n hx hb dX6_cellOf_19 rfl (lv_at hl 0 rfl) ?_
        refine rg_X6_X6_place C X dX6_cellOf_20 ?_
        refine lv_iload_n hx hb dX6_cellOf_23 rfl (lv_at hl 2 rfl) ?_
        refine ra_place (v := ((r_place σ) (ix y2))) C X (lp_in hnn hf (s0_th hS)) rfl dX6_cellOf_24 ?_
        refine lv_iload_n hx hb dX6_cellOf_25 rfl (lv_at hl 1 rfl) ?_
        refine lv_icmp_gt (tgt := 48) hx hb dX6_cellOf_26 (by decide) (fun c26 => ?_) (fun c26 => ?_)
        · refine lv_iinc (v := (y2 + 1)) (lv' := [(2, .int (y2 + 1)), (0, .ref (a 0)), (1, .int x1)]) hx hb dX6_cellOf_48 hl (k := 2) rfl rfl (by decide) rfl (fun ls hl => ?_)
          refine lv_goto (tgt := 2) hx hb dX6_cellOf_51 (by decide) ?_
          exact ih2 (y2 + 1) (lp_b hf) (lp_nn hnn hf) (Eq.trans (Eq.symm (Eq.trans (if_pos c16) (if_pos c26))) he) _ _ _ X (lv_sub hl [1, 2, 0] rfl)
        · refine lv_iload_n hx hb dX6_cellOf_29 rfl (lv_at hl 1 rfl) ?_
          refine lv_aload_n hx hb dX6_cellOf_30 rfl (lv_at hl 0 rfl) ?_
          refine rg_X6_X6_place C X dX6_cellOf_31 ?_
          refine lv_iload_n hx hb dX6_cellOf_34 rfl (lv_at hl 2 rfl) ?_
          refine ra_place (v := ((r_place σ) (ix y2))) C X (lp_in hnn hf (s0_th hS)) rfl dX6_cellOf_35 ?_
          refine lv_aload_n hx hb dX6_cellOf_36 rfl (lv_at hl 0 rfl) ?_
          refine rg_X6_X6_many C X dX6_cellOf_37 ?_
          refine lv_iload_n hx hb dX6_cellOf_40 rfl (lv_at hl 2 rfl) ?_
          refine ra_many (v := ((r_many σ) (ix y2))) C X (lp_in hnn hf (s0_th hS)) rfl dX6_cellOf_41 ?_
          refine lv_iadd hx hb dX6_cellOf_42 ?_
          refine lv_icmp_gt (tgt := 48) hx hb dX6_cellOf_43 (by decide) (fun c43 => ?_) (fun c43 => ?_)
          · refine lv_iinc (v := (y2 + 1)) (lv' := [(2, .int (y2 + 1)), (0, .ref (a 0)), (1, .int x1)]) hx hb dX6_cellOf_48 hl (k := 2) rfl rfl (by decide) rfl (fun ls hl => ?_)
            refine lv_goto (tgt := 2) hx hb dX6_cellOf_51 (by decide) ?_
            exact ih2 (y2 + 1) (lp_b hf) (lp_nn hnn hf) (Eq.trans (Eq.symm (Eq.trans (if_pos c16) (Eq.trans (if_neg c26) (if_pos c43)))) he) _ _ _ X (lv_sub hl [1, 2, 0] rfl)
          · refine lv_iload_n hx hb dX6_cellOf_46 rfl (lv_at hl 2 rfl) ?_
            exact ret dX6_cellOf_47 (congrArg (fun z => (z, _)) (Eq.trans (Eq.symm (Eq.trans (if_pos c16) (Eq.trans (if_neg c26) (if_neg c43)))) he)) X
  exact L2 (((Int32.toInt (r_things σ)) - (Int32.toInt (0 : Int32))).toNat) (0 : Int32) rfl (by decide) rfl _ _ _ X (lv_sub hl [1, 2, 0] rfl)
def fX6_cell (σ : RSt) (x1 : Int32) : Int32 := (if (fX6_in σ x1 (0 : Int32) (199 : Int32)) = (0 : Int32) then (-2 : Int32) else (fX6_cellOf σ x1))
theorem hdX6_cell : yX6_cell.cls = RX6 ∧ yX6_cell.cls ≠ "java/lang/invoke/MethodHandle" ∧ yX6_cell.cls ≠ "java/lang/invoke/VarHandle" ∧ (parseMethodDescriptor yX6_cell.desc).map (fun d => d.parameters.length) = some 1 := by decide +kernel
set_option maxHeartbeats 250000 in
set_option maxRecDepth 100000 in
theorem kX6_cell (l : Launch) (D : va_G) (a : Nat → Nat) (cI cZ : ClassId) (σ : RSt) (x1 : Int32) (hS : S0 σ) : CR l D (tyIZ cI cZ) (wR a cI cZ) yX6_cell cX6_cell 2 .int (rmk 1 22) [.ref (a 0), .int x1] σ (fX6_cell σ x1) σ := by
  refine CR.of pnX6 ⟨rfl, rfl⟩ (Nat.le_of_ble_eq_true rfl) rfl (fun p e s m args below meth c A Q ls C X hA hl ret => ?_)
  have C : Cx p s m args meth c cX6_cell 2 RX6 D (tyIZ cI cZ) := C
  have hx := C.1
  have hb := C.2.1
  have hl : lv_has ls 2 [(0, .ref (a 0)), (1, .int x1)] := hl
  refine lv_iload_n hx hb dX6_cell_0 rfl (lv_at hl 1 rfl) ?_
  refine lv_iconst (v := (0)) hx hb dX6_cell_1 (by decide) ?_
  refine lv_sipush (v := (199)) hx hb dX6_cell_2 (by decide) ?_
  refine callSR (rest := []) C hA (wR_sh a cI cZ) X (kX6_in l D a cI cZ _ x1 (0 : Int32) (199 : Int32)) (cwS 3 C.2.2.2.2.1 (gS wl_X6_90 wz_yX6_in wi_X6 wk_yX6_in) rfl rfl rfl hdX6_in ⟨Nat.le_of_ble_eq_true rfl, Nat.le_of_ble_eq_true rfl⟩) rfl hl.1 rfl (Nat.le_of_ble_eq_true rfl) dX6_cell_5 ⟨Nat.le_refl 0, Nat.le_refl 0⟩ (fun H locs X => ?_)
  refine lv_if_eq (tgt := 19) hx hb dX6_cell_8 (by decide) (fun c8 => ?_) (fun c8 => ?_)
  · refine lv_bipush (v := (-2)) hx hb dX6_cell_19 (by decide) ?_
    exact ret dX6_cell_21 (congrArg (fun z => (z, _)) (Eq.symm (if_pos c8))) X
  · refine lv_aload_n hx hb dX6_cell_11 rfl (lv_at hl 0 rfl) ?_
    refine lv_iload_n hx hb dX6_cell_12 rfl (lv_at hl 1 rfl) ?_
    refine callVR (rest := []) C hA (wR_sh a cI cZ) X (kX6_cellOf l D a cI cZ _ x1 hS) (cwV 1 C.2.2.2.2.1 (gV wl_X6_192 wt_yX6_cellOf ws_yX6_cellOf wi_X6 wk_yX6_cellOf) rfl rfl rfl hdX6_cellOf ⟨Nat.le_of_ble_eq_true rfl, Nat.le_of_ble_eq_true rfl⟩) (ci := 6) (q0 := 0) rfl rfl rfl hl.1 rfl (Nat.le_of_ble_eq_true rfl) dX6_cell_13 ⟨Nat.le_refl 0, Nat.le_refl 0⟩ (fun H locs X => ?_)
    refine lv_goto (tgt := 21) hx hb dX6_cell_16 (by decide) ?_
    exact ret dX6_cell_21 (congrArg (fun z => (z, _)) (Eq.symm (if_neg c8))) X
def fX6_freeCells_L26 (z1 : Int32) : Nat → Int32 → Int32 → Int32 → Int32 → RSt → Int32
  | 0, y2, y3, y4, y5, σ0 => (if z1 = (0 : Int32) then y2 else y4)
  | f + 1, y2, y3, y4, y5, σ0 => (if (fX6_cellOf σ0 y5) = (-1 : Int32) then (if (y3 + (1 : Int32)) ≤ y4 then (fX6_freeCells_L26 z1 f (y2 + (1 : Int32)) (y3 + (1 : Int32)) y4 (y5 + 1) σ0) else (fX6_freeCells_L26 z1 f (y2 + (1 : Int32)) (y3 + (1 : Int32)) (y3 + (1 : Int32)) (y5 + 1) σ0)) else (if (0 : Int32) ≤ y4 then (fX6_freeCells_L26 z1 f (y2 + (0 : Int32)) (0 : Int32) y4 (y5 + 1) σ0) else (fX6_freeCells_L26 z1 f (y2 + (0 : Int32)) (0 : Int32) (0 : Int32) (y5 + 1) σ0)))
def fX6_freeCells (σ : RSt) (x1 : Int32) : Int32 := (if (r_manner σ) = (3 : Int32) then ((100 : Int32) - (r_top σ)) else (fX6_freeCells_L26 x1 (((Int32.toInt (200 : Int32)) - (Int32.toInt (0 : Int32))).toNat) (0 : Int32) (0 : Int32) (0 : Int32) (0 : Int32) σ))
theorem hdX6_freeCells : yX6_freeCells.cls = RX6 ∧ yX6_freeCells.cls ≠ "java/lang/invoke/MethodHandle" ∧ yX6_freeCells.cls ≠ "java/lang/invoke/VarHandle" ∧ (parseMethodDescriptor yX6_freeCells.desc).map (fun d => d.parameters.length) = some 1 := by decide +kernel
set_option maxHeartbeats 250000 in
set_option maxRecDepth 100000 in
theorem kX6_freeCells (l : Launch) (D : va_G) (a : Nat → Nat) (cI cZ : ClassId) (σ : RSt) (x1 : Int32) (hS : S0 σ) : CR l D (tyIZ cI cZ) (wR a cI cZ) yX6_freeCells cX6_freeCells 7 .int (rmk 1 22) [.ref (a 0), .int x1] σ (fX6_freeCells σ x1) σ := by
  refine CR.of pnX6 ⟨rfl, rfl⟩ (Nat.le_of_ble_eq_true rfl) rfl (fun p e s m args below meth c A Q ls C X hA hl ret => ?_)
  have C : Cx p s m args meth c cX6_freeCells 7 RX6 D (tyIZ cI cZ) := C
  have hx := C.1
  have hb := C.2.1
  have hl : lv_has ls 7 [(0, .ref (a 0)), (1, .int x1)] := hl
  refine lv_aload_n hx hb dX6_freeCells_0 rfl (lv_at hl 0 rfl) ?_
  refine rg_X6_X6_manner (v := (r_manner σ)) C X rfl dX6_freeCells_1 ?_
  refine lv_iconst (v := (3)) hx hb dX6_freeCells_4 (by decide) ?_
  refine lv_icmp_ne (tgt := 16) hx hb dX6_freeCells_5 (by decide) (fun c5 => ?_) (fun c5 => ?_)
  · refine lv_iconst (v := (0)) hx hb dX6_freeCells_16 (by decide) ?_
    refine lv_istore_n (lv' := [(2, .int (0 : Int32)), (0, .ref (a 0)), (1, .int x1)]) hx hb dX6_freeCells_17 rfl hl (by decide) rfl (fun ls hl => ?_)
    refine lv_iconst (v := (0)) hx hb dX6_freeCells_18 (by decide) ?_
    refine lv_istore_n (lv' := [(3, .int (0 : Int32)), (2, .int (0 : Int32)), (0, .ref (a 0)), (1, .int x1)]) hx hb dX6_freeCells_19 rfl hl (by decide) rfl (fun ls hl => ?_)
    refine lv_iconst (v := (0)) hx hb dX6_freeCells_20 (by decide) ?_
    refine lv_istore (lv' := [(4, .int (0 : Int32)), (3, .int (0 : Int32)), (2, .int (0 : Int32)), (0, .ref (a 0)), (1, .int x1)]) hx hb dX6_freeCells_21 hl (by decide) rfl (fun ls hl => ?_)
    refine lv_iconst (v := (0)) hx hb dX6_freeCells_23 (by decide) ?_
    refine lv_istore (lv' := [(5, .int (0 : Int32)), (4, .int (0 : Int32)), (3, .int (0 : Int32)), (2, .int (0 : Int32)), (0, .ref (a 0)), (1, .int x1)]) hx hb dX6_freeCells_24 hl (by decide) rfl (fun ls hl => ?_)
    have L26 : ∀ (f : Nat) (y2 : Int32) (y3 : Int32) (y4 : Int32) (y5 : Int32) (hf : ((Int32.toInt (200 : Int32)) - (Int32.toInt y5)).toNat = f) (hnn : 0 ≤ Int32.toInt y5) (he : fX6_freeCells_L26 x1 f y2 y3 y4 y5 σ = (fX6_freeCells σ x1)) (H : Heap) (locs : List Loc) (ls : Array Slot) (X : Sx A D (wR a cI cZ σ) s H locs) (hl : lv_has ls 7 [(0, .ref (a 0)), (1, .int x1), (2, .int y2), (3, .int y3), (4, .int y4), (5, .int y5)]), W p l e (rmk 1 22) s m args below meth c H locs 0 0 Q (F0 m 26 ls []) := by
      intro f
      induction f with
      | zero =>
        intro y2 y3 y4 y5 hf hnn he H locs ls X hl
        refine lv_iload hx hb dX6_freeCells_26 (lv_at hl 5 rfl) ?_
        refine lv_sipush (v := (200)) hx hb dX6_freeCells_28 (by decide) ?_
        refine lv_icmp_ge (tgt := 97) hx hb dX6_freeCells_31 (by decide) (fun c31 => ?_) (fun c31 => (lp_z hf c31).elim)
        refine lv_iload_n hx hb dX6_freeCells_97 rfl (lv_at hl 1 rfl) ?_
        refine lv_if_eq (tgt := 106) hx hb dX6_freeCells_98 (by decide) (fun c98 => ?_) (fun c98 => ?_)
        · refine lv_iload_n hx hb dX6_freeCells_106 rfl (lv_at hl 2 rfl) ?_
          exact ret dX6_freeCells_107 (congrArg (fun z => (z, _)) (Eq.trans (Eq.symm (if_pos c98)) he)) X
        · refine lv_iload hx hb dX6_freeCells_101 (lv_at hl 4 rfl) ?_
          refine lv_goto (tgt := 107) hx hb dX6_freeCells_103 (by decide) ?_
          exact ret dX6_freeCells_107 (congrArg (fun z => (z, _)) (Eq.trans (Eq.symm (if_neg c98)) he)) X
      | succ f ih26 =>
        intro y2 y3 y4 y5 hf hnn he H locs ls X hl
        refine lv_iload hx hb dX6_freeCells_26 (lv_at hl 5 rfl) ?_
        refine lv_sipush (v := (200)) hx hb dX6_freeCells_28 (by decide) ?_
        refine lv_icmp_ge (tgt := 97) hx hb dX6_freeCells_31 (by decide) (fun c31 => (lp_s hf c31).elim) (fun c31 => ?_)
        refine lv_aload_n hx hb dX6_freeCells_34 rfl (lv_at hl 0 rfl) ?_
        refine lv_iload hx hb dX6_freeCells_35 (lv_at hl 5 rfl) ?_
        refine callVR (rest := []) C hA (wR_sh a cI cZ) X (kX6_cellOf l D a cI cZ _ y5 hS) (cwV 1 C.2.2.2.2.1 (gV wl_X6_192 wt_yX6_cellOf ws_yX6_cellOf wi_X6 wk_yX6_cellOf) rfl rfl rfl hdX6_cellOf ⟨Nat.le_of_ble_eq_true rfl, Nat.le_of_ble_eq_true rfl⟩) (ci := 6) (q0 := 0) rfl rfl rfl hl.1 rfl (Nat.le_of_ble_eq_true rfl) dX6_freeCells_37 ⟨Nat.le_refl 0, Nat.le_refl 0⟩ (fun H locs X => ?_)
        refine lv_iconst (v := (-1)) hx hb dX6_freeCells_40 (by decide) ?_
        refine lv_icmp_ne (tgt := 48) hx hb dX6_freeCells_41 (by decide) (fun c41 => ?_) (fun c41 => ?_)
        · refine lv_iconst (v := (0)) hx hb dX6_freeCells_48 (by decide) ?_
          refine lv_istore (lv' := [(6, .int (0 : Int32)), (0, .ref (a 0)), (1, .int x1), (2, .int y2), (3, .int y3), (4, .int y4), (5, .int y5)]) hx hb dX6_freeCells_49 hl (by decide) rfl (fun ls hl => ?_)
          refine lv_iload_n hx hb dX6_freeCells_51 rfl (lv_at hl 3 rfl) ?_
          refine lv_iload hx hb dX6_freeCells_52 (lv_at hl 0 rfl) ?_
          refine lv_if_eq (tgt := 61) hx hb dX6_freeCells_54 (by decide) (fun c54 => ?_) (fun c54 => absurd c54 (by decide))
          refine lv_iconst (v := (0)) hx hb dX6_freeCells_61 (by decide) ?_
          refine lv_iadd hx hb dX6_freeCells_62 ?_
          refine lv_istore_n (lv' := [(2, .int (y2 + (0 : Int32))), (6, .int (0 : Int32)), (0, .ref (a 0)), (1, .int x1), (3, .int y3), (4, .int y4), (5, .int y5)]) hx hb dX6_freeCells_63 rfl hl (by decide) rfl (fun ls hl => ?_)
          refine lv_iload hx hb dX6_freeCells_64 (lv_at hl 1 rfl) ?_
          refine lv_if_eq (tgt := 75) hx hb dX6_freeCells_66 (by decide) (fun c66 => ?_) (fun c66 => absurd c66 (by decide))
          refine lv_iconst (v := (0)) hx hb dX6_freeCells_75 (by decide) ?_
          refine lv_istore_n (lv' := [(3, .int (0 : Int32)), (2, .int (y2 + (0 : Int32))), (6, .int (0 : Int32)), (0, .ref (a 0)), (1, .int x1), (4, .int y4), (5, .int y5)]) hx hb dX6_freeCells_76 rfl hl (by decide) rfl (fun ls hl => ?_)
          refine lv_iload_n hx hb dX6_freeCells_77 rfl (lv_at hl 0 rfl) ?_
          refine lv_iload hx hb dX6_freeCells_78 (lv_at hl 5 rfl) ?_
          refine lv_icmp_le (tgt := 87) hx hb dX6_freeCells_80 (by decide) (fun c80 => ?_) (fun c80 => ?_)
          · refine lv_iload hx hb dX6_freeCells_87 (lv_at hl 5 rfl) ?_
            refine lv_istore (lv' := [(4, .int y4), (3, .int (0 : Int32)), (2, .int (y2 + (0 : Int32))), (6, .int (0 : Int32)), (0, .ref (a 0)), (1, .int x1), (5, .int y5)]) hx hb dX6_freeCells_89 hl (by decide) rfl (fun ls hl => ?_)
            refine lv_iinc (v := (y5 + 1)) (lv' := [(5, .int (y5 + 1)), (4, .int y4), (3, .int (0 : Int32)), (2, .int (y2 + (0 : Int32))), (6, .int (0 : Int32)), (0, .ref (a 0)), (1, .int x1)]) hx hb dX6_freeCells_91 hl (k := 6) rfl rfl (by decide) rfl (fun ls hl => ?_)
            refine lv_goto (tgt := 26) hx hb dX6_freeCells_94 (by decide) ?_
            exact ih26 (y2 + (0 : Int32)) (0 : Int32) y4 (y5 + 1) (lp_b hf) (lp_nn hnn hf) (Eq.trans (Eq.symm (Eq.trans (if_neg c41) (if_pos c80))) he) _ _ _ X (lv_sub hl [5, 6, 3, 2, 1, 0] rfl)
          · refine lv_iload_n hx hb dX6_freeCells_83 rfl (lv_at hl 0 rfl) ?_
            refine lv_goto (tgt := 89) hx hb dX6_freeCells_84 (by decide) ?_
            refine lv_istore (lv' := [(4, .int (0 : Int32)), (3, .int (0 : Int32)), (2, .int (y2 + (0 : Int32))), (6, .int (0 : Int32)), (0, .ref (a 0)), (1, .int x1), (5, .int y5)]) hx hb dX6_freeCells_89 hl (by decide) rfl (fun ls hl => ?_)
            refine lv_iinc (v := (y5 + 1)) (lv' := [(5, .int (y5 + 1)), (4, .int (0 : Int32)), (3, .int (0 : Int32)), (2, .int (y2 + (0 : Int32))), (6, .int (0 : Int32)), (0, .ref (a 0)), (1, .int x1)]) hx hb dX6_freeCells_91 hl (k := 6) rfl rfl (by decide) rfl (fun ls hl => ?_)
            refine lv_goto (tgt := 26) hx hb dX6_freeCells_94 (by decide) ?_
            exact ih26 (y2 + (0 : Int32)) (0 : Int32) (0 : Int32) (y5 + 1) (lp_b hf) (lp_nn hnn hf) (Eq.trans (Eq.symm (Eq.trans (if_neg c41) (if_neg c80))) he) _ _ _ X (lv_sub hl [5, 6, 3, 2, 1, 0] rfl)
        · refine lv_iconst (v := (1)) hx hb dX6_freeCells_44 (by decide) ?_
          refine lv_goto (tgt := 49) hx hb dX6_freeCells_45 (by decide) ?_
          refine lv_istore (lv' := [(6, .int (1 : Int32)), (0, .ref (a 0)), (1, .int x1), (2, .int y2), (3, .int y3), (4, .int y4), (5, .int y5)]) hx hb dX6_freeCells_49 hl (by decide) rfl (fun ls hl => ?_)
          refine lv_iload_n hx hb dX6_freeCells_51 rfl (lv_at hl 3 rfl) ?_
          refine lv_iload hx hb dX6_freeCells_52 (lv_at hl 0 rfl) ?_
          refine lv_if_eq (tgt := 61) hx hb dX6_freeCells_54 (by decide) (fun c54 => absurd c54 (by decide)) (fun c54 => ?_)
          refine lv_iconst (v := (1)) hx hb dX6_freeCells_57 (by decide) ?_
          refine lv_goto (tgt := 62) hx hb dX6_freeCells_58 (by decide) ?_
          refine lv_iadd hx hb dX6_freeCells_62 ?_
          refine lv_istore_n (lv' := [(2, .int (y2 + (1 : Int32))), (6, .int (1 : Int32)), (0, .ref (a 0)), (1, .int x1), (3, .int y3), (4, .int y4), (5, .int y5)]) hx hb dX6_freeCells_63 rfl hl (by decide) rfl (fun ls hl => ?_)
          refine lv_iload hx hb dX6_freeCells_64 (lv_at hl 1 rfl) ?_
          refine lv_if_eq (tgt := 75) hx hb dX6_freeCells_66 (by decide) (fun c66 => absurd c66 (by decide)) (fun c66 => ?_)
          refine lv_iload_n hx hb dX6_freeCells_69 rfl (lv_at hl 4 rfl) ?_
          refine lv_iconst (v := (1)) hx hb dX6_freeCells_70 (by decide) ?_
          refine lv_iadd hx hb dX6_freeCells_71 ?_
          refine lv_goto (tgt := 76) hx hb dX6_freeCells_72 (by decide) ?_
          refine lv_istore_n (lv' := [(3, .int (y3 + (1 : Int32))), (2, .int (y2 + (1 : Int32))), (6, .int (1 : Int32)), (0, .ref (a 0)), (1, .int x1), (4, .int y4), (5, .int y5)]) hx hb dX6_freeCells_76 rfl hl (by decide) rfl (fun ls hl => ?_)
          refine lv_iload_n hx hb dX6_freeCells_77 rfl (lv_at hl 0 rfl) ?_
          refine lv_iload hx hb dX6_freeCells_78 (lv_at hl 5 rfl) ?_
          refine lv_icmp_le (tgt := 87) hx hb dX6_freeCells_80 (by decide) (fun c80 => ?_) (fun c80 => ?_)
          · refine lv_iload hx hb dX6_freeCells_87 (lv_at hl 5 rfl) ?_
            refine lv_istore (lv' := [(4, .int y4), (3, .int (y3 + (1 : Int32))), (2, .int (y2 + (1 : Int32))), (6, .int (1 : Int32)), (0, .ref (a 0)), (1, .int x1), (5, .int y5)]) hx hb dX6_freeCells_89 hl (by decide) rfl (fun ls hl => ?_)
            refine lv_iinc (v := (y5 + 1)) (lv' := [(5, .int (y5 + 1)), (4, .int y4), (3, .int (y3 + (1 : Int32))), (2, .int (y2 + (1 : Int32))), (6, .int (1 : Int32)), (0, .ref (a 0)), (1, .int x1)]) hx hb dX6_freeCells_91 hl (k := 6) rfl rfl (by decide) rfl (fun ls hl => ?_)
            refine lv_goto (tgt := 26) hx hb dX6_freeCells_94 (by decide) ?_
            exact ih26 (y2 + (1 : Int32)) (y3 + (1 : Int32)) y4 (y5 + 1) (lp_b hf) (lp_nn hnn hf) (Eq.trans (Eq.symm (Eq.trans (if_pos c41) (if_pos c80))) he) _ _ _ X (lv_sub hl [5, 6, 3, 2, 1, 0] rfl)
          · refine lv_iload_n hx hb dX6_freeCells_83 rfl (lv_at hl 0 rfl) ?_
            refine lv_goto (tgt := 89) hx hb dX6_freeCells_84 (by decide) ?_
            refine lv_istore (lv' := [(4, .int (y3 + (1 : Int32))), (3, .int (y3 + (1 : Int32))), (2, .int (y2 + (1 : Int32))), (6, .int (1 : Int32)), (0, .ref (a 0)), (1, .int x1), (5, .int y5)]) hx hb dX6_freeCells_89 hl (by decide) rfl (fun ls hl => ?_)
            refine lv_iinc (v := (y5 + 1)) (lv' := [(5, .int (y5 + 1)), (4, .int (y3 + (1 : Int32))), (3, .int (y3 + (1 : Int32))), (2, .int (y2 + (1 : Int32))), (6, .int (1 : Int32)), (0, .ref (a 0)), (1, .int x1)]) hx hb dX6_freeCells_91 hl (k := 6) rfl rfl (by decide) rfl (fun ls hl => ?_)
            refine lv_goto (tgt := 26) hx hb dX6_freeCells_94 (by decide) ?_
            exact ih26 (y2 + (1 : Int32)) (y3 + (1 : Int32)) (y3 + (1 : Int32)) (y5 + 1) (lp_b hf) (lp_nn hnn hf) (Eq.trans (Eq.symm (Eq.trans (if_pos c41) (if_neg c80))) he) _ _ _ X (lv_sub hl [5, 6, 3, 2, 1, 0] rfl)
    exact L26 (((Int32.toInt (200 : Int32)) - (Int32.toInt (0 : Int32))).toNat) (0 : Int32) (0 : Int32) (0 : Int32) (0 : Int32) rfl (by decide) (Eq.symm (if_neg c5)) _ _ _ X (lv_sub hl [4, 5, 3, 2, 1, 0] rfl)
  · refine lv_bipush (v := (100)) hx hb dX6_freeCells_8 (by decide) ?_
    refine lv_aload_n hx hb dX6_freeCells_10 rfl (lv_at hl 0 rfl) ?_
    refine rg_X6_X6_top (v := (r_top σ)) C X rfl dX6_freeCells_11 ?_
    refine lv_isub hx hb dX6_freeCells_14 ?_
    exact ret dX6_freeCells_15 (congrArg (fun z => (z, _)) (Eq.symm (if_pos c5))) X
def fX6_digest_L63 (z3 : Int32) : Nat → Int64 → Int32 → RSt → Int64
  | 0, y1, y4, σ0 => y1
  | f + 1, y1, y4, σ0 => (fX6_digest_L63 z3 f (((31 : Int64) * y1) + (Int32.toInt64 ((r_field σ0) (ix (((6 : Int32) * z3) + y4))))) (y4 + 1) σ0)
def fX6_digest_L6 : Nat → Int64 → Int32 → RSt → Int64
  | 0, y1, y3, σ0 => y1
  | f + 1, y1, y3, σ0 => (fX6_digest_L6 f (fX6_digest_L63 y3 (((Int32.toInt ((r_many σ0) (ix y3))) - (Int32.toInt (0 : Int32))).toNat) (((31 : Int64) * (((31 : Int64) * (((31 : Int64) * y1) + (Int32.toInt64 ((r_place σ0) (ix y3))))) + (Int32.toInt64 ((r_colour σ0) (ix y3))))) + (Int32.toInt64 (if ((r_isFreed σ0) (ix y3)) = (0 : Int32) then (0 : Int32) else (1 : Int32)))) (0 : Int32) σ0) (y3 + 1) σ0)
def fX6_digest_L108 : Nat → Int64 → Int32 → RSt → Int64
  | 0, y1, y3, σ0 => (((31 : Int64) * y1) + (Int32.toInt64 (r_way σ0)))
  | f + 1, y1, y3, σ0 => (fX6_digest_L108 f (((31 : Int64) * y1) + (Int32.toInt64 (fX6_holder σ0 y3))) (y3 + 1) σ0)
def fX6_digest (σ : RSt) : Int64 := (fX6_digest_L108 (((Int32.toInt (30 : Int32)) - (Int32.toInt (0 : Int32))).toNat) (fX6_digest_L6 (((Int32.toInt (r_things σ)) - (Int32.toInt (0 : Int32))).toNat) (3 : Int64) (0 : Int32) σ) (0 : Int32) σ)
theorem hdX6_digest : yX6_digest.cls = RX6 ∧ yX6_digest.cls ≠ "java/lang/invoke/MethodHandle" ∧ yX6_digest.cls ≠ "java/lang/invoke/VarHandle" ∧ (parseMethodDescriptor yX6_digest.desc).map (fun d => d.parameters.length) = some 0 := by decide +kernel
set_option maxHeartbeats 250000 in
set_option maxRecDepth 100000 in
theorem kX6_digest (l : Launch) (D : va_G) (a : Nat → Nat) (cI cZ : ClassId) (σ : RSt) (hS : S0 σ) : CJ l D (tyIZ cI cZ) (wR a cI cZ) yX6_digest cX6_digest 5 (rmk 1 21) [.ref (a 0)] σ (fX6_digest σ) σ := by
  refine CJ.of pnX6 ⟨rfl, rfl⟩ (Nat.le_of_ble_eq_true rfl) (fun p e s m args below meth c A Q ls C X hA hl ret => ?_)
  have C : Cx p s m args meth c cX6_digest 5 RX6 D (tyIZ cI cZ) := C
  have hx := C.1
  have hb := C.2.1
  have hl : lv_has ls 5 [(0, .ref (a 0))] := hl
  refine lv_ldc2 (v := (3)) hx hb C.2.2.2.1 (C.2.2.2.2.1 _ wv_X6_202) dX6_digest_0 ?_
  refine lv_lstore_n (lv' := [(1, .long (3 : Int64)), (0, .ref (a 0))]) hx hb dX6_digest_3 rfl hl (by decide) rfl (fun ls hl => ?_)
  refine lv_iconst (v := (0)) hx hb dX6_digest_4 (by decide) ?_
  refine lv_istore_n (lv' := [(3, .int (0 : Int32)), (1, .long (3 : Int64)), (0, .ref (a 0))]) hx hb dX6_digest_5 rfl hl (by decide) rfl (fun ls hl => ?_)
  have L6 : ∀ (res : Int64) (hx6 : ∀ (H : Heap) (locs : List Loc) (ls : Array Slot), Sx A D (wR a cI cZ σ) s H locs → lv_has ls 5 [(0, .ref (a 0)), (1, .long res)] → W p l e (rmk 1 21) s m args below meth c H locs 0 0 Q (F0 m 106 ls [])) (f : Nat) (y1 : Int64) (y3 : Int32) (hf : ((Int32.toInt (r_things σ)) - (Int32.toInt y3)).toNat = f) (hnn : 0 ≤ Int32.toInt y3) (he : fX6_digest_L6 f y1 y3 σ = res) (H : Heap) (locs : List Loc) (ls : Array Slot) (X : Sx A D (wR a cI cZ σ) s H locs) (hl : lv_has ls 5 [(0, .ref (a 0)), (1, .long y1), (3, .int y3)]), W p l e (rmk 1 21) s m args below meth c H locs 0 0 Q (F0 m 6 ls []) := by
    intro res hx6 f
    induction f with
    | zero =>
      intro y1 y3 hf hnn he H locs ls X hl
      refine lv_iload_n hx hb dX6_digest_6 rfl (lv_at hl 2 rfl) ?_
      refine lv_aload_n hx hb dX6_digest_7 rfl (lv_at hl 0 rfl) ?_
      refine rg_X6_X6_things (v := (r_things σ)) C X rfl dX6_digest_8 ?_
      refine lv_icmp_ge (tgt := 106) hx hb dX6_digest_11 (by decide) (fun c11 => ?_) (fun c11 => (lp_z hf c11).elim)
      exact hx6 _ _ _ (Eq.subst (motive := fun z => Sx A D (wR a cI cZ σ) s _ _) he X) (Eq.subst (motive := fun z => lv_has _ 5 [(0, .ref (a 0)), (1, .long z)]) he (lv_sub hl [0, 1] rfl))
    | succ f ih6 =>
      intro y1 y3 hf hnn he H locs ls X hl
      refine lv_iload_n hx hb dX6_digest_6 rfl (lv_at hl 2 rfl) ?_
      refine lv_aload_n hx hb dX6_digest_7 rfl (lv_at hl 0 rfl) ?_
      refine rg_X6_X6_things (v := (r_things σ)) C X rfl dX6_digest_8 ?_
      refine lv_icmp_ge (tgt := 106) hx hb dX6_digest_11 (by decide) (fun c11 => (lp_s hf c11).elim) (fun c11 => ?_)
      have hi6 : vp_in y3 120 := lp_in hnn hf (s0_th hS)
      refine lv_ldc2 (v := (31)) hx hb C.2.2.2.1 (C.2.2.2.2.1 _ wv_X6_204) dX6_digest_14 ?_
      refine lv_ldc2 (v := (31)) hx hb C.2.2.2.1 (C.2.2.2.2.1 _ wv_X6_204) dX6_digest_17 ?_
      refine lv_ldc2 (v := (31)) hx hb C.2.2.2.1 (C.2.2.2.2.1 _ wv_X6_204) dX6_digest_20 ?_
      refine lv_lload_n hx hb dX6_digest_23 rfl (lv_at hl 1 rfl) ?_
      refine lv_lmul hx hb dX6_digest_24 ?_
      refine lv_aload_n hx hb dX6_digest_25 rfl (lv_at hl 0 rfl) ?_
      refine rg_X6_X6_place C X dX6_digest_26 ?_
      refine lv_iload_n hx hb dX6_digest_29 rfl (lv_at hl 2 rfl) ?_
      refine ra_place (v := ((r_place σ) (ix y3))) C X (lp_in hnn hf (s0_th hS)) rfl dX6_digest_30 ?_
      refine lv_i2l hx hb dX6_digest_31 rfl ?_
      refine lv_ladd hx hb dX6_digest_32 ?_
      refine lv_lmul hx hb dX6_digest_33 ?_
      refine lv_aload_n hx hb dX6_digest_34 rfl (lv_at hl 0 rfl) ?_
      refine rg_X6_X6_colour C X dX6_digest_35 ?_
      refine lv_iload_n hx hb dX6_digest_38 rfl (lv_at hl 2 rfl) ?_
      refine ra_colour (v := ((r_colour σ) (ix y3))) C X (lp_in hnn hf (s0_th hS)) rfl dX6_digest_39 ?_
      refine lv_i2l hx hb dX6_digest_40 rfl ?_
      refine lv_ladd hx hb dX6_digest_41 ?_
      refine lv_lmul hx hb dX6_digest_42 ?_
      refine lv_aload_n hx hb dX6_digest_43 rfl (lv_at hl 0 rfl) ?_
      refine rg_X6_X6_isFreed C X dX6_digest_44 ?_
      refine lv_iload_n hx hb dX6_digest_47 rfl (lv_at hl 2 rfl) ?_
      refine ra_isFreed (v := ((r_isFreed σ) (ix y3))) C X (lp_in hnn hf (s0_th hS)) rfl dX6_digest_48 ?_
      have J57 : W p l e (rmk 1 21) s m args below meth c H locs 0 0 Q (F0 m 57 ls [.int (if ((r_isFreed σ) (ix y3)) = (0 : Int32) then (0 : Int32) else (1 : Int32)), .long ((31 : Int64) * (((31 : Int64) * (((31 : Int64) * y1) + (Int32.toInt64 ((r_place σ) (ix y3))))) + (Int32.toInt64 ((r_colour σ) (ix y3)))))]) := by
        refine lv_i2l hx hb dX6_digest_57 rfl ?_
        refine lv_ladd hx hb dX6_digest_58 ?_
        refine lv_lstore_n (lv' := [(1, .long (((31 : Int64) * (((31 : Int64) * (((31 : Int64) * y1) + (Int32.toInt64 ((r_place σ) (ix y3))))) + (Int32.toInt64 ((r_colour σ) (ix y3))))) + (Int32.toInt64 (if ((r_isFreed σ) (ix y3)) = (0 : Int32) then (0 : Int32) else (1 : Int32))))), (0, .ref (a 0)), (3, .int y3)]) hx hb dX6_digest_59 rfl hl (by decide) rfl (fun ls hl => ?_)
        refine lv_iconst (v := (0)) hx hb dX6_digest_60 (by decide) ?_
        refine lv_istore (lv' := [(4, .int (0 : Int32)), (1, .long (((31 : Int64) * (((31 : Int64) * (((31 : Int64) * y1) + (Int32.toInt64 ((r_place σ) (ix y3))))) + (Int32.toInt64 ((r_colour σ) (ix y3))))) + (Int32.toInt64 (if ((r_isFreed σ) (ix y3)) = (0 : Int32) then (0 : Int32) else (1 : Int32))))), (0, .ref (a 0)), (3, .int y3)]) hx hb dX6_digest_61 hl (by decide) rfl (fun ls hl => ?_)
        have L63 : ∀ (res : Int64) (hx63 : ∀ (H : Heap) (locs : List Loc) (ls : Array Slot), Sx A D (wR a cI cZ σ) s H locs → lv_has ls 5 [(0, .ref (a 0)), (1, .long res), (3, .int y3)] → W p l e (rmk 1 21) s m args below meth c H locs 0 0 Q (F0 m 100 ls [])) (f : Nat) (y1 : Int64) (y4 : Int32) (hf : ((Int32.toInt ((r_many σ) (ix y3))) - (Int32.toInt y4)).toNat = f) (hnn : 0 ≤ Int32.toInt y4) (he : fX6_digest_L63 y3 f y1 y4 σ = res) (H : Heap) (locs : List Loc) (ls : Array Slot) (X : Sx A D (wR a cI cZ σ) s H locs) (hl : lv_has ls 5 [(0, .ref (a 0)), (1, .long y1), (3, .int y3), (4, .int y4)]), W p l e (rmk 1 21) s m args below meth c H locs 0 0 Q (F0 m 63 ls []) := by
          intro res hx63 f
          induction f with
          | zero =>
            intro y1 y4 hf hnn he H locs ls X hl
            refine lv_iload hx hb dX6_digest_63 (lv_at hl 3 rfl) ?_
            refine lv_aload_n hx hb dX6_digest_65 rfl (lv_at hl 0 rfl) ?_
            refine rg_X6_X6_many C X dX6_digest_66 ?_
            refine lv_iload_n hx hb dX6_digest_69 rfl (lv_at hl 2 rfl) ?_
            refine ra_many (v := ((r_many σ) (ix y3))) C X hi6 rfl dX6_digest_70 ?_
            refine lv_icmp_ge (tgt := 100) hx hb dX6_digest_71 (by decide) (fun c71 => ?_) (fun c71 => (lp_z hf c71).elim)
            exact hx63 _ _ _ (Eq.subst (motive := fun z => Sx A D (wR a cI cZ σ) s _ _) he X) (Eq.subst (motive := fun z => lv_has _ 5 [(0, .ref (a 0)), (1, .long z), (3, .int y3)]) he (lv_sub hl [0, 1, 2] rfl))
          | succ f ih63 =>
            intro y1 y4 hf hnn he H locs ls X hl
            refine lv_iload hx hb dX6_digest_63 (lv_at hl 3 rfl) ?_
            refine lv_aload_n hx hb dX6_digest_65 rfl (lv_at hl 0 rfl) ?_
            refine rg_X6_X6_many C X dX6_digest_66 ?_
            refine lv_iload_n hx hb dX6_digest_69 rfl (lv_at hl 2 rfl) ?_
            refine ra_many (v := ((r_many σ) (ix y3))) C X hi6 rfl dX6_digest_70 ?_
            refine lv_icmp_ge (tgt := 100) hx hb dX6_digest_71 (by decide) (fun c71 => (lp_s hf c71).elim) (fun c71 => ?_)
            refine lv_ldc2 (v := (31)) hx hb C.2.2.2.1 (C.2.2.2.2.1 _ wv_X6_204) dX6_digest_74 ?_
            refine lv_lload_n hx hb dX6_digest_77 rfl (lv_at hl 1 rfl) ?_
            refine lv_lmul hx hb dX6_digest_78 ?_
            refine lv_aload_n hx hb dX6_digest_79 rfl (lv_at hl 0 rfl) ?_
            refine rg_X6_X6_field C X dX6_digest_80 ?_
            refine lv_bipush (v := (6)) hx hb dX6_digest_83 (by decide) ?_
            refine lv_iload_n hx hb dX6_digest_85 rfl (lv_at hl 2 rfl) ?_
            refine lv_imul hx hb dX6_digest_86 ?_
            refine lv_iload hx hb dX6_digest_87 (lv_at hl 3 rfl) ?_
            refine lv_iadd hx hb dX6_digest_89 ?_
            refine ra_field (v := ((r_field σ) (ix (((6 : Int32) * y3) + y4)))) C X (in_6x hi6 (lp_in hnn hf (s0_many hS _))) rfl dX6_digest_90 ?_
            refine lv_i2l hx hb dX6_digest_91 rfl ?_
            refine lv_ladd hx hb dX6_digest_92 ?_
            refine lv_lstore_n (lv' := [(1, .long (((31 : Int64) * y1) + (Int32.toInt64 ((r_field σ) (ix (((6 : Int32) * y3) + y4)))))), (0, .ref (a 0)), (3, .int y3), (4, .int y4)]) hx hb dX6_digest_93 rfl hl (by decide) rfl (fun ls hl => ?_)
            refine lv_iinc (v := (y4 + 1)) (lv' := [(4, .int (y4 + 1)), (1, .long (((31 : Int64) * y1) + (Int32.toInt64 ((r_field σ) (ix (((6 : Int32) * y3) + y4)))))), (0, .ref (a 0)), (3, .int y3)]) hx hb dX6_digest_94 hl (k := 3) rfl rfl (by decide) rfl (fun ls hl => ?_)
            refine lv_goto (tgt := 63) hx hb dX6_digest_97 (by decide) ?_
            exact ih63 (((31 : Int64) * y1) + (Int32.toInt64 ((r_field σ) (ix (((6 : Int32) * y3) + y4))))) (y4 + 1) (lp_b hf) (lp_nn hnn hf) he _ _ _ X (lv_sub hl [2, 1, 3, 0] rfl)
        refine L63 (fX6_digest_L63 y3 (((Int32.toInt ((r_many σ) (ix y3))) - (Int32.toInt (0 : Int32))).toNat) (((31 : Int64) * (((31 : Int64) * (((31 : Int64) * y1) + (Int32.toInt64 ((r_place σ) (ix y3))))) + (Int32.toInt64 ((r_colour σ) (ix y3))))) + (Int32.toInt64 (if ((r_isFreed σ) (ix y3)) = (0 : Int32) then (0 : Int32) else (1 : Int32)))) (0 : Int32) σ) (fun H locs ls X hl => ?_) (((Int32.toInt ((r_many σ) (ix y3))) - (Int32.toInt (0 : Int32))).toNat) (((31 : Int64) * (((31 : Int64) * (((31 : Int64) * y1) + (Int32.toInt64 ((r_place σ) (ix y3))))) + (Int32.toInt64 ((r_colour σ) (ix y3))))) + (Int32.toInt64 (if ((r_isFreed σ) (ix y3)) = (0 : Int32) then (0 : Int32) else (1 : Int32)))) (0 : Int32) rfl (by decide) rfl _ _ _ X (lv_sub hl [2, 1, 3, 0] rfl)
        refine lv_iinc (v := (y3 + 1)) (lv' := [(3, .int (y3 + 1)), (0, .ref (a 0)), (1, .long (fX6_digest_L63 y3 (((Int32.toInt ((r_many σ) (ix y3))) - (Int32.toInt (0 : Int32))).toNat) (((31 : Int64) * (((31 : Int64) * (((31 : Int64) * y1) + (Int32.toInt64 ((r_place σ) (ix y3))))) + (Int32.toInt64 ((r_colour σ) (ix y3))))) + (Int32.toInt64 (if ((r_isFreed σ) (ix y3)) = (0 : Int32) then (0 : Int32) else (1 : Int32)))) (0 : Int32) σ))]) hx hb dX6_digest_100 hl (k := 2) rfl rfl (by decide) rfl (fun ls hl => ?_)
        refine lv_goto (tgt := 6) hx hb dX6_digest_103 (by decide) ?_
        exact ih6 (fX6_digest_L63 y3 (((Int32.toInt ((r_many σ) (ix y3))) - (Int32.toInt (0 : Int32))).toNat) (((31 : Int64) * (((31 : Int64) * (((31 : Int64) * y1) + (Int32.toInt64 ((r_place σ) (ix y3))))) + (Int32.toInt64 ((r_colour σ) (ix y3))))) + (Int32.toInt64 (if ((r_isFreed σ) (ix y3)) = (0 : Int32) then (0 : Int32) else (1 : Int32)))) (0 : Int32) σ) (y3 + 1) (lp_b hf) (lp_nn hnn hf) he _ _ _ X (lv_sub hl [1, 2, 0] rfl)
      refine lv_if_eq (tgt := 56) hx hb dX6_digest_49 (by decide) (fun c49 => ?_) (fun c49 => ?_)
      · refine lv_iconst (v := (0)) hx hb dX6_digest_56 (by decide) ?_
        rw [if_pos c49] at J57
        exact J57
      · refine lv_iconst (v := (1)) hx hb dX6_digest_52 (by decide) ?_
        refine lv_goto (tgt := 57) hx hb dX6_digest_53 (by decide) ?_
        rw [if_neg c49] at J57
        exact J57
  refine L6 (fX6_digest_L6 (((Int32.toInt (r_things σ)) - (Int32.toInt (0 : Int32))).toNat) (3 : Int64) (0 : Int32) σ) (fun H locs ls X hl => ?_) (((Int32.toInt (r_things σ)) - (Int32.toInt (0 : Int32))).toNat) (3 : Int64) (0 : Int32) rfl (by decide) rfl _ _ _ X (lv_sub hl [2, 1, 0] rfl)
  refine lv_iconst (v := (0)) hx hb dX6_digest_106 (by decide) ?_
  refine lv_istore_n (lv' := [(3, .int (0 : Int32)), (0, .ref (a 0)), (1, .long (fX6_digest_L6 (((Int32.toInt (r_things σ)) - (Int32.toInt (0 : Int32))).toNat) (3 : Int64) (0 : Int32) σ))]) hx hb dX6_digest_107 rfl hl (by decide) rfl (fun ls hl => ?_)
  have L108 : ∀ (f : Nat) (y1 : Int64) (y3 : Int32) (hf : ((Int32.toInt (30 : Int32)) - (Int32.toInt y3)).toNat = f) (hnn : 0 ≤ Int32.toInt y3) (he : fX6_digest_L108 f y1 y3 σ = (fX6_digest σ)) (H : Heap) (locs : List Loc) (ls : Array Slot) (X : Sx A D (wR a cI cZ σ) s H locs) (hl : lv_has ls 5 [(0, .ref (a 0)), (1, .long y1), (3, .int y3)]), W p l e (rmk 1 21) s m args below meth c H locs 0 0 Q (F0 m 108 ls []) := by
    intro f
    induction f with
    | zero =>
      intro y1 y3 hf hnn he H locs ls X hl
      refine lv_iload_n hx hb dX6_digest_108 rfl (lv_at hl 2 rfl) ?_
      refine lv_bipush (v := (30)) hx hb dX6_digest_109 (by decide) ?_
      refine lv_icmp_ge (tgt := 133) hx hb dX6_digest_111 (by decide) (fun c111 => ?_) (fun c111 => (lp_z hf c111).elim)
      refine lv_ldc2 (v := (31)) hx hb C.2.2.2.1 (C.2.2.2.2.1 _ wv_X6_204) dX6_digest_133 ?_
      refine lv_lload_n hx hb dX6_digest_136 rfl (lv_at hl 1 rfl) ?_
      refine lv_lmul hx hb dX6_digest_137 ?_
      refine lv_aload_n hx hb dX6_digest_138 rfl (lv_at hl 0 rfl) ?_
      refine rg_X6_X6_way (v := (r_way σ)) C X rfl dX6_digest_139 ?_
      refine lv_i2l hx hb dX6_digest_142 rfl ?_
      refine lv_ladd hx hb dX6_digest_143 ?_
      exact ret dX6_digest_144 (congrArg (fun z => (z, _)) he) X
    | succ f ih108 =>
      intro y1 y3 hf hnn he H locs ls X hl
      refine lv_iload_n hx hb dX6_digest_108 rfl (lv_at hl 2 rfl) ?_
      refine lv_bipush (v := (30)) hx hb dX6_digest_109 (by decide) ?_
      refine lv_icmp_ge (tgt := 133) hx hb dX6_digest_111 (by decide) (fun c111 => (lp_s hf c111).elim) (fun c111 => ?_)
      refine lv_ldc2 (v := (31)) hx hb C.2.2.2.1 (C.2.2.2.2.1 _ wv_X6_204) dX6_digest_114 ?_
      refine lv_lload_n hx hb dX6_digest_117 rfl (lv_at hl 1 rfl) ?_
      refine lv_lmul hx hb dX6_digest_118 ?_
      refine lv_aload_n hx hb dX6_digest_119 rfl (lv_at hl 0 rfl) ?_
      refine lv_iload_n hx hb dX6_digest_120 rfl (lv_at hl 2 rfl) ?_
      refine callVR (rest := [.long ((31 : Int64) * y1)]) C hA (wR_sh a cI cZ) X (kX6_holder l D a cI cZ _ y3 hS) (cwV 1 C.2.2.2.2.1 (gV wl_X6_206 wt_yX6_holder ws_yX6_holder wi_X6 wk_yX6_holder) rfl rfl rfl hdX6_holder ⟨Nat.le_of_ble_eq_true rfl, Nat.le_of_ble_eq_true rfl⟩) (ci := 6) (q0 := 0) rfl rfl rfl hl.1 rfl (Nat.le_of_ble_eq_true rfl) dX6_digest_121 ⟨Nat.le_refl 0, Nat.le_refl 0⟩ (fun H locs X => ?_)
      refine lv_i2l hx hb dX6_digest_124 rfl ?_
      refine lv_ladd hx hb dX6_digest_125 ?_
      refine lv_lstore_n (lv' := [(1, .long (((31 : Int64) * y1) + (Int32.toInt64 (fX6_holder σ y3)))), (0, .ref (a 0)), (3, .int y3)]) hx hb dX6_digest_126 rfl hl (by decide) rfl (fun ls hl => ?_)
      refine lv_iinc (v := (y3 + 1)) (lv' := [(3, .int (y3 + 1)), (1, .long (((31 : Int64) * y1) + (Int32.toInt64 (fX6_holder σ y3)))), (0, .ref (a 0))]) hx hb dX6_digest_127 hl (k := 2) rfl rfl (by decide) rfl (fun ls hl => ?_)
      refine lv_goto (tgt := 108) hx hb dX6_digest_130 (by decide) ?_
      exact ih108 (((31 : Int64) * y1) + (Int32.toInt64 (fX6_holder σ y3))) (y3 + 1) (lp_b hf) (lp_nn hnn hf) he _ _ _ X (lv_sub hl [2, 1, 0] rfl)
  exact L108 (((Int32.toInt (30 : Int32)) - (Int32.toInt (0 : Int32))).toNat) (fX6_digest_L6 (((Int32.toInt (r_things σ)) - (Int32.toInt (0 : Int32))).toNat) (3 : Int64) (0 : Int32) σ) (0 : Int32) rfl (by decide) rfl _ _ _ X (lv_sub hl [1, 2, 0] rfl)
