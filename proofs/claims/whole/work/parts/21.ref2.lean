theorem rq_manner_next (σ : RSt) (v : Int32) : r_manner (r_next_s σ v) = r_manner σ := rfl
theorem rq_manner_way (σ : RSt) (v : Int32) : r_manner (r_way_s σ v) = r_manner σ := rfl
theorem rq_rounds_way (σ : RSt) (v : Int32) : r_rounds (r_way_s σ v) = r_rounds σ := rfl
theorem cntB_pos {g : Nat → Int32} {n k : Nat} (hk : k < n) (h : ¬ g k = 0) : 0 < cntB g n := by
  induction n with
  | zero => omega
  | succ n ih =>
    simp only [cntB]
    rcases Nat.lt_succ_iff_lt_or_eq.mp hk with h1 | rfl
    · have := ih h1
      omega
    · rw [if_neg h]
      omega
theorem cntB_congr {g g' : Nat → Int32} {n : Nat} (h : ∀ k, k < n → (g k = 0 ↔ g' k = 0)) : cntB g n = cntB g' n := by
  induction n with
  | zero => rfl
  | succ n ih =>
    simp only [cntB]
    rw [ih (fun k hk => h k (by omega))]
    have := h n (by omega)
    by_cases c : g n = 0
    · rw [if_pos c, if_pos (this.mp c)]
    · rw [if_neg c, if_neg (fun c2 => c (this.mpr c2))]
theorem cntB_dec {g : Nat → Int32} {n k : Nat} (hk : k < n) (h : ¬ g k = 0) : cntB (upd g k 0) n + 1 = cntB g n := by
  induction n with
  | zero => omega
  | succ n ih =>
    simp only [cntB]
    rcases Nat.lt_succ_iff_lt_or_eq.mp hk with h1 | rfl
    · have e : upd g k 0 n = g n := pk_un (by omega)
      rw [e]
      have := ih h1
      omega
    · have e : upd g k 0 k = 0 := pk_us
      have e2 : cntB (upd g k 0) k = cntB g k := cntB_congr (fun j hj => by rw [pk_un (by omega : j ≠ k)])
      rw [e, e2, if_neg h, if_pos rfl]
theorem cntB_inc {g : Nat → Int32} {n k : Nat} (hk : k < n) (h : g k = 0) : cntB (upd g k 1) n = cntB g n + 1 := by
  induction n with
  | zero => omega
  | succ n ih =>
    simp only [cntB]
    rcases Nat.lt_succ_iff_lt_or_eq.mp hk with h1 | rfl
    · have e : upd g k 1 n = g n := pk_un (by omega)
      rw [e, ih h1]
      omega
    · have e : upd g k 1 k = 1 := pk_us
      have e2 : cntB (upd g k 1) k = cntB g k := cntB_congr (fun j hj => by rw [pk_un (by omega : j ≠ k)])
      rw [e, e2, if_pos h, if_neg (by decide)]
theorem cntB_le {g : Nat → Int32} {n : Nat} : cntB g n ≤ n := by
  induction n with
  | zero => exact Nat.le_refl 0
  | succ n ih =>
    simp only [cntB]
    split <;> omega
theorem ix_nat {x : Int32} (h : 0 ≤ x.toInt) : ((ix x : Nat) : Int) = x.toInt := by
  show ((x.toNatClampNeg : Nat) : Int) = x.toInt
  have e : x.toNatClampNeg = x.toInt.toNat := rfl
  rw [e]
  omega
theorem s0_wlt {σ : RSt} {y : Int32} {f : Nat} (h : S0 σ) (hnn : 0 ≤ Int32.toInt y) (hf : ((Int32.toInt (r_things σ)) - (Int32.toInt y)).toNat = f + 1) (c : ¬ r_hasWish σ (ix y) = 0) : vp_in (r_wishes σ) 120 := by
  have h1 := h.1
  have h2 := h.2.2.2.2.2.2.2.2.2.1
  have h3 : 0 < cntB (r_hasWish σ) (Int32.toInt (r_things σ)).toNat := cntB_pos (k := ix y) (by have := ix_nat hnn; omega) c
  exact vp_in_iff.mpr (by omega)
theorem s0_wishes_f {σ : RSt} {y : Int32} {f : Nat} (h : S0 σ) (hnn : 0 ≤ Int32.toInt y) (hf : ((Int32.toInt (r_things σ)) - (Int32.toInt y)).toNat = f + 1) (c : ¬ r_hasWish σ (ix y) = 0) : S0 (fX6_wishes σ y) := by
  have hw := vp_in_iff.mp (s0_wlt h hnn hf c)
  have hi := lp_in hnn hf (s0_th h)
  obtain ⟨a1, a2, a3, a4, a5, a6, a7, a8, a9, a10, a11, a12⟩ := h
  unfold fX6_wishes
  refine s0_sa (sa_shade _ _) ⟨a1, a2, a3, a4, a5, fun k => ?_, a7, a8, a9, ?_, a11, a12⟩
  · show VT (upd (r_wishAt σ) (ix (r_wishes σ)) y k)
    unfold upd
    split
    · exact Or.inr hi
    · exact a6 k
  · show 0 ≤ Int32.toInt (r_wishes σ + 1) ∧ Int32.toInt (r_wishes σ + 1) + cntB (upd (r_hasWish σ) (ix y) 0) (Int32.toInt (r_things σ)).toNat ≤ Int32.toInt (r_things σ)
    have e1 := i32_1 (x := r_wishes σ) (B := 120) (by have q : (120 : Int32).toInt = 120 := rfl; omega)
    have e2 := cntB_dec (g := r_hasWish σ) (n := (Int32.toInt (r_things σ)).toNat) (k := ix y) (by have := ix_nat hnn; omega) c
    rw [e1]
    omega
theorem things_wishes {σ : RSt} {y : Int32} : r_things (fX6_wishes σ y) = r_things σ := by
  unfold fX6_wishes
  rw [things_shade]
  rfl
theorem s0_wk {σ : RSt} (h : S0 σ) (k : Nat) {x : Int32} (hx : VT x) : S0 (r_weakAt_s σ (upd (r_weakAt σ) k x)) := by
  obtain ⟨a1, a2, a3, a4, a5, a6, a7, a8, a9, a10, a11, a12⟩ := h
  refine ⟨a1, a2, a3, a4, a5, a6, fun j => ?_, a8, a9, a10, a11, a12⟩
  show VT (upd (r_weakAt σ) k x j)
  unfold upd
  split
  · exact hx
  · exact a7 j
theorem s0_nx {σ : RSt} (h : S0 σ) (x : Int32) (hx : 0 ≤ x.toInt) (hw : r_way σ = 0 ∨ r_way σ = 1 ∨ x.toInt ≤ Int32.toInt (r_things σ)) : S0 (r_next_s σ x) := by
  obtain ⟨a1, a2, a3, a4, a5, a6, a7, a8, a9, a10, a11, a12, a13⟩ := h
  exact ⟨a1, a2, a3, a4, a5, a6, a7, a8, a9, a10, a11, hx, hw⟩
theorem s0_wy {σ : RSt} (h : S0 σ) (v : Int32) (hw : v = 0 ∨ v = 1 ∨ Int32.toInt (r_next σ) ≤ Int32.toInt (r_things σ)) : S0 (r_way_s σ v) := by
  obtain ⟨a1, a2, a3, a4, a5, a6, a7, a8, a9, a10, a11, a12, a13⟩ := h
  exact ⟨a1, a2, a3, a4, a5, a6, a7, a8, a9, a10, a11, a12, hw⟩
theorem s0_w2 {σ : RSt} (h : S0 σ) : S0 (r_next_s (r_way_s σ 2) 0) := by
  obtain ⟨a1, a2, a3, a4, a5, a6, a7, a8, a9, a10, a11, a12, a13⟩ := h
  exact ⟨a1, a2, a3, a4, a5, a6, a7, a8, a9, a10, a11, (by show 0 ≤ Int32.toInt (0 : Int32); decide), Or.inr (Or.inr a1.1)⟩
theorem s0_tlt {σ : RSt} (h : S0 σ) (c : ¬ r_things σ = 120) : vp_in (r_things σ) 120 := by
  have h1 := h.1
  have h2 := i32_ne c
  have q : (120 : Int32).toInt = 120 := rfl
  exact vp_in_iff.mpr (by omega)
theorem s0_plt {σ : RSt} (h : S0 σ) (c : ¬ r_pairs σ = 8) : vp_in (r_pairs σ) 8 := by
  have h1 := h.2.2.2.2.2.2.2.2.2.2.1
  have h2 := i32_ne c
  have q : (8 : Int32).toInt = 8 := rfl
  exact vp_in_iff.mpr (by omega)
theorem i32_m1 {x : Int32} (h0 : 0 ≤ x.toInt) : (x - 1).toInt = x.toInt - 1 := by
  have q : (1 : Int32).toInt = 1 := rfl
  have h2 : x.toInt < 2 ^ 31 := Int32.toInt_lt x
  rw [Int32.toInt_sub, q]
  exact Int.bmod_eq_of_le (by omega) (by omega)
theorem i32_sub_in {x a : Int32} {n : Nat} (h0 : 0 ≤ a.toInt) (h1 : a.toInt ≤ x.toInt) (h2 : x.toInt < a.toInt + n) : vp_in (x - a) n := by
  have h3 : x.toInt < 2 ^ 31 := Int32.toInt_lt x
  rw [vp_in_iff, Int32.toInt_sub, Int.bmod_eq_of_le (by omega) (by omega)]
  omega
theorem i32_subI {x a : Int32} (h0 : 0 ≤ a.toInt) (h1 : a.toInt ≤ x.toInt) : (x - a).toInt = x.toInt - a.toInt := by
  have h3 : x.toInt < 2 ^ 31 := Int32.toInt_lt x
  rw [Int32.toInt_sub]
  exact Int.bmod_eq_of_le (by omega) (by omega)
theorem s0_pin {σ : RSt} (h : S0 σ) {v : Int32} (c : ¬ fX6_in σ v 0 (r_pairs σ - 1) = 0) : vp_in v 8 := by
  have h1 := h.2.2.2.2.2.2.2.2.2.2.1
  refine in_inN c ?_
  rw [i32_m1 h1.1]
  omega
theorem vt_held {σ : RSt} (h : S0 σ) (o r : Int32) : VT (fX6_held σ o r) := by
  unfold fX6_held
  exact s0_register h _
theorem lq_z {B x : Int32} (h : (B.toInt + 1 - x.toInt).toNat = 0) (c : ¬ B < x) : False := by
  rw [Int32.lt_iff_toInt_lt] at c
  omega
theorem lq_s {B x : Int32} {f : Nat} (h : (B.toInt + 1 - x.toInt).toNat = f + 1) (c : B < x) : False := by
  rw [Int32.lt_iff_toInt_lt] at c
  omega

def fX6_findsMore_J128 (z1 : Int32) (σ128 : RSt) : Int32 × RSt := (if (r_shaded σ128) ≤ z1 then ((0 : Int32), σ128) else ((1 : Int32), σ128))
def fX6_findsMore_L83 (z1 : Int32) : Nat → Int32 → RSt → Int32 × RSt
  | 0, y2, σ83 => (fX6_findsMore_J128 z1 σ83)
  | f + 1, y2, σ83 => (if ((r_hasWish σ83) (ix y2)) = (0 : Int32) then (fX6_findsMore_L83 z1 f (y2 + 1) σ83) else (if (fX6_isWhite σ83 y2) = (0 : Int32) then (fX6_findsMore_L83 z1 f (y2 + 1) σ83) else (if ((r_isFreed σ83) (ix y2)) = (0 : Int32) then (fX6_findsMore_L83 z1 f (y2 + 1) (fX6_wishes σ83 y2)) else (fX6_findsMore_L83 z1 f (y2 + 1) σ83))))
def fX6_findsMore_J73 (z1 : Int32) (σ73 : RSt) : Int32 × RSt := (if (r_shaded σ73) = z1 then (fX6_findsMore_L83 z1 (((Int32.toInt (r_things σ73)) - (Int32.toInt (0 : Int32))).toNat) (0 : Int32) σ73) else (fX6_findsMore_J128 z1 σ73))
def fX6_findsMore_L27 (z1 : Int32) : Nat → Int32 → RSt → Int32 × RSt
  | 0, y2, σ27 => (fX6_findsMore_J73 z1 σ27)
  | f + 1, y2, σ27 => (if ((r_isPair σ27) (ix y2)) = (0 : Int32) then (fX6_findsMore_L27 z1 f (y2 + 1) σ27) else (if (fX6_isWhite σ27 ((r_key σ27) (ix y2))) = (0 : Int32) then (fX6_findsMore_L27 z1 f (y2 + 1) (fX6_shade σ27 ((r_value σ27) (ix y2)))) else (fX6_findsMore_L27 z1 f (y2 + 1) σ27)))
def fX6_findsMore_J17 (z1 : Int32) (σ17 : RSt) : Int32 × RSt := (if (r_shaded σ17) = z1 then (fX6_findsMore_L27 z1 (((Int32.toInt (r_pairs σ17)) - (Int32.toInt (0 : Int32))).toNat) (0 : Int32) σ17) else (fX6_findsMore_J73 z1 σ17))

def fX6_findsMore (σ : RSt) : Int32 × RSt := (if (r_manner σ) = (2 : Int32) then (fX6_findsMore_J17 (r_shaded σ) (fX6_shadeHeld σ)) else (fX6_findsMore_J17 (r_shaded σ) σ))
theorem hdX6_findsMore : yX6_findsMore.cls = RX6 ∧ yX6_findsMore.cls ≠ "java/lang/invoke/MethodHandle" ∧ yX6_findsMore.cls ≠ "java/lang/invoke/VarHandle" ∧ (parseMethodDescriptor yX6_findsMore.desc).map (fun d => d.parameters.length) = some 0 := by decide +kernel
theorem bb_findsMore_J128 (z : Int32) (σ : RSt) : (fX6_findsMore_J128 z σ).1 = 0 ∨ (fX6_findsMore_J128 z σ).1 = 1 := by
  unfold fX6_findsMore_J128
  split <;> first | exact Or.inl rfl | exact Or.inr rfl
theorem bb_findsMore_L83 (z : Int32) (f : Nat) : ∀ (y : Int32) (σ : RSt), (fX6_findsMore_L83 z f y σ).1 = 0 ∨ (fX6_findsMore_L83 z f y σ).1 = 1 := by
  induction f with
  | zero => intro y σ; exact bb_findsMore_J128 _ _
  | succ f ih =>
    intro y σ
    unfold fX6_findsMore_L83
    (repeat' split) <;> exact ih _ _
theorem bb_findsMore_J73 (z : Int32) (σ : RSt) : (fX6_findsMore_J73 z σ).1 = 0 ∨ (fX6_findsMore_J73 z σ).1 = 1 := by
  unfold fX6_findsMore_J73
  split
  · exact bb_findsMore_L83 _ _ _ _
  · exact bb_findsMore_J128 _ _
theorem bb_findsMore_L27 (z : Int32) (f : Nat) : ∀ (y : Int32) (σ : RSt), (fX6_findsMore_L27 z f y σ).1 = 0 ∨ (fX6_findsMore_L27 z f y σ).1 = 1 := by
  induction f with
  | zero => intro y σ; exact bb_findsMore_J73 _ _
  | succ f ih =>
    intro y σ
    unfold fX6_findsMore_L27
    (repeat' split) <;> exact ih _ _
theorem bb_findsMore_J17 (z : Int32) (σ : RSt) : (fX6_findsMore_J17 z σ).1 = 0 ∨ (fX6_findsMore_J17 z σ).1 = 1 := by
  unfold fX6_findsMore_J17
  split
  · exact bb_findsMore_L27 _ _ _ _
  · exact bb_findsMore_J73 _ _

theorem bX6_findsMore (σ : RSt) : (fX6_findsMore σ).1 = 0 ∨ (fX6_findsMore σ).1 = 1 := by
  unfold fX6_findsMore
  split <;> exact bb_findsMore_J17 _ _
set_option maxHeartbeats 250000 in
set_option maxRecDepth 100000 in
theorem kX6_findsMore (l : Launch) (D : va_G) (a : Nat → Nat) (cI cZ : ClassId) (σ : RSt) (hS : S0 σ) : CR l D (tyIZ cI cZ) (wR a cI cZ) yX6_findsMore cX6_findsMore 3 .boolean (rmk 2 42) [.ref (a 0)] σ (fX6_findsMore σ).1 (fX6_findsMore σ).2 := by
  refine CR.of pnX6 ⟨rfl, rfl⟩ (Nat.le_of_ble_eq_true rfl) (nar_b (bX6_findsMore σ)) (fun p e s m args below meth c A Q ls C X hA hl ret => ?_)
  have C : Cx p s m args meth c cX6_findsMore 3 RX6 D (tyIZ cI cZ) := C
  have hx := C.1
  have hb := C.2.1
  have hl : lv_has ls 3 [(0, .ref (a 0))] := hl
  refine lv_aload_n hx hb dX6_findsMore_0 rfl (lv_at hl 0 rfl) ?_
  refine rg_X6_X6_shaded (v := (r_shaded σ)) C X rfl dX6_findsMore_1 ?_
  refine lv_istore_n (lv' := [(1, .int (r_shaded σ)), (0, .ref (a 0))]) hx hb dX6_findsMore_4 rfl hl (by decide) rfl (fun ls hl => ?_)
  have J17 : ∀ (σ17 : RSt) (hS : S0 σ17) (he : fX6_findsMore_J17 (r_shaded σ) σ17 = (fX6_findsMore σ)) (H : Heap) (locs : List Loc) (ls : Array Slot) (X : Sx A D (wR a cI cZ σ17) s H locs) (hl : lv_has ls 3 [(0, .ref (a 0)), (1, .int (r_shaded σ))]), W p l e (rmk 2 42) s m args below meth c H locs 0 0 Q (F0 m 17 ls []) := by
    intro σ17 hS he H locs ls X hl
    have J73 : ∀ (σ73 : RSt) (hS : S0 σ73) (he : fX6_findsMore_J73 (r_shaded σ) σ73 = (fX6_findsMore σ)) (H : Heap) (locs : List Loc) (ls : Array Slot) (X : Sx A D (wR a cI cZ σ73) s H locs) (hl : lv_has ls 3 [(0, .ref (a 0)), (1, .int (r_shaded σ))]), W p l e (rmk 2 42) s m args below meth c H locs 0 0 Q (F0 m 73 ls []) := by
      intro σ73 hS he H locs ls X hl
      have J128 : ∀ (σ128 : RSt) (he : fX6_findsMore_J128 (r_shaded σ) σ128 = (fX6_findsMore σ)) (H : Heap) (locs : List Loc) (ls : Array Slot) (X : Sx A D (wR a cI cZ σ128) s H locs) (hl : lv_has ls 3 [(0, .ref (a 0)), (1, .int (r_shaded σ))]), W p l e (rmk 2 42) s m args below meth c H locs 0 0 Q (F0 m 128 ls []) := by
        intro σ128 he H locs ls X hl
        refine lv_aload_n hx hb dX6_findsMore_128 rfl (lv_at hl 0 rfl) ?_
        refine rg_X6_X6_shaded (v := (r_shaded σ128)) C X rfl dX6_findsMore_129 ?_
        refine lv_iload_n hx hb dX6_findsMore_132 rfl (lv_at hl 1 rfl) ?_
        refine lv_icmp_le (tgt := 140) hx hb dX6_findsMore_133 (by decide) (fun c133 => ?_) (fun c133 => ?_)
        · refine lv_iconst (v := (0)) hx hb dX6_findsMore_140 (by decide) ?_
          exact ret dX6_findsMore_141 (pe_ (Eq.trans (Eq.symm (if_pos c133)) he)) X
        · refine lv_iconst (v := (1)) hx hb dX6_findsMore_136 (by decide) ?_
          refine lv_goto (tgt := 141) hx hb dX6_findsMore_137 (by decide) ?_
          exact ret dX6_findsMore_141 (pe_ (Eq.trans (Eq.symm (if_neg c133)) he)) X
      refine lv_aload_n hx hb dX6_findsMore_73 rfl (lv_at hl 0 rfl) ?_
      refine rg_X6_X6_shaded (v := (r_shaded σ73)) C X rfl dX6_findsMore_74 ?_
      refine lv_iload_n hx hb dX6_findsMore_77 rfl (lv_at hl 1 rfl) ?_
      refine lv_icmp_ne (tgt := 128) hx hb dX6_findsMore_78 (by decide) (fun c78 => ?_) (fun c78 => ?_)
      · exact J128  σ73 (Eq.trans (Eq.symm (if_neg c78)) he) _ _ _ X (lv_sub hl [0, 1] rfl)
      · refine lv_iconst (v := (0)) hx hb dX6_findsMore_81 (by decide) ?_
        refine lv_istore_n (lv' := [(2, .int (0 : Int32)), (0, .ref (a 0)), (1, .int (r_shaded σ))]) hx hb dX6_findsMore_82 rfl hl (by decide) rfl (fun ls hl => ?_)
        have L83 : ∀ (f : Nat) (y2 : Int32) (σ83 : RSt) (hf : ((Int32.toInt (r_things σ83)) - (Int32.toInt y2)).toNat = f) (hnn : 0 ≤ Int32.toInt y2) (hS : S0 σ83) (he : fX6_findsMore_L83 (r_shaded σ) f y2 σ83 = (fX6_findsMore σ)) (H : Heap) (locs : List Loc) (ls : Array Slot) (X : Sx A D (wR a cI cZ σ83) s H locs) (hl : lv_has ls 3 [(0, .ref (a 0)), (1, .int (r_shaded σ)), (2, .int y2)]), W p l e (rmk 2 42) s m args below meth c H locs 0 0 Q (F0 m 83 ls []) := by
          intro f
          induction f with
          | zero =>
            intro y2 σ83 hf hnn hS he H locs ls X hl
            refine lv_iload_n hx hb dX6_findsMore_83 rfl (lv_at hl 2 rfl) ?_
            refine lv_aload_n hx hb dX6_findsMore_84 rfl (lv_at hl 0 rfl) ?_
            refine rg_X6_X6_things (v := (r_things σ83)) C X rfl dX6_findsMore_85 ?_
            refine lv_icmp_ge (tgt := 128) hx hb dX6_findsMore_88 (by decide) (fun c88 => ?_) (fun c88 => (lp_z hf c88).elim)
            exact J128  σ83 he _ _ _ X (lv_sub hl [0, 1] rfl)
          | succ f ih83 =>
            intro y2 σ83 hf hnn hS he H locs ls X hl
            refine lv_iload_n hx hb dX6_findsMore_83 rfl (lv_at hl 2 rfl) ?_
            refine lv_aload_n hx hb dX6_findsMore_84 rfl (lv_at hl 0 rfl) ?_
            refine rg_X6_X6_things (v := (r_things σ83)) C X rfl dX6_findsMore_85 ?_
            refine lv_icmp_ge (tgt := 128) hx hb dX6_findsMore_88 (by decide) (fun c88 => (lp_s hf c88).elim) (fun c88 => ?_)
            refine lv_aload_n hx hb dX6_findsMore_91 rfl (lv_at hl 0 rfl) ?_
            refine rg_X6_X6_hasWish C X dX6_findsMore_92 ?_
            refine lv_iload_n hx hb dX6_findsMore_95 rfl (lv_at hl 2 rfl) ?_
            refine ra_hasWish (v := ((r_hasWish σ83) (ix y2))) C X (lp_in hnn hf (s0_th hS)) rfl dX6_findsMore_96 ?_
            refine lv_if_eq (tgt := 122) hx hb dX6_findsMore_97 (by decide) (fun c97 => ?_) (fun c97 => ?_)
            · refine lv_iinc (v := (y2 + 1)) (lv' := [(2, .int (y2 + 1)), (0, .ref (a 0)), (1, .int (r_shaded σ))]) hx hb dX6_findsMore_122 hl (k := 2) rfl rfl (by decide) rfl (fun ls hl => ?_)
              refine lv_goto (tgt := 83) hx hb dX6_findsMore_125 (by decide) ?_
              exact ih83 (y2 + 1) σ83 (by first | with_reducible exact lp_b hf | (rw [things_wishes]; exact lp_b hf)) (lp_nn hnn hf) (by first | with_reducible exact hS | exact s0_wishes_f hS hnn hf c97) (Eq.trans (Eq.symm (if_pos c97)) he) _ _ _ X (lv_sub hl [1, 2, 0] rfl)
            · refine lv_aload_n hx hb dX6_findsMore_100 rfl (lv_at hl 0 rfl) ?_
              refine lv_iload_n hx hb dX6_findsMore_101 rfl (lv_at hl 2 rfl) ?_
              refine callVR (rest := []) C hA (wR_sh a cI cZ) X (kX6_isWhite l D a cI cZ _ y2 (lp_in hnn hf (s0_th hS))) (cwV 1 C.2.2.2.2.1 (gV wl_X6_110 wt_yX6_isWhite ws_yX6_isWhite wi_X6 wk_yX6_isWhite) rfl rfl rfl hdX6_isWhite ⟨Nat.le_of_ble_eq_true rfl, Nat.le_of_ble_eq_true rfl⟩) (ci := 6) (q0 := 0) rfl rfl rfl hl.1 rfl (Nat.le_of_ble_eq_true rfl) dX6_findsMore_102 ⟨Nat.le_refl 0, Nat.le_refl 0⟩ (fun H locs X => ?_)
              refine lv_if_eq (tgt := 122) hx hb dX6_findsMore_105 (by decide) (fun c105 => ?_) (fun c105 => ?_)
              · refine lv_iinc (v := (y2 + 1)) (lv' := [(2, .int (y2 + 1)), (0, .ref (a 0)), (1, .int (r_shaded σ))]) hx hb dX6_findsMore_122 hl (k := 2) rfl rfl (by decide) rfl (fun ls hl => ?_)
                refine lv_goto (tgt := 83) hx hb dX6_findsMore_125 (by decide) ?_
                exact ih83 (y2 + 1) σ83 (by first | with_reducible exact lp_b hf | (rw [things_wishes]; exact lp_b hf)) (lp_nn hnn hf) (by first | with_reducible exact hS | exact s0_wishes_f hS hnn hf c97) (Eq.trans (Eq.symm (Eq.trans (if_neg c97) (if_pos c105))) he) _ _ _ X (lv_sub hl [1, 2, 0] rfl)
              · refine lv_aload_n hx hb dX6_findsMore_108 rfl (lv_at hl 0 rfl) ?_
                refine rg_X6_X6_isFreed C X dX6_findsMore_109 ?_
                refine lv_iload_n hx hb dX6_findsMore_112 rfl (lv_at hl 2 rfl) ?_
                refine ra_isFreed (v := ((r_isFreed σ83) (ix y2))) C X (lp_in hnn hf (s0_th hS)) rfl dX6_findsMore_113 ?_
                refine lv_if_ne (tgt := 122) hx hb dX6_findsMore_114 (by decide) (fun c114 => ?_) (fun c114 => ?_)
                · refine lv_iinc (v := (y2 + 1)) (lv' := [(2, .int (y2 + 1)), (0, .ref (a 0)), (1, .int (r_shaded σ))]) hx hb dX6_findsMore_122 hl (k := 2) rfl rfl (by decide) rfl (fun ls hl => ?_)
                  refine lv_goto (tgt := 83) hx hb dX6_findsMore_125 (by decide) ?_
                  exact ih83 (y2 + 1) σ83 (by first | with_reducible exact lp_b hf | (rw [things_wishes]; exact lp_b hf)) (lp_nn hnn hf) (by first | with_reducible exact hS | exact s0_wishes_f hS hnn hf c97) (Eq.trans (Eq.symm (Eq.trans (if_neg c97) (Eq.trans (if_neg c105) (if_neg c114)))) he) _ _ _ X (lv_sub hl [1, 2, 0] rfl)
                · refine lv_aload_n hx hb dX6_findsMore_117 rfl (lv_at hl 0 rfl) ?_
                  refine lv_iload_n hx hb dX6_findsMore_118 rfl (lv_at hl 2 rfl) ?_
                  refine callVU (rest := []) C hA (wR_sh a cI cZ) X (kX6_wishes l D a cI cZ _ y2 (lp_in hnn hf (s0_th hS)) (s0_wlt hS hnn hf c97)) (cwV 1 C.2.2.2.2.1 (gV wl_X6_114 wt_yX6_wishes ws_yX6_wishes wi_X6 wk_yX6_wishes) rfl rfl rfl hdX6_wishes ⟨Nat.le_of_ble_eq_true rfl, Nat.le_of_ble_eq_true rfl⟩) (ci := 6) (q0 := 0) rfl rfl rfl hl.1 rfl (Nat.le_of_ble_eq_true rfl) dX6_findsMore_119 ⟨Nat.le_refl 0, Nat.le_refl 0⟩ (fun H locs X => ?_)
                  refine lv_iinc (v := (y2 + 1)) (lv' := [(2, .int (y2 + 1)), (0, .ref (a 0)), (1, .int (r_shaded σ))]) hx hb dX6_findsMore_122 hl (k := 2) rfl rfl (by decide) rfl (fun ls hl => ?_)
                  refine lv_goto (tgt := 83) hx hb dX6_findsMore_125 (by decide) ?_
                  exact ih83 (y2 + 1) (fX6_wishes σ83 y2) (by first | with_reducible exact lp_b hf | (rw [things_wishes]; exact lp_b hf)) (lp_nn hnn hf) (by first | with_reducible exact hS | exact s0_wishes_f hS hnn hf c97) (Eq.trans (Eq.symm (Eq.trans (if_neg c97) (Eq.trans (if_neg c105) (if_pos c114)))) he) _ _ _ X (lv_sub hl [1, 2, 0] rfl)
        exact L83 (((Int32.toInt (r_things σ73)) - (Int32.toInt (0 : Int32))).toNat) (0 : Int32) σ73 rfl (by decide) (hS) (Eq.trans (Eq.symm (if_pos c78)) he) _ _ _ X (lv_sub hl [1, 2, 0] rfl)
    refine lv_aload_n hx hb dX6_findsMore_17 rfl (lv_at hl 0 rfl) ?_
    refine rg_X6_X6_shaded (v := (r_shaded σ17)) C X rfl dX6_findsMore_18 ?_
    refine lv_iload_n hx hb dX6_findsMore_21 rfl (lv_at hl 1 rfl) ?_
    refine lv_icmp_ne (tgt := 73) hx hb dX6_findsMore_22 (by decide) (fun c22 => ?_) (fun c22 => ?_)
    · exact J73  σ17 (hS) (Eq.trans (Eq.symm (if_neg c22)) he) _ _ _ X (lv_sub hl [0, 1] rfl)
    · refine lv_iconst (v := (0)) hx hb dX6_findsMore_25 (by decide) ?_
      refine lv_istore_n (lv' := [(2, .int (0 : Int32)), (0, .ref (a 0)), (1, .int (r_shaded σ))]) hx hb dX6_findsMore_26 rfl hl (by decide) rfl (fun ls hl => ?_)
      have L27 : ∀ (f : Nat) (y2 : Int32) (σ27 : RSt) (hf : ((Int32.toInt (r_pairs σ27)) - (Int32.toInt y2)).toNat = f) (hnn : 0 ≤ Int32.toInt y2) (hS : S0 σ27) (he : fX6_findsMore_L27 (r_shaded σ) f y2 σ27 = (fX6_findsMore σ)) (H : Heap) (locs : List Loc) (ls : Array Slot) (X : Sx A D (wR a cI cZ σ27) s H locs) (hl : lv_has ls 3 [(0, .ref (a 0)), (1, .int (r_shaded σ)), (2, .int y2)]), W p l e (rmk 2 42) s m args below meth c H locs 0 0 Q (F0 m 27 ls []) := by
        intro f
        induction f with
        | zero =>
          intro y2 σ27 hf hnn hS he H locs ls X hl
          refine lv_iload_n hx hb dX6_findsMore_27 rfl (lv_at hl 2 rfl) ?_
          refine lv_aload_n hx hb dX6_findsMore_28 rfl (lv_at hl 0 rfl) ?_
          refine rg_X6_X6_pairs (v := (r_pairs σ27)) C X rfl dX6_findsMore_29 ?_
          refine lv_icmp_ge (tgt := 73) hx hb dX6_findsMore_32 (by decide) (fun c32 => ?_) (fun c32 => (lp_z hf c32).elim)
          exact J73  σ27 (hS) he _ _ _ X (lv_sub hl [0, 1] rfl)
        | succ f ih27 =>
          intro y2 σ27 hf hnn hS he H locs ls X hl
          refine lv_iload_n hx hb dX6_findsMore_27 rfl (lv_at hl 2 rfl) ?_
          refine lv_aload_n hx hb dX6_findsMore_28 rfl (lv_at hl 0 rfl) ?_
          refine rg_X6_X6_pairs (v := (r_pairs σ27)) C X rfl dX6_findsMore_29 ?_
          refine lv_icmp_ge (tgt := 73) hx hb dX6_findsMore_32 (by decide) (fun c32 => (lp_s hf c32).elim) (fun c32 => ?_)
          refine lv_aload_n hx hb dX6_findsMore_35 rfl (lv_at hl 0 rfl) ?_
          refine rg_X6_X6_isPair C X dX6_findsMore_36 ?_
          refine lv_iload_n hx hb dX6_findsMore_39 rfl (lv_at hl 2 rfl) ?_
          refine ra_isPair (v := ((r_isPair σ27) (ix y2))) C X (lp_in hnn hf (s0_pairs hS)) rfl dX6_findsMore_40 ?_
          refine lv_if_eq (tgt := 67) hx hb dX6_findsMore_41 (by decide) (fun c41 => ?_) (fun c41 => ?_)
          · refine lv_iinc (v := (y2 + 1)) (lv' := [(2, .int (y2 + 1)), (0, .ref (a 0)), (1, .int (r_shaded σ))]) hx hb dX6_findsMore_67 hl (k := 2) rfl rfl (by decide) rfl (fun ls hl => ?_)
            refine lv_goto (tgt := 27) hx hb dX6_findsMore_70 (by decide) ?_
            exact ih27 (y2 + 1) σ27 (by first | with_reducible exact lp_b hf | (rw [pairs_shade]; exact lp_b hf)) (lp_nn hnn hf) (by first | with_reducible exact hS | exact s0_sa (sa_shade _ _) hS) (Eq.trans (Eq.symm (if_pos c41)) he) _ _ _ X (lv_sub hl [1, 2, 0] rfl)
          · refine lv_aload_n hx hb dX6_findsMore_44 rfl (lv_at hl 0 rfl) ?_
            refine lv_aload_n hx hb dX6_findsMore_45 rfl (lv_at hl 0 rfl) ?_
            refine rg_X6_X6_key C X dX6_findsMore_46 ?_
            refine lv_iload_n hx hb dX6_findsMore_49 rfl (lv_at hl 2 rfl) ?_
            refine ra_key (v := ((r_key σ27) (ix y2))) C X (lp_in hnn hf (s0_pairs hS)) rfl dX6_findsMore_50 ?_
            refine callVR (rest := []) C hA (wR_sh a cI cZ) X (kX6_isWhite l D a cI cZ _ ((r_key σ27) (ix y2)) (s0_key hS _)) (cwV 1 C.2.2.2.2.1 (gV wl_X6_110 wt_yX6_isWhite ws_yX6_isWhite wi_X6 wk_yX6_isWhite) rfl rfl rfl hdX6_isWhite ⟨Nat.le_of_ble_eq_true rfl, Nat.le_of_ble_eq_true rfl⟩) (ci := 6) (q0 := 0) rfl rfl rfl hl.1 rfl (Nat.le_of_ble_eq_true rfl) dX6_findsMore_51 ⟨Nat.le_refl 0, Nat.le_refl 0⟩ (fun H locs X => ?_)
            refine lv_if_ne (tgt := 67) hx hb dX6_findsMore_54 (by decide) (fun c54 => ?_) (fun c54 => ?_)
            · refine lv_iinc (v := (y2 + 1)) (lv' := [(2, .int (y2 + 1)), (0, .ref (a 0)), (1, .int (r_shaded σ))]) hx hb dX6_findsMore_67 hl (k := 2) rfl rfl (by decide) rfl (fun ls hl => ?_)
              refine lv_goto (tgt := 27) hx hb dX6_findsMore_70 (by decide) ?_
              exact ih27 (y2 + 1) σ27 (by first | with_reducible exact lp_b hf | (rw [pairs_shade]; exact lp_b hf)) (lp_nn hnn hf) (by first | with_reducible exact hS | exact s0_sa (sa_shade _ _) hS) (Eq.trans (Eq.symm (Eq.trans (if_neg c41) (if_neg c54))) he) _ _ _ X (lv_sub hl [1, 2, 0] rfl)
            · refine lv_aload_n hx hb dX6_findsMore_57 rfl (lv_at hl 0 rfl) ?_
              refine lv_aload_n hx hb dX6_findsMore_58 rfl (lv_at hl 0 rfl) ?_
              refine rg_X6_X6_value C X dX6_findsMore_59 ?_
              refine lv_iload_n hx hb dX6_findsMore_62 rfl (lv_at hl 2 rfl) ?_
              refine ra_value (v := ((r_value σ27) (ix y2))) C X (lp_in hnn hf (s0_pairs hS)) rfl dX6_findsMore_63 ?_
              refine callVU (rest := []) C hA (wR_sh a cI cZ) X (kX6_shade l D a cI cZ _ ((r_value σ27) (ix y2)) (s0_value hS _)) (cwV 1 C.2.2.2.2.1 (gV wl_X6_100 wt_yX6_shade ws_yX6_shade wi_X6 wk_yX6_shade) rfl rfl rfl hdX6_shade ⟨Nat.le_of_ble_eq_true rfl, Nat.le_of_ble_eq_true rfl⟩) (ci := 6) (q0 := 0) rfl rfl rfl hl.1 rfl (Nat.le_of_ble_eq_true rfl) dX6_findsMore_64 ⟨Nat.le_refl 0, Nat.le_refl 0⟩ (fun H locs X => ?_)
              refine lv_iinc (v := (y2 + 1)) (lv' := [(2, .int (y2 + 1)), (0, .ref (a 0)), (1, .int (r_shaded σ))]) hx hb dX6_findsMore_67 hl (k := 2) rfl rfl (by decide) rfl (fun ls hl => ?_)
              refine lv_goto (tgt := 27) hx hb dX6_findsMore_70 (by decide) ?_
              exact ih27 (y2 + 1) (fX6_shade σ27 ((r_value σ27) (ix y2))) (by first | with_reducible exact lp_b hf | (rw [pairs_shade]; exact lp_b hf)) (lp_nn hnn hf) (by first | with_reducible exact hS | exact s0_sa (sa_shade _ _) hS) (Eq.trans (Eq.symm (Eq.trans (if_neg c41) (if_pos c54))) he) _ _ _ X (lv_sub hl [1, 2, 0] rfl)
      exact L27 (((Int32.toInt (r_pairs σ17)) - (Int32.toInt (0 : Int32))).toNat) (0 : Int32) σ17 rfl (by decide) (hS) (Eq.trans (Eq.symm (if_pos c22)) he) _ _ _ X (lv_sub hl [1, 2, 0] rfl)
  refine lv_aload_n hx hb dX6_findsMore_5 rfl (lv_at hl 1 rfl) ?_
  refine rg_X6_X6_manner (v := (r_manner σ)) C X rfl dX6_findsMore_6 ?_
  refine lv_iconst (v := (2)) hx hb dX6_findsMore_9 (by decide) ?_
  refine lv_icmp_ne (tgt := 17) hx hb dX6_findsMore_10 (by decide) (fun c10 => ?_) (fun c10 => ?_)
  · exact J17  σ (by first | with_reducible exact hS | exact s0_sa (sa_shadeHeld _) hS) (Eq.symm (if_neg c10)) _ _ _ X (lv_sub hl [1, 0] rfl)
  · refine lv_aload_n hx hb dX6_findsMore_13 rfl (lv_at hl 1 rfl) ?_
    refine callVU (rest := []) C hA (wR_sh a cI cZ) X (kX6_shadeHeld l D a cI cZ _  hS) (cwV 0 C.2.2.2.2.1 (gV wl_X6_107 wt_yX6_shadeHeld ws_yX6_shadeHeld wi_X6 wk_yX6_shadeHeld) rfl rfl rfl hdX6_shadeHeld ⟨Nat.le_of_ble_eq_true rfl, Nat.le_of_ble_eq_true rfl⟩) (ci := 6) (q0 := 0) rfl rfl rfl hl.1 rfl (Nat.le_of_ble_eq_true rfl) dX6_findsMore_14 ⟨Nat.le_refl 0, Nat.le_refl 0⟩ (fun H locs X => ?_)
    exact J17  (fX6_shadeHeld σ) (by first | with_reducible exact hS | exact s0_sa (sa_shadeHeld _) hS) (Eq.symm (if_pos c10)) _ _ _ X (lv_sub hl [1, 0] rfl)
theorem s0_findsMore_L83 (z : Int32) (f : Nat) : ∀ (y : Int32) (σ : RSt), S0 σ → 0 ≤ Int32.toInt y → ((Int32.toInt (r_things σ)) - (Int32.toInt y)).toNat = f → S0 (fX6_findsMore_L83 z f y σ).2 := by
  induction f with
  | zero =>
    intro y σ hS _ _
    unfold fX6_findsMore_L83 fX6_findsMore_J128
    split <;> exact hS
  | succ f ih =>
    intro y σ hS hnn hf
    unfold fX6_findsMore_L83
    have h1 := ih (y + 1) σ hS (lp_nn hnn hf) (lp_b hf)
    split
    · exact h1
    · rename_i c
      split
      · exact h1
      · split
        · exact ih (y + 1) _ (s0_wishes_f hS hnn hf c) (lp_nn hnn hf) (by rw [things_wishes]; exact lp_b hf)
        · exact h1
theorem s0_findsMore_J73 (z : Int32) {σ : RSt} (hS : S0 σ) : S0 (fX6_findsMore_J73 z σ).2 := by
  unfold fX6_findsMore_J73
  split
  · exact s0_findsMore_L83 _ _ _ _ hS (by decide) rfl
  · unfold fX6_findsMore_J128
    split <;> exact hS
theorem s0_findsMore_L27 (z : Int32) (f : Nat) : ∀ (y : Int32) (σ : RSt), S0 σ → S0 (fX6_findsMore_L27 z f y σ).2 := by
  induction f with
  | zero => intro y σ hS; exact s0_findsMore_J73 z hS
  | succ f ih =>
    intro y σ hS
    unfold fX6_findsMore_L27
    split
    · exact ih _ _ hS
    · split
      · exact ih _ _ (s0_sa (sa_shade _ _) hS)
      · exact ih _ _ hS
theorem s0_findsMore_J17 (z : Int32) {σ : RSt} (hS : S0 σ) : S0 (fX6_findsMore_J17 z σ).2 := by
  unfold fX6_findsMore_J17
  split
  · exact s0_findsMore_L27 _ _ _ _ hS
  · exact s0_findsMore_J73 _ hS
theorem s0_findsMore {σ : RSt} (hS : S0 σ) : S0 (fX6_findsMore σ).2 := by
  unfold fX6_findsMore
  split
  · exact s0_findsMore_J17 _ (s0_sa (sa_shadeHeld _) hS)
  · exact s0_findsMore_J17 _ hS

def fX6_over (σ : RSt) : RSt := (r_rounds_s (r_way_s σ (0 : Int32)) ((r_rounds σ) + (1 : Int32)))
theorem hdX6_over : yX6_over.cls = RX6 ∧ yX6_over.cls ≠ "java/lang/invoke/MethodHandle" ∧ yX6_over.cls ≠ "java/lang/invoke/VarHandle" ∧ (parseMethodDescriptor yX6_over.desc).map (fun d => d.parameters.length) = some 0 := by decide +kernel
set_option maxHeartbeats 250000 in
set_option maxRecDepth 100000 in
theorem kX6_over (l : Launch) (D : va_G) (a : Nat → Nat) (cI cZ : ClassId) (σ : RSt) : CU l D (tyIZ cI cZ) (wR a cI cZ) yX6_over cX6_over 1 (rmk 0 0) [.ref (a 0)] σ (fX6_over σ) := by
  refine CU.of pnX6 ⟨rfl, rfl⟩ (Nat.le_of_ble_eq_true rfl) (fun p e s m args below meth c A Q ls C X hA hl ret => ?_)
  have C : Cx p s m args meth c cX6_over 1 RX6 D (tyIZ cI cZ) := C
  have hx := C.1
  have hb := C.2.1
  have hl : lv_has ls 1 [(0, .ref (a 0))] := hl
  refine lv_aload_n hx hb dX6_over_0 rfl (lv_at hl 0 rfl) ?_
  refine lv_iconst (v := (0)) hx hb dX6_over_1 (by decide) ?_
  refine rp_X6_X6_way C X dX6_over_2 (fun H locs X => ?_)
  refine lv_aload_n hx hb dX6_over_5 rfl (lv_at hl 0 rfl) ?_
  refine lv_dup hx hb dX6_over_6 rfl ?_
  refine rg_X6_X6_rounds (v := (r_rounds σ)) C X (rq_rounds_way _ _) dX6_over_7 ?_
  refine lv_iconst (v := (1)) hx hb dX6_over_10 (by decide) ?_
  refine lv_iadd hx hb dX6_over_11 ?_
  refine rp_X6_X6_rounds C X dX6_over_12 (fun H locs X => ?_)
  exact ret dX6_over_15 rfl X
def fX6_marks_L181 : Nat → Int32 → RSt → RSt
  | 0, y2, σ181 => (fX6_over σ181)
  | f + 1, y2, σ181 => (if (fX6_isWhite σ181 y2) = (0 : Int32) then (fX6_marks_L181 f (y2 + 1) σ181) else (if ((r_isFreed σ181) (ix y2)) = (0 : Int32) then (fX6_marks_L181 f (y2 + 1) (fX6_frees σ181 y2)) else (fX6_marks_L181 f (y2 + 1) σ181)))
def fX6_marks_J161 (σ161 : RSt) : RSt := (if (r_manner σ161) = (3 : Int32) then (fX6_marks_L181 (((Int32.toInt (r_things (r_next_s (r_way_s σ161 (2 : Int32)) (0 : Int32)))) - (Int32.toInt (0 : Int32))).toNat) (0 : Int32) (r_next_s (r_way_s σ161 (2 : Int32)) (0 : Int32))) else (r_next_s (r_way_s σ161 (2 : Int32)) (0 : Int32)))
def fX6_marks_L114 : Nat → Int32 → RSt → RSt
  | 0, y2, σ114 => σ114
  | f + 1, y2, σ114 => (if ((r_isPair σ114) (ix y2)) = (0 : Int32) then (fX6_marks_L114 f (y2 + 1) (r_isPair_s σ114 (upd (r_isPair σ114) (ix y2) (0 : Int32)))) else (if (fX6_isWhite σ114 ((r_key σ114) (ix y2))) = (0 : Int32) then (fX6_marks_L114 f (y2 + 1) (r_isPair_s σ114 (upd (r_isPair σ114) (ix y2) (1 : Int32)))) else (fX6_marks_L114 f (y2 + 1) (r_isPair_s σ114 (upd (r_isPair σ114) (ix y2) (0 : Int32))))))
def fX6_marks_J112 (σ112 : RSt) : RSt := (fX6_marks_J161 (fX6_marks_L114 (((Int32.toInt (r_pairs σ112)) - (Int32.toInt (0 : Int32))).toNat) (0 : Int32) σ112))
def fX6_marks_L61 : Nat → Int32 → RSt → RSt
  | 0, y2, σ61 => σ61
  | f + 1, y2, σ61 => (if ((r_weakAt σ61) (ix y2)) = (-1 : Int32) then (fX6_marks_L61 f (y2 + 1) (r_weakAt_s σ61 (upd (r_weakAt σ61) (ix y2) ((r_weakAt σ61) (ix y2))))) else (if (fX6_isWhite σ61 ((r_weakAt σ61) (ix y2))) = (0 : Int32) then (fX6_marks_L61 f (y2 + 1) (r_weakAt_s σ61 (upd (r_weakAt σ61) (ix y2) ((r_weakAt σ61) (ix y2))))) else (fX6_marks_L61 f (y2 + 1) (r_weakAt_s σ61 (upd (r_weakAt σ61) (ix y2) (-1 : Int32))))))
def fX6_marks_L12 (z1 : Int32) : Nat → Int32 → RSt → RSt
  | 0, y2, σ12 => σ12
  | f + 1, y2, σ12 => (fX6_marks_L12 z1 f (y2 + 1) (fX6_shade σ12 ((r_field σ12) (ix (((6 : Int32) * z1) + y2)))))
def fX6_marks (σ : RSt) : RSt := (if (fX6_leastGray σ) = (-1 : Int32) then (if (fX6_findsMore σ).1 = (0 : Int32) then (fX6_marks_J112 (fX6_marks_L61 (((Int32.toInt (6 : Int32)) - (Int32.toInt (0 : Int32))).toNat) (0 : Int32) ((fX6_findsMore σ).2))) else (fX6_findsMore σ).2) else (r_colour_s (fX6_marks_L12 (fX6_leastGray σ) (((Int32.toInt ((r_many σ) (ix (fX6_leastGray σ)))) - (Int32.toInt (0 : Int32))).toNat) (0 : Int32) σ) (upd (r_colour (fX6_marks_L12 (fX6_leastGray σ) (((Int32.toInt ((r_many σ) (ix (fX6_leastGray σ)))) - (Int32.toInt (0 : Int32))).toNat) (0 : Int32) σ)) (ix (fX6_leastGray σ)) (2 : Int32))))
theorem hdX6_marks : yX6_marks.cls = RX6 ∧ yX6_marks.cls ≠ "java/lang/invoke/MethodHandle" ∧ yX6_marks.cls ≠ "java/lang/invoke/VarHandle" ∧ (parseMethodDescriptor yX6_marks.desc).map (fun d => d.parameters.length) = some 0 := by decide +kernel
theorem s0_marks_L61 (f : Nat) : ∀ (y : Int32) (σ : RSt), S0 σ → S0 (fX6_marks_L61 f y σ) := by
  induction f with
  | zero => intro y σ hS; exact hS
  | succ f ih =>
    intro y σ hS
    unfold fX6_marks_L61
    split
    · exact ih _ _ (s0_wk hS _ (s0_weakAt hS _))
    · split
      · exact ih _ _ (s0_wk hS _ (s0_weakAt hS _))
      · exact ih _ _ (s0_wk hS _ (Or.inl rfl))
theorem sa_marks_L114 (f : Nat) : ∀ (y : Int32) (σ : RSt), SA σ (fX6_marks_L114 f y σ) := by
  induction f with
  | zero => intro y σ; exact sa_rf σ
  | succ f ih =>
    intro y σ
    unfold fX6_marks_L114
    split
    · exact sa_tr (sa_isPair _ _) (ih _ _)
    · split
      · exact sa_tr (sa_isPair _ _) (ih _ _)
      · exact sa_tr (sa_isPair _ _) (ih _ _)

set_option maxHeartbeats 250000 in
set_option maxRecDepth 100000 in
theorem kX6_marks (l : Launch) (D : va_G) (a : Nat → Nat) (cI cZ : ClassId) (σ : RSt) (hS : S0 σ) : CU l D (tyIZ cI cZ) (wR a cI cZ) yX6_marks cX6_marks 3 (rmk 3 64) [.ref (a 0)] σ (fX6_marks σ) := by
  refine CU.of pnX6 ⟨rfl, rfl⟩ (Nat.le_of_ble_eq_true rfl) (fun p e s m args below meth c A Q ls C X hA hl ret => ?_)
  have C : Cx p s m args meth c cX6_marks 3 RX6 D (tyIZ cI cZ) := C
  have hx := C.1
  have hb := C.2.1
  have hl : lv_has ls 3 [(0, .ref (a 0))] := hl
  refine lv_aload_n hx hb dX6_marks_0 rfl (lv_at hl 0 rfl) ?_
  refine callVR (rest := []) C hA (wR_sh a cI cZ) X (kX6_leastGray l D a cI cZ _  hS) (cwV 0 C.2.2.2.2.1 (gV wl_X6_116 wt_yX6_leastGray ws_yX6_leastGray wi_X6 wk_yX6_leastGray) rfl rfl rfl hdX6_leastGray ⟨Nat.le_of_ble_eq_true rfl, Nat.le_of_ble_eq_true rfl⟩) (ci := 6) (q0 := 0) rfl rfl rfl hl.1 rfl (Nat.le_of_ble_eq_true rfl) dX6_marks_1 ⟨Nat.le_refl 0, Nat.le_refl 0⟩ (fun H locs X => ?_)
  refine lv_istore_n (lv' := [(1, .int (fX6_leastGray σ)), (0, .ref (a 0))]) hx hb dX6_marks_4 rfl hl (by decide) rfl (fun ls hl => ?_)
  refine lv_iload_n hx hb dX6_marks_5 rfl (lv_at hl 0 rfl) ?_
  refine lv_iconst (v := (-1)) hx hb dX6_marks_6 (by decide) ?_
  refine lv_icmp_eq (tgt := 51) hx hb dX6_marks_7 (by decide) (fun c7 => ?_) (fun c7 => ?_)
  · refine lv_aload_n hx hb dX6_marks_51 rfl (lv_at hl 1 rfl) ?_
    refine callVR (rest := []) C hA (wR_sh a cI cZ) X (kX6_findsMore l D a cI cZ _  hS) (cwV 0 C.2.2.2.2.1 (gV wl_X6_120 wt_yX6_findsMore ws_yX6_findsMore wi_X6 wk_yX6_findsMore) rfl rfl rfl hdX6_findsMore ⟨Nat.le_of_ble_eq_true rfl, Nat.le_of_ble_eq_true rfl⟩) (ci := 6) (q0 := 0) rfl rfl rfl hl.1 rfl (Nat.le_of_ble_eq_true rfl) dX6_marks_52 ⟨Nat.le_refl 0, Nat.le_refl 0⟩ (fun H locs X => ?_)
    refine lv_if_eq (tgt := 59) hx hb dX6_marks_55 (by decide) (fun c55 => ?_) (fun c55 => ?_)
    · have J112 : ∀ (σ112 : RSt) (hS : S0 σ112) (he : fX6_marks_J112 σ112 = (fX6_marks σ)) (H : Heap) (locs : List Loc) (ls : Array Slot) (X : Sx A D (wR a cI cZ σ112) s H locs) (hl : lv_has ls 3 [(0, .ref (a 0))]), W p l e (rmk 3 64) s m args below meth c H locs 0 0 Q (F0 m 112 ls []) := by
        intro σ112 hS he H locs ls X hl
        have J161 : ∀ (σ161 : RSt) (hS : S0 σ161) (he : fX6_marks_J161 σ161 = (fX6_marks σ)) (H : Heap) (locs : List Loc) (ls : Array Slot) (X : Sx A D (wR a cI cZ σ161) s H locs) (hl : lv_has ls 3 [(0, .ref (a 0))]), W p l e (rmk 3 64) s m args below meth c H locs 0 0 Q (F0 m 161 ls []) := by
          intro σ161 hS he H locs ls X hl
          refine lv_aload_n hx hb dX6_marks_161 rfl (lv_at hl 0 rfl) ?_
          refine lv_iconst (v := (2)) hx hb dX6_marks_162 (by decide) ?_
          refine rp_X6_X6_way C X dX6_marks_163 (fun H locs X => ?_)
          refine lv_aload_n hx hb dX6_marks_166 rfl (lv_at hl 0 rfl) ?_
          refine lv_iconst (v := (0)) hx hb dX6_marks_167 (by decide) ?_
          refine rp_X6_X6_next C X dX6_marks_168 (fun H locs X => ?_)
          refine lv_aload_n hx hb dX6_marks_171 rfl (lv_at hl 0 rfl) ?_
          refine rg_X6_X6_manner (v := (r_manner σ161)) C X (Eq.trans (rq_manner_next _ _) (rq_manner_way _ _)) dX6_marks_172 ?_
          refine lv_iconst (v := (3)) hx hb dX6_marks_175 (by decide) ?_
          refine lv_icmp_ne (tgt := 221) hx hb dX6_marks_176 (by decide) (fun c176 => ?_) (fun c176 => ?_)
          · exact ret dX6_marks_221 (Eq.trans (Eq.symm (if_neg c176)) he) X
          · refine lv_iconst (v := (0)) hx hb dX6_marks_179 (by decide) ?_
            refine lv_istore_n (lv' := [(2, .int (0 : Int32)), (0, .ref (a 0))]) hx hb dX6_marks_180 rfl hl (by decide) rfl (fun ls hl => ?_)
            have L181 : ∀ (f : Nat) (y2 : Int32) (σ181 : RSt) (hf : ((Int32.toInt (r_things σ181)) - (Int32.toInt y2)).toNat = f) (hnn : 0 ≤ Int32.toInt y2) (hS : S0 σ181) (he : fX6_marks_L181 f y2 σ181 = (fX6_marks σ)) (H : Heap) (locs : List Loc) (ls : Array Slot) (X : Sx A D (wR a cI cZ σ181) s H locs) (hl : lv_has ls 3 [(0, .ref (a 0)), (2, .int y2)]), W p l e (rmk 3 64) s m args below meth c H locs 0 0 Q (F0 m 181 ls []) := by
              intro f
              induction f with
              | zero =>
                intro y2 σ181 hf hnn hS he H locs ls X hl
                refine lv_iload_n hx hb dX6_marks_181 rfl (lv_at hl 1 rfl) ?_
                refine lv_aload_n hx hb dX6_marks_182 rfl (lv_at hl 0 rfl) ?_
                refine rg_X6_X6_things (v := (r_things σ181)) C X rfl dX6_marks_183 ?_
                refine lv_icmp_ge (tgt := 217) hx hb dX6_marks_186 (by decide) (fun c186 => ?_) (fun c186 => (lp_z hf c186).elim)
                refine lv_aload_n hx hb dX6_marks_217 rfl (lv_at hl 0 rfl) ?_
                refine callVU (rest := []) C hA (wR_sh a cI cZ) X (kX6_over l D a cI cZ _ ) (cwV 0 C.2.2.2.2.1 (gV wl_X6_130 wt_yX6_over ws_yX6_over wi_X6 wk_yX6_over) rfl rfl rfl hdX6_over ⟨Nat.le_of_ble_eq_true rfl, Nat.le_of_ble_eq_true rfl⟩) (ci := 6) (q0 := 0) rfl rfl rfl hl.1 rfl (Nat.le_of_ble_eq_true rfl) dX6_marks_218 ⟨Nat.le_refl 0, Nat.le_refl 0⟩ (fun H locs X => ?_)
                exact ret dX6_marks_221 he X
              | succ f ih181 =>
                intro y2 σ181 hf hnn hS he H locs ls X hl
                refine lv_iload_n hx hb dX6_marks_181 rfl (lv_at hl 1 rfl) ?_
                refine lv_aload_n hx hb dX6_marks_182 rfl (lv_at hl 0 rfl) ?_
                refine rg_X6_X6_things (v := (r_things σ181)) C X rfl dX6_marks_183 ?_
                refine lv_icmp_ge (tgt := 217) hx hb dX6_marks_186 (by decide) (fun c186 => (lp_s hf c186).elim) (fun c186 => ?_)
                refine lv_aload_n hx hb dX6_marks_189 rfl (lv_at hl 0 rfl) ?_
                refine lv_iload_n hx hb dX6_marks_190 rfl (lv_at hl 1 rfl) ?_
                refine callVR (rest := []) C hA (wR_sh a cI cZ) X (kX6_isWhite l D a cI cZ _ y2 (lp_in hnn hf (s0_th hS))) (cwV 1 C.2.2.2.2.1 (gV wl_X6_110 wt_yX6_isWhite ws_yX6_isWhite wi_X6 wk_yX6_isWhite) rfl rfl rfl hdX6_isWhite ⟨Nat.le_of_ble_eq_true rfl, Nat.le_of_ble_eq_true rfl⟩) (ci := 6) (q0 := 0) rfl rfl rfl hl.1 rfl (Nat.le_of_ble_eq_true rfl) dX6_marks_191 ⟨Nat.le_refl 0, Nat.le_refl 0⟩ (fun H locs X => ?_)
                refine lv_if_eq (tgt := 211) hx hb dX6_marks_194 (by decide) (fun c194 => ?_) (fun c194 => ?_)
                · refine lv_iinc (v := (y2 + 1)) (lv' := [(2, .int (y2 + 1)), (0, .ref (a 0))]) hx hb dX6_marks_211 hl (k := 1) rfl rfl (by decide) rfl (fun ls hl => ?_)
                  refine lv_goto (tgt := 181) hx hb dX6_marks_214 (by decide) ?_
                  exact ih181 (y2 + 1) σ181 (by first | with_reducible exact lp_b hf | (rw [things_frees]; exact lp_b hf)) (lp_nn hnn hf) (by first | with_reducible exact hS | exact s0_sa (sa_frees _ _) hS) (Eq.trans (Eq.symm (if_pos c194)) he) _ _ _ X (lv_sub hl [1, 0] rfl)
                · refine lv_aload_n hx hb dX6_marks_197 rfl (lv_at hl 0 rfl) ?_
                  refine rg_X6_X6_isFreed C X dX6_marks_198 ?_
                  refine lv_iload_n hx hb dX6_marks_201 rfl (lv_at hl 1 rfl) ?_
                  refine ra_isFreed (v := ((r_isFreed σ181) (ix y2))) C X (lp_in hnn hf (s0_th hS)) rfl dX6_marks_202 ?_
                  refine lv_if_ne (tgt := 211) hx hb dX6_marks_203 (by decide) (fun c203 => ?_) (fun c203 => ?_)
                  · refine lv_iinc (v := (y2 + 1)) (lv' := [(2, .int (y2 + 1)), (0, .ref (a 0))]) hx hb dX6_marks_211 hl (k := 1) rfl rfl (by decide) rfl (fun ls hl => ?_)
                    refine lv_goto (tgt := 181) hx hb dX6_marks_214 (by decide) ?_
                    exact ih181 (y2 + 1) σ181 (by first | with_reducible exact lp_b hf | (rw [things_frees]; exact lp_b hf)) (lp_nn hnn hf) (by first | with_reducible exact hS | exact s0_sa (sa_frees _ _) hS) (Eq.trans (Eq.symm (Eq.trans (if_neg c194) (if_neg c203))) he) _ _ _ X (lv_sub hl [1, 0] rfl)
                  · refine lv_aload_n hx hb dX6_marks_206 rfl (lv_at hl 0 rfl) ?_
                    refine lv_iload_n hx hb dX6_marks_207 rfl (lv_at hl 1 rfl) ?_
                    refine callVU (rest := []) C hA (wR_sh a cI cZ) X (kX6_frees l D a cI cZ _ y2 (lp_in hnn hf (s0_th hS))) (cwV 1 C.2.2.2.2.1 (gV wl_X6_127 wt_yX6_frees ws_yX6_frees wi_X6 wk_yX6_frees) rfl rfl rfl hdX6_frees ⟨Nat.le_of_ble_eq_true rfl, Nat.le_of_ble_eq_true rfl⟩) (ci := 6) (q0 := 0) rfl rfl rfl hl.1 rfl (Nat.le_of_ble_eq_true rfl) dX6_marks_208 ⟨Nat.le_refl 0, Nat.le_refl 0⟩ (fun H locs X => ?_)
                    refine lv_iinc (v := (y2 + 1)) (lv' := [(2, .int (y2 + 1)), (0, .ref (a 0))]) hx hb dX6_marks_211 hl (k := 1) rfl rfl (by decide) rfl (fun ls hl => ?_)
                    refine lv_goto (tgt := 181) hx hb dX6_marks_214 (by decide) ?_
                    exact ih181 (y2 + 1) (fX6_frees σ181 y2) (by first | with_reducible exact lp_b hf | (rw [things_frees]; exact lp_b hf)) (lp_nn hnn hf) (by first | with_reducible exact hS | exact s0_sa (sa_frees _ _) hS) (Eq.trans (Eq.symm (Eq.trans (if_neg c194) (if_pos c203))) he) _ _ _ X (lv_sub hl [1, 0] rfl)
            exact L181 (((Int32.toInt (r_things (r_next_s (r_way_s σ161 (2 : Int32)) (0 : Int32)))) - (Int32.toInt (0 : Int32))).toNat) (0 : Int32) (r_next_s (r_way_s σ161 (2 : Int32)) (0 : Int32)) rfl (by decide) (s0_w2 hS) (Eq.trans (Eq.symm (if_pos c176)) he) _ _ _ X (lv_sub hl [1, 0] rfl)
        refine lv_iconst (v := (0)) hx hb dX6_marks_112 (by decide) ?_
        refine lv_istore_n (lv' := [(2, .int (0 : Int32)), (0, .ref (a 0))]) hx hb dX6_marks_113 rfl hl (by decide) rfl (fun ls hl => ?_)
        have L114 : ∀ (res : RSt) (hx114 : ∀ (H : Heap) (locs : List Loc) (ls : Array Slot), Sx A D (wR a cI cZ res) s H locs → lv_has ls 3 [(0, .ref (a 0))] → W p l e (rmk 3 64) s m args below meth c H locs 0 0 Q (F0 m 161 ls [])) (f : Nat) (y2 : Int32) (σ114 : RSt) (hf : ((Int32.toInt (r_pairs σ114)) - (Int32.toInt y2)).toNat = f) (hnn : 0 ≤ Int32.toInt y2) (hS : S0 σ114) (he : fX6_marks_L114 f y2 σ114 = res) (H : Heap) (locs : List Loc) (ls : Array Slot) (X : Sx A D (wR a cI cZ σ114) s H locs) (hl : lv_has ls 3 [(0, .ref (a 0)), (2, .int y2)]), W p l e (rmk 3 64) s m args below meth c H locs 0 0 Q (F0 m 114 ls []) := by
          intro res hx114 f
          induction f with
          | zero =>
            intro y2 σ114 hf hnn hS he H locs ls X hl
            refine lv_iload_n hx hb dX6_marks_114 rfl (lv_at hl 1 rfl) ?_
            refine lv_aload_n hx hb dX6_marks_115 rfl (lv_at hl 0 rfl) ?_
            refine rg_X6_X6_pairs (v := (r_pairs σ114)) C X rfl dX6_marks_116 ?_
            refine lv_icmp_ge (tgt := 161) hx hb dX6_marks_119 (by decide) (fun c119 => ?_) (fun c119 => (lp_z hf c119).elim)
            exact hx114 _ _ _ (Eq.subst (motive := fun z => Sx A D (wR a cI cZ z) s _ _) he X) (Eq.subst (motive := fun z => lv_has _ 3 [(0, .ref (a 0))]) he (lv_sub hl [0] rfl))
          | succ f ih114 =>
            intro y2 σ114 hf hnn hS he H locs ls X hl
            refine lv_iload_n hx hb dX6_marks_114 rfl (lv_at hl 1 rfl) ?_
            refine lv_aload_n hx hb dX6_marks_115 rfl (lv_at hl 0 rfl) ?_
            refine rg_X6_X6_pairs (v := (r_pairs σ114)) C X rfl dX6_marks_116 ?_
            refine lv_icmp_ge (tgt := 161) hx hb dX6_marks_119 (by decide) (fun c119 => (lp_s hf c119).elim) (fun c119 => ?_)
            refine lv_aload_n hx hb dX6_marks_122 rfl (lv_at hl 0 rfl) ?_
            refine rg_X6_X6_isPair C X dX6_marks_123 ?_
            refine lv_iload_n hx hb dX6_marks_126 rfl (lv_at hl 1 rfl) ?_
            refine lv_aload_n hx hb dX6_marks_127 rfl (lv_at hl 0 rfl) ?_
            refine rg_X6_X6_isPair C X dX6_marks_128 ?_
            refine lv_iload_n hx hb dX6_marks_131 rfl (lv_at hl 1 rfl) ?_
            refine ra_isPair (v := ((r_isPair σ114) (ix y2))) C X (lp_in hnn hf (s0_pairs hS)) rfl dX6_marks_132 ?_
            refine lv_if_eq (tgt := 153) hx hb dX6_marks_133 (by decide) (fun c133 => ?_) (fun c133 => ?_)
            · refine lv_iconst (v := (0)) hx hb dX6_marks_153 (by decide) ?_
              refine rs_isPair (x1 := (0 : Int32)) (g := (upd (r_isPair σ114) (ix y2) (0 : Int32))) C X (lp_in hnn hf (s0_pairs hS)) rfl rfl dX6_marks_154 (fun H locs X => ?_)
              refine lv_iinc (v := (y2 + 1)) (lv' := [(2, .int (y2 + 1)), (0, .ref (a 0))]) hx hb dX6_marks_155 hl (k := 1) rfl rfl (by decide) rfl (fun ls hl => ?_)
              refine lv_goto (tgt := 114) hx hb dX6_marks_158 (by decide) ?_
              exact ih114 (y2 + 1) (r_isPair_s σ114 (upd (r_isPair σ114) (ix y2) (0 : Int32))) (lp_b hf) (lp_nn hnn hf) (s0_sa (sa_isPair _ _) hS) (Eq.trans (Eq.symm (if_pos c133)) he) _ _ _ X (lv_sub hl [1, 0] rfl)
            · refine lv_aload_n hx hb dX6_marks_136 rfl (lv_at hl 0 rfl) ?_
              refine lv_aload_n hx hb dX6_marks_137 rfl (lv_at hl 0 rfl) ?_
              refine rg_X6_X6_key C X dX6_marks_138 ?_
              refine lv_iload_n hx hb dX6_marks_141 rfl (lv_at hl 1 rfl) ?_
              refine ra_key (v := ((r_key σ114) (ix y2))) C X (lp_in hnn hf (s0_pairs hS)) rfl dX6_marks_142 ?_
              refine callVR (rest := [.int y2, .ref (a 14)]) C hA (wR_sh a cI cZ) X (kX6_isWhite l D a cI cZ _ ((r_key σ114) (ix y2)) (s0_key hS _)) (cwV 1 C.2.2.2.2.1 (gV wl_X6_110 wt_yX6_isWhite ws_yX6_isWhite wi_X6 wk_yX6_isWhite) rfl rfl rfl hdX6_isWhite ⟨Nat.le_of_ble_eq_true rfl, Nat.le_of_ble_eq_true rfl⟩) (ci := 6) (q0 := 0) rfl rfl rfl hl.1 rfl (Nat.le_of_ble_eq_true rfl) dX6_marks_143 ⟨Nat.le_refl 0, Nat.le_refl 0⟩ (fun H locs X => ?_)
              refine lv_if_ne (tgt := 153) hx hb dX6_marks_146 (by decide) (fun c146 => ?_) (fun c146 => ?_)
              · refine lv_iconst (v := (0)) hx hb dX6_marks_153 (by decide) ?_
                refine rs_isPair (x1 := (0 : Int32)) (g := (upd (r_isPair σ114) (ix y2) (0 : Int32))) C X (lp_in hnn hf (s0_pairs hS)) rfl rfl dX6_marks_154 (fun H locs X => ?_)
                refine lv_iinc (v := (y2 + 1)) (lv' := [(2, .int (y2 + 1)), (0, .ref (a 0))]) hx hb dX6_marks_155 hl (k := 1) rfl rfl (by decide) rfl (fun ls hl => ?_)
                refine lv_goto (tgt := 114) hx hb dX6_marks_158 (by decide) ?_
                exact ih114 (y2 + 1) (r_isPair_s σ114 (upd (r_isPair σ114) (ix y2) (0 : Int32))) (lp_b hf) (lp_nn hnn hf) (s0_sa (sa_isPair _ _) hS) (Eq.trans (Eq.symm (Eq.trans (if_neg c133) (if_neg c146))) he) _ _ _ X (lv_sub hl [1, 0] rfl)
              · refine lv_iconst (v := (1)) hx hb dX6_marks_149 (by decide) ?_
                refine lv_goto (tgt := 154) hx hb dX6_marks_150 (by decide) ?_
                refine rs_isPair (x1 := (1 : Int32)) (g := (upd (r_isPair σ114) (ix y2) (1 : Int32))) C X (lp_in hnn hf (s0_pairs hS)) rfl rfl dX6_marks_154 (fun H locs X => ?_)
                refine lv_iinc (v := (y2 + 1)) (lv' := [(2, .int (y2 + 1)), (0, .ref (a 0))]) hx hb dX6_marks_155 hl (k := 1) rfl rfl (by decide) rfl (fun ls hl => ?_)
                refine lv_goto (tgt := 114) hx hb dX6_marks_158 (by decide) ?_
                exact ih114 (y2 + 1) (r_isPair_s σ114 (upd (r_isPair σ114) (ix y2) (1 : Int32))) (lp_b hf) (lp_nn hnn hf) (s0_sa (sa_isPair _ _) hS) (Eq.trans (Eq.symm (Eq.trans (if_neg c133) (if_pos c146))) he) _ _ _ X (lv_sub hl [1, 0] rfl)
        refine L114 (fX6_marks_L114 (((Int32.toInt (r_pairs σ112)) - (Int32.toInt (0 : Int32))).toNat) (0 : Int32) σ112) (fun H locs ls X hl => ?_) (((Int32.toInt (r_pairs σ112)) - (Int32.toInt (0 : Int32))).toNat) (0 : Int32) σ112 rfl (by decide) (hS) rfl _ _ _ X (lv_sub hl [1, 0] rfl)
        exact J161  (fX6_marks_L114 (((Int32.toInt (r_pairs σ112)) - (Int32.toInt (0 : Int32))).toNat) (0 : Int32) σ112) (s0_sa (sa_marks_L114 _ _ _) hS) he _ _ _ X (lv_sub hl [0] rfl)
      refine lv_iconst (v := (0)) hx hb dX6_marks_59 (by decide) ?_
      refine lv_istore_n (lv' := [(2, .int (0 : Int32)), (1, .int (fX6_leastGray σ)), (0, .ref (a 0))]) hx hb dX6_marks_60 rfl hl (by decide) rfl (fun ls hl => ?_)
      have L61 : ∀ (res : RSt) (hx61 : ∀ (H : Heap) (locs : List Loc) (ls : Array Slot), Sx A D (wR a cI cZ res) s H locs → lv_has ls 3 [(0, .ref (a 0))] → W p l e (rmk 3 64) s m args below meth c H locs 0 0 Q (F0 m 112 ls [])) (f : Nat) (y2 : Int32) (σ61 : RSt) (hf : ((Int32.toInt (6 : Int32)) - (Int32.toInt y2)).toNat = f) (hnn : 0 ≤ Int32.toInt y2) (hS : S0 σ61) (he : fX6_marks_L61 f y2 σ61 = res) (H : Heap) (locs : List Loc) (ls : Array Slot) (X : Sx A D (wR a cI cZ σ61) s H locs) (hl : lv_has ls 3 [(0, .ref (a 0)), (2, .int y2)]), W p l e (rmk 3 64) s m args below meth c H locs 0 0 Q (F0 m 61 ls []) := by
        intro res hx61 f
        induction f with
        | zero =>
          intro y2 σ61 hf hnn hS he H locs ls X hl
          refine lv_iload_n hx hb dX6_marks_61 rfl (lv_at hl 1 rfl) ?_
          refine lv_bipush (v := (6)) hx hb dX6_marks_62 (by decide) ?_
          refine lv_icmp_ge (tgt := 112) hx hb dX6_marks_64 (by decide) (fun c64 => ?_) (fun c64 => (lp_z hf c64).elim)
          exact hx61 _ _ _ (Eq.subst (motive := fun z => Sx A D (wR a cI cZ z) s _ _) he X) (Eq.subst (motive := fun z => lv_has _ 3 [(0, .ref (a 0))]) he (lv_sub hl [0] rfl))
        | succ f ih61 =>
          intro y2 σ61 hf hnn hS he H locs ls X hl
          refine lv_iload_n hx hb dX6_marks_61 rfl (lv_at hl 1 rfl) ?_
          refine lv_bipush (v := (6)) hx hb dX6_marks_62 (by decide) ?_
          refine lv_icmp_ge (tgt := 112) hx hb dX6_marks_64 (by decide) (fun c64 => (lp_s hf c64).elim) (fun c64 => ?_)
          refine lv_aload_n hx hb dX6_marks_67 rfl (lv_at hl 0 rfl) ?_
          refine rg_X6_X6_weakAt C X dX6_marks_68 ?_
          refine lv_iload_n hx hb dX6_marks_71 rfl (lv_at hl 1 rfl) ?_
          refine lv_aload_n hx hb dX6_marks_72 rfl (lv_at hl 0 rfl) ?_
          refine rg_X6_X6_weakAt C X dX6_marks_73 ?_
          refine lv_iload_n hx hb dX6_marks_76 rfl (lv_at hl 1 rfl) ?_
          refine ra_weakAt (v := ((r_weakAt σ61) (ix y2))) C X (lp_in hnn hf (show (Int32.toInt (6 : Int32) : Int) ≤ 6 by decide)) rfl dX6_marks_77 ?_
          refine lv_iconst (v := (-1)) hx hb dX6_marks_78 (by decide) ?_
          refine lv_icmp_eq (tgt := 99) hx hb dX6_marks_79 (by decide) (fun c79 => ?_) (fun c79 => ?_)
          · refine lv_aload_n hx hb dX6_marks_99 rfl (lv_at hl 0 rfl) ?_
            refine rg_X6_X6_weakAt C X dX6_marks_100 ?_
            refine lv_iload_n hx hb dX6_marks_103 rfl (lv_at hl 1 rfl) ?_
            refine ra_weakAt (v := ((r_weakAt σ61) (ix y2))) C X (lp_in hnn hf (show (Int32.toInt (6 : Int32) : Int) ≤ 6 by decide)) rfl dX6_marks_104 ?_
            refine rs_weakAt (g := (upd (r_weakAt σ61) (ix y2) ((r_weakAt σ61) (ix y2)))) C X (lp_in hnn hf (show (Int32.toInt (6 : Int32) : Int) ≤ 6 by decide)) rfl dX6_marks_105 (fun H locs X => ?_)
            refine lv_iinc (v := (y2 + 1)) (lv' := [(2, .int (y2 + 1)), (0, .ref (a 0))]) hx hb dX6_marks_106 hl (k := 1) rfl rfl (by decide) rfl (fun ls hl => ?_)
            refine lv_goto (tgt := 61) hx hb dX6_marks_109 (by decide) ?_
            exact ih61 (y2 + 1) (r_weakAt_s σ61 (upd (r_weakAt σ61) (ix y2) ((r_weakAt σ61) (ix y2)))) (lp_b hf) (lp_nn hnn hf) (by first | exact s0_wk hS _ (Or.inl rfl) | exact s0_wk hS _ (s0_weakAt hS _)) (Eq.trans (Eq.symm (if_pos c79)) he) _ _ _ X (lv_sub hl [1, 0] rfl)
          · refine lv_aload_n hx hb dX6_marks_82 rfl (lv_at hl 0 rfl) ?_
            refine lv_aload_n hx hb dX6_marks_83 rfl (lv_at hl 0 rfl) ?_
            refine rg_X6_X6_weakAt C X dX6_marks_84 ?_
            refine lv_iload_n hx hb dX6_marks_87 rfl (lv_at hl 1 rfl) ?_
            refine ra_weakAt (v := ((r_weakAt σ61) (ix y2))) C X (lp_in hnn hf (show (Int32.toInt (6 : Int32) : Int) ≤ 6 by decide)) rfl dX6_marks_88 ?_
            refine callVR (rest := [.int y2, .ref (a 11)]) C hA (wR_sh a cI cZ) X (kX6_isWhite l D a cI cZ _ ((r_weakAt σ61) (ix y2)) (vt_in (s0_weakAt hS _) c79)) (cwV 1 C.2.2.2.2.1 (gV wl_X6_110 wt_yX6_isWhite ws_yX6_isWhite wi_X6 wk_yX6_isWhite) rfl rfl rfl hdX6_isWhite ⟨Nat.le_of_ble_eq_true rfl, Nat.le_of_ble_eq_true rfl⟩) (ci := 6) (q0 := 0) rfl rfl rfl hl.1 rfl (Nat.le_of_ble_eq_true rfl) dX6_marks_89 ⟨Nat.le_refl 0, Nat.le_refl 0⟩ (fun H locs X => ?_)
            refine lv_if_eq (tgt := 99) hx hb dX6_marks_92 (by decide) (fun c92 => ?_) (fun c92 => ?_)
            · refine lv_aload_n hx hb dX6_marks_99 rfl (lv_at hl 0 rfl) ?_
              refine rg_X6_X6_weakAt C X dX6_marks_100 ?_
              refine lv_iload_n hx hb dX6_marks_103 rfl (lv_at hl 1 rfl) ?_
              refine ra_weakAt (v := ((r_weakAt σ61) (ix y2))) C X (lp_in hnn hf (show (Int32.toInt (6 : Int32) : Int) ≤ 6 by decide)) rfl dX6_marks_104 ?_
              refine rs_weakAt (g := (upd (r_weakAt σ61) (ix y2) ((r_weakAt σ61) (ix y2)))) C X (lp_in hnn hf (show (Int32.toInt (6 : Int32) : Int) ≤ 6 by decide)) rfl dX6_marks_105 (fun H locs X => ?_)
              refine lv_iinc (v := (y2 + 1)) (lv' := [(2, .int (y2 + 1)), (0, .ref (a 0))]) hx hb dX6_marks_106 hl (k := 1) rfl rfl (by decide) rfl (fun ls hl => ?_)
              refine lv_goto (tgt := 61) hx hb dX6_marks_109 (by decide) ?_
              exact ih61 (y2 + 1) (r_weakAt_s σ61 (upd (r_weakAt σ61) (ix y2) ((r_weakAt σ61) (ix y2)))) (lp_b hf) (lp_nn hnn hf) (by first | exact s0_wk hS _ (Or.inl rfl) | exact s0_wk hS _ (s0_weakAt hS _)) (Eq.trans (Eq.symm (Eq.trans (if_neg c79) (if_pos c92))) he) _ _ _ X (lv_sub hl [1, 0] rfl)
            · refine lv_iconst (v := (-1)) hx hb dX6_marks_95 (by decide) ?_
              refine lv_goto (tgt := 105) hx hb dX6_marks_96 (by decide) ?_
              refine rs_weakAt (g := (upd (r_weakAt σ61) (ix y2) (-1 : Int32))) C X (lp_in hnn hf (show (Int32.toInt (6 : Int32) : Int) ≤ 6 by decide)) rfl dX6_marks_105 (fun H locs X => ?_)
              refine lv_iinc (v := (y2 + 1)) (lv' := [(2, .int (y2 + 1)), (0, .ref (a 0))]) hx hb dX6_marks_106 hl (k := 1) rfl rfl (by decide) rfl (fun ls hl => ?_)
              refine lv_goto (tgt := 61) hx hb dX6_marks_109 (by decide) ?_
              exact ih61 (y2 + 1) (r_weakAt_s σ61 (upd (r_weakAt σ61) (ix y2) (-1 : Int32))) (lp_b hf) (lp_nn hnn hf) (by first | exact s0_wk hS _ (Or.inl rfl) | exact s0_wk hS _ (s0_weakAt hS _)) (Eq.trans (Eq.symm (Eq.trans (if_neg c79) (if_neg c92))) he) _ _ _ X (lv_sub hl [1, 0] rfl)
      refine L61 (fX6_marks_L61 (((Int32.toInt (6 : Int32)) - (Int32.toInt (0 : Int32))).toNat) (0 : Int32) ((fX6_findsMore σ).2)) (fun H locs ls X hl => ?_) (((Int32.toInt (6 : Int32)) - (Int32.toInt (0 : Int32))).toNat) (0 : Int32) ((fX6_findsMore σ).2) rfl (by decide) (s0_findsMore hS) rfl _ _ _ X (lv_sub hl [2, 0] rfl)
      exact J112  (fX6_marks_L61 (((Int32.toInt (6 : Int32)) - (Int32.toInt (0 : Int32))).toNat) (0 : Int32) ((fX6_findsMore σ).2)) (s0_marks_L61 _ _ _ (s0_findsMore hS)) (Eq.symm (Eq.trans (if_pos c7) (if_pos c55))) _ _ _ X (lv_sub hl [0] rfl)
    · exact ret dX6_marks_58 (Eq.symm (Eq.trans (if_pos c7) (if_neg c55))) X
  · have ht := vt_in (vt_leastGray hS) c7
    refine lv_iconst (v := (0)) hx hb dX6_marks_10 (by decide) ?_
    refine lv_istore_n (lv' := [(2, .int (0 : Int32)), (1, .int (fX6_leastGray σ)), (0, .ref (a 0))]) hx hb dX6_marks_11 rfl hl (by decide) rfl (fun ls hl => ?_)
    have L12 : ∀ (res : RSt) (hx12 : ∀ (H : Heap) (locs : List Loc) (ls : Array Slot), Sx A D (wR a cI cZ res) s H locs → lv_has ls 3 [(0, .ref (a 0)), (1, .int (fX6_leastGray σ))] → W p l e (rmk 3 64) s m args below meth c H locs 0 0 Q (F0 m 43 ls [])) (f : Nat) (y2 : Int32) (σ12 : RSt) (hf : ((Int32.toInt ((r_many σ12) (ix (fX6_leastGray σ)))) - (Int32.toInt y2)).toNat = f) (hnn : 0 ≤ Int32.toInt y2) (hS : S0 σ12) (he : fX6_marks_L12 (fX6_leastGray σ) f y2 σ12 = res) (H : Heap) (locs : List Loc) (ls : Array Slot) (X : Sx A D (wR a cI cZ σ12) s H locs) (hl : lv_has ls 3 [(0, .ref (a 0)), (1, .int (fX6_leastGray σ)), (2, .int y2)]), W p l e (rmk 3 64) s m args below meth c H locs 0 0 Q (F0 m 12 ls []) := by
      intro res hx12 f
      induction f with
      | zero =>
        intro y2 σ12 hf hnn hS he H locs ls X hl
        refine lv_iload_n hx hb dX6_marks_12 rfl (lv_at hl 2 rfl) ?_
        refine lv_aload_n hx hb dX6_marks_13 rfl (lv_at hl 0 rfl) ?_
        refine rg_X6_X6_many C X dX6_marks_14 ?_
        refine lv_iload_n hx hb dX6_marks_17 rfl (lv_at hl 1 rfl) ?_
        refine ra_many (v := ((r_many σ12) (ix (fX6_leastGray σ)))) C X ht rfl dX6_marks_18 ?_
        refine lv_icmp_ge (tgt := 43) hx hb dX6_marks_19 (by decide) (fun c19 => ?_) (fun c19 => (lp_z hf c19).elim)
        exact hx12 _ _ _ (Eq.subst (motive := fun z => Sx A D (wR a cI cZ z) s _ _) he X) (Eq.subst (motive := fun z => lv_has _ 3 [(0, .ref (a 0)), (1, .int (fX6_leastGray σ))]) he (lv_sub hl [0, 1] rfl))
      | succ f ih12 =>
        intro y2 σ12 hf hnn hS he H locs ls X hl
        refine lv_iload_n hx hb dX6_marks_12 rfl (lv_at hl 2 rfl) ?_
        refine lv_aload_n hx hb dX6_marks_13 rfl (lv_at hl 0 rfl) ?_
        refine rg_X6_X6_many C X dX6_marks_14 ?_
        refine lv_iload_n hx hb dX6_marks_17 rfl (lv_at hl 1 rfl) ?_
        refine ra_many (v := ((r_many σ12) (ix (fX6_leastGray σ)))) C X ht rfl dX6_marks_18 ?_
        refine lv_icmp_ge (tgt := 43) hx hb dX6_marks_19 (by decide) (fun c19 => (lp_s hf c19).elim) (fun c19 => ?_)
        refine lv_aload_n hx hb dX6_marks_22 rfl (lv_at hl 0 rfl) ?_
        refine lv_aload_n hx hb dX6_marks_23 rfl (lv_at hl 0 rfl) ?_
        refine rg_X6_X6_field C X dX6_marks_24 ?_
        refine lv_bipush (v := (6)) hx hb dX6_marks_27 (by decide) ?_
        refine lv_iload_n hx hb dX6_marks_29 rfl (lv_at hl 1 rfl) ?_
        refine lv_imul hx hb dX6_marks_30 ?_
        refine lv_iload_n hx hb dX6_marks_31 rfl (lv_at hl 2 rfl) ?_
        refine lv_iadd hx hb dX6_marks_32 ?_
        refine ra_field (v := ((r_field σ12) (ix (((6 : Int32) * (fX6_leastGray σ)) + y2)))) C X (in_6x ht (lp_in hnn hf (s0_many hS _))) rfl dX6_marks_33 ?_
        refine callVU (rest := []) C hA (wR_sh a cI cZ) X (kX6_shade l D a cI cZ _ ((r_field σ12) (ix (((6 : Int32) * (fX6_leastGray σ)) + y2))) (s0_field hS _)) (cwV 1 C.2.2.2.2.1 (gV wl_X6_100 wt_yX6_shade ws_yX6_shade wi_X6 wk_yX6_shade) rfl rfl rfl hdX6_shade ⟨Nat.le_of_ble_eq_true rfl, Nat.le_of_ble_eq_true rfl⟩) (ci := 6) (q0 := 0) rfl rfl rfl hl.1 rfl (Nat.le_of_ble_eq_true rfl) dX6_marks_34 ⟨Nat.le_refl 0, Nat.le_refl 0⟩ (fun H locs X => ?_)
        refine lv_iinc (v := (y2 + 1)) (lv' := [(2, .int (y2 + 1)), (0, .ref (a 0)), (1, .int (fX6_leastGray σ))]) hx hb dX6_marks_37 hl (k := 2) rfl rfl (by decide) rfl (fun ls hl => ?_)
        refine lv_goto (tgt := 12) hx hb dX6_marks_40 (by decide) ?_
        exact ih12 (y2 + 1) (fX6_shade σ12 ((r_field σ12) (ix (((6 : Int32) * (fX6_leastGray σ)) + y2)))) (by first | with_reducible exact lp_b hf | (rw [many_shade]; exact lp_b hf)) (lp_nn hnn hf) (s0_sa (sa_shade _ _) hS) he _ _ _ X (lv_sub hl [1, 2, 0] rfl)
    refine L12 (fX6_marks_L12 (fX6_leastGray σ) (((Int32.toInt ((r_many σ) (ix (fX6_leastGray σ)))) - (Int32.toInt (0 : Int32))).toNat) (0 : Int32) σ) (fun H locs ls X hl => ?_) (((Int32.toInt ((r_many σ) (ix (fX6_leastGray σ)))) - (Int32.toInt (0 : Int32))).toNat) (0 : Int32) σ rfl (by decide) (hS) rfl _ _ _ X (lv_sub hl [2, 1, 0] rfl)
    refine lv_aload_n hx hb dX6_marks_43 rfl (lv_at hl 0 rfl) ?_
    refine rg_X6_X6_colour C X dX6_marks_44 ?_
    refine lv_iload_n hx hb dX6_marks_47 rfl (lv_at hl 1 rfl) ?_
    refine lv_iconst (v := (2)) hx hb dX6_marks_48 (by decide) ?_
    refine rs_colour (g := (upd (r_colour (fX6_marks_L12 (fX6_leastGray σ) (((Int32.toInt ((r_many σ) (ix (fX6_leastGray σ)))) - (Int32.toInt (0 : Int32))).toNat) (0 : Int32) σ)) (ix (fX6_leastGray σ)) (2 : Int32))) C X ht rfl dX6_marks_49 (fun H locs X => ?_)
    exact ret dX6_marks_50 (Eq.symm (if_neg c7)) X
