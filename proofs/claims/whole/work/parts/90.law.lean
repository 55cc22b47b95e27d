/-! THE CLAIM OUT OF ONE WALK OF THE LAW'S BODY. Your part is whole_start (and what it stands on); all else here is the same for every law, but numbers. -/
def R_law : String := "AtticSweepLaw"
def lw_P (b : Addr) (xs : List Int32) (args : Array Value) (s : State) : Prop := args = #[.ref b] ∧ s.IntsAt b xs ∧ xs.length ≤ 2560 ∧ (Jvm.Cond.and given_1 narrow_1).before args s = true
def lw_Q (_ : Array Value) (s : State) (o : Outcome) (t : State) : Prop := o = .returned (some (.int 1)) ∧ Framed s o t [] 36 3827
def lw_Z (below : List Frame) (a : Array Value) (s : State) : State → Prop := fun t => ∃ o, t.status = .running ∧ Ended t below o ∧ lw_Q a s o t
/-- the law's own end, with 1 on the stack, nothing written that was there before, its room as the claim has it -/
theorem lw_ret {p : Program} {l : Launch} {e : Env} {s : State} {m : MethodId} {below : List Frame} {meth : Method} {c : Code} {b : Nat} (hx : p.tables.exec = Jvm.exec) (hb : c.code = code) (hr : meth.sig.returnType = ret) (hlocks : meth.locks = false) {pc : Nat} {H : Heap} {ls : Array Slot} (hdg : decode code pc = .ok (.ireturn, 1)) : W p l e room_1 s m #[Value.ref b] below meth c H [] 36 3827 (lw_Z below #[Value.ref b] s) (F0 m pc ls [.int 1]) := by
  intro T hT X
  obtain ⟨fs, hret, hrun, hended, hW, hframe⟩ := X.leave (v := some (.int 1)) (hlocks := hlocks) (fun h => by rw [hr] at h; cases h)
  have hmeth' : T.vm.method? m = some meth := X.method'
  refine ⟨T.setFrames fs, ?_, .returned (some (.int 1)), hrun, hended, rfl, ⟨_, rfl⟩, hW, hframe⟩
  jvm_step X.here [X.here.top, hx, hb, hdg, hmeth', hr, ret, narrow_b1]
  (try refine ⟨rfl, ?_⟩); (try refine ⟨rfl, ?_⟩)
  first | (intro acts; rw [hret _ acts rfl rfl rfl]) | rw [hret _ _ rfl rfl rfl]
  exact Steps.refl _
/-- what holds at the law's entry: the machine, the code, the tables' words (any of lw_tbl by 'hts w (by decide +kernel)'), the script of L ints xs at the cell b, what the Statement gives of the start (any of its parts by flat_of_before) -/
def lw_At (p : Program) (s : State) (m : MethodId) (meth : Method) (c : Code) (b L : Nat) (xs : Nat → Int32) : Prop :=
  p.tables.exec = Jvm.exec ∧ c.code = code ∧ meth.sig.returnType = ret ∧ c.maxLocals = 4 ∧ s.vm.findClass R_law = some m.cls ∧ (∀ w ∈ lw_tbl, w.before #[Value.ref b] s = true) ∧ va_X b L xs s s.heap ∧ b < s.heap.size ∧ meth.locks = false ∧ (Jvm.Cond.and given_1 narrow_1).before #[Value.ref b] s = true

theorem sc_le {L : Nat} (hL : L ≤ 2560) {x : Int32} (c : ¬ Int32.ofNat L - 5 < x) : x.toInt + 5 ≤ L := by
  have h1 := i32_nlt c
  have e1 : (Int32.ofNat L).toInt = L := nI_toInt (n := L) (by omega)
  have q : (5 : Int32).toInt = 5 := rfl
  rw [Int32.toInt_sub, e1, q, Int.bmod_eq_of_le (by omega) (by omega)] at h1
  omega
theorem sc_add {L : Nat} {x : Int32} (h0 : 0 ≤ x.toInt) (h5 : x.toInt + 5 ≤ L) (hL : L ≤ 2147483647) (q : Int32) (hq : q.toInt ≤ 5) (hq0 : 0 ≤ q.toInt) : (x + q).toInt = x.toInt + q.toInt := by
  rw [Int32.toInt_add]
  exact Int.bmod_eq_of_le (by omega) (by omega)
theorem sc_in0 {L : Nat} {x : Int32} (h0 : 0 ≤ x.toInt) (h5 : x.toInt + 5 ≤ L) : vp_in x L := vp_in_iff.mpr (by omega)
theorem sc_in {L : Nat} {x : Int32} (h0 : 0 ≤ x.toInt) (h5 : x.toInt + 5 ≤ L) (q : Int32) (hq : q.toInt ≤ 4 ∧ 0 ≤ q.toInt) (_ : q = q) (hL : L ≤ 2560 := by assumption) : vp_in (x + q) L := by
  rw [vp_in_iff, sc_add h0 h5 (by omega) q (by omega) hq.2]
  omega
theorem sc_nn {L : Nat} {x : Int32} (h0 : 0 ≤ x.toInt) (h5 : x.toInt + 5 ≤ L) (hL : L ≤ 2560 := by assumption) : 0 ≤ (x + 5).toInt := by
  rw [sc_add h0 h5 (by omega) 5 (by decide) (by decide)]
  have q : (5 : Int32).toInt = 5 := rfl
  omega
theorem sc_ms {L n : Nat} {x : Int32} (h0 : 0 ≤ x.toInt) (h5 : x.toInt + 5 ≤ L) (hn : (L : Int) + 1 ≤ x.toInt + (n + 1 : Nat)) (hL : L ≤ 2560 := by assumption) : (L : Int) + 1 ≤ (x + 5).toInt + n := by
  rw [sc_add h0 h5 (by omega) 5 (by decide) (by decide)]
  have q : (5 : Int32).toInt = 5 := rfl
  omega
theorem lg_cmp_self (x : Int64) : lg_cmp x x = 0 := by
  unfold lg_cmp
  first | simp | rfl
set_option maxHeartbeats 1000000 in
set_option maxRecDepth 100000 in
theorem law_case0 {p : Program} {l : Launch} {e : Env} {s : State} {m : MethodId} {below : List Frame} {meth : Method} {c' : Code} {D : va_G} {b L : Nat} {xs : Nat → Int32} (hL : L ≤ 2560) (hx : p.tables.exec = Jvm.exec) (hb : c'.code = cL_law) (hX : va_X b L xs s s.heap) (hbl : b < s.heap.size) {aC aR : Nat → Nat} {cI cZ : ClassId} (C : Cx p s m #[Value.ref b] meth c' cL_law 4 RL D (tyIZ cI cZ)) (n : Nat) (x3 : Int32) (c : CSt) (σ : RSt) (hR : Rel σ c) (h0 : 0 ≤ x3.toInt) (hn : (L : Int) + 1 ≤ x3.toInt + (n + 1 : Nat)) (h5 : x3.toInt + 5 ≤ L) {Q : State → Prop} (ih : ∀ (x3 : Int32) (c : CSt) (σ : RSt), Rel σ c → 0 ≤ x3.toInt → (L : Int) + 1 ≤ x3.toInt + n → ∀ {H : Heap} {locs : List Loc}, Sx (fun q : Nat => s.heap.size ≤ q) D (wC aC cI cZ c ++ wR aR cI cZ σ) s H locs → ∀ (ls : Array Slot), lv_has ls 4 [(0, .ref b), (1, .ref (aC 0)), (2, .ref (aR 0)), (3, .int x3)] → W p l e room_1 s m #[Value.ref b] below meth c' H locs 36 3827 Q (F0 m 18 ls []))
    {H : Heap} {locs : List Loc} (X : Sx (fun q : Nat => s.heap.size ≤ q) D (wC aC cI cZ c ++ wR aR cI cZ σ) s H locs) (ls : Array Slot) (hl : lv_has ls 4 [(0, .ref b), (1, .ref (aC 0)), (2, .ref (aR 0)), (3, .int x3)]) : W p l e room_1 s m #[Value.ref b] below meth c' H locs 36 3827 Q (F0 m 144 ls []) := by
  have hA : ∀ q : Nat, s.heap.size ≤ q → (fun q : Nat => s.heap.size ≤ q) q := fun _ h => h
  have hbA : ¬ (fun q : Nat => s.heap.size ≤ q) b := Nat.not_le.mpr hbl
  have hS := rel_s0 hR
  refine lv_aload_n hx hb dL_law_144 rfl (lv_at hl 1 rfl) ?_
  refine lv_aload_n hx hb dL_law_145 rfl (lv_at hl 0 rfl) ?_
  refine lv_iload_n hx hb dL_law_146 rfl (lv_at hl 3 rfl) ?_
  refine lv_iconst (v := (1)) hx hb dL_law_147 (by decide) ?_
  refine lv_iadd hx hb dL_law_148 ?_
  refine va_sld hx hb hX hbl hbA X.2.2 (sc_in h0 h5 1 (by decide) rfl) dL_law_149 ?_
  refine lv_aload_n hx hb dL_law_150 rfl (lv_at hl 0 rfl) ?_
  refine lv_iload_n hx hb dL_law_151 rfl (lv_at hl 3 rfl) ?_
  refine lv_iconst (v := (2)) hx hb dL_law_152 (by decide) ?_
  refine lv_iadd hx hb dL_law_153 ?_
  refine va_sld hx hb hX hbl hbA X.2.2 (sc_in h0 h5 2 (by decide) rfl) dL_law_154 ?_
  refine callL1R (rest := []) (w1 := wC aC cI cZ) (w2 := wR aR cI cZ) C hA (wC_sh aC cI cZ) X (kX5_attic l D aC cI cZ _ (xs (x3 + 1).toNatClampNeg) (xs (x3 + 2).toNatClampNeg)) (cwV 2 C.2.2.2.2.1 (gV wl_L_13 wt_yX5_attic ws_yX5_attic wi_X5 wk_yX5_attic) rfl rfl rfl hdX5_attic ⟨Nat.le_of_ble_eq_true rfl, Nat.le_of_ble_eq_true rfl⟩) (ci := 5) (q0 := 0) rfl rfl rfl hl.1 rfl (Nat.le_of_ble_eq_true rfl) dL_law_155 ⟨by exact Nat.le_of_ble_eq_true rfl, by exact Nat.le_of_ble_eq_true rfl⟩ (fun H locs X => ?_)
  refine lv_aload_n hx hb dL_law_158 rfl (lv_at hl 2 rfl) ?_
  refine lv_aload_n hx hb dL_law_159 rfl (lv_at hl 0 rfl) ?_
  refine lv_iload_n hx hb dL_law_160 rfl (lv_at hl 3 rfl) ?_
  refine lv_iconst (v := (1)) hx hb dL_law_161 (by decide) ?_
  refine lv_iadd hx hb dL_law_162 ?_
  refine va_sld hx hb hX hbl hbA X.2.2 (sc_in h0 h5 1 (by decide) rfl) dL_law_163 ?_
  refine lv_aload_n hx hb dL_law_164 rfl (lv_at hl 0 rfl) ?_
  refine lv_iload_n hx hb dL_law_165 rfl (lv_at hl 3 rfl) ?_
  refine lv_iconst (v := (2)) hx hb dL_law_166 (by decide) ?_
  refine lv_iadd hx hb dL_law_167 ?_
  refine va_sld hx hb hX hbl hbA X.2.2 (sc_in h0 h5 2 (by decide) rfl) dL_law_168 ?_
  refine callL2R (rest := [.int (fX5_attic c (xs (x3 + 1).toNatClampNeg) (xs (x3 + 2).toNatClampNeg)).1]) (w1 := wC aC cI cZ) (w2 := wR aR cI cZ) C hA (wR_sh aR cI cZ) X (kX6_attic l D aR cI cZ _ (xs (x3 + 1).toNatClampNeg) (xs (x3 + 2).toNatClampNeg)) (cwV 2 C.2.2.2.2.1 (gV wl_L_17 wt_yX6_attic ws_yX6_attic wi_X6 wk_yX6_attic) rfl rfl rfl hdX6_attic ⟨Nat.le_of_ble_eq_true rfl, Nat.le_of_ble_eq_true rfl⟩) (ci := 6) (q0 := 0) rfl rfl rfl hl.1 rfl (Nat.le_of_ble_eq_true rfl) dL_law_169 ⟨by exact Nat.le_of_ble_eq_true rfl, by exact Nat.le_of_ble_eq_true rfl⟩ (fun H locs X => ?_)
  have hs := sim_attic hR (xs (x3 + 1).toNatClampNeg) (xs (x3 + 2).toNatClampNeg)
  refine lv_icmp_eq (tgt := 983) hx hb dL_law_172 (by decide) (fun _ => ?_) (fun cz => absurd hs.1 cz)
  refine lv_iinc (v := (x3 + 5)) (lv' := [(3, .int (x3 + 5)), (0, .ref b), (1, .ref (aC 0)), (2, .ref (aR 0))]) hx hb dL_law_983 hl (k := 3) rfl rfl (by decide) rfl (fun ls hl => ?_)
  refine lv_goto (tgt := 18) hx hb dL_law_986 (by decide) ?_
  exact ih (x3 + 5) _ _ hs.2 (sc_nn h0 h5) (sc_ms h0 h5 hn) X ls (lv_sub hl [1, 2, 3, 0] rfl)
set_option maxHeartbeats 1000000 in
set_option maxRecDepth 100000 in
theorem law_case1 {p : Program} {l : Launch} {e : Env} {s : State} {m : MethodId} {below : List Frame} {meth : Method} {c' : Code} {D : va_G} {b L : Nat} {xs : Nat → Int32} (hL : L ≤ 2560) (hx : p.tables.exec = Jvm.exec) (hb : c'.code = cL_law) (hX : va_X b L xs s s.heap) (hbl : b < s.heap.size) {aC aR : Nat → Nat} {cI cZ : ClassId} (C : Cx p s m #[Value.ref b] meth c' cL_law 4 RL D (tyIZ cI cZ)) (n : Nat) (x3 : Int32) (c : CSt) (σ : RSt) (hR : Rel σ c) (h0 : 0 ≤ x3.toInt) (hn : (L : Int) + 1 ≤ x3.toInt + (n + 1 : Nat)) (h5 : x3.toInt + 5 ≤ L) {Q : State → Prop} (ih : ∀ (x3 : Int32) (c : CSt) (σ : RSt), Rel σ c → 0 ≤ x3.toInt → (L : Int) + 1 ≤ x3.toInt + n → ∀ {H : Heap} {locs : List Loc}, Sx (fun q : Nat => s.heap.size ≤ q) D (wC aC cI cZ c ++ wR aR cI cZ σ) s H locs → ∀ (ls : Array Slot), lv_has ls 4 [(0, .ref b), (1, .ref (aC 0)), (2, .ref (aR 0)), (3, .int x3)] → W p l e room_1 s m #[Value.ref b] below meth c' H locs 36 3827 Q (F0 m 18 ls []))
    {H : Heap} {locs : List Loc} (X : Sx (fun q : Nat => s.heap.size ≤ q) D (wC aC cI cZ c ++ wR aR cI cZ σ) s H locs) (ls : Array Slot) (hl : lv_has ls 4 [(0, .ref b), (1, .ref (aC 0)), (2, .ref (aR 0)), (3, .int x3)]) : W p l e room_1 s m #[Value.ref b] below meth c' H locs 36 3827 Q (F0 m 177 ls []) := by
  have hA : ∀ q : Nat, s.heap.size ≤ q → (fun q : Nat => s.heap.size ≤ q) q := fun _ h => h
  have hbA : ¬ (fun q : Nat => s.heap.size ≤ q) b := Nat.not_le.mpr hbl
  have hS := rel_s0 hR
  refine lv_aload_n hx hb dL_law_177 rfl (lv_at hl 1 rfl) ?_
  refine lv_aload_n hx hb dL_law_178 rfl (lv_at hl 0 rfl) ?_
  refine lv_iload_n hx hb dL_law_179 rfl (lv_at hl 3 rfl) ?_
  refine lv_iconst (v := (1)) hx hb dL_law_180 (by decide) ?_
  refine lv_iadd hx hb dL_law_181 ?_
  refine va_sld hx hb hX hbl hbA X.2.2 (sc_in h0 h5 1 (by decide) rfl) dL_law_182 ?_
  refine lv_aload_n hx hb dL_law_183 rfl (lv_at hl 0 rfl) ?_
  refine lv_iload_n hx hb dL_law_184 rfl (lv_at hl 3 rfl) ?_
  refine lv_iconst (v := (2)) hx hb dL_law_185 (by decide) ?_
  refine lv_iadd hx hb dL_law_186 ?_
  refine va_sld hx hb hX hbl hbA X.2.2 (sc_in h0 h5 2 (by decide) rfl) dL_law_187 ?_
  refine lv_aload_n hx hb dL_law_188 rfl (lv_at hl 0 rfl) ?_
  refine lv_iload_n hx hb dL_law_189 rfl (lv_at hl 3 rfl) ?_
  refine lv_iconst (v := (3)) hx hb dL_law_190 (by decide) ?_
  refine lv_iadd hx hb dL_law_191 ?_
  refine va_sld hx hb hX hbl hbA X.2.2 (sc_in h0 h5 3 (by decide) rfl) dL_law_192 ?_
  refine lv_aload_n hx hb dL_law_193 rfl (lv_at hl 0 rfl) ?_
  refine lv_iload_n hx hb dL_law_194 rfl (lv_at hl 3 rfl) ?_
  refine lv_iconst (v := (4)) hx hb dL_law_195 (by decide) ?_
  refine lv_iadd hx hb dL_law_196 ?_
  refine va_sld hx hb hX hbl hbA X.2.2 (sc_in h0 h5 4 (by decide) rfl) dL_law_197 ?_
  refine lv_if_eq (tgt := 205) hx hb dL_law_198 (by decide) (fun c0 => ?_) (fun c0 => ?_)
  · refine lv_iconst (v := (0)) hx hb dL_law_205 (by decide) ?_
    refine callL1R (rest := []) (w1 := wC aC cI cZ) (w2 := wR aR cI cZ) C hA (wC_sh aC cI cZ) X (kX5_make l D aC cI cZ _ (xs (x3 + 1).toNatClampNeg) (xs (x3 + 2).toNatClampNeg) (xs (x3 + 3).toNatClampNeg) 0) (cwV 4 C.2.2.2.2.1 (gV wl_L_18 wt_yX5_make ws_yX5_make wi_X5 wk_yX5_make) rfl rfl rfl hdX5_make ⟨Nat.le_of_ble_eq_true rfl, Nat.le_of_ble_eq_true rfl⟩) (ci := 5) (q0 := 0) rfl rfl rfl hl.1 rfl (Nat.le_of_ble_eq_true rfl) dL_law_206 ⟨by exact Nat.le_of_ble_eq_true rfl, by exact Nat.le_of_ble_eq_true rfl⟩ (fun H locs X => ?_)
    refine lv_aload_n hx hb dL_law_209 rfl (lv_at hl 2 rfl) ?_
    refine lv_aload_n hx hb dL_law_210 rfl (lv_at hl 0 rfl) ?_
    refine lv_iload_n hx hb dL_law_211 rfl (lv_at hl 3 rfl) ?_
    refine lv_iconst (v := (1)) hx hb dL_law_212 (by decide) ?_
    refine lv_iadd hx hb dL_law_213 ?_
    refine va_sld hx hb hX hbl hbA X.2.2 (sc_in h0 h5 1 (by decide) rfl) dL_law_214 ?_
    refine lv_aload_n hx hb dL_law_215 rfl (lv_at hl 0 rfl) ?_
    refine lv_iload_n hx hb dL_law_216 rfl (lv_at hl 3 rfl) ?_
    refine lv_iconst (v := (2)) hx hb dL_law_217 (by decide) ?_
    refine lv_iadd hx hb dL_law_218 ?_
    refine va_sld hx hb hX hbl hbA X.2.2 (sc_in h0 h5 2 (by decide) rfl) dL_law_219 ?_
    refine lv_aload_n hx hb dL_law_220 rfl (lv_at hl 0 rfl) ?_
    refine lv_iload_n hx hb dL_law_221 rfl (lv_at hl 3 rfl) ?_
    refine lv_iconst (v := (3)) hx hb dL_law_222 (by decide) ?_
    refine lv_iadd hx hb dL_law_223 ?_
    refine va_sld hx hb hX hbl hbA X.2.2 (sc_in h0 h5 3 (by decide) rfl) dL_law_224 ?_
    refine lv_aload_n hx hb dL_law_225 rfl (lv_at hl 0 rfl) ?_
    refine lv_iload_n hx hb dL_law_226 rfl (lv_at hl 3 rfl) ?_
    refine lv_iconst (v := (4)) hx hb dL_law_227 (by decide) ?_
    refine lv_iadd hx hb dL_law_228 ?_
    refine va_sld hx hb hX hbl hbA X.2.2 (sc_in h0 h5 4 (by decide) rfl) dL_law_229 ?_
    refine lv_if_eq (tgt := 237) hx hb dL_law_230 (by decide) (fun _ => ?_) (fun cz => absurd c0 cz)
    refine lv_iconst (v := (0)) hx hb dL_law_237 (by decide) ?_
    refine callL2R (rest := [.int (fX5_make c (xs (x3 + 1).toNatClampNeg) (xs (x3 + 2).toNatClampNeg) (xs (x3 + 3).toNatClampNeg) 0).1]) (w1 := wC aC cI cZ) (w2 := wR aR cI cZ) C hA (wR_sh aR cI cZ) X (kX6_make l D aR cI cZ _ (xs (x3 + 1).toNatClampNeg) (xs (x3 + 2).toNatClampNeg) (xs (x3 + 3).toNatClampNeg) 0 hS) (cwV 4 C.2.2.2.2.1 (gV wl_L_22 wt_yX6_make ws_yX6_make wi_X6 wk_yX6_make) rfl rfl rfl hdX6_make ⟨Nat.le_of_ble_eq_true rfl, Nat.le_of_ble_eq_true rfl⟩) (ci := 6) (q0 := 0) rfl rfl rfl hl.1 rfl (Nat.le_of_ble_eq_true rfl) dL_law_238 ⟨by exact Nat.le_of_ble_eq_true rfl, by exact Nat.le_of_ble_eq_true rfl⟩ (fun H locs X => ?_)
    have hs := sim_make hR (xs (x3 + 1).toNatClampNeg) (xs (x3 + 2).toNatClampNeg) (xs (x3 + 3).toNatClampNeg) 0 (Or.inl rfl)
    refine lv_icmp_eq (tgt := 983) hx hb dL_law_241 (by decide) (fun _ => ?_) (fun cz => absurd hs.1 cz)
    refine lv_iinc (v := (x3 + 5)) (lv' := [(3, .int (x3 + 5)), (0, .ref b), (1, .ref (aC 0)), (2, .ref (aR 0))]) hx hb dL_law_983 hl (k := 3) rfl rfl (by decide) rfl (fun ls hl => ?_)
    refine lv_goto (tgt := 18) hx hb dL_law_986 (by decide) ?_
    exact ih (x3 + 5) _ _ hs.2 (sc_nn h0 h5) (sc_ms h0 h5 hn) X ls (lv_sub hl [1, 2, 3, 0] rfl)
  · refine lv_iconst (v := (1)) hx hb dL_law_201 (by decide) ?_
    refine lv_goto (tgt := 206) hx hb dL_law_202 (by decide) ?_
    refine callL1R (rest := []) (w1 := wC aC cI cZ) (w2 := wR aR cI cZ) C hA (wC_sh aC cI cZ) X (kX5_make l D aC cI cZ _ (xs (x3 + 1).toNatClampNeg) (xs (x3 + 2).toNatClampNeg) (xs (x3 + 3).toNatClampNeg) 1) (cwV 4 C.2.2.2.2.1 (gV wl_L_18 wt_yX5_make ws_yX5_make wi_X5 wk_yX5_make) rfl rfl rfl hdX5_make ⟨Nat.le_of_ble_eq_true rfl, Nat.le_of_ble_eq_true rfl⟩) (ci := 5) (q0 := 0) rfl rfl rfl hl.1 rfl (Nat.le_of_ble_eq_true rfl) dL_law_206 ⟨by exact Nat.le_of_ble_eq_true rfl, by exact Nat.le_of_ble_eq_true rfl⟩ (fun H locs X => ?_)
    refine lv_aload_n hx hb dL_law_209 rfl (lv_at hl 2 rfl) ?_
    refine lv_aload_n hx hb dL_law_210 rfl (lv_at hl 0 rfl) ?_
    refine lv_iload_n hx hb dL_law_211 rfl (lv_at hl 3 rfl) ?_
    refine lv_iconst (v := (1)) hx hb dL_law_212 (by decide) ?_
    refine lv_iadd hx hb dL_law_213 ?_
    refine va_sld hx hb hX hbl hbA X.2.2 (sc_in h0 h5 1 (by decide) rfl) dL_law_214 ?_
    refine lv_aload_n hx hb dL_law_215 rfl (lv_at hl 0 rfl) ?_
    refine lv_iload_n hx hb dL_law_216 rfl (lv_at hl 3 rfl) ?_
    refine lv_iconst (v := (2)) hx hb dL_law_217 (by decide) ?_
    refine lv_iadd hx hb dL_law_218 ?_
    refine va_sld hx hb hX hbl hbA X.2.2 (sc_in h0 h5 2 (by decide) rfl) dL_law_219 ?_
    refine lv_aload_n hx hb dL_law_220 rfl (lv_at hl 0 rfl) ?_
    refine lv_iload_n hx hb dL_law_221 rfl (lv_at hl 3 rfl) ?_
    refine lv_iconst (v := (3)) hx hb dL_law_222 (by decide) ?_
    refine lv_iadd hx hb dL_law_223 ?_
    refine va_sld hx hb hX hbl hbA X.2.2 (sc_in h0 h5 3 (by decide) rfl) dL_law_224 ?_
    refine lv_aload_n hx hb dL_law_225 rfl (lv_at hl 0 rfl) ?_
    refine lv_iload_n hx hb dL_law_226 rfl (lv_at hl 3 rfl) ?_
    refine lv_iconst (v := (4)) hx hb dL_law_227 (by decide) ?_
    refine lv_iadd hx hb dL_law_228 ?_
    refine va_sld hx hb hX hbl hbA X.2.2 (sc_in h0 h5 4 (by decide) rfl) dL_law_229 ?_
    refine lv_if_eq (tgt := 237) hx hb dL_law_230 (by decide) (fun cz => absurd cz c0) (fun _ => ?_)
    refine lv_iconst (v := (1)) hx hb dL_law_233 (by decide) ?_
    refine lv_goto (tgt := 238) hx hb dL_law_234 (by decide) ?_
    refine callL2R (rest := [.int (fX5_make c (xs (x3 + 1).toNatClampNeg) (xs (x3 + 2).toNatClampNeg) (xs (x3 + 3).toNatClampNeg) 1).1]) (w1 := wC aC cI cZ) (w2 := wR aR cI cZ) C hA (wR_sh aR cI cZ) X (kX6_make l D aR cI cZ _ (xs (x3 + 1).toNatClampNeg) (xs (x3 + 2).toNatClampNeg) (xs (x3 + 3).toNatClampNeg) 1 hS) (cwV 4 C.2.2.2.2.1 (gV wl_L_22 wt_yX6_make ws_yX6_make wi_X6 wk_yX6_make) rfl rfl rfl hdX6_make ⟨Nat.le_of_ble_eq_true rfl, Nat.le_of_ble_eq_true rfl⟩) (ci := 6) (q0 := 0) rfl rfl rfl hl.1 rfl (Nat.le_of_ble_eq_true rfl) dL_law_238 ⟨by exact Nat.le_of_ble_eq_true rfl, by exact Nat.le_of_ble_eq_true rfl⟩ (fun H locs X => ?_)
    have hs := sim_make hR (xs (x3 + 1).toNatClampNeg) (xs (x3 + 2).toNatClampNeg) (xs (x3 + 3).toNatClampNeg) 1 (Or.inr rfl)
    refine lv_icmp_eq (tgt := 983) hx hb dL_law_241 (by decide) (fun _ => ?_) (fun cz => absurd hs.1 cz)
    refine lv_iinc (v := (x3 + 5)) (lv' := [(3, .int (x3 + 5)), (0, .ref b), (1, .ref (aC 0)), (2, .ref (aR 0))]) hx hb dL_law_983 hl (k := 3) rfl rfl (by decide) rfl (fun ls hl => ?_)
    refine lv_goto (tgt := 18) hx hb dL_law_986 (by decide) ?_
    exact ih (x3 + 5) _ _ hs.2 (sc_nn h0 h5) (sc_ms h0 h5 hn) X ls (lv_sub hl [1, 2, 3, 0] rfl)
set_option maxHeartbeats 1000000 in
set_option maxRecDepth 100000 in
theorem law_case2 {p : Program} {l : Launch} {e : Env} {s : State} {m : MethodId} {below : List Frame} {meth : Method} {c' : Code} {D : va_G} {b L : Nat} {xs : Nat → Int32} (hL : L ≤ 2560) (hx : p.tables.exec = Jvm.exec) (hb : c'.code = cL_law) (hX : va_X b L xs s s.heap) (hbl : b < s.heap.size) {aC aR : Nat → Nat} {cI cZ : ClassId} (C : Cx p s m #[Value.ref b] meth c' cL_law 4 RL D (tyIZ cI cZ)) (n : Nat) (x3 : Int32) (c : CSt) (σ : RSt) (hR : Rel σ c) (h0 : 0 ≤ x3.toInt) (hn : (L : Int) + 1 ≤ x3.toInt + (n + 1 : Nat)) (h5 : x3.toInt + 5 ≤ L) {Q : State → Prop} (ih : ∀ (x3 : Int32) (c : CSt) (σ : RSt), Rel σ c → 0 ≤ x3.toInt → (L : Int) + 1 ≤ x3.toInt + n → ∀ {H : Heap} {locs : List Loc}, Sx (fun q : Nat => s.heap.size ≤ q) D (wC aC cI cZ c ++ wR aR cI cZ σ) s H locs → ∀ (ls : Array Slot), lv_has ls 4 [(0, .ref b), (1, .ref (aC 0)), (2, .ref (aR 0)), (3, .int x3)] → W p l e room_1 s m #[Value.ref b] below meth c' H locs 36 3827 Q (F0 m 18 ls []))
    {H : Heap} {locs : List Loc} (X : Sx (fun q : Nat => s.heap.size ≤ q) D (wC aC cI cZ c ++ wR aR cI cZ σ) s H locs) (ls : Array Slot) (hl : lv_has ls 4 [(0, .ref b), (1, .ref (aC 0)), (2, .ref (aR 0)), (3, .int x3)]) : W p l e room_1 s m #[Value.ref b] below meth c' H locs 36 3827 Q (F0 m 246 ls []) := by
  have hA : ∀ q : Nat, s.heap.size ≤ q → (fun q : Nat => s.heap.size ≤ q) q := fun _ h => h
  have hbA : ¬ (fun q : Nat => s.heap.size ≤ q) b := Nat.not_le.mpr hbl
  have hS := rel_s0 hR
  refine lv_aload_n hx hb dL_law_246 rfl (lv_at hl 1 rfl) ?_
  refine lv_aload_n hx hb dL_law_247 rfl (lv_at hl 0 rfl) ?_
  refine lv_iload_n hx hb dL_law_248 rfl (lv_at hl 3 rfl) ?_
  refine lv_iconst (v := (1)) hx hb dL_law_249 (by decide) ?_
  refine lv_iadd hx hb dL_law_250 ?_
  refine va_sld hx hb hX hbl hbA X.2.2 (sc_in h0 h5 1 (by decide) rfl) dL_law_251 ?_
  refine lv_aload_n hx hb dL_law_252 rfl (lv_at hl 0 rfl) ?_
  refine lv_iload_n hx hb dL_law_253 rfl (lv_at hl 3 rfl) ?_
  refine lv_iconst (v := (2)) hx hb dL_law_254 (by decide) ?_
  refine lv_iadd hx hb dL_law_255 ?_
  refine va_sld hx hb hX hbl hbA X.2.2 (sc_in h0 h5 2 (by decide) rfl) dL_law_256 ?_
  refine lv_aload_n hx hb dL_law_257 rfl (lv_at hl 0 rfl) ?_
  refine lv_iload_n hx hb dL_law_258 rfl (lv_at hl 3 rfl) ?_
  refine lv_iconst (v := (3)) hx hb dL_law_259 (by decide) ?_
  refine lv_iadd hx hb dL_law_260 ?_
  refine va_sld hx hb hX hbl hbA X.2.2 (sc_in h0 h5 3 (by decide) rfl) dL_law_261 ?_
  refine callL1R (rest := []) (w1 := wC aC cI cZ) (w2 := wR aR cI cZ) C hA (wC_sh aC cI cZ) X (kX5_move l D aC cI cZ _ (xs (x3 + 1).toNatClampNeg) (xs (x3 + 2).toNatClampNeg) (xs (x3 + 3).toNatClampNeg)) (cwV 3 C.2.2.2.2.1 (gV wl_L_23 wt_yX5_move ws_yX5_move wi_X5 wk_yX5_move) rfl rfl rfl hdX5_move ⟨Nat.le_of_ble_eq_true rfl, Nat.le_of_ble_eq_true rfl⟩) (ci := 5) (q0 := 0) rfl rfl rfl hl.1 rfl (Nat.le_of_ble_eq_true rfl) dL_law_262 ⟨by exact Nat.le_of_ble_eq_true rfl, by exact Nat.le_of_ble_eq_true rfl⟩ (fun H locs X => ?_)
  refine lv_aload_n hx hb dL_law_265 rfl (lv_at hl 2 rfl) ?_
  refine lv_aload_n hx hb dL_law_266 rfl (lv_at hl 0 rfl) ?_
  refine lv_iload_n hx hb dL_law_267 rfl (lv_at hl 3 rfl) ?_
  refine lv_iconst (v := (1)) hx hb dL_law_268 (by decide) ?_
  refine lv_iadd hx hb dL_law_269 ?_
  refine va_sld hx hb hX hbl hbA X.2.2 (sc_in h0 h5 1 (by decide) rfl) dL_law_270 ?_
  refine lv_aload_n hx hb dL_law_271 rfl (lv_at hl 0 rfl) ?_
  refine lv_iload_n hx hb dL_law_272 rfl (lv_at hl 3 rfl) ?_
  refine lv_iconst (v := (2)) hx hb dL_law_273 (by decide) ?_
  refine lv_iadd hx hb dL_law_274 ?_
  refine va_sld hx hb hX hbl hbA X.2.2 (sc_in h0 h5 2 (by decide) rfl) dL_law_275 ?_
  refine lv_aload_n hx hb dL_law_276 rfl (lv_at hl 0 rfl) ?_
  refine lv_iload_n hx hb dL_law_277 rfl (lv_at hl 3 rfl) ?_
  refine lv_iconst (v := (3)) hx hb dL_law_278 (by decide) ?_
  refine lv_iadd hx hb dL_law_279 ?_
  refine va_sld hx hb hX hbl hbA X.2.2 (sc_in h0 h5 3 (by decide) rfl) dL_law_280 ?_
  refine callL2R (rest := [.int (fX5_move c (xs (x3 + 1).toNatClampNeg) (xs (x3 + 2).toNatClampNeg) (xs (x3 + 3).toNatClampNeg)).1]) (w1 := wC aC cI cZ) (w2 := wR aR cI cZ) C hA (wR_sh aR cI cZ) X (kX6_move l D aR cI cZ _ (xs (x3 + 1).toNatClampNeg) (xs (x3 + 2).toNatClampNeg) (xs (x3 + 3).toNatClampNeg)) (cwV 3 C.2.2.2.2.1 (gV wl_L_27 wt_yX6_move ws_yX6_move wi_X6 wk_yX6_move) rfl rfl rfl hdX6_move ⟨Nat.le_of_ble_eq_true rfl, Nat.le_of_ble_eq_true rfl⟩) (ci := 6) (q0 := 0) rfl rfl rfl hl.1 rfl (Nat.le_of_ble_eq_true rfl) dL_law_281 ⟨by exact Nat.le_of_ble_eq_true rfl, by exact Nat.le_of_ble_eq_true rfl⟩ (fun H locs X => ?_)
  have hs := sim_move hR (xs (x3 + 1).toNatClampNeg) (xs (x3 + 2).toNatClampNeg) (xs (x3 + 3).toNatClampNeg)
  refine lv_icmp_eq (tgt := 983) hx hb dL_law_284 (by decide) (fun _ => ?_) (fun cz => absurd hs.1 cz)
  refine lv_iinc (v := (x3 + 5)) (lv' := [(3, .int (x3 + 5)), (0, .ref b), (1, .ref (aC 0)), (2, .ref (aR 0))]) hx hb dL_law_983 hl (k := 3) rfl rfl (by decide) rfl (fun ls hl => ?_)
  refine lv_goto (tgt := 18) hx hb dL_law_986 (by decide) ?_
  exact ih (x3 + 5) _ _ hs.2 (sc_nn h0 h5) (sc_ms h0 h5 hn) X ls (lv_sub hl [1, 2, 3, 0] rfl)
set_option maxHeartbeats 1000000 in
set_option maxRecDepth 100000 in
theorem law_case3 {p : Program} {l : Launch} {e : Env} {s : State} {m : MethodId} {below : List Frame} {meth : Method} {c' : Code} {D : va_G} {b L : Nat} {xs : Nat → Int32} (hL : L ≤ 2560) (hx : p.tables.exec = Jvm.exec) (hb : c'.code = cL_law) (hX : va_X b L xs s s.heap) (hbl : b < s.heap.size) {aC aR : Nat → Nat} {cI cZ : ClassId} (C : Cx p s m #[Value.ref b] meth c' cL_law 4 RL D (tyIZ cI cZ)) (n : Nat) (x3 : Int32) (c : CSt) (σ : RSt) (hR : Rel σ c) (h0 : 0 ≤ x3.toInt) (hn : (L : Int) + 1 ≤ x3.toInt + (n + 1 : Nat)) (h5 : x3.toInt + 5 ≤ L) {Q : State → Prop} (ih : ∀ (x3 : Int32) (c : CSt) (σ : RSt), Rel σ c → 0 ≤ x3.toInt → (L : Int) + 1 ≤ x3.toInt + n → ∀ {H : Heap} {locs : List Loc}, Sx (fun q : Nat => s.heap.size ≤ q) D (wC aC cI cZ c ++ wR aR cI cZ σ) s H locs → ∀ (ls : Array Slot), lv_has ls 4 [(0, .ref b), (1, .ref (aC 0)), (2, .ref (aR 0)), (3, .int x3)] → W p l e room_1 s m #[Value.ref b] below meth c' H locs 36 3827 Q (F0 m 18 ls []))
    {H : Heap} {locs : List Loc} (X : Sx (fun q : Nat => s.heap.size ≤ q) D (wC aC cI cZ c ++ wR aR cI cZ σ) s H locs) (ls : Array Slot) (hl : lv_has ls 4 [(0, .ref b), (1, .ref (aC 0)), (2, .ref (aR 0)), (3, .int x3)]) : W p l e room_1 s m #[Value.ref b] below meth c' H locs 36 3827 Q (F0 m 289 ls []) := by
  have hA : ∀ q : Nat, s.heap.size ≤ q → (fun q : Nat => s.heap.size ≤ q) q := fun _ h => h
  have hbA : ¬ (fun q : Nat => s.heap.size ≤ q) b := Nat.not_le.mpr hbl
  have hS := rel_s0 hR
  refine lv_aload_n hx hb dL_law_289 rfl (lv_at hl 1 rfl) ?_
  refine lv_aload_n hx hb dL_law_290 rfl (lv_at hl 0 rfl) ?_
  refine lv_iload_n hx hb dL_law_291 rfl (lv_at hl 3 rfl) ?_
  refine lv_iconst (v := (1)) hx hb dL_law_292 (by decide) ?_
  refine lv_iadd hx hb dL_law_293 ?_
  refine va_sld hx hb hX hbl hbA X.2.2 (sc_in h0 h5 1 (by decide) rfl) dL_law_294 ?_
  refine lv_aload_n hx hb dL_law_295 rfl (lv_at hl 0 rfl) ?_
  refine lv_iload_n hx hb dL_law_296 rfl (lv_at hl 3 rfl) ?_
  refine lv_iconst (v := (2)) hx hb dL_law_297 (by decide) ?_
  refine lv_iadd hx hb dL_law_298 ?_
  refine va_sld hx hb hX hbl hbA X.2.2 (sc_in h0 h5 2 (by decide) rfl) dL_law_299 ?_
  refine lv_aload_n hx hb dL_law_300 rfl (lv_at hl 0 rfl) ?_
  refine lv_iload_n hx hb dL_law_301 rfl (lv_at hl 3 rfl) ?_
  refine lv_iconst (v := (3)) hx hb dL_law_302 (by decide) ?_
  refine lv_iadd hx hb dL_law_303 ?_
  refine va_sld hx hb hX hbl hbA X.2.2 (sc_in h0 h5 3 (by decide) rfl) dL_law_304 ?_
  refine lv_aload_n hx hb dL_law_305 rfl (lv_at hl 0 rfl) ?_
  refine lv_iload_n hx hb dL_law_306 rfl (lv_at hl 3 rfl) ?_
  refine lv_iconst (v := (4)) hx hb dL_law_307 (by decide) ?_
  refine lv_iadd hx hb dL_law_308 ?_
  refine va_sld hx hb hX hbl hbA X.2.2 (sc_in h0 h5 4 (by decide) rfl) dL_law_309 ?_
  refine callL1R (rest := []) (w1 := wC aC cI cZ) (w2 := wR aR cI cZ) C hA (wC_sh aC cI cZ) X (kX5_get l D aC cI cZ _ (xs (x3 + 1).toNatClampNeg) (xs (x3 + 2).toNatClampNeg) (xs (x3 + 3).toNatClampNeg) (xs (x3 + 4).toNatClampNeg)) (cwV 4 C.2.2.2.2.1 (gV wl_L_28 wt_yX5_get ws_yX5_get wi_X5 wk_yX5_get) rfl rfl rfl hdX5_get ⟨Nat.le_of_ble_eq_true rfl, Nat.le_of_ble_eq_true rfl⟩) (ci := 5) (q0 := 0) rfl rfl rfl hl.1 rfl (Nat.le_of_ble_eq_true rfl) dL_law_310 ⟨by exact Nat.le_of_ble_eq_true rfl, by exact Nat.le_of_ble_eq_true rfl⟩ (fun H locs X => ?_)
  refine lv_aload_n hx hb dL_law_313 rfl (lv_at hl 2 rfl) ?_
  refine lv_aload_n hx hb dL_law_314 rfl (lv_at hl 0 rfl) ?_
  refine lv_iload_n hx hb dL_law_315 rfl (lv_at hl 3 rfl) ?_
  refine lv_iconst (v := (1)) hx hb dL_law_316 (by decide) ?_
  refine lv_iadd hx hb dL_law_317 ?_
  refine va_sld hx hb hX hbl hbA X.2.2 (sc_in h0 h5 1 (by decide) rfl) dL_law_318 ?_
  refine lv_aload_n hx hb dL_law_319 rfl (lv_at hl 0 rfl) ?_
  refine lv_iload_n hx hb dL_law_320 rfl (lv_at hl 3 rfl) ?_
  refine lv_iconst (v := (2)) hx hb dL_law_321 (by decide) ?_
  refine lv_iadd hx hb dL_law_322 ?_
  refine va_sld hx hb hX hbl hbA X.2.2 (sc_in h0 h5 2 (by decide) rfl) dL_law_323 ?_
  refine lv_aload_n hx hb dL_law_324 rfl (lv_at hl 0 rfl) ?_
  refine lv_iload_n hx hb dL_law_325 rfl (lv_at hl 3 rfl) ?_
  refine lv_iconst (v := (3)) hx hb dL_law_326 (by decide) ?_
  refine lv_iadd hx hb dL_law_327 ?_
  refine va_sld hx hb hX hbl hbA X.2.2 (sc_in h0 h5 3 (by decide) rfl) dL_law_328 ?_
  refine lv_aload_n hx hb dL_law_329 rfl (lv_at hl 0 rfl) ?_
  refine lv_iload_n hx hb dL_law_330 rfl (lv_at hl 3 rfl) ?_
  refine lv_iconst (v := (4)) hx hb dL_law_331 (by decide) ?_
  refine lv_iadd hx hb dL_law_332 ?_
  refine va_sld hx hb hX hbl hbA X.2.2 (sc_in h0 h5 4 (by decide) rfl) dL_law_333 ?_
  refine callL2R (rest := [.int (fX5_get c (xs (x3 + 1).toNatClampNeg) (xs (x3 + 2).toNatClampNeg) (xs (x3 + 3).toNatClampNeg) (xs (x3 + 4).toNatClampNeg)).1]) (w1 := wC aC cI cZ) (w2 := wR aR cI cZ) C hA (wR_sh aR cI cZ) X (kX6_get l D aR cI cZ _ (xs (x3 + 1).toNatClampNeg) (xs (x3 + 2).toNatClampNeg) (xs (x3 + 3).toNatClampNeg) (xs (x3 + 4).toNatClampNeg) hS) (cwV 4 C.2.2.2.2.1 (gV wl_L_32 wt_yX6_get ws_yX6_get wi_X6 wk_yX6_get) rfl rfl rfl hdX6_get ⟨Nat.le_of_ble_eq_true rfl, Nat.le_of_ble_eq_true rfl⟩) (ci := 6) (q0 := 0) rfl rfl rfl hl.1 rfl (Nat.le_of_ble_eq_true rfl) dL_law_334 ⟨by exact Nat.le_of_ble_eq_true rfl, by exact Nat.le_of_ble_eq_true rfl⟩ (fun H locs X => ?_)
  have hs := sim_get hR (xs (x3 + 1).toNatClampNeg) (xs (x3 + 2).toNatClampNeg) (xs (x3 + 3).toNatClampNeg) (xs (x3 + 4).toNatClampNeg)
  refine lv_icmp_eq (tgt := 983) hx hb dL_law_337 (by decide) (fun _ => ?_) (fun cz => absurd hs.1 cz)
  refine lv_iinc (v := (x3 + 5)) (lv' := [(3, .int (x3 + 5)), (0, .ref b), (1, .ref (aC 0)), (2, .ref (aR 0))]) hx hb dL_law_983 hl (k := 3) rfl rfl (by decide) rfl (fun ls hl => ?_)
  refine lv_goto (tgt := 18) hx hb dL_law_986 (by decide) ?_
  exact ih (x3 + 5) _ _ hs.2 (sc_nn h0 h5) (sc_ms h0 h5 hn) X ls (lv_sub hl [1, 2, 3, 0] rfl)
set_option maxHeartbeats 1000000 in
set_option maxRecDepth 100000 in
theorem law_case4 {p : Program} {l : Launch} {e : Env} {s : State} {m : MethodId} {below : List Frame} {meth : Method} {c' : Code} {D : va_G} {b L : Nat} {xs : Nat → Int32} (hL : L ≤ 2560) (hx : p.tables.exec = Jvm.exec) (hb : c'.code = cL_law) (hX : va_X b L xs s s.heap) (hbl : b < s.heap.size) {aC aR : Nat → Nat} {cI cZ : ClassId} (C : Cx p s m #[Value.ref b] meth c' cL_law 4 RL D (tyIZ cI cZ)) (n : Nat) (x3 : Int32) (c : CSt) (σ : RSt) (hR : Rel σ c) (h0 : 0 ≤ x3.toInt) (hn : (L : Int) + 1 ≤ x3.toInt + (n + 1 : Nat)) (h5 : x3.toInt + 5 ≤ L) {Q : State → Prop} (ih : ∀ (x3 : Int32) (c : CSt) (σ : RSt), Rel σ c → 0 ≤ x3.toInt → (L : Int) + 1 ≤ x3.toInt + n → ∀ {H : Heap} {locs : List Loc}, Sx (fun q : Nat => s.heap.size ≤ q) D (wC aC cI cZ c ++ wR aR cI cZ σ) s H locs → ∀ (ls : Array Slot), lv_has ls 4 [(0, .ref b), (1, .ref (aC 0)), (2, .ref (aR 0)), (3, .int x3)] → W p l e room_1 s m #[Value.ref b] below meth c' H locs 36 3827 Q (F0 m 18 ls []))
    {H : Heap} {locs : List Loc} (X : Sx (fun q : Nat => s.heap.size ≤ q) D (wC aC cI cZ c ++ wR aR cI cZ σ) s H locs) (ls : Array Slot) (hl : lv_has ls 4 [(0, .ref b), (1, .ref (aC 0)), (2, .ref (aR 0)), (3, .int x3)]) : W p l e room_1 s m #[Value.ref b] below meth c' H locs 36 3827 Q (F0 m 342 ls []) := by
  have hA : ∀ q : Nat, s.heap.size ≤ q → (fun q : Nat => s.heap.size ≤ q) q := fun _ h => h
  have hbA : ¬ (fun q : Nat => s.heap.size ≤ q) b := Nat.not_le.mpr hbl
  have hS := rel_s0 hR
  refine lv_aload_n hx hb dL_law_342 rfl (lv_at hl 1 rfl) ?_
  refine lv_aload_n hx hb dL_law_343 rfl (lv_at hl 0 rfl) ?_
  refine lv_iload_n hx hb dL_law_344 rfl (lv_at hl 3 rfl) ?_
  refine lv_iconst (v := (1)) hx hb dL_law_345 (by decide) ?_
  refine lv_iadd hx hb dL_law_346 ?_
  refine va_sld hx hb hX hbl hbA X.2.2 (sc_in h0 h5 1 (by decide) rfl) dL_law_347 ?_
  refine lv_aload_n hx hb dL_law_348 rfl (lv_at hl 0 rfl) ?_
  refine lv_iload_n hx hb dL_law_349 rfl (lv_at hl 3 rfl) ?_
  refine lv_iconst (v := (2)) hx hb dL_law_350 (by decide) ?_
  refine lv_iadd hx hb dL_law_351 ?_
  refine va_sld hx hb hX hbl hbA X.2.2 (sc_in h0 h5 2 (by decide) rfl) dL_law_352 ?_
  refine lv_aload_n hx hb dL_law_353 rfl (lv_at hl 0 rfl) ?_
  refine lv_iload_n hx hb dL_law_354 rfl (lv_at hl 3 rfl) ?_
  refine lv_iconst (v := (3)) hx hb dL_law_355 (by decide) ?_
  refine lv_iadd hx hb dL_law_356 ?_
  refine va_sld hx hb hX hbl hbA X.2.2 (sc_in h0 h5 3 (by decide) rfl) dL_law_357 ?_
  refine lv_aload_n hx hb dL_law_358 rfl (lv_at hl 0 rfl) ?_
  refine lv_iload_n hx hb dL_law_359 rfl (lv_at hl 3 rfl) ?_
  refine lv_iconst (v := (4)) hx hb dL_law_360 (by decide) ?_
  refine lv_iadd hx hb dL_law_361 ?_
  refine va_sld hx hb hX hbl hbA X.2.2 (sc_in h0 h5 4 (by decide) rfl) dL_law_362 ?_
  refine callL1R (rest := []) (w1 := wC aC cI cZ) (w2 := wR aR cI cZ) C hA (wC_sh aC cI cZ) X (kX5_put l D aC cI cZ _ (xs (x3 + 1).toNatClampNeg) (xs (x3 + 2).toNatClampNeg) (xs (x3 + 3).toNatClampNeg) (xs (x3 + 4).toNatClampNeg)) (cwV 4 C.2.2.2.2.1 (gV wl_L_33 wt_yX5_put ws_yX5_put wi_X5 wk_yX5_put) rfl rfl rfl hdX5_put ⟨Nat.le_of_ble_eq_true rfl, Nat.le_of_ble_eq_true rfl⟩) (ci := 5) (q0 := 0) rfl rfl rfl hl.1 rfl (Nat.le_of_ble_eq_true rfl) dL_law_363 ⟨by exact Nat.le_of_ble_eq_true rfl, by exact Nat.le_of_ble_eq_true rfl⟩ (fun H locs X => ?_)
  refine lv_aload_n hx hb dL_law_366 rfl (lv_at hl 2 rfl) ?_
  refine lv_aload_n hx hb dL_law_367 rfl (lv_at hl 0 rfl) ?_
  refine lv_iload_n hx hb dL_law_368 rfl (lv_at hl 3 rfl) ?_
  refine lv_iconst (v := (1)) hx hb dL_law_369 (by decide) ?_
  refine lv_iadd hx hb dL_law_370 ?_
  refine va_sld hx hb hX hbl hbA X.2.2 (sc_in h0 h5 1 (by decide) rfl) dL_law_371 ?_
  refine lv_aload_n hx hb dL_law_372 rfl (lv_at hl 0 rfl) ?_
  refine lv_iload_n hx hb dL_law_373 rfl (lv_at hl 3 rfl) ?_
  refine lv_iconst (v := (2)) hx hb dL_law_374 (by decide) ?_
  refine lv_iadd hx hb dL_law_375 ?_
  refine va_sld hx hb hX hbl hbA X.2.2 (sc_in h0 h5 2 (by decide) rfl) dL_law_376 ?_
  refine lv_aload_n hx hb dL_law_377 rfl (lv_at hl 0 rfl) ?_
  refine lv_iload_n hx hb dL_law_378 rfl (lv_at hl 3 rfl) ?_
  refine lv_iconst (v := (3)) hx hb dL_law_379 (by decide) ?_
  refine lv_iadd hx hb dL_law_380 ?_
  refine va_sld hx hb hX hbl hbA X.2.2 (sc_in h0 h5 3 (by decide) rfl) dL_law_381 ?_
  refine lv_aload_n hx hb dL_law_382 rfl (lv_at hl 0 rfl) ?_
  refine lv_iload_n hx hb dL_law_383 rfl (lv_at hl 3 rfl) ?_
  refine lv_iconst (v := (4)) hx hb dL_law_384 (by decide) ?_
  refine lv_iadd hx hb dL_law_385 ?_
  refine va_sld hx hb hX hbl hbA X.2.2 (sc_in h0 h5 4 (by decide) rfl) dL_law_386 ?_
  refine callL2R (rest := [.int (fX5_put c (xs (x3 + 1).toNatClampNeg) (xs (x3 + 2).toNatClampNeg) (xs (x3 + 3).toNatClampNeg) (xs (x3 + 4).toNatClampNeg)).1]) (w1 := wC aC cI cZ) (w2 := wR aR cI cZ) C hA (wR_sh aR cI cZ) X (kX6_put l D aR cI cZ _ (xs (x3 + 1).toNatClampNeg) (xs (x3 + 2).toNatClampNeg) (xs (x3 + 3).toNatClampNeg) (xs (x3 + 4).toNatClampNeg) hS) (cwV 4 C.2.2.2.2.1 (gV wl_L_36 wt_yX6_put ws_yX6_put wi_X6 wk_yX6_put) rfl rfl rfl hdX6_put ⟨Nat.le_of_ble_eq_true rfl, Nat.le_of_ble_eq_true rfl⟩) (ci := 6) (q0 := 0) rfl rfl rfl hl.1 rfl (Nat.le_of_ble_eq_true rfl) dL_law_387 ⟨by exact Nat.le_of_ble_eq_true rfl, by exact Nat.le_of_ble_eq_true rfl⟩ (fun H locs X => ?_)
  have hs := sim_put hR (xs (x3 + 1).toNatClampNeg) (xs (x3 + 2).toNatClampNeg) (xs (x3 + 3).toNatClampNeg) (xs (x3 + 4).toNatClampNeg)
  refine lv_icmp_eq (tgt := 983) hx hb dL_law_390 (by decide) (fun _ => ?_) (fun cz => absurd hs.1 cz)
  refine lv_iinc (v := (x3 + 5)) (lv' := [(3, .int (x3 + 5)), (0, .ref b), (1, .ref (aC 0)), (2, .ref (aR 0))]) hx hb dL_law_983 hl (k := 3) rfl rfl (by decide) rfl (fun ls hl => ?_)
  refine lv_goto (tgt := 18) hx hb dL_law_986 (by decide) ?_
  exact ih (x3 + 5) _ _ hs.2 (sc_nn h0 h5) (sc_ms h0 h5 hn) X ls (lv_sub hl [1, 2, 3, 0] rfl)
set_option maxHeartbeats 1000000 in
set_option maxRecDepth 100000 in
theorem law_case5 {p : Program} {l : Launch} {e : Env} {s : State} {m : MethodId} {below : List Frame} {meth : Method} {c' : Code} {D : va_G} {b L : Nat} {xs : Nat → Int32} (hL : L ≤ 2560) (hx : p.tables.exec = Jvm.exec) (hb : c'.code = cL_law) (hX : va_X b L xs s s.heap) (hbl : b < s.heap.size) {aC aR : Nat → Nat} {cI cZ : ClassId} (C : Cx p s m #[Value.ref b] meth c' cL_law 4 RL D (tyIZ cI cZ)) (n : Nat) (x3 : Int32) (c : CSt) (σ : RSt) (hR : Rel σ c) (h0 : 0 ≤ x3.toInt) (hn : (L : Int) + 1 ≤ x3.toInt + (n + 1 : Nat)) (h5 : x3.toInt + 5 ≤ L) {Q : State → Prop} (ih : ∀ (x3 : Int32) (c : CSt) (σ : RSt), Rel σ c → 0 ≤ x3.toInt → (L : Int) + 1 ≤ x3.toInt + n → ∀ {H : Heap} {locs : List Loc}, Sx (fun q : Nat => s.heap.size ≤ q) D (wC aC cI cZ c ++ wR aR cI cZ σ) s H locs → ∀ (ls : Array Slot), lv_has ls 4 [(0, .ref b), (1, .ref (aC 0)), (2, .ref (aR 0)), (3, .int x3)] → W p l e room_1 s m #[Value.ref b] below meth c' H locs 36 3827 Q (F0 m 18 ls []))
    {H : Heap} {locs : List Loc} (X : Sx (fun q : Nat => s.heap.size ≤ q) D (wC aC cI cZ c ++ wR aR cI cZ σ) s H locs) (ls : Array Slot) (hl : lv_has ls 4 [(0, .ref b), (1, .ref (aC 0)), (2, .ref (aR 0)), (3, .int x3)]) : W p l e room_1 s m #[Value.ref b] below meth c' H locs 36 3827 Q (F0 m 395 ls []) := by
  have hA : ∀ q : Nat, s.heap.size ≤ q → (fun q : Nat => s.heap.size ≤ q) q := fun _ h => h
  have hbA : ¬ (fun q : Nat => s.heap.size ≤ q) b := Nat.not_le.mpr hbl
  have hS := rel_s0 hR
  refine lv_aload_n hx hb dL_law_395 rfl (lv_at hl 1 rfl) ?_
  refine lv_aload_n hx hb dL_law_396 rfl (lv_at hl 0 rfl) ?_
  refine lv_iload_n hx hb dL_law_397 rfl (lv_at hl 3 rfl) ?_
  refine lv_iconst (v := (1)) hx hb dL_law_398 (by decide) ?_
  refine lv_iadd hx hb dL_law_399 ?_
  refine va_sld hx hb hX hbl hbA X.2.2 (sc_in h0 h5 1 (by decide) rfl) dL_law_400 ?_
  refine lv_aload_n hx hb dL_law_401 rfl (lv_at hl 0 rfl) ?_
  refine lv_iload_n hx hb dL_law_402 rfl (lv_at hl 3 rfl) ?_
  refine lv_iconst (v := (2)) hx hb dL_law_403 (by decide) ?_
  refine lv_iadd hx hb dL_law_404 ?_
  refine va_sld hx hb hX hbl hbA X.2.2 (sc_in h0 h5 2 (by decide) rfl) dL_law_405 ?_
  refine callL1R (rest := []) (w1 := wC aC cI cZ) (w2 := wR aR cI cZ) C hA (wC_sh aC cI cZ) X (kX5_drop l D aC cI cZ _ (xs (x3 + 1).toNatClampNeg) (xs (x3 + 2).toNatClampNeg)) (cwV 2 C.2.2.2.2.1 (gV wl_L_37 wt_yX5_drop ws_yX5_drop wi_X5 wk_yX5_drop) rfl rfl rfl hdX5_drop ⟨Nat.le_of_ble_eq_true rfl, Nat.le_of_ble_eq_true rfl⟩) (ci := 5) (q0 := 0) rfl rfl rfl hl.1 rfl (Nat.le_of_ble_eq_true rfl) dL_law_406 ⟨by exact Nat.le_of_ble_eq_true rfl, by exact Nat.le_of_ble_eq_true rfl⟩ (fun H locs X => ?_)
  refine lv_aload_n hx hb dL_law_409 rfl (lv_at hl 2 rfl) ?_
  refine lv_aload_n hx hb dL_law_410 rfl (lv_at hl 0 rfl) ?_
  refine lv_iload_n hx hb dL_law_411 rfl (lv_at hl 3 rfl) ?_
  refine lv_iconst (v := (1)) hx hb dL_law_412 (by decide) ?_
  refine lv_iadd hx hb dL_law_413 ?_
  refine va_sld hx hb hX hbl hbA X.2.2 (sc_in h0 h5 1 (by decide) rfl) dL_law_414 ?_
  refine lv_aload_n hx hb dL_law_415 rfl (lv_at hl 0 rfl) ?_
  refine lv_iload_n hx hb dL_law_416 rfl (lv_at hl 3 rfl) ?_
  refine lv_iconst (v := (2)) hx hb dL_law_417 (by decide) ?_
  refine lv_iadd hx hb dL_law_418 ?_
  refine va_sld hx hb hX hbl hbA X.2.2 (sc_in h0 h5 2 (by decide) rfl) dL_law_419 ?_
  refine callL2R (rest := [.int (fX5_drop c (xs (x3 + 1).toNatClampNeg) (xs (x3 + 2).toNatClampNeg)).1]) (w1 := wC aC cI cZ) (w2 := wR aR cI cZ) C hA (wR_sh aR cI cZ) X (kX6_drop l D aR cI cZ _ (xs (x3 + 1).toNatClampNeg) (xs (x3 + 2).toNatClampNeg)) (cwV 2 C.2.2.2.2.1 (gV wl_L_40 wt_yX6_drop ws_yX6_drop wi_X6 wk_yX6_drop) rfl rfl rfl hdX6_drop ⟨Nat.le_of_ble_eq_true rfl, Nat.le_of_ble_eq_true rfl⟩) (ci := 6) (q0 := 0) rfl rfl rfl hl.1 rfl (Nat.le_of_ble_eq_true rfl) dL_law_420 ⟨by exact Nat.le_of_ble_eq_true rfl, by exact Nat.le_of_ble_eq_true rfl⟩ (fun H locs X => ?_)
  have hs := sim_drop hR (xs (x3 + 1).toNatClampNeg) (xs (x3 + 2).toNatClampNeg)
  refine lv_icmp_eq (tgt := 983) hx hb dL_law_423 (by decide) (fun _ => ?_) (fun cz => absurd hs.1 cz)
  refine lv_iinc (v := (x3 + 5)) (lv' := [(3, .int (x3 + 5)), (0, .ref b), (1, .ref (aC 0)), (2, .ref (aR 0))]) hx hb dL_law_983 hl (k := 3) rfl rfl (by decide) rfl (fun ls hl => ?_)
  refine lv_goto (tgt := 18) hx hb dL_law_986 (by decide) ?_
  exact ih (x3 + 5) _ _ hs.2 (sc_nn h0 h5) (sc_ms h0 h5 hn) X ls (lv_sub hl [1, 2, 3, 0] rfl)
set_option maxHeartbeats 1000000 in
set_option maxRecDepth 100000 in
theorem law_case6 {p : Program} {l : Launch} {e : Env} {s : State} {m : MethodId} {below : List Frame} {meth : Method} {c' : Code} {D : va_G} {b L : Nat} {xs : Nat → Int32} (hL : L ≤ 2560) (hx : p.tables.exec = Jvm.exec) (hb : c'.code = cL_law) (hX : va_X b L xs s s.heap) (hbl : b < s.heap.size) {aC aR : Nat → Nat} {cI cZ : ClassId} (C : Cx p s m #[Value.ref b] meth c' cL_law 4 RL D (tyIZ cI cZ)) (n : Nat) (x3 : Int32) (c : CSt) (σ : RSt) (hR : Rel σ c) (h0 : 0 ≤ x3.toInt) (hn : (L : Int) + 1 ≤ x3.toInt + (n + 1 : Nat)) (h5 : x3.toInt + 5 ≤ L) {Q : State → Prop} (ih : ∀ (x3 : Int32) (c : CSt) (σ : RSt), Rel σ c → 0 ≤ x3.toInt → (L : Int) + 1 ≤ x3.toInt + n → ∀ {H : Heap} {locs : List Loc}, Sx (fun q : Nat => s.heap.size ≤ q) D (wC aC cI cZ c ++ wR aR cI cZ σ) s H locs → ∀ (ls : Array Slot), lv_has ls 4 [(0, .ref b), (1, .ref (aC 0)), (2, .ref (aR 0)), (3, .int x3)] → W p l e room_1 s m #[Value.ref b] below meth c' H locs 36 3827 Q (F0 m 18 ls []))
    {H : Heap} {locs : List Loc} (X : Sx (fun q : Nat => s.heap.size ≤ q) D (wC aC cI cZ c ++ wR aR cI cZ σ) s H locs) (ls : Array Slot) (hl : lv_has ls 4 [(0, .ref b), (1, .ref (aC 0)), (2, .ref (aR 0)), (3, .int x3)]) : W p l e room_1 s m #[Value.ref b] below meth c' H locs 36 3827 Q (F0 m 428 ls []) := by
  have hA : ∀ q : Nat, s.heap.size ≤ q → (fun q : Nat => s.heap.size ≤ q) q := fun _ h => h
  have hbA : ¬ (fun q : Nat => s.heap.size ≤ q) b := Nat.not_le.mpr hbl
  have hS := rel_s0 hR
  refine lv_aload_n hx hb dL_law_428 rfl (lv_at hl 1 rfl) ?_
  refine lv_aload_n hx hb dL_law_429 rfl (lv_at hl 0 rfl) ?_
  refine lv_iload_n hx hb dL_law_430 rfl (lv_at hl 3 rfl) ?_
  refine lv_iconst (v := (1)) hx hb dL_law_431 (by decide) ?_
  refine lv_iadd hx hb dL_law_432 ?_
  refine va_sld hx hb hX hbl hbA X.2.2 (sc_in h0 h5 1 (by decide) rfl) dL_law_433 ?_
  refine lv_aload_n hx hb dL_law_434 rfl (lv_at hl 0 rfl) ?_
  refine lv_iload_n hx hb dL_law_435 rfl (lv_at hl 3 rfl) ?_
  refine lv_iconst (v := (2)) hx hb dL_law_436 (by decide) ?_
  refine lv_iadd hx hb dL_law_437 ?_
  refine va_sld hx hb hX hbl hbA X.2.2 (sc_in h0 h5 2 (by decide) rfl) dL_law_438 ?_
  refine lv_aload_n hx hb dL_law_439 rfl (lv_at hl 0 rfl) ?_
  refine lv_iload_n hx hb dL_law_440 rfl (lv_at hl 3 rfl) ?_
  refine lv_iconst (v := (3)) hx hb dL_law_441 (by decide) ?_
  refine lv_iadd hx hb dL_law_442 ?_
  refine va_sld hx hb hX hbl hbA X.2.2 (sc_in h0 h5 3 (by decide) rfl) dL_law_443 ?_
  refine callL1R (rest := []) (w1 := wC aC cI cZ) (w2 := wR aR cI cZ) C hA (wC_sh aC cI cZ) X (kX5_store l D aC cI cZ _ (xs (x3 + 1).toNatClampNeg) (xs (x3 + 2).toNatClampNeg) (xs (x3 + 3).toNatClampNeg)) (cwV 3 C.2.2.2.2.1 (gV wl_L_41 wt_yX5_store ws_yX5_store wi_X5 wk_yX5_store) rfl rfl rfl hdX5_store ⟨Nat.le_of_ble_eq_true rfl, Nat.le_of_ble_eq_true rfl⟩) (ci := 5) (q0 := 0) rfl rfl rfl hl.1 rfl (Nat.le_of_ble_eq_true rfl) dL_law_444 ⟨by exact Nat.le_of_ble_eq_true rfl, by exact Nat.le_of_ble_eq_true rfl⟩ (fun H locs X => ?_)
  refine lv_aload_n hx hb dL_law_447 rfl (lv_at hl 2 rfl) ?_
  refine lv_aload_n hx hb dL_law_448 rfl (lv_at hl 0 rfl) ?_
  refine lv_iload_n hx hb dL_law_449 rfl (lv_at hl 3 rfl) ?_
  refine lv_iconst (v := (1)) hx hb dL_law_450 (by decide) ?_
  refine lv_iadd hx hb dL_law_451 ?_
  refine va_sld hx hb hX hbl hbA X.2.2 (sc_in h0 h5 1 (by decide) rfl) dL_law_452 ?_
  refine lv_aload_n hx hb dL_law_453 rfl (lv_at hl 0 rfl) ?_
  refine lv_iload_n hx hb dL_law_454 rfl (lv_at hl 3 rfl) ?_
  refine lv_iconst (v := (2)) hx hb dL_law_455 (by decide) ?_
  refine lv_iadd hx hb dL_law_456 ?_
  refine va_sld hx hb hX hbl hbA X.2.2 (sc_in h0 h5 2 (by decide) rfl) dL_law_457 ?_
  refine lv_aload_n hx hb dL_law_458 rfl (lv_at hl 0 rfl) ?_
  refine lv_iload_n hx hb dL_law_459 rfl (lv_at hl 3 rfl) ?_
  refine lv_iconst (v := (3)) hx hb dL_law_460 (by decide) ?_
  refine lv_iadd hx hb dL_law_461 ?_
  refine va_sld hx hb hX hbl hbA X.2.2 (sc_in h0 h5 3 (by decide) rfl) dL_law_462 ?_
  refine callL2R (rest := [.int (fX5_store c (xs (x3 + 1).toNatClampNeg) (xs (x3 + 2).toNatClampNeg) (xs (x3 + 3).toNatClampNeg)).1]) (w1 := wC aC cI cZ) (w2 := wR aR cI cZ) C hA (wR_sh aR cI cZ) X (kX6_store l D aR cI cZ _ (xs (x3 + 1).toNatClampNeg) (xs (x3 + 2).toNatClampNeg) (xs (x3 + 3).toNatClampNeg)) (cwV 3 C.2.2.2.2.1 (gV wl_L_44 wt_yX6_store ws_yX6_store wi_X6 wk_yX6_store) rfl rfl rfl hdX6_store ⟨Nat.le_of_ble_eq_true rfl, Nat.le_of_ble_eq_true rfl⟩) (ci := 6) (q0 := 0) rfl rfl rfl hl.1 rfl (Nat.le_of_ble_eq_true rfl) dL_law_463 ⟨by exact Nat.le_of_ble_eq_true rfl, by exact Nat.le_of_ble_eq_true rfl⟩ (fun H locs X => ?_)
  have hs := sim_store hR (xs (x3 + 1).toNatClampNeg) (xs (x3 + 2).toNatClampNeg) (xs (x3 + 3).toNatClampNeg)
  refine lv_icmp_eq (tgt := 983) hx hb dL_law_466 (by decide) (fun _ => ?_) (fun cz => absurd hs.1 cz)
  refine lv_iinc (v := (x3 + 5)) (lv' := [(3, .int (x3 + 5)), (0, .ref b), (1, .ref (aC 0)), (2, .ref (aR 0))]) hx hb dL_law_983 hl (k := 3) rfl rfl (by decide) rfl (fun ls hl => ?_)
  refine lv_goto (tgt := 18) hx hb dL_law_986 (by decide) ?_
  exact ih (x3 + 5) _ _ hs.2 (sc_nn h0 h5) (sc_ms h0 h5 hn) X ls (lv_sub hl [1, 2, 3, 0] rfl)
set_option maxHeartbeats 1000000 in
set_option maxRecDepth 100000 in
theorem law_case7 {p : Program} {l : Launch} {e : Env} {s : State} {m : MethodId} {below : List Frame} {meth : Method} {c' : Code} {D : va_G} {b L : Nat} {xs : Nat → Int32} (hL : L ≤ 2560) (hx : p.tables.exec = Jvm.exec) (hb : c'.code = cL_law) (hX : va_X b L xs s s.heap) (hbl : b < s.heap.size) {aC aR : Nat → Nat} {cI cZ : ClassId} (C : Cx p s m #[Value.ref b] meth c' cL_law 4 RL D (tyIZ cI cZ)) (n : Nat) (x3 : Int32) (c : CSt) (σ : RSt) (hR : Rel σ c) (h0 : 0 ≤ x3.toInt) (hn : (L : Int) + 1 ≤ x3.toInt + (n + 1 : Nat)) (h5 : x3.toInt + 5 ≤ L) {Q : State → Prop} (ih : ∀ (x3 : Int32) (c : CSt) (σ : RSt), Rel σ c → 0 ≤ x3.toInt → (L : Int) + 1 ≤ x3.toInt + n → ∀ {H : Heap} {locs : List Loc}, Sx (fun q : Nat => s.heap.size ≤ q) D (wC aC cI cZ c ++ wR aR cI cZ σ) s H locs → ∀ (ls : Array Slot), lv_has ls 4 [(0, .ref b), (1, .ref (aC 0)), (2, .ref (aR 0)), (3, .int x3)] → W p l e room_1 s m #[Value.ref b] below meth c' H locs 36 3827 Q (F0 m 18 ls []))
    {H : Heap} {locs : List Loc} (X : Sx (fun q : Nat => s.heap.size ≤ q) D (wC aC cI cZ c ++ wR aR cI cZ σ) s H locs) (ls : Array Slot) (hl : lv_has ls 4 [(0, .ref b), (1, .ref (aC 0)), (2, .ref (aR 0)), (3, .int x3)]) : W p l e room_1 s m #[Value.ref b] below meth c' H locs 36 3827 Q (F0 m 471 ls []) := by
  have hA : ∀ q : Nat, s.heap.size ≤ q → (fun q : Nat => s.heap.size ≤ q) q := fun _ h => h
  have hbA : ¬ (fun q : Nat => s.heap.size ≤ q) b := Nat.not_le.mpr hbl
  have hS := rel_s0 hR
  refine lv_aload_n hx hb dL_law_471 rfl (lv_at hl 1 rfl) ?_
  refine lv_aload_n hx hb dL_law_472 rfl (lv_at hl 0 rfl) ?_
  refine lv_iload_n hx hb dL_law_473 rfl (lv_at hl 3 rfl) ?_
  refine lv_iconst (v := (1)) hx hb dL_law_474 (by decide) ?_
  refine lv_iadd hx hb dL_law_475 ?_
  refine va_sld hx hb hX hbl hbA X.2.2 (sc_in h0 h5 1 (by decide) rfl) dL_law_476 ?_
  refine lv_aload_n hx hb dL_law_477 rfl (lv_at hl 0 rfl) ?_
  refine lv_iload_n hx hb dL_law_478 rfl (lv_at hl 3 rfl) ?_
  refine lv_iconst (v := (2)) hx hb dL_law_479 (by decide) ?_
  refine lv_iadd hx hb dL_law_480 ?_
  refine va_sld hx hb hX hbl hbA X.2.2 (sc_in h0 h5 2 (by decide) rfl) dL_law_481 ?_
  refine lv_aload_n hx hb dL_law_482 rfl (lv_at hl 0 rfl) ?_
  refine lv_iload_n hx hb dL_law_483 rfl (lv_at hl 3 rfl) ?_
  refine lv_iconst (v := (3)) hx hb dL_law_484 (by decide) ?_
  refine lv_iadd hx hb dL_law_485 ?_
  refine va_sld hx hb hX hbl hbA X.2.2 (sc_in h0 h5 3 (by decide) rfl) dL_law_486 ?_
  refine callL1R (rest := []) (w1 := wC aC cI cZ) (w2 := wR aR cI cZ) C hA (wC_sh aC cI cZ) X (kX5_load l D aC cI cZ _ (xs (x3 + 1).toNatClampNeg) (xs (x3 + 2).toNatClampNeg) (xs (x3 + 3).toNatClampNeg)) (cwV 3 C.2.2.2.2.1 (gV wl_L_45 wt_yX5_load ws_yX5_load wi_X5 wk_yX5_load) rfl rfl rfl hdX5_load ⟨Nat.le_of_ble_eq_true rfl, Nat.le_of_ble_eq_true rfl⟩) (ci := 5) (q0 := 0) rfl rfl rfl hl.1 rfl (Nat.le_of_ble_eq_true rfl) dL_law_487 ⟨by exact Nat.le_of_ble_eq_true rfl, by exact Nat.le_of_ble_eq_true rfl⟩ (fun H locs X => ?_)
  refine lv_aload_n hx hb dL_law_490 rfl (lv_at hl 2 rfl) ?_
  refine lv_aload_n hx hb dL_law_491 rfl (lv_at hl 0 rfl) ?_
  refine lv_iload_n hx hb dL_law_492 rfl (lv_at hl 3 rfl) ?_
  refine lv_iconst (v := (1)) hx hb dL_law_493 (by decide) ?_
  refine lv_iadd hx hb dL_law_494 ?_
  refine va_sld hx hb hX hbl hbA X.2.2 (sc_in h0 h5 1 (by decide) rfl) dL_law_495 ?_
  refine lv_aload_n hx hb dL_law_496 rfl (lv_at hl 0 rfl) ?_
  refine lv_iload_n hx hb dL_law_497 rfl (lv_at hl 3 rfl) ?_
  refine lv_iconst (v := (2)) hx hb dL_law_498 (by decide) ?_
  refine lv_iadd hx hb dL_law_499 ?_
  refine va_sld hx hb hX hbl hbA X.2.2 (sc_in h0 h5 2 (by decide) rfl) dL_law_500 ?_
  refine lv_aload_n hx hb dL_law_501 rfl (lv_at hl 0 rfl) ?_
  refine lv_iload_n hx hb dL_law_502 rfl (lv_at hl 3 rfl) ?_
  refine lv_iconst (v := (3)) hx hb dL_law_503 (by decide) ?_
  refine lv_iadd hx hb dL_law_504 ?_
  refine va_sld hx hb hX hbl hbA X.2.2 (sc_in h0 h5 3 (by decide) rfl) dL_law_505 ?_
  refine callL2R (rest := [.int (fX5_load c (xs (x3 + 1).toNatClampNeg) (xs (x3 + 2).toNatClampNeg) (xs (x3 + 3).toNatClampNeg)).1]) (w1 := wC aC cI cZ) (w2 := wR aR cI cZ) C hA (wR_sh aR cI cZ) X (kX6_load l D aR cI cZ _ (xs (x3 + 1).toNatClampNeg) (xs (x3 + 2).toNatClampNeg) (xs (x3 + 3).toNatClampNeg)) (cwV 3 C.2.2.2.2.1 (gV wl_L_48 wt_yX6_load ws_yX6_load wi_X6 wk_yX6_load) rfl rfl rfl hdX6_load ⟨Nat.le_of_ble_eq_true rfl, Nat.le_of_ble_eq_true rfl⟩) (ci := 6) (q0 := 0) rfl rfl rfl hl.1 rfl (Nat.le_of_ble_eq_true rfl) dL_law_506 ⟨by exact Nat.le_of_ble_eq_true rfl, by exact Nat.le_of_ble_eq_true rfl⟩ (fun H locs X => ?_)
  have hs := sim_load hR (xs (x3 + 1).toNatClampNeg) (xs (x3 + 2).toNatClampNeg) (xs (x3 + 3).toNatClampNeg)
  refine lv_icmp_eq (tgt := 983) hx hb dL_law_509 (by decide) (fun _ => ?_) (fun cz => absurd hs.1 cz)
  refine lv_iinc (v := (x3 + 5)) (lv' := [(3, .int (x3 + 5)), (0, .ref b), (1, .ref (aC 0)), (2, .ref (aR 0))]) hx hb dL_law_983 hl (k := 3) rfl rfl (by decide) rfl (fun ls hl => ?_)
  refine lv_goto (tgt := 18) hx hb dL_law_986 (by decide) ?_
  exact ih (x3 + 5) _ _ hs.2 (sc_nn h0 h5) (sc_ms h0 h5 hn) X ls (lv_sub hl [1, 2, 3, 0] rfl)
set_option maxHeartbeats 1000000 in
set_option maxRecDepth 100000 in
theorem law_case8 {p : Program} {l : Launch} {e : Env} {s : State} {m : MethodId} {below : List Frame} {meth : Method} {c' : Code} {D : va_G} {b L : Nat} {xs : Nat → Int32} (hL : L ≤ 2560) (hx : p.tables.exec = Jvm.exec) (hb : c'.code = cL_law) (hX : va_X b L xs s s.heap) (hbl : b < s.heap.size) {aC aR : Nat → Nat} {cI cZ : ClassId} (C : Cx p s m #[Value.ref b] meth c' cL_law 4 RL D (tyIZ cI cZ)) (n : Nat) (x3 : Int32) (c : CSt) (σ : RSt) (hR : Rel σ c) (h0 : 0 ≤ x3.toInt) (hn : (L : Int) + 1 ≤ x3.toInt + (n + 1 : Nat)) (h5 : x3.toInt + 5 ≤ L) {Q : State → Prop} (ih : ∀ (x3 : Int32) (c : CSt) (σ : RSt), Rel σ c → 0 ≤ x3.toInt → (L : Int) + 1 ≤ x3.toInt + n → ∀ {H : Heap} {locs : List Loc}, Sx (fun q : Nat => s.heap.size ≤ q) D (wC aC cI cZ c ++ wR aR cI cZ σ) s H locs → ∀ (ls : Array Slot), lv_has ls 4 [(0, .ref b), (1, .ref (aC 0)), (2, .ref (aR 0)), (3, .int x3)] → W p l e room_1 s m #[Value.ref b] below meth c' H locs 36 3827 Q (F0 m 18 ls []))
    {H : Heap} {locs : List Loc} (X : Sx (fun q : Nat => s.heap.size ≤ q) D (wC aC cI cZ c ++ wR aR cI cZ σ) s H locs) (ls : Array Slot) (hl : lv_has ls 4 [(0, .ref b), (1, .ref (aC 0)), (2, .ref (aR 0)), (3, .int x3)]) : W p l e room_1 s m #[Value.ref b] below meth c' H locs 36 3827 Q (F0 m 514 ls []) := by
  have hA : ∀ q : Nat, s.heap.size ≤ q → (fun q : Nat => s.heap.size ≤ q) q := fun _ h => h
  have hbA : ¬ (fun q : Nat => s.heap.size ≤ q) b := Nat.not_le.mpr hbl
  have hS := rel_s0 hR
  refine lv_aload_n hx hb dL_law_514 rfl (lv_at hl 1 rfl) ?_
  refine lv_aload_n hx hb dL_law_515 rfl (lv_at hl 0 rfl) ?_
  refine lv_iload_n hx hb dL_law_516 rfl (lv_at hl 3 rfl) ?_
  refine lv_iconst (v := (1)) hx hb dL_law_517 (by decide) ?_
  refine lv_iadd hx hb dL_law_518 ?_
  refine va_sld hx hb hX hbl hbA X.2.2 (sc_in h0 h5 1 (by decide) rfl) dL_law_519 ?_
  refine lv_aload_n hx hb dL_law_520 rfl (lv_at hl 0 rfl) ?_
  refine lv_iload_n hx hb dL_law_521 rfl (lv_at hl 3 rfl) ?_
  refine lv_iconst (v := (2)) hx hb dL_law_522 (by decide) ?_
  refine lv_iadd hx hb dL_law_523 ?_
  refine va_sld hx hb hX hbl hbA X.2.2 (sc_in h0 h5 2 (by decide) rfl) dL_law_524 ?_
  refine lv_aload_n hx hb dL_law_525 rfl (lv_at hl 0 rfl) ?_
  refine lv_iload_n hx hb dL_law_526 rfl (lv_at hl 3 rfl) ?_
  refine lv_iconst (v := (3)) hx hb dL_law_527 (by decide) ?_
  refine lv_iadd hx hb dL_law_528 ?_
  refine va_sld hx hb hX hbl hbA X.2.2 (sc_in h0 h5 3 (by decide) rfl) dL_law_529 ?_
  refine lv_aload_n hx hb dL_law_530 rfl (lv_at hl 0 rfl) ?_
  refine lv_iload_n hx hb dL_law_531 rfl (lv_at hl 3 rfl) ?_
  refine lv_iconst (v := (4)) hx hb dL_law_532 (by decide) ?_
  refine lv_iadd hx hb dL_law_533 ?_
  refine va_sld hx hb hX hbl hbA X.2.2 (sc_in h0 h5 4 (by decide) rfl) dL_law_534 ?_
  refine callL1R (rest := []) (w1 := wC aC cI cZ) (w2 := wR aR cI cZ) C hA (wC_sh aC cI cZ) X (kX5_same l D aC cI cZ _ (xs (x3 + 1).toNatClampNeg) (xs (x3 + 2).toNatClampNeg) (xs (x3 + 3).toNatClampNeg) (xs (x3 + 4).toNatClampNeg)) (cwV 4 C.2.2.2.2.1 (gV wl_L_49 wt_yX5_same ws_yX5_same wi_X5 wk_yX5_same) rfl rfl rfl hdX5_same ⟨Nat.le_of_ble_eq_true rfl, Nat.le_of_ble_eq_true rfl⟩) (ci := 5) (q0 := 0) rfl rfl rfl hl.1 rfl (Nat.le_of_ble_eq_true rfl) dL_law_535 ⟨by exact Nat.le_of_ble_eq_true rfl, by exact Nat.le_of_ble_eq_true rfl⟩ (fun H locs X => ?_)
  refine lv_aload_n hx hb dL_law_538 rfl (lv_at hl 2 rfl) ?_
  refine lv_aload_n hx hb dL_law_539 rfl (lv_at hl 0 rfl) ?_
  refine lv_iload_n hx hb dL_law_540 rfl (lv_at hl 3 rfl) ?_
  refine lv_iconst (v := (1)) hx hb dL_law_541 (by decide) ?_
  refine lv_iadd hx hb dL_law_542 ?_
  refine va_sld hx hb hX hbl hbA X.2.2 (sc_in h0 h5 1 (by decide) rfl) dL_law_543 ?_
  refine lv_aload_n hx hb dL_law_544 rfl (lv_at hl 0 rfl) ?_
  refine lv_iload_n hx hb dL_law_545 rfl (lv_at hl 3 rfl) ?_
  refine lv_iconst (v := (2)) hx hb dL_law_546 (by decide) ?_
  refine lv_iadd hx hb dL_law_547 ?_
  refine va_sld hx hb hX hbl hbA X.2.2 (sc_in h0 h5 2 (by decide) rfl) dL_law_548 ?_
  refine lv_aload_n hx hb dL_law_549 rfl (lv_at hl 0 rfl) ?_
  refine lv_iload_n hx hb dL_law_550 rfl (lv_at hl 3 rfl) ?_
  refine lv_iconst (v := (3)) hx hb dL_law_551 (by decide) ?_
  refine lv_iadd hx hb dL_law_552 ?_
  refine va_sld hx hb hX hbl hbA X.2.2 (sc_in h0 h5 3 (by decide) rfl) dL_law_553 ?_
  refine lv_aload_n hx hb dL_law_554 rfl (lv_at hl 0 rfl) ?_
  refine lv_iload_n hx hb dL_law_555 rfl (lv_at hl 3 rfl) ?_
  refine lv_iconst (v := (4)) hx hb dL_law_556 (by decide) ?_
  refine lv_iadd hx hb dL_law_557 ?_
  refine va_sld hx hb hX hbl hbA X.2.2 (sc_in h0 h5 4 (by decide) rfl) dL_law_558 ?_
  refine callL2R (rest := [.int (fX5_same c (xs (x3 + 1).toNatClampNeg) (xs (x3 + 2).toNatClampNeg) (xs (x3 + 3).toNatClampNeg) (xs (x3 + 4).toNatClampNeg))]) (w1 := wC aC cI cZ) (w2 := wR aR cI cZ) C hA (wR_sh aR cI cZ) X (kX6_same l D aR cI cZ _ (xs (x3 + 1).toNatClampNeg) (xs (x3 + 2).toNatClampNeg) (xs (x3 + 3).toNatClampNeg) (xs (x3 + 4).toNatClampNeg)) (cwV 4 C.2.2.2.2.1 (gV wl_L_52 wt_yX6_same ws_yX6_same wi_X6 wk_yX6_same) rfl rfl rfl hdX6_same ⟨Nat.le_of_ble_eq_true rfl, Nat.le_of_ble_eq_true rfl⟩) (ci := 6) (q0 := 0) rfl rfl rfl hl.1 rfl (Nat.le_of_ble_eq_true rfl) dL_law_559 ⟨by exact Nat.le_of_ble_eq_true rfl, by exact Nat.le_of_ble_eq_true rfl⟩ (fun H locs X => ?_)
  have hs := sim_same hR (xs (x3 + 1).toNatClampNeg) (xs (x3 + 2).toNatClampNeg) (xs (x3 + 3).toNatClampNeg) (xs (x3 + 4).toNatClampNeg)
  refine lv_icmp_eq (tgt := 983) hx hb dL_law_562 (by decide) (fun _ => ?_) (fun cz => absurd hs.1 cz)
  refine lv_iinc (v := (x3 + 5)) (lv' := [(3, .int (x3 + 5)), (0, .ref b), (1, .ref (aC 0)), (2, .ref (aR 0))]) hx hb dL_law_983 hl (k := 3) rfl rfl (by decide) rfl (fun ls hl => ?_)
  refine lv_goto (tgt := 18) hx hb dL_law_986 (by decide) ?_
  exact ih (x3 + 5) _ _ hs.2 (sc_nn h0 h5) (sc_ms h0 h5 hn) X ls (lv_sub hl [1, 2, 3, 0] rfl)
set_option maxHeartbeats 1000000 in
set_option maxRecDepth 100000 in
theorem law_case9 {p : Program} {l : Launch} {e : Env} {s : State} {m : MethodId} {below : List Frame} {meth : Method} {c' : Code} {D : va_G} {b L : Nat} {xs : Nat → Int32} (hL : L ≤ 2560) (hx : p.tables.exec = Jvm.exec) (hb : c'.code = cL_law) (hX : va_X b L xs s s.heap) (hbl : b < s.heap.size) {aC aR : Nat → Nat} {cI cZ : ClassId} (C : Cx p s m #[Value.ref b] meth c' cL_law 4 RL D (tyIZ cI cZ)) (n : Nat) (x3 : Int32) (c : CSt) (σ : RSt) (hR : Rel σ c) (h0 : 0 ≤ x3.toInt) (hn : (L : Int) + 1 ≤ x3.toInt + (n + 1 : Nat)) (h5 : x3.toInt + 5 ≤ L) {Q : State → Prop} (ih : ∀ (x3 : Int32) (c : CSt) (σ : RSt), Rel σ c → 0 ≤ x3.toInt → (L : Int) + 1 ≤ x3.toInt + n → ∀ {H : Heap} {locs : List Loc}, Sx (fun q : Nat => s.heap.size ≤ q) D (wC aC cI cZ c ++ wR aR cI cZ σ) s H locs → ∀ (ls : Array Slot), lv_has ls 4 [(0, .ref b), (1, .ref (aC 0)), (2, .ref (aR 0)), (3, .int x3)] → W p l e room_1 s m #[Value.ref b] below meth c' H locs 36 3827 Q (F0 m 18 ls []))
    {H : Heap} {locs : List Loc} (X : Sx (fun q : Nat => s.heap.size ≤ q) D (wC aC cI cZ c ++ wR aR cI cZ σ) s H locs) (ls : Array Slot) (hl : lv_has ls 4 [(0, .ref b), (1, .ref (aC 0)), (2, .ref (aR 0)), (3, .int x3)]) : W p l e room_1 s m #[Value.ref b] below meth c' H locs 36 3827 Q (F0 m 567 ls []) := by
  have hA : ∀ q : Nat, s.heap.size ≤ q → (fun q : Nat => s.heap.size ≤ q) q := fun _ h => h
  have hbA : ¬ (fun q : Nat => s.heap.size ≤ q) b := Nat.not_le.mpr hbl
  have hS := rel_s0 hR
  refine lv_aload_n hx hb dL_law_567 rfl (lv_at hl 1 rfl) ?_
  refine lv_aload_n hx hb dL_law_568 rfl (lv_at hl 0 rfl) ?_
  refine lv_iload_n hx hb dL_law_569 rfl (lv_at hl 3 rfl) ?_
  refine lv_iconst (v := (1)) hx hb dL_law_570 (by decide) ?_
  refine lv_iadd hx hb dL_law_571 ?_
  refine va_sld hx hb hX hbl hbA X.2.2 (sc_in h0 h5 1 (by decide) rfl) dL_law_572 ?_
  refine lv_aload_n hx hb dL_law_573 rfl (lv_at hl 0 rfl) ?_
  refine lv_iload_n hx hb dL_law_574 rfl (lv_at hl 3 rfl) ?_
  refine lv_iconst (v := (2)) hx hb dL_law_575 (by decide) ?_
  refine lv_iadd hx hb dL_law_576 ?_
  refine va_sld hx hb hX hbl hbA X.2.2 (sc_in h0 h5 2 (by decide) rfl) dL_law_577 ?_
  refine lv_aload_n hx hb dL_law_578 rfl (lv_at hl 0 rfl) ?_
  refine lv_iload_n hx hb dL_law_579 rfl (lv_at hl 3 rfl) ?_
  refine lv_iconst (v := (3)) hx hb dL_law_580 (by decide) ?_
  refine lv_iadd hx hb dL_law_581 ?_
  refine va_sld hx hb hX hbl hbA X.2.2 (sc_in h0 h5 3 (by decide) rfl) dL_law_582 ?_
  refine callL1R (rest := []) (w1 := wC aC cI cZ) (w2 := wR aR cI cZ) C hA (wC_sh aC cI cZ) X (kX5_weak l D aC cI cZ _ (xs (x3 + 1).toNatClampNeg) (xs (x3 + 2).toNatClampNeg) (xs (x3 + 3).toNatClampNeg)) (cwV 3 C.2.2.2.2.1 (gV wl_L_53 wt_yX5_weak ws_yX5_weak wi_X5 wk_yX5_weak) rfl rfl rfl hdX5_weak ⟨Nat.le_of_ble_eq_true rfl, Nat.le_of_ble_eq_true rfl⟩) (ci := 5) (q0 := 0) rfl rfl rfl hl.1 rfl (Nat.le_of_ble_eq_true rfl) dL_law_583 ⟨by exact Nat.le_of_ble_eq_true rfl, by exact Nat.le_of_ble_eq_true rfl⟩ (fun H locs X => ?_)
  refine lv_aload_n hx hb dL_law_586 rfl (lv_at hl 2 rfl) ?_
  refine lv_aload_n hx hb dL_law_587 rfl (lv_at hl 0 rfl) ?_
  refine lv_iload_n hx hb dL_law_588 rfl (lv_at hl 3 rfl) ?_
  refine lv_iconst (v := (1)) hx hb dL_law_589 (by decide) ?_
  refine lv_iadd hx hb dL_law_590 ?_
  refine va_sld hx hb hX hbl hbA X.2.2 (sc_in h0 h5 1 (by decide) rfl) dL_law_591 ?_
  refine lv_aload_n hx hb dL_law_592 rfl (lv_at hl 0 rfl) ?_
  refine lv_iload_n hx hb dL_law_593 rfl (lv_at hl 3 rfl) ?_
  refine lv_iconst (v := (2)) hx hb dL_law_594 (by decide) ?_
  refine lv_iadd hx hb dL_law_595 ?_
  refine va_sld hx hb hX hbl hbA X.2.2 (sc_in h0 h5 2 (by decide) rfl) dL_law_596 ?_
  refine lv_aload_n hx hb dL_law_597 rfl (lv_at hl 0 rfl) ?_
  refine lv_iload_n hx hb dL_law_598 rfl (lv_at hl 3 rfl) ?_
  refine lv_iconst (v := (3)) hx hb dL_law_599 (by decide) ?_
  refine lv_iadd hx hb dL_law_600 ?_
  refine va_sld hx hb hX hbl hbA X.2.2 (sc_in h0 h5 3 (by decide) rfl) dL_law_601 ?_
  refine callL2R (rest := [.int (fX5_weak c (xs (x3 + 1).toNatClampNeg) (xs (x3 + 2).toNatClampNeg) (xs (x3 + 3).toNatClampNeg)).1]) (w1 := wC aC cI cZ) (w2 := wR aR cI cZ) C hA (wR_sh aR cI cZ) X (kX6_weak l D aR cI cZ _ (xs (x3 + 1).toNatClampNeg) (xs (x3 + 2).toNatClampNeg) (xs (x3 + 3).toNatClampNeg)) (cwV 3 C.2.2.2.2.1 (gV wl_L_56 wt_yX6_weak ws_yX6_weak wi_X6 wk_yX6_weak) rfl rfl rfl hdX6_weak ⟨Nat.le_of_ble_eq_true rfl, Nat.le_of_ble_eq_true rfl⟩) (ci := 6) (q0 := 0) rfl rfl rfl hl.1 rfl (Nat.le_of_ble_eq_true rfl) dL_law_602 ⟨by exact Nat.le_of_ble_eq_true rfl, by exact Nat.le_of_ble_eq_true rfl⟩ (fun H locs X => ?_)
  have hs := sim_weak hR (xs (x3 + 1).toNatClampNeg) (xs (x3 + 2).toNatClampNeg) (xs (x3 + 3).toNatClampNeg)
  refine lv_icmp_eq (tgt := 983) hx hb dL_law_605 (by decide) (fun _ => ?_) (fun cz => absurd hs.1 cz)
  refine lv_iinc (v := (x3 + 5)) (lv' := [(3, .int (x3 + 5)), (0, .ref b), (1, .ref (aC 0)), (2, .ref (aR 0))]) hx hb dL_law_983 hl (k := 3) rfl rfl (by decide) rfl (fun ls hl => ?_)
  refine lv_goto (tgt := 18) hx hb dL_law_986 (by decide) ?_
  exact ih (x3 + 5) _ _ hs.2 (sc_nn h0 h5) (sc_ms h0 h5 hn) X ls (lv_sub hl [1, 2, 3, 0] rfl)
set_option maxHeartbeats 1000000 in
set_option maxRecDepth 100000 in
theorem law_case10 {p : Program} {l : Launch} {e : Env} {s : State} {m : MethodId} {below : List Frame} {meth : Method} {c' : Code} {D : va_G} {b L : Nat} {xs : Nat → Int32} (hL : L ≤ 2560) (hx : p.tables.exec = Jvm.exec) (hb : c'.code = cL_law) (hX : va_X b L xs s s.heap) (hbl : b < s.heap.size) {aC aR : Nat → Nat} {cI cZ : ClassId} (C : Cx p s m #[Value.ref b] meth c' cL_law 4 RL D (tyIZ cI cZ)) (n : Nat) (x3 : Int32) (c : CSt) (σ : RSt) (hR : Rel σ c) (h0 : 0 ≤ x3.toInt) (hn : (L : Int) + 1 ≤ x3.toInt + (n + 1 : Nat)) (h5 : x3.toInt + 5 ≤ L) {Q : State → Prop} (ih : ∀ (x3 : Int32) (c : CSt) (σ : RSt), Rel σ c → 0 ≤ x3.toInt → (L : Int) + 1 ≤ x3.toInt + n → ∀ {H : Heap} {locs : List Loc}, Sx (fun q : Nat => s.heap.size ≤ q) D (wC aC cI cZ c ++ wR aR cI cZ σ) s H locs → ∀ (ls : Array Slot), lv_has ls 4 [(0, .ref b), (1, .ref (aC 0)), (2, .ref (aR 0)), (3, .int x3)] → W p l e room_1 s m #[Value.ref b] below meth c' H locs 36 3827 Q (F0 m 18 ls []))
    {H : Heap} {locs : List Loc} (X : Sx (fun q : Nat => s.heap.size ≤ q) D (wC aC cI cZ c ++ wR aR cI cZ σ) s H locs) (ls : Array Slot) (hl : lv_has ls 4 [(0, .ref b), (1, .ref (aC 0)), (2, .ref (aR 0)), (3, .int x3)]) : W p l e room_1 s m #[Value.ref b] below meth c' H locs 36 3827 Q (F0 m 610 ls []) := by
  have hA : ∀ q : Nat, s.heap.size ≤ q → (fun q : Nat => s.heap.size ≤ q) q := fun _ h => h
  have hbA : ¬ (fun q : Nat => s.heap.size ≤ q) b := Nat.not_le.mpr hbl
  have hS := rel_s0 hR
  refine lv_aload_n hx hb dL_law_610 rfl (lv_at hl 1 rfl) ?_
  refine lv_aload_n hx hb dL_law_611 rfl (lv_at hl 0 rfl) ?_
  refine lv_iload_n hx hb dL_law_612 rfl (lv_at hl 3 rfl) ?_
  refine lv_iconst (v := (1)) hx hb dL_law_613 (by decide) ?_
  refine lv_iadd hx hb dL_law_614 ?_
  refine va_sld hx hb hX hbl hbA X.2.2 (sc_in h0 h5 1 (by decide) rfl) dL_law_615 ?_
  refine lv_aload_n hx hb dL_law_616 rfl (lv_at hl 0 rfl) ?_
  refine lv_iload_n hx hb dL_law_617 rfl (lv_at hl 3 rfl) ?_
  refine lv_iconst (v := (2)) hx hb dL_law_618 (by decide) ?_
  refine lv_iadd hx hb dL_law_619 ?_
  refine va_sld hx hb hX hbl hbA X.2.2 (sc_in h0 h5 2 (by decide) rfl) dL_law_620 ?_
  refine lv_aload_n hx hb dL_law_621 rfl (lv_at hl 0 rfl) ?_
  refine lv_iload_n hx hb dL_law_622 rfl (lv_at hl 3 rfl) ?_
  refine lv_iconst (v := (3)) hx hb dL_law_623 (by decide) ?_
  refine lv_iadd hx hb dL_law_624 ?_
  refine va_sld hx hb hX hbl hbA X.2.2 (sc_in h0 h5 3 (by decide) rfl) dL_law_625 ?_
  refine callL1R (rest := []) (w1 := wC aC cI cZ) (w2 := wR aR cI cZ) C hA (wC_sh aC cI cZ) X (kX5_strong l D aC cI cZ _ (xs (x3 + 1).toNatClampNeg) (xs (x3 + 2).toNatClampNeg) (xs (x3 + 3).toNatClampNeg)) (cwV 3 C.2.2.2.2.1 (gV wl_L_57 wt_yX5_strong ws_yX5_strong wi_X5 wk_yX5_strong) rfl rfl rfl hdX5_strong ⟨Nat.le_of_ble_eq_true rfl, Nat.le_of_ble_eq_true rfl⟩) (ci := 5) (q0 := 0) rfl rfl rfl hl.1 rfl (Nat.le_of_ble_eq_true rfl) dL_law_626 ⟨by exact Nat.le_of_ble_eq_true rfl, by exact Nat.le_of_ble_eq_true rfl⟩ (fun H locs X => ?_)
  refine lv_aload_n hx hb dL_law_629 rfl (lv_at hl 2 rfl) ?_
  refine lv_aload_n hx hb dL_law_630 rfl (lv_at hl 0 rfl) ?_
  refine lv_iload_n hx hb dL_law_631 rfl (lv_at hl 3 rfl) ?_
  refine lv_iconst (v := (1)) hx hb dL_law_632 (by decide) ?_
  refine lv_iadd hx hb dL_law_633 ?_
  refine va_sld hx hb hX hbl hbA X.2.2 (sc_in h0 h5 1 (by decide) rfl) dL_law_634 ?_
  refine lv_aload_n hx hb dL_law_635 rfl (lv_at hl 0 rfl) ?_
  refine lv_iload_n hx hb dL_law_636 rfl (lv_at hl 3 rfl) ?_
  refine lv_iconst (v := (2)) hx hb dL_law_637 (by decide) ?_
  refine lv_iadd hx hb dL_law_638 ?_
  refine va_sld hx hb hX hbl hbA X.2.2 (sc_in h0 h5 2 (by decide) rfl) dL_law_639 ?_
  refine lv_aload_n hx hb dL_law_640 rfl (lv_at hl 0 rfl) ?_
  refine lv_iload_n hx hb dL_law_641 rfl (lv_at hl 3 rfl) ?_
  refine lv_iconst (v := (3)) hx hb dL_law_642 (by decide) ?_
  refine lv_iadd hx hb dL_law_643 ?_
  refine va_sld hx hb hX hbl hbA X.2.2 (sc_in h0 h5 3 (by decide) rfl) dL_law_644 ?_
  refine callL2R (rest := [.int (fX5_strong c (xs (x3 + 1).toNatClampNeg) (xs (x3 + 2).toNatClampNeg) (xs (x3 + 3).toNatClampNeg)).1]) (w1 := wC aC cI cZ) (w2 := wR aR cI cZ) C hA (wR_sh aR cI cZ) X (kX6_strong l D aR cI cZ _ (xs (x3 + 1).toNatClampNeg) (xs (x3 + 2).toNatClampNeg) (xs (x3 + 3).toNatClampNeg) hS) (cwV 3 C.2.2.2.2.1 (gV wl_L_60 wt_yX6_strong ws_yX6_strong wi_X6 wk_yX6_strong) rfl rfl rfl hdX6_strong ⟨Nat.le_of_ble_eq_true rfl, Nat.le_of_ble_eq_true rfl⟩) (ci := 6) (q0 := 0) rfl rfl rfl hl.1 rfl (Nat.le_of_ble_eq_true rfl) dL_law_645 ⟨by exact Nat.le_of_ble_eq_true rfl, by exact Nat.le_of_ble_eq_true rfl⟩ (fun H locs X => ?_)
  have hs := sim_strong hR (xs (x3 + 1).toNatClampNeg) (xs (x3 + 2).toNatClampNeg) (xs (x3 + 3).toNatClampNeg)
  refine lv_icmp_eq (tgt := 983) hx hb dL_law_648 (by decide) (fun _ => ?_) (fun cz => absurd hs.1 cz)
  refine lv_iinc (v := (x3 + 5)) (lv' := [(3, .int (x3 + 5)), (0, .ref b), (1, .ref (aC 0)), (2, .ref (aR 0))]) hx hb dL_law_983 hl (k := 3) rfl rfl (by decide) rfl (fun ls hl => ?_)
  refine lv_goto (tgt := 18) hx hb dL_law_986 (by decide) ?_
  exact ih (x3 + 5) _ _ hs.2 (sc_nn h0 h5) (sc_ms h0 h5 hn) X ls (lv_sub hl [1, 2, 3, 0] rfl)
set_option maxHeartbeats 1000000 in
set_option maxRecDepth 100000 in
theorem law_case11 {p : Program} {l : Launch} {e : Env} {s : State} {m : MethodId} {below : List Frame} {meth : Method} {c' : Code} {D : va_G} {b L : Nat} {xs : Nat → Int32} (hL : L ≤ 2560) (hx : p.tables.exec = Jvm.exec) (hb : c'.code = cL_law) (hX : va_X b L xs s s.heap) (hbl : b < s.heap.size) {aC aR : Nat → Nat} {cI cZ : ClassId} (C : Cx p s m #[Value.ref b] meth c' cL_law 4 RL D (tyIZ cI cZ)) (n : Nat) (x3 : Int32) (c : CSt) (σ : RSt) (hR : Rel σ c) (h0 : 0 ≤ x3.toInt) (hn : (L : Int) + 1 ≤ x3.toInt + (n + 1 : Nat)) (h5 : x3.toInt + 5 ≤ L) {Q : State → Prop} (ih : ∀ (x3 : Int32) (c : CSt) (σ : RSt), Rel σ c → 0 ≤ x3.toInt → (L : Int) + 1 ≤ x3.toInt + n → ∀ {H : Heap} {locs : List Loc}, Sx (fun q : Nat => s.heap.size ≤ q) D (wC aC cI cZ c ++ wR aR cI cZ σ) s H locs → ∀ (ls : Array Slot), lv_has ls 4 [(0, .ref b), (1, .ref (aC 0)), (2, .ref (aR 0)), (3, .int x3)] → W p l e room_1 s m #[Value.ref b] below meth c' H locs 36 3827 Q (F0 m 18 ls []))
    {H : Heap} {locs : List Loc} (X : Sx (fun q : Nat => s.heap.size ≤ q) D (wC aC cI cZ c ++ wR aR cI cZ σ) s H locs) (ls : Array Slot) (hl : lv_has ls 4 [(0, .ref b), (1, .ref (aC 0)), (2, .ref (aR 0)), (3, .int x3)]) : W p l e room_1 s m #[Value.ref b] below meth c' H locs 36 3827 Q (F0 m 653 ls []) := by
  have hA : ∀ q : Nat, s.heap.size ≤ q → (fun q : Nat => s.heap.size ≤ q) q := fun _ h => h
  have hbA : ¬ (fun q : Nat => s.heap.size ≤ q) b := Nat.not_le.mpr hbl
  have hS := rel_s0 hR
  refine lv_aload_n hx hb dL_law_653 rfl (lv_at hl 1 rfl) ?_
  refine lv_aload_n hx hb dL_law_654 rfl (lv_at hl 0 rfl) ?_
  refine lv_iload_n hx hb dL_law_655 rfl (lv_at hl 3 rfl) ?_
  refine lv_iconst (v := (1)) hx hb dL_law_656 (by decide) ?_
  refine lv_iadd hx hb dL_law_657 ?_
  refine va_sld hx hb hX hbl hbA X.2.2 (sc_in h0 h5 1 (by decide) rfl) dL_law_658 ?_
  refine lv_aload_n hx hb dL_law_659 rfl (lv_at hl 0 rfl) ?_
  refine lv_iload_n hx hb dL_law_660 rfl (lv_at hl 3 rfl) ?_
  refine lv_iconst (v := (2)) hx hb dL_law_661 (by decide) ?_
  refine lv_iadd hx hb dL_law_662 ?_
  refine va_sld hx hb hX hbl hbA X.2.2 (sc_in h0 h5 2 (by decide) rfl) dL_law_663 ?_
  refine lv_aload_n hx hb dL_law_664 rfl (lv_at hl 0 rfl) ?_
  refine lv_iload_n hx hb dL_law_665 rfl (lv_at hl 3 rfl) ?_
  refine lv_iconst (v := (3)) hx hb dL_law_666 (by decide) ?_
  refine lv_iadd hx hb dL_law_667 ?_
  refine va_sld hx hb hX hbl hbA X.2.2 (sc_in h0 h5 3 (by decide) rfl) dL_law_668 ?_
  refine callL1R (rest := []) (w1 := wC aC cI cZ) (w2 := wR aR cI cZ) C hA (wC_sh aC cI cZ) X (kX5_pair l D aC cI cZ _ (xs (x3 + 1).toNatClampNeg) (xs (x3 + 2).toNatClampNeg) (xs (x3 + 3).toNatClampNeg)) (cwV 3 C.2.2.2.2.1 (gV wl_L_61 wt_yX5_pair ws_yX5_pair wi_X5 wk_yX5_pair) rfl rfl rfl hdX5_pair ⟨Nat.le_of_ble_eq_true rfl, Nat.le_of_ble_eq_true rfl⟩) (ci := 5) (q0 := 0) rfl rfl rfl hl.1 rfl (Nat.le_of_ble_eq_true rfl) dL_law_669 ⟨by exact Nat.le_of_ble_eq_true rfl, by exact Nat.le_of_ble_eq_true rfl⟩ (fun H locs X => ?_)
  refine lv_aload_n hx hb dL_law_672 rfl (lv_at hl 2 rfl) ?_
  refine lv_aload_n hx hb dL_law_673 rfl (lv_at hl 0 rfl) ?_
  refine lv_iload_n hx hb dL_law_674 rfl (lv_at hl 3 rfl) ?_
  refine lv_iconst (v := (1)) hx hb dL_law_675 (by decide) ?_
  refine lv_iadd hx hb dL_law_676 ?_
  refine va_sld hx hb hX hbl hbA X.2.2 (sc_in h0 h5 1 (by decide) rfl) dL_law_677 ?_
  refine lv_aload_n hx hb dL_law_678 rfl (lv_at hl 0 rfl) ?_
  refine lv_iload_n hx hb dL_law_679 rfl (lv_at hl 3 rfl) ?_
  refine lv_iconst (v := (2)) hx hb dL_law_680 (by decide) ?_
  refine lv_iadd hx hb dL_law_681 ?_
  refine va_sld hx hb hX hbl hbA X.2.2 (sc_in h0 h5 2 (by decide) rfl) dL_law_682 ?_
  refine lv_aload_n hx hb dL_law_683 rfl (lv_at hl 0 rfl) ?_
  refine lv_iload_n hx hb dL_law_684 rfl (lv_at hl 3 rfl) ?_
  refine lv_iconst (v := (3)) hx hb dL_law_685 (by decide) ?_
  refine lv_iadd hx hb dL_law_686 ?_
  refine va_sld hx hb hX hbl hbA X.2.2 (sc_in h0 h5 3 (by decide) rfl) dL_law_687 ?_
  refine callL2R (rest := [.int (fX5_pair c (xs (x3 + 1).toNatClampNeg) (xs (x3 + 2).toNatClampNeg) (xs (x3 + 3).toNatClampNeg)).1]) (w1 := wC aC cI cZ) (w2 := wR aR cI cZ) C hA (wR_sh aR cI cZ) X (kX6_pair l D aR cI cZ _ (xs (x3 + 1).toNatClampNeg) (xs (x3 + 2).toNatClampNeg) (xs (x3 + 3).toNatClampNeg) hS) (cwV 3 C.2.2.2.2.1 (gV wl_L_64 wt_yX6_pair ws_yX6_pair wi_X6 wk_yX6_pair) rfl rfl rfl hdX6_pair ⟨Nat.le_of_ble_eq_true rfl, Nat.le_of_ble_eq_true rfl⟩) (ci := 6) (q0 := 0) rfl rfl rfl hl.1 rfl (Nat.le_of_ble_eq_true rfl) dL_law_688 ⟨by exact Nat.le_of_ble_eq_true rfl, by exact Nat.le_of_ble_eq_true rfl⟩ (fun H locs X => ?_)
  have hs := sim_pair hR (xs (x3 + 1).toNatClampNeg) (xs (x3 + 2).toNatClampNeg) (xs (x3 + 3).toNatClampNeg)
  refine lv_icmp_eq (tgt := 983) hx hb dL_law_691 (by decide) (fun _ => ?_) (fun cz => absurd hs.1 cz)
  refine lv_iinc (v := (x3 + 5)) (lv' := [(3, .int (x3 + 5)), (0, .ref b), (1, .ref (aC 0)), (2, .ref (aR 0))]) hx hb dL_law_983 hl (k := 3) rfl rfl (by decide) rfl (fun ls hl => ?_)
  refine lv_goto (tgt := 18) hx hb dL_law_986 (by decide) ?_
  exact ih (x3 + 5) _ _ hs.2 (sc_nn h0 h5) (sc_ms h0 h5 hn) X ls (lv_sub hl [1, 2, 3, 0] rfl)
set_option maxHeartbeats 1000000 in
set_option maxRecDepth 100000 in
theorem law_case12 {p : Program} {l : Launch} {e : Env} {s : State} {m : MethodId} {below : List Frame} {meth : Method} {c' : Code} {D : va_G} {b L : Nat} {xs : Nat → Int32} (hL : L ≤ 2560) (hx : p.tables.exec = Jvm.exec) (hb : c'.code = cL_law) (hX : va_X b L xs s s.heap) (hbl : b < s.heap.size) {aC aR : Nat → Nat} {cI cZ : ClassId} (C : Cx p s m #[Value.ref b] meth c' cL_law 4 RL D (tyIZ cI cZ)) (n : Nat) (x3 : Int32) (c : CSt) (σ : RSt) (hR : Rel σ c) (h0 : 0 ≤ x3.toInt) (hn : (L : Int) + 1 ≤ x3.toInt + (n + 1 : Nat)) (h5 : x3.toInt + 5 ≤ L) {Q : State → Prop} (ih : ∀ (x3 : Int32) (c : CSt) (σ : RSt), Rel σ c → 0 ≤ x3.toInt → (L : Int) + 1 ≤ x3.toInt + n → ∀ {H : Heap} {locs : List Loc}, Sx (fun q : Nat => s.heap.size ≤ q) D (wC aC cI cZ c ++ wR aR cI cZ σ) s H locs → ∀ (ls : Array Slot), lv_has ls 4 [(0, .ref b), (1, .ref (aC 0)), (2, .ref (aR 0)), (3, .int x3)] → W p l e room_1 s m #[Value.ref b] below meth c' H locs 36 3827 Q (F0 m 18 ls []))
    {H : Heap} {locs : List Loc} (X : Sx (fun q : Nat => s.heap.size ≤ q) D (wC aC cI cZ c ++ wR aR cI cZ σ) s H locs) (ls : Array Slot) (hl : lv_has ls 4 [(0, .ref b), (1, .ref (aC 0)), (2, .ref (aR 0)), (3, .int x3)]) : W p l e room_1 s m #[Value.ref b] below meth c' H locs 36 3827 Q (F0 m 696 ls []) := by
  have hA : ∀ q : Nat, s.heap.size ≤ q → (fun q : Nat => s.heap.size ≤ q) q := fun _ h => h
  have hbA : ¬ (fun q : Nat => s.heap.size ≤ q) b := Nat.not_le.mpr hbl
  have hS := rel_s0 hR
  refine lv_aload_n hx hb dL_law_696 rfl (lv_at hl 1 rfl) ?_
  refine lv_aload_n hx hb dL_law_697 rfl (lv_at hl 0 rfl) ?_
  refine lv_iload_n hx hb dL_law_698 rfl (lv_at hl 3 rfl) ?_
  refine lv_iconst (v := (1)) hx hb dL_law_699 (by decide) ?_
  refine lv_iadd hx hb dL_law_700 ?_
  refine va_sld hx hb hX hbl hbA X.2.2 (sc_in h0 h5 1 (by decide) rfl) dL_law_701 ?_
  refine lv_aload_n hx hb dL_law_702 rfl (lv_at hl 0 rfl) ?_
  refine lv_iload_n hx hb dL_law_703 rfl (lv_at hl 3 rfl) ?_
  refine lv_iconst (v := (2)) hx hb dL_law_704 (by decide) ?_
  refine lv_iadd hx hb dL_law_705 ?_
  refine va_sld hx hb hX hbl hbA X.2.2 (sc_in h0 h5 2 (by decide) rfl) dL_law_706 ?_
  refine lv_aload_n hx hb dL_law_707 rfl (lv_at hl 0 rfl) ?_
  refine lv_iload_n hx hb dL_law_708 rfl (lv_at hl 3 rfl) ?_
  refine lv_iconst (v := (3)) hx hb dL_law_709 (by decide) ?_
  refine lv_iadd hx hb dL_law_710 ?_
  refine va_sld hx hb hX hbl hbA X.2.2 (sc_in h0 h5 3 (by decide) rfl) dL_law_711 ?_
  refine callL1R (rest := []) (w1 := wC aC cI cZ) (w2 := wR aR cI cZ) C hA (wC_sh aC cI cZ) X (kX5_value l D aC cI cZ _ (xs (x3 + 1).toNatClampNeg) (xs (x3 + 2).toNatClampNeg) (xs (x3 + 3).toNatClampNeg)) (cwV 3 C.2.2.2.2.1 (gV wl_L_65 wt_yX5_value ws_yX5_value wi_X5 wk_yX5_value) rfl rfl rfl hdX5_value ⟨Nat.le_of_ble_eq_true rfl, Nat.le_of_ble_eq_true rfl⟩) (ci := 5) (q0 := 0) rfl rfl rfl hl.1 rfl (Nat.le_of_ble_eq_true rfl) dL_law_712 ⟨by exact Nat.le_of_ble_eq_true rfl, by exact Nat.le_of_ble_eq_true rfl⟩ (fun H locs X => ?_)
  refine lv_aload_n hx hb dL_law_715 rfl (lv_at hl 2 rfl) ?_
  refine lv_aload_n hx hb dL_law_716 rfl (lv_at hl 0 rfl) ?_
  refine lv_iload_n hx hb dL_law_717 rfl (lv_at hl 3 rfl) ?_
  refine lv_iconst (v := (1)) hx hb dL_law_718 (by decide) ?_
  refine lv_iadd hx hb dL_law_719 ?_
  refine va_sld hx hb hX hbl hbA X.2.2 (sc_in h0 h5 1 (by decide) rfl) dL_law_720 ?_
  refine lv_aload_n hx hb dL_law_721 rfl (lv_at hl 0 rfl) ?_
  refine lv_iload_n hx hb dL_law_722 rfl (lv_at hl 3 rfl) ?_
  refine lv_iconst (v := (2)) hx hb dL_law_723 (by decide) ?_
  refine lv_iadd hx hb dL_law_724 ?_
  refine va_sld hx hb hX hbl hbA X.2.2 (sc_in h0 h5 2 (by decide) rfl) dL_law_725 ?_
  refine lv_aload_n hx hb dL_law_726 rfl (lv_at hl 0 rfl) ?_
  refine lv_iload_n hx hb dL_law_727 rfl (lv_at hl 3 rfl) ?_
  refine lv_iconst (v := (3)) hx hb dL_law_728 (by decide) ?_
  refine lv_iadd hx hb dL_law_729 ?_
  refine va_sld hx hb hX hbl hbA X.2.2 (sc_in h0 h5 3 (by decide) rfl) dL_law_730 ?_
  refine callL2R (rest := [.int (fX5_value c (xs (x3 + 1).toNatClampNeg) (xs (x3 + 2).toNatClampNeg) (xs (x3 + 3).toNatClampNeg)).1]) (w1 := wC aC cI cZ) (w2 := wR aR cI cZ) C hA (wR_sh aR cI cZ) X (kX6_value l D aR cI cZ _ (xs (x3 + 1).toNatClampNeg) (xs (x3 + 2).toNatClampNeg) (xs (x3 + 3).toNatClampNeg) hS) (cwV 3 C.2.2.2.2.1 (gV wl_L_68 wt_yX6_value ws_yX6_value wi_X6 wk_yX6_value) rfl rfl rfl hdX6_value ⟨Nat.le_of_ble_eq_true rfl, Nat.le_of_ble_eq_true rfl⟩) (ci := 6) (q0 := 0) rfl rfl rfl hl.1 rfl (Nat.le_of_ble_eq_true rfl) dL_law_731 ⟨by exact Nat.le_of_ble_eq_true rfl, by exact Nat.le_of_ble_eq_true rfl⟩ (fun H locs X => ?_)
  have hs := sim_value hR (xs (x3 + 1).toNatClampNeg) (xs (x3 + 2).toNatClampNeg) (xs (x3 + 3).toNatClampNeg)
  refine lv_icmp_eq (tgt := 983) hx hb dL_law_734 (by decide) (fun _ => ?_) (fun cz => absurd hs.1 cz)
  refine lv_iinc (v := (x3 + 5)) (lv' := [(3, .int (x3 + 5)), (0, .ref b), (1, .ref (aC 0)), (2, .ref (aR 0))]) hx hb dL_law_983 hl (k := 3) rfl rfl (by decide) rfl (fun ls hl => ?_)
  refine lv_goto (tgt := 18) hx hb dL_law_986 (by decide) ?_
  exact ih (x3 + 5) _ _ hs.2 (sc_nn h0 h5) (sc_ms h0 h5 hn) X ls (lv_sub hl [1, 2, 3, 0] rfl)
set_option maxHeartbeats 1000000 in
set_option maxRecDepth 100000 in
theorem law_case13 {p : Program} {l : Launch} {e : Env} {s : State} {m : MethodId} {below : List Frame} {meth : Method} {c' : Code} {D : va_G} {b L : Nat} {xs : Nat → Int32} (hL : L ≤ 2560) (hx : p.tables.exec = Jvm.exec) (hb : c'.code = cL_law) (hX : va_X b L xs s s.heap) (hbl : b < s.heap.size) {aC aR : Nat → Nat} {cI cZ : ClassId} (C : Cx p s m #[Value.ref b] meth c' cL_law 4 RL D (tyIZ cI cZ)) (n : Nat) (x3 : Int32) (c : CSt) (σ : RSt) (hR : Rel σ c) (h0 : 0 ≤ x3.toInt) (hn : (L : Int) + 1 ≤ x3.toInt + (n + 1 : Nat)) (h5 : x3.toInt + 5 ≤ L) {Q : State → Prop} (ih : ∀ (x3 : Int32) (c : CSt) (σ : RSt), Rel σ c → 0 ≤ x3.toInt → (L : Int) + 1 ≤ x3.toInt + n → ∀ {H : Heap} {locs : List Loc}, Sx (fun q : Nat => s.heap.size ≤ q) D (wC aC cI cZ c ++ wR aR cI cZ σ) s H locs → ∀ (ls : Array Slot), lv_has ls 4 [(0, .ref b), (1, .ref (aC 0)), (2, .ref (aR 0)), (3, .int x3)] → W p l e room_1 s m #[Value.ref b] below meth c' H locs 36 3827 Q (F0 m 18 ls []))
    {H : Heap} {locs : List Loc} (X : Sx (fun q : Nat => s.heap.size ≤ q) D (wC aC cI cZ c ++ wR aR cI cZ σ) s H locs) (ls : Array Slot) (hl : lv_has ls 4 [(0, .ref b), (1, .ref (aC 0)), (2, .ref (aR 0)), (3, .int x3)]) : W p l e room_1 s m #[Value.ref b] below meth c' H locs 36 3827 Q (F0 m 739 ls []) := by
  have hA : ∀ q : Nat, s.heap.size ≤ q → (fun q : Nat => s.heap.size ≤ q) q := fun _ h => h
  have hbA : ¬ (fun q : Nat => s.heap.size ≤ q) b := Nat.not_le.mpr hbl
  have hS := rel_s0 hR
  refine lv_aload_n hx hb dL_law_739 rfl (lv_at hl 1 rfl) ?_
  refine lv_aload_n hx hb dL_law_740 rfl (lv_at hl 0 rfl) ?_
  refine lv_iload_n hx hb dL_law_741 rfl (lv_at hl 3 rfl) ?_
  refine lv_iconst (v := (1)) hx hb dL_law_742 (by decide) ?_
  refine lv_iadd hx hb dL_law_743 ?_
  refine va_sld hx hb hX hbl hbA X.2.2 (sc_in h0 h5 1 (by decide) rfl) dL_law_744 ?_
  refine lv_aload_n hx hb dL_law_745 rfl (lv_at hl 0 rfl) ?_
  refine lv_iload_n hx hb dL_law_746 rfl (lv_at hl 3 rfl) ?_
  refine lv_iconst (v := (2)) hx hb dL_law_747 (by decide) ?_
  refine lv_iadd hx hb dL_law_748 ?_
  refine va_sld hx hb hX hbl hbA X.2.2 (sc_in h0 h5 2 (by decide) rfl) dL_law_749 ?_
  refine callL1R (rest := []) (w1 := wC aC cI cZ) (w2 := wR aR cI cZ) C hA (wC_sh aC cI cZ) X (kX5_wish l D aC cI cZ _ (xs (x3 + 1).toNatClampNeg) (xs (x3 + 2).toNatClampNeg)) (cwV 2 C.2.2.2.2.1 (gV wl_L_69 wt_yX5_wish ws_yX5_wish wi_X5 wk_yX5_wish) rfl rfl rfl hdX5_wish ⟨Nat.le_of_ble_eq_true rfl, Nat.le_of_ble_eq_true rfl⟩) (ci := 5) (q0 := 0) rfl rfl rfl hl.1 rfl (Nat.le_of_ble_eq_true rfl) dL_law_750 ⟨by exact Nat.le_of_ble_eq_true rfl, by exact Nat.le_of_ble_eq_true rfl⟩ (fun H locs X => ?_)
  refine lv_aload_n hx hb dL_law_753 rfl (lv_at hl 2 rfl) ?_
  refine lv_aload_n hx hb dL_law_754 rfl (lv_at hl 0 rfl) ?_
  refine lv_iload_n hx hb dL_law_755 rfl (lv_at hl 3 rfl) ?_
  refine lv_iconst (v := (1)) hx hb dL_law_756 (by decide) ?_
  refine lv_iadd hx hb dL_law_757 ?_
  refine va_sld hx hb hX hbl hbA X.2.2 (sc_in h0 h5 1 (by decide) rfl) dL_law_758 ?_
  refine lv_aload_n hx hb dL_law_759 rfl (lv_at hl 0 rfl) ?_
  refine lv_iload_n hx hb dL_law_760 rfl (lv_at hl 3 rfl) ?_
  refine lv_iconst (v := (2)) hx hb dL_law_761 (by decide) ?_
  refine lv_iadd hx hb dL_law_762 ?_
  refine va_sld hx hb hX hbl hbA X.2.2 (sc_in h0 h5 2 (by decide) rfl) dL_law_763 ?_
  refine callL2R (rest := [.int (fX5_wish c (xs (x3 + 1).toNatClampNeg) (xs (x3 + 2).toNatClampNeg)).1]) (w1 := wC aC cI cZ) (w2 := wR aR cI cZ) C hA (wR_sh aR cI cZ) X (kX6_wish l D aR cI cZ _ (xs (x3 + 1).toNatClampNeg) (xs (x3 + 2).toNatClampNeg) hS) (cwV 2 C.2.2.2.2.1 (gV wl_L_72 wt_yX6_wish ws_yX6_wish wi_X6 wk_yX6_wish) rfl rfl rfl hdX6_wish ⟨Nat.le_of_ble_eq_true rfl, Nat.le_of_ble_eq_true rfl⟩) (ci := 6) (q0 := 0) rfl rfl rfl hl.1 rfl (Nat.le_of_ble_eq_true rfl) dL_law_764 ⟨by exact Nat.le_of_ble_eq_true rfl, by exact Nat.le_of_ble_eq_true rfl⟩ (fun H locs X => ?_)
  have hs := sim_wish hR (xs (x3 + 1).toNatClampNeg) (xs (x3 + 2).toNatClampNeg)
  refine lv_icmp_eq (tgt := 983) hx hb dL_law_767 (by decide) (fun _ => ?_) (fun cz => absurd hs.1 cz)
  refine lv_iinc (v := (x3 + 5)) (lv' := [(3, .int (x3 + 5)), (0, .ref b), (1, .ref (aC 0)), (2, .ref (aR 0))]) hx hb dL_law_983 hl (k := 3) rfl rfl (by decide) rfl (fun ls hl => ?_)
  refine lv_goto (tgt := 18) hx hb dL_law_986 (by decide) ?_
  exact ih (x3 + 5) _ _ hs.2 (sc_nn h0 h5) (sc_ms h0 h5 hn) X ls (lv_sub hl [1, 2, 3, 0] rfl)
set_option maxHeartbeats 1000000 in
set_option maxRecDepth 100000 in
theorem law_case14 {p : Program} {l : Launch} {e : Env} {s : State} {m : MethodId} {below : List Frame} {meth : Method} {c' : Code} {D : va_G} {b L : Nat} {xs : Nat → Int32} (hL : L ≤ 2560) (hx : p.tables.exec = Jvm.exec) (hb : c'.code = cL_law) (hX : va_X b L xs s s.heap) (hbl : b < s.heap.size) {aC aR : Nat → Nat} {cI cZ : ClassId} (C : Cx p s m #[Value.ref b] meth c' cL_law 4 RL D (tyIZ cI cZ)) (n : Nat) (x3 : Int32) (c : CSt) (σ : RSt) (hR : Rel σ c) (h0 : 0 ≤ x3.toInt) (hn : (L : Int) + 1 ≤ x3.toInt + (n + 1 : Nat)) (h5 : x3.toInt + 5 ≤ L) {Q : State → Prop} (ih : ∀ (x3 : Int32) (c : CSt) (σ : RSt), Rel σ c → 0 ≤ x3.toInt → (L : Int) + 1 ≤ x3.toInt + n → ∀ {H : Heap} {locs : List Loc}, Sx (fun q : Nat => s.heap.size ≤ q) D (wC aC cI cZ c ++ wR aR cI cZ σ) s H locs → ∀ (ls : Array Slot), lv_has ls 4 [(0, .ref b), (1, .ref (aC 0)), (2, .ref (aR 0)), (3, .int x3)] → W p l e room_1 s m #[Value.ref b] below meth c' H locs 36 3827 Q (F0 m 18 ls []))
    {H : Heap} {locs : List Loc} (X : Sx (fun q : Nat => s.heap.size ≤ q) D (wC aC cI cZ c ++ wR aR cI cZ σ) s H locs) (ls : Array Slot) (hl : lv_has ls 4 [(0, .ref b), (1, .ref (aC 0)), (2, .ref (aR 0)), (3, .int x3)]) : W p l e room_1 s m #[Value.ref b] below meth c' H locs 36 3827 Q (F0 m 772 ls []) := by
  have hA : ∀ q : Nat, s.heap.size ≤ q → (fun q : Nat => s.heap.size ≤ q) q := fun _ h => h
  have hbA : ¬ (fun q : Nat => s.heap.size ≤ q) b := Nat.not_le.mpr hbl
  have hS := rel_s0 hR
  refine lv_aload_n hx hb dL_law_772 rfl (lv_at hl 1 rfl) ?_
  refine callL1R (rest := []) (w1 := wC aC cI cZ) (w2 := wR aR cI cZ) C hA (wC_sh aC cI cZ) X (kX5_begin l D aC cI cZ _ ) (cwV 0 C.2.2.2.2.1 (gV wl_L_73 wt_yX5_begin ws_yX5_begin wi_X5 wk_yX5_begin) rfl rfl rfl hdX5_begin ⟨Nat.le_of_ble_eq_true rfl, Nat.le_of_ble_eq_true rfl⟩) (ci := 5) (q0 := 0) rfl rfl rfl hl.1 rfl (Nat.le_of_ble_eq_true rfl) dL_law_773 ⟨by exact Nat.le_of_ble_eq_true rfl, by exact Nat.le_of_ble_eq_true rfl⟩ (fun H locs X => ?_)
  refine lv_aload_n hx hb dL_law_776 rfl (lv_at hl 2 rfl) ?_
  refine callL2R (rest := [.int (fX5_begin c).1]) (w1 := wC aC cI cZ) (w2 := wR aR cI cZ) C hA (wR_sh aR cI cZ) X (kX6_begin l D aR cI cZ _  hS) (cwV 0 C.2.2.2.2.1 (gV wl_L_77 wt_yX6_begin ws_yX6_begin wi_X6 wk_yX6_begin) rfl rfl rfl hdX6_begin ⟨Nat.le_of_ble_eq_true rfl, Nat.le_of_ble_eq_true rfl⟩) (ci := 6) (q0 := 0) rfl rfl rfl hl.1 rfl (Nat.le_of_ble_eq_true rfl) dL_law_777 ⟨by exact Nat.le_of_ble_eq_true rfl, by exact Nat.le_of_ble_eq_true rfl⟩ (fun H locs X => ?_)
  have hs := sim_begin hR
  refine lv_icmp_eq (tgt := 983) hx hb dL_law_780 (by decide) (fun _ => ?_) (fun cz => absurd hs.1 cz)
  refine lv_iinc (v := (x3 + 5)) (lv' := [(3, .int (x3 + 5)), (0, .ref b), (1, .ref (aC 0)), (2, .ref (aR 0))]) hx hb dL_law_983 hl (k := 3) rfl rfl (by decide) rfl (fun ls hl => ?_)
  refine lv_goto (tgt := 18) hx hb dL_law_986 (by decide) ?_
  exact ih (x3 + 5) _ _ hs.2 (sc_nn h0 h5) (sc_ms h0 h5 hn) X ls (lv_sub hl [1, 2, 3, 0] rfl)
set_option maxHeartbeats 1000000 in
set_option maxRecDepth 100000 in
theorem law_case15 {p : Program} {l : Launch} {e : Env} {s : State} {m : MethodId} {below : List Frame} {meth : Method} {c' : Code} {D : va_G} {b L : Nat} {xs : Nat → Int32} (hL : L ≤ 2560) (hx : p.tables.exec = Jvm.exec) (hb : c'.code = cL_law) (hX : va_X b L xs s s.heap) (hbl : b < s.heap.size) {aC aR : Nat → Nat} {cI cZ : ClassId} (C : Cx p s m #[Value.ref b] meth c' cL_law 4 RL D (tyIZ cI cZ)) (n : Nat) (x3 : Int32) (c : CSt) (σ : RSt) (hR : Rel σ c) (h0 : 0 ≤ x3.toInt) (hn : (L : Int) + 1 ≤ x3.toInt + (n + 1 : Nat)) (h5 : x3.toInt + 5 ≤ L) {Q : State → Prop} (ih : ∀ (x3 : Int32) (c : CSt) (σ : RSt), Rel σ c → 0 ≤ x3.toInt → (L : Int) + 1 ≤ x3.toInt + n → ∀ {H : Heap} {locs : List Loc}, Sx (fun q : Nat => s.heap.size ≤ q) D (wC aC cI cZ c ++ wR aR cI cZ σ) s H locs → ∀ (ls : Array Slot), lv_has ls 4 [(0, .ref b), (1, .ref (aC 0)), (2, .ref (aR 0)), (3, .int x3)] → W p l e room_1 s m #[Value.ref b] below meth c' H locs 36 3827 Q (F0 m 18 ls []))
    {H : Heap} {locs : List Loc} (X : Sx (fun q : Nat => s.heap.size ≤ q) D (wC aC cI cZ c ++ wR aR cI cZ σ) s H locs) (ls : Array Slot) (hl : lv_has ls 4 [(0, .ref b), (1, .ref (aC 0)), (2, .ref (aR 0)), (3, .int x3)]) : W p l e room_1 s m #[Value.ref b] below meth c' H locs 36 3827 Q (F0 m 785 ls []) := by
  have hA : ∀ q : Nat, s.heap.size ≤ q → (fun q : Nat => s.heap.size ≤ q) q := fun _ h => h
  have hbA : ¬ (fun q : Nat => s.heap.size ≤ q) b := Nat.not_le.mpr hbl
  have hS := rel_s0 hR
  refine lv_aload_n hx hb dL_law_785 rfl (lv_at hl 1 rfl) ?_
  refine lv_aload_n hx hb dL_law_786 rfl (lv_at hl 0 rfl) ?_
  refine lv_iload_n hx hb dL_law_787 rfl (lv_at hl 3 rfl) ?_
  refine lv_iconst (v := (1)) hx hb dL_law_788 (by decide) ?_
  refine lv_iadd hx hb dL_law_789 ?_
  refine va_sld hx hb hX hbl hbA X.2.2 (sc_in h0 h5 1 (by decide) rfl) dL_law_790 ?_
  refine callL1R (rest := []) (w1 := wC aC cI cZ) (w2 := wR aR cI cZ) C hA (wC_sh aC cI cZ) X (kX5_sweep l D aC cI cZ _ (xs (x3 + 1).toNatClampNeg)) (cwV 1 C.2.2.2.2.1 (gV wl_L_78 wt_yX5_sweep ws_yX5_sweep wi_X5 wk_yX5_sweep) rfl rfl rfl hdX5_sweep ⟨Nat.le_of_ble_eq_true rfl, Nat.le_of_ble_eq_true rfl⟩) (ci := 5) (q0 := 0) rfl rfl rfl hl.1 rfl (Nat.le_of_ble_eq_true rfl) dL_law_791 ⟨by exact Nat.le_of_ble_eq_true rfl, by exact Nat.le_of_ble_eq_true rfl⟩ (fun H locs X => ?_)
  refine lv_aload_n hx hb dL_law_794 rfl (lv_at hl 2 rfl) ?_
  refine lv_aload_n hx hb dL_law_795 rfl (lv_at hl 0 rfl) ?_
  refine lv_iload_n hx hb dL_law_796 rfl (lv_at hl 3 rfl) ?_
  refine lv_iconst (v := (1)) hx hb dL_law_797 (by decide) ?_
  refine lv_iadd hx hb dL_law_798 ?_
  refine va_sld hx hb hX hbl hbA X.2.2 (sc_in h0 h5 1 (by decide) rfl) dL_law_799 ?_
  refine callL2R (rest := [.int (fX5_sweep c (xs (x3 + 1).toNatClampNeg)).1]) (w1 := wC aC cI cZ) (w2 := wR aR cI cZ) C hA (wR_sh aR cI cZ) X (kX6_sweep l D aR cI cZ _ (xs (x3 + 1).toNatClampNeg) hS) (cwV 1 C.2.2.2.2.1 (gV wl_L_82 wt_yX6_sweep ws_yX6_sweep wi_X6 wk_yX6_sweep) rfl rfl rfl hdX6_sweep ⟨Nat.le_of_ble_eq_true rfl, Nat.le_of_ble_eq_true rfl⟩) (ci := 6) (q0 := 0) rfl rfl rfl hl.1 rfl (Nat.le_of_ble_eq_true rfl) dL_law_800 ⟨by exact Nat.le_of_ble_eq_true rfl, by exact Nat.le_of_ble_eq_true rfl⟩ (fun H locs X => ?_)
  have hs := sim_sweep hR (xs (x3 + 1).toNatClampNeg)
  refine lv_icmp_eq (tgt := 983) hx hb dL_law_803 (by decide) (fun _ => ?_) (fun cz => absurd hs.1 cz)
  refine lv_iinc (v := (x3 + 5)) (lv' := [(3, .int (x3 + 5)), (0, .ref b), (1, .ref (aC 0)), (2, .ref (aR 0))]) hx hb dL_law_983 hl (k := 3) rfl rfl (by decide) rfl (fun ls hl => ?_)
  refine lv_goto (tgt := 18) hx hb dL_law_986 (by decide) ?_
  exact ih (x3 + 5) _ _ hs.2 (sc_nn h0 h5) (sc_ms h0 h5 hn) X ls (lv_sub hl [1, 2, 3, 0] rfl)
set_option maxHeartbeats 1000000 in
set_option maxRecDepth 100000 in
theorem law_case16 {p : Program} {l : Launch} {e : Env} {s : State} {m : MethodId} {below : List Frame} {meth : Method} {c' : Code} {D : va_G} {b L : Nat} {xs : Nat → Int32} (hL : L ≤ 2560) (hx : p.tables.exec = Jvm.exec) (hb : c'.code = cL_law) (hX : va_X b L xs s s.heap) (hbl : b < s.heap.size) {aC aR : Nat → Nat} {cI cZ : ClassId} (C : Cx p s m #[Value.ref b] meth c' cL_law 4 RL D (tyIZ cI cZ)) (n : Nat) (x3 : Int32) (c : CSt) (σ : RSt) (hR : Rel σ c) (h0 : 0 ≤ x3.toInt) (hn : (L : Int) + 1 ≤ x3.toInt + (n + 1 : Nat)) (h5 : x3.toInt + 5 ≤ L) {Q : State → Prop} (ih : ∀ (x3 : Int32) (c : CSt) (σ : RSt), Rel σ c → 0 ≤ x3.toInt → (L : Int) + 1 ≤ x3.toInt + n → ∀ {H : Heap} {locs : List Loc}, Sx (fun q : Nat => s.heap.size ≤ q) D (wC aC cI cZ c ++ wR aR cI cZ σ) s H locs → ∀ (ls : Array Slot), lv_has ls 4 [(0, .ref b), (1, .ref (aC 0)), (2, .ref (aR 0)), (3, .int x3)] → W p l e room_1 s m #[Value.ref b] below meth c' H locs 36 3827 Q (F0 m 18 ls []))
    {H : Heap} {locs : List Loc} (X : Sx (fun q : Nat => s.heap.size ≤ q) D (wC aC cI cZ c ++ wR aR cI cZ σ) s H locs) (ls : Array Slot) (hl : lv_has ls 4 [(0, .ref b), (1, .ref (aC 0)), (2, .ref (aR 0)), (3, .int x3)]) : W p l e room_1 s m #[Value.ref b] below meth c' H locs 36 3827 Q (F0 m 808 ls []) := by
  have hA : ∀ q : Nat, s.heap.size ≤ q → (fun q : Nat => s.heap.size ≤ q) q := fun _ h => h
  have hbA : ¬ (fun q : Nat => s.heap.size ≤ q) b := Nat.not_le.mpr hbl
  have hS := rel_s0 hR
  refine lv_aload_n hx hb dL_law_808 rfl (lv_at hl 1 rfl) ?_
  refine callL1R (rest := []) (w1 := wC aC cI cZ) (w2 := wR aR cI cZ) C hA (wC_sh aC cI cZ) X (kX5_under l D aC cI cZ _ ) (cwV 0 C.2.2.2.2.1 (gV wl_L_83 wt_yX5_under ws_yX5_under wi_X5 wk_yX5_under) rfl rfl rfl hdX5_under ⟨Nat.le_of_ble_eq_true rfl, Nat.le_of_ble_eq_true rfl⟩) (ci := 5) (q0 := 0) rfl rfl rfl hl.1 rfl (Nat.le_of_ble_eq_true rfl) dL_law_809 ⟨by exact Nat.le_of_ble_eq_true rfl, by exact Nat.le_of_ble_eq_true rfl⟩ (fun H locs X => ?_)
  refine lv_aload_n hx hb dL_law_812 rfl (lv_at hl 2 rfl) ?_
  refine callL2R (rest := [.int (fX5_under c)]) (w1 := wC aC cI cZ) (w2 := wR aR cI cZ) C hA (wR_sh aR cI cZ) X (kX6_under l D aR cI cZ _ ) (cwV 0 C.2.2.2.2.1 (gV wl_L_86 wt_yX6_under ws_yX6_under wi_X6 wk_yX6_under) rfl rfl rfl hdX6_under ⟨Nat.le_of_ble_eq_true rfl, Nat.le_of_ble_eq_true rfl⟩) (ci := 6) (q0 := 0) rfl rfl rfl hl.1 rfl (Nat.le_of_ble_eq_true rfl) dL_law_813 ⟨by exact Nat.le_of_ble_eq_true rfl, by exact Nat.le_of_ble_eq_true rfl⟩ (fun H locs X => ?_)
  have hs := sim_under hR
  refine lv_icmp_eq (tgt := 983) hx hb dL_law_816 (by decide) (fun _ => ?_) (fun cz => absurd hs.1 cz)
  refine lv_iinc (v := (x3 + 5)) (lv' := [(3, .int (x3 + 5)), (0, .ref b), (1, .ref (aC 0)), (2, .ref (aR 0))]) hx hb dL_law_983 hl (k := 3) rfl rfl (by decide) rfl (fun ls hl => ?_)
  refine lv_goto (tgt := 18) hx hb dL_law_986 (by decide) ?_
  exact ih (x3 + 5) _ _ hs.2 (sc_nn h0 h5) (sc_ms h0 h5 hn) X ls (lv_sub hl [1, 2, 3, 0] rfl)
set_option maxHeartbeats 1000000 in
set_option maxRecDepth 100000 in
theorem law_case17 {p : Program} {l : Launch} {e : Env} {s : State} {m : MethodId} {below : List Frame} {meth : Method} {c' : Code} {D : va_G} {b L : Nat} {xs : Nat → Int32} (hL : L ≤ 2560) (hx : p.tables.exec = Jvm.exec) (hb : c'.code = cL_law) (hX : va_X b L xs s s.heap) (hbl : b < s.heap.size) {aC aR : Nat → Nat} {cI cZ : ClassId} (C : Cx p s m #[Value.ref b] meth c' cL_law 4 RL D (tyIZ cI cZ)) (n : Nat) (x3 : Int32) (c : CSt) (σ : RSt) (hR : Rel σ c) (h0 : 0 ≤ x3.toInt) (hn : (L : Int) + 1 ≤ x3.toInt + (n + 1 : Nat)) (h5 : x3.toInt + 5 ≤ L) {Q : State → Prop} (ih : ∀ (x3 : Int32) (c : CSt) (σ : RSt), Rel σ c → 0 ≤ x3.toInt → (L : Int) + 1 ≤ x3.toInt + n → ∀ {H : Heap} {locs : List Loc}, Sx (fun q : Nat => s.heap.size ≤ q) D (wC aC cI cZ c ++ wR aR cI cZ σ) s H locs → ∀ (ls : Array Slot), lv_has ls 4 [(0, .ref b), (1, .ref (aC 0)), (2, .ref (aR 0)), (3, .int x3)] → W p l e room_1 s m #[Value.ref b] below meth c' H locs 36 3827 Q (F0 m 18 ls []))
    {H : Heap} {locs : List Loc} (X : Sx (fun q : Nat => s.heap.size ≤ q) D (wC aC cI cZ c ++ wR aR cI cZ σ) s H locs) (ls : Array Slot) (hl : lv_has ls 4 [(0, .ref b), (1, .ref (aC 0)), (2, .ref (aR 0)), (3, .int x3)]) : W p l e room_1 s m #[Value.ref b] below meth c' H locs 36 3827 Q (F0 m 821 ls []) := by
  have hA : ∀ q : Nat, s.heap.size ≤ q → (fun q : Nat => s.heap.size ≤ q) q := fun _ h => h
  have hbA : ¬ (fun q : Nat => s.heap.size ≤ q) b := Nat.not_le.mpr hbl
  have hS := rel_s0 hR
  refine lv_aload_n hx hb dL_law_821 rfl (lv_at hl 1 rfl) ?_
  refine lv_aload_n hx hb dL_law_822 rfl (lv_at hl 0 rfl) ?_
  refine lv_iload_n hx hb dL_law_823 rfl (lv_at hl 3 rfl) ?_
  refine lv_iconst (v := (1)) hx hb dL_law_824 (by decide) ?_
  refine lv_iadd hx hb dL_law_825 ?_
  refine va_sld hx hb hX hbl hbA X.2.2 (sc_in h0 h5 1 (by decide) rfl) dL_law_826 ?_
  refine lv_aload_n hx hb dL_law_827 rfl (lv_at hl 0 rfl) ?_
  refine lv_iload_n hx hb dL_law_828 rfl (lv_at hl 3 rfl) ?_
  refine lv_iconst (v := (2)) hx hb dL_law_829 (by decide) ?_
  refine lv_iadd hx hb dL_law_830 ?_
  refine va_sld hx hb hX hbl hbA X.2.2 (sc_in h0 h5 2 (by decide) rfl) dL_law_831 ?_
  refine callL1R (rest := []) (w1 := wC aC cI cZ) (w2 := wR aR cI cZ) C hA (wC_sh aC cI cZ) X (kX5_about l D aC cI cZ _ (xs (x3 + 1).toNatClampNeg) (xs (x3 + 2).toNatClampNeg)) (cwV 2 C.2.2.2.2.1 (gV wl_L_87 wt_yX5_about ws_yX5_about wi_X5 wk_yX5_about) rfl rfl rfl hdX5_about ⟨Nat.le_of_ble_eq_true rfl, Nat.le_of_ble_eq_true rfl⟩) (ci := 5) (q0 := 0) rfl rfl rfl hl.1 rfl (Nat.le_of_ble_eq_true rfl) dL_law_832 ⟨by exact Nat.le_of_ble_eq_true rfl, by exact Nat.le_of_ble_eq_true rfl⟩ (fun H locs X => ?_)
  refine lv_aload_n hx hb dL_law_835 rfl (lv_at hl 2 rfl) ?_
  refine lv_aload_n hx hb dL_law_836 rfl (lv_at hl 0 rfl) ?_
  refine lv_iload_n hx hb dL_law_837 rfl (lv_at hl 3 rfl) ?_
  refine lv_iconst (v := (1)) hx hb dL_law_838 (by decide) ?_
  refine lv_iadd hx hb dL_law_839 ?_
  refine va_sld hx hb hX hbl hbA X.2.2 (sc_in h0 h5 1 (by decide) rfl) dL_law_840 ?_
  refine lv_aload_n hx hb dL_law_841 rfl (lv_at hl 0 rfl) ?_
  refine lv_iload_n hx hb dL_law_842 rfl (lv_at hl 3 rfl) ?_
  refine lv_iconst (v := (2)) hx hb dL_law_843 (by decide) ?_
  refine lv_iadd hx hb dL_law_844 ?_
  refine va_sld hx hb hX hbl hbA X.2.2 (sc_in h0 h5 2 (by decide) rfl) dL_law_845 ?_
  refine callL2R (rest := [.int (fX5_about c (xs (x3 + 1).toNatClampNeg) (xs (x3 + 2).toNatClampNeg)).1]) (w1 := wC aC cI cZ) (w2 := wR aR cI cZ) C hA (wR_sh aR cI cZ) X (kX6_about l D aR cI cZ _ (xs (x3 + 1).toNatClampNeg) (xs (x3 + 2).toNatClampNeg) hS) (cwV 2 C.2.2.2.2.1 (gV wl_L_90 wt_yX6_about ws_yX6_about wi_X6 wk_yX6_about) rfl rfl rfl hdX6_about ⟨Nat.le_of_ble_eq_true rfl, Nat.le_of_ble_eq_true rfl⟩) (ci := 6) (q0 := 0) rfl rfl rfl hl.1 rfl (Nat.le_of_ble_eq_true rfl) dL_law_846 ⟨by exact Nat.le_of_ble_eq_true rfl, by exact Nat.le_of_ble_eq_true rfl⟩ (fun H locs X => ?_)
  have hs := sim_about hR (xs (x3 + 1).toNatClampNeg) (xs (x3 + 2).toNatClampNeg)
  refine lv_icmp_eq (tgt := 983) hx hb dL_law_849 (by decide) (fun _ => ?_) (fun cz => absurd hs.1 cz)
  refine lv_iinc (v := (x3 + 5)) (lv' := [(3, .int (x3 + 5)), (0, .ref b), (1, .ref (aC 0)), (2, .ref (aR 0))]) hx hb dL_law_983 hl (k := 3) rfl rfl (by decide) rfl (fun ls hl => ?_)
  refine lv_goto (tgt := 18) hx hb dL_law_986 (by decide) ?_
  exact ih (x3 + 5) _ _ hs.2 (sc_nn h0 h5) (sc_ms h0 h5 hn) X ls (lv_sub hl [1, 2, 3, 0] rfl)
set_option maxHeartbeats 1000000 in
set_option maxRecDepth 100000 in
theorem law_case18 {p : Program} {l : Launch} {e : Env} {s : State} {m : MethodId} {below : List Frame} {meth : Method} {c' : Code} {D : va_G} {b L : Nat} {xs : Nat → Int32} (hL : L ≤ 2560) (hx : p.tables.exec = Jvm.exec) (hb : c'.code = cL_law) (hX : va_X b L xs s s.heap) (hbl : b < s.heap.size) {aC aR : Nat → Nat} {cI cZ : ClassId} (C : Cx p s m #[Value.ref b] meth c' cL_law 4 RL D (tyIZ cI cZ)) (n : Nat) (x3 : Int32) (c : CSt) (σ : RSt) (hR : Rel σ c) (h0 : 0 ≤ x3.toInt) (hn : (L : Int) + 1 ≤ x3.toInt + (n + 1 : Nat)) (h5 : x3.toInt + 5 ≤ L) {Q : State → Prop} (ih : ∀ (x3 : Int32) (c : CSt) (σ : RSt), Rel σ c → 0 ≤ x3.toInt → (L : Int) + 1 ≤ x3.toInt + n → ∀ {H : Heap} {locs : List Loc}, Sx (fun q : Nat => s.heap.size ≤ q) D (wC aC cI cZ c ++ wR aR cI cZ σ) s H locs → ∀ (ls : Array Slot), lv_has ls 4 [(0, .ref b), (1, .ref (aC 0)), (2, .ref (aR 0)), (3, .int x3)] → W p l e room_1 s m #[Value.ref b] below meth c' H locs 36 3827 Q (F0 m 18 ls []))
    {H : Heap} {locs : List Loc} (X : Sx (fun q : Nat => s.heap.size ≤ q) D (wC aC cI cZ c ++ wR aR cI cZ σ) s H locs) (ls : Array Slot) (hl : lv_has ls 4 [(0, .ref b), (1, .ref (aC 0)), (2, .ref (aR 0)), (3, .int x3)]) : W p l e room_1 s m #[Value.ref b] below meth c' H locs 36 3827 Q (F0 m 854 ls []) := by
  have hA : ∀ q : Nat, s.heap.size ≤ q → (fun q : Nat => s.heap.size ≤ q) q := fun _ h => h
  have hbA : ¬ (fun q : Nat => s.heap.size ≤ q) b := Nat.not_le.mpr hbl
  have hS := rel_s0 hR
  refine lv_aload_n hx hb dL_law_854 rfl (lv_at hl 1 rfl) ?_
  refine lv_aload_n hx hb dL_law_855 rfl (lv_at hl 0 rfl) ?_
  refine lv_iload_n hx hb dL_law_856 rfl (lv_at hl 3 rfl) ?_
  refine lv_iconst (v := (1)) hx hb dL_law_857 (by decide) ?_
  refine lv_iadd hx hb dL_law_858 ?_
  refine va_sld hx hb hX hbl hbA X.2.2 (sc_in h0 h5 1 (by decide) rfl) dL_law_859 ?_
  refine lv_aload_n hx hb dL_law_860 rfl (lv_at hl 0 rfl) ?_
  refine lv_iload_n hx hb dL_law_861 rfl (lv_at hl 3 rfl) ?_
  refine lv_iconst (v := (2)) hx hb dL_law_862 (by decide) ?_
  refine lv_iadd hx hb dL_law_863 ?_
  refine va_sld hx hb hX hbl hbA X.2.2 (sc_in h0 h5 2 (by decide) rfl) dL_law_864 ?_
  refine callL1R (rest := []) (w1 := wC aC cI cZ) (w2 := wR aR cI cZ) C hA (wC_sh aC cI cZ) X (kX5_field l D aC cI cZ _ (xs (x3 + 1).toNatClampNeg) (xs (x3 + 2).toNatClampNeg)) (cwV 2 C.2.2.2.2.1 (gV wl_L_91 wt_yX5_field ws_yX5_field wi_X5 wk_yX5_field) rfl rfl rfl hdX5_field ⟨Nat.le_of_ble_eq_true rfl, Nat.le_of_ble_eq_true rfl⟩) (ci := 5) (q0 := 0) rfl rfl rfl hl.1 rfl (Nat.le_of_ble_eq_true rfl) dL_law_865 ⟨by exact Nat.le_of_ble_eq_true rfl, by exact Nat.le_of_ble_eq_true rfl⟩ (fun H locs X => ?_)
  refine lv_aload_n hx hb dL_law_868 rfl (lv_at hl 2 rfl) ?_
  refine lv_aload_n hx hb dL_law_869 rfl (lv_at hl 0 rfl) ?_
  refine lv_iload_n hx hb dL_law_870 rfl (lv_at hl 3 rfl) ?_
  refine lv_iconst (v := (1)) hx hb dL_law_871 (by decide) ?_
  refine lv_iadd hx hb dL_law_872 ?_
  refine va_sld hx hb hX hbl hbA X.2.2 (sc_in h0 h5 1 (by decide) rfl) dL_law_873 ?_
  refine lv_aload_n hx hb dL_law_874 rfl (lv_at hl 0 rfl) ?_
  refine lv_iload_n hx hb dL_law_875 rfl (lv_at hl 3 rfl) ?_
  refine lv_iconst (v := (2)) hx hb dL_law_876 (by decide) ?_
  refine lv_iadd hx hb dL_law_877 ?_
  refine va_sld hx hb hX hbl hbA X.2.2 (sc_in h0 h5 2 (by decide) rfl) dL_law_878 ?_
  refine callL2R (rest := [.int (fX5_field c (xs (x3 + 1).toNatClampNeg) (xs (x3 + 2).toNatClampNeg))]) (w1 := wC aC cI cZ) (w2 := wR aR cI cZ) C hA (wR_sh aR cI cZ) X (kX6_field l D aR cI cZ _ (xs (x3 + 1).toNatClampNeg) (xs (x3 + 2).toNatClampNeg) hS) (cwV 2 C.2.2.2.2.1 (gV wl_L_94 wt_yX6_field ws_yX6_field wi_X6 wk_yX6_field) rfl rfl rfl hdX6_field ⟨Nat.le_of_ble_eq_true rfl, Nat.le_of_ble_eq_true rfl⟩) (ci := 6) (q0 := 0) rfl rfl rfl hl.1 rfl (Nat.le_of_ble_eq_true rfl) dL_law_879 ⟨by exact Nat.le_of_ble_eq_true rfl, by exact Nat.le_of_ble_eq_true rfl⟩ (fun H locs X => ?_)
  have hs := sim_field hR (xs (x3 + 1).toNatClampNeg) (xs (x3 + 2).toNatClampNeg)
  refine lv_icmp_eq (tgt := 983) hx hb dL_law_882 (by decide) (fun _ => ?_) (fun cz => absurd hs.1 cz)
  refine lv_iinc (v := (x3 + 5)) (lv' := [(3, .int (x3 + 5)), (0, .ref b), (1, .ref (aC 0)), (2, .ref (aR 0))]) hx hb dL_law_983 hl (k := 3) rfl rfl (by decide) rfl (fun ls hl => ?_)
  refine lv_goto (tgt := 18) hx hb dL_law_986 (by decide) ?_
  exact ih (x3 + 5) _ _ hs.2 (sc_nn h0 h5) (sc_ms h0 h5 hn) X ls (lv_sub hl [1, 2, 3, 0] rfl)
set_option maxHeartbeats 1000000 in
set_option maxRecDepth 100000 in
theorem law_case19 {p : Program} {l : Launch} {e : Env} {s : State} {m : MethodId} {below : List Frame} {meth : Method} {c' : Code} {D : va_G} {b L : Nat} {xs : Nat → Int32} (hL : L ≤ 2560) (hx : p.tables.exec = Jvm.exec) (hb : c'.code = cL_law) (hX : va_X b L xs s s.heap) (hbl : b < s.heap.size) {aC aR : Nat → Nat} {cI cZ : ClassId} (C : Cx p s m #[Value.ref b] meth c' cL_law 4 RL D (tyIZ cI cZ)) (n : Nat) (x3 : Int32) (c : CSt) (σ : RSt) (hR : Rel σ c) (h0 : 0 ≤ x3.toInt) (hn : (L : Int) + 1 ≤ x3.toInt + (n + 1 : Nat)) (h5 : x3.toInt + 5 ≤ L) {Q : State → Prop} (ih : ∀ (x3 : Int32) (c : CSt) (σ : RSt), Rel σ c → 0 ≤ x3.toInt → (L : Int) + 1 ≤ x3.toInt + n → ∀ {H : Heap} {locs : List Loc}, Sx (fun q : Nat => s.heap.size ≤ q) D (wC aC cI cZ c ++ wR aR cI cZ σ) s H locs → ∀ (ls : Array Slot), lv_has ls 4 [(0, .ref b), (1, .ref (aC 0)), (2, .ref (aR 0)), (3, .int x3)] → W p l e room_1 s m #[Value.ref b] below meth c' H locs 36 3827 Q (F0 m 18 ls []))
    {H : Heap} {locs : List Loc} (X : Sx (fun q : Nat => s.heap.size ≤ q) D (wC aC cI cZ c ++ wR aR cI cZ σ) s H locs) (ls : Array Slot) (hl : lv_has ls 4 [(0, .ref b), (1, .ref (aC 0)), (2, .ref (aR 0)), (3, .int x3)]) : W p l e room_1 s m #[Value.ref b] below meth c' H locs 36 3827 Q (F0 m 887 ls []) := by
  have hA : ∀ q : Nat, s.heap.size ≤ q → (fun q : Nat => s.heap.size ≤ q) q := fun _ h => h
  have hbA : ¬ (fun q : Nat => s.heap.size ≤ q) b := Nat.not_le.mpr hbl
  have hS := rel_s0 hR
  refine lv_aload_n hx hb dL_law_887 rfl (lv_at hl 1 rfl) ?_
  refine lv_aload_n hx hb dL_law_888 rfl (lv_at hl 0 rfl) ?_
  refine lv_iload_n hx hb dL_law_889 rfl (lv_at hl 3 rfl) ?_
  refine lv_iconst (v := (1)) hx hb dL_law_890 (by decide) ?_
  refine lv_iadd hx hb dL_law_891 ?_
  refine va_sld hx hb hX hbl hbA X.2.2 (sc_in h0 h5 1 (by decide) rfl) dL_law_892 ?_
  refine callL1R (rest := []) (w1 := wC aC cI cZ) (w2 := wR aR cI cZ) C hA (wC_sh aC cI cZ) X (kX5_holder l D aC cI cZ _ (xs (x3 + 1).toNatClampNeg)) (cwV 1 C.2.2.2.2.1 (gV wl_L_95 wt_yX5_holder ws_yX5_holder wi_X5 wk_yX5_holder) rfl rfl rfl hdX5_holder ⟨Nat.le_of_ble_eq_true rfl, Nat.le_of_ble_eq_true rfl⟩) (ci := 5) (q0 := 0) rfl rfl rfl hl.1 rfl (Nat.le_of_ble_eq_true rfl) dL_law_893 ⟨by exact Nat.le_of_ble_eq_true rfl, by exact Nat.le_of_ble_eq_true rfl⟩ (fun H locs X => ?_)
  refine lv_aload_n hx hb dL_law_896 rfl (lv_at hl 2 rfl) ?_
  refine lv_aload_n hx hb dL_law_897 rfl (lv_at hl 0 rfl) ?_
  refine lv_iload_n hx hb dL_law_898 rfl (lv_at hl 3 rfl) ?_
  refine lv_iconst (v := (1)) hx hb dL_law_899 (by decide) ?_
  refine lv_iadd hx hb dL_law_900 ?_
  refine va_sld hx hb hX hbl hbA X.2.2 (sc_in h0 h5 1 (by decide) rfl) dL_law_901 ?_
  refine callL2R (rest := [.int (fX5_holder c (xs (x3 + 1).toNatClampNeg))]) (w1 := wC aC cI cZ) (w2 := wR aR cI cZ) C hA (wR_sh aR cI cZ) X (kX6_holder l D aR cI cZ _ (xs (x3 + 1).toNatClampNeg) hS) (cwV 1 C.2.2.2.2.1 (gV wl_L_98 wt_yX6_holder ws_yX6_holder wi_X6 wk_yX6_holder) rfl rfl rfl hdX6_holder ⟨Nat.le_of_ble_eq_true rfl, Nat.le_of_ble_eq_true rfl⟩) (ci := 6) (q0 := 0) rfl rfl rfl hl.1 rfl (Nat.le_of_ble_eq_true rfl) dL_law_902 ⟨by exact Nat.le_of_ble_eq_true rfl, by exact Nat.le_of_ble_eq_true rfl⟩ (fun H locs X => ?_)
  have hs := sim_holder hR (xs (x3 + 1).toNatClampNeg)
  refine lv_icmp_eq (tgt := 983) hx hb dL_law_905 (by decide) (fun _ => ?_) (fun cz => absurd hs.1 cz)
  refine lv_iinc (v := (x3 + 5)) (lv' := [(3, .int (x3 + 5)), (0, .ref b), (1, .ref (aC 0)), (2, .ref (aR 0))]) hx hb dL_law_983 hl (k := 3) rfl rfl (by decide) rfl (fun ls hl => ?_)
  refine lv_goto (tgt := 18) hx hb dL_law_986 (by decide) ?_
  exact ih (x3 + 5) _ _ hs.2 (sc_nn h0 h5) (sc_ms h0 h5 hn) X ls (lv_sub hl [1, 2, 3, 0] rfl)
set_option maxHeartbeats 1000000 in
set_option maxRecDepth 100000 in
theorem law_case20 {p : Program} {l : Launch} {e : Env} {s : State} {m : MethodId} {below : List Frame} {meth : Method} {c' : Code} {D : va_G} {b L : Nat} {xs : Nat → Int32} (hL : L ≤ 2560) (hx : p.tables.exec = Jvm.exec) (hb : c'.code = cL_law) (hX : va_X b L xs s s.heap) (hbl : b < s.heap.size) {aC aR : Nat → Nat} {cI cZ : ClassId} (C : Cx p s m #[Value.ref b] meth c' cL_law 4 RL D (tyIZ cI cZ)) (n : Nat) (x3 : Int32) (c : CSt) (σ : RSt) (hR : Rel σ c) (h0 : 0 ≤ x3.toInt) (hn : (L : Int) + 1 ≤ x3.toInt + (n + 1 : Nat)) (h5 : x3.toInt + 5 ≤ L) {Q : State → Prop} (ih : ∀ (x3 : Int32) (c : CSt) (σ : RSt), Rel σ c → 0 ≤ x3.toInt → (L : Int) + 1 ≤ x3.toInt + n → ∀ {H : Heap} {locs : List Loc}, Sx (fun q : Nat => s.heap.size ≤ q) D (wC aC cI cZ c ++ wR aR cI cZ σ) s H locs → ∀ (ls : Array Slot), lv_has ls 4 [(0, .ref b), (1, .ref (aC 0)), (2, .ref (aR 0)), (3, .int x3)] → W p l e room_1 s m #[Value.ref b] below meth c' H locs 36 3827 Q (F0 m 18 ls []))
    {H : Heap} {locs : List Loc} (X : Sx (fun q : Nat => s.heap.size ≤ q) D (wC aC cI cZ c ++ wR aR cI cZ σ) s H locs) (ls : Array Slot) (hl : lv_has ls 4 [(0, .ref b), (1, .ref (aC 0)), (2, .ref (aR 0)), (3, .int x3)]) : W p l e room_1 s m #[Value.ref b] below meth c' H locs 36 3827 Q (F0 m 910 ls []) := by
  have hA : ∀ q : Nat, s.heap.size ≤ q → (fun q : Nat => s.heap.size ≤ q) q := fun _ h => h
  have hbA : ¬ (fun q : Nat => s.heap.size ≤ q) b := Nat.not_le.mpr hbl
  have hS := rel_s0 hR
  refine lv_aload_n hx hb dL_law_910 rfl (lv_at hl 1 rfl) ?_
  refine lv_aload_n hx hb dL_law_911 rfl (lv_at hl 0 rfl) ?_
  refine lv_iload_n hx hb dL_law_912 rfl (lv_at hl 3 rfl) ?_
  refine lv_iconst (v := (1)) hx hb dL_law_913 (by decide) ?_
  refine lv_iadd hx hb dL_law_914 ?_
  refine va_sld hx hb hX hbl hbA X.2.2 (sc_in h0 h5 1 (by decide) rfl) dL_law_915 ?_
  refine callL1R (rest := []) (w1 := wC aC cI cZ) (w2 := wR aR cI cZ) C hA (wC_sh aC cI cZ) X (kX5_cell l D aC cI cZ _ (xs (x3 + 1).toNatClampNeg)) (cwV 1 C.2.2.2.2.1 (gV wl_L_99 wt_yX5_cell ws_yX5_cell wi_X5 wk_yX5_cell) rfl rfl rfl hdX5_cell ⟨Nat.le_of_ble_eq_true rfl, Nat.le_of_ble_eq_true rfl⟩) (ci := 5) (q0 := 0) rfl rfl rfl hl.1 rfl (Nat.le_of_ble_eq_true rfl) dL_law_916 ⟨by exact Nat.le_of_ble_eq_true rfl, by exact Nat.le_of_ble_eq_true rfl⟩ (fun H locs X => ?_)
  refine lv_aload_n hx hb dL_law_919 rfl (lv_at hl 2 rfl) ?_
  refine lv_aload_n hx hb dL_law_920 rfl (lv_at hl 0 rfl) ?_
  refine lv_iload_n hx hb dL_law_921 rfl (lv_at hl 3 rfl) ?_
  refine lv_iconst (v := (1)) hx hb dL_law_922 (by decide) ?_
  refine lv_iadd hx hb dL_law_923 ?_
  refine va_sld hx hb hX hbl hbA X.2.2 (sc_in h0 h5 1 (by decide) rfl) dL_law_924 ?_
  refine callL2R (rest := [.int (fX5_cell c (xs (x3 + 1).toNatClampNeg))]) (w1 := wC aC cI cZ) (w2 := wR aR cI cZ) C hA (wR_sh aR cI cZ) X (kX6_cell l D aR cI cZ _ (xs (x3 + 1).toNatClampNeg) hS) (cwV 1 C.2.2.2.2.1 (gV wl_L_102 wt_yX6_cell ws_yX6_cell wi_X6 wk_yX6_cell) rfl rfl rfl hdX6_cell ⟨Nat.le_of_ble_eq_true rfl, Nat.le_of_ble_eq_true rfl⟩) (ci := 6) (q0 := 0) rfl rfl rfl hl.1 rfl (Nat.le_of_ble_eq_true rfl) dL_law_925 ⟨by exact Nat.le_of_ble_eq_true rfl, by exact Nat.le_of_ble_eq_true rfl⟩ (fun H locs X => ?_)
  have hs := sim_cell hR (xs (x3 + 1).toNatClampNeg)
  refine lv_icmp_eq (tgt := 983) hx hb dL_law_928 (by decide) (fun _ => ?_) (fun cz => absurd hs.1 cz)
  refine lv_iinc (v := (x3 + 5)) (lv' := [(3, .int (x3 + 5)), (0, .ref b), (1, .ref (aC 0)), (2, .ref (aR 0))]) hx hb dL_law_983 hl (k := 3) rfl rfl (by decide) rfl (fun ls hl => ?_)
  refine lv_goto (tgt := 18) hx hb dL_law_986 (by decide) ?_
  exact ih (x3 + 5) _ _ hs.2 (sc_nn h0 h5) (sc_ms h0 h5 hn) X ls (lv_sub hl [1, 2, 3, 0] rfl)
set_option maxHeartbeats 1000000 in
set_option maxRecDepth 100000 in
theorem law_case21 {p : Program} {l : Launch} {e : Env} {s : State} {m : MethodId} {below : List Frame} {meth : Method} {c' : Code} {D : va_G} {b L : Nat} {xs : Nat → Int32} (hL : L ≤ 2560) (hx : p.tables.exec = Jvm.exec) (hb : c'.code = cL_law) (hX : va_X b L xs s s.heap) (hbl : b < s.heap.size) {aC aR : Nat → Nat} {cI cZ : ClassId} (C : Cx p s m #[Value.ref b] meth c' cL_law 4 RL D (tyIZ cI cZ)) (n : Nat) (x3 : Int32) (c : CSt) (σ : RSt) (hR : Rel σ c) (h0 : 0 ≤ x3.toInt) (hn : (L : Int) + 1 ≤ x3.toInt + (n + 1 : Nat)) (h5 : x3.toInt + 5 ≤ L) {Q : State → Prop} (ih : ∀ (x3 : Int32) (c : CSt) (σ : RSt), Rel σ c → 0 ≤ x3.toInt → (L : Int) + 1 ≤ x3.toInt + n → ∀ {H : Heap} {locs : List Loc}, Sx (fun q : Nat => s.heap.size ≤ q) D (wC aC cI cZ c ++ wR aR cI cZ σ) s H locs → ∀ (ls : Array Slot), lv_has ls 4 [(0, .ref b), (1, .ref (aC 0)), (2, .ref (aR 0)), (3, .int x3)] → W p l e room_1 s m #[Value.ref b] below meth c' H locs 36 3827 Q (F0 m 18 ls []))
    {H : Heap} {locs : List Loc} (X : Sx (fun q : Nat => s.heap.size ≤ q) D (wC aC cI cZ c ++ wR aR cI cZ σ) s H locs) (ls : Array Slot) (hl : lv_has ls 4 [(0, .ref b), (1, .ref (aC 0)), (2, .ref (aR 0)), (3, .int x3)]) : W p l e room_1 s m #[Value.ref b] below meth c' H locs 36 3827 Q (F0 m 933 ls []) := by
  have hA : ∀ q : Nat, s.heap.size ≤ q → (fun q : Nat => s.heap.size ≤ q) q := fun _ h => h
  have hbA : ¬ (fun q : Nat => s.heap.size ≤ q) b := Nat.not_le.mpr hbl
  have hS := rel_s0 hR
  refine lv_aload_n hx hb dL_law_933 rfl (lv_at hl 1 rfl) ?_
  refine lv_aload_n hx hb dL_law_934 rfl (lv_at hl 0 rfl) ?_
  refine lv_iload_n hx hb dL_law_935 rfl (lv_at hl 3 rfl) ?_
  refine lv_iconst (v := (1)) hx hb dL_law_936 (by decide) ?_
  refine lv_iadd hx hb dL_law_937 ?_
  refine va_sld hx hb hX hbl hbA X.2.2 (sc_in h0 h5 1 (by decide) rfl) dL_law_938 ?_
  refine callL1R (rest := []) (w1 := wC aC cI cZ) (w2 := wR aR cI cZ) C hA (wC_sh aC cI cZ) X (kX5_count l D aC cI cZ _ (xs (x3 + 1).toNatClampNeg)) (cwV 1 C.2.2.2.2.1 (gV wl_L_103 wt_yX5_count ws_yX5_count wi_X5 wk_yX5_count) rfl rfl rfl hdX5_count ⟨Nat.le_of_ble_eq_true rfl, Nat.le_of_ble_eq_true rfl⟩) (ci := 5) (q0 := 0) rfl rfl rfl hl.1 rfl (Nat.le_of_ble_eq_true rfl) dL_law_939 ⟨by exact Nat.le_of_ble_eq_true rfl, by exact Nat.le_of_ble_eq_true rfl⟩ (fun H locs X => ?_)
  refine lv_aload_n hx hb dL_law_942 rfl (lv_at hl 2 rfl) ?_
  refine lv_aload_n hx hb dL_law_943 rfl (lv_at hl 0 rfl) ?_
  refine lv_iload_n hx hb dL_law_944 rfl (lv_at hl 3 rfl) ?_
  refine lv_iconst (v := (1)) hx hb dL_law_945 (by decide) ?_
  refine lv_iadd hx hb dL_law_946 ?_
  refine va_sld hx hb hX hbl hbA X.2.2 (sc_in h0 h5 1 (by decide) rfl) dL_law_947 ?_
  refine callL2R (rest := [.int (fX5_count c (xs (x3 + 1).toNatClampNeg)).1]) (w1 := wC aC cI cZ) (w2 := wR aR cI cZ) C hA (wR_sh aR cI cZ) X (kX6_count l D aR cI cZ _ (xs (x3 + 1).toNatClampNeg) hS) (cwV 1 C.2.2.2.2.1 (gV wl_L_106 wt_yX6_count ws_yX6_count wi_X6 wk_yX6_count) rfl rfl rfl hdX6_count ⟨Nat.le_of_ble_eq_true rfl, Nat.le_of_ble_eq_true rfl⟩) (ci := 6) (q0 := 0) rfl rfl rfl hl.1 rfl (Nat.le_of_ble_eq_true rfl) dL_law_948 ⟨by exact Nat.le_of_ble_eq_true rfl, by exact Nat.le_of_ble_eq_true rfl⟩ (fun H locs X => ?_)
  have hs := sim_count hR (xs (x3 + 1).toNatClampNeg)
  refine lv_icmp_eq (tgt := 983) hx hb dL_law_951 (by decide) (fun _ => ?_) (fun cz => absurd hs.1 cz)
  refine lv_iinc (v := (x3 + 5)) (lv' := [(3, .int (x3 + 5)), (0, .ref b), (1, .ref (aC 0)), (2, .ref (aR 0))]) hx hb dL_law_983 hl (k := 3) rfl rfl (by decide) rfl (fun ls hl => ?_)
  refine lv_goto (tgt := 18) hx hb dL_law_986 (by decide) ?_
  exact ih (x3 + 5) _ _ hs.2 (sc_nn h0 h5) (sc_ms h0 h5 hn) X ls (lv_sub hl [1, 2, 3, 0] rfl)
set_option maxHeartbeats 1000000 in
set_option maxRecDepth 100000 in
theorem law_case22 {p : Program} {l : Launch} {e : Env} {s : State} {m : MethodId} {below : List Frame} {meth : Method} {c' : Code} {D : va_G} {b L : Nat} {xs : Nat → Int32} (hL : L ≤ 2560) (hx : p.tables.exec = Jvm.exec) (hb : c'.code = cL_law) (hX : va_X b L xs s s.heap) (hbl : b < s.heap.size) {aC aR : Nat → Nat} {cI cZ : ClassId} (C : Cx p s m #[Value.ref b] meth c' cL_law 4 RL D (tyIZ cI cZ)) (n : Nat) (x3 : Int32) (c : CSt) (σ : RSt) (hR : Rel σ c) (h0 : 0 ≤ x3.toInt) (hn : (L : Int) + 1 ≤ x3.toInt + (n + 1 : Nat)) (h5 : x3.toInt + 5 ≤ L) {Q : State → Prop} (ih : ∀ (x3 : Int32) (c : CSt) (σ : RSt), Rel σ c → 0 ≤ x3.toInt → (L : Int) + 1 ≤ x3.toInt + n → ∀ {H : Heap} {locs : List Loc}, Sx (fun q : Nat => s.heap.size ≤ q) D (wC aC cI cZ c ++ wR aR cI cZ σ) s H locs → ∀ (ls : Array Slot), lv_has ls 4 [(0, .ref b), (1, .ref (aC 0)), (2, .ref (aR 0)), (3, .int x3)] → W p l e room_1 s m #[Value.ref b] below meth c' H locs 36 3827 Q (F0 m 18 ls []))
    {H : Heap} {locs : List Loc} (X : Sx (fun q : Nat => s.heap.size ≤ q) D (wC aC cI cZ c ++ wR aR cI cZ σ) s H locs) (ls : Array Slot) (hl : lv_has ls 4 [(0, .ref b), (1, .ref (aC 0)), (2, .ref (aR 0)), (3, .int x3)]) : W p l e room_1 s m #[Value.ref b] below meth c' H locs 36 3827 Q (F0 m 956 ls []) := by
  have hA : ∀ q : Nat, s.heap.size ≤ q → (fun q : Nat => s.heap.size ≤ q) q := fun _ h => h
  have hbA : ¬ (fun q : Nat => s.heap.size ≤ q) b := Nat.not_le.mpr hbl
  have hS := rel_s0 hR
  refine lv_aload_n hx hb dL_law_956 rfl (lv_at hl 1 rfl) ?_
  refine callL1R (rest := []) (w1 := wC aC cI cZ) (w2 := wR aR cI cZ) C hA (wC_sh aC cI cZ) X (kX5_lost l D aC cI cZ _ ) (cwV 0 C.2.2.2.2.1 (gV wl_L_107 wt_yX5_lost ws_yX5_lost wi_X5 wk_yX5_lost) rfl rfl rfl hdX5_lost ⟨Nat.le_of_ble_eq_true rfl, Nat.le_of_ble_eq_true rfl⟩) (ci := 5) (q0 := 0) rfl rfl rfl hl.1 rfl (Nat.le_of_ble_eq_true rfl) dL_law_957 ⟨by exact Nat.le_of_ble_eq_true rfl, by exact Nat.le_of_ble_eq_true rfl⟩ (fun H locs X => ?_)
  refine lv_aload_n hx hb dL_law_960 rfl (lv_at hl 2 rfl) ?_
  refine callL2R (rest := [.int (fX5_lost c).1]) (w1 := wC aC cI cZ) (w2 := wR aR cI cZ) C hA (wR_sh aR cI cZ) X (kX6_lost l D aR cI cZ _  hS) (cwV 0 C.2.2.2.2.1 (gV wl_L_110 wt_yX6_lost ws_yX6_lost wi_X6 wk_yX6_lost) rfl rfl rfl hdX6_lost ⟨Nat.le_of_ble_eq_true rfl, Nat.le_of_ble_eq_true rfl⟩) (ci := 6) (q0 := 0) rfl rfl rfl hl.1 rfl (Nat.le_of_ble_eq_true rfl) dL_law_961 ⟨by exact Nat.le_of_ble_eq_true rfl, by exact Nat.le_of_ble_eq_true rfl⟩ (fun H locs X => ?_)
  have hs := sim_lost hR
  refine lv_icmp_eq (tgt := 983) hx hb dL_law_964 (by decide) (fun _ => ?_) (fun cz => absurd hs.1 cz)
  refine lv_iinc (v := (x3 + 5)) (lv' := [(3, .int (x3 + 5)), (0, .ref b), (1, .ref (aC 0)), (2, .ref (aR 0))]) hx hb dL_law_983 hl (k := 3) rfl rfl (by decide) rfl (fun ls hl => ?_)
  refine lv_goto (tgt := 18) hx hb dL_law_986 (by decide) ?_
  exact ih (x3 + 5) _ _ hs.2 (sc_nn h0 h5) (sc_ms h0 h5 hn) X ls (lv_sub hl [1, 2, 3, 0] rfl)
set_option maxHeartbeats 1000000 in
set_option maxRecDepth 100000 in
theorem law_case23 {p : Program} {l : Launch} {e : Env} {s : State} {m : MethodId} {below : List Frame} {meth : Method} {c' : Code} {D : va_G} {b L : Nat} {xs : Nat → Int32} (hL : L ≤ 2560) (hx : p.tables.exec = Jvm.exec) (hb : c'.code = cL_law) (hX : va_X b L xs s s.heap) (hbl : b < s.heap.size) {aC aR : Nat → Nat} {cI cZ : ClassId} (C : Cx p s m #[Value.ref b] meth c' cL_law 4 RL D (tyIZ cI cZ)) (n : Nat) (x3 : Int32) (c : CSt) (σ : RSt) (hR : Rel σ c) (h0 : 0 ≤ x3.toInt) (hn : (L : Int) + 1 ≤ x3.toInt + (n + 1 : Nat)) (h5 : x3.toInt + 5 ≤ L) {Q : State → Prop} (ih : ∀ (x3 : Int32) (c : CSt) (σ : RSt), Rel σ c → 0 ≤ x3.toInt → (L : Int) + 1 ≤ x3.toInt + n → ∀ {H : Heap} {locs : List Loc}, Sx (fun q : Nat => s.heap.size ≤ q) D (wC aC cI cZ c ++ wR aR cI cZ σ) s H locs → ∀ (ls : Array Slot), lv_has ls 4 [(0, .ref b), (1, .ref (aC 0)), (2, .ref (aR 0)), (3, .int x3)] → W p l e room_1 s m #[Value.ref b] below meth c' H locs 36 3827 Q (F0 m 18 ls []))
    {H : Heap} {locs : List Loc} (X : Sx (fun q : Nat => s.heap.size ≤ q) D (wC aC cI cZ c ++ wR aR cI cZ σ) s H locs) (ls : Array Slot) (hl : lv_has ls 4 [(0, .ref b), (1, .ref (aC 0)), (2, .ref (aR 0)), (3, .int x3)]) : W p l e room_1 s m #[Value.ref b] below meth c' H locs 36 3827 Q (F0 m 969 ls []) := by
  have hA : ∀ q : Nat, s.heap.size ≤ q → (fun q : Nat => s.heap.size ≤ q) q := fun _ h => h
  have hbA : ¬ (fun q : Nat => s.heap.size ≤ q) b := Nat.not_le.mpr hbl
  have hS := rel_s0 hR
  refine lv_aload_n hx hb dL_law_969 rfl (lv_at hl 1 rfl) ?_
  refine callL1J (rest := []) (w1 := wC aC cI cZ) (w2 := wR aR cI cZ) C hA (wC_sh aC cI cZ) X (kX5_digest l D aC cI cZ _ ) (cwV 0 C.2.2.2.2.1 (gV wl_L_111 wt_yX5_digest ws_yX5_digest wi_X5 wk_yX5_digest) rfl rfl rfl hdX5_digest ⟨Nat.le_of_ble_eq_true rfl, Nat.le_of_ble_eq_true rfl⟩) (ci := 5) (q0 := 0) rfl rfl rfl hl.1 rfl (Nat.le_of_ble_eq_true rfl) dL_law_970 ⟨by exact Nat.le_of_ble_eq_true rfl, by exact Nat.le_of_ble_eq_true rfl⟩ (fun H locs X => ?_)
  refine lv_aload_n hx hb dL_law_973 rfl (lv_at hl 2 rfl) ?_
  refine callL2J (rest := [.long (fX5_digest c)]) (w1 := wC aC cI cZ) (w2 := wR aR cI cZ) C hA (wR_sh aR cI cZ) X (kX6_digest l D aR cI cZ _  hS) (cwV 0 C.2.2.2.2.1 (gV wl_L_115 wt_yX6_digest ws_yX6_digest wi_X6 wk_yX6_digest) rfl rfl rfl hdX6_digest ⟨Nat.le_of_ble_eq_true rfl, Nat.le_of_ble_eq_true rfl⟩) (ci := 6) (q0 := 0) rfl rfl rfl hl.1 rfl (Nat.le_of_ble_eq_true rfl) dL_law_974 ⟨by exact Nat.le_of_ble_eq_true rfl, by exact Nat.le_of_ble_eq_true rfl⟩ (fun H locs X => ?_)
  refine W.lcmp hx hb dL_law_977 ?_
  have hs := sim_digest hR
  refine lv_if_eq (tgt := 983) hx hb dL_law_978 (by decide) (fun _ => ?_) (fun cz => absurd (by rw [hs.1]; exact lg_cmp_self _) cz)
  refine lv_iinc (v := (x3 + 5)) (lv' := [(3, .int (x3 + 5)), (0, .ref b), (1, .ref (aC 0)), (2, .ref (aR 0))]) hx hb dL_law_983 hl (k := 3) rfl rfl (by decide) rfl (fun ls hl => ?_)
  refine lv_goto (tgt := 18) hx hb dL_law_986 (by decide) ?_
  exact ih (x3 + 5) _ _ hs.2 (sc_nn h0 h5) (sc_ms h0 h5 hn) X ls (lv_sub hl [1, 2, 3, 0] rfl)
set_option maxHeartbeats 4000000 in
set_option maxRecDepth 100000 in
theorem law_loop {p : Program} {l : Launch} {e : Env} {s : State} {m : MethodId} {below : List Frame} {meth : Method} {c' : Code} {D : va_G} {b L : Nat} {xs : Nat → Int32} (hL : L ≤ 2560) (hx : p.tables.exec = Jvm.exec) (hb : c'.code = cL_law) (hr : meth.sig.returnType = ret) (hlocks : meth.locks = false) (hX : va_X b L xs s s.heap) (hbl : b < s.heap.size) {aC aR : Nat → Nat} {cI cZ : ClassId} (C : Cx p s m #[Value.ref b] meth c' cL_law 4 RL D (tyIZ cI cZ)) :
    ∀ (n : Nat) (x3 : Int32) (c : CSt) (σ : RSt), Rel σ c → 0 ≤ x3.toInt → (L : Int) + 1 ≤ x3.toInt + n → ∀ (H : Heap) (locs : List Loc), Sx (fun q : Nat => s.heap.size ≤ q) D (wC aC cI cZ c ++ wR aR cI cZ σ) s H locs → ∀ (ls : Array Slot), lv_has ls 4 [(0, .ref b), (1, .ref (aC 0)), (2, .ref (aR 0)), (3, .int x3)] → W p l e room_1 s m #[Value.ref b] below meth c' H locs 36 3827 (lw_Z below #[Value.ref b] s) (F0 m 18 ls []) := by
  have hA : ∀ q : Nat, s.heap.size ≤ q → (fun q : Nat => s.heap.size ≤ q) q := fun _ h => h
  have hbA : ¬ (fun q : Nat => s.heap.size ≤ q) b := Nat.not_le.mpr hbl
  intro n
  induction n with
  | zero =>
    intro x3 c σ hR h0 hn H locs X ls hl
    refine lv_iload_n hx hb dL_law_18 rfl (lv_at hl 3 rfl) ?_
    refine lv_aload_n hx hb dL_law_19 rfl (lv_at hl 0 rfl) ?_
    refine va_slen hx hb hX hbl hbA X.2.2 dL_law_20 ?_
    refine lv_iconst (v := (5)) hx hb dL_law_21 (by decide) ?_
    refine lv_isub hx hb dL_law_22 ?_
    refine lv_icmp_gt (tgt := 989) hx hb dL_law_23 (by decide) (fun c23 => ?_) (fun c23 => ?_)
    · refine lv_iconst (v := (1)) hx hb dL_law_989 (by decide) ?_
      refine va_forget (fun q hq => X.2.2.2.2 q hq) ?_
      exact lw_ret hx hb hr hlocks dL_law_990
    · exact absurd (sc_le hL c23) (by omega)
  | succ n ih =>
    intro x3 c σ hR h0 hn H locs X ls hl
    refine lv_iload_n hx hb dL_law_18 rfl (lv_at hl 3 rfl) ?_
    refine lv_aload_n hx hb dL_law_19 rfl (lv_at hl 0 rfl) ?_
    refine va_slen hx hb hX hbl hbA X.2.2 dL_law_20 ?_
    refine lv_iconst (v := (5)) hx hb dL_law_21 (by decide) ?_
    refine lv_isub hx hb dL_law_22 ?_
    refine lv_icmp_gt (tgt := 989) hx hb dL_law_23 (by decide) (fun c23 => ?_) (fun c23 => ?_)
    · refine lv_iconst (v := (1)) hx hb dL_law_989 (by decide) ?_
      refine va_forget (fun q hq => X.2.2.2.2 q hq) ?_
      exact lw_ret hx hb hr hlocks dL_law_990
    · have h5 := sc_le hL c23
      have hS := rel_s0 hR
      refine lv_aload_n hx hb dL_law_26 rfl (lv_at hl 0 rfl) ?_
      refine lv_iload_n hx hb dL_law_27 rfl (lv_at hl 3 rfl) ?_
      refine va_sld hx hb hX hbl hbA X.2.2 (sc_in0 h0 h5) dL_law_28 ?_
      refine lv_bipush (v := (31)) hx hb dL_law_29 (by decide) ?_
      refine lv_iand hx hb dL_law_31 ?_
      generalize hk : xs x3.toNatClampNeg &&& 31 = kk
      by_cases e0 : kk = (0 : Int32)
      · refine lv_tableIn (tgt := 144) (off := (112)) hx hb dL_law_32 (by rw [e0]; decide) (by rw [e0]; decide) (by rw [e0]; rfl) (by decide) ?_
        exact law_case0 hL hx hb hX hbl C n x3 c σ hR h0 hn h5 (fun x3 c σ a1 a2 a3 {H} {locs} a4 => ih x3 c σ a1 a2 a3 H locs a4) X ls hl
      · skip
        by_cases e1 : kk = (1 : Int32)
        · refine lv_tableIn (tgt := 177) (off := (145)) hx hb dL_law_32 (by rw [e1]; decide) (by rw [e1]; decide) (by rw [e1]; rfl) (by decide) ?_
          exact law_case1 hL hx hb hX hbl C n x3 c σ hR h0 hn h5 (fun x3 c σ a1 a2 a3 {H} {locs} a4 => ih x3 c σ a1 a2 a3 H locs a4) X ls hl
        · skip
          by_cases e2 : kk = (2 : Int32)
          · refine lv_tableIn (tgt := 246) (off := (214)) hx hb dL_law_32 (by rw [e2]; decide) (by rw [e2]; decide) (by rw [e2]; rfl) (by decide) ?_
            exact law_case2 hL hx hb hX hbl C n x3 c σ hR h0 hn h5 (fun x3 c σ a1 a2 a3 {H} {locs} a4 => ih x3 c σ a1 a2 a3 H locs a4) X ls hl
          · skip
            by_cases e3 : kk = (3 : Int32)
            · refine lv_tableIn (tgt := 289) (off := (257)) hx hb dL_law_32 (by rw [e3]; decide) (by rw [e3]; decide) (by rw [e3]; rfl) (by decide) ?_
              exact law_case3 hL hx hb hX hbl C n x3 c σ hR h0 hn h5 (fun x3 c σ a1 a2 a3 {H} {locs} a4 => ih x3 c σ a1 a2 a3 H locs a4) X ls hl
            · skip
              by_cases e4 : kk = (4 : Int32)
              · refine lv_tableIn (tgt := 342) (off := (310)) hx hb dL_law_32 (by rw [e4]; decide) (by rw [e4]; decide) (by rw [e4]; rfl) (by decide) ?_
                exact law_case4 hL hx hb hX hbl C n x3 c σ hR h0 hn h5 (fun x3 c σ a1 a2 a3 {H} {locs} a4 => ih x3 c σ a1 a2 a3 H locs a4) X ls hl
              · skip
                by_cases e5 : kk = (5 : Int32)
                · refine lv_tableIn (tgt := 395) (off := (363)) hx hb dL_law_32 (by rw [e5]; decide) (by rw [e5]; decide) (by rw [e5]; rfl) (by decide) ?_
                  exact law_case5 hL hx hb hX hbl C n x3 c σ hR h0 hn h5 (fun x3 c σ a1 a2 a3 {H} {locs} a4 => ih x3 c σ a1 a2 a3 H locs a4) X ls hl
                · skip
                  by_cases e6 : kk = (6 : Int32)
                  · refine lv_tableIn (tgt := 428) (off := (396)) hx hb dL_law_32 (by rw [e6]; decide) (by rw [e6]; decide) (by rw [e6]; rfl) (by decide) ?_
                    exact law_case6 hL hx hb hX hbl C n x3 c σ hR h0 hn h5 (fun x3 c σ a1 a2 a3 {H} {locs} a4 => ih x3 c σ a1 a2 a3 H locs a4) X ls hl
                  · skip
                    by_cases e7 : kk = (7 : Int32)
                    · refine lv_tableIn (tgt := 471) (off := (439)) hx hb dL_law_32 (by rw [e7]; decide) (by rw [e7]; decide) (by rw [e7]; rfl) (by decide) ?_
                      exact law_case7 hL hx hb hX hbl C n x3 c σ hR h0 hn h5 (fun x3 c σ a1 a2 a3 {H} {locs} a4 => ih x3 c σ a1 a2 a3 H locs a4) X ls hl
                    · skip
                      by_cases e8 : kk = (8 : Int32)
                      · refine lv_tableIn (tgt := 514) (off := (482)) hx hb dL_law_32 (by rw [e8]; decide) (by rw [e8]; decide) (by rw [e8]; rfl) (by decide) ?_
                        exact law_case8 hL hx hb hX hbl C n x3 c σ hR h0 hn h5 (fun x3 c σ a1 a2 a3 {H} {locs} a4 => ih x3 c σ a1 a2 a3 H locs a4) X ls hl
                      · skip
                        by_cases e9 : kk = (9 : Int32)
                        · refine lv_tableIn (tgt := 567) (off := (535)) hx hb dL_law_32 (by rw [e9]; decide) (by rw [e9]; decide) (by rw [e9]; rfl) (by decide) ?_
                          exact law_case9 hL hx hb hX hbl C n x3 c σ hR h0 hn h5 (fun x3 c σ a1 a2 a3 {H} {locs} a4 => ih x3 c σ a1 a2 a3 H locs a4) X ls hl
                        · skip
                          by_cases e10 : kk = (10 : Int32)
                          · refine lv_tableIn (tgt := 610) (off := (578)) hx hb dL_law_32 (by rw [e10]; decide) (by rw [e10]; decide) (by rw [e10]; rfl) (by decide) ?_
                            exact law_case10 hL hx hb hX hbl C n x3 c σ hR h0 hn h5 (fun x3 c σ a1 a2 a3 {H} {locs} a4 => ih x3 c σ a1 a2 a3 H locs a4) X ls hl
                          · skip
                            by_cases e11 : kk = (11 : Int32)
                            · refine lv_tableIn (tgt := 653) (off := (621)) hx hb dL_law_32 (by rw [e11]; decide) (by rw [e11]; decide) (by rw [e11]; rfl) (by decide) ?_
                              exact law_case11 hL hx hb hX hbl C n x3 c σ hR h0 hn h5 (fun x3 c σ a1 a2 a3 {H} {locs} a4 => ih x3 c σ a1 a2 a3 H locs a4) X ls hl
                            · skip
                              by_cases e12 : kk = (12 : Int32)
                              · refine lv_tableIn (tgt := 696) (off := (664)) hx hb dL_law_32 (by rw [e12]; decide) (by rw [e12]; decide) (by rw [e12]; rfl) (by decide) ?_
                                exact law_case12 hL hx hb hX hbl C n x3 c σ hR h0 hn h5 (fun x3 c σ a1 a2 a3 {H} {locs} a4 => ih x3 c σ a1 a2 a3 H locs a4) X ls hl
                              · skip
                                by_cases e13 : kk = (13 : Int32)
                                · refine lv_tableIn (tgt := 739) (off := (707)) hx hb dL_law_32 (by rw [e13]; decide) (by rw [e13]; decide) (by rw [e13]; rfl) (by decide) ?_
                                  exact law_case13 hL hx hb hX hbl C n x3 c σ hR h0 hn h5 (fun x3 c σ a1 a2 a3 {H} {locs} a4 => ih x3 c σ a1 a2 a3 H locs a4) X ls hl
                                · skip
                                  by_cases e14 : kk = (14 : Int32)
                                  · refine lv_tableIn (tgt := 772) (off := (740)) hx hb dL_law_32 (by rw [e14]; decide) (by rw [e14]; decide) (by rw [e14]; rfl) (by decide) ?_
                                    exact law_case14 hL hx hb hX hbl C n x3 c σ hR h0 hn h5 (fun x3 c σ a1 a2 a3 {H} {locs} a4 => ih x3 c σ a1 a2 a3 H locs a4) X ls hl
                                  · skip
                                    by_cases e15 : kk = (15 : Int32)
                                    · refine lv_tableIn (tgt := 785) (off := (753)) hx hb dL_law_32 (by rw [e15]; decide) (by rw [e15]; decide) (by rw [e15]; rfl) (by decide) ?_
                                      exact law_case15 hL hx hb hX hbl C n x3 c σ hR h0 hn h5 (fun x3 c σ a1 a2 a3 {H} {locs} a4 => ih x3 c σ a1 a2 a3 H locs a4) X ls hl
                                    · skip
                                      by_cases e16 : kk = (16 : Int32)
                                      · refine lv_tableIn (tgt := 808) (off := (776)) hx hb dL_law_32 (by rw [e16]; decide) (by rw [e16]; decide) (by rw [e16]; rfl) (by decide) ?_
                                        exact law_case16 hL hx hb hX hbl C n x3 c σ hR h0 hn h5 (fun x3 c σ a1 a2 a3 {H} {locs} a4 => ih x3 c σ a1 a2 a3 H locs a4) X ls hl
                                      · skip
                                        by_cases e17 : kk = (17 : Int32)
                                        · refine lv_tableIn (tgt := 821) (off := (789)) hx hb dL_law_32 (by rw [e17]; decide) (by rw [e17]; decide) (by rw [e17]; rfl) (by decide) ?_
                                          exact law_case17 hL hx hb hX hbl C n x3 c σ hR h0 hn h5 (fun x3 c σ a1 a2 a3 {H} {locs} a4 => ih x3 c σ a1 a2 a3 H locs a4) X ls hl
                                        · skip
                                          by_cases e18 : kk = (18 : Int32)
                                          · refine lv_tableIn (tgt := 854) (off := (822)) hx hb dL_law_32 (by rw [e18]; decide) (by rw [e18]; decide) (by rw [e18]; rfl) (by decide) ?_
                                            exact law_case18 hL hx hb hX hbl C n x3 c σ hR h0 hn h5 (fun x3 c σ a1 a2 a3 {H} {locs} a4 => ih x3 c σ a1 a2 a3 H locs a4) X ls hl
                                          · skip
                                            by_cases e19 : kk = (19 : Int32)
                                            · refine lv_tableIn (tgt := 887) (off := (855)) hx hb dL_law_32 (by rw [e19]; decide) (by rw [e19]; decide) (by rw [e19]; rfl) (by decide) ?_
                                              exact law_case19 hL hx hb hX hbl C n x3 c σ hR h0 hn h5 (fun x3 c σ a1 a2 a3 {H} {locs} a4 => ih x3 c σ a1 a2 a3 H locs a4) X ls hl
                                            · skip
                                              by_cases e20 : kk = (20 : Int32)
                                              · refine lv_tableIn (tgt := 910) (off := (878)) hx hb dL_law_32 (by rw [e20]; decide) (by rw [e20]; decide) (by rw [e20]; rfl) (by decide) ?_
                                                exact law_case20 hL hx hb hX hbl C n x3 c σ hR h0 hn h5 (fun x3 c σ a1 a2 a3 {H} {locs} a4 => ih x3 c σ a1 a2 a3 H locs a4) X ls hl
                                              · skip
                                                by_cases e21 : kk = (21 : Int32)
                                                · refine lv_tableIn (tgt := 933) (off := (901)) hx hb dL_law_32 (by rw [e21]; decide) (by rw [e21]; decide) (by rw [e21]; rfl) (by decide) ?_
                                                  exact law_case21 hL hx hb hX hbl C n x3 c σ hR h0 hn h5 (fun x3 c σ a1 a2 a3 {H} {locs} a4 => ih x3 c σ a1 a2 a3 H locs a4) X ls hl
                                                · skip
                                                  by_cases e22 : kk = (22 : Int32)
                                                  · refine lv_tableIn (tgt := 956) (off := (924)) hx hb dL_law_32 (by rw [e22]; decide) (by rw [e22]; decide) (by rw [e22]; rfl) (by decide) ?_
                                                    exact law_case22 hL hx hb hX hbl C n x3 c σ hR h0 hn h5 (fun x3 c σ a1 a2 a3 {H} {locs} a4 => ih x3 c σ a1 a2 a3 H locs a4) X ls hl
                                                  · skip
                                                    by_cases e23 : kk = (23 : Int32)
                                                    · refine lv_tableIn (tgt := 969) (off := (937)) hx hb dL_law_32 (by rw [e23]; decide) (by rw [e23]; decide) (by rw [e23]; rfl) (by decide) ?_
                                                      exact law_case23 hL hx hb hX hbl C n x3 c σ hR h0 hn h5 (fun x3 c σ a1 a2 a3 {H} {locs} a4 => ih x3 c σ a1 a2 a3 H locs a4) X ls hl
                                                    · skip
                                                      refine lv_tableOut (tgt := 983) hx hb dL_law_32 (by have t0 := i32_ne e0; have t1 := i32_ne e1; have t2 := i32_ne e2; have t3 := i32_ne e3; have t4 := i32_ne e4; have t5 := i32_ne e5; have t6 := i32_ne e6; have t7 := i32_ne e7; have t8 := i32_ne e8; have t9 := i32_ne e9; have t10 := i32_ne e10; have t11 := i32_ne e11; have t12 := i32_ne e12; have t13 := i32_ne e13; have t14 := i32_ne e14; have t15 := i32_ne e15; have t16 := i32_ne e16; have t17 := i32_ne e17; have t18 := i32_ne e18; have t19 := i32_ne e19; have t20 := i32_ne e20; have t21 := i32_ne e21; have t22 := i32_ne e22; have t23 := i32_ne e23; have q0_ : (0 : Int32).toInt = 0 := rfl; have q1_ : (1 : Int32).toInt = 1 := rfl; have q2_ : (2 : Int32).toInt = 2 := rfl; have q3_ : (3 : Int32).toInt = 3 := rfl; have q4_ : (4 : Int32).toInt = 4 := rfl; have q5_ : (5 : Int32).toInt = 5 := rfl; have q6_ : (6 : Int32).toInt = 6 := rfl; have q7_ : (7 : Int32).toInt = 7 := rfl; have q8_ : (8 : Int32).toInt = 8 := rfl; have q9_ : (9 : Int32).toInt = 9 := rfl; have q10_ : (10 : Int32).toInt = 10 := rfl; have q11_ : (11 : Int32).toInt = 11 := rfl; have q12_ : (12 : Int32).toInt = 12 := rfl; have q13_ : (13 : Int32).toInt = 13 := rfl; have q14_ : (14 : Int32).toInt = 14 := rfl; have q15_ : (15 : Int32).toInt = 15 := rfl; have q16_ : (16 : Int32).toInt = 16 := rfl; have q17_ : (17 : Int32).toInt = 17 := rfl; have q18_ : (18 : Int32).toInt = 18 := rfl; have q19_ : (19 : Int32).toInt = 19 := rfl; have q20_ : (20 : Int32).toInt = 20 := rfl; have q21_ : (21 : Int32).toInt = 21 := rfl; have q22_ : (22 : Int32).toInt = 22 := rfl; have q23_ : (23 : Int32).toInt = 23 := rfl; omega) (by decide) ?_
                                                      refine lv_iinc (v := (x3 + 5)) (lv' := [(3, .int (x3 + 5)), (0, .ref b), (1, .ref (aC 0)), (2, .ref (aR 0))]) hx hb dL_law_983 hl (k := 3) rfl rfl (by decide) rfl (fun ls hl => ?_)
                                                      refine lv_goto (tgt := 18) hx hb dL_law_986 (by decide) ?_
                                                      exact ih (x3 + 5) _ _ hR (sc_nn h0 h5) (sc_ms h0 h5 hn) _ _ X ls (lv_sub hl [1, 2, 3, 0] rfl)
theorem Sx_new {D : va_G} {A : Nat → Prop} {s : State} {H H1 : Heap} {locs locs2 : List Loc} {w1 w2 w3 : va_W} (X : Sx A D (w1 ++ w2) s H locs) (hP : va_P D vwCl w3 H1) (hD : va_D (va_A w2 H.size) w3) (hk : ∀ q : Nat, q < H.size → ¬ va_A w2 H.size q → H1[q]? = H[q]?) (hS : va_S A s.heap H1 locs2) (hA : ∀ q, s.heap.size ≤ q → A q := by exact fun _ h => h) : Sx A D (w1 ++ w3) s H1 locs2 := by
  have out : ∀ (k : Nat) (q : Nat × va_E), w1[k]? = some q → q.1 < H.size ∧ ¬ va_A w2 H.size q.1 := by
    intro k q hq
    have h3 : (w1 ++ w2)[k]? = some q := ap_left hq
    have h4 := X.1 _ q h3
    refine ⟨h4.lt, ?_⟩
    rintro (⟨k2, e2, h5⟩ | h5)
    · have h6 := X.2.1.1 _ _ q (q.1, e2) h3 (ap_right h5) rfl
      have h7 := (List.getElem?_eq_some_iff.mp hq).1
      omega
    · exact absurd h4.lt (Nat.not_lt.mpr h5)
  refine ⟨fun k q hq => ?_, ⟨fun i j p q hi hj e => ?_, fun k q hq => ?_⟩, hS⟩
  · rcases ap_cases hq with h | ⟨h1, h2⟩
    · have h4 := X.1 _ q (ap_left h)
      have h5 := out k q h
      exact h4.kept (hk q.1 h5.1 h5.2)
    · exact hP _ q h2
  · rcases ap_cases hi with h | ⟨h1, h2⟩ <;> rcases ap_cases hj with g | ⟨g1, g2⟩
    · exact X.2.1.1 i j p q (ap_left h) (ap_left g) e
    · exact absurd (hD.2 _ q g2) (e ▸ (out i p h).2)
    · exact absurd (hD.2 _ p h2) (e ▸ (out j q g).2)
    · have := hD.1 _ _ p q h2 g2 e
      omega
  · rcases ap_cases hq with h | ⟨h1, h2⟩
    · exact X.2.1.2 k q (ap_left h)
    · exact A_call (Sx_part2 X) hA _ (hD.2 _ q h2)
set_option maxHeartbeats 4000000 in
set_option maxRecDepth 100000 in
theorem whole_start {p : Program} {e : Env} {s : State} {m : MethodId} {below : List Frame} {meth : Method} {c : Code} (l : Launch) (hflags : l.flags = flags0) {b L : Nat} {xs : Nat → Int32} (hL : L ≤ 2560) (C0 : lw_At p s m meth c b L xs) : W p l e room_1 s m #[Value.ref b] below meth c s.heap [] 0 0 (lw_Z below #[Value.ref b] s) (entryFrame m ([Value.ref b] : List Value).toArray 4) := by
  obtain ⟨hx, hb, hr, hml, hown, htb, hX, hbl, hlocks, hgv⟩ := id C0
  have hts : ∀ w ∈ WW, w.before #[Value.ref b] s = true := fun w hw => htb w (List.mem_filter.mp hw).1
  have hN : NWs s := fun w hw => by
    have h1 := htb w (NWl_in w hw)
    simp only [NWl, List.mem_cons, List.not_mem_nil, or_false] at hw
    rcases hw with rfl | rfl | rfl | rfl | rfl | rfl | rfl | rfl | rfl | rfl | rfl | rfl <;> exact va_Nw.of rfl h1
  have hA : ∀ q : Nat, s.heap.size ≤ q → (fun q : Nat => s.heap.size ≤ q) q := fun _ h => h
  obtain ⟨c0_, i0_, hKn0⟩ := u_known (C := RX0) (T := TX0) (N := 3) (n := 3) hts wx_X0 (hts _ wn_X0)
  obtain ⟨c1_, i1_, hKn1⟩ := u_known (C := RX1) (T := TX1) (N := 3) (n := 3) hts wx_X1 (hts _ wn_X1)
  obtain ⟨c2_, i2_, hKn2⟩ := u_known (C := RX2) (T := TX2) (N := 3) (n := 3) hts wx_X2 (hts _ wn_X2)
  obtain ⟨c3_, i3_, hKn3⟩ := u_known (C := RX3) (T := TX3) (N := 3) (n := 3) hts wx_X3 (hts _ wn_X3)
  obtain ⟨c4_, i4_, hKn4⟩ := u_known (C := RX4) (T := TX4) (N := 8) (n := 8) hts wx_X4 (hts _ wn_X4)
  obtain ⟨c5_, i5_, hKn5⟩ := u_known (C := RX5) (T := TX5) (N := 13) (n := 13) hts wx_X5 (hts _ wn_X5)
  obtain ⟨c6_, i6_, hKn6⟩ := u_known (C := RX6) (T := TX6) (N := 30) (n := 30) hts wx_X6 (hts _ wn_X6)
  obtain ⟨dC, dI, hKc⟩ : ∃ (dC : Nat → ClassId) (dI : Nat → Nat → Nat), ∀ (k : Nat) (q : vw_C), vwCl[k]? = some q → u_Kn s q.1 q.2.1 q.2.2 (dC k) (dI k) := by
    refine ⟨fun k => match k with | 0 => c0_ | 1 => c1_ | 2 => c2_ | 3 => c3_ | 4 => c4_ | 5 => c5_ | _ => c6_, fun k => match k with | 0 => i0_ | 1 => i1_ | 2 => i2_ | 3 => i3_ | 4 => i4_ | 5 => i5_ | _ => i6_, ?_⟩
    intro k q hq
    match k, hq with
    | 0, hq => cases hq; exact hKn0
    | 1, hq => cases hq; exact hKn1
    | 2, hq => cases hq; exact hKn2
    | 3, hq => cases hq; exact hKn3
    | 4, hq => cases hq; exact hKn4
    | 5, hq => cases hq; exact hKn5
    | 6, hq => cases hq; exact hKn6
    | k + 7, hq => simp [vwCl] at hq
  have hS : va_S (fun q : Nat => s.heap.size ≤ q) s.heap s.heap [] := va_S.rf
  have hK : va_K (dC, dI) vwCl [] s := ⟨hKc, fun k q h => by simp at h⟩
  have hP : va_P (dC, dI) vwCl [] s.heap := fun k q h => by simp at h
  have hD : va_D (fun q : Nat => s.heap.size ≤ q) [] := ⟨fun i j p q h => by simp at h, fun k q h => by simp at h⟩
  have hl := lv_entry ([.ref b]) (n := 4) (Nat.le_of_ble_eq_true rfl)
  rw [lg_entry_eq]
  generalize (lg_sl ([.ref b]) ++ List.replicate (4 - (lg_sl ([.ref b])).length) Slot.unset).toArray = ls at hl ⊢
  have hl : lv_has ls 4 [(0, .ref b)] := hl
  refine va_new (ci := 5) (fs := [.null, .null, .null, .null, .null, .int 0, .int 0, .int 0, .int 0, .int 0, .int 0, .int 0, .int 0]) (C := RX5) (T := TX5) (N := 13) hx hb hts wx_X5 tyX5 tyX5_ok hown (hts _ wc_L_7) (hts _ wn_X5) (hts _ wi_X5) hK hP hD hS hA rfl (fun j hj => by rcases (show j = 0 ∨ j = 1 ∨ j = 2 ∨ j = 3 ∨ j = 4 ∨ j = 5 ∨ j = 6 ∨ j = 7 ∨ j = 8 ∨ j = 9 ∨ j = 10 ∨ j = 11 ∨ j = 12 by omega) with rfl | rfl | rfl | rfl | rfl | rfl | rfl | rfl | rfl | rfl | rfl | rfl | rfl <;> rfl) (Nat.le_of_ble_eq_true rfl) (Nat.le_of_ble_eq_true rfl) dL_law_0 (fun q5 H hP hD hS => ?_)
  have hP : va_P (dC, dI) vwCl [(q5, .inr (5, [.null, .null, .null, .null, .null, .int 0, .int 0, .int 0, .int 0, .int 0, .int 0, .int 0, .int 0]))] H := hP
  have hD : va_D (fun q : Nat => s.heap.size ≤ q) [(q5, .inr (5, [.null, .null, .null, .null, .null, .int 0, .int 0, .int 0, .int 0, .int 0, .int 0, .int 0, .int 0]))] := hD
  refine W.widen (k := 1) (n := 13) (Nat.le_of_ble_eq_true rfl) (Nat.le_of_ble_eq_true rfl) ?_
  refine lv_dup hx hb dL_law_3 rfl ?_
  have hFc := va_free (wc := [(q5, .inr (5, [.null, .null, .null, .null, .null, .int 0, .int 0, .int 0, .int 0, .int 0, .int 0, .int 0, .int 0]))]) hD hS hA [0] rfl
  refine va_callv (va_runI (As := []) (rest := [.ref q5]) ⟨hx, hb, hml, hown, hts⟩ (kX5_init l (dC, dI) q5 H.size) (cwI 0 hts (gCode wk_yX5_init) rfl rfl rfl (hts _ wi_X5) (hts _ wl_L_9) (hts _ wt_yX5_init) rfl hdX5_init ⟨Nat.le_of_ble_eq_true rfl, Nat.le_of_ble_eq_true rfl⟩) ⟨Pc_blind, fun U hU hW => ⟨rfl, by rw [hU], by rw [hU]; exact hP, va_K.moved hW.alike hK, NWs_warm hW hN, hD.weaken (fun _ _ _ _ => trivial)⟩⟩ rfl rfl hl.1 rfl (lv_room (Nat.le_of_ble_eq_true rfl)) dL_law_4 ⟨Nat.le_of_ble_eq_true rfl, Nat.le_of_ble_eq_true rfl⟩) hS (fun q _ h => hFc q h) hFc (fun u t H1 locs ht hvm hw hB hz1 hk1 hS => ?_)
  obtain ⟨aC, cI, cZ, hC0, hP1, hK1, hD1⟩ := hB
  rw [ht] at hP1
  have hKZ : va_K (dC, dI) vwCl (tyIZ cI cZ) s := va_K.moved hvm.symm hK1
  have hDZ : va_D (fun q : Nat => s.heap.size ≤ q) (wC aC cI cZ (fX5_empty c0 0 0)) := hD1.weaken (fun _ _ _ h => hFc _ h)
  refine W.widen (k := 20) (n := 2071) (Nat.le_of_ble_eq_true rfl) (Nat.le_of_ble_eq_true rfl) ?_
  subst hC0
  refine lv_astore_n (lv' := [(1, .ref (aC 0)), (0, .ref b)]) hx hb dL_law_7 rfl hl (by decide) rfl (fun ls hl => ?_)
  refine va_new (ci := 6) (fs := [.int 0, .int 0, .int 0, .null, .null, .null, .null, .null, .null, .null, .null, .null, .int 0, .null, .null, .int 0, .null, .null, .null, .int 0, .int 0, .int 0, .int 0, .int 0, .int 0, .int 0, .int 0, .int 0, .null, .int 0]) (C := RX6) (T := TX6) (N := 30) hx hb hts wx_X6 tyX6 tyX6_ok hown (hts _ wc_L_10) (hts _ wn_X6) (hts _ wi_X6) hKZ hP1 hDZ hS hA rfl (fun j hj => by rcases (show j = 0 ∨ j = 1 ∨ j = 2 ∨ j = 3 ∨ j = 4 ∨ j = 5 ∨ j = 6 ∨ j = 7 ∨ j = 8 ∨ j = 9 ∨ j = 10 ∨ j = 11 ∨ j = 12 ∨ j = 13 ∨ j = 14 ∨ j = 15 ∨ j = 16 ∨ j = 17 ∨ j = 18 ∨ j = 19 ∨ j = 20 ∨ j = 21 ∨ j = 22 ∨ j = 23 ∨ j = 24 ∨ j = 25 ∨ j = 26 ∨ j = 27 ∨ j = 28 ∨ j = 29 by omega) with rfl | rfl | rfl | rfl | rfl | rfl | rfl | rfl | rfl | rfl | rfl | rfl | rfl | rfl | rfl | rfl | rfl | rfl | rfl | rfl | rfl | rfl | rfl | rfl | rfl | rfl | rfl | rfl | rfl | rfl <;> rfl) (Nat.le_of_ble_eq_true rfl) (Nat.le_of_ble_eq_true rfl) dL_law_8 (fun q6 H hP hD hS => ?_)
  refine W.widen (k := 21) (n := 2101) (Nat.le_of_ble_eq_true rfl) (Nat.le_of_ble_eq_true rfl) ?_
  refine lv_dup hx hb dL_law_11 rfl ?_
  have X : Sx (fun q : Nat => s.heap.size ≤ q) (dC, dI) (wC aC cI cZ (fX5_empty c0 0 0) ++ [(q6, .inr (6, [.int 0, .int 0, .int 0, .null, .null, .null, .null, .null, .null, .null, .null, .null, .int 0, .null, .null, .int 0, .null, .null, .null, .int 0, .int 0, .int 0, .int 0, .int 0, .int 0, .int 0, .int 0, .int 0, .null, .int 0]))]) s H locs := ⟨hP, hD, hS⟩
  have X2 := Sx_part2 X
  have hFc := A_call X2 hA
  refine va_callv (va_runI (As := []) (rest := [.ref q6]) ⟨hx, hb, hml, hown, hts⟩ (kX6_init l (dC, dI) q6 H.size) (cwI 0 hts (gCode wk_yX6_init) rfl rfl rfl (hts _ wi_X6) (hts _ wl_L_12) (hts _ wt_yX6_init) rfl hdX6_init ⟨Nat.le_of_ble_eq_true rfl, Nat.le_of_ble_eq_true rfl⟩) ⟨Pc_blind, fun U hU hW => ⟨rfl, by rw [hU], by rw [hU]; exact X2.1, va_K.moved hW.alike (hKZ.sub (tys' := []) [] rfl), NWs_warm hW hN, X2.2.1.weaken (fun _ _ _ _ => trivial)⟩⟩ rfl rfl hl.1 rfl (lv_room (Nat.le_of_ble_eq_true rfl)) dL_law_12 ⟨Nat.le_of_ble_eq_true rfl, Nat.le_of_ble_eq_true rfl⟩) hS (fun q _ h => hFc q h) hFc (fun u t H1 locs ht hvm hw hB hz1 hk1 hS => ?_)
  obtain ⟨aR, cI2, cZ2, hC0, hP2, hK2, hD2⟩ := hB
  rw [ht] at hP2
  have hK2 := va_K.moved hvm.symm hK2
  have hKK := hKZ.app hK2
  have ec := kx_int hKK 0 2 rfl rfl
  subst ec
  have ec := kx_bool hKK 1 3 rfl rfl
  subst ec
  subst hC0
  refine W.widen (k := 36) (n := 3827) (Nat.le_of_ble_eq_true rfl) (Nat.le_of_ble_eq_true rfl) ?_
  have X : Sx (fun q : Nat => s.heap.size ≤ q) (dC, dI) (wC aC cI cZ (fX5_empty c0 0 0) ++ wR aR cI cZ (fX6_empties r0)) s H1 locs := Sx_new X hP2 hD2 hk1 hS
  refine lv_astore_n (lv' := [(2, .ref (aR 0)), (1, .ref (aC 0)), (0, .ref b)]) hx hb dL_law_15 rfl hl (by decide) rfl (fun ls hl => ?_)
  refine lv_iconst (v := 0) hx hb dL_law_16 (by decide) ?_
  refine lv_istore_n (lv' := [(3, .int 0), (2, .ref (aR 0)), (1, .ref (aC 0)), (0, .ref b)]) hx hb dL_law_17 rfl hl (by decide) rfl (fun ls hl => ?_)
  exact law_loop hL hx hb hr hlocks hX hbl ⟨hx, hb, hml, hown, hts, hKZ, hN⟩ (L + 1) 0 _ _ rel_0 (by decide) (by have q : (0 : Int32).toInt = 0 := rfl; omega) _ _ X ls (lv_sub hl [3, 2, 1, 0] rfl)

set_option maxHeartbeats 4000000 in
theorem lw_walk (l : Launch) (hflags : l.flags = flags0) (b : Addr) (xs : List Int32) : MetFree l x (headSpec (Jvm.Cond.code x code maxLocals ret :: tables_1) room_1) (lw_P b xs) (fun _ _ _ _ _ => True) lw_Q := by
  refine MetFree.of_bodyS (code := code) (maxLocals := maxLocals) (ret := ret) (by decide) ?_ ?_
  · intro args s m h hn
    obtain ⟨meth, c, h1, h2, h3, h4, h5, h6, -, -⟩ := Cond.code_spec hn (atoms_spec (ws := Jvm.Cond.code x code maxLocals ret :: tables_1) h _ List.mem_cons_self)
    exact ⟨meth, c, h1, h2, h3, h4, h5, h6⟩
  · intro p e s m args below meth c s₁ B hml0 hP _
    obtain ⟨rfl, hx, hbd, hgv⟩ := hP
    obtain ⟨scr, harrAt, hlist, hof, hsmall⟩ := hx
    obtain ⟨hcb, hkn, -, -⟩ := State.arrayAt?_spec harrAt
    have hown : s.vm.findClass R_law = some m.cls := findClass_of_methodNamed B.named
    have hts0 : ∀ c ∈ (Jvm.Cond.code x code maxLocals ret :: tables_1), c.before #[Value.ref b] s = true := atoms_spec (ws := Jvm.Cond.code x code maxLocals ret :: tables_1) B.pre
    have hts : ∀ w ∈ lw_tbl, w.before #[Value.ref b] s = true := k2_hts_sels lw_privs (fun w hw => hts0 w (List.mem_cons_of_mem _ hw)) lw_privs_ok
    have hml : c.maxLocals = 4 := B.maxLocals_eq (hts0 _ List.mem_cons_self)
    have X₀ : Stand p l e room_1 s m #[Value.ref b] below meth c s₁ [] 0 0 := Stand.of_body B
    have hh0 : s₁.heap = s.heap := by rw [B.state]; rfl
    have hsz : scr.slots.size = xs.length := by rw [← Array.length_toList, hlist, List.length_map]
    have hval : ∀ j : Nat, j < xs.length → scr.slots[j]? = some (.int (xs.getD j 0)) := fun j hj => by
      rw [← Array.getElem?_toList, hlist]
      simp [hj]
    have hbl : b < s.heap.size := (Array.getElem?_eq_some_iff.mp hcb).1
    have hX : va_X b xs.length (fun j => xs.getD j 0) s s.heap := ⟨scr, hcb, hof, hkn, hsz, hval⟩
    have K : W p l e room_1 s m #[Value.ref b] below meth c s₁.heap [] 0 0 (lw_Z below #[Value.ref b] s) (entryFrame m ([Value.ref b] : List Value).toArray 4) := by
      rw [hh0]
      exact whole_start l hflags hbd ⟨B.exec, B.bytes, B.returns, hml, hown, hts, hX, hbl, B.notSynchronized, hgv⟩
    obtain ⟨t, a1, o, b1, b2, b3⟩ := K s₁ rfl X₀
    exact ⟨t, o, a1, b1, b2, b3⟩
theorem lw_pre_spec {args : Array Value} {s : State} (h : (Jvm.Cond.and given_1 narrow_1).before args s = true) (hr : rest_1_c.before args s = true) : ∃ (b : Addr) (xs : List Int32), lw_P b xs args s := by
  have hs := flat_of_before _ h
  have hq := flat_of_before _ hr
  have hc : (Cond.count 1).before args s = true := hs _ (by decide +kernel)
  have harr : (Cond.arrayOf (.arg 0) .int).before args s = true := hs _ (by decide +kernel)
  have hle : (Cond.le (.length (.arg 0)) (.int 2560)).before args s = true := hs _ (by decide +kernel)
  have hlen : (Cond.isInt (.length (.arg 0))).before args s = true := hq _ (by decide +kernel)
  have hall : (Cond.all (.arg 0) (.isInt (.elem (.arg 0) (.index 0)))).before args s = true := hq _ (by decide +kernel)
  obtain ⟨b, xs, hb, hx⟩ := State.ints_of_pre rfl harr hlen hall
  have hsm : xs.length < 2 ^ 31 := hx.choose_spec.2.2.2
  have hev : (Term.length (.arg 0)).eval args s none [] s = some (.int xs.length.toInt32) := hx.length_eval hb
  have hv := Cond.le_ints hev (show (Term.int 2560).eval args s none [] s = some (.int 2560) from rfl)
  have hd : xs.length.toInt32 ≤ 2560 := by
    simpa [Cond.before, Cond.holds, hv] using hle
  have hN : xs.length ≤ 2560 := (Int32.ofNat_le_ofNat hsm (by decide)).mp (show Int32.ofNat xs.length ≤ Int32.ofNat 2560 from hd)
  exact ⟨b, xs, Cond.one_arg hc (show args[0]? = some (.ref b) from hb), hx, hN, h⟩
theorem lw_comes (l : Launch) (hflags : l.flags = flags0) : Comes l x (Jvm.Cond.code x code maxLocals ret :: tables_1) room_1 (fun tb e args s => Calls_1 tb e args s ∧ rest_1 tb e args s ∧ Pre_1 tb e args s)
    (fun _ _ args s o t => lw_Q args s o t) := by
  intro p e ha hc hk s m args below hf hfit hheap happ hpre
  obtain ⟨b, xs, hP⟩ := lw_pre_spec hpre.2.2 hpre.2.1
  obtain ⟨k, o, h1, h2, h3, hQ⟩ := lw_walk l hflags b xs p e ha hc hk s m args below hf ((Spec.applies_iff_loose hf).mp happ).1 hP trivial
  exact ⟨k, o, h1, h2, h3, hQ⟩
theorem lw_frame {s t : State} {o : Outcome} {args : Array Value} (h : Framed s o t [] 36 3827) :
    Framed s o t (fieldLocs frame_1_writes args s ++ arrayLocs frame_1_arrays args s ++ staticLocs frame_1_statics s) 36 3827 := h
theorem lw_limb (L : Cond) (hL : ∀ (args : Array Value) (s t : State), L.after args s (.returned (some (.int 1))) t = true) :
    ArmFor flags0 classFile x code maxLocals ret World_1 tables_1 room_1 Calls_1 rest_1 Pre_1
      (fun tb e a s o t => postC L tb e a s o t ∧ Framed s o t (fieldLocs frame_1_writes a s ++ arrayLocs frame_1_arrays a s ++ staticLocs frame_1_statics s) 36 3827) := by
  intro l hflags _ _ p e ha hc hk s m args below hf hfit hheap happ hpre
  obtain ⟨k, o, h1, h2, h3, rfl, hF⟩ := lw_comes l hflags p e ha hc hk s m args below hf hfit hheap happ hpre
  exact ⟨k, _, h1, h2, h3, hL args s _, lw_frame hF⟩
theorem i_vc : Claimed_1_1 ∧ Claimed_1_2 := ⟨lw_limb limb_1_1 (fun args s t => by simp [limb_1_1, Cond.after, Cond.holds, Cond.value]), lw_limb limb_1_2 (fun args s t => Cond.after_iff.mpr (by
  first | (rw [show limb_1_2 = Cond.eq .result (.int 1) from rfl, Cond.eq_ints (x := 1) (y := 1) rfl rfl]; simp; done) | (simp [limb_1_2, Cond.value, Term.eval]; done)))⟩

