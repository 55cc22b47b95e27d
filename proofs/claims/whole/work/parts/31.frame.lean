section FR
variable {p : Program} {l : Launch} {e : Env} {R : Room} {s : State} {m : MethodId} {args : Array Value} {below : List Frame} {meth : Method} {c : Code} {H : Heap} {locs : List Loc} {cells slots : Nat} {Q : State → Prop}
variable {cc : ByteArray} {nL : Nat} {own : String} {D : va_G} {tys : List (ClassId × FieldType)} {A : Nat → Prop} {pc : Nat} {ls : Array Slot} {rest : List Value}
theorem ap_left {w1 w2 : va_W} {k : Nat} {q : Nat × va_E} (h : w1[k]? = some q) : (w1 ++ w2)[k]? = some q := by
  rw [List.getElem?_append_left (List.getElem?_eq_some_iff.mp h).1]
  exact h
theorem ap_right {w1 w2 : va_W} {k : Nat} {q : Nat × va_E} (h : w2[k]? = some q) : (w1 ++ w2)[w1.length + k]? = some q := by
  rw [List.getElem?_append_right (by omega), show w1.length + k - w1.length = k by omega]
  exact h
theorem ap_cases {w1 w2 : va_W} {k : Nat} {q : Nat × va_E} (h : (w1 ++ w2)[k]? = some q) : w1[k]? = some q ∨ (w1.length ≤ k ∧ w2[k - w1.length]? = some q) := by
  rcases Nat.lt_or_ge k w1.length with hk | hk
  · rw [List.getElem?_append_left hk] at h
    exact Or.inl h
  · rw [List.getElem?_append_right hk] at h
    exact Or.inr ⟨hk, h⟩
theorem Sx_part1 {w1 w2 : va_W} (X : Sx A D (w1 ++ w2) s H locs) : Sx A D w1 s H locs := ⟨fun k q hk => X.1 k q (ap_left hk), ⟨fun i j p q hi hj e => X.2.1.1 i j p q (ap_left hi) (ap_left hj) e, fun k q hk => X.2.1.2 k q (ap_left hk)⟩, X.2.2⟩
theorem Sx_part2 {w1 w2 : va_W} (X : Sx A D (w1 ++ w2) s H locs) : Sx A D w2 s H locs := ⟨fun k q hk => X.1 _ q (ap_right hk), ⟨fun i j p q hi hj e => by have := X.2.1.1 _ _ p q (ap_right hi) (ap_right hj) e; omega, fun k q hk => X.2.1.2 _ q (ap_right hk)⟩, X.2.2⟩
theorem Sx_join1 {w1 w1' w2 : va_W} (hsh : w1.map Prod.fst = w1'.map Prod.fst) (X : Sx A D (w1 ++ w2) s H locs) {H1 : Heap} {locs1 : List Loc} (hB : va_P D vwCl w1' H1) (hk : ∀ q : Nat, q < H.size → ¬ va_A w1 H.size q → H1[q]? = H[q]?) (hS : va_S A s.heap H1 locs1) : Sx A D (w1' ++ w2) s H1 locs1 := by
  have hlen : w1.length = w1'.length := by have := congrArg List.length hsh; simpa using this
  refine ⟨fun k q hq => ?_, va_D_sh (by simp [hsh]) X.2.1, hS⟩
  rcases ap_cases hq with h | ⟨h1, h2⟩
  · exact hB k q h
  · have h3 : (w1 ++ w2)[w1.length + (k - w1'.length)]? = some q := ap_right h2
    have h4 := X.1 _ q h3
    refine h4.kept (hk q.1 h4.lt ?_)
    rintro (⟨k2, e2, h5⟩ | h5)
    · have h6 := X.2.1.1 _ _ q (q.1, e2) h3 (ap_left h5) rfl
      have h7 := (List.getElem?_eq_some_iff.mp h5).1
      omega
    · exact absurd h4.lt (Nat.not_lt.mpr h5)
theorem Sx_join2 {w1 w2 w2' : va_W} (hsh : w2.map Prod.fst = w2'.map Prod.fst) (X : Sx A D (w1 ++ w2) s H locs) {H1 : Heap} {locs1 : List Loc} (hB : va_P D vwCl w2' H1) (hk : ∀ q : Nat, q < H.size → ¬ va_A w2 H.size q → H1[q]? = H[q]?) (hS : va_S A s.heap H1 locs1) : Sx A D (w1 ++ w2') s H1 locs1 := by
  refine ⟨fun k q hq => ?_, va_D_sh (by simp [hsh]) X.2.1, hS⟩
  rcases ap_cases hq with h | ⟨h1, h2⟩
  · have h3 : (w1 ++ w2)[k]? = some q := ap_left h
    have h4 := X.1 _ q h3
    refine h4.kept (hk q.1 h4.lt ?_)
    rintro (⟨k2, e2, h5⟩ | h5)
    · have h6 := X.2.1.1 _ _ q (q.1, e2) h3 (ap_right h5) rfl
      have h7 := (List.getElem?_eq_some_iff.mp h).1
      omega
    · exact absurd h4.lt (Nat.not_lt.mpr h5)
  · exact hB _ q h2
theorem callL1R (C : Cx p s m args meth c cc nL own D tys) (hA : ∀ q, s.heap.size ≤ q → A q) {S1 S2 : Type} {w1 : S1 → va_W} {w2 : S2 → va_W} (hsh : ∀ u v, (w1 u).map Prod.fst = (w1 v).map Prod.fst) {σ : S1} {υ : S2} {τ : S1} (X : Sx A D (w1 σ ++ w2 υ) s H locs) {y : MethodName} {b : ByteArray} {n na index : Nat} {rt : FieldType} {rm : Room} {val : Int32} {Cc : String} {r q0 ci NN : Nat} {TT : u_T} {As : List Value} {fs : List Value}
    (hM : CR l D tys w1 y b n rt rm (.ref r :: As) σ val τ) (cw : CallW R s args own Cc index y b n (some rt) (.code y b n (some rt) :: WW) rm 0 0 na)
    (hc : vwCl[ci]? = some (Cc, TT, NN)) (he : (w1 σ)[q0]? = some (r, .inr (ci, fs))) (hn : As.length = na) (hls : ls.size = nL) {st : List Value} (hst : st = As.reverse ++ .ref r :: rest) (hcat : (rest.map fun v => v.category).sum ≤ 8) (hd : decode cc pc = .ok (.invokevirtual index, 3)) (hcs : cells ≤ R.cells ∧ slots ≤ R.slots)
    (k : ∀ (H1 : Heap) (locs1 : List Loc), Sx A D (w1 τ ++ w2 υ) s H1 locs1 → W p l e R s m args below meth c H1 locs1 cells slots Q (F0 m (pc + 3) ls (.int val :: rest))) : W p l e R s m args below meth c H locs cells slots Q (F0 m pc ls st) := by
  subst hst
  have X1 := Sx_part1 X
  refine va_calli (va_runV (As := As) (rest := rest) (g := F0 m pc ls (As.reverse ++ .ref r :: rest)) ⟨C.1, C.2.1, C.2.2.1, C.2.2.2.1, C.2.2.2.2.1⟩ (hM H.size) cw ⟨Pc_blind, va_recv C.2.2.2.2.2.1 X1.1 hc he, Pc_call C X1⟩ rfl hn hls rfl (lv_room hcat) hd hcs) X.2.2 (fun q _ h => A_call X1 hA q h) (A_call X1 hA) (fun rr u t H1 locs1 ht hvm hw hB hz1 hk1 hS => ?_)
  subst hw
  subst ht
  exact k _ locs1 (Sx_join1 (hsh _ _) X hB hk1 hS)
theorem callL2R (C : Cx p s m args meth c cc nL own D tys) (hA : ∀ q, s.heap.size ≤ q → A q) {S1 S2 : Type} {w1 : S1 → va_W} {w2 : S2 → va_W} (hsh : ∀ u v, (w2 u).map Prod.fst = (w2 v).map Prod.fst) {σ : S1} {υ : S2} {τ : S2} (X : Sx A D (w1 σ ++ w2 υ) s H locs) {y : MethodName} {b : ByteArray} {n na index : Nat} {rt : FieldType} {rm : Room} {val : Int32} {Cc : String} {r q0 ci NN : Nat} {TT : u_T} {As : List Value} {fs : List Value}
    (hM : CR l D tys w2 y b n rt rm (.ref r :: As) υ val τ) (cw : CallW R s args own Cc index y b n (some rt) (.code y b n (some rt) :: WW) rm 0 0 na)
    (hc : vwCl[ci]? = some (Cc, TT, NN)) (he : (w2 υ)[q0]? = some (r, .inr (ci, fs))) (hn : As.length = na) (hls : ls.size = nL) {st : List Value} (hst : st = As.reverse ++ .ref r :: rest) (hcat : (rest.map fun v => v.category).sum ≤ 8) (hd : decode cc pc = .ok (.invokevirtual index, 3)) (hcs : cells ≤ R.cells ∧ slots ≤ R.slots)
    (k : ∀ (H1 : Heap) (locs1 : List Loc), Sx A D (w1 σ ++ w2 τ) s H1 locs1 → W p l e R s m args below meth c H1 locs1 cells slots Q (F0 m (pc + 3) ls (.int val :: rest))) : W p l e R s m args below meth c H locs cells slots Q (F0 m pc ls st) := by
  subst hst
  have X1 := Sx_part2 X
  refine va_calli (va_runV (As := As) (rest := rest) (g := F0 m pc ls (As.reverse ++ .ref r :: rest)) ⟨C.1, C.2.1, C.2.2.1, C.2.2.2.1, C.2.2.2.2.1⟩ (hM H.size) cw ⟨Pc_blind, va_recv C.2.2.2.2.2.1 X1.1 hc he, Pc_call C X1⟩ rfl hn hls rfl (lv_room hcat) hd hcs) X.2.2 (fun q _ h => A_call X1 hA q h) (A_call X1 hA) (fun rr u t H1 locs1 ht hvm hw hB hz1 hk1 hS => ?_)
  subst hw
  subst ht
  exact k _ locs1 (Sx_join2 (hsh _ _) X hB hk1 hS)
theorem callL1J (C : Cx p s m args meth c cc nL own D tys) (hA : ∀ q, s.heap.size ≤ q → A q) {S1 S2 : Type} {w1 : S1 → va_W} {w2 : S2 → va_W} (hsh : ∀ u v, (w1 u).map Prod.fst = (w1 v).map Prod.fst) {σ : S1} {υ : S2} {τ : S1} (X : Sx A D (w1 σ ++ w2 υ) s H locs) {y : MethodName} {b : ByteArray} {n na index : Nat} {rm : Room} {val : Int64} {Cc : String} {r q0 ci NN : Nat} {TT : u_T} {As : List Value} {fs : List Value}
    (hM : CJ l D tys w1 y b n rm (.ref r :: As) σ val τ) (cw : CallW R s args own Cc index y b n (some .long) (.code y b n (some .long) :: WW) rm 0 0 na)
    (hc : vwCl[ci]? = some (Cc, TT, NN)) (he : (w1 σ)[q0]? = some (r, .inr (ci, fs))) (hn : As.length = na) (hls : ls.size = nL) {st : List Value} (hst : st = As.reverse ++ .ref r :: rest) (hcat : (rest.map fun v => v.category).sum ≤ 8) (hd : decode cc pc = .ok (.invokevirtual index, 3)) (hcs : cells ≤ R.cells ∧ slots ≤ R.slots)
    (k : ∀ (H1 : Heap) (locs1 : List Loc), Sx A D (w1 τ ++ w2 υ) s H1 locs1 → W p l e R s m args below meth c H1 locs1 cells slots Q (F0 m (pc + 3) ls (.long val :: rest))) : W p l e R s m args below meth c H locs cells slots Q (F0 m pc ls st) := by
  subst hst
  have X1 := Sx_part1 X
  refine va_calll (va_runV (As := As) (rest := rest) (g := F0 m pc ls (As.reverse ++ .ref r :: rest)) ⟨C.1, C.2.1, C.2.2.1, C.2.2.2.1, C.2.2.2.2.1⟩ (hM H.size) cw ⟨Pc_blind, va_recv C.2.2.2.2.2.1 X1.1 hc he, Pc_call C X1⟩ rfl hn hls rfl (lv_room hcat) hd hcs) X.2.2 (fun q _ h => A_call X1 hA q h) (A_call X1 hA) (fun rr u t H1 locs1 ht hvm hw hB hz1 hk1 hS => ?_)
  subst hw
  subst ht
  exact k _ locs1 (Sx_join1 (hsh _ _) X hB hk1 hS)
theorem callL2J (C : Cx p s m args meth c cc nL own D tys) (hA : ∀ q, s.heap.size ≤ q → A q) {S1 S2 : Type} {w1 : S1 → va_W} {w2 : S2 → va_W} (hsh : ∀ u v, (w2 u).map Prod.fst = (w2 v).map Prod.fst) {σ : S1} {υ : S2} {τ : S2} (X : Sx A D (w1 σ ++ w2 υ) s H locs) {y : MethodName} {b : ByteArray} {n na index : Nat} {rm : Room} {val : Int64} {Cc : String} {r q0 ci NN : Nat} {TT : u_T} {As : List Value} {fs : List Value}
    (hM : CJ l D tys w2 y b n rm (.ref r :: As) υ val τ) (cw : CallW R s args own Cc index y b n (some .long) (.code y b n (some .long) :: WW) rm 0 0 na)
    (hc : vwCl[ci]? = some (Cc, TT, NN)) (he : (w2 υ)[q0]? = some (r, .inr (ci, fs))) (hn : As.length = na) (hls : ls.size = nL) {st : List Value} (hst : st = As.reverse ++ .ref r :: rest) (hcat : (rest.map fun v => v.category).sum ≤ 8) (hd : decode cc pc = .ok (.invokevirtual index, 3)) (hcs : cells ≤ R.cells ∧ slots ≤ R.slots)
    (k : ∀ (H1 : Heap) (locs1 : List Loc), Sx A D (w1 σ ++ w2 τ) s H1 locs1 → W p l e R s m args below meth c H1 locs1 cells slots Q (F0 m (pc + 3) ls (.long val :: rest))) : W p l e R s m args below meth c H locs cells slots Q (F0 m pc ls st) := by
  subst hst
  have X1 := Sx_part2 X
  refine va_calll (va_runV (As := As) (rest := rest) (g := F0 m pc ls (As.reverse ++ .ref r :: rest)) ⟨C.1, C.2.1, C.2.2.1, C.2.2.2.1, C.2.2.2.2.1⟩ (hM H.size) cw ⟨Pc_blind, va_recv C.2.2.2.2.2.1 X1.1 hc he, Pc_call C X1⟩ rfl hn hls rfl (lv_room hcat) hd hcs) X.2.2 (fun q _ h => A_call X1 hA q h) (A_call X1 hA) (fun rr u t H1 locs1 ht hvm hw hB hz1 hk1 hS => ?_)
  subst hw
  subst ht
  exact k _ locs1 (Sx_join2 (hsh _ _) X hB hk1 hS)
end FR
