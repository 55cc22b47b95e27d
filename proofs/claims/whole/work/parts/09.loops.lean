/-- loops whose counter goes up by one to a bound -/
theorem lp_z {B x : Int32} (h : (B.toInt - x.toInt).toNat = 0) (c : ¬ B ≤ x) : False := by
  rw [Int32.le_iff_toInt_le] at c
  omega
theorem lp_s {B x : Int32} {f : Nat} (h : (B.toInt - x.toInt).toNat = f + 1) (c : B ≤ x) : False := by
  rw [Int32.le_iff_toInt_le] at c
  omega
theorem i32_1 {x B : Int32} (h : x.toInt < B.toInt) : (x + 1).toInt = x.toInt + 1 := by
  have h1 : B.toInt < 2 ^ 31 := Int32.toInt_lt B
  have h2 : -2 ^ 31 ≤ x.toInt := Int32.le_toInt x
  rw [Int32.toInt_add]
  have h3 : (1 : Int32).toInt = 1 := rfl
  rw [h3]
  have : (x.toInt + 1).bmod (2 ^ 32) = x.toInt + 1 := Int.bmod_eq_of_le (by omega) (by omega)
  exact this
theorem lp_b {B x : Int32} {f : Nat} (h : (B.toInt - x.toInt).toNat = f + 1) : (B.toInt - (x + 1).toInt).toNat = f := by
  rw [i32_1 (B := B) (by omega)]
  omega
theorem lp_nn {B x : Int32} {f : Nat} (h0 : 0 ≤ x.toInt) (h : (B.toInt - x.toInt).toNat = f + 1) : 0 ≤ (x + 1).toInt := by
  rw [i32_1 (B := B) (by omega)]
  omega
theorem lp_in {B x : Int32} {f n : Nat} (h0 : 0 ≤ x.toInt) (h : (B.toInt - x.toInt).toNat = f + 1) (hB : B.toInt ≤ n) : vp_in x n := vp_in_iff.mpr ⟨h0, by omega⟩
theorem i32_lt {x y : Int32} (h : x < y) : x.toInt < y.toInt := Int32.lt_iff_toInt_lt.mp h
theorem i32_le {x y : Int32} (h : x ≤ y) : x.toInt ≤ y.toInt := Int32.le_iff_toInt_le.mp h
theorem i32_nlt {x y : Int32} (h : ¬ x < y) : y.toInt ≤ x.toInt := by
  rw [Int32.lt_iff_toInt_lt] at h
  omega
theorem i32_nle {x y : Int32} (h : ¬ x ≤ y) : y.toInt < x.toInt := by
  rw [Int32.le_iff_toInt_le] at h
  omega
theorem nar_b {x : Int32} (h : x = 0 ∨ x = 1) : narrow .boolean (.int x) = .int x := by
  rcases h with rfl | rfl <;> rfl
theorem vnar_b {x : Int32} (h : x = 0 ∨ x = 1) : vp_nar .boolean x = x := by
  rcases h with rfl | rfl <;> rfl
theorem pnX0 : plainName RX0 = true := by decide +kernel
theorem pnX1 : plainName RX1 = true := by decide +kernel
theorem pnX2 : plainName RX2 = true := by decide +kernel
theorem pnX3 : plainName RX3 = true := by decide +kernel
theorem pnX4 : plainName RX4 = true := by decide +kernel
theorem pnX5 : plainName RX5 = true := by decide +kernel
theorem pnX6 : plainName RX6 = true := by decide +kernel
theorem i32_ne {x y : Int32} (h : ¬ x = y) : ¬ x.toInt = y.toInt := fun e => h (Int32.toInt_inj.mp e)
theorem ix_mul6 {x i : Int32} (hx : vp_in x 120) (hi : vp_in i 6) : (x * 6 + i).toInt = x.toInt * 6 + i.toInt := by
  have h1 := vp_in_iff.mp hx
  have h2 := vp_in_iff.mp hi
  have q : (6 : Int32).toInt = 6 := rfl
  rw [Int32.toInt_add, Int32.toInt_mul, q]
  have e1 : (x.toInt * 6).bmod (2 ^ 32) = x.toInt * 6 := Int.bmod_eq_of_le (by omega) (by omega)
  rw [e1]
  exact Int.bmod_eq_of_le (by omega) (by omega)
theorem in_x6 {x i : Int32} (hx : vp_in x 120) (hi : vp_in i 6) : vp_in (x * 6 + i) 720 := by
  have h1 := vp_in_iff.mp hx
  have h2 := vp_in_iff.mp hi
  rw [vp_in_iff, ix_mul6 hx hi]
  omega
theorem in_6x {x i : Int32} (hx : vp_in x 120) (hi : vp_in i 6) : vp_in (6 * x + i) 720 := by
  rw [Int32.mul_comm 6 x]
  exact in_x6 hx hi
theorem i32_p {x : Int32} (h0 : 0 ≤ x.toInt) (h1 : 0 ≤ (x + 1).toInt) : (x + 1).toInt = x.toInt + 1 := by
  rcases Int.lt_or_le x.toInt (2 ^ 31 - 1) with h | h
  · rw [Int32.toInt_add]
    exact Int.bmod_eq_of_le (by have q : (1 : Int32).toInt = 1 := rfl; omega) (by have q : (1 : Int32).toInt = 1 := rfl; omega)
  · have h2 : x.toInt < 2 ^ 31 := Int32.toInt_lt x
    have e : x.toInt = 2147483647 := by omega
    have e2 : x = 2147483647 := Int32.toInt_inj.mp (e.trans rfl)
    subst e2
    exact absurd h1 (by decide)
theorem in_16 {w : Int32} (h : vp_in w 120) : vp_in (16 + w) 136 := by
  have h1 := vp_in_iff.mp h
  have q : (16 : Int32).toInt = 16 := rfl
  rw [vp_in_iff, Int32.toInt_add, q, Int.bmod_eq_of_le (by omega) (by omega)]
  omega
theorem V_in {x : Int32} {n : Nat} (h : x = -1 ∨ vp_in x n) (c : ¬ x = -1) : vp_in x n := h.resolve_left c
theorem pe_ {α β : Type} {x : α × β} {v : α} {u : β} (h : (v, u) = x) : (v, u) = (x.1, x.2) := by
  subst h
  rfl
