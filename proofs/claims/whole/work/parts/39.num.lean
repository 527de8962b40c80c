theorem am_for {P : Nat → Prop} (n : Nat) (h0 : P n) (hs : ∀ i, i < n → P (i + 1) → P i) : ∀ i, i ≤ n → P i := by
  have key : ∀ k i, i + k = n → P i := by
    intro k
    induction k with
    | zero => intro i hi; have : i = n := hi; rw [this]; exact h0
    | succ k ih => intro i hi; exact hs i (by omega) (ih (i + 1) (by omega))
  intro i hi
  exact key (n - i) i (by omega)
theorem am_vin {x : Int32} {n : Nat} (h : x < 0 ∨ n ≤ x.toNatClampNeg → False) : vp_in x n := h
theorem am_o0 : Int32.ofInt 0 = 0 := rfl
theorem am_o1 : Int32.ofInt 1 = 1 := rfl
theorem am_o2 : Int32.ofInt 2 = 2 := rfl
theorem am_o3 : Int32.ofInt 3 = 3 := rfl
theorem am_o4 : Int32.ofInt 4 = 4 := rfl
theorem am_o5 : Int32.ofInt 5 = 5 := rfl
theorem am_o6 : Int32.ofInt 6 = 6 := rfl
theorem am_o7 : Int32.ofInt 7 = 7 := rfl
theorem am_o8 : Int32.ofInt 8 = 8 := rfl
theorem am_o9 : Int32.ofInt 9 = 9 := rfl
theorem am_o10 : Int32.ofInt 10 = 10 := rfl
theorem am_o11 : Int32.ofInt 11 = 11 := rfl
theorem am_o12 : Int32.ofInt 12 = 12 := rfl
theorem am_o13 : Int32.ofInt 13 = 13 := rfl
theorem am_o14 : Int32.ofInt 14 = 14 := rfl
theorem am_o15 : Int32.ofInt 15 = 15 := rfl
theorem am_o16 : Int32.ofInt 16 = 16 := rfl
theorem am_o17 : Int32.ofInt 17 = 17 := rfl
theorem am_o18 : Int32.ofInt 18 = 18 := rfl
theorem am_o19 : Int32.ofInt 19 = 19 := rfl
theorem am_o20 : Int32.ofInt 20 = 20 := rfl
theorem am_o21 : Int32.ofInt 21 = 21 := rfl
theorem am_o22 : Int32.ofInt 22 = 22 := rfl
theorem am_o23 : Int32.ofInt 23 = 23 := rfl
theorem am_o24 : Int32.ofInt 24 = 24 := rfl
theorem am_o25 : Int32.ofInt 25 = 25 := rfl
theorem am_o26 : Int32.ofInt 26 = 26 := rfl
theorem am_o27 : Int32.ofInt 27 = 27 := rfl
theorem am_lt (a b : Int32) : a < b ↔ a.toInt < b.toInt := Int32.lt_iff_toInt_lt
theorem am_le (a b : Int32) : a ≤ b ↔ a.toInt ≤ b.toInt := Int32.le_iff_toInt_le
theorem am_eq (a b : Int32) : a = b ↔ a.toInt = b.toInt := Int32.toInt_inj.symm
theorem am_rng (x : Int32) : -2147483648 ≤ x.toInt ∧ x.toInt < 2147483648 := by
  have h1 := x.le_toInt
  have h2 := x.toInt_lt
  omega
theorem am_add {x y : Int32} (h1 : -2147483648 ≤ x.toInt + y.toInt) (h2 : x.toInt + y.toInt < 2147483648) : (x + y).toInt = x.toInt + y.toInt := by
  rw [Int32.toInt_add, Int.bmod_eq_of_le (by omega) (by omega)]
theorem am_sub {x y : Int32} (h1 : -2147483648 ≤ x.toInt - y.toInt) (h2 : x.toInt - y.toInt < 2147483648) : (x - y).toInt = x.toInt - y.toInt := by
  rw [Int32.toInt_sub, Int.bmod_eq_of_le (by omega) (by omega)]
theorem am_nI {n : Nat} (h : n < 2147483648) : (nI n).toInt = n := nI_toInt (by omega)
theorem am_in {x : Int32} {n : Nat} : vp_in x n ↔ 0 ≤ x.toInt ∧ x.toInt < n := vp_in_iff
theorem am_tn {x : Int32} (h : 0 ≤ x.toInt) : (x.toNatClampNeg : Int) = x.toInt := by
  show ((x.toInt.toNat : Nat) : Int) = x.toInt
  omega
theorem am_of {x : Int32} (h : 0 ≤ x.toInt) : nI x.toNatClampNeg = x := by
  have h1 := am_tn h
  have h2 := am_rng x
  apply Int32.toInt_inj.mp
  rw [am_nI (by omega), h1]
theorem am_t0 : Int32.toNatClampNeg 0 = 0 := rfl
theorem am_t1 : Int32.toNatClampNeg 1 = 1 := rfl
theorem am_t2 : Int32.toNatClampNeg 2 = 2 := rfl
theorem am_t3 : Int32.toNatClampNeg 3 = 3 := rfl
theorem am_t4 : Int32.toNatClampNeg 4 = 4 := rfl
theorem am_t5 : Int32.toNatClampNeg 5 = 5 := rfl
theorem am_t6 : Int32.toNatClampNeg 6 = 6 := rfl
theorem am_t7 : Int32.toNatClampNeg 7 = 7 := rfl
theorem am_t8 : Int32.toNatClampNeg 8 = 8 := rfl
theorem am_t9 : Int32.toNatClampNeg 9 = 9 := rfl
theorem am_t10 : Int32.toNatClampNeg 10 = 10 := rfl
theorem am_t11 : Int32.toNatClampNeg 11 = 11 := rfl
theorem am_up_ap (h : am_H) (i k : Nat) (v : Int32) (a b : Nat) : am_up h i k v a b = if a = i then (if b = k then v else h a b) else h a b := rfl
