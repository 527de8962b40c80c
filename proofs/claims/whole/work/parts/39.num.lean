theorem am_for {P : Nat → Prop} (n : Nat) (h0 : P n) (hs : ∀ i, i < n → P (i + 1) → P i) : ∀ i, i ≤ n → P i := by
  have key : ∀ k i, i + k = n → P i := by
    intro k
    induction k with
    | zero => intro i hi; have : i = n := hi; rw [this]; exact h0
    | succ k ih => intro i hi; exact hs i (by omega) (ih (i + 1) (by omega))
  intro i hi
  exact key (n - i) i (by omega)
theorem am_vin {x : Int32} {n : Nat} (h : x < 0 ∨ n ≤ x.toNatClampNeg → False) : vp_in x n := h
theorem am_o0 : Int32.ofInt 0 = 0 := rfl
theorem am_o1 : Int32.ofInt 1 = 1 := rfl
theorem am_o2 : Int32.ofInt 2 = 2 := rfl
theorem am_o3 : Int32.ofInt 3 = 3 := rfl
theorem am_o4 : Int32.ofInt 4 = 4 := rfl
theorem am_o5 : Int32.ofInt 5 = 5 := rfl
theorem am_o6 : Int32.ofInt 6 = 6 := rfl
theorem am_o7 : Int32.ofInt 7 = 7 := rfl
theorem am_o8 : Int32.ofInt 8 = 8 := rfl
theorem am_o9 : Int32.ofInt 9 = 9 := rfl
theorem am_o10 : Int32.ofInt 10 = 10 := rfl
theorem am_o11 : Int32.ofInt 11 = 11 := rfl
theorem am_o12 : Int32.ofInt 12 = 12 := rfl
theorem am_o13 : Int32.ofInt 13 = 13 := rfl
theorem am_o14 : Int32.ofInt 14 = 14 := rfl
theorem am_o15 : Int32.ofInt 15 = 15 := rfl
theorem am_o16 : Int32.ofInt 16 = 16 := rfl
theorem am_o17 : Int32.ofInt 17 = 17 := rfl
theorem am_o18 : Int32.ofInt 18 = 18 := rfl
theorem am_o19 : Int32.ofInt 19 = 19 := rfl
theorem am_o20 : Int32.ofInt 20 = 20 := rfl
theorem am_o21 : Int32.ofInt 21 = 21 := rfl
theorem am_o22 : Int32.ofInt 22 = 22 := rfl
theorem am_o23 : Int32.ofInt 23 = 23 := rfl
theorem am_o24 : Int32.ofInt 24 = 24 := rfl
theorem am_o25 : Int32.ofInt 25 = 25 := rfl
theorem am_o26 : Int32.ofInt 26 = 26 := rfl
theorem am_o27 : Int32.ofInt 27 = 27 := rfl
theorem am_lt (a b : Int32) : a < b ↔ a.toInt < b.toInt := Int32.lt_iff_toInt_lt
theorem am_le (a b : Int32) : a ≤ b ↔ a.toInt ≤ b.toInt := Int32.le_iff_toInt_le
theorem am_eq (a b : Int32) : a = b ↔ a.toInt = b.toInt := Int32.toInt_inj.symm
theorem am_rng (x : Int32) : -2147483648 ≤ x.toInt ∧ x.toInt < 2147483648 := by
  have h1 := x.le_toInt
  have h2 := x.toInt_lt
  omega
theorem am_add {x y : Int32} (h1 : -2147483648 ≤ x.toInt + y.toInt) (h2 : x.toInt + y.toInt < 2147483648) : (x + y).toInt = x.toInt + y.toInt := by
  rw [Int32.toInt_add, Int.bmod_eq_of_le (by omega) (by omega)]
theorem am_sub {x y : Int32} (h1 : -2147483648 ≤ x.toInt - y.toInt) (h2 : x.toInt - y.toInt < 2147483648) : (x - y).toInt = x.toInt - y.toInt := by
  rw [Int32.toInt_sub, Int.bmod_eq_of_le (by omega) (by omega)]
theorem am_nI {n : Nat} (h : n < 2147483648) : (nI n).toInt = n := nI_toInt (by omega)
theorem am_in {x : Int32} {n : Nat} : vp_in x n ↔ 0 ≤ x.toInt ∧ x.toInt < n := vp_in_iff
theorem am_tn {x : Int32} (h : 0 ≤ x.toInt) : (x.toNatClampNeg : Int) = x.toInt := by
  show ((x.toInt.toNat : Nat) : Int) = x.toInt
  omega
theorem am_of {x : Int32} (h : 0 ≤ x.toInt) : nI x.toNatClampNeg = x := by
  have h1 := am_tn h
  have h2 := am_rng x
  apply Int32.toInt_inj.mp
  rw [am_nI (by omega), h1]
theorem am_t0 : Int32.toNatClampNeg 0 = 0 := rfl
theorem am_t1 : Int32.toNatClampNeg 1 = 1 := rfl
theorem am_t2 : Int32.toNatClampNeg 2 = 2 := rfl
theorem am_t3 : Int32.toNatClampNeg 3 = 3 := rfl
theorem am_t4 : Int32.toNatClampNeg 4 = 4 := rfl
theorem am_t5 : Int32.toNatClampNeg 5 = 5 := rfl
theorem am_t6 : Int32.toNatClampNeg 6 = 6 := rfl
theorem am_t7 : Int32.toNatClampNeg 7 = 7 := rfl
theorem am_t8 : Int32.toNatClampNeg 8 = 8 := rfl
theorem am_t9 : Int32.toNatClampNeg 9 = 9 := rfl
theorem am_t10 : Int32.toNatClampNeg 10 = 10 := rfl
theorem am_t11 : Int32.toNatClampNeg 11 = 11 := rfl
theorem am_up_ap (h : am_H) (i k : Nat) (v : Int32) (a b : Nat) : am_up h i k v a b = if a = i then (if b = k then v else h a b) else h a b := rfl
theorem am_oi_c (x : Int32) (f : Int32 → Prop) : am_oi (some (.int x)) f = f x := of_eq_true (eq_self _)
theorem am_ol_c (x : Int64) (f : Int64 → Prop) : am_ol (some (.long x)) f = f x := of_eq_true (eq_self _)
theorem am_or_r (x : Nat) (f : Value → Prop) : am_or (some (.ref x)) f = f (.ref x) := of_eq_true (eq_self _)
theorem am_or_f (x : UInt32) (f : Value → Prop) : am_or (some (.float x)) f = f (.float x) := of_eq_true (eq_self _)
theorem am_pi_c (x : Int32) (S : List Value) (f : Int32 → List Value → Prop) : am_pi (.int x :: S) f = f x S := of_eq_true (eq_self _)
theorem am_pj_c (x : Int64) (S : List Value) (f : Int64 → List Value → Prop) : am_pj (.long x :: S) f = f x S := of_eq_true (eq_self _)
theorem am_pr_c (x : Nat) (S : List Value) (f : Nat → List Value → Prop) : am_pr (.ref x :: S) f = f x S := of_eq_true (eq_self _)
theorem am_pa_r (x : Nat) (S : List Value) (f : Value → List Value → Prop) : am_pa (.ref x :: S) f = f (.ref x) S := of_eq_true (eq_self _)
theorem am_pa_f (x : UInt32) (S : List Value) (f : Value → List Value → Prop) : am_pa (.float x :: S) f = f (.float x) S := of_eq_true (eq_self _)
theorem am_yo_c (cj ci : Nat) (fs : List Value) (f : List Value → Prop) : am_yo (some (2, cj, fs)) ci f = (cj = ci ∧ f fs) := of_eq_true (eq_self _)
theorem am_ya_c (t n u : Nat) (fs : List Value) (f : Nat → List Value → Prop) : am_ya (some (t, n, fs)) u f = (t = u ∧ f n fs) := of_eq_true (eq_self _)
theorem am_fv_i (z x : Int32) (f : Value → Prop) : am_fv (some (.int z)) x f = f (.int x) := of_eq_true (eq_self _)
theorem am_fv_l (z : Int64) (x : Int32) (f : Value → Prop) : am_fv (some (.long z)) x f = f (.long x.toInt64) := of_eq_true (eq_self _)
theorem am_fv_r (z : Nat) (x : Int32) (f : Value → Prop) : am_fv (some (.ref z)) x f = f (.ref z) := of_eq_true (eq_self _)
theorem am_fi_c (z : Int32) (f : Prop) : am_fi (some (.int z)) f = f := of_eq_true (eq_self _)
theorem am_fl_c (z : Int64) (f : Prop) : am_fl (some (.long z)) f = f := of_eq_true (eq_self _)
theorem am_rv_c (z : Nat) (f : Value → Prop) : am_rv (some (.ref z)) f = f (.ref z) := of_eq_true (eq_self _)
theorem am_n2_s (v : Value) : am_n2 (some v) = (v.category = 1) := of_eq_true (eq_self _)
theorem am_n2_n : am_n2 none = True := of_eq_true (eq_self _)
theorem am_pv_0 (L : List Value) : am_pv 0 L = True := of_eq_true (eq_self _)
theorem am_pv_s (k : Nat) (L : List Value) : am_pv (k + 1) L = am_n2 L[k]? := of_eq_true (eq_self _)
theorem am_cs_n : am_cs [] = 0 := of_eq_true (eq_self _)
theorem am_cs_c (v : Value) (l : List Value) : am_cs (v :: l) = v.category + am_cs l := of_eq_true (eq_self _)
