theorem am_for {P : Nat → Prop} (n : Nat) (h0 : P n) (hs : ∀ i, i < n → P (i + 1) → P i) : ∀ i, i ≤ n → P i := by
  have key : ∀ k i, i + k = n → P i := by
    intro k
    induction k with
    | zero => intro i hi; have : i = n := hi; rw [this]; exact h0
    | succ k ih => intro i hi; exact hs i (by omega) (ih (i + 1) (by omega))
  intro i hi
  exact key (n - i) i (by omega)
theorem am_vin {x : Int32} {n : Nat} (h : x < 0 ∨ n ≤ x.toNatClampNeg → False) : vp_in x n := h
theorem am_o0 : Int32.ofInt 0 = 0 := of_eq_true (eq_self _)
theorem am_o1 : Int32.ofInt 1 = 1 := of_eq_true (eq_self _)
theorem am_o2 : Int32.ofInt 2 = 2 := of_eq_true (eq_self _)
theorem am_o3 : Int32.ofInt 3 = 3 := of_eq_true (eq_self _)
theorem am_o4 : Int32.ofInt 4 = 4 := of_eq_true (eq_self _)
theorem am_o5 : Int32.ofInt 5 = 5 := of_eq_true (eq_self _)
theorem am_o6 : Int32.ofInt 6 = 6 := of_eq_true (eq_self _)
theorem am_o7 : Int32.ofInt 7 = 7 := of_eq_true (eq_self _)
theorem am_o8 : Int32.ofInt 8 = 8 := of_eq_true (eq_self _)
theorem am_o9 : Int32.ofInt 9 = 9 := of_eq_true (eq_self _)
theorem am_o10 : Int32.ofInt 10 = 10 := of_eq_true (eq_self _)
theorem am_o11 : Int32.ofInt 11 = 11 := of_eq_true (eq_self _)
theorem am_o12 : Int32.ofInt 12 = 12 := of_eq_true (eq_self _)
theorem am_o13 : Int32.ofInt 13 = 13 := of_eq_true (eq_self _)
theorem am_o14 : Int32.ofInt 14 = 14 := of_eq_true (eq_self _)
theorem am_o15 : Int32.ofInt 15 = 15 := of_eq_true (eq_self _)
theorem am_o16 : Int32.ofInt 16 = 16 := of_eq_true (eq_self _)
theorem am_o17 : Int32.ofInt 17 = 17 := of_eq_true (eq_self _)
theorem am_o18 : Int32.ofInt 18 = 18 := of_eq_true (eq_self _)
theorem am_o19 : Int32.ofInt 19 = 19 := of_eq_true (eq_self _)
theorem am_o20 : Int32.ofInt 20 = 20 := of_eq_true (eq_self _)
theorem am_o21 : Int32.ofInt 21 = 21 := of_eq_true (eq_self _)
theorem am_o22 : Int32.ofInt 22 = 22 := of_eq_true (eq_self _)
theorem am_o23 : Int32.ofInt 23 = 23 := of_eq_true (eq_self _)
theorem am_o24 : Int32.ofInt 24 = 24 := of_eq_true (eq_self _)
theorem am_o25 : Int32.ofInt 25 = 25 := of_eq_true (eq_self _)
theorem am_o26 : Int32.ofInt 26 = 26 := of_eq_true (eq_self _)
theorem am_o27 : Int32.ofInt 27 = 27 := of_eq_true (eq_self _)
theorem am_lt (a b : Int32) : a < b ↔ a.toInt < b.toInt := Int32.lt_iff_toInt_lt
theorem am_le (a b : Int32) : a ≤ b ↔ a.toInt ≤ b.toInt := Int32.le_iff_toInt_le
theorem am_eq (a b : Int32) : a = b ↔ a.toInt = b.toInt := Int32.toInt_inj.symm
theorem am_rng (x : Int32) : -2147483648 ≤ x.toInt ∧ x.toInt < 2147483648 := by
  have h1 := x.le_toInt
  have h2 := x.toInt_lt
  omega
theorem am_add {x y : Int32} (h1 : -2147483648 ≤ x.toInt + y.toInt) (h2 : x.toInt + y.toInt < 2147483648) : (x + y).toInt = x.toInt + y.toInt := by
  rw [Int32.toInt_add, Int.bmod_eq_of_le (by omega) (by omega)]
theorem am_sub {x y : Int32} (h1 : -2147483648 ≤ x.toInt - y.toInt) (h2 : x.toInt - y.toInt < 2147483648) : (x - y).toInt = x.toInt - y.toInt := by
  rw [Int32.toInt_sub, Int.bmod_eq_of_le (by omega) (by omega)]
theorem am_nI {n : Nat} (h : n < 2147483648) : (nI n).toInt = n := nI_toInt (by omega)
theorem am_in {x : Int32} {n : Nat} : vp_in x n ↔ 0 ≤ x.toInt ∧ x.toInt < n := vp_in_iff
theorem am_tn {x : Int32} (h : 0 ≤ x.toInt) : (x.toNatClampNeg : Int) = x.toInt := by
  show ((x.toInt.toNat : Nat) : Int) = x.toInt
  omega
theorem am_of {x : Int32} (h : 0 ≤ x.toInt) : nI x.toNatClampNeg = x := by
  have h1 := am_tn h
  have h2 := am_rng x
  apply Int32.toInt_inj.mp
  rw [am_nI (by omega), h1]
theorem am_t0 : Int32.toNatClampNeg 0 = 0 := of_eq_true (eq_self _)
theorem am_t1 : Int32.toNatClampNeg 1 = 1 := of_eq_true (eq_self _)
theorem am_t2 : Int32.toNatClampNeg 2 = 2 := of_eq_true (eq_self _)
theorem am_t3 : Int32.toNatClampNeg 3 = 3 := of_eq_true (eq_self _)
theorem am_t4 : Int32.toNatClampNeg 4 = 4 := of_eq_true (eq_self _)
theorem am_t5 : Int32.toNatClampNeg 5 = 5 := of_eq_true (eq_self _)
theorem am_t6 : Int32.toNatClampNeg 6 = 6 := of_eq_true (eq_self _)
theorem am_t7 : Int32.toNatClampNeg 7 = 7 := of_eq_true (eq_self _)
theorem am_t8 : Int32.toNatClampNeg 8 = 8 := of_eq_true (eq_self _)
theorem am_t9 : Int32.toNatClampNeg 9 = 9 := of_eq_true (eq_self _)
theorem am_t10 : Int32.toNatClampNeg 10 = 10 := of_eq_true (eq_self _)
theorem am_t11 : Int32.toNatClampNeg 11 = 11 := of_eq_true (eq_self _)
theorem am_up_ap (h : am_H) (i k : Nat) (v : Int32) (a b : Nat) : am_up h i k v a b = if a = i then (if b = k then v else h a b) else h a b := of_eq_true (eq_self _)
theorem am_oi_c (x : Int32) (f : Int32 → Prop) : am_oi (some (.int x)) f = f x := of_eq_true (eq_self _)
theorem am_ol_c (x : Int64) (f : Int64 → Prop) : am_ol (some (.long x)) f = f x := of_eq_true (eq_self _)
theorem am_or_r (x : Nat) (f : Value → Prop) : am_or (some (.ref x)) f = f (.ref x) := of_eq_true (eq_self _)
theorem am_or_f (x : UInt32) (f : Value → Prop) : am_or (some (.float x)) f = f (.float x) := of_eq_true (eq_self _)
theorem am_pi_c (x : Int32) (S : List Value) (f : Int32 → List Value → Prop) : am_pi (.int x :: S) f = f x S := of_eq_true (eq_self _)
theorem am_pj_c (x : Int64) (S : List Value) (f : Int64 → List Value → Prop) : am_pj (.long x :: S) f = f x S := of_eq_true (eq_self _)
theorem am_pr_c (x : Nat) (S : List Value) (f : Nat → List Value → Prop) : am_pr (.ref x :: S) f = f x S := of_eq_true (eq_self _)
theorem am_pa_r (x : Nat) (S : List Value) (f : Value → List Value → Prop) : am_pa (.ref x :: S) f = f (.ref x) S := of_eq_true (eq_self _)
theorem am_pa_f (x : UInt32) (S : List Value) (f : Value → List Value → Prop) : am_pa (.float x :: S) f = f (.float x) S := of_eq_true (eq_self _)
theorem am_yo_c (cj ci : Nat) (fs : List Value) (f : List Value → Prop) : am_yo (some (2, cj, fs)) ci f = (cj = ci ∧ f fs) := of_eq_true (eq_self _)
theorem am_ya_c (t n u : Nat) (fs : List Value) (f : Nat → List Value → Prop) : am_ya (some (t, n, fs)) u f = (t = u ∧ f n fs) := of_eq_true (eq_self _)
theorem am_fv_i (z x : Int32) (f : Value → Prop) : am_fv (some (.int z)) x f = f (.int x) := of_eq_true (eq_self _)
theorem am_fv_l (z : Int64) (x : Int32) (f : Value → Prop) : am_fv (some (.long z)) x f = f (.long x.toInt64) := of_eq_true (eq_self _)
theorem am_fv_r (z : Nat) (x : Int32) (f : Value → Prop) : am_fv (some (.ref z)) x f = f (.ref z) := of_eq_true (eq_self _)
theorem am_fi_c (z : Int32) (f : Prop) : am_fi (some (.int z)) f = f := of_eq_true (eq_self _)
theorem am_fl_c (z : Int64) (f : Prop) : am_fl (some (.long z)) f = f := of_eq_true (eq_self _)
theorem am_rv_c (z : Nat) (f : Value → Prop) : am_rv (some (.ref z)) f = f (.ref z) := of_eq_true (eq_self _)
theorem am_n2_s (v : Value) : am_n2 (some v) = (v.category = 1) := of_eq_true (eq_self _)
theorem am_n2_n : am_n2 none = True := of_eq_true (eq_self _)
theorem am_pv_0 (L : List Value) : am_pv 0 L = True := of_eq_true (eq_self _)
theorem am_pv_s (k : Nat) (L : List Value) : am_pv (k + 1) L = am_n2 L[k]? := of_eq_true (eq_self _)
theorem am_cs_n : am_cs [] = 0 := of_eq_true (eq_self _)
theorem am_cs_c (v : Value) (l : List Value) : am_cs (v :: l) = v.category + am_cs l := of_eq_true (eq_self _)
theorem qtm_push (v : Value) (Q : am_P) (L S : List Value) (Y : List am_C) (h : am_H) : tm_push v Q L S Y h = (Q L (v :: S) Y h) := of_eq_true (eq_self _)
theorem qtm_iload (k : Nat) (Q : am_P) (L S : List Value) (Y : List am_C) (h : am_H) : tm_iload k Q L S Y h = (am_oi L[k]? fun x => Q L (.int x :: S) Y h) := of_eq_true (eq_self _)
theorem qtm_lload (k : Nat) (Q : am_P) (L S : List Value) (Y : List am_C) (h : am_H) : tm_lload k Q L S Y h = (am_ol L[k]? fun x => Q L (.long x :: S) Y h) := of_eq_true (eq_self _)
theorem qtm_aload (k : Nat) (Q : am_P) (L S : List Value) (Y : List am_C) (h : am_H) : tm_aload k Q L S Y h = (am_or L[k]? fun x => Q L (x :: S) Y h) := of_eq_true (eq_self _)
theorem qtm_istore (k : Nat) (Q : am_P) (L S : List Value) (Y : List am_C) (h : am_H) : tm_istore k Q L S Y h = (am_pi S fun x S1 => k < L.length ∧ am_pv k L ∧ Q (L.set k (.int x)) S1 Y h) := of_eq_true (eq_self _)
theorem qtm_lstore (k : Nat) (Q : am_P) (L S : List Value) (Y : List am_C) (h : am_H) : tm_lstore k Q L S Y h = (am_pj S fun x S1 => k + 1 < L.length ∧ am_pv k L ∧ Q ((L.set k (.long x)).set (k + 1) .null) S1 Y h) := of_eq_true (eq_self _)
theorem qtm_astore (k : Nat) (Q : am_P) (L S : List Value) (Y : List am_C) (h : am_H) : tm_astore k Q L S Y h = (am_pa S fun x S1 => k < L.length ∧ am_pv k L ∧ Q (L.set k x) S1 Y h) := of_eq_true (eq_self _)
theorem qtm_iinc (k : Nat) (n : Int32) (Q : am_P) (L S : List Value) (Y : List am_C) (h : am_H) : tm_iinc k n Q L S Y h = (am_oi L[k]? fun x => k < L.length ∧ am_pv k L ∧ Q (L.set k (.int (x + n))) S Y h) := of_eq_true (eq_self _)
theorem qtm_un (f : Int32 → Int32) (Q : am_P) (L S : List Value) (Y : List am_C) (h : am_H) : tm_un f Q L S Y h = (am_pi S fun x S1 => Q L (.int (f x) :: S1) Y h) := of_eq_true (eq_self _)
theorem qtm_bin (f : Int32 → Int32 → Int32) (Q : am_P) (L S : List Value) (Y : List am_C) (h : am_H) : tm_bin f Q L S Y h = (am_pi S fun y S1 => am_pi S1 fun x S2 => Q L (.int (f x y) :: S2) Y h) := of_eq_true (eq_self _)
theorem qtm_div (f : Int32 → Int32 → Int32) (Q : am_P) (L S : List Value) (Y : List am_C) (h : am_H) : tm_div f Q L S Y h = (am_pi S fun y S1 => am_pi S1 fun x S2 => ¬ y = 0 ∧ Q L (.int (f x y) :: S2) Y h) := of_eq_true (eq_self _)
theorem qtm_lbin (f : Int64 → Int64 → Int64) (Q : am_P) (L S : List Value) (Y : List am_C) (h : am_H) : tm_lbin f Q L S Y h = (am_pj S fun y S1 => am_pj S1 fun x S2 => Q L (.long (f x y) :: S2) Y h) := of_eq_true (eq_self _)
theorem qtm_ldiv (f : Int64 → Int64 → Int64) (Q : am_P) (L S : List Value) (Y : List am_C) (h : am_H) : tm_ldiv f Q L S Y h = (am_pj S fun y S1 => am_pj S1 fun x S2 => ¬ y = 0 ∧ Q L (.long (f x y) :: S2) Y h) := of_eq_true (eq_self _)
theorem qtm_lsh (Q : am_P) (L S : List Value) (Y : List am_C) (h : am_H) : tm_lsh Q L S Y h = (am_pi S fun y S1 => am_pj S1 fun x S2 => Q L (.long (x <<< (y.toInt64 &&& 63)) :: S2) Y h) := of_eq_true (eq_self _)
theorem qtm_lcmp (Q : am_P) (L S : List Value) (Y : List am_C) (h : am_H) : tm_lcmp Q L S Y h = (am_pj S fun y S1 => am_pj S1 fun x S2 => Q L (.int (lg_cmp x y) :: S2) Y h) := of_eq_true (eq_self _)
theorem qtm_i2l (Q : am_P) (L S : List Value) (Y : List am_C) (h : am_H) : tm_i2l Q L S Y h = (am_pi S fun x S1 => Q L (.long x.toInt64 :: S1) Y h) := of_eq_true (eq_self _)
theorem qtm_l2i (Q : am_P) (L S : List Value) (Y : List am_C) (h : am_H) : tm_l2i Q L S Y h = (am_pj S fun x S1 => Q L (.int x.toInt32 :: S1) Y h) := of_eq_true (eq_self _)
theorem qtm_if (P : Int32 → Prop) (Qt Qf : am_P) (L S : List Value) (Y : List am_C) (h : am_H) : tm_if P Qt Qf L S Y h = (am_pi S fun x S1 => (P x → Qt L S1 Y h) ∧ (¬ P x → Qf L S1 Y h)) := of_eq_true (eq_self _)
theorem qtm_cmp (P : Int32 → Int32 → Prop) (Qt Qf : am_P) (L S : List Value) (Y : List am_C) (h : am_H) : tm_cmp P Qt Qf L S Y h = (am_pi S fun y S1 => am_pi S1 fun x S2 => (P x y → Qt L S2 Y h) ∧ (¬ P x y → Qf L S2 Y h)) := of_eq_true (eq_self _)
theorem qtm_getf (ci k : Nat) (Q : am_P) (L S : List Value) (Y : List am_C) (h : am_H) : tm_getf ci k Q L S Y h = (am_pr S fun i S1 => am_yo Y[i]? ci fun fs => am_fv fs[k]? (h i k) fun v => Q L (v :: S1) Y h) := of_eq_true (eq_self _)
theorem qtm_puti (ci k : Nat) (Q : am_P) (L S : List Value) (Y : List am_C) (h : am_H) : tm_puti ci k Q L S Y h = (am_pi S fun x S1 => am_pr S1 fun i S2 => am_yo Y[i]? ci fun fs => am_fi fs[k]? (Q L S2 Y (am_up h i k x))) := of_eq_true (eq_self _)
theorem qtm_putz (ci k : Nat) (Q : am_P) (L S : List Value) (Y : List am_C) (h : am_H) : tm_putz ci k Q L S Y h = (am_pi S fun x S1 => am_pr S1 fun i S2 => am_yo Y[i]? ci fun fs => am_fi fs[k]? ((x = 0 ∨ x = 1) ∧ Q L S2 Y (am_up h i k x))) := of_eq_true (eq_self _)
theorem qtm_putl (ci k : Nat) (Q : am_P) (L S : List Value) (Y : List am_C) (h : am_H) : tm_putl ci k Q L S Y h = (am_pj S fun x S1 => am_pr S1 fun i S2 => am_yo Y[i]? ci fun fs => am_fl fs[k]? (∃ y : Int32, x = y.toInt64 ∧ Q L S2 Y (am_up h i k y))) := of_eq_true (eq_self _)
theorem qtm_iald (Q : am_P) (L S : List Value) (Y : List am_C) (h : am_H) : tm_iald Q L S Y h = (am_pi S fun j S1 => am_pr S1 fun i S2 => am_ya Y[i]? 0 fun n _ => vp_in j n ∧ Q L (.int (h i j.toNatClampNeg) :: S2) Y h) := of_eq_true (eq_self _)
theorem qtm_iast (Q : am_P) (L S : List Value) (Y : List am_C) (h : am_H) : tm_iast Q L S Y h = (am_pi S fun x S1 => am_pi S1 fun j S2 => am_pr S2 fun i S3 => am_ya Y[i]? 0 fun n _ => vp_in j n ∧ Q L S3 Y (am_up h i j.toNatClampNeg x)) := of_eq_true (eq_self _)
theorem qtm_zald (Q : am_P) (L S : List Value) (Y : List am_C) (h : am_H) : tm_zald Q L S Y h = (am_pi S fun j S1 => am_pr S1 fun i S2 => am_ya Y[i]? 1 fun n _ => vp_in j n ∧ Q L (.int (h i j.toNatClampNeg) :: S2) Y h) := of_eq_true (eq_self _)
theorem qtm_zast (Q : am_P) (L S : List Value) (Y : List am_C) (h : am_H) : tm_zast Q L S Y h = (am_pi S fun x S1 => am_pi S1 fun j S2 => am_pr S2 fun i S3 => am_ya Y[i]? 1 fun n _ => vp_in j n ∧ (x = 0 ∨ x = 1) ∧ Q L S3 Y (am_up h i j.toNatClampNeg x)) := of_eq_true (eq_self _)
theorem qtm_aald (t : Nat) (Q : am_P) (L S : List Value) (Y : List am_C) (h : am_H) : tm_aald t Q L S Y h = (am_pi S fun j S1 => am_pr S1 fun i S2 => am_ya Y[i]? t fun n fs => vp_in j n ∧ am_rv fs[j.toNatClampNeg]? fun v => Q L (v :: S2) Y h) := of_eq_true (eq_self _)
theorem qtm_tsw (lo : Int) (qs : List am_P) (Qd : am_P) (L S : List Value) (Y : List am_C) (h : am_H) : tm_tsw lo qs Qd L S Y h = (am_pi S fun v S1 => tm_swc v L S1 Y h Qd lo qs) := of_eq_true (eq_self _)
theorem qtm_callV (ci : Nat) (y : am_Y) (n d : Nat) (Q : am_P) (L S : List Value) (Y : List am_C) (h : am_H) : tm_callV ci y n d Q L S Y h = (am_pr (S.drop n) fun i S1 => am_yo Y[i]? ci fun _ => 1 ≤ d ∧ am_cs S1 ≤ 8 ∧ n ≤ S.length ∧ am_Met (d - 1) 0 0 y (.ref i :: (S.take n).reverse) Y h fun r Y1 h1 => Q L (r.take 1 ++ S1) Y1 h1) := of_eq_true (eq_self _)
theorem qtm_callS (y : am_Y) (n d : Nat) (Q : am_P) (L S : List Value) (Y : List am_C) (h : am_H) : tm_callS y n d Q L S Y h = (1 ≤ d ∧ am_cs (S.drop n) ≤ 8 ∧ n ≤ S.length ∧ am_Met (d - 1) 0 0 y (S.take n).reverse Y h fun r Y1 h1 => Q L (r.take 1 ++ S.drop n) Y1 h1) := of_eq_true (eq_self _)
theorem qtm_acp (d : Nat) (Q : am_P) (L S : List Value) (Y : List am_C) (h : am_H) : tm_acp d Q L S Y h = (am_pi S fun n S1 => am_pi S1 fun dp S2 => am_pr S2 fun b S3 => am_pi S3 fun sp S4 => am_pr S4 fun a S5 => am_ya Y[a]? 0 fun na _ => am_ya Y[b]? 0 fun nb _ => 1 ≤ d ∧ am_cs S5 ≤ 8 ∧ ¬ sp < 0 ∧ ¬ dp < 0 ∧ ¬ n < 0 ∧ sp.toNatClampNeg + n.toNatClampNeg ≤ na ∧ dp.toNatClampNeg + n.toNatClampNeg ≤ nb ∧ Q L S5 Y (am_cp h a b sp.toNatClampNeg dp.toNatClampNeg n.toNatClampNeg)) := of_eq_true (eq_self _)
theorem qtm_alen (Q : am_P) (L S : List Value) (Y : List am_C) (h : am_H) : tm_alen Q L S Y h = (am_pr S fun i S1 => am_ya Y[i]? 0 fun n _ => Q L (.int (nI n) :: S1) Y h) := of_eq_true (eq_self _)
theorem qtm_max (d : Nat) (Q : am_P) (L S : List Value) (Y : List am_C) (h : am_H) : tm_max d Q L S Y h = (am_pi S fun y S1 => am_pi S1 fun x S2 => 1 ≤ d ∧ am_cs S2 ≤ 8 ∧ Q L (.int (if x < y then y else x) :: S2) Y h) := of_eq_true (eq_self _)
theorem qtm_min (d : Nat) (Q : am_P) (L S : List Value) (Y : List am_C) (h : am_H) : tm_min d Q L S Y h = (am_pi S fun y S1 => am_pi S1 fun x S2 => 1 ≤ d ∧ am_cs S2 ≤ 8 ∧ Q L (.int (if y < x then y else x) :: S2) Y h) := of_eq_true (eq_self _)
theorem qtm_dup (Q : am_P) (v : Value) (L S : List Value) (Y : List am_C) (h : am_H) : tm_dup Q L (v :: S) Y h = (v.category = 1 ∧ Q L (v :: v :: S) Y h) := of_eq_true (eq_self _)
theorem qtm_pop (Q : am_P) (v : Value) (L S : List Value) (Y : List am_C) (h : am_H) : tm_pop Q L (v :: S) Y h = (v.category = 1 ∧ Q L S Y h) := of_eq_true (eq_self _)
theorem qtm_iret (K : List Value → List am_C → am_H → Prop) (L S : List Value) (Y : List am_C) (h : am_H) : tm_iret K L S Y h = am_pi S fun x S1 => S1 = [] ∧ K [.int x] Y h := of_eq_true (eq_self _)
theorem qtm_zret (K : List Value → List am_C → am_H → Prop) (L S : List Value) (Y : List am_C) (h : am_H) : tm_zret K L S Y h = am_pi S fun x S1 => S1 = [] ∧ (x = 0 ∨ x = 1) ∧ K [.int x] Y h := of_eq_true (eq_self _)
theorem qtm_lret (K : List Value → List am_C → am_H → Prop) (L S : List Value) (Y : List am_C) (h : am_H) : tm_lret K L S Y h = am_pj S fun x S1 => S1 = [] ∧ K [.long x] Y h := of_eq_true (eq_self _)
theorem qtm_aret (K : List Value → List am_C → am_H → Prop) (L S : List Value) (Y : List am_C) (h : am_H) : tm_aret K L S Y h = am_pr S fun x S1 => S1 = [] ∧ K [.ref x] Y h := of_eq_true (eq_self _)
theorem qtm_vret (K : List Value → List am_C → am_H → Prop) (L S : List Value) (Y : List am_C) (h : am_H) : tm_vret K L S Y h = (S = [] ∧ K [] Y h) := of_eq_true (eq_self _)
theorem qtm_swn (v : Int32) (L S : List Value) (Y : List am_C) (h : am_H) (Qd : am_P) (k : Int) : tm_swc v L S Y h Qd k [] = Qd L S Y h := of_eq_true (eq_self _)
theorem qtm_swc (v : Int32) (L S : List Value) (Y : List am_C) (h : am_H) (Qd : am_P) (k : Int) (q : am_P) (qs : List am_P) : tm_swc v L S Y h Qd k (q :: qs) = ((v = Int32.ofInt k → q L S Y h) ∧ (¬ v = Int32.ofInt k → tm_swc v L S Y h Qd (k + 1) qs)) := of_eq_true (eq_self _)
