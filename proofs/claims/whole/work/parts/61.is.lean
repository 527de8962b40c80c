theorem am_e_0_2 : ((0 : Int32) = 2) = False := eq_false (by decide)
theorem am_e_0_3 : ((0 : Int32) = 3) = False := eq_false (by decide)
theorem am_e_0_4 : ((0 : Int32) = 4) = False := eq_false (by decide)
theorem am_e_0_5 : ((0 : Int32) = 5) = False := eq_false (by decide)
theorem am_e_0_6 : ((0 : Int32) = 6) = False := eq_false (by decide)
theorem am_e_0_7 : ((0 : Int32) = 7) = False := eq_false (by decide)
theorem am_e_0_8 : ((0 : Int32) = 8) = False := eq_false (by decide)
theorem am_e_0_9 : ((0 : Int32) = 9) = False := eq_false (by decide)
theorem am_e_0_10 : ((0 : Int32) = 10) = False := eq_false (by decide)
theorem am_e_0_11 : ((0 : Int32) = 11) = False := eq_false (by decide)
theorem am_e_0_12 : ((0 : Int32) = 12) = False := eq_false (by decide)
theorem am_e_1_2 : ((1 : Int32) = 2) = False := eq_false (by decide)
theorem am_e_1_3 : ((1 : Int32) = 3) = False := eq_false (by decide)
theorem am_e_1_4 : ((1 : Int32) = 4) = False := eq_false (by decide)
theorem am_e_1_5 : ((1 : Int32) = 5) = False := eq_false (by decide)
theorem am_e_1_6 : ((1 : Int32) = 6) = False := eq_false (by decide)
theorem am_e_1_7 : ((1 : Int32) = 7) = False := eq_false (by decide)
theorem am_e_1_8 : ((1 : Int32) = 8) = False := eq_false (by decide)
theorem am_e_1_9 : ((1 : Int32) = 9) = False := eq_false (by decide)
theorem am_e_1_10 : ((1 : Int32) = 10) = False := eq_false (by decide)
theorem am_e_1_11 : ((1 : Int32) = 11) = False := eq_false (by decide)
theorem am_e_1_12 : ((1 : Int32) = 12) = False := eq_false (by decide)
theorem am_e_2_0 : ((2 : Int32) = 0) = False := eq_false (by decide)
theorem am_e_2_1 : ((2 : Int32) = 1) = False := eq_false (by decide)
theorem am_e_2_3 : ((2 : Int32) = 3) = False := eq_false (by decide)
theorem am_e_2_4 : ((2 : Int32) = 4) = False := eq_false (by decide)
theorem am_e_2_5 : ((2 : Int32) = 5) = False := eq_false (by decide)
theorem am_e_2_6 : ((2 : Int32) = 6) = False := eq_false (by decide)
theorem am_e_2_7 : ((2 : Int32) = 7) = False := eq_false (by decide)
theorem am_e_2_8 : ((2 : Int32) = 8) = False := eq_false (by decide)
theorem am_e_2_9 : ((2 : Int32) = 9) = False := eq_false (by decide)
theorem am_e_2_10 : ((2 : Int32) = 10) = False := eq_false (by decide)
theorem am_e_2_11 : ((2 : Int32) = 11) = False := eq_false (by decide)
theorem am_e_2_12 : ((2 : Int32) = 12) = False := eq_false (by decide)
theorem am_e_3_0 : ((3 : Int32) = 0) = False := eq_false (by decide)
theorem am_e_3_1 : ((3 : Int32) = 1) = False := eq_false (by decide)
theorem am_e_3_2 : ((3 : Int32) = 2) = False := eq_false (by decide)
theorem am_e_3_4 : ((3 : Int32) = 4) = False := eq_false (by decide)
theorem am_e_3_5 : ((3 : Int32) = 5) = False := eq_false (by decide)
theorem am_e_3_6 : ((3 : Int32) = 6) = False := eq_false (by decide)
theorem am_e_3_7 : ((3 : Int32) = 7) = False := eq_false (by decide)
theorem am_e_3_8 : ((3 : Int32) = 8) = False := eq_false (by decide)
theorem am_e_3_9 : ((3 : Int32) = 9) = False := eq_false (by decide)
theorem am_e_3_10 : ((3 : Int32) = 10) = False := eq_false (by decide)
theorem am_e_3_11 : ((3 : Int32) = 11) = False := eq_false (by decide)
theorem am_e_3_12 : ((3 : Int32) = 12) = False := eq_false (by decide)
theorem am_e_4_0 : ((4 : Int32) = 0) = False := eq_false (by decide)
theorem am_e_4_1 : ((4 : Int32) = 1) = False := eq_false (by decide)
theorem am_e_4_2 : ((4 : Int32) = 2) = False := eq_false (by decide)
theorem am_e_4_3 : ((4 : Int32) = 3) = False := eq_false (by decide)
theorem am_e_4_5 : ((4 : Int32) = 5) = False := eq_false (by decide)
theorem am_e_4_6 : ((4 : Int32) = 6) = False := eq_false (by decide)
theorem am_e_4_7 : ((4 : Int32) = 7) = False := eq_false (by decide)
theorem am_e_4_8 : ((4 : Int32) = 8) = False := eq_false (by decide)
theorem am_e_4_9 : ((4 : Int32) = 9) = False := eq_false (by decide)
theorem am_e_4_10 : ((4 : Int32) = 10) = False := eq_false (by decide)
theorem am_e_4_11 : ((4 : Int32) = 11) = False := eq_false (by decide)
theorem am_e_4_12 : ((4 : Int32) = 12) = False := eq_false (by decide)
theorem am_e_5_0 : ((5 : Int32) = 0) = False := eq_false (by decide)
theorem am_e_5_1 : ((5 : Int32) = 1) = False := eq_false (by decide)
theorem am_e_5_2 : ((5 : Int32) = 2) = False := eq_false (by decide)
theorem am_e_5_3 : ((5 : Int32) = 3) = False := eq_false (by decide)
theorem am_e_5_4 : ((5 : Int32) = 4) = False := eq_false (by decide)
theorem am_e_5_6 : ((5 : Int32) = 6) = False := eq_false (by decide)
theorem am_e_5_7 : ((5 : Int32) = 7) = False := eq_false (by decide)
theorem am_e_5_8 : ((5 : Int32) = 8) = False := eq_false (by decide)
theorem am_e_5_9 : ((5 : Int32) = 9) = False := eq_false (by decide)
theorem am_e_5_10 : ((5 : Int32) = 10) = False := eq_false (by decide)
theorem am_e_5_11 : ((5 : Int32) = 11) = False := eq_false (by decide)
theorem am_e_5_12 : ((5 : Int32) = 12) = False := eq_false (by decide)
theorem am_e_6_0 : ((6 : Int32) = 0) = False := eq_false (by decide)
theorem am_e_6_1 : ((6 : Int32) = 1) = False := eq_false (by decide)
theorem am_e_6_2 : ((6 : Int32) = 2) = False := eq_false (by decide)
theorem am_e_6_3 : ((6 : Int32) = 3) = False := eq_false (by decide)
theorem am_e_6_4 : ((6 : Int32) = 4) = False := eq_false (by decide)
theorem am_e_6_5 : ((6 : Int32) = 5) = False := eq_false (by decide)
theorem am_e_6_7 : ((6 : Int32) = 7) = False := eq_false (by decide)
theorem am_e_6_8 : ((6 : Int32) = 8) = False := eq_false (by decide)
theorem am_e_6_9 : ((6 : Int32) = 9) = False := eq_false (by decide)
theorem am_e_6_10 : ((6 : Int32) = 10) = False := eq_false (by decide)
theorem am_e_6_11 : ((6 : Int32) = 11) = False := eq_false (by decide)
theorem am_e_6_12 : ((6 : Int32) = 12) = False := eq_false (by decide)
theorem am_e_7_0 : ((7 : Int32) = 0) = False := eq_false (by decide)
theorem am_e_7_1 : ((7 : Int32) = 1) = False := eq_false (by decide)
theorem am_e_7_2 : ((7 : Int32) = 2) = False := eq_false (by decide)
theorem am_e_7_3 : ((7 : Int32) = 3) = False := eq_false (by decide)
theorem am_e_7_4 : ((7 : Int32) = 4) = False := eq_false (by decide)
theorem am_e_7_5 : ((7 : Int32) = 5) = False := eq_false (by decide)
theorem am_e_7_6 : ((7 : Int32) = 6) = False := eq_false (by decide)
theorem am_e_7_8 : ((7 : Int32) = 8) = False := eq_false (by decide)
theorem am_e_7_9 : ((7 : Int32) = 9) = False := eq_false (by decide)
theorem am_e_7_10 : ((7 : Int32) = 10) = False := eq_false (by decide)
theorem am_e_7_11 : ((7 : Int32) = 11) = False := eq_false (by decide)
theorem am_e_7_12 : ((7 : Int32) = 12) = False := eq_false (by decide)
theorem am_e_8_0 : ((8 : Int32) = 0) = False := eq_false (by decide)
theorem am_e_8_1 : ((8 : Int32) = 1) = False := eq_false (by decide)
theorem am_e_8_2 : ((8 : Int32) = 2) = False := eq_false (by decide)
theorem am_e_8_3 : ((8 : Int32) = 3) = False := eq_false (by decide)
theorem am_e_8_4 : ((8 : Int32) = 4) = False := eq_false (by decide)
theorem am_e_8_5 : ((8 : Int32) = 5) = False := eq_false (by decide)
theorem am_e_8_6 : ((8 : Int32) = 6) = False := eq_false (by decide)
theorem am_e_8_7 : ((8 : Int32) = 7) = False := eq_false (by decide)
theorem am_e_8_9 : ((8 : Int32) = 9) = False := eq_false (by decide)
theorem am_e_8_10 : ((8 : Int32) = 10) = False := eq_false (by decide)
theorem am_e_8_11 : ((8 : Int32) = 11) = False := eq_false (by decide)
theorem am_e_8_12 : ((8 : Int32) = 12) = False := eq_false (by decide)
theorem am_e_9_0 : ((9 : Int32) = 0) = False := eq_false (by decide)
theorem am_e_9_1 : ((9 : Int32) = 1) = False := eq_false (by decide)
theorem am_e_9_2 : ((9 : Int32) = 2) = False := eq_false (by decide)
theorem am_e_9_3 : ((9 : Int32) = 3) = False := eq_false (by decide)
theorem am_e_9_4 : ((9 : Int32) = 4) = False := eq_false (by decide)
theorem am_e_9_5 : ((9 : Int32) = 5) = False := eq_false (by decide)
theorem am_e_9_6 : ((9 : Int32) = 6) = False := eq_false (by decide)
theorem am_e_9_7 : ((9 : Int32) = 7) = False := eq_false (by decide)
theorem am_e_9_8 : ((9 : Int32) = 8) = False := eq_false (by decide)
theorem am_e_9_10 : ((9 : Int32) = 10) = False := eq_false (by decide)
theorem am_e_9_11 : ((9 : Int32) = 11) = False := eq_false (by decide)
theorem am_e_9_12 : ((9 : Int32) = 12) = False := eq_false (by decide)
theorem am_e_10_0 : ((10 : Int32) = 0) = False := eq_false (by decide)
theorem am_e_10_1 : ((10 : Int32) = 1) = False := eq_false (by decide)
theorem am_e_10_2 : ((10 : Int32) = 2) = False := eq_false (by decide)
theorem am_e_10_3 : ((10 : Int32) = 3) = False := eq_false (by decide)
theorem am_e_10_4 : ((10 : Int32) = 4) = False := eq_false (by decide)
theorem am_e_10_5 : ((10 : Int32) = 5) = False := eq_false (by decide)
theorem am_e_10_6 : ((10 : Int32) = 6) = False := eq_false (by decide)
theorem am_e_10_7 : ((10 : Int32) = 7) = False := eq_false (by decide)
theorem am_e_10_8 : ((10 : Int32) = 8) = False := eq_false (by decide)
theorem am_e_10_9 : ((10 : Int32) = 9) = False := eq_false (by decide)
theorem am_e_10_11 : ((10 : Int32) = 11) = False := eq_false (by decide)
theorem am_e_10_12 : ((10 : Int32) = 12) = False := eq_false (by decide)
theorem am_e_11_0 : ((11 : Int32) = 0) = False := eq_false (by decide)
theorem am_e_11_1 : ((11 : Int32) = 1) = False := eq_false (by decide)
theorem am_e_11_2 : ((11 : Int32) = 2) = False := eq_false (by decide)
theorem am_e_11_3 : ((11 : Int32) = 3) = False := eq_false (by decide)
theorem am_e_11_4 : ((11 : Int32) = 4) = False := eq_false (by decide)
theorem am_e_11_5 : ((11 : Int32) = 5) = False := eq_false (by decide)
theorem am_e_11_6 : ((11 : Int32) = 6) = False := eq_false (by decide)
theorem am_e_11_7 : ((11 : Int32) = 7) = False := eq_false (by decide)
theorem am_e_11_8 : ((11 : Int32) = 8) = False := eq_false (by decide)
theorem am_e_11_9 : ((11 : Int32) = 9) = False := eq_false (by decide)
theorem am_e_11_10 : ((11 : Int32) = 10) = False := eq_false (by decide)
theorem am_e_11_12 : ((11 : Int32) = 12) = False := eq_false (by decide)
theorem am_e_12_0 : ((12 : Int32) = 0) = False := eq_false (by decide)
theorem am_e_12_1 : ((12 : Int32) = 1) = False := eq_false (by decide)
theorem am_e_12_2 : ((12 : Int32) = 2) = False := eq_false (by decide)
theorem am_e_12_3 : ((12 : Int32) = 3) = False := eq_false (by decide)
theorem am_e_12_4 : ((12 : Int32) = 4) = False := eq_false (by decide)
theorem am_e_12_5 : ((12 : Int32) = 5) = False := eq_false (by decide)
theorem am_e_12_6 : ((12 : Int32) = 6) = False := eq_false (by decide)
theorem am_e_12_7 : ((12 : Int32) = 7) = False := eq_false (by decide)
theorem am_e_12_8 : ((12 : Int32) = 8) = False := eq_false (by decide)
theorem am_e_12_9 : ((12 : Int32) = 9) = False := eq_false (by decide)
theorem am_e_12_10 : ((12 : Int32) = 10) = False := eq_false (by decide)
theorem am_e_12_11 : ((12 : Int32) = 11) = False := eq_false (by decide)
theorem am_10 : ((1 : Int32) = 0) = False := eq_false (by decide)
theorem am_00 : ((0 : Int32) = 0) = True := eq_true rfl
theorem am_01 : ((0 : Int32) = 1) = False := eq_false (by decide)
theorem am_11 : ((1 : Int32) = 1) = True := eq_true rfl
/-- 0 .. n - 1 -/
def am_is (n : Nat) (p : Int32) : Bool := decide (0 ≤ p ∧ p < nI n)
theorem am_is_o {n : Nat} {p : Int32} (hn : n < 2 ^ 31) (h : am_is n p = true) : ∃ k, k < n ∧ p = nI k := by
  have h2 : 0 ≤ p ∧ p < nI n := of_decide_eq_true h
  have e := am_nI (n := n) hn
  have hin : vp_in p n := am_in_of e h2.1 h2.2
  exact ⟨_, am_in_tn hin, am_in_nI hin⟩
theorem am_is_t {n k : Nat} (hn : n < 2 ^ 31) (hk : k < n) : am_is n (nI k) = true := by
  refine decide_eq_true ⟨?_, (nI_ltI (by omega) hn).mpr hk⟩
  exact Int32.not_lt.mp (nI_pos (by omega))
theorem am_is_in {n : Nat} {p : Int32} (hn : n < 2 ^ 31) (h : am_is n p = true) : vp_in p n := by
  obtain ⟨k, h1, rfl⟩ := am_is_o hn h
  exact vp_in_nI h1 hn
theorem am_is_f {n : Nat} {p : Int32} (h : ¬ (0 ≤ p ∧ p < nI n)) : am_is n p = false := decide_eq_false h
theorem am_is_neg {n : Nat} {p : Int32} (h : p < 0) : am_is n p = false := am_is_f fun z => absurd z.1 (Int32.not_le.mpr h)
theorem am_is_big {n : Nat} {p : Int32} (h : ¬ p < nI n) : am_is n p = false := am_is_f fun z => h z.2
theorem am_is_of {n : Nat} {p : Int32} (h1 : ¬ p < 0) (h2 : p < nI n) : am_is n p = true := decide_eq_true ⟨Int32.not_lt.mp h1, h2⟩
/-- as it is said with ≤ -/
theorem am_lt_le {n : Nat} {p : Int32} (hn : n + 1 < 2 ^ 31) : (p ≤ nI n) ↔ p < nI (n + 1) := by
  rw [am_le, am_lt, am_nI (n := n) (by omega), am_nI (n := n + 1) hn]
  omega
theorem am_is_none {n : Nat} {p : Int32} (hn : n < 2 ^ 31) (h : am_is n p = false) : ∀ k, k < n → p ≠ nI k := fun k hk e => by
  rw [e, am_is_t hn hk] at h
  exact absurd h (by decide)
section CON
variable {d : Nat} {Y : List am_C} {h : am_H} {K : List Value → List am_C → am_H → Prop}
set_option maxHeartbeats 4000000 in
set_option maxRecDepth 100000 in
theorem c_X6_inN {v : Int32} {lo hi : Int64} (N : Nat) (hN : N < 2 ^ 31) (hlo : lo = 0) (hhi : hi.toInt = (N : Int) - 1) (h1 : am_is N v = true → K [.int 1] Y h) (h0 : am_is N v = false → K [.int 0] Y h) : am_Met d 0 0 YX6_in [.long v.toInt64, .long lo, .long hi] Y h K := by
  refine c_X6_in ?_
  have e : (lo ≤ v.toInt64 ∧ v.toInt64 ≤ hi) ↔ am_is N v = true := by
    subst hlo
    have e2 := am_nI (n := N) hN
    have z1 : (0 : Int64).toInt = 0 := rfl
    have z2 : (0 : Int32).toInt = 0 := rfl
    rw [Int64.le_iff_toInt_le, Int64.le_iff_toInt_le, Int32.toInt_toInt64, hhi, z1]
    unfold am_is
    rw [decide_eq_true_iff, am_le, am_lt, e2, z2]
    omega
  simp only [e]
  by_cases q : am_is N v = true
  · rw [if_pos q]; exact h1 q
  · rw [if_neg q]; exact h0 (by simpa using q)
set_option maxHeartbeats 4000000 in
set_option maxRecDepth 100000 in
theorem c_X6_isPlaceB {c : Int32} (hd : 1 ≤ d) (h1 : am_is 32 c = true → K [.int 1] Y h) (h0 : am_is 32 c = false → K [.int 0] Y h) : am_Met d 0 0 YX6_isPlace [.int c] Y h K := by
  refine c_X6_isPlace hd ?_
  by_cases q : 0 ≤ c ∧ c < 32
  · rw [if_pos q]; exact h1 (decide_eq_true q)
  · rw [if_neg q]; exact h0 (decide_eq_false q)
theorem am_n1 {n : Nat} (h : n ≤ 5) : ((nI n) - 1).toInt64.toInt = (n : Int) - 1 := by
  rcases (show n = 0 ∨ n = 1 ∨ n = 2 ∨ n = 3 ∨ n = 4 ∨ n = 5 by omega) with rfl | rfl | rfl | rfl | rfl | rfl <;> decide
theorem am_n16 {n : Nat} (h : n ≤ 6) : ((nI n) - 1).toInt64.toInt = (n : Int) - 1 := by
  rcases (show n = 0 ∨ n = 1 ∨ n = 2 ∨ n = 3 ∨ n = 4 ∨ n = 5 ∨ n = 6 by omega) with rfl | rfl | rfl | rfl | rfl | rfl | rfl <;> decide
set_option maxHeartbeats 4000000 in
set_option maxRecDepth 100000 in
theorem c_X6_isOne {p : Int32} {w : am_H} {n : Nat} (hd : 1 ≤ d) (hm : am_mod Y) (hR : am_RM h w) (hn : w 0 8 = nI n) (h5 : n ≤ 5) (h1 : am_is n p = true → K [.int 1] Y h) (h0 : am_is n p = false → K [.int 0] Y h) : am_Met d 0 0 YX6_isOne [.ref 49, .int p] Y h K := by
  refine en_X6_isOne fun X F hr => ?_
  have m0 := hm.1
  simp only [te_X6_isOne_0, m0, mc_0, mc_1, mc_2, mc_3, mc_4, mc_5, mc_6, mc_7, mc_8, mc_9, mc_10, mc_11, mc_12, mc_13, mc_14, mc_15, mc_16, mc_17, mc_18, mc_19, mc_20, mc_21, mc_22, mc_23, mc_24, mc_25, mc_26, mc_27, mc_28, mc_29, mc_30, mc_31, mc_32, mc_33, mc_34, mc_35, mc_36, mc_37, mc_38, mc_39, mc_40, mc_41, mc_42, mc_43, mc_44, mc_45, hR.2.2.1, hn, qtm_push, qtm_iload, qtm_lload, qtm_aload, qtm_istore, qtm_lstore, qtm_astore, qtm_iinc, qtm_un, qtm_bin, qtm_div, qtm_lbin, qtm_ldiv, qtm_lsh, qtm_lcmp, qtm_i2l, qtm_l2i, qtm_if, qtm_cmp, qtm_getf, qtm_puti, qtm_putz, qtm_putl, qtm_iald, qtm_iast, qtm_zald, qtm_zast, qtm_aald, qtm_tsw, qtm_callV, qtm_callS, qtm_acp, qtm_alen, qtm_max, qtm_min, qtm_dup, qtm_pop, qtm_iret, qtm_zret, qtm_lret, qtm_aret, qtm_vret, qtm_swn, qtm_swc, am_oi_c, am_ol_c, am_or_r, am_or_f, am_pi_c, am_pj_c, am_pr_c, am_pa_r, am_pa_f, am_yo_c, am_ya_c, am_fv_i, am_fv_l, am_fv_r, am_fi_c, am_fl_c, am_rv_c, am_n2_s, am_n2_n, am_pv_0, am_pv_s, am_cs_n, am_cs_c, Value.category, List.getElem?_cons_zero, List.getElem?_cons_succ, List.set_cons_zero, List.set_cons_succ, List.length_cons, List.length_nil, List.drop_succ_cons, List.drop_zero, List.take_succ_cons, List.take_zero, List.take_nil, List.reverse_cons, List.reverse_nil, List.nil_append, List.cons_append, List.append_nil, true_and, and_true, Int.reduceAdd, am_o0, am_o1, am_o2, am_o3, am_o4, am_o5, am_o6, am_o7, am_o8, am_o9, am_o10, am_o11, am_o12, am_o13, am_o14, am_o15, am_o16, am_o17, am_o18, am_o19, am_o20, am_o21, am_o22, am_o23, am_o24, am_o25, am_o26, am_o27, Nat.reduceAdd, Nat.reduceLeDiff, Nat.reduceLT, Nat.zero_le]
  refine ⟨hd, c_X6_inN n (by omega) rfl (am_n1 h5) (fun q => ?_) (fun q => ?_)⟩
  · simp only [qtm_push, qtm_iload, qtm_lload, qtm_aload, qtm_istore, qtm_lstore, qtm_astore, qtm_iinc, qtm_un, qtm_bin, qtm_div, qtm_lbin, qtm_ldiv, qtm_lsh, qtm_lcmp, qtm_i2l, qtm_l2i, qtm_if, qtm_cmp, qtm_getf, qtm_puti, qtm_putz, qtm_putl, qtm_iald, qtm_iast, qtm_zald, qtm_zast, qtm_aald, qtm_tsw, qtm_callV, qtm_callS, qtm_acp, qtm_alen, qtm_max, qtm_min, qtm_dup, qtm_pop, qtm_iret, qtm_zret, qtm_lret, qtm_aret, qtm_vret, qtm_swn, qtm_swc, am_oi_c, am_ol_c, am_or_r, am_or_f, am_pi_c, am_pj_c, am_pr_c, am_pa_r, am_pa_f, am_yo_c, am_ya_c, am_fv_i, am_fv_l, am_fv_r, am_fi_c, am_fl_c, am_rv_c, am_n2_s, am_n2_n, am_pv_0, am_pv_s, am_cs_n, am_cs_c, Value.category, List.getElem?_cons_zero, List.getElem?_cons_succ, List.set_cons_zero, List.set_cons_succ, List.length_cons, List.length_nil, List.drop_succ_cons, List.drop_zero, List.take_succ_cons, List.take_zero, List.take_nil, List.reverse_cons, List.reverse_nil, List.nil_append, List.cons_append, List.append_nil, true_and, and_true, Int.reduceAdd, am_o0, am_o1, am_o2, am_o3, am_o4, am_o5, am_o6, am_o7, am_o8, am_o9, am_o10, am_o11, am_o12, am_o13, am_o14, am_o15, am_o16, am_o17, am_o18, am_o19, am_o20, am_o21, am_o22, am_o23, am_o24, am_o25, am_o26, am_o27, Nat.reduceAdd, Nat.reduceLeDiff, Nat.reduceLT, Nat.zero_le]
    exact ⟨Or.inr trivial, h1 q⟩
  · simp only [qtm_push, qtm_iload, qtm_lload, qtm_aload, qtm_istore, qtm_lstore, qtm_astore, qtm_iinc, qtm_un, qtm_bin, qtm_div, qtm_lbin, qtm_ldiv, qtm_lsh, qtm_lcmp, qtm_i2l, qtm_l2i, qtm_if, qtm_cmp, qtm_getf, qtm_puti, qtm_putz, qtm_putl, qtm_iald, qtm_iast, qtm_zald, qtm_zast, qtm_aald, qtm_tsw, qtm_callV, qtm_callS, qtm_acp, qtm_alen, qtm_max, qtm_min, qtm_dup, qtm_pop, qtm_iret, qtm_zret, qtm_lret, qtm_aret, qtm_vret, qtm_swn, qtm_swc, am_oi_c, am_ol_c, am_or_r, am_or_f, am_pi_c, am_pj_c, am_pr_c, am_pa_r, am_pa_f, am_yo_c, am_ya_c, am_fv_i, am_fv_l, am_fv_r, am_fi_c, am_fl_c, am_rv_c, am_n2_s, am_n2_n, am_pv_0, am_pv_s, am_cs_n, am_cs_c, Value.category, List.getElem?_cons_zero, List.getElem?_cons_succ, List.set_cons_zero, List.set_cons_succ, List.length_cons, List.length_nil, List.drop_succ_cons, List.drop_zero, List.take_succ_cons, List.take_zero, List.take_nil, List.reverse_cons, List.reverse_nil, List.nil_append, List.cons_append, List.append_nil, true_and, and_true, Int.reduceAdd, am_o0, am_o1, am_o2, am_o3, am_o4, am_o5, am_o6, am_o7, am_o8, am_o9, am_o10, am_o11, am_o12, am_o13, am_o14, am_o15, am_o16, am_o17, am_o18, am_o19, am_o20, am_o21, am_o22, am_o23, am_o24, am_o25, am_o26, am_o27, Nat.reduceAdd, Nat.reduceLeDiff, Nat.reduceLT, Nat.zero_le]
    exact ⟨Or.inl trivial, h0 q⟩
/-- of is such as what asks for -/
def sp_isOf (n : Nat) (what of : Int32) : Bool := if what < 2 then true else if what = 2 ∨ what = 12 then am_is 32 of else am_is n of
set_option maxHeartbeats 4000000 in
set_option maxRecDepth 100000 in
theorem c_X6_isOf {what of : Int32} {w : am_H} {n : Nat} (hd : 2 ≤ d) (hm : am_mod Y) (hR : am_RM h w) (hn : w 0 8 = nI n) (h5 : n ≤ 5) (h1 : sp_isOf n what of = true → K [.int 1] Y h) (h0 : sp_isOf n what of = false → K [.int 0] Y h) : am_Met d 0 0 YX6_isOf [.ref 49, .int what, .int of] Y h K := by
  refine en_X6_isOf fun X F hr => ?_
  have m0 := hm.1
  unfold sp_isOf at h1 h0
  simp only [te_X6_isOf_0, te_X6_isOf_5, te_X6_isOf_16, te_X6_isOf_38, te_X6_isOf_39, te_X6_isOf_23, te_X6_isOf_34, te_X6_isOf_10, te_X6_isOf_26, m0, Int32.reduceLT, Int32.reduceLE, eq_self, am_10, am_00, am_01, am_11, true_implies, false_implies, not_true_eq_false, not_false_eq_true, or_true, true_or, and_self, implies_true, qtm_push, qtm_iload, qtm_lload, qtm_aload, qtm_istore, qtm_lstore, qtm_astore, qtm_iinc, qtm_un, qtm_bin, qtm_div, qtm_lbin, qtm_ldiv, qtm_lsh, qtm_lcmp, qtm_i2l, qtm_l2i, qtm_if, qtm_cmp, qtm_getf, qtm_puti, qtm_putz, qtm_putl, qtm_iald, qtm_iast, qtm_zald, qtm_zast, qtm_aald, qtm_tsw, qtm_callV, qtm_callS, qtm_acp, qtm_alen, qtm_max, qtm_min, qtm_dup, qtm_pop, qtm_iret, qtm_zret, qtm_lret, qtm_aret, qtm_vret, qtm_swn, qtm_swc, am_oi_c, am_ol_c, am_or_r, am_or_f, am_pi_c, am_pj_c, am_pr_c, am_pa_r, am_pa_f, am_yo_c, am_ya_c, am_fv_i, am_fv_l, am_fv_r, am_fi_c, am_fl_c, am_rv_c, am_n2_s, am_n2_n, am_pv_0, am_pv_s, am_cs_n, am_cs_c, Value.category, List.getElem?_cons_zero, List.getElem?_cons_succ, List.set_cons_zero, List.set_cons_succ, List.length_cons, List.length_nil, List.drop_succ_cons, List.drop_zero, List.take_succ_cons, List.take_zero, List.take_nil, List.reverse_cons, List.reverse_nil, List.nil_append, List.cons_append, List.append_nil, true_and, and_true, Int.reduceAdd, am_o0, am_o1, am_o2, am_o3, am_o4, am_o5, am_o6, am_o7, am_o8, am_o9, am_o10, am_o11, am_o12, am_o13, am_o14, am_o15, am_o16, am_o17, am_o18, am_o19, am_o20, am_o21, am_o22, am_o23, am_o24, am_o25, am_o26, am_o27, Nat.reduceAdd, Nat.reduceLeDiff, Nat.reduceLT, Nat.zero_le]
  refine ⟨fun q => h1 (by rw [if_pos q]), fun q => ⟨fun q2 => ⟨by omega, c_X6_isPlaceB (by omega) (fun z => ?_) (fun z => ?_)⟩, fun q2 => ⟨fun q3 => ⟨by omega, c_X6_isPlaceB (by omega) (fun z => ?_) (fun z => ?_)⟩, fun q3 => ⟨by omega, c_X6_isOne (by omega) hm hR hn h5 (fun z => ?_) (fun z => ?_)⟩⟩⟩⟩
  · simp only [Int32.reduceLT, Int32.reduceLE, eq_self, am_10, am_00, am_01, am_11, true_implies, false_implies, not_true_eq_false, not_false_eq_true, or_true, true_or, and_self, implies_true, qtm_push, qtm_iload, qtm_lload, qtm_aload, qtm_istore, qtm_lstore, qtm_astore, qtm_iinc, qtm_un, qtm_bin, qtm_div, qtm_lbin, qtm_ldiv, qtm_lsh, qtm_lcmp, qtm_i2l, qtm_l2i, qtm_if, qtm_cmp, qtm_getf, qtm_puti, qtm_putz, qtm_putl, qtm_iald, qtm_iast, qtm_zald, qtm_zast, qtm_aald, qtm_tsw, qtm_callV, qtm_callS, qtm_acp, qtm_alen, qtm_max, qtm_min, qtm_dup, qtm_pop, qtm_iret, qtm_zret, qtm_lret, qtm_aret, qtm_vret, qtm_swn, qtm_swc, am_oi_c, am_ol_c, am_or_r, am_or_f, am_pi_c, am_pj_c, am_pr_c, am_pa_r, am_pa_f, am_yo_c, am_ya_c, am_fv_i, am_fv_l, am_fv_r, am_fi_c, am_fl_c, am_rv_c, am_n2_s, am_n2_n, am_pv_0, am_pv_s, am_cs_n, am_cs_c, Value.category, List.getElem?_cons_zero, List.getElem?_cons_succ, List.set_cons_zero, List.set_cons_succ, List.length_cons, List.length_nil, List.drop_succ_cons, List.drop_zero, List.take_succ_cons, List.take_zero, List.take_nil, List.reverse_cons, List.reverse_nil, List.nil_append, List.cons_append, List.append_nil, true_and, and_true, Int.reduceAdd, am_o0, am_o1, am_o2, am_o3, am_o4, am_o5, am_o6, am_o7, am_o8, am_o9, am_o10, am_o11, am_o12, am_o13, am_o14, am_o15, am_o16, am_o17, am_o18, am_o19, am_o20, am_o21, am_o22, am_o23, am_o24, am_o25, am_o26, am_o27, Nat.reduceAdd, Nat.reduceLeDiff, Nat.reduceLT, Nat.zero_le]
    exact h1 (by rw [if_neg q, if_pos (Or.inl q2)]; exact z)
  · simp only [Int32.reduceLT, Int32.reduceLE, eq_self, am_10, am_00, am_01, am_11, true_implies, false_implies, not_true_eq_false, not_false_eq_true, or_true, true_or, and_self, implies_true, qtm_push, qtm_iload, qtm_lload, qtm_aload, qtm_istore, qtm_lstore, qtm_astore, qtm_iinc, qtm_un, qtm_bin, qtm_div, qtm_lbin, qtm_ldiv, qtm_lsh, qtm_lcmp, qtm_i2l, qtm_l2i, qtm_if, qtm_cmp, qtm_getf, qtm_puti, qtm_putz, qtm_putl, qtm_iald, qtm_iast, qtm_zald, qtm_zast, qtm_aald, qtm_tsw, qtm_callV, qtm_callS, qtm_acp, qtm_alen, qtm_max, qtm_min, qtm_dup, qtm_pop, qtm_iret, qtm_zret, qtm_lret, qtm_aret, qtm_vret, qtm_swn, qtm_swc, am_oi_c, am_ol_c, am_or_r, am_or_f, am_pi_c, am_pj_c, am_pr_c, am_pa_r, am_pa_f, am_yo_c, am_ya_c, am_fv_i, am_fv_l, am_fv_r, am_fi_c, am_fl_c, am_rv_c, am_n2_s, am_n2_n, am_pv_0, am_pv_s, am_cs_n, am_cs_c, Value.category, List.getElem?_cons_zero, List.getElem?_cons_succ, List.set_cons_zero, List.set_cons_succ, List.length_cons, List.length_nil, List.drop_succ_cons, List.drop_zero, List.take_succ_cons, List.take_zero, List.take_nil, List.reverse_cons, List.reverse_nil, List.nil_append, List.cons_append, List.append_nil, true_and, and_true, Int.reduceAdd, am_o0, am_o1, am_o2, am_o3, am_o4, am_o5, am_o6, am_o7, am_o8, am_o9, am_o10, am_o11, am_o12, am_o13, am_o14, am_o15, am_o16, am_o17, am_o18, am_o19, am_o20, am_o21, am_o22, am_o23, am_o24, am_o25, am_o26, am_o27, Nat.reduceAdd, Nat.reduceLeDiff, Nat.reduceLT, Nat.zero_le]
    exact h0 (by rw [if_neg q, if_pos (Or.inl q2)]; exact z)
  · simp only [Int32.reduceLT, Int32.reduceLE, eq_self, am_10, am_00, am_01, am_11, true_implies, false_implies, not_true_eq_false, not_false_eq_true, or_true, true_or, and_self, implies_true, qtm_push, qtm_iload, qtm_lload, qtm_aload, qtm_istore, qtm_lstore, qtm_astore, qtm_iinc, qtm_un, qtm_bin, qtm_div, qtm_lbin, qtm_ldiv, qtm_lsh, qtm_lcmp, qtm_i2l, qtm_l2i, qtm_if, qtm_cmp, qtm_getf, qtm_puti, qtm_putz, qtm_putl, qtm_iald, qtm_iast, qtm_zald, qtm_zast, qtm_aald, qtm_tsw, qtm_callV, qtm_callS, qtm_acp, qtm_alen, qtm_max, qtm_min, qtm_dup, qtm_pop, qtm_iret, qtm_zret, qtm_lret, qtm_aret, qtm_vret, qtm_swn, qtm_swc, am_oi_c, am_ol_c, am_or_r, am_or_f, am_pi_c, am_pj_c, am_pr_c, am_pa_r, am_pa_f, am_yo_c, am_ya_c, am_fv_i, am_fv_l, am_fv_r, am_fi_c, am_fl_c, am_rv_c, am_n2_s, am_n2_n, am_pv_0, am_pv_s, am_cs_n, am_cs_c, Value.category, List.getElem?_cons_zero, List.getElem?_cons_succ, List.set_cons_zero, List.set_cons_succ, List.length_cons, List.length_nil, List.drop_succ_cons, List.drop_zero, List.take_succ_cons, List.take_zero, List.take_nil, List.reverse_cons, List.reverse_nil, List.nil_append, List.cons_append, List.append_nil, true_and, and_true, Int.reduceAdd, am_o0, am_o1, am_o2, am_o3, am_o4, am_o5, am_o6, am_o7, am_o8, am_o9, am_o10, am_o11, am_o12, am_o13, am_o14, am_o15, am_o16, am_o17, am_o18, am_o19, am_o20, am_o21, am_o22, am_o23, am_o24, am_o25, am_o26, am_o27, Nat.reduceAdd, Nat.reduceLeDiff, Nat.reduceLT, Nat.zero_le]
    exact h1 (by rw [if_neg q, if_pos (Or.inr q3)]; exact z)
  · simp only [Int32.reduceLT, Int32.reduceLE, eq_self, am_10, am_00, am_01, am_11, true_implies, false_implies, not_true_eq_false, not_false_eq_true, or_true, true_or, and_self, implies_true, qtm_push, qtm_iload, qtm_lload, qtm_aload, qtm_istore, qtm_lstore, qtm_astore, qtm_iinc, qtm_un, qtm_bin, qtm_div, qtm_lbin, qtm_ldiv, qtm_lsh, qtm_lcmp, qtm_i2l, qtm_l2i, qtm_if, qtm_cmp, qtm_getf, qtm_puti, qtm_putz, qtm_putl, qtm_iald, qtm_iast, qtm_zald, qtm_zast, qtm_aald, qtm_tsw, qtm_callV, qtm_callS, qtm_acp, qtm_alen, qtm_max, qtm_min, qtm_dup, qtm_pop, qtm_iret, qtm_zret, qtm_lret, qtm_aret, qtm_vret, qtm_swn, qtm_swc, am_oi_c, am_ol_c, am_or_r, am_or_f, am_pi_c, am_pj_c, am_pr_c, am_pa_r, am_pa_f, am_yo_c, am_ya_c, am_fv_i, am_fv_l, am_fv_r, am_fi_c, am_fl_c, am_rv_c, am_n2_s, am_n2_n, am_pv_0, am_pv_s, am_cs_n, am_cs_c, Value.category, List.getElem?_cons_zero, List.getElem?_cons_succ, List.set_cons_zero, List.set_cons_succ, List.length_cons, List.length_nil, List.drop_succ_cons, List.drop_zero, List.take_succ_cons, List.take_zero, List.take_nil, List.reverse_cons, List.reverse_nil, List.nil_append, List.cons_append, List.append_nil, true_and, and_true, Int.reduceAdd, am_o0, am_o1, am_o2, am_o3, am_o4, am_o5, am_o6, am_o7, am_o8, am_o9, am_o10, am_o11, am_o12, am_o13, am_o14, am_o15, am_o16, am_o17, am_o18, am_o19, am_o20, am_o21, am_o22, am_o23, am_o24, am_o25, am_o26, am_o27, Nat.reduceAdd, Nat.reduceLeDiff, Nat.reduceLT, Nat.zero_le]
    exact h0 (by rw [if_neg q, if_pos (Or.inr q3)]; exact z)
  · simp only [Int32.reduceLT, Int32.reduceLE, eq_self, am_10, am_00, am_01, am_11, true_implies, false_implies, not_true_eq_false, not_false_eq_true, or_true, true_or, and_self, implies_true, qtm_push, qtm_iload, qtm_lload, qtm_aload, qtm_istore, qtm_lstore, qtm_astore, qtm_iinc, qtm_un, qtm_bin, qtm_div, qtm_lbin, qtm_ldiv, qtm_lsh, qtm_lcmp, qtm_i2l, qtm_l2i, qtm_if, qtm_cmp, qtm_getf, qtm_puti, qtm_putz, qtm_putl, qtm_iald, qtm_iast, qtm_zald, qtm_zast, qtm_aald, qtm_tsw, qtm_callV, qtm_callS, qtm_acp, qtm_alen, qtm_max, qtm_min, qtm_dup, qtm_pop, qtm_iret, qtm_zret, qtm_lret, qtm_aret, qtm_vret, qtm_swn, qtm_swc, am_oi_c, am_ol_c, am_or_r, am_or_f, am_pi_c, am_pj_c, am_pr_c, am_pa_r, am_pa_f, am_yo_c, am_ya_c, am_fv_i, am_fv_l, am_fv_r, am_fi_c, am_fl_c, am_rv_c, am_n2_s, am_n2_n, am_pv_0, am_pv_s, am_cs_n, am_cs_c, Value.category, List.getElem?_cons_zero, List.getElem?_cons_succ, List.set_cons_zero, List.set_cons_succ, List.length_cons, List.length_nil, List.drop_succ_cons, List.drop_zero, List.take_succ_cons, List.take_zero, List.take_nil, List.reverse_cons, List.reverse_nil, List.nil_append, List.cons_append, List.append_nil, true_and, and_true, Int.reduceAdd, am_o0, am_o1, am_o2, am_o3, am_o4, am_o5, am_o6, am_o7, am_o8, am_o9, am_o10, am_o11, am_o12, am_o13, am_o14, am_o15, am_o16, am_o17, am_o18, am_o19, am_o20, am_o21, am_o22, am_o23, am_o24, am_o25, am_o26, am_o27, Nat.reduceAdd, Nat.reduceLeDiff, Nat.reduceLT, Nat.zero_le]
    exact h1 (by rw [if_neg q, if_neg (fun y => y.elim q2 q3)]; exact z)
  · simp only [Int32.reduceLT, Int32.reduceLE, eq_self, am_10, am_00, am_01, am_11, true_implies, false_implies, not_true_eq_false, not_false_eq_true, or_true, true_or, and_self, implies_true, qtm_push, qtm_iload, qtm_lload, qtm_aload, qtm_istore, qtm_lstore, qtm_astore, qtm_iinc, qtm_un, qtm_bin, qtm_div, qtm_lbin, qtm_ldiv, qtm_lsh, qtm_lcmp, qtm_i2l, qtm_l2i, qtm_if, qtm_cmp, qtm_getf, qtm_puti, qtm_putz, qtm_putl, qtm_iald, qtm_iast, qtm_zald, qtm_zast, qtm_aald, qtm_tsw, qtm_callV, qtm_callS, qtm_acp, qtm_alen, qtm_max, qtm_min, qtm_dup, qtm_pop, qtm_iret, qtm_zret, qtm_lret, qtm_aret, qtm_vret, qtm_swn, qtm_swc, am_oi_c, am_ol_c, am_or_r, am_or_f, am_pi_c, am_pj_c, am_pr_c, am_pa_r, am_pa_f, am_yo_c, am_ya_c, am_fv_i, am_fv_l, am_fv_r, am_fi_c, am_fl_c, am_rv_c, am_n2_s, am_n2_n, am_pv_0, am_pv_s, am_cs_n, am_cs_c, Value.category, List.getElem?_cons_zero, List.getElem?_cons_succ, List.set_cons_zero, List.set_cons_succ, List.length_cons, List.length_nil, List.drop_succ_cons, List.drop_zero, List.take_succ_cons, List.take_zero, List.take_nil, List.reverse_cons, List.reverse_nil, List.nil_append, List.cons_append, List.append_nil, true_and, and_true, Int.reduceAdd, am_o0, am_o1, am_o2, am_o3, am_o4, am_o5, am_o6, am_o7, am_o8, am_o9, am_o10, am_o11, am_o12, am_o13, am_o14, am_o15, am_o16, am_o17, am_o18, am_o19, am_o20, am_o21, am_o22, am_o23, am_o24, am_o25, am_o26, am_o27, Nat.reduceAdd, Nat.reduceLeDiff, Nat.reduceLT, Nat.zero_le]
    exact h0 (by rw [if_neg q, if_neg (fun y => y.elim q2 q3)]; exact z)
end CON
