theorem sp_bd0 : sp_bd 0 0 99 = 0 := by decide
theorem am_i2l_le {a b : Int32} : (a.toInt64 ≤ b.toInt64) ↔ a ≤ b := by rw [Int64.le_iff_toInt_le, am_le, Int32.toInt_toInt64, Int32.toInt_toInt64]
theorem am_in64 {v : Int32} {lo hi : Int64} {l u : Int32} (h1 : lo = l.toInt64) (h2 : hi = u.toInt64) : (lo ≤ v.toInt64 ∧ v.toInt64 ≤ hi) ↔ (l ≤ v ∧ v ≤ u) := by rw [h1, h2, am_i2l_le, am_i2l_le]
theorem am_RM.upr {h w : am_H} (hR : am_RM h w) (j col : Nat) (hjc : (j, col) = (3, 0) ∨ (j, col) = (5, 1) ∨ (j, col) = (6, 2) ∨ (j, col) = (7, 3) ∨ (j, col) = (2, 4) ∨ (j, col) = (4, 5)) (p : Nat) (v : Int32) : am_RM (am_up h 57 (6 * p + col) v) (am_up w j p v) := by
  obtain ⟨h1, h2, h3, h4, h5, h6⟩ := hR
  have key : ∀ q, q < 5 → ∀ j' c', ((j', c') = (3, 0) ∨ (j', c') = (5, 1) ∨ (j', c') = (6, 2) ∨ (j', c') = (7, 3) ∨ (j', c') = (2, 4) ∨ (j', c') = (4, 5)) → h 57 (6 * q + c') = w j' q → am_up h 57 (6 * p + col) v 57 (6 * q + c') = am_up w j p v j' q := by
    intro q hq j' c' hjc' he
    simp only [Prod.mk.injEq] at hjc hjc'
    rw [am_up_ap, if_pos rfl, am_up_ap]
    by_cases hj : j' = j
    · rw [if_pos hj]
      by_cases hqp : q = p
      · rw [if_pos hqp, if_pos (by omega)]
      · rw [if_neg hqp, if_neg (by omega)]
        exact he
    · rw [if_neg hj, if_neg (by omega)]
      exact he
  have j0 : 0 ≠ j := by simp only [Prod.mk.injEq] at hjc; omega
  have j1 : 1 ≠ j := by simp only [Prod.mk.injEq] at hjc; omega
  refine ⟨fun q hq => ?_, ?_, ?_, ?_, ?_, ?_⟩
  · obtain ⟨a1, a2, a3, a4, a5, a6⟩ := h1 q hq
    exact ⟨key q hq 3 0 (by simp) a1, key q hq 5 1 (by simp) a2, key q hq 6 2 (by simp) a3, key q hq 7 3 (by simp) a4, key q hq 2 4 (by simp) a5, key q hq 4 5 (by simp) a6⟩
  · rw [am_up_ne 56 (by decide), am_up_ne 1 j1]; exact h2
  · rw [am_up_ne 49 (by decide), am_up_ne 0 j0]; exact h3
  · rw [am_up_ne 49 (by decide), am_up_ne 0 j0]; exact h4
  · rw [am_up_ne 49 (by decide), am_up_ne 0 j0]; exact h5
  · rw [am_up_ne 49 (by decide), am_up_ne 0 j0]; exact h6
theorem am_RM.upf {h w : am_H} (hR : am_RM h w) (i : Nat) (v : Int32) : am_RM (am_up h 56 i v) (am_up w 1 i v) := by
  obtain ⟨h1, h2, h3, h4, h5, h6⟩ := hR
  refine ⟨fun q hq => ?_, fun k hk => ?_, ?_, ?_, ?_, ?_⟩
  · simp only [am_up_ne 57 (show 57 ≠ 56 by decide), am_up_ne 2 (show 2 ≠ 1 by decide), am_up_ne 3 (show 3 ≠ 1 by decide), am_up_ne 4 (show 4 ≠ 1 by decide), am_up_ne 5 (show 5 ≠ 1 by decide), am_up_ne 6 (show 6 ≠ 1 by decide), am_up_ne 7 (show 7 ≠ 1 by decide)]
    exact h1 q hq
  · rw [am_up_ap, if_pos rfl, am_up_ap, if_pos rfl]
    split
    · rfl
    · exact h2 k hk
  · rw [am_up_ne 49 (by decide), am_up_ne 0 (by decide)]; exact h3
  · rw [am_up_ne 49 (by decide), am_up_ne 0 (by decide)]; exact h4
  · rw [am_up_ne 49 (by decide), am_up_ne 0 (by decide)]; exact h5
  · rw [am_up_ne 49 (by decide), am_up_ne 0 (by decide)]; exact h6
theorem am_RM.upo {h w : am_H} (hR : am_RM h w) (k i : Nat) (hki : (k, i) = (15, 8) ∨ (k, i) = (11, 9) ∨ (k, i) = (12, 10) ∨ (k, i) = (4, 11)) (v : Int32) : am_RM (am_up h 49 k v) (am_up w 0 i v) := by
  obtain ⟨h1, h2, h3, h4, h5, h6⟩ := hR
  simp only [Prod.mk.injEq] at hki
  refine ⟨fun q hq => ?_, fun c hc => ?_, ?_, ?_, ?_, ?_⟩
  · simp only [am_up_ne 57 (show 57 ≠ 49 by decide), am_up_ne 2 (show 2 ≠ 0 by decide), am_up_ne 3 (show 3 ≠ 0 by decide), am_up_ne 4 (show 4 ≠ 0 by decide), am_up_ne 5 (show 5 ≠ 0 by decide), am_up_ne 6 (show 6 ≠ 0 by decide), am_up_ne 7 (show 7 ≠ 0 by decide)]
    exact h1 q hq
  · rw [am_up_ne 56 (by decide), am_up_ne 1 (by decide)]; exact h2 c hc
  all_goals
    rw [am_up_ap, if_pos rfl, am_up_ap, if_pos rfl]
    rcases hki with ⟨rfl, rfl⟩ | ⟨rfl, rfl⟩ | ⟨rfl, rfl⟩ | ⟨rfl, rfl⟩ <;> simp [h3, h4, h5, h6]
theorem am_RM.far {h h1 w : am_H} (hR : am_RM h w) (h57 : h1 57 = h 57) (h56 : h1 56 = h 56) (h49 : ∀ k, (k = 4 ∨ k = 11 ∨ k = 12 ∨ k = 15) → h1 49 k = h 49 k) : am_RM h1 w := by
  unfold am_RM
  rw [h57, h56, h49 15 (by decide), h49 11 (by decide), h49 12 (by decide), h49 4 (by decide)]
  exact hR
section CON
variable {d n : Nat} {Y : List am_C} {h w : am_H} {K : List Value → List am_C → am_H → Prop}
set_option maxHeartbeats 4000000 in
set_option maxRecDepth 100000 in
theorem c_X6_treadsOf {p r : Nat} {f : am_F} (hd : 5 ≤ d) (hm : am_mod Y) (hR : am_RM h w) (hI : am_WI w n) (hp : p < n) (hru : w 0 11 = nI r) (hr6 : r < 6) (ht : am_txM h r f) (hK : ∀ h1, am_q1 h h1 → K [.int (sp_treads f w n p)] Y h1) : am_Met d 0 0 YX6_treadsOf [.ref 49, .int (nI p)] Y h K := by
  refine en_X6_treadsOf fun X F hr => ?_
  have hm' := hm
  obtain ⟨m0, m1, m2, m3, m4, m5, m6, m7, m8, m9, m10, m11, m12, m13, m14, m15, m16, m17⟩ := hm
  have hp5 : p < 5 := by have := hI.2.1; omega
  obtain ⟨r0, r1, r2, r3, r4, r5⟩ := hR.1 p hp5
  unfold sp_treads at hK
  simp only [te_X6_treadsOf_0, te_X6_treadsOf_19, te_X6_treadsOf_37, te_X6_treadsOf_58, te_X6_treadsOf_69, te_X6_treadsOf_70, te_X6_treadsOf_63, te_X6_treadsOf_42, te_X6_treadsOf_31, te_X6_treadsOf_17, m0, m8, mc_0, mc_1, mc_2, mc_3, mc_4, mc_5, mc_6, mc_7, mc_8, mc_9, mc_10, mc_11, mc_12, mc_13, mc_14, mc_15, mc_16, mc_17, mc_18, mc_19, mc_20, mc_21, mc_22, mc_23, mc_24, mc_25, mc_26, mc_27, mc_28, mc_29, mc_30, mc_31, mc_32, mc_33, mc_34, mc_35, mc_36, mc_37, mc_38, mc_39, mc_40, mc_41, mc_42, mc_43, mc_44, mc_45, am_m6, am_a4, nI_clamp (show 6 * p + 4 < 2 ^ 31 by omega), r4, qtm_push, qtm_iload, qtm_lload, qtm_aload, qtm_istore, qtm_lstore, qtm_astore, qtm_iinc, qtm_un, qtm_bin, qtm_div, qtm_lbin, qtm_ldiv, qtm_lsh, qtm_lcmp, qtm_i2l, qtm_l2i, qtm_if, qtm_cmp, qtm_getf, qtm_puti, qtm_putz, qtm_putl, qtm_iald, qtm_iast, qtm_zald, qtm_zast, qtm_aald, qtm_tsw, qtm_callV, qtm_callS, qtm_acp, qtm_alen, qtm_max, qtm_min, qtm_dup, qtm_pop, qtm_iret, qtm_zret, qtm_lret, qtm_aret, qtm_vret, qtm_swn, qtm_swc, am_oi_c, am_ol_c, am_or_r, am_or_f, am_pi_c, am_pj_c, am_pr_c, am_pa_r, am_pa_f, am_yo_c, am_ya_c, am_fv_i, am_fv_l, am_fv_r, am_fi_c, am_fl_c, am_rv_c, am_n2_s, am_n2_n, am_pv_0, am_pv_s, am_cs_n, am_cs_c, Value.category, List.getElem?_cons_zero, List.getElem?_cons_succ, List.set_cons_zero, List.set_cons_succ, List.length_cons, List.length_nil, List.drop_succ_cons, List.drop_zero, List.take_succ_cons, List.take_zero, List.take_nil, List.reverse_cons, List.reverse_nil, List.nil_append, List.cons_append, List.append_nil, true_and, and_true, Int.reduceAdd, am_o0, am_o1, am_o2, am_o3, am_o4, am_o5, am_o6, am_o7, am_o8, am_o9, am_o10, am_o11, am_o12, am_o13, am_o14, am_o15, am_o16, am_o17, am_o18, am_o19, am_o20, am_o21, am_o22, am_o23, am_o24, am_o25, am_o26, am_o27, Nat.reduceAdd, Nat.reduceLeDiff, Nat.reduceLT, Nat.zero_le]
  refine ⟨vp_in_nI (by omega) (by decide), fun z => ?_, fun z => ⟨by omega, c_X6_says (k := 1) (lo := -99) (n := n) (by omega) hm' hR hI hp hru hr6 ht (by decide) rfl fun h1 hq1 => ?_⟩⟩
  · have := hK h (am_q1.rf h)
    rw [if_neg (by rw [z]; decide), if_neg (by rw [z]; decide), if_neg (by rw [z]; decide), if_pos z, sp_bd0] at this
    exact this
  have hR1 := hR.q1 hq1
  obtain ⟨s0, s1, s2, s3, s4, s5⟩ := hR1.1 p hp5
  have hfin := hK h1 hq1
  rw [if_neg z] at hfin
  simp only [m0, m8, mc_0, mc_1, mc_2, mc_3, mc_4, mc_5, mc_6, mc_7, mc_8, mc_9, mc_10, mc_11, mc_12, mc_13, mc_14, mc_15, mc_16, mc_17, mc_18, mc_19, mc_20, mc_21, mc_22, mc_23, mc_24, mc_25, mc_26, mc_27, mc_28, mc_29, mc_30, mc_31, mc_32, mc_33, mc_34, mc_35, mc_36, mc_37, mc_38, mc_39, mc_40, mc_41, mc_42, mc_43, mc_44, mc_45, am_m6, nI_clamp (show 6 * p < 2 ^ 31 by omega), s0, qtm_push, qtm_iload, qtm_lload, qtm_aload, qtm_istore, qtm_lstore, qtm_astore, qtm_iinc, qtm_un, qtm_bin, qtm_div, qtm_lbin, qtm_ldiv, qtm_lsh, qtm_lcmp, qtm_i2l, qtm_l2i, qtm_if, qtm_cmp, qtm_getf, qtm_puti, qtm_putz, qtm_putl, qtm_iald, qtm_iast, qtm_zald, qtm_zast, qtm_aald, qtm_tsw, qtm_callV, qtm_callS, qtm_acp, qtm_alen, qtm_max, qtm_min, qtm_dup, qtm_pop, qtm_iret, qtm_zret, qtm_lret, qtm_aret, qtm_vret, qtm_swn, qtm_swc, am_oi_c, am_ol_c, am_or_r, am_or_f, am_pi_c, am_pj_c, am_pr_c, am_pa_r, am_pa_f, am_yo_c, am_ya_c, am_fv_i, am_fv_l, am_fv_r, am_fi_c, am_fl_c, am_rv_c, am_n2_s, am_n2_n, am_pv_0, am_pv_s, am_cs_n, am_cs_c, Value.category, List.getElem?_cons_zero, List.getElem?_cons_succ, List.set_cons_zero, List.set_cons_succ, List.length_cons, List.length_nil, List.drop_succ_cons, List.drop_zero, List.take_succ_cons, List.take_zero, List.take_nil, List.reverse_cons, List.reverse_nil, List.nil_append, List.cons_append, List.append_nil, true_and, and_true, Int.reduceAdd, am_o0, am_o1, am_o2, am_o3, am_o4, am_o5, am_o6, am_o7, am_o8, am_o9, am_o10, am_o11, am_o12, am_o13, am_o14, am_o15, am_o16, am_o17, am_o18, am_o19, am_o20, am_o21, am_o22, am_o23, am_o24, am_o25, am_o26, am_o27, Nat.reduceAdd, Nat.reduceLeDiff, Nat.reduceLT, Nat.zero_le]
  refine ⟨fun q2 => ⟨by omega, c_X6_within (And.intro rfl ?_)⟩, fun q2 => ⟨fun q4 => ⟨vp_in_nI (by omega) (by decide), by omega, c_X6_within (And.intro rfl ?_)⟩, fun q4 => ⟨fun q3 => ⟨by decide, by omega, c_X6_within (And.intro rfl ?_)⟩, fun q3 => ⟨by omega, c_X6_within (And.intro rfl ?_)⟩⟩⟩⟩
  · rw [if_pos q2] at hfin; exact hfin
  · rw [if_neg q2, if_neg (by rw [q4]; decide), if_pos q4] at hfin; exact hfin
  · rw [if_neg q2, if_pos q3] at hfin; exact hfin
  · rw [if_neg q2, if_neg q3, if_neg q4] at hfin; exact hfin
set_option maxHeartbeats 4000000 in
set_option maxRecDepth 100000 in
theorem c_X6_doubtsOf {p r u : Nat} {f : am_F} (hd : 5 ≤ d) (hm : am_mod Y) (hR : am_RM h w) (hI : am_WI w n) (hp : p < n) (hru : w 0 11 = nI r) (hr6 : r < 6) (hu : w 0 9 = nI u) (hu2 : u < 2 ^ 31) (ht : am_txM h r f) (hK : ∀ h1, am_q1 h h1 → K [.int (sp_doubts f w n p)] Y h1) : am_Met d 0 0 YX6_doubtsOf [.ref 49, .int (nI p)] Y h K := by
  refine en_X6_doubtsOf fun X F hr => ?_
  have hm' := hm
  obtain ⟨m0, m1, m2, m3, m4, m5, m6, m7, m8, m9, m10, m11, m12, m13, m14, m15, m16, m17⟩ := hm
  have hp5 : p < 5 := by have := hI.2.1; omega
  obtain ⟨r0, r1, r2, r3, r4, r5⟩ := hR.1 p hp5
  have h5 := hI.2.1
  have hrem : nI u - nI u / 2 * 2 = nI (u % 2) := pk_rem (d := 2) hu2 (by decide) (by decide)
  unfold sp_doubts at hK
  rw [hu, hrem] at hK
  simp only [te_X6_doubtsOf_0, te_X6_doubtsOf_17, te_X6_doubtsOf_26, m0, m8, mc_0, mc_1, mc_2, mc_3, mc_4, mc_5, mc_6, mc_7, mc_8, mc_9, mc_10, mc_11, mc_12, mc_13, mc_14, mc_15, mc_16, mc_17, mc_18, mc_19, mc_20, mc_21, mc_22, mc_23, mc_24, mc_25, mc_26, mc_27, mc_28, mc_29, mc_30, mc_31, mc_32, mc_33, mc_34, mc_35, mc_36, mc_37, mc_38, mc_39, mc_40, mc_41, mc_42, mc_43, mc_44, mc_45, am_m6, am_a4, nI_clamp (show 6 * p + 4 < 2 ^ 31 by omega), r4, hR.2.2.2.1, hu, hrem, qtm_push, qtm_iload, qtm_lload, qtm_aload, qtm_istore, qtm_lstore, qtm_astore, qtm_iinc, qtm_un, qtm_bin, qtm_div, qtm_lbin, qtm_ldiv, qtm_lsh, qtm_lcmp, qtm_i2l, qtm_l2i, qtm_if, qtm_cmp, qtm_getf, qtm_puti, qtm_putz, qtm_putl, qtm_iald, qtm_iast, qtm_zald, qtm_zast, qtm_aald, qtm_tsw, qtm_callV, qtm_callS, qtm_acp, qtm_alen, qtm_max, qtm_min, qtm_dup, qtm_pop, qtm_iret, qtm_zret, qtm_lret, qtm_aret, qtm_vret, qtm_swn, qtm_swc, am_oi_c, am_ol_c, am_or_r, am_or_f, am_pi_c, am_pj_c, am_pr_c, am_pa_r, am_pa_f, am_yo_c, am_ya_c, am_fv_i, am_fv_l, am_fv_r, am_fi_c, am_fl_c, am_rv_c, am_n2_s, am_n2_n, am_pv_0, am_pv_s, am_cs_n, am_cs_c, Value.category, List.getElem?_cons_zero, List.getElem?_cons_succ, List.set_cons_zero, List.set_cons_succ, List.length_cons, List.length_nil, List.drop_succ_cons, List.drop_zero, List.take_succ_cons, List.take_zero, List.take_nil, List.reverse_cons, List.reverse_nil, List.nil_append, List.cons_append, List.append_nil, true_and, and_true, Int.reduceAdd, am_o0, am_o1, am_o2, am_o3, am_o4, am_o5, am_o6, am_o7, am_o8, am_o9, am_o10, am_o11, am_o12, am_o13, am_o14, am_o15, am_o16, am_o17, am_o18, am_o19, am_o20, am_o21, am_o22, am_o23, am_o24, am_o25, am_o26, am_o27, Nat.reduceAdd, Nat.reduceLeDiff, Nat.reduceLT, Nat.zero_le]
  have e0 : (nI (u % 2) = 0) ↔ u % 2 = 0 := nI_eq (b := 0) (by omega) (by decide)
  have e1 : (nI (u % 2) = 1) ↔ u % 2 = 1 := nI_eq (b := 1) (by omega) (by decide)
  have go : (w 2 p = 3 → nI (u % 2) = 1) → am_At X (am_MQ X K 0 0) 4 0 0 28 [.ref 49, .int (nI p), .int (w 2 p), .null] [] Y h := by
    intro hc
    refine sd_X6_doubtsOf_28 F hr _ _ _ _ ?_
    simp only [te_X6_doubtsOf_28, te_X6_doubtsOf_45, te_X6_doubtsOf_107, te_X6_doubtsOf_40, te_X6_doubtsOf_59, te_X6_doubtsOf_69, te_X6_doubtsOf_95, te_X6_doubtsOf_106, te_X6_doubtsOf_100, te_X6_doubtsOf_74, te_X6_doubtsOf_90, te_X6_doubtsOf_82, te_X6_doubtsOf_64, m0, qtm_push, qtm_iload, qtm_lload, qtm_aload, qtm_istore, qtm_lstore, qtm_astore, qtm_iinc, qtm_un, qtm_bin, qtm_div, qtm_lbin, qtm_ldiv, qtm_lsh, qtm_lcmp, qtm_i2l, qtm_l2i, qtm_if, qtm_cmp, qtm_getf, qtm_puti, qtm_putz, qtm_putl, qtm_iald, qtm_iast, qtm_zald, qtm_zast, qtm_aald, qtm_tsw, qtm_callV, qtm_callS, qtm_acp, qtm_alen, qtm_max, qtm_min, qtm_dup, qtm_pop, qtm_iret, qtm_zret, qtm_lret, qtm_aret, qtm_vret, qtm_swn, qtm_swc, am_oi_c, am_ol_c, am_or_r, am_or_f, am_pi_c, am_pj_c, am_pr_c, am_pa_r, am_pa_f, am_yo_c, am_ya_c, am_fv_i, am_fv_l, am_fv_r, am_fi_c, am_fl_c, am_rv_c, am_n2_s, am_n2_n, am_pv_0, am_pv_s, am_cs_n, am_cs_c, Value.category, List.getElem?_cons_zero, List.getElem?_cons_succ, List.set_cons_zero, List.set_cons_succ, List.length_cons, List.length_nil, List.drop_succ_cons, List.drop_zero, List.take_succ_cons, List.take_zero, List.take_nil, List.reverse_cons, List.reverse_nil, List.nil_append, List.cons_append, List.append_nil, true_and, and_true, Int.reduceAdd, am_o0, am_o1, am_o2, am_o3, am_o4, am_o5, am_o6, am_o7, am_o8, am_o9, am_o10, am_o11, am_o12, am_o13, am_o14, am_o15, am_o16, am_o17, am_o18, am_o19, am_o20, am_o21, am_o22, am_o23, am_o24, am_o25, am_o26, am_o27, Nat.reduceAdd, Nat.reduceLeDiff, Nat.reduceLT, Nat.zero_le]
    refine ⟨by omega, c_X6_says (k := 2) (lo := -99) (n := n) (by omega) hm' hR hI hp hru hr6 ht (by decide) rfl fun h1 hq1 => ?_⟩
    have hR1 := hR.q1 hq1
    obtain ⟨s0, s1, s2, s3, s4, s5⟩ := hR1.1 p hp5
    have hfin := hK h1 hq1
    simp only [m0, m8, mc_0, mc_1, mc_2, mc_3, mc_4, mc_5, mc_6, mc_7, mc_8, mc_9, mc_10, mc_11, mc_12, mc_13, mc_14, mc_15, mc_16, mc_17, mc_18, mc_19, mc_20, mc_21, mc_22, mc_23, mc_24, mc_25, mc_26, mc_27, mc_28, mc_29, mc_30, mc_31, mc_32, mc_33, mc_34, mc_35, mc_36, mc_37, mc_38, mc_39, mc_40, mc_41, mc_42, mc_43, mc_44, mc_45, am_m6, nI_clamp (show 6 * p < 2 ^ 31 by omega), s0, qtm_push, qtm_iload, qtm_lload, qtm_aload, qtm_istore, qtm_lstore, qtm_astore, qtm_iinc, qtm_un, qtm_bin, qtm_div, qtm_lbin, qtm_ldiv, qtm_lsh, qtm_lcmp, qtm_i2l, qtm_l2i, qtm_if, qtm_cmp, qtm_getf, qtm_puti, qtm_putz, qtm_putl, qtm_iald, qtm_iast, qtm_zald, qtm_zast, qtm_aald, qtm_tsw, qtm_callV, qtm_callS, qtm_acp, qtm_alen, qtm_max, qtm_min, qtm_dup, qtm_pop, qtm_iret, qtm_zret, qtm_lret, qtm_aret, qtm_vret, qtm_swn, qtm_swc, am_oi_c, am_ol_c, am_or_r, am_or_f, am_pi_c, am_pj_c, am_pr_c, am_pa_r, am_pa_f, am_yo_c, am_ya_c, am_fv_i, am_fv_l, am_fv_r, am_fi_c, am_fl_c, am_rv_c, am_n2_s, am_n2_n, am_pv_0, am_pv_s, am_cs_n, am_cs_c, Value.category, List.getElem?_cons_zero, List.getElem?_cons_succ, List.set_cons_zero, List.set_cons_succ, List.length_cons, List.length_nil, List.drop_succ_cons, List.drop_zero, List.take_succ_cons, List.take_zero, List.take_nil, List.reverse_cons, List.reverse_nil, List.nil_append, List.cons_append, List.append_nil, true_and, and_true, Int.reduceAdd, am_o0, am_o1, am_o2, am_o3, am_o4, am_o5, am_o6, am_o7, am_o8, am_o9, am_o10, am_o11, am_o12, am_o13, am_o14, am_o15, am_o16, am_o17, am_o18, am_o19, am_o20, am_o21, am_o22, am_o23, am_o24, am_o25, am_o26, am_o27, Nat.reduceAdd, Nat.reduceLeDiff, Nat.reduceLT, Nat.zero_le]
    refine ⟨fun q1 => ⟨vp_in_nI (by omega) (by decide), ?_⟩, fun q1 => ⟨fun q3 => ⟨vp_in_nI (by omega) (by decide), ?_⟩, fun q3 => ⟨fun q2 => ?_, fun q2 => ⟨fun q4 => ⟨by omega, c_X6_met (by omega) hm' hR1 hI.1 h5 hp5 ?_⟩, fun q4 => ⟨fun q5 => ?_, fun q5 => ?_⟩⟩⟩⟩⟩
    · rw [if_pos q1] at hfin; exact hfin
    · rw [if_neg q1, if_neg (by rw [q3]; decide), if_pos q3, if_pos (hc q3)] at hfin; exact hfin
    · rw [if_neg q1, if_pos q2] at hfin; exact hfin
    · rw [if_neg q1, if_neg q2, if_neg q3, if_pos q4, Int32.sub_zero] at hfin
      simp only [qtm_push, qtm_iload, qtm_lload, qtm_aload, qtm_istore, qtm_lstore, qtm_astore, qtm_iinc, qtm_un, qtm_bin, qtm_div, qtm_lbin, qtm_ldiv, qtm_lsh, qtm_lcmp, qtm_i2l, qtm_l2i, qtm_if, qtm_cmp, qtm_getf, qtm_puti, qtm_putz, qtm_putl, qtm_iald, qtm_iast, qtm_zald, qtm_zast, qtm_aald, qtm_tsw, qtm_callV, qtm_callS, qtm_acp, qtm_alen, qtm_max, qtm_min, qtm_dup, qtm_pop, qtm_iret, qtm_zret, qtm_lret, qtm_aret, qtm_vret, qtm_swn, qtm_swc, am_oi_c, am_ol_c, am_or_r, am_or_f, am_pi_c, am_pj_c, am_pr_c, am_pa_r, am_pa_f, am_yo_c, am_ya_c, am_fv_i, am_fv_l, am_fv_r, am_fi_c, am_fl_c, am_rv_c, am_n2_s, am_n2_n, am_pv_0, am_pv_s, am_cs_n, am_cs_c, Value.category, List.getElem?_cons_zero, List.getElem?_cons_succ, List.set_cons_zero, List.set_cons_succ, List.length_cons, List.length_nil, List.drop_succ_cons, List.drop_zero, List.take_succ_cons, List.take_zero, List.take_nil, List.reverse_cons, List.reverse_nil, List.nil_append, List.cons_append, List.append_nil, true_and, and_true, Int.reduceAdd, am_o0, am_o1, am_o2, am_o3, am_o4, am_o5, am_o6, am_o7, am_o8, am_o9, am_o10, am_o11, am_o12, am_o13, am_o14, am_o15, am_o16, am_o17, am_o18, am_o19, am_o20, am_o21, am_o22, am_o23, am_o24, am_o25, am_o26, am_o27, Nat.reduceAdd, Nat.reduceLeDiff, Nat.reduceLT, Nat.zero_le]
      exact ⟨fun z => by rw [if_pos z] at hfin; exact hfin, fun z => by rw [if_neg z] at hfin; exact hfin⟩
    · rw [if_neg q1, if_neg q2, if_neg q3, if_neg q4, if_pos q5] at hfin; exact hfin
    · rw [if_neg q1, if_neg q2, if_neg q3, if_neg q4, if_neg q5] at hfin; exact hfin
  rw [e0]
  refine ⟨vp_in_nI (by omega) (by decide), fun z => ⟨by decide, fun q => ?_, fun q => go fun _ => e1.mpr (by omega)⟩, fun z => go fun z' => absurd z' z⟩
  have := hK h (am_q1.rf h)
  rw [if_neg (by rw [z]; decide), if_neg (by rw [z]; decide), if_pos z, if_neg (by rw [e1]; omega)] at this
  exact this
set_option maxHeartbeats 4000000 in
set_option maxRecDepth 100000 in
theorem c_X6_isPlace {c : Int32} (hd : 1 ≤ d) (hK : K [.int (if 0 ≤ c ∧ c < 32 then 1 else 0)] Y h) : am_Met d 0 0 YX6_isPlace [.int c] Y h K := by
  refine en_X6_isPlace fun X F hr => ?_
  simp only [te_X6_isPlace_0, qtm_push, qtm_iload, qtm_lload, qtm_aload, qtm_istore, qtm_lstore, qtm_astore, qtm_iinc, qtm_un, qtm_bin, qtm_div, qtm_lbin, qtm_ldiv, qtm_lsh, qtm_lcmp, qtm_i2l, qtm_l2i, qtm_if, qtm_cmp, qtm_getf, qtm_puti, qtm_putz, qtm_putl, qtm_iald, qtm_iast, qtm_zald, qtm_zast, qtm_aald, qtm_tsw, qtm_callV, qtm_callS, qtm_acp, qtm_alen, qtm_max, qtm_min, qtm_dup, qtm_pop, qtm_iret, qtm_zret, qtm_lret, qtm_aret, qtm_vret, qtm_swn, qtm_swc, am_oi_c, am_ol_c, am_or_r, am_or_f, am_pi_c, am_pj_c, am_pr_c, am_pa_r, am_pa_f, am_yo_c, am_ya_c, am_fv_i, am_fv_l, am_fv_r, am_fi_c, am_fl_c, am_rv_c, am_n2_s, am_n2_n, am_pv_0, am_pv_s, am_cs_n, am_cs_c, Value.category, List.getElem?_cons_zero, List.getElem?_cons_succ, List.set_cons_zero, List.set_cons_succ, List.length_cons, List.length_nil, List.drop_succ_cons, List.drop_zero, List.take_succ_cons, List.take_zero, List.take_nil, List.reverse_cons, List.reverse_nil, List.nil_append, List.cons_append, List.append_nil, true_and, and_true, Int.reduceAdd, am_o0, am_o1, am_o2, am_o3, am_o4, am_o5, am_o6, am_o7, am_o8, am_o9, am_o10, am_o11, am_o12, am_o13, am_o14, am_o15, am_o16, am_o17, am_o18, am_o19, am_o20, am_o21, am_o22, am_o23, am_o24, am_o25, am_o26, am_o27, Nat.reduceAdd, Nat.reduceLeDiff, Nat.reduceLT, Nat.zero_le]
  refine ⟨hd, c_X6_in ?_⟩
  have e : (0 ≤ c.toInt64 ∧ c.toInt64 ≤ 31) ↔ (0 ≤ c ∧ c < 32) := by
    refine (am_in64 (l := 0) (u := 31) (by decide) (by decide)).trans ?_
    have e1 : (31 : Int32).toInt = 31 := rfl
    have e2 : (32 : Int32).toInt = 32 := rfl
    rw [am_le, am_le, am_lt]
    omega
  simp only [e]
  simp only [qtm_push, qtm_iload, qtm_lload, qtm_aload, qtm_istore, qtm_lstore, qtm_astore, qtm_iinc, qtm_un, qtm_bin, qtm_div, qtm_lbin, qtm_ldiv, qtm_lsh, qtm_lcmp, qtm_i2l, qtm_l2i, qtm_if, qtm_cmp, qtm_getf, qtm_puti, qtm_putz, qtm_putl, qtm_iald, qtm_iast, qtm_zald, qtm_zast, qtm_aald, qtm_tsw, qtm_callV, qtm_callS, qtm_acp, qtm_alen, qtm_max, qtm_min, qtm_dup, qtm_pop, qtm_iret, qtm_zret, qtm_lret, qtm_aret, qtm_vret, qtm_swn, qtm_swc, am_oi_c, am_ol_c, am_or_r, am_or_f, am_pi_c, am_pj_c, am_pr_c, am_pa_r, am_pa_f, am_yo_c, am_ya_c, am_fv_i, am_fv_l, am_fv_r, am_fi_c, am_fl_c, am_rv_c, am_n2_s, am_n2_n, am_pv_0, am_pv_s, am_cs_n, am_cs_c, Value.category, List.getElem?_cons_zero, List.getElem?_cons_succ, List.set_cons_zero, List.set_cons_succ, List.length_cons, List.length_nil, List.drop_succ_cons, List.drop_zero, List.take_succ_cons, List.take_zero, List.take_nil, List.reverse_cons, List.reverse_nil, List.nil_append, List.cons_append, List.append_nil, true_and, and_true, Int.reduceAdd, am_o0, am_o1, am_o2, am_o3, am_o4, am_o5, am_o6, am_o7, am_o8, am_o9, am_o10, am_o11, am_o12, am_o13, am_o14, am_o15, am_o16, am_o17, am_o18, am_o19, am_o20, am_o21, am_o22, am_o23, am_o24, am_o25, am_o26, am_o27, Nat.reduceAdd, Nat.reduceLeDiff, Nat.reduceLT, Nat.zero_le]
  refine ⟨?_, hK⟩
  split
  · exact Or.inr rfl
  · exact Or.inl rfl
set_option maxHeartbeats 4000000 in
set_option maxRecDepth 100000 in
theorem c_X6_comes {p c : Nat} {tr : Int32} (hd : 2 ≤ d) (hm : am_mod Y) (hR : am_RM h w) (hI : am_WI w n) (hp : p < n) (hc : c < 32) (hK : ∀ h1, am_q2 h h1 → am_RM h1 (sp_free (am_up (am_up w 6 p (nI c)) 1 c (sp_bd (w 1 c + tr) 0 99)) (nI c) n) → K [] Y h1) : am_Met d 0 0 YX6_comes [.ref 49, .int (nI p), .int (nI c), .int tr] Y h K := by
  refine en_X6_comes fun X F hr => ?_
  have hm' := hm
  obtain ⟨m0, m1, m2, m3, m4, m5, m6, m7, m8, m9, m10, m11, m12, m13, m14, m15, m16, m17⟩ := hm
  have hp5 : p < 5 := by have := hI.2.1; omega
  have h5 := hI.2.1
  simp only [te_X6_comes_0, m0, m7, m8, mc_0, mc_1, mc_2, mc_3, mc_4, mc_5, mc_6, mc_7, mc_8, mc_9, mc_10, mc_11, mc_12, mc_13, mc_14, mc_15, mc_16, mc_17, mc_18, mc_19, mc_20, mc_21, mc_22, mc_23, mc_24, mc_25, mc_26, mc_27, mc_28, mc_29, mc_30, mc_31, mc_32, mc_33, mc_34, mc_35, mc_36, mc_37, mc_38, mc_39, mc_40, mc_41, mc_42, mc_43, mc_44, mc_45, am_up_ap, reduceIte, Nat.reduceEqDiff, Nat.add_eq_left, Nat.left_eq_add, Nat.add_left_cancel_iff, am_t0, am_t1, am_t2, am_t3, am_t4, am_t5, am_t6, am_t7, am_t8, am_t9, am_t10, am_t11, am_m6, am_a2, nI_clamp (show 6 * p + 2 < 2 ^ 31 by omega), nI_clamp (show c < 2 ^ 31 by omega), hR.2.1 c hc, qtm_push, qtm_iload, qtm_lload, qtm_aload, qtm_istore, qtm_lstore, qtm_astore, qtm_iinc, qtm_un, qtm_bin, qtm_div, qtm_lbin, qtm_ldiv, qtm_lsh, qtm_lcmp, qtm_i2l, qtm_l2i, qtm_if, qtm_cmp, qtm_getf, qtm_puti, qtm_putz, qtm_putl, qtm_iald, qtm_iast, qtm_zald, qtm_zast, qtm_aald, qtm_tsw, qtm_callV, qtm_callS, qtm_acp, qtm_alen, qtm_max, qtm_min, qtm_dup, qtm_pop, qtm_iret, qtm_zret, qtm_lret, qtm_aret, qtm_vret, qtm_swn, qtm_swc, am_oi_c, am_ol_c, am_or_r, am_or_f, am_pi_c, am_pj_c, am_pr_c, am_pa_r, am_pa_f, am_yo_c, am_ya_c, am_fv_i, am_fv_l, am_fv_r, am_fi_c, am_fl_c, am_rv_c, am_n2_s, am_n2_n, am_pv_0, am_pv_s, am_cs_n, am_cs_c, Value.category, List.getElem?_cons_zero, List.getElem?_cons_succ, List.set_cons_zero, List.set_cons_succ, List.length_cons, List.length_nil, List.drop_succ_cons, List.drop_zero, List.take_succ_cons, List.take_zero, List.take_nil, List.reverse_cons, List.reverse_nil, List.nil_append, List.cons_append, List.append_nil, true_and, and_true, Int.reduceAdd, am_o0, am_o1, am_o2, am_o3, am_o4, am_o5, am_o6, am_o7, am_o8, am_o9, am_o10, am_o11, am_o12, am_o13, am_o14, am_o15, am_o16, am_o17, am_o18, am_o19, am_o20, am_o21, am_o22, am_o23, am_o24, am_o25, am_o26, am_o27, Nat.reduceAdd, Nat.reduceLeDiff, Nat.reduceLT, Nat.zero_le]
  refine ⟨vp_in_nI (by omega) (by decide), vp_in_nI hc (by decide), by omega, c_X6_within ?_⟩
  simp only [m0, m7, m8, mc_0, mc_1, mc_2, mc_3, mc_4, mc_5, mc_6, mc_7, mc_8, mc_9, mc_10, mc_11, mc_12, mc_13, mc_14, mc_15, mc_16, mc_17, mc_18, mc_19, mc_20, mc_21, mc_22, mc_23, mc_24, mc_25, mc_26, mc_27, mc_28, mc_29, mc_30, mc_31, mc_32, mc_33, mc_34, mc_35, mc_36, mc_37, mc_38, mc_39, mc_40, mc_41, mc_42, mc_43, mc_44, mc_45, am_up_ap, reduceIte, Nat.reduceEqDiff, Nat.add_eq_left, Nat.left_eq_add, Nat.add_left_cancel_iff, am_t0, am_t1, am_t2, am_t3, am_t4, am_t5, am_t6, am_t7, am_t8, am_t9, am_t10, am_t11, am_m6, am_a2, nI_clamp (show 6 * p + 2 < 2 ^ 31 by omega), nI_clamp (show c < 2 ^ 31 by omega), hR.2.1 c hc, qtm_push, qtm_iload, qtm_lload, qtm_aload, qtm_istore, qtm_lstore, qtm_astore, qtm_iinc, qtm_un, qtm_bin, qtm_div, qtm_lbin, qtm_ldiv, qtm_lsh, qtm_lcmp, qtm_i2l, qtm_l2i, qtm_if, qtm_cmp, qtm_getf, qtm_puti, qtm_putz, qtm_putl, qtm_iald, qtm_iast, qtm_zald, qtm_zast, qtm_aald, qtm_tsw, qtm_callV, qtm_callS, qtm_acp, qtm_alen, qtm_max, qtm_min, qtm_dup, qtm_pop, qtm_iret, qtm_zret, qtm_lret, qtm_aret, qtm_vret, qtm_swn, qtm_swc, am_oi_c, am_ol_c, am_or_r, am_or_f, am_pi_c, am_pj_c, am_pr_c, am_pa_r, am_pa_f, am_yo_c, am_ya_c, am_fv_i, am_fv_l, am_fv_r, am_fi_c, am_fl_c, am_rv_c, am_n2_s, am_n2_n, am_pv_0, am_pv_s, am_cs_n, am_cs_c, Value.category, List.getElem?_cons_zero, List.getElem?_cons_succ, List.set_cons_zero, List.set_cons_succ, List.length_cons, List.length_nil, List.drop_succ_cons, List.drop_zero, List.take_succ_cons, List.take_zero, List.take_nil, List.reverse_cons, List.reverse_nil, List.nil_append, List.cons_append, List.append_nil, true_and, and_true, Int.reduceAdd, am_o0, am_o1, am_o2, am_o3, am_o4, am_o5, am_o6, am_o7, am_o8, am_o9, am_o10, am_o11, am_o12, am_o13, am_o14, am_o15, am_o16, am_o17, am_o18, am_o19, am_o20, am_o21, am_o22, am_o23, am_o24, am_o25, am_o26, am_o27, Nat.reduceAdd, Nat.reduceLeDiff, Nat.reduceLT, Nat.zero_le]
  refine ⟨vp_in_nI hc (by decide), ?_⟩
  have hR0 := (hR.upr 6 2 (by simp) p (nI c)).upf c (sp_bd (w 1 c + tr) 0 99)
  have loop := am_for (P := fun i => ∀ h' : am_H, am_q2 h h' → am_RM h' (sp_free (am_up (am_up w 6 p (nI c)) 1 c (sp_bd (w 1 c + tr) 0 99)) (nI c) i) → am_At X (am_MQ X K 0 0) 5 0 0 35 [.ref 49, .int (nI p), .int (nI c), .int tr, .int (nI i)] [] Y h') n
      (fun h' hq hR' => by
        have hn' : h' 49 15 = nI n := by
          rw [hR'.2.2.1, sp_free_row _ _ _ 0 (by decide)]
          simpa [am_up] using hI.1
        refine sd_X6_comes_35 F hr _ _ _ _ ?_
        simp only [te_X6_comes_35, te_X6_comes_98, te_X6_comes_44, te_X6_comes_79, te_X6_comes_91, te_X6_comes_65, te_X6_comes_75, m0, mc_0, mc_1, mc_2, mc_3, mc_4, mc_5, mc_6, mc_7, mc_8, mc_9, mc_10, mc_11, mc_12, mc_13, mc_14, mc_15, mc_16, mc_17, mc_18, mc_19, mc_20, mc_21, mc_22, mc_23, mc_24, mc_25, mc_26, mc_27, mc_28, mc_29, mc_30, mc_31, mc_32, mc_33, mc_34, mc_35, mc_36, mc_37, mc_38, mc_39, mc_40, mc_41, mc_42, mc_43, mc_44, mc_45, hn', qtm_push, qtm_iload, qtm_lload, qtm_aload, qtm_istore, qtm_lstore, qtm_astore, qtm_iinc, qtm_un, qtm_bin, qtm_div, qtm_lbin, qtm_ldiv, qtm_lsh, qtm_lcmp, qtm_i2l, qtm_l2i, qtm_if, qtm_cmp, qtm_getf, qtm_puti, qtm_putz, qtm_putl, qtm_iald, qtm_iast, qtm_zald, qtm_zast, qtm_aald, qtm_tsw, qtm_callV, qtm_callS, qtm_acp, qtm_alen, qtm_max, qtm_min, qtm_dup, qtm_pop, qtm_iret, qtm_zret, qtm_lret, qtm_aret, qtm_vret, qtm_swn, qtm_swc, am_oi_c, am_ol_c, am_or_r, am_or_f, am_pi_c, am_pj_c, am_pr_c, am_pa_r, am_pa_f, am_yo_c, am_ya_c, am_fv_i, am_fv_l, am_fv_r, am_fi_c, am_fl_c, am_rv_c, am_n2_s, am_n2_n, am_pv_0, am_pv_s, am_cs_n, am_cs_c, Value.category, List.getElem?_cons_zero, List.getElem?_cons_succ, List.set_cons_zero, List.set_cons_succ, List.length_cons, List.length_nil, List.drop_succ_cons, List.drop_zero, List.take_succ_cons, List.take_zero, List.take_nil, List.reverse_cons, List.reverse_nil, List.nil_append, List.cons_append, List.append_nil, true_and, and_true, Int.reduceAdd, am_o0, am_o1, am_o2, am_o3, am_o4, am_o5, am_o6, am_o7, am_o8, am_o9, am_o10, am_o11, am_o12, am_o13, am_o14, am_o15, am_o16, am_o17, am_o18, am_o19, am_o20, am_o21, am_o22, am_o23, am_o24, am_o25, am_o26, am_o27, Nat.reduceAdd, Nat.reduceLeDiff, Nat.reduceLT, Nat.zero_le]
        exact ⟨fun _ => hK h' hq hR', fun q => absurd (nI_le (Nat.le_refl n) (by omega)) q⟩)
      (fun i hi ih h' hq hR' => by
        have hn' : h' 49 15 = nI n := by
          rw [hR'.2.2.1, sp_free_row _ _ _ 0 (by decide)]
          simpa [am_up] using hI.1
        obtain ⟨s0, s1, s2, s3, s4, s5⟩ := hR'.1 i (by omega)
        refine sd_X6_comes_35 F hr _ _ _ _ ?_
        simp only [te_X6_comes_35, te_X6_comes_98, te_X6_comes_44, te_X6_comes_79, te_X6_comes_91, te_X6_comes_65, te_X6_comes_75, m0, m8, mc_0, mc_1, mc_2, mc_3, mc_4, mc_5, mc_6, mc_7, mc_8, mc_9, mc_10, mc_11, mc_12, mc_13, mc_14, mc_15, mc_16, mc_17, mc_18, mc_19, mc_20, mc_21, mc_22, mc_23, mc_24, mc_25, mc_26, mc_27, mc_28, mc_29, mc_30, mc_31, mc_32, mc_33, mc_34, mc_35, mc_36, mc_37, mc_38, mc_39, mc_40, mc_41, mc_42, mc_43, mc_44, mc_45, hn', am_m6, am_a3, nI_clamp (show 6 * i + 3 < 2 ^ 31 by omega), s3, qtm_push, qtm_iload, qtm_lload, qtm_aload, qtm_istore, qtm_lstore, qtm_astore, qtm_iinc, qtm_un, qtm_bin, qtm_div, qtm_lbin, qtm_ldiv, qtm_lsh, qtm_lcmp, qtm_i2l, qtm_l2i, qtm_if, qtm_cmp, qtm_getf, qtm_puti, qtm_putz, qtm_putl, qtm_iald, qtm_iast, qtm_zald, qtm_zast, qtm_aald, qtm_tsw, qtm_callV, qtm_callS, qtm_acp, qtm_alen, qtm_max, qtm_min, qtm_dup, qtm_pop, qtm_iret, qtm_zret, qtm_lret, qtm_aret, qtm_vret, qtm_swn, qtm_swc, am_oi_c, am_ol_c, am_or_r, am_or_f, am_pi_c, am_pj_c, am_pr_c, am_pa_r, am_pa_f, am_yo_c, am_ya_c, am_fv_i, am_fv_l, am_fv_r, am_fi_c, am_fl_c, am_rv_c, am_n2_s, am_n2_n, am_pv_0, am_pv_s, am_cs_n, am_cs_c, Value.category, List.getElem?_cons_zero, List.getElem?_cons_succ, List.set_cons_zero, List.set_cons_succ, List.length_cons, List.length_nil, List.drop_succ_cons, List.drop_zero, List.take_succ_cons, List.take_zero, List.take_nil, List.reverse_cons, List.reverse_nil, List.nil_append, List.cons_append, List.append_nil, true_and, and_true, Int.reduceAdd, am_o0, am_o1, am_o2, am_o3, am_o4, am_o5, am_o6, am_o7, am_o8, am_o9, am_o10, am_o11, am_o12, am_o13, am_o14, am_o15, am_o16, am_o17, am_o18, am_o19, am_o20, am_o21, am_o22, am_o23, am_o24, am_o25, am_o26, am_o27, Nat.reduceAdd, Nat.reduceLeDiff, Nat.reduceLT, Nat.zero_le]
        refine ⟨fun q => absurd ((nI_leI (by omega) (by omega)).mp q) (by omega), fun _ => ⟨by omega, c_X6_isHow hm' hR' (by omega) ?_⟩⟩
        have same : am_up h' 57 (6 * i + 3) ((sp_free (am_up (am_up w 6 p (nI c)) 1 c (sp_bd (w 1 c + tr) 0 99)) (nI c) i) 7 i) = h' := by
          funext a b
          rw [am_up_ap]
          split
          · split
            · rename_i q1 q2
              rw [q1, q2]
              exact s3.symm
            · rename_i q1 q2
              rw [q1]
          · rfl
        by_cases q : (sp_free (am_up (am_up w 6 p (nI c)) 1 c (sp_bd (w 1 c + tr) 0 99)) (nI c) i) 7 i = 2
        · simp only [if_pos q, m0, qtm_push, qtm_iload, qtm_lload, qtm_aload, qtm_istore, qtm_lstore, qtm_astore, qtm_iinc, qtm_un, qtm_bin, qtm_div, qtm_lbin, qtm_ldiv, qtm_lsh, qtm_lcmp, qtm_i2l, qtm_l2i, qtm_if, qtm_cmp, qtm_getf, qtm_puti, qtm_putz, qtm_putl, qtm_iald, qtm_iast, qtm_zald, qtm_zast, qtm_aald, qtm_tsw, qtm_callV, qtm_callS, qtm_acp, qtm_alen, qtm_max, qtm_min, qtm_dup, qtm_pop, qtm_iret, qtm_zret, qtm_lret, qtm_aret, qtm_vret, qtm_swn, qtm_swc, am_oi_c, am_ol_c, am_or_r, am_or_f, am_pi_c, am_pj_c, am_pr_c, am_pa_r, am_pa_f, am_yo_c, am_ya_c, am_fv_i, am_fv_l, am_fv_r, am_fi_c, am_fl_c, am_rv_c, am_n2_s, am_n2_n, am_pv_0, am_pv_s, am_cs_n, am_cs_c, Value.category, List.getElem?_cons_zero, List.getElem?_cons_succ, List.set_cons_zero, List.set_cons_succ, List.length_cons, List.length_nil, List.drop_succ_cons, List.drop_zero, List.take_succ_cons, List.take_zero, List.take_nil, List.reverse_cons, List.reverse_nil, List.nil_append, List.cons_append, List.append_nil, true_and, and_true, Int.reduceAdd, am_o0, am_o1, am_o2, am_o3, am_o4, am_o5, am_o6, am_o7, am_o8, am_o9, am_o10, am_o11, am_o12, am_o13, am_o14, am_o15, am_o16, am_o17, am_o18, am_o19, am_o20, am_o21, am_o22, am_o23, am_o24, am_o25, am_o26, am_o27, Nat.reduceAdd, Nat.reduceLeDiff, Nat.reduceLT, Nat.zero_le]
          refine ⟨fun z => absurd z (by decide), fun _ => ⟨by omega, c_X6_atOf hm' hR' (by omega) ?_⟩⟩
          simp only [m0, m8, mc_0, mc_1, mc_2, mc_3, mc_4, mc_5, mc_6, mc_7, mc_8, mc_9, mc_10, mc_11, mc_12, mc_13, mc_14, mc_15, mc_16, mc_17, mc_18, mc_19, mc_20, mc_21, mc_22, mc_23, mc_24, mc_25, mc_26, mc_27, mc_28, mc_29, mc_30, mc_31, mc_32, mc_33, mc_34, mc_35, mc_36, mc_37, mc_38, mc_39, mc_40, mc_41, mc_42, mc_43, mc_44, mc_45, nI_clamp (show 6 * i + 3 < 2 ^ 31 by omega), nI_1, s3, qtm_push, qtm_iload, qtm_lload, qtm_aload, qtm_istore, qtm_lstore, qtm_astore, qtm_iinc, qtm_un, qtm_bin, qtm_div, qtm_lbin, qtm_ldiv, qtm_lsh, qtm_lcmp, qtm_i2l, qtm_l2i, qtm_if, qtm_cmp, qtm_getf, qtm_puti, qtm_putz, qtm_putl, qtm_iald, qtm_iast, qtm_zald, qtm_zast, qtm_aald, qtm_tsw, qtm_callV, qtm_callS, qtm_acp, qtm_alen, qtm_max, qtm_min, qtm_dup, qtm_pop, qtm_iret, qtm_zret, qtm_lret, qtm_aret, qtm_vret, qtm_swn, qtm_swc, am_oi_c, am_ol_c, am_or_r, am_or_f, am_pi_c, am_pj_c, am_pr_c, am_pa_r, am_pa_f, am_yo_c, am_ya_c, am_fv_i, am_fv_l, am_fv_r, am_fi_c, am_fl_c, am_rv_c, am_n2_s, am_n2_n, am_pv_0, am_pv_s, am_cs_n, am_cs_c, Value.category, List.getElem?_cons_zero, List.getElem?_cons_succ, List.set_cons_zero, List.set_cons_succ, List.length_cons, List.length_nil, List.drop_succ_cons, List.drop_zero, List.take_succ_cons, List.take_zero, List.take_nil, List.reverse_cons, List.reverse_nil, List.nil_append, List.cons_append, List.append_nil, true_and, and_true, Int.reduceAdd, am_o0, am_o1, am_o2, am_o3, am_o4, am_o5, am_o6, am_o7, am_o8, am_o9, am_o10, am_o11, am_o12, am_o13, am_o14, am_o15, am_o16, am_o17, am_o18, am_o19, am_o20, am_o21, am_o22, am_o23, am_o24, am_o25, am_o26, am_o27, Nat.reduceAdd, Nat.reduceLeDiff, Nat.reduceLT, Nat.zero_le]
          refine ⟨fun q2 => ⟨vp_in_nI (by omega) (by decide), ih _ (hq.row _ _ _ (by decide)) ?_⟩, fun q2 => ⟨vp_in_nI (by omega) (by decide), vp_in_nI (by omega) (by decide), ?_⟩⟩
          · simp only [sp_free, if_pos (And.intro q2 q)]
            exact hR'.upr 7 3 (by simp) i 1
          · rw [same]
            refine ih _ hq ?_
            simp only [sp_free, if_neg (fun z : _ ∧ _ => q2 z.1)]
            exact hR'
        · simp only [if_neg q, m0, m8, mc_0, mc_1, mc_2, mc_3, mc_4, mc_5, mc_6, mc_7, mc_8, mc_9, mc_10, mc_11, mc_12, mc_13, mc_14, mc_15, mc_16, mc_17, mc_18, mc_19, mc_20, mc_21, mc_22, mc_23, mc_24, mc_25, mc_26, mc_27, mc_28, mc_29, mc_30, mc_31, mc_32, mc_33, mc_34, mc_35, mc_36, mc_37, mc_38, mc_39, mc_40, mc_41, mc_42, mc_43, mc_44, mc_45, nI_clamp (show 6 * i + 3 < 2 ^ 31 by omega), nI_1, s3, qtm_push, qtm_iload, qtm_lload, qtm_aload, qtm_istore, qtm_lstore, qtm_astore, qtm_iinc, qtm_un, qtm_bin, qtm_div, qtm_lbin, qtm_ldiv, qtm_lsh, qtm_lcmp, qtm_i2l, qtm_l2i, qtm_if, qtm_cmp, qtm_getf, qtm_puti, qtm_putz, qtm_putl, qtm_iald, qtm_iast, qtm_zald, qtm_zast, qtm_aald, qtm_tsw, qtm_callV, qtm_callS, qtm_acp, qtm_alen, qtm_max, qtm_min, qtm_dup, qtm_pop, qtm_iret, qtm_zret, qtm_lret, qtm_aret, qtm_vret, qtm_swn, qtm_swc, am_oi_c, am_ol_c, am_or_r, am_or_f, am_pi_c, am_pj_c, am_pr_c, am_pa_r, am_pa_f, am_yo_c, am_ya_c, am_fv_i, am_fv_l, am_fv_r, am_fi_c, am_fl_c, am_rv_c, am_n2_s, am_n2_n, am_pv_0, am_pv_s, am_cs_n, am_cs_c, Value.category, List.getElem?_cons_zero, List.getElem?_cons_succ, List.set_cons_zero, List.set_cons_succ, List.length_cons, List.length_nil, List.drop_succ_cons, List.drop_zero, List.take_succ_cons, List.take_zero, List.take_nil, List.reverse_cons, List.reverse_nil, List.nil_append, List.cons_append, List.append_nil, true_and, and_true, Int.reduceAdd, am_o0, am_o1, am_o2, am_o3, am_o4, am_o5, am_o6, am_o7, am_o8, am_o9, am_o10, am_o11, am_o12, am_o13, am_o14, am_o15, am_o16, am_o17, am_o18, am_o19, am_o20, am_o21, am_o22, am_o23, am_o24, am_o25, am_o26, am_o27, Nat.reduceAdd, Nat.reduceLeDiff, Nat.reduceLT, Nat.zero_le]
          refine ⟨fun _ => ⟨vp_in_nI (by omega) (by decide), vp_in_nI (by omega) (by decide), ?_⟩, fun z => absurd trivial z⟩
          rw [same]
          refine ih _ hq ?_
          simp only [sp_free, if_neg (fun z : _ ∧ _ => q z.2)]
          exact hR')
  exact loop 0 (Nat.zero_le n) _ (((am_q2.rf h).row _ _ _ (by decide)).row _ _ _ (by decide)) hR0
end CON
