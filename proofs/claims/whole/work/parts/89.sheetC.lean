theorem sp_bd_40 {M : Nat} (h : M ≤ 40) : sp_bd (nI M) 0 40 = nI M := by
  unfold sp_bd
  rw [if_neg (nI_pos (by omega)), if_neg (fun y => by have := (nI_ltI (a := 40) (by decide) (by omega)).mp y; omega)]
/-- sheet k of the class becomes one of sort v and size z, all 0 -/
theorem am_Cs.bec {h : am_H} {so : Nat → Int32} {sz : Nat → Nat} {it : Nat → Nat → Int32} (g : am_Cs h so sz it) {k z : Nat} {v : Int32} (hz : z ≤ 40) : am_Cs (am_fil (am_up (am_up h (41 + 2 * k) 1 v) (41 + 2 * k) 2 (nI (if v = -1 then 0 else z))) (42 + 2 * k) 40 0) (fun i => if i = k then v else so i) (fun i => if i = k then z else sz i) (fun i j => if i = k then 0 else it i j) := by
  intro i hi
  obtain ⟨g1, g2, g3⟩ := g i hi
  by_cases q : i = k
  · subst q
    simp only [if_true]
    refine ⟨by rw [am_fil_ne _ (by omega), am_up_ap, if_pos rfl, if_neg (by decide), am_up_ap, if_pos rfl, if_pos rfl], by rw [am_fil_ne _ (by omega), am_up_ap, if_pos rfl, if_pos rfl], fun _ j hj => ?_⟩
    simp only [am_fil, if_true, if_pos (show j < 40 by omega)]
  · simp only [if_neg q]
    rw [am_fil_ne _ (by omega), am_up_ne _ (by omega), am_up_ne _ (by omega), am_fil_ne _ (by omega), am_up_ne _ (by omega), am_up_ne _ (by omega)]
    exact ⟨g1, g2, g3⟩
theorem am_fC.fil {h h1 : am_H} (hf : am_fC h h1) (c k : Nat) (v : Int32) (hc : c < 49 ∨ 66 < c) : am_fC h (am_fil h1 c k v) := fun a g1 g2 => (am_fil_ne a (by omega)).trans (hf a g1 g2)
section CON
variable {d n : Nat} {Y : List am_C} {h w : am_H} {s : am_S} {K : List Value → List am_C → am_H → Prop}
set_option maxHeartbeats 4000000 in
set_option maxRecDepth 100000 in
theorem c_X1_become {k M : Nat} {v m : Int32} (hd : 2 ≤ d) (hk : k < 4) (hO : am_own Y) (hv : v ≠ -1 → M ≤ 40 ∧ m = nI M) (hK : K [] Y (am_fil (am_up (am_up h (41 + 2 * k) 1 v) (41 + 2 * k) 2 (nI (if v = -1 then 0 else M))) (42 + 2 * k) 40 0)) : am_Met d 0 0 YX1_become [.ref (41 + 2 * k), .int v, .int m] Y h K := by
  refine en_X1_become fun X F hr => ?_
  obtain ⟨o0, o1, o2, o3, o35, o36, o37, o38, o39, o40, o41⟩ := id hO
  obtain ⟨y1, y2⟩ := o41 k hk
  simp only [te_X1_become_0, te_X1_become_15, te_X1_become_22, te_X1_become_11, y1, Int32.reduceLT, Int32.reduceLE, eq_self, am_10, am_00, am_01, am_11, true_implies, false_implies, not_true_eq_false, not_false_eq_true, or_true, true_or, and_self, implies_true, qtm_push, qtm_iload, qtm_lload, qtm_aload, qtm_istore, qtm_lstore, qtm_astore, qtm_iinc, qtm_un, qtm_bin, qtm_div, qtm_lbin, qtm_ldiv, qtm_lsh, qtm_lcmp, qtm_i2l, qtm_l2i, qtm_if, qtm_cmp, qtm_getf, qtm_puti, qtm_putz, qtm_putl, qtm_iald, qtm_iast, qtm_zald, qtm_zast, qtm_aald, qtm_tsw, qtm_callV, qtm_callS, qtm_acp, qtm_alen, qtm_max, qtm_min, qtm_dup, qtm_pop, qtm_iret, qtm_zret, qtm_lret, qtm_aret, qtm_vret, qtm_swn, qtm_swc, am_oi_c, am_ol_c, am_or_r, am_or_f, am_pi_c, am_pj_c, am_pr_c, am_pa_r, am_pa_f, am_yo_c, am_ya_c, am_fv_i, am_fv_l, am_fv_r, am_fi_c, am_fl_c, am_rv_c, am_n2_s, am_n2_n, am_pv_0, am_pv_s, am_cs_n, am_cs_c, Value.category, List.getElem?_cons_zero, List.getElem?_cons_succ, List.set_cons_zero, List.set_cons_succ, List.length_cons, List.length_nil, List.drop_succ_cons, List.drop_zero, List.take_succ_cons, List.take_zero, List.take_nil, List.reverse_cons, List.reverse_nil, List.nil_append, List.cons_append, List.append_nil, true_and, and_true, Int.reduceAdd, am_o0, am_o1, am_o2, am_o3, am_o4, am_o5, am_o6, am_o7, am_o8, am_o9, am_o10, am_o11, am_o12, am_o13, am_o14, am_o15, am_o16, am_o17, am_o18, am_o19, am_o20, am_o21, am_o22, am_o23, am_o24, am_o25, am_o26, am_o27, Nat.reduceAdd, Nat.reduceLeDiff, Nat.reduceLT, Nat.zero_le]
  refine ⟨fun z => ⟨by omega, c_J7_fill y2 (by decide) ?_⟩, fun z => ⟨by omega, c_X5_bounded (by omega) (by decide) ?_⟩⟩
  · rw [if_pos z] at hK
    simp only [Int32.reduceLT, Int32.reduceLE, eq_self, am_10, am_00, am_01, am_11, true_implies, false_implies, not_true_eq_false, not_false_eq_true, or_true, true_or, and_self, implies_true, qtm_push, qtm_iload, qtm_lload, qtm_aload, qtm_istore, qtm_lstore, qtm_astore, qtm_iinc, qtm_un, qtm_bin, qtm_div, qtm_lbin, qtm_ldiv, qtm_lsh, qtm_lcmp, qtm_i2l, qtm_l2i, qtm_if, qtm_cmp, qtm_getf, qtm_puti, qtm_putz, qtm_putl, qtm_iald, qtm_iast, qtm_zald, qtm_zast, qtm_aald, qtm_tsw, qtm_callV, qtm_callS, qtm_acp, qtm_alen, qtm_max, qtm_min, qtm_dup, qtm_pop, qtm_iret, qtm_zret, qtm_lret, qtm_aret, qtm_vret, qtm_swn, qtm_swc, am_oi_c, am_ol_c, am_or_r, am_or_f, am_pi_c, am_pj_c, am_pr_c, am_pa_r, am_pa_f, am_yo_c, am_ya_c, am_fv_i, am_fv_l, am_fv_r, am_fi_c, am_fl_c, am_rv_c, am_n2_s, am_n2_n, am_pv_0, am_pv_s, am_cs_n, am_cs_c, Value.category, List.getElem?_cons_zero, List.getElem?_cons_succ, List.set_cons_zero, List.set_cons_succ, List.length_cons, List.length_nil, List.drop_succ_cons, List.drop_zero, List.take_succ_cons, List.take_zero, List.take_nil, List.reverse_cons, List.reverse_nil, List.nil_append, List.cons_append, List.append_nil, true_and, and_true, Int.reduceAdd, am_o0, am_o1, am_o2, am_o3, am_o4, am_o5, am_o6, am_o7, am_o8, am_o9, am_o10, am_o11, am_o12, am_o13, am_o14, am_o15, am_o16, am_o17, am_o18, am_o19, am_o20, am_o21, am_o22, am_o23, am_o24, am_o25, am_o26, am_o27, Nat.reduceAdd, Nat.reduceLeDiff, Nat.reduceLT, Nat.zero_le]
    exact hK
  · rw [if_neg z] at hK
    obtain ⟨h40, rfl⟩ := hv z
    rw [sp_bd_40 h40]
    simp only [y1, Int32.reduceLT, Int32.reduceLE, eq_self, am_10, am_00, am_01, am_11, true_implies, false_implies, not_true_eq_false, not_false_eq_true, or_true, true_or, and_self, implies_true, qtm_push, qtm_iload, qtm_lload, qtm_aload, qtm_istore, qtm_lstore, qtm_astore, qtm_iinc, qtm_un, qtm_bin, qtm_div, qtm_lbin, qtm_ldiv, qtm_lsh, qtm_lcmp, qtm_i2l, qtm_l2i, qtm_if, qtm_cmp, qtm_getf, qtm_puti, qtm_putz, qtm_putl, qtm_iald, qtm_iast, qtm_zald, qtm_zast, qtm_aald, qtm_tsw, qtm_callV, qtm_callS, qtm_acp, qtm_alen, qtm_max, qtm_min, qtm_dup, qtm_pop, qtm_iret, qtm_zret, qtm_lret, qtm_aret, qtm_vret, qtm_swn, qtm_swc, am_oi_c, am_ol_c, am_or_r, am_or_f, am_pi_c, am_pj_c, am_pr_c, am_pa_r, am_pa_f, am_yo_c, am_ya_c, am_fv_i, am_fv_l, am_fv_r, am_fi_c, am_fl_c, am_rv_c, am_n2_s, am_n2_n, am_pv_0, am_pv_s, am_cs_n, am_cs_c, Value.category, List.getElem?_cons_zero, List.getElem?_cons_succ, List.set_cons_zero, List.set_cons_succ, List.length_cons, List.length_nil, List.drop_succ_cons, List.drop_zero, List.take_succ_cons, List.take_zero, List.take_nil, List.reverse_cons, List.reverse_nil, List.nil_append, List.cons_append, List.append_nil, true_and, and_true, Int.reduceAdd, am_o0, am_o1, am_o2, am_o3, am_o4, am_o5, am_o6, am_o7, am_o8, am_o9, am_o10, am_o11, am_o12, am_o13, am_o14, am_o15, am_o16, am_o17, am_o18, am_o19, am_o20, am_o21, am_o22, am_o23, am_o24, am_o25, am_o26, am_o27, Nat.reduceAdd, Nat.reduceLeDiff, Nat.reduceLT, Nat.zero_le]
    refine ⟨by omega, c_J7_fill y2 (by decide) ?_⟩
    simp only [Int32.reduceLT, Int32.reduceLE, eq_self, am_10, am_00, am_01, am_11, true_implies, false_implies, not_true_eq_false, not_false_eq_true, or_true, true_or, and_self, implies_true, qtm_push, qtm_iload, qtm_lload, qtm_aload, qtm_istore, qtm_lstore, qtm_astore, qtm_iinc, qtm_un, qtm_bin, qtm_div, qtm_lbin, qtm_ldiv, qtm_lsh, qtm_lcmp, qtm_i2l, qtm_l2i, qtm_if, qtm_cmp, qtm_getf, qtm_puti, qtm_putz, qtm_putl, qtm_iald, qtm_iast, qtm_zald, qtm_zast, qtm_aald, qtm_tsw, qtm_callV, qtm_callS, qtm_acp, qtm_alen, qtm_max, qtm_min, qtm_dup, qtm_pop, qtm_iret, qtm_zret, qtm_lret, qtm_aret, qtm_vret, qtm_swn, qtm_swc, am_oi_c, am_ol_c, am_or_r, am_or_f, am_pi_c, am_pj_c, am_pr_c, am_pa_r, am_pa_f, am_yo_c, am_ya_c, am_fv_i, am_fv_l, am_fv_r, am_fi_c, am_fl_c, am_rv_c, am_n2_s, am_n2_n, am_pv_0, am_pv_s, am_cs_n, am_cs_c, Value.category, List.getElem?_cons_zero, List.getElem?_cons_succ, List.set_cons_zero, List.set_cons_succ, List.length_cons, List.length_nil, List.drop_succ_cons, List.drop_zero, List.take_succ_cons, List.take_zero, List.take_nil, List.reverse_cons, List.reverse_nil, List.nil_append, List.cons_append, List.append_nil, true_and, and_true, Int.reduceAdd, am_o0, am_o1, am_o2, am_o3, am_o4, am_o5, am_o6, am_o7, am_o8, am_o9, am_o10, am_o11, am_o12, am_o13, am_o14, am_o15, am_o16, am_o17, am_o18, am_o19, am_o20, am_o21, am_o22, am_o23, am_o24, am_o25, am_o26, am_o27, Nat.reduceAdd, Nat.reduceLeDiff, Nat.reduceLT, Nat.zero_le]
    exact hK
set_option maxHeartbeats 4000000 in
set_option maxRecDepth 100000 in
theorem o_X5_sheet {c so1 m : Int32} (hd : 3 ≤ d) (hC : am_Cl Y h s) (hI : am_I s) (hK : ∀ h1, am_fC h h1 → am_Cl Y h1 (sp_sheet s c so1 m).1 → K [.int (sp_sheet s c so1 m).2] Y h1) : am_Met d 0 0 YX5_sheet [.ref 0, .int c, .int so1, .int m] Y h K := by
  refine en_X5_sheet fun X F hr => ?_
  obtain ⟨o0, o1, o2, o3, o35, o36, o37, o38, o39, o40, o41⟩ := id hC.1
  unfold sp_sheet at hK
  simp only [te_X5_sheet_0, te_X5_sheet_7, te_X5_sheet_17, te_X5_sheet_12, te_X5_sheet_20, te_X5_sheet_25, te_X5_sheet_31, o0, Int32.reduceLT, Int32.reduceLE, eq_self, am_10, am_00, am_01, am_11, true_implies, false_implies, not_true_eq_false, not_false_eq_true, or_true, true_or, and_self, implies_true, qtm_push, qtm_iload, qtm_lload, qtm_aload, qtm_istore, qtm_lstore, qtm_astore, qtm_iinc, qtm_un, qtm_bin, qtm_div, qtm_lbin, qtm_ldiv, qtm_lsh, qtm_lcmp, qtm_i2l, qtm_l2i, qtm_if, qtm_cmp, qtm_getf, qtm_puti, qtm_putz, qtm_putl, qtm_iald, qtm_iast, qtm_zald, qtm_zast, qtm_aald, qtm_tsw, qtm_callV, qtm_callS, qtm_acp, qtm_alen, qtm_max, qtm_min, qtm_dup, qtm_pop, qtm_iret, qtm_zret, qtm_lret, qtm_aret, qtm_vret, qtm_swn, qtm_swc, am_oi_c, am_ol_c, am_or_r, am_or_f, am_pi_c, am_pj_c, am_pr_c, am_pa_r, am_pa_f, am_yo_c, am_ya_c, am_fv_i, am_fv_l, am_fv_r, am_fi_c, am_fl_c, am_rv_c, am_n2_s, am_n2_n, am_pv_0, am_pv_s, am_cs_n, am_cs_c, Value.category, List.getElem?_cons_zero, List.getElem?_cons_succ, List.set_cons_zero, List.set_cons_succ, List.length_cons, List.length_nil, List.drop_succ_cons, List.drop_zero, List.take_succ_cons, List.take_zero, List.take_nil, List.reverse_cons, List.reverse_nil, List.nil_append, List.cons_append, List.append_nil, true_and, and_true, Int.reduceAdd, am_o0, am_o1, am_o2, am_o3, am_o4, am_o5, am_o6, am_o7, am_o8, am_o9, am_o10, am_o11, am_o12, am_o13, am_o14, am_o15, am_o16, am_o17, am_o18, am_o19, am_o20, am_o21, am_o22, am_o23, am_o24, am_o25, am_o26, am_o27, Nat.reduceAdd, Nat.reduceLeDiff, Nat.reduceLT, Nat.zero_le]
  refine ⟨by omega, c_X5_isSheet (fun q => ?_) (fun q => ?_)⟩
  · rw [if_pos q] at hK
    obtain ⟨k, hk, rfl⟩ := am_is_o (by decide) q
    rw [nI_clamp (by omega)] at hK
    have key : ∀ (M : Nat) (K2 : List Value → List am_C → am_H → Prop), (so1 ≠ -1 → M ≤ 40 ∧ m = nI M) → M ≤ 40 → (∀ h1, am_fC h h1 → am_Cl Y h1 (s.ss (fun i => if i = k then so1 else s.so i) (fun i => if i = k then M else s.sz i) (fun i j => if i = k then 0 else s.it i j)) → K2 [] Y h1) → am_Met (d - 1) 0 0 YX1_become [.ref (41 + 2 * k), .int so1, .int m] Y h K2 := by
      intro M K2 h1 h40 hK2
      refine c_X1_become (by omega) hk hC.1 h1 (hK2 _ ((((am_fC.rf h).up _ _ _ (by omega)).up _ _ _ (by omega)).fil _ _ _ (by omega)) (hC.ss (fun a ha => ?_) (hC.2.2.2.2.2.bec h40)))
      rw [am_fil_ne _ (by omega), am_up_ne _ (by omega), am_up_ne _ (by omega)]
    have l34 : (so1 = -1 ∨ (so1 ≠ -1 ∧ am_is 3 so1 = true ∧ m ≤ 40)) → am_At X (am_MQ X K 0 0) 4 0 0 34 [.ref 0, .int (nI k), .int so1, .int m] [] Y h := by
      intro c1
      obtain ⟨y1, y2⟩ := o41 k hk
      refine sd_X5_sheet_34 F hr _ _ _ _ ?_
      simp only [te_X5_sheet_34, te_X5_sheet_46, te_X5_sheet_39, te_X5_sheet_43, o0, o39, nI_clamp (show k < 2 ^ 31 by omega), am_shr hk, y1, Int32.reduceLT, Int32.reduceLE, eq_self, am_10, am_00, am_01, am_11, true_implies, false_implies, not_true_eq_false, not_false_eq_true, or_true, true_or, and_self, implies_true, qtm_push, qtm_iload, qtm_lload, qtm_aload, qtm_istore, qtm_lstore, qtm_astore, qtm_iinc, qtm_un, qtm_bin, qtm_div, qtm_lbin, qtm_ldiv, qtm_lsh, qtm_lcmp, qtm_i2l, qtm_l2i, qtm_if, qtm_cmp, qtm_getf, qtm_puti, qtm_putz, qtm_putl, qtm_iald, qtm_iast, qtm_zald, qtm_zast, qtm_aald, qtm_tsw, qtm_callV, qtm_callS, qtm_acp, qtm_alen, qtm_max, qtm_min, qtm_dup, qtm_pop, qtm_iret, qtm_zret, qtm_lret, qtm_aret, qtm_vret, qtm_swn, qtm_swc, am_oi_c, am_ol_c, am_or_r, am_or_f, am_pi_c, am_pj_c, am_pr_c, am_pa_r, am_pa_f, am_yo_c, am_ya_c, am_fv_i, am_fv_l, am_fv_r, am_fi_c, am_fl_c, am_rv_c, am_n2_s, am_n2_n, am_pv_0, am_pv_s, am_cs_n, am_cs_c, Value.category, List.getElem?_cons_zero, List.getElem?_cons_succ, List.set_cons_zero, List.set_cons_succ, List.length_cons, List.length_nil, List.drop_succ_cons, List.drop_zero, List.take_succ_cons, List.take_zero, List.take_nil, List.reverse_cons, List.reverse_nil, List.nil_append, List.cons_append, List.append_nil, true_and, and_true, Int.reduceAdd, am_o0, am_o1, am_o2, am_o3, am_o4, am_o5, am_o6, am_o7, am_o8, am_o9, am_o10, am_o11, am_o12, am_o13, am_o14, am_o15, am_o16, am_o17, am_o18, am_o19, am_o20, am_o21, am_o22, am_o23, am_o24, am_o25, am_o26, am_o27, Nat.reduceAdd, Nat.reduceLeDiff, Nat.reduceLT, Nat.zero_le]
      refine ⟨fun z => ⟨vp_in_nI hk (by decide), by omega, ?_⟩, fun z => ⟨fun z2 => ⟨vp_in_nI hk (by decide), by omega, ?_⟩, fun z2 => ?_⟩⟩
      · subst z
        rw [if_pos rfl] at hK
        exact key 0 _ (fun y => absurd rfl y) (by decide) fun h1 g1 g2 => ⟨rfl, hK h1 g1 g2⟩
      · obtain ⟨p1, p2, p3⟩ := c1.resolve_left z
        have n40 : m < nI 41 := (am_lt_le (n := 40) (by decide)).mp p3
        obtain ⟨M, hM1, rfl⟩ := am_is_o (n := 41) (by decide) (am_is_of (Int32.not_lt.mpr z2) n40)
        rw [if_neg z, if_pos p2, if_neg (Int32.not_lt.mpr p3), if_neg (Int32.not_lt.mpr z2), nI_clamp (by omega)] at hK
        exact key M _ (fun _ => ⟨by omega, rfl⟩) (by omega) fun h1 g1 g2 => ⟨rfl, hK h1 g1 g2⟩
      · obtain ⟨p1, p2, p3⟩ := c1.resolve_left z
        rw [if_neg z, if_pos p2, if_neg (Int32.not_lt.mpr p3), if_pos (Int32.not_le.mp z2)] at hK
        exact hK h (am_fC.rf h) hC
    have e2 : (so1 ≤ 2) ↔ so1 < 3 := am_lt_le (n := 2) (by decide)
    have hm1 : so1 < 0 → ¬ so1 < -1 → so1 = -1 := fun y z => by
      rw [am_lt] at y z
      have t0 : (0 : Int32).toInt = 0 := rfl
      have t1 : (-1 : Int32).toInt = -1 := rfl
      rw [am_eq]
      omega
    simp only [Int32.reduceLT, Int32.reduceLE, eq_self, am_10, am_00, am_01, am_11, true_implies, false_implies, not_true_eq_false, not_false_eq_true, or_true, true_or, and_self, implies_true, qtm_push, qtm_iload, qtm_lload, qtm_aload, qtm_istore, qtm_lstore, qtm_astore, qtm_iinc, qtm_un, qtm_bin, qtm_div, qtm_lbin, qtm_ldiv, qtm_lsh, qtm_lcmp, qtm_i2l, qtm_l2i, qtm_if, qtm_cmp, qtm_getf, qtm_puti, qtm_putz, qtm_putl, qtm_iald, qtm_iast, qtm_zald, qtm_zast, qtm_aald, qtm_tsw, qtm_callV, qtm_callS, qtm_acp, qtm_alen, qtm_max, qtm_min, qtm_dup, qtm_pop, qtm_iret, qtm_zret, qtm_lret, qtm_aret, qtm_vret, qtm_swn, qtm_swc, am_oi_c, am_ol_c, am_or_r, am_or_f, am_pi_c, am_pj_c, am_pr_c, am_pa_r, am_pa_f, am_yo_c, am_ya_c, am_fv_i, am_fv_l, am_fv_r, am_fi_c, am_fl_c, am_rv_c, am_n2_s, am_n2_n, am_pv_0, am_pv_s, am_cs_n, am_cs_c, Value.category, List.getElem?_cons_zero, List.getElem?_cons_succ, List.set_cons_zero, List.set_cons_succ, List.length_cons, List.length_nil, List.drop_succ_cons, List.drop_zero, List.take_succ_cons, List.take_zero, List.take_nil, List.reverse_cons, List.reverse_nil, List.nil_append, List.cons_append, List.append_nil, true_and, and_true, Int.reduceAdd, am_o0, am_o1, am_o2, am_o3, am_o4, am_o5, am_o6, am_o7, am_o8, am_o9, am_o10, am_o11, am_o12, am_o13, am_o14, am_o15, am_o16, am_o17, am_o18, am_o19, am_o20, am_o21, am_o22, am_o23, am_o24, am_o25, am_o26, am_o27, Nat.reduceAdd, Nat.reduceLeDiff, Nat.reduceLT, Nat.zero_le]
    refine ⟨fun z => ?_, fun z => ⟨fun z2 => ⟨fun z3 => l34 (Or.inl z3), fun z3 => ⟨fun z4 => l34 (Or.inr ⟨z3, am_is_of (n := 3) (fun y => z3 (hm1 y z)) (e2.mp z2), z4⟩), fun z4 => ?_⟩⟩, fun z2 => ?_⟩⟩
    · have q1 : ¬ so1 = -1 := fun y => by rw [y] at z; exact absurd z (by decide)
      have q2 : so1 < 0 := by
        rw [am_lt] at z ⊢
        have t0 : (0 : Int32).toInt = 0 := rfl
        have t1 : (-1 : Int32).toInt = -1 := rfl
        omega
      rw [if_neg q1, if_neg (by rw [am_is_neg q2]; decide)] at hK
      exact hK h (am_fC.rf h) hC
    · rw [if_neg z3, if_pos (am_is_of (n := 3) (fun y => z3 (hm1 y z)) (e2.mp z2)), if_pos (Int32.not_le.mp z4)] at hK
      exact hK h (am_fC.rf h) hC
    · have q1 : ¬ so1 = -1 := fun y => z2 (by rw [y]; decide)
      rw [if_neg q1, if_neg (by rw [am_is_big (n := 3) (fun t => z2 (e2.mpr t))]; decide)] at hK
      exact hK h (am_fC.rf h) hC
  · rw [if_neg (by rw [q]; decide)] at hK
    simp only [Int32.reduceLT, Int32.reduceLE, eq_self, am_10, am_00, am_01, am_11, true_implies, false_implies, not_true_eq_false, not_false_eq_true, or_true, true_or, and_self, implies_true, qtm_push, qtm_iload, qtm_lload, qtm_aload, qtm_istore, qtm_lstore, qtm_astore, qtm_iinc, qtm_un, qtm_bin, qtm_div, qtm_lbin, qtm_ldiv, qtm_lsh, qtm_lcmp, qtm_i2l, qtm_l2i, qtm_if, qtm_cmp, qtm_getf, qtm_puti, qtm_putz, qtm_putl, qtm_iald, qtm_iast, qtm_zald, qtm_zast, qtm_aald, qtm_tsw, qtm_callV, qtm_callS, qtm_acp, qtm_alen, qtm_max, qtm_min, qtm_dup, qtm_pop, qtm_iret, qtm_zret, qtm_lret, qtm_aret, qtm_vret, qtm_swn, qtm_swc, am_oi_c, am_ol_c, am_or_r, am_or_f, am_pi_c, am_pj_c, am_pr_c, am_pa_r, am_pa_f, am_yo_c, am_ya_c, am_fv_i, am_fv_l, am_fv_r, am_fi_c, am_fl_c, am_rv_c, am_n2_s, am_n2_n, am_pv_0, am_pv_s, am_cs_n, am_cs_c, Value.category, List.getElem?_cons_zero, List.getElem?_cons_succ, List.set_cons_zero, List.set_cons_succ, List.length_cons, List.length_nil, List.drop_succ_cons, List.drop_zero, List.take_succ_cons, List.take_zero, List.take_nil, List.reverse_cons, List.reverse_nil, List.nil_append, List.cons_append, List.append_nil, true_and, and_true, Int.reduceAdd, am_o0, am_o1, am_o2, am_o3, am_o4, am_o5, am_o6, am_o7, am_o8, am_o9, am_o10, am_o11, am_o12, am_o13, am_o14, am_o15, am_o16, am_o17, am_o18, am_o19, am_o20, am_o21, am_o22, am_o23, am_o24, am_o25, am_o26, am_o27, Nat.reduceAdd, Nat.reduceLeDiff, Nat.reduceLT, Nat.zero_le]
    exact hK h (am_fC.rf h) hC
end CON
