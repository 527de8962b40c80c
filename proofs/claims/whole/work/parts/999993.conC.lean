/-- the bytes of the text that the reference starts with -/
def sp_tp0 : Nat → Int32 := fun i => ([112, 97, 99, 101, 115, 32, 51, 32, 59, 32, 116, 114, 101, 97, 100, 115, 32, 53, 32, 59, 32, 100, 111, 117, 98, 116, 115, 32, 50, 32, 59, 32] : List Int32).getD i 0
theorem sp_tp0_text : sp_text (sp_tkn sp_tp0 32) (sp_sk sp_tp0 32 0) = (true, 32, [(0, 3)], [(0, 5)], [(0, 2)]) := by decide +kernel
section CON
variable {d : Nat} {Y : List am_C} {h : am_H} {K : List Value → List am_C → am_H → Prop}
set_option maxHeartbeats 4000000 in
set_option maxRecDepth 100000 in
theorem c_X6_spell {i : Nat} {x1 x2 x3 x4 x5 x6 x7 x8 : Int32} (hm : am_mod Y) (hi : i + 8 ≤ 960) (hK : K [] Y (am_up (am_up (am_up (am_up (am_up (am_up (am_up (am_up h 50 i x1) 50 (i + 1) x2) 50 (i + 2) x3) 50 (i + 3) x4) 50 (i + 4) x5) 50 (i + 5) x6) 50 (i + 6) x7) 50 (i + 7) x8)) : am_Met d 0 0 YX6_spell [.ref 49, .int (nI i), .int x1, .int x2, .int x3, .int x4, .int x5, .int x6, .int x7, .int x8] Y h K := by
  refine en_X6_spell fun X F hr => ?_
  obtain ⟨m0, m1, m2, m3, m4, m5, m6, m7, m8, m9, m10, m11, m12, m13, m14, m15, m16, m17⟩ := id hm
  have p1 : nI i + 1 = nI (i + 1) := nI_add i 1
  have c1 := nI_clamp (show i + 1 < 2 ^ 31 by omega)
  have p2 : nI i + 2 = nI (i + 2) := nI_add i 2
  have c2 := nI_clamp (show i + 2 < 2 ^ 31 by omega)
  have p3 : nI i + 3 = nI (i + 3) := nI_add i 3
  have c3 := nI_clamp (show i + 3 < 2 ^ 31 by omega)
  have p4 : nI i + 4 = nI (i + 4) := nI_add i 4
  have c4 := nI_clamp (show i + 4 < 2 ^ 31 by omega)
  have p5 : nI i + 5 = nI (i + 5) := nI_add i 5
  have c5 := nI_clamp (show i + 5 < 2 ^ 31 by omega)
  have p6 : nI i + 6 = nI (i + 6) := nI_add i 6
  have c6 := nI_clamp (show i + 6 < 2 ^ 31 by omega)
  have p7 : nI i + 7 = nI (i + 7) := nI_add i 7
  have c7 := nI_clamp (show i + 7 < 2 ^ 31 by omega)
  have c0 := nI_clamp (show i < 2 ^ 31 by omega)
  simp only [te_X6_spell_0, m0, m1, mc_0, mc_1, mc_2, mc_3, mc_4, mc_5, mc_6, mc_7, mc_8, mc_9, mc_10, mc_11, mc_12, mc_13, mc_14, mc_15, mc_16, mc_17, mc_18, mc_19, mc_20, mc_21, mc_22, mc_23, mc_24, mc_25, mc_26, mc_27, mc_28, mc_29, mc_30, mc_31, mc_32, mc_33, mc_34, mc_35, mc_36, mc_37, mc_38, mc_39, mc_40, mc_41, mc_42, mc_43, mc_44, mc_45, nI_1, p1, p2, p3, p4, p5, p6, p7, c0, c1, c2, c3, c4, c5, c6, c7, Int32.reduceLT, Int32.reduceLE, eq_self, am_10, am_00, am_01, am_11, true_implies, false_implies, not_true_eq_false, not_false_eq_true, or_true, true_or, and_self, implies_true, qtm_push, qtm_iload, qtm_lload, qtm_aload, qtm_istore, qtm_lstore, qtm_astore, qtm_iinc, qtm_un, qtm_bin, qtm_div, qtm_lbin, qtm_ldiv, qtm_lsh, qtm_lcmp, qtm_i2l, qtm_l2i, qtm_if, qtm_cmp, qtm_getf, qtm_puti, qtm_putz, qtm_putl, qtm_iald, qtm_iast, qtm_zald, qtm_zast, qtm_aald, qtm_tsw, qtm_callV, qtm_callS, qtm_acp, qtm_alen, qtm_max, qtm_min, qtm_dup, qtm_pop, qtm_iret, qtm_zret, qtm_lret, qtm_aret, qtm_vret, qtm_swn, qtm_swc, am_oi_c, am_ol_c, am_or_r, am_or_f, am_pi_c, am_pj_c, am_pr_c, am_pa_r, am_pa_f, am_yo_c, am_ya_c, am_fv_i, am_fv_l, am_fv_r, am_fi_c, am_fl_c, am_rv_c, am_n2_s, am_n2_n, am_pv_0, am_pv_s, am_cs_n, am_cs_c, Value.category, List.getElem?_cons_zero, List.getElem?_cons_succ, List.set_cons_zero, List.set_cons_succ, List.length_cons, List.length_nil, List.drop_succ_cons, List.drop_zero, List.take_succ_cons, List.take_zero, List.take_nil, List.reverse_cons, List.reverse_nil, List.nil_append, List.cons_append, List.append_nil, true_and, and_true, Int.reduceAdd, am_o0, am_o1, am_o2, am_o3, am_o4, am_o5, am_o6, am_o7, am_o8, am_o9, am_o10, am_o11, am_o12, am_o13, am_o14, am_o15, am_o16, am_o17, am_o18, am_o19, am_o20, am_o21, am_o22, am_o23, am_o24, am_o25, am_o26, am_o27, Nat.reduceAdd, Nat.reduceLeDiff, Nat.reduceLT, Nat.zero_le, qtm_slen, qtm_sch, am_pf_c, qtm_newI, qtm_newO, qtm_putr, qtm_aastS, qtm_callVg, qtm_callIg, qtm_callSg, qtm_objI, qtm_newZ, qtm_newA1, qtm_newA2, qtm_aastT]
  exact ⟨vp_in_nI (by omega) (by decide), vp_in_nI (by omega) (by decide), vp_in_nI (by omega) (by decide), vp_in_nI (by omega) (by decide), vp_in_nI (by omega) (by decide), vp_in_nI (by omega) (by decide), vp_in_nI (by omega) (by decide), vp_in_nI (by omega) (by decide), hK⟩
set_option maxHeartbeats 4000000 in
set_option maxRecDepth 100000 in
theorem c_X6_init (hd : 70 ≤ d) (hl : Y.length = 50) (hb : Y[49]? = some (2, 6, am_fsX6)) (hz : ∀ k, h 49 k = 0) (hK : ∀ h1, (∀ a, a < 49 → h1 a = h a) → am_Md (Y.set 49 (2, 6, am_mc) ++ [(0, 960, []), (0, 6, []), (0, 960, []), (0, 960, []), (0, 18, []), (0, 160, []), (0, 32, []), (0, 30, []), (0, 160, []), (0, 64, []), (0, 5, []), (0, 30, []), (0, 32, []), (1, 4, []), (0, 4, []), (0, 4, []), (0, 160, [])]) h1 sp_s0 → K [] (Y.set 49 (2, 6, am_mc) ++ [(0, 960, []), (0, 6, []), (0, 960, []), (0, 960, []), (0, 18, []), (0, 160, []), (0, 32, []), (0, 30, []), (0, 160, []), (0, 64, []), (0, 5, []), (0, 30, []), (0, 32, []), (1, 4, []), (0, 4, []), (0, 4, []), (0, 160, [])]) h1) : am_Met d 17 3589 YX6_init [.ref 49] Y h K := by
  refine en_X6_init fun X F hr hN hR => ?_
  have hbl : 49 < Y.length := by omega
  have t960 : Int32.toNatClampNeg 960 = 960 := rfl
  have t6 : Int32.toNatClampNeg 6 = 6 := rfl
  have t18 : Int32.toNatClampNeg 18 = 18 := rfl
  have t160 : Int32.toNatClampNeg 160 = 160 := rfl
  have t32 : Int32.toNatClampNeg 32 = 32 := rfl
  have t30 : Int32.toNatClampNeg 30 = 30 := rfl
  have t64 : Int32.toNatClampNeg 64 = 64 := rfl
  have t5 : Int32.toNatClampNeg 5 = 5 := rfl
  have t4 : Int32.toNatClampNeg 4 = 4 := rfl
  have g0 := am_app_lt (l := [((0 : Nat), 960, ([] : List Value))]) hb
  have s1 : ∀ v l, (Y ++ l).set 49 v = Y.set 49 v ++ l := fun v l => List.set_append_left _ _ hbl
  have s2 : ∀ v l, (Y.set 49 v ++ l)[49]? = some v := fun v l => am_app_lt (by rw [List.getElem?_set, if_pos rfl, if_pos hbl])
  have s3 : ∀ v w l, (Y.set 49 v ++ l).set 49 w = Y.set 49 w ++ l := fun v w l => by rw [List.set_append_left _ _ (by rw [List.length_set]; exact hbl), List.set_set]
  have s6 : ∀ v l, (Y.set 49 v ++ l).length = 50 + l.length := fun v l => by rw [List.length_append, List.length_set, hl]
  have s7 : ∀ c, (Y ++ [c]).length = 51 := fun c => by rw [List.length_append, hl]; rfl
  simp only [te_X6_init_0, hl, t960, t6, t18, t160, t32, t30, t64, t5, t4, g0, s1, s2, s3, s6, s7, List.append_assoc, Int32.reduceLT, Int32.reduceLE, eq_self, am_10, am_00, am_01, am_11, true_implies, false_implies, not_true_eq_false, not_false_eq_true, or_true, true_or, and_self, implies_true, qtm_push, qtm_iload, qtm_lload, qtm_aload, qtm_istore, qtm_lstore, qtm_astore, qtm_iinc, qtm_un, qtm_bin, qtm_div, qtm_lbin, qtm_ldiv, qtm_lsh, qtm_lcmp, qtm_i2l, qtm_l2i, qtm_if, qtm_cmp, qtm_getf, qtm_puti, qtm_putz, qtm_putl, qtm_iald, qtm_iast, qtm_zald, qtm_zast, qtm_aald, qtm_tsw, qtm_callV, qtm_callS, qtm_acp, qtm_alen, qtm_max, qtm_min, qtm_dup, qtm_pop, qtm_iret, qtm_zret, qtm_lret, qtm_aret, qtm_vret, qtm_swn, qtm_swc, am_oi_c, am_ol_c, am_or_r, am_or_f, am_pi_c, am_pj_c, am_pr_c, am_pa_r, am_pa_f, am_yo_c, am_ya_c, am_fv_i, am_fv_l, am_fv_r, am_fi_c, am_fl_c, am_rv_c, am_n2_s, am_n2_n, am_pv_0, am_pv_s, am_cs_n, am_cs_c, Value.category, List.getElem?_cons_zero, List.getElem?_cons_succ, List.set_cons_zero, List.set_cons_succ, List.length_cons, List.length_nil, List.drop_succ_cons, List.drop_zero, List.take_succ_cons, List.take_zero, List.take_nil, List.reverse_cons, List.reverse_nil, List.nil_append, List.cons_append, List.append_nil, true_and, and_true, Int.reduceAdd, am_o0, am_o1, am_o2, am_o3, am_o4, am_o5, am_o6, am_o7, am_o8, am_o9, am_o10, am_o11, am_o12, am_o13, am_o14, am_o15, am_o16, am_o17, am_o18, am_o19, am_o20, am_o21, am_o22, am_o23, am_o24, am_o25, am_o26, am_o27, Nat.reduceAdd, Nat.reduceLeDiff, Nat.reduceLT, Nat.zero_le, qtm_slen, qtm_sch, am_pf_c, qtm_newI, qtm_newO, qtm_putr, qtm_aastS, qtm_callVg, qtm_callIg, qtm_callSg, qtm_objI, qtm_newZ, qtm_newA1, qtm_newA2, qtm_aastT]
  have s8 : ∀ v l k, (Y.set 49 v ++ l)[50 + k]? = l[k]? := fun v l k => by rw [List.getElem?_append_right (by rw [List.length_set]; omega), List.length_set, hl, Nat.add_sub_cancel_left]
  have hm : am_mod (Y.set 49 (2, 6, am_mc) ++ [(0, 960, []), (0, 6, []), (0, 960, []), (0, 960, []), (0, 18, []), (0, 160, []), (0, 32, []), (0, 30, []), (0, 160, []), (0, 64, []), (0, 5, []), (0, 30, []), (0, 32, []), (1, 4, []), (0, 4, []), (0, 4, []), (0, 160, [])]) := ⟨s2 _ _, s8 _ _ 0, s8 _ _ 1, s8 _ _ 2, s8 _ _ 3, s8 _ _ 4, s8 _ _ 5, s8 _ _ 6, s8 _ _ 7, s8 _ _ 8, s8 _ _ 9, s8 _ _ 10, s8 _ _ 11, s8 _ _ 12, s8 _ _ 13, s8 _ _ 14, s8 _ _ 15, s8 _ _ 16⟩
  refine ⟨by omega, ?_⟩
  change am_At X (am_MQ X K 17 3589) 2 17 3589 155 [.ref 49, .int 0] [] (Y.set 49 (2, 6, am_mc) ++ [(0, 960, []), (0, 6, []), (0, 960, []), (0, 960, []), (0, 18, []), (0, 160, []), (0, 32, []), (0, 30, []), (0, 160, []), (0, 64, []), (0, 5, []), (0, 30, []), (0, 32, []), (1, 4, []), (0, 4, []), (0, 4, []), (0, 160, [])]) _
  generalize Y.set 49 (2, 6, am_mc) ++ [(0, 960, []), (0, 6, []), (0, 960, []), (0, 960, []), (0, 18, []), (0, 160, []), (0, 32, []), (0, 30, []), (0, 160, []), (0, 64, []), (0, 5, []), (0, 30, []), (0, 32, []), (1, 4, []), (0, 4, []), (0, 4, []), (0, 160, [])] = YM at hm hK ⊢
  generalize hE : am_zr (am_zr (am_zr (am_zr (am_up (am_zr (am_zr (am_zr (am_zr (am_zr (am_zr (am_zr (am_up (am_zr (am_zr (am_zr (am_zr (am_zr (am_zr (h) 50) 51) 52) 53) 54) 55) 49 12 10) 56) 57) 58) 59) 60) 61) 62) 49 38 (-1)) 63) 64) 65) 66 = h2
  have e0 : ∀ a, a < 49 → h2 a = h a := fun a ha => by rw [← hE, am_zr_ne a (by omega), am_zr_ne a (by omega), am_zr_ne a (by omega), am_zr_ne a (by omega), am_up_ne a (by omega), am_zr_ne a (by omega), am_zr_ne a (by omega), am_zr_ne a (by omega), am_zr_ne a (by omega), am_zr_ne a (by omega), am_zr_ne a (by omega), am_zr_ne a (by omega), am_up_ne a (by omega), am_zr_ne a (by omega), am_zr_ne a (by omega), am_zr_ne a (by omega), am_zr_ne a (by omega), am_zr_ne a (by omega), am_zr_ne a (by omega)]
  have e49 : ∀ k, h2 49 k = if k = 38 then -1 else if k = 12 then 10 else 0 := fun k => by
    rw [← hE]
    simp [am_up, am_zr, hz]
  have ez : ∀ a, 50 ≤ a → a ≤ 66 → ∀ k, h2 a k = 0 := fun a a1 a2 k => by
    rw [← hE]
    rcases (show a = 50 ∨ a = 51 ∨ a = 52 ∨ a = 53 ∨ a = 54 ∨ a = 55 ∨ a = 56 ∨ a = 57 ∨ a = 58 ∨ a = 59 ∨ a = 60 ∨ a = 61 ∨ a = 62 ∨ a = 63 ∨ a = 64 ∨ a = 65 ∨ a = 66 by omega) with rfl | rfl | rfl | rfl | rfl | rfl | rfl | rfl | rfl | rfl | rfl | rfl | rfl | rfl | rfl | rfl | rfl <;> simp [am_up, am_zr]
  clear hE g0 s1 s2 s3 s6 s7 s8
  obtain ⟨m0, m1, m2, m3, m4, m5, m6, m7, m8, m9, m10, m11, m12, m13, m14, m15, m16, m17⟩ := id hm
  have loop : ∀ n i, i + n = 32 → ∀ h', (∀ a, a ≠ 56 → h' a = h2 a) → (∀ j, j < i → h' 56 j = 30) → am_At X (am_MQ X K 17 3589) 2 17 3589 155 [.ref 49, .int (nI i)] [] YM h' := by
    intro n
    induction n with
    | zero =>
      intro i hi h' g1 g2
      refine sd_X6_init_155 (n1 := 17) (n2 := 3589) (J := fun pc => am_At X (am_MQ X K 17 3589) 2 17 3589 pc) F hr hN hR (by decide) (by decide) (fun _ _ _ _ q => q) _ _ _ _ ?_
      have ei : i = 32 := by omega
      subst ei
      simp only [te_X6_init_155, te_X6_init_175, te_X6_init_161, m0, m2, m7, mc_0, mc_1, mc_2, mc_3, mc_4, mc_5, mc_6, mc_7, mc_8, mc_9, mc_10, mc_11, mc_12, mc_13, mc_14, mc_15, mc_16, mc_17, mc_18, mc_19, mc_20, mc_21, mc_22, mc_23, mc_24, mc_25, mc_26, mc_27, mc_28, mc_29, mc_30, mc_31, mc_32, mc_33, mc_34, mc_35, mc_36, mc_37, mc_38, mc_39, mc_40, mc_41, mc_42, mc_43, mc_44, mc_45, Int32.reduceLT, Int32.reduceLE, eq_self, am_10, am_00, am_01, am_11, true_implies, false_implies, not_true_eq_false, not_false_eq_true, or_true, true_or, and_self, implies_true, qtm_push, qtm_iload, qtm_lload, qtm_aload, qtm_istore, qtm_lstore, qtm_astore, qtm_iinc, qtm_un, qtm_bin, qtm_div, qtm_lbin, qtm_ldiv, qtm_lsh, qtm_lcmp, qtm_i2l, qtm_l2i, qtm_if, qtm_cmp, qtm_getf, qtm_puti, qtm_putz, qtm_putl, qtm_iald, qtm_iast, qtm_zald, qtm_zast, qtm_aald, qtm_tsw, qtm_callV, qtm_callS, qtm_acp, qtm_alen, qtm_max, qtm_min, qtm_dup, qtm_pop, qtm_iret, qtm_zret, qtm_lret, qtm_aret, qtm_vret, qtm_swn, qtm_swc, am_oi_c, am_ol_c, am_or_r, am_or_f, am_pi_c, am_pj_c, am_pr_c, am_pa_r, am_pa_f, am_yo_c, am_ya_c, am_fv_i, am_fv_l, am_fv_r, am_fi_c, am_fl_c, am_rv_c, am_n2_s, am_n2_n, am_pv_0, am_pv_s, am_cs_n, am_cs_c, Value.category, List.getElem?_cons_zero, List.getElem?_cons_succ, List.set_cons_zero, List.set_cons_succ, List.length_cons, List.length_nil, List.drop_succ_cons, List.drop_zero, List.take_succ_cons, List.take_zero, List.take_nil, List.reverse_cons, List.reverse_nil, List.nil_append, List.cons_append, List.append_nil, true_and, and_true, Int.reduceAdd, am_o0, am_o1, am_o2, am_o3, am_o4, am_o5, am_o6, am_o7, am_o8, am_o9, am_o10, am_o11, am_o12, am_o13, am_o14, am_o15, am_o16, am_o17, am_o18, am_o19, am_o20, am_o21, am_o22, am_o23, am_o24, am_o25, am_o26, am_o27, Nat.reduceAdd, Nat.reduceLeDiff, Nat.reduceLT, Nat.zero_le, qtm_slen, qtm_sch, am_pf_c, qtm_newI, qtm_newO, qtm_putr, qtm_aastS, qtm_callVg, qtm_callIg, qtm_callSg, qtm_objI, qtm_newZ, qtm_newA1, qtm_newA2, qtm_aastT]
      done
    | succ n ih =>
      intro i hi h' g1 g2
      refine sd_X6_init_155 (n1 := 17) (n2 := 3589) (J := fun pc => am_At X (am_MQ X K 17 3589) 2 17 3589 pc) F hr hN hR (by decide) (by decide) (fun _ _ _ _ q => q) _ _ _ _ ?_
      have e32 : ((32 : Int32) ≤ nI i) ↔ 32 ≤ i := nI_leI (a := 32) (by decide) (by omega)
      simp only [te_X6_init_155, te_X6_init_175, te_X6_init_161, m0, m2, m7, mc_0, mc_1, mc_2, mc_3, mc_4, mc_5, mc_6, mc_7, mc_8, mc_9, mc_10, mc_11, mc_12, mc_13, mc_14, mc_15, mc_16, mc_17, mc_18, mc_19, mc_20, mc_21, mc_22, mc_23, mc_24, mc_25, mc_26, mc_27, mc_28, mc_29, mc_30, mc_31, mc_32, mc_33, mc_34, mc_35, mc_36, mc_37, mc_38, mc_39, mc_40, mc_41, mc_42, mc_43, mc_44, mc_45, e32, nI_clamp (show i < 2 ^ 31 by omega), nI_1, Int32.reduceLT, Int32.reduceLE, eq_self, am_10, am_00, am_01, am_11, true_implies, false_implies, not_true_eq_false, not_false_eq_true, or_true, true_or, and_self, implies_true, qtm_push, qtm_iload, qtm_lload, qtm_aload, qtm_istore, qtm_lstore, qtm_astore, qtm_iinc, qtm_un, qtm_bin, qtm_div, qtm_lbin, qtm_ldiv, qtm_lsh, qtm_lcmp, qtm_i2l, qtm_l2i, qtm_if, qtm_cmp, qtm_getf, qtm_puti, qtm_putz, qtm_putl, qtm_iald, qtm_iast, qtm_zald, qtm_zast, qtm_aald, qtm_tsw, qtm_callV, qtm_callS, qtm_acp, qtm_alen, qtm_max, qtm_min, qtm_dup, qtm_pop, qtm_iret, qtm_zret, qtm_lret, qtm_aret, qtm_vret, qtm_swn, qtm_swc, am_oi_c, am_ol_c, am_or_r, am_or_f, am_pi_c, am_pj_c, am_pr_c, am_pa_r, am_pa_f, am_yo_c, am_ya_c, am_fv_i, am_fv_l, am_fv_r, am_fi_c, am_fl_c, am_rv_c, am_n2_s, am_n2_n, am_pv_0, am_pv_s, am_cs_n, am_cs_c, Value.category, List.getElem?_cons_zero, List.getElem?_cons_succ, List.set_cons_zero, List.set_cons_succ, List.length_cons, List.length_nil, List.drop_succ_cons, List.drop_zero, List.take_succ_cons, List.take_zero, List.take_nil, List.reverse_cons, List.reverse_nil, List.nil_append, List.cons_append, List.append_nil, true_and, and_true, Int.reduceAdd, am_o0, am_o1, am_o2, am_o3, am_o4, am_o5, am_o6, am_o7, am_o8, am_o9, am_o10, am_o11, am_o12, am_o13, am_o14, am_o15, am_o16, am_o17, am_o18, am_o19, am_o20, am_o21, am_o22, am_o23, am_o24, am_o25, am_o26, am_o27, Nat.reduceAdd, Nat.reduceLeDiff, Nat.reduceLT, Nat.zero_le, qtm_slen, qtm_sch, am_pf_c, qtm_newI, qtm_newO, qtm_putr, qtm_aastS, qtm_callVg, qtm_callIg, qtm_callSg, qtm_objI, qtm_newZ, qtm_newA1, qtm_newA2, qtm_aastT]
      refine ⟨fun z => absurd z (by omega), fun _ => ⟨vp_in_nI (by omega) (by decide), ih (i + 1) (by omega) _ (fun a q => (am_up_ne a q).trans (g1 a q)) fun j hj => ?_⟩⟩
      rw [am_up_ap, if_pos rfl]
      by_cases z : j = i
      · rw [if_pos z]
      · rw [if_neg z]
        exact g2 j (by omega)
  exact loop 32 0 rfl _ (fun _ _ => rfl) (fun j hj => absurd hj (Nat.not_lt_zero j))
end CON
