section CON
variable {d : Nat} {Y : List am_C} {h : am_H} {K : List Value → List am_C → am_H → Prop}
set_option maxHeartbeats 4000000 in
set_option maxRecDepth 100000 in
/-- the heap behind the making of a cell of zeros, seen from its places -/
theorem c_X4_init {b : Nat} (hd : 2 ≤ d) (hb : Y[b]? = some (2, 4, am_fsX4)) (hz : h b 8 = 0 ∧ h b 9 = 0 ∧ h b 11 = 0) (hK : ∀ h1, (∀ a, a < Y.length → a ≠ b → h1 a = h a) → (h1 b 8 = 0 ∧ h1 b 9 = 0 ∧ h1 b 10 = 10 ∧ h1 b 11 = 0) → (∀ i, i < 32 → h1 Y.length i = 30) → (∀ k, 1 ≤ k → k < 8 → ∀ i, h1 (Y.length + k) i = 0) → K [] (Y.set b (2, 4, [.ref Y.length, .ref (Y.length + 1), .ref (Y.length + 2), .ref (Y.length + 3), .ref (Y.length + 4), .ref (Y.length + 5), .ref (Y.length + 6), .ref (Y.length + 7), .int 0, .int 0, .int 0, .int 0]) ++ [(0, 32, []), (0, 5, []), (0, 5, []), (0, 5, []), (0, 5, []), (0, 5, []), (0, 5, []), (0, 6, [])]) h1) : am_Met d 8 68 YX4_init [.ref b] Y h K := by
  refine en_X4_init fun X F hr hN hR => ?_
  have t5 : Int32.toNatClampNeg 5 = 5 := rfl
  have t6 : Int32.toNatClampNeg 6 = 6 := rfl
  have t32 : Int32.toNatClampNeg 32 = 32 := rfl
  have hbl : b < Y.length := (List.getElem?_eq_some_iff.mp hb).1
  have g0 := am_app_lt (l := [((0 : Nat), 32, ([] : List Value))]) hb
  have s1 : ∀ v l, (Y ++ l).set b v = Y.set b v ++ l := fun v l => List.set_append_left _ _ hbl
  have s2 : ∀ v l, (Y.set b v ++ l)[b]? = some v := fun v l => am_app_lt (by rw [List.getElem?_set, if_pos rfl, if_pos hbl])
  have s3 : ∀ v w l, (Y.set b v ++ l).set b w = Y.set b w ++ l := fun v w l => by rw [List.set_append_left _ _ (by rw [List.length_set]; exact hbl), List.set_set]
  have s6 : ∀ v l, (Y.set b v ++ l).length = Y.length + l.length := fun v l => by rw [List.length_append, List.length_set]
  have s7 : ∀ c, (Y ++ [c]).length = Y.length + 1 := fun c => by rw [List.length_append]; rfl
  simp only [te_X4_init_0, t5, t6, t32, g0, s1, s2, s3, s6, s7, List.append_assoc, Int32.reduceLT, Int32.reduceLE, eq_self, am_10, am_00, am_01, am_11, true_implies, false_implies, not_true_eq_false, not_false_eq_true, or_true, true_or, and_self, implies_true, qtm_push, qtm_iload, qtm_lload, qtm_aload, qtm_istore, qtm_lstore, qtm_astore, qtm_iinc, qtm_un, qtm_bin, qtm_div, qtm_lbin, qtm_ldiv, qtm_lsh, qtm_lcmp, qtm_i2l, qtm_l2i, qtm_if, qtm_cmp, qtm_getf, qtm_puti, qtm_putz, qtm_putl, qtm_iald, qtm_iast, qtm_zald, qtm_zast, qtm_aald, qtm_tsw, qtm_callV, qtm_callS, qtm_acp, qtm_alen, qtm_max, qtm_min, qtm_dup, qtm_pop, qtm_iret, qtm_zret, qtm_lret, qtm_aret, qtm_vret, qtm_swn, qtm_swc, am_oi_c, am_ol_c, am_or_r, am_or_f, am_pi_c, am_pj_c, am_pr_c, am_pa_r, am_pa_f, am_yo_c, am_ya_c, am_fv_i, am_fv_l, am_fv_r, am_fi_c, am_fl_c, am_rv_c, am_n2_s, am_n2_n, am_pv_0, am_pv_s, am_cs_n, am_cs_c, Value.category, List.getElem?_cons_zero, List.getElem?_cons_succ, List.set_cons_zero, List.set_cons_succ, List.length_cons, List.length_nil, List.drop_succ_cons, List.drop_zero, List.take_succ_cons, List.take_zero, List.take_nil, List.reverse_cons, List.reverse_nil, List.nil_append, List.cons_append, List.append_nil, true_and, and_true, Int.reduceAdd, am_o0, am_o1, am_o2, am_o3, am_o4, am_o5, am_o6, am_o7, am_o8, am_o9, am_o10, am_o11, am_o12, am_o13, am_o14, am_o15, am_o16, am_o17, am_o18, am_o19, am_o20, am_o21, am_o22, am_o23, am_o24, am_o25, am_o26, am_o27, Nat.reduceAdd, Nat.reduceLeDiff, Nat.reduceLT, Nat.zero_le, qtm_slen, qtm_sch, am_pf_c, qtm_newI, qtm_newO, qtm_putr, qtm_aastS, qtm_callVg, qtm_callIg, qtm_callSg, qtm_objI, qtm_newZ, qtm_newA1, qtm_newA2, qtm_aastT]
  have s5 : ∀ v x m, (Y.set b v ++ x :: m)[Y.length]? = some x := fun v x m => by rw [List.getElem?_append_right (by rw [List.length_set]; exact Nat.le_refl _), List.length_set, Nat.sub_self]; rfl
  refine ⟨by omega, by omega, c_J7_fill (s5 _ _ _) (by decide) ?_⟩
  simp only [Int32.reduceLT, Int32.reduceLE, eq_self, am_10, am_00, am_01, am_11, true_implies, false_implies, not_true_eq_false, not_false_eq_true, or_true, true_or, and_self, implies_true, qtm_push, qtm_iload, qtm_lload, qtm_aload, qtm_istore, qtm_lstore, qtm_astore, qtm_iinc, qtm_un, qtm_bin, qtm_div, qtm_lbin, qtm_ldiv, qtm_lsh, qtm_lcmp, qtm_i2l, qtm_l2i, qtm_if, qtm_cmp, qtm_getf, qtm_puti, qtm_putz, qtm_putl, qtm_iald, qtm_iast, qtm_zald, qtm_zast, qtm_aald, qtm_tsw, qtm_callV, qtm_callS, qtm_acp, qtm_alen, qtm_max, qtm_min, qtm_dup, qtm_pop, qtm_iret, qtm_zret, qtm_lret, qtm_aret, qtm_vret, qtm_swn, qtm_swc, am_oi_c, am_ol_c, am_or_r, am_or_f, am_pi_c, am_pj_c, am_pr_c, am_pa_r, am_pa_f, am_yo_c, am_ya_c, am_fv_i, am_fv_l, am_fv_r, am_fi_c, am_fl_c, am_rv_c, am_n2_s, am_n2_n, am_pv_0, am_pv_s, am_cs_n, am_cs_c, Value.category, List.getElem?_cons_zero, List.getElem?_cons_succ, List.set_cons_zero, List.set_cons_succ, List.length_cons, List.length_nil, List.drop_succ_cons, List.drop_zero, List.take_succ_cons, List.take_zero, List.take_nil, List.reverse_cons, List.reverse_nil, List.nil_append, List.cons_append, List.append_nil, true_and, and_true, Int.reduceAdd, am_o0, am_o1, am_o2, am_o3, am_o4, am_o5, am_o6, am_o7, am_o8, am_o9, am_o10, am_o11, am_o12, am_o13, am_o14, am_o15, am_o16, am_o17, am_o18, am_o19, am_o20, am_o21, am_o22, am_o23, am_o24, am_o25, am_o26, am_o27, Nat.reduceAdd, Nat.reduceLeDiff, Nat.reduceLT, Nat.zero_le, qtm_slen, qtm_sch, am_pf_c, qtm_newI, qtm_newO, qtm_putr, qtm_aastS, qtm_callVg, qtm_callIg, qtm_callSg, qtm_objI, qtm_newZ, qtm_newA1, qtm_newA2, qtm_aastT]
  have z8 : ∀ a, a < Y.length → am_zr (am_zr (am_zr (am_zr (am_zr (am_zr (am_zr (am_zr h Y.length) (Y.length + 1)) (Y.length + 2)) (Y.length + 3)) (Y.length + 4)) (Y.length + 5)) (Y.length + 6)) (Y.length + 7) a = h a := fun a ha => by
    rw [am_zr_ne a (by omega), am_zr_ne a (by omega), am_zr_ne a (by omega), am_zr_ne a (by omega), am_zr_ne a (by omega), am_zr_ne a (by omega), am_zr_ne a (by omega), am_zr_ne a (by omega)]
  refine hK _ (fun a ha hab => by rw [am_fil_ne a (by omega), am_up_ne a hab, z8 a ha]) ?_ (fun i hi => ?_) (fun k k1 k2 i => ?_)
  · rw [am_fil_ne b (by omega)]
    refine ⟨?_, ?_, ?_, ?_⟩
    · rw [am_up_ap, if_pos rfl, if_neg (by decide), z8 b hbl]; exact hz.1
    · rw [am_up_ap, if_pos rfl, if_neg (by decide), z8 b hbl]; exact hz.2.1
    · rw [am_up_ap, if_pos rfl, if_pos rfl]
    · rw [am_up_ap, if_pos rfl, if_neg (by decide), z8 b hbl]; exact hz.2.2
  · show (if Y.length = Y.length then (if i < 32 then (30 : Int32) else _) else _) = 30
    rw [if_pos rfl, if_pos hi]
  · rw [am_fil_ne _ (by omega), am_up_ne _ (by omega)]
    rcases (show k = 1 ∨ k = 2 ∨ k = 3 ∨ k = 4 ∨ k = 5 ∨ k = 6 ∨ k = 7 by omega) with rfl | rfl | rfl | rfl | rfl | rfl | rfl <;> simp [am_zr]
set_option maxHeartbeats 4000000 in
set_option maxRecDepth 100000 in
theorem c_X0_init {b : Nat} (hd : 2 ≤ d) (hb : Y[b]? = some (2, 0, am_fsX0)) (hK : ∀ h1, (∀ a, a < Y.length → h1 a = h a) → K [] (Y.set b (2, 0, [.ref Y.length, .ref (Y.length + 1), .ref (Y.length + 2), .int 0, .int 0, .int 0, .int 0, .int 0, .int 0]) ++ [(0, 160, []), (0, 160, []), (0, 3, [])]) h1) : am_Met d 3 323 YX0_init [.ref b] Y h K := by
  refine en_X0_init fun X F hr hN hR => ?_
  have t3 : Int32.toNatClampNeg 3 = 3 := rfl
  have t160 : Int32.toNatClampNeg 160 = 160 := rfl
  have g0 := am_app_lt (l := [((0 : Nat), 160, ([] : List Value))]) hb
  have hbl : b < Y.length := (List.getElem?_eq_some_iff.mp hb).1
  have s1 : ∀ v l, (Y ++ l).set b v = Y.set b v ++ l := fun v l => List.set_append_left _ _ hbl
  have s2 : ∀ v l, (Y.set b v ++ l)[b]? = some v := fun v l => am_app_lt (by rw [List.getElem?_set, if_pos rfl, if_pos hbl])
  have s3 : ∀ v w l, (Y.set b v ++ l).set b w = Y.set b w ++ l := fun v w l => by rw [List.set_append_left _ _ (by rw [List.length_set]; exact hbl), List.set_set]
  have s6 : ∀ v l, (Y.set b v ++ l).length = Y.length + l.length := fun v l => by rw [List.length_append, List.length_set]
  have s7 : ∀ c, (Y ++ [c]).length = Y.length + 1 := fun c => by rw [List.length_append]; rfl
  simp only [te_X0_init_0, t3, t160, g0, s1, s2, s3, s6, s7, List.append_assoc, Int32.reduceLT, Int32.reduceLE, eq_self, am_10, am_00, am_01, am_11, true_implies, false_implies, not_true_eq_false, not_false_eq_true, or_true, true_or, and_self, implies_true, qtm_push, qtm_iload, qtm_lload, qtm_aload, qtm_istore, qtm_lstore, qtm_astore, qtm_iinc, qtm_un, qtm_bin, qtm_div, qtm_lbin, qtm_ldiv, qtm_lsh, qtm_lcmp, qtm_i2l, qtm_l2i, qtm_if, qtm_cmp, qtm_getf, qtm_puti, qtm_putz, qtm_putl, qtm_iald, qtm_iast, qtm_zald, qtm_zast, qtm_aald, qtm_tsw, qtm_callV, qtm_callS, qtm_acp, qtm_alen, qtm_max, qtm_min, qtm_dup, qtm_pop, qtm_iret, qtm_zret, qtm_lret, qtm_aret, qtm_vret, qtm_swn, qtm_swc, am_oi_c, am_ol_c, am_or_r, am_or_f, am_pi_c, am_pj_c, am_pr_c, am_pa_r, am_pa_f, am_yo_c, am_ya_c, am_fv_i, am_fv_l, am_fv_r, am_fi_c, am_fl_c, am_rv_c, am_n2_s, am_n2_n, am_pv_0, am_pv_s, am_cs_n, am_cs_c, Value.category, List.getElem?_cons_zero, List.getElem?_cons_succ, List.set_cons_zero, List.set_cons_succ, List.length_cons, List.length_nil, List.drop_succ_cons, List.drop_zero, List.take_succ_cons, List.take_zero, List.take_nil, List.reverse_cons, List.reverse_nil, List.nil_append, List.cons_append, List.append_nil, true_and, and_true, Int.reduceAdd, am_o0, am_o1, am_o2, am_o3, am_o4, am_o5, am_o6, am_o7, am_o8, am_o9, am_o10, am_o11, am_o12, am_o13, am_o14, am_o15, am_o16, am_o17, am_o18, am_o19, am_o20, am_o21, am_o22, am_o23, am_o24, am_o25, am_o26, am_o27, Nat.reduceAdd, Nat.reduceLeDiff, Nat.reduceLT, Nat.zero_le, qtm_slen, qtm_sch, am_pf_c, qtm_newI, qtm_newO, qtm_putr, qtm_aastS, qtm_callVg, qtm_callIg, qtm_callSg, qtm_objI, qtm_newZ, qtm_newA1, qtm_newA2, qtm_aastT]
  exact ⟨by omega, hK _ (fun a ha => by rw [am_zr_ne a (by omega), am_zr_ne a (by omega), am_zr_ne a (by omega)])⟩
set_option maxHeartbeats 4000000 in
set_option maxRecDepth 100000 in
theorem c_X1_init {b : Nat} (hd : 2 ≤ d) (hb : Y[b]? = some (2, 1, am_fsX1)) (hz : h b 2 = 0) (hK : ∀ h1, (∀ a, a < Y.length → a ≠ b → h1 a = h a) → h1 b 1 = -1 → h1 b 2 = 0 → K [] (Y.set b (2, 1, [.ref Y.length, .int 0, .int 0]) ++ [(0, 40, [])]) h1) : am_Met d 1 40 YX1_init [.ref b] Y h K := by
  refine en_X1_init fun X F hr hN hR => ?_
  have t40 : Int32.toNatClampNeg 40 = 40 := rfl
  have g0 := am_app_lt (l := [((0 : Nat), 40, ([] : List Value))]) hb
  have hbl : b < Y.length := (List.getElem?_eq_some_iff.mp hb).1
  have s1 : ∀ v l, (Y ++ l).set b v = Y.set b v ++ l := fun v l => List.set_append_left _ _ hbl
  have s2 : ∀ v l, (Y.set b v ++ l)[b]? = some v := fun v l => am_app_lt (by rw [List.getElem?_set, if_pos rfl, if_pos hbl])
  have s3 : ∀ v w l, (Y.set b v ++ l).set b w = Y.set b w ++ l := fun v w l => by rw [List.set_append_left _ _ (by rw [List.length_set]; exact hbl), List.set_set]
  have s6 : ∀ v l, (Y.set b v ++ l).length = Y.length + l.length := fun v l => by rw [List.length_append, List.length_set]
  have s7 : ∀ c, (Y ++ [c]).length = Y.length + 1 := fun c => by rw [List.length_append]; rfl
  simp only [te_X1_init_0, t40, g0, s1, s2, s3, s6, s7, List.append_assoc, Int32.reduceLT, Int32.reduceLE, eq_self, am_10, am_00, am_01, am_11, true_implies, false_implies, not_true_eq_false, not_false_eq_true, or_true, true_or, and_self, implies_true, qtm_push, qtm_iload, qtm_lload, qtm_aload, qtm_istore, qtm_lstore, qtm_astore, qtm_iinc, qtm_un, qtm_bin, qtm_div, qtm_lbin, qtm_ldiv, qtm_lsh, qtm_lcmp, qtm_i2l, qtm_l2i, qtm_if, qtm_cmp, qtm_getf, qtm_puti, qtm_putz, qtm_putl, qtm_iald, qtm_iast, qtm_zald, qtm_zast, qtm_aald, qtm_tsw, qtm_callV, qtm_callS, qtm_acp, qtm_alen, qtm_max, qtm_min, qtm_dup, qtm_pop, qtm_iret, qtm_zret, qtm_lret, qtm_aret, qtm_vret, qtm_swn, qtm_swc, am_oi_c, am_ol_c, am_or_r, am_or_f, am_pi_c, am_pj_c, am_pr_c, am_pa_r, am_pa_f, am_yo_c, am_ya_c, am_fv_i, am_fv_l, am_fv_r, am_fi_c, am_fl_c, am_rv_c, am_n2_s, am_n2_n, am_pv_0, am_pv_s, am_cs_n, am_cs_c, Value.category, List.getElem?_cons_zero, List.getElem?_cons_succ, List.set_cons_zero, List.set_cons_succ, List.length_cons, List.length_nil, List.drop_succ_cons, List.drop_zero, List.take_succ_cons, List.take_zero, List.take_nil, List.reverse_cons, List.reverse_nil, List.nil_append, List.cons_append, List.append_nil, true_and, and_true, Int.reduceAdd, am_o0, am_o1, am_o2, am_o3, am_o4, am_o5, am_o6, am_o7, am_o8, am_o9, am_o10, am_o11, am_o12, am_o13, am_o14, am_o15, am_o16, am_o17, am_o18, am_o19, am_o20, am_o21, am_o22, am_o23, am_o24, am_o25, am_o26, am_o27, Nat.reduceAdd, Nat.reduceLeDiff, Nat.reduceLT, Nat.zero_le, qtm_slen, qtm_sch, am_pf_c, qtm_newI, qtm_newO, qtm_putr, qtm_aastS, qtm_callVg, qtm_callIg, qtm_callSg, qtm_objI, qtm_newZ, qtm_newA1, qtm_newA2, qtm_aastT]
  exact ⟨by omega, hK _ (fun a ha hab => by rw [am_up_ne a hab, am_zr_ne a (by omega)]) (by rw [am_up_ap, if_pos rfl, if_pos rfl]) (by rw [am_up_ap, if_pos rfl, if_neg (by decide), am_zr_ne b (by omega)]; exact hz)⟩
set_option maxHeartbeats 4000000 in
set_option maxRecDepth 100000 in
theorem c_X3_init {b : Nat} (hd : 4 ≤ d) (hb : Y[b]? = some (2, 3, am_fsX3)) (hK : ∀ h1, (∀ a, a < Y.length → a ≠ b → h1 a = h a) → h1 b 1 = 1 → (h1 (Y.length + 2) 0 = 3 ∧ h1 (Y.length + 2) 1 = 5 ∧ h1 (Y.length + 2) 2 = 2) → (h1 (Y.length + 4) 0 = 1 ∧ h1 (Y.length + 4) 1 = 2 ∧ h1 (Y.length + 4) 2 = 3) → K [] (Y.set b (2, 3, [.ref Y.length, .int 0]) ++ [(4, 6, am_aset [] 0 (Y.length + 1)), (2, 2, [.ref (Y.length + 2), .ref (Y.length + 4), .ref (Y.length + 5)]), (0, 3, []), (0, 3, []), (0, 3, []), (0, 36, [])]) h1) : am_Met d 6 54 YX3_init [.ref b] Y h K := by
  refine en_X3_init fun X F hr hN hR => ?_
  have t3 : Int32.toNatClampNeg 3 = 3 := rfl
  have t6 : Int32.toNatClampNeg 6 = 6 := rfl
  have g0 := am_app_lt (l := [((4 : Nat), 6, ([] : List Value))]) hb
  have hbl : b < Y.length := (List.getElem?_eq_some_iff.mp hb).1
  have s1 : ∀ v l, (Y ++ l).set b v = Y.set b v ++ l := fun v l => List.set_append_left _ _ hbl
  have s2 : ∀ v l, (Y.set b v ++ l)[b]? = some v := fun v l => am_app_lt (by rw [List.getElem?_set, if_pos rfl, if_pos hbl])
  have s3 : ∀ v w l, (Y.set b v ++ l).set b w = Y.set b w ++ l := fun v w l => by rw [List.set_append_left _ _ (by rw [List.length_set]; exact hbl), List.set_set]
  have s6 : ∀ v l, (Y.set b v ++ l).length = Y.length + l.length := fun v l => by rw [List.length_append, List.length_set]
  have s7 : ∀ c, (Y ++ [c]).length = Y.length + 1 := fun c => by rw [List.length_append]; rfl
  have s8 : ∀ v l k, (Y.set b v ++ l)[Y.length + k]? = l[k]? := fun v l k => by rw [List.getElem?_append_right (by rw [List.length_set]; omega), List.length_set, Nat.add_sub_cancel_left]
  have s9 : ∀ v l k x, (Y.set b v ++ l).set (Y.length + k) x = Y.set b v ++ l.set k x := fun v l k x => by rw [List.set_append_right _ _ (by rw [List.length_set]; omega), List.length_set, Nat.add_sub_cancel_left]
  have s5 : ∀ v x m, (Y.set b v ++ x :: m)[Y.length]? = some x := fun v x m => by rw [List.getElem?_append_right (by rw [List.length_set]; exact Nat.le_refl _), List.length_set, Nat.sub_self]; rfl
  have s4 : ∀ v x m y, (Y.set b v ++ x :: m).set Y.length y = Y.set b v ++ y :: m := fun v x m y => by rw [List.set_append_right _ _ (by rw [List.length_set]; exact Nat.le_refl _), List.length_set, Nat.sub_self]; rfl
  have v0 : vp_in 0 3 := am_vin (by decide)
  have v1 : vp_in 1 3 := am_vin (by decide)
  have v2 : vp_in 2 3 := am_vin (by decide)
  have t0 : Int32.toNatClampNeg 0 = 0 := rfl
  have t1 : Int32.toNatClampNeg 1 = 1 := rfl
  have t2 : Int32.toNatClampNeg 2 = 2 := rfl
  simp only [te_X3_init_0, t3, t6, t0, t1, t2, v0, v1, v2, g0, s1, s2, s3, s4, s5, s6, s7, s8, s9, List.append_assoc, Int32.reduceLT, Int32.reduceLE, eq_self, am_10, am_00, am_01, am_11, true_implies, false_implies, not_true_eq_false, not_false_eq_true, or_true, true_or, and_self, implies_true, qtm_push, qtm_iload, qtm_lload, qtm_aload, qtm_istore, qtm_lstore, qtm_astore, qtm_iinc, qtm_un, qtm_bin, qtm_div, qtm_lbin, qtm_ldiv, qtm_lsh, qtm_lcmp, qtm_i2l, qtm_l2i, qtm_if, qtm_cmp, qtm_getf, qtm_puti, qtm_putz, qtm_putl, qtm_iald, qtm_iast, qtm_zald, qtm_zast, qtm_aald, qtm_tsw, qtm_callV, qtm_callS, qtm_acp, qtm_alen, qtm_max, qtm_min, qtm_dup, qtm_pop, qtm_iret, qtm_zret, qtm_lret, qtm_aret, qtm_vret, qtm_swn, qtm_swc, am_oi_c, am_ol_c, am_or_r, am_or_f, am_pi_c, am_pj_c, am_pr_c, am_pa_r, am_pa_f, am_yo_c, am_ya_c, am_fv_i, am_fv_l, am_fv_r, am_fi_c, am_fl_c, am_rv_c, am_n2_s, am_n2_n, am_pv_0, am_pv_s, am_cs_n, am_cs_c, Value.category, List.getElem?_cons_zero, List.getElem?_cons_succ, List.set_cons_zero, List.set_cons_succ, List.length_cons, List.length_nil, List.drop_succ_cons, List.drop_zero, List.take_succ_cons, List.take_zero, List.take_nil, List.reverse_cons, List.reverse_nil, List.nil_append, List.cons_append, List.append_nil, true_and, and_true, Int.reduceAdd, am_o0, am_o1, am_o2, am_o3, am_o4, am_o5, am_o6, am_o7, am_o8, am_o9, am_o10, am_o11, am_o12, am_o13, am_o14, am_o15, am_o16, am_o17, am_o18, am_o19, am_o20, am_o21, am_o22, am_o23, am_o24, am_o25, am_o26, am_o27, Nat.reduceAdd, Nat.reduceLeDiff, Nat.reduceLT, Nat.zero_le, qtm_slen, qtm_sch, am_pf_c, qtm_newI, qtm_newO, qtm_putr, qtm_aastS, qtm_callVg, qtm_callIg, qtm_callSg, qtm_objI, qtm_newZ, qtm_newA1, qtm_newA2, qtm_aastT]
  generalize hE : am_up (am_up (am_up (am_zr (am_up (am_up (am_up (am_zr (am_zr (am_zr h Y.length) (Y.length + 1)) (Y.length + 2)) (Y.length + 2) 0 3) (Y.length + 2) 1 5) (Y.length + 2) 2 2) (Y.length + 3)) (Y.length + 3) 0 1) (Y.length + 3) 1 2) (Y.length + 3) 2 3 = h3
  have e0 : ∀ a, a < Y.length → h3 a = h a := fun a ha => by
    rw [← hE, am_up_ne a (by omega), am_up_ne a (by omega), am_up_ne a (by omega), am_zr_ne a (by omega), am_up_ne a (by omega), am_up_ne a (by omega), am_up_ne a (by omega), am_zr_ne a (by omega), am_zr_ne a (by omega), am_zr_ne a (by omega)]
  have e1 : h3 (Y.length + 2) 0 = 3 ∧ h3 (Y.length + 2) 1 = 5 ∧ h3 (Y.length + 2) 2 = 2 := by
    rw [← hE]
    simp [am_up, am_zr]
  have e2 : h3 (Y.length + 3) 0 = 1 ∧ h3 (Y.length + 3) 1 = 2 ∧ h3 (Y.length + 3) 2 = 3 := by
    rw [← hE]
    simp [am_up, am_zr]
  clear hE
  refine ⟨by omega, by omega, c_X2_init (nc := 3) (by omega) (s8 _ _ 1) (s8 _ _ 2) (by decide) (s8 _ _ 3) fun h4 g1 g2 => ?_⟩
  have lY := s6 (2, 3, [.ref Y.length, .int 0]) [(4, 6, []), (2, 2, am_fsX2), (0, 3, []), (0, 3, [])]
  rw [lY] at g1 g2 ⊢
  simp only [t0, v0, s1, s2, s3, s4, s5, s6, s7, s8, s9, List.append_assoc, Int32.reduceLT, Int32.reduceLE, eq_self, am_10, am_00, am_01, am_11, true_implies, false_implies, not_true_eq_false, not_false_eq_true, or_true, true_or, and_self, implies_true, qtm_push, qtm_iload, qtm_lload, qtm_aload, qtm_istore, qtm_lstore, qtm_astore, qtm_iinc, qtm_un, qtm_bin, qtm_div, qtm_lbin, qtm_ldiv, qtm_lsh, qtm_lcmp, qtm_i2l, qtm_l2i, qtm_if, qtm_cmp, qtm_getf, qtm_puti, qtm_putz, qtm_putl, qtm_iald, qtm_iast, qtm_zald, qtm_zast, qtm_aald, qtm_tsw, qtm_callV, qtm_callS, qtm_acp, qtm_alen, qtm_max, qtm_min, qtm_dup, qtm_pop, qtm_iret, qtm_zret, qtm_lret, qtm_aret, qtm_vret, qtm_swn, qtm_swc, am_oi_c, am_ol_c, am_or_r, am_or_f, am_pi_c, am_pj_c, am_pr_c, am_pa_r, am_pa_f, am_yo_c, am_ya_c, am_fv_i, am_fv_l, am_fv_r, am_fi_c, am_fl_c, am_rv_c, am_n2_s, am_n2_n, am_pv_0, am_pv_s, am_cs_n, am_cs_c, Value.category, List.getElem?_cons_zero, List.getElem?_cons_succ, List.set_cons_zero, List.set_cons_succ, List.length_cons, List.length_nil, List.drop_succ_cons, List.drop_zero, List.take_succ_cons, List.take_zero, List.take_nil, List.reverse_cons, List.reverse_nil, List.nil_append, List.cons_append, List.append_nil, true_and, and_true, Int.reduceAdd, am_o0, am_o1, am_o2, am_o3, am_o4, am_o5, am_o6, am_o7, am_o8, am_o9, am_o10, am_o11, am_o12, am_o13, am_o14, am_o15, am_o16, am_o17, am_o18, am_o19, am_o20, am_o21, am_o22, am_o23, am_o24, am_o25, am_o26, am_o27, Nat.reduceAdd, Nat.reduceLeDiff, Nat.reduceLT, Nat.zero_le, qtm_slen, qtm_sch, am_pf_c, qtm_newI, qtm_newO, qtm_putr, qtm_aastS, qtm_callVg, qtm_callIg, qtm_callSg, qtm_objI, qtm_newZ, qtm_newA1, qtm_newA2, qtm_aastT]
  have g1' : ∀ a, a < Y.length + 4 → h4 a = h3 a := g1
  have g2' : ∀ p, p < 3 → h4 (Y.length + 4) p = if (3 : Int32) < h3 (Y.length + 3) p then 3 else h3 (Y.length + 3) p := g2
  refine ⟨am_vin (by decide), hK _ (fun a ha hab => by rw [am_up_ne a hab, g1' a (by omega), e0 a ha]) (by rw [am_up_ap, if_pos rfl, if_pos rfl]) ?_ ?_⟩
  · rw [am_up_ne _ (by omega), g1' _ (by omega)]
    exact e1
  · rw [am_up_ne _ (by omega), g2' 0 (by decide), g2' 1 (by decide), g2' 2 (by decide), e2.1, e2.2.1, e2.2.2]
    decide
end CON
