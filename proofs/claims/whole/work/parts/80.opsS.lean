theorem am_cp_a {h : am_H} {sp dp t : Nat} (hr : sp + t < dp ∨ dp + t ≤ sp + t) : am_up (am_cp h 66 66 sp dp t) 66 (dp + t) ((am_cp h 66 66 sp dp t) 66 (sp + t)) = am_cp h 66 66 sp dp (t + 1) := by
  have e : (am_cp h 66 66 sp dp t) 66 (sp + t) = h 66 (sp + t) := by
    simp only [am_cp, if_true]
    rw [if_neg (by omega)]
  rw [e]
  funext x y
  by_cases hx : x = 66
  · subst hx
    simp only [am_up, am_cp, if_true]
    by_cases hy : y = dp + t
    · rw [if_pos hy, if_pos (by omega), hy, show sp + (dp + t - dp) = sp + t by omega]
    · rw [if_neg hy]
      by_cases h2 : dp ≤ y ∧ y < dp + t
      · rw [if_pos h2, if_pos (by omega)]
      · rw [if_neg h2, if_neg (by omega)]
  · simp only [am_up, am_cp, if_neg hx]
theorem am_cp_b {h : am_H} {sp dp t : Nat} (hr : sp < dp) : am_up (am_cp h 66 66 (sp + 1) (dp + 1) t) 66 dp ((am_cp h 66 66 (sp + 1) (dp + 1) t) 66 sp) = am_cp h 66 66 sp dp (t + 1) := by
  have e : (am_cp h 66 66 (sp + 1) (dp + 1) t) 66 sp = h 66 sp := by
    simp only [am_cp, if_true]
    rw [if_neg (by omega)]
  rw [e]
  funext x y
  by_cases hx : x = 66
  · subst hx
    simp only [am_up, am_cp, if_true]
    by_cases hy : y = dp
    · rw [if_pos hy, if_pos (by omega), hy, show sp + (dp - dp) = sp by omega]
    · rw [if_neg hy]
      by_cases h2 : dp + 1 ≤ y ∧ y < dp + 1 + t
      · rw [if_pos h2, if_pos (by omega), show sp + 1 + (y - (dp + 1)) = sp + (y - dp) by omega]
      · rw [if_neg h2, if_neg (by omega)]
  · simp only [am_up, am_cp, if_neg hx]
theorem am_Ms.cp {h : am_H} {so : Nat → Int32} {sz : Nat → Nat} {it : Nat → Nat → Int32} (g : am_Ms h so sz it) (hz : ∀ i, i < 4 → sz i ≤ 40) {k l i j m : Nat} (hk : k < 4) (hl : l < 4) (hso : so k ≠ -1) (hi : i + m ≤ sz k) (hj : j + m ≤ sz l) : am_Ms (am_cp h 66 66 (40 * k + i) (40 * l + j) m) so sz (am_cp it k l i j m) := by
  intro c hc
  obtain ⟨g1, g2⟩ := g c hc
  refine ⟨by rw [am_cp_ne (by decide)]; exact g1, fun hs => ?_⟩
  obtain ⟨g3, g4, g5⟩ := g2 hs
  refine ⟨by rw [am_cp_ne (by decide)]; exact g3, by rw [am_cp_ne (by decide)]; exact g4, fun e he => ?_⟩
  have z1 := hz c hc
  have z2 := hz l hl
  have z3 := hz k hk
  by_cases q : c = l
  · subst q
    simp only [am_cp, if_true]
    by_cases h2 : j ≤ e ∧ e < j + m
    · rw [if_pos h2, if_pos (by omega), ← ((g k hk).2 hso).2.2 _ (show i + (e - j) < sz k by omega), show 40 * k + i + (40 * c + e - (40 * c + j)) = 40 * k + (i + (e - j)) by omega]
    · rw [if_neg h2, if_neg (by omega)]
      exact g5 e he
  · rw [am_cp_ne (h := it) q]
    simp only [am_cp, if_true]
    rw [if_neg (by omega)]
    exact g5 e he
theorem am_cp_0 (h : am_H) (sp dp : Nat) : am_cp h 66 66 sp dp 0 = h := by
  funext x y
  simp only [am_cp]
  by_cases hx : x = 66
  · subst hx
    rw [if_pos rfl, if_neg (by omega)]
  · rw [if_neg hx]
section CON
variable {d n : Nat} {Y : List am_C} {h w : am_H} {s : am_S} {K : List Value → List am_C → am_H → Prop}
set_option maxHeartbeats 4000000 in
set_option maxRecDepth 100000 in
theorem o_X6_copy {a i b j m : Int32} (hd : 2 ≤ d) (hM : am_Md Y h s) (hI : am_I s) (hK : ∀ h1, am_fM h h1 → am_Md Y h1 (sp_copy s a i b j m).1 → K [.int (sp_copy s a i b j m).2] Y h1) : am_Met d 0 0 YX6_copy [.ref 49, .int a, .int i, .int b, .int j, .int m] Y h K := by
  refine en_X6_copy fun X F hr => ?_
  obtain ⟨m0, m1, m2, m3, m4, m5, m6, m7, m8, m9, m10, m11, m12, m13, m14, m15, m16, m17⟩ := id hM.1
  unfold sp_copy at hK
  simp only [te_X6_copy_0, te_X6_copy_7, te_X6_copy_17, te_X6_copy_35, te_X6_copy_26, te_X6_copy_38, te_X6_copy_56, te_X6_copy_97, te_X6_copy_61, te_X6_copy_65, te_X6_copy_70, te_X6_copy_83, te_X6_copy_100, te_X6_copy_115, te_X6_copy_116, te_X6_copy_105, te_X6_copy_111, te_X6_copy_53, te_X6_copy_14, Int32.reduceLT, Int32.reduceLE, eq_self, am_10, am_00, am_01, am_11, true_implies, false_implies, not_true_eq_false, not_false_eq_true, or_true, true_or, and_self, implies_true, qtm_push, qtm_iload, qtm_lload, qtm_aload, qtm_istore, qtm_lstore, qtm_astore, qtm_iinc, qtm_un, qtm_bin, qtm_div, qtm_lbin, qtm_ldiv, qtm_lsh, qtm_lcmp, qtm_i2l, qtm_l2i, qtm_if, qtm_cmp, qtm_getf, qtm_puti, qtm_putz, qtm_putl, qtm_iald, qtm_iast, qtm_zald, qtm_zast, qtm_aald, qtm_tsw, qtm_callV, qtm_callS, qtm_acp, qtm_alen, qtm_max, qtm_min, qtm_dup, qtm_pop, qtm_iret, qtm_zret, qtm_lret, qtm_aret, qtm_vret, qtm_swn, qtm_swc, am_oi_c, am_ol_c, am_or_r, am_or_f, am_pi_c, am_pj_c, am_pr_c, am_pa_r, am_pa_f, am_yo_c, am_ya_c, am_fv_i, am_fv_l, am_fv_r, am_fi_c, am_fl_c, am_rv_c, am_n2_s, am_n2_n, am_pv_0, am_pv_s, am_cs_n, am_cs_c, Value.category, List.getElem?_cons_zero, List.getElem?_cons_succ, List.set_cons_zero, List.set_cons_succ, List.length_cons, List.length_nil, List.drop_succ_cons, List.drop_zero, List.take_succ_cons, List.take_zero, List.take_nil, List.reverse_cons, List.reverse_nil, List.nil_append, List.cons_append, List.append_nil, true_and, and_true, Int.reduceAdd, am_o0, am_o1, am_o2, am_o3, am_o4, am_o5, am_o6, am_o7, am_o8, am_o9, am_o10, am_o11, am_o12, am_o13, am_o14, am_o15, am_o16, am_o17, am_o18, am_o19, am_o20, am_o21, am_o22, am_o23, am_o24, am_o25, am_o26, am_o27, Nat.reduceAdd, Nat.reduceLeDiff, Nat.reduceLT, Nat.zero_le]
  refine ⟨by omega, c_X6_isSheet (by omega) (fun q => ?_) (fun q => ?_)⟩
  · rw [if_pos q] at hK
    simp only [Int32.reduceLT, Int32.reduceLE, eq_self, am_10, am_00, am_01, am_11, true_implies, false_implies, not_true_eq_false, not_false_eq_true, or_true, true_or, and_self, implies_true, qtm_push, qtm_iload, qtm_lload, qtm_aload, qtm_istore, qtm_lstore, qtm_astore, qtm_iinc, qtm_un, qtm_bin, qtm_div, qtm_lbin, qtm_ldiv, qtm_lsh, qtm_lcmp, qtm_i2l, qtm_l2i, qtm_if, qtm_cmp, qtm_getf, qtm_puti, qtm_putz, qtm_putl, qtm_iald, qtm_iast, qtm_zald, qtm_zast, qtm_aald, qtm_tsw, qtm_callV, qtm_callS, qtm_acp, qtm_alen, qtm_max, qtm_min, qtm_dup, qtm_pop, qtm_iret, qtm_zret, qtm_lret, qtm_aret, qtm_vret, qtm_swn, qtm_swc, am_oi_c, am_ol_c, am_or_r, am_or_f, am_pi_c, am_pj_c, am_pr_c, am_pa_r, am_pa_f, am_yo_c, am_ya_c, am_fv_i, am_fv_l, am_fv_r, am_fi_c, am_fl_c, am_rv_c, am_n2_s, am_n2_n, am_pv_0, am_pv_s, am_cs_n, am_cs_c, Value.category, List.getElem?_cons_zero, List.getElem?_cons_succ, List.set_cons_zero, List.set_cons_succ, List.length_cons, List.length_nil, List.drop_succ_cons, List.drop_zero, List.take_succ_cons, List.take_zero, List.take_nil, List.reverse_cons, List.reverse_nil, List.nil_append, List.cons_append, List.append_nil, true_and, and_true, Int.reduceAdd, am_o0, am_o1, am_o2, am_o3, am_o4, am_o5, am_o6, am_o7, am_o8, am_o9, am_o10, am_o11, am_o12, am_o13, am_o14, am_o15, am_o16, am_o17, am_o18, am_o19, am_o20, am_o21, am_o22, am_o23, am_o24, am_o25, am_o26, am_o27, Nat.reduceAdd, Nat.reduceLeDiff, Nat.reduceLT, Nat.zero_le]
    refine ⟨by omega, c_X6_isSheet (by omega) (fun q2 => ?_) (fun q2 => ?_)⟩
    · rw [if_pos q2] at hK
      obtain ⟨k, hk, rfl⟩ := am_is_o (by decide) q
      obtain ⟨l, hl, rfl⟩ := am_is_o (by decide) q2
      obtain ⟨g1, g2⟩ := hM.2.2.2.2.2 k hk
      obtain ⟨f1, f2⟩ := hM.2.2.2.2.2 l hl
      have hz := (hI.2.2.2.2.2.2.1 k hk).1
      have hz2 := (hI.2.2.2.2.2.2.1 l hl).1
      rw [nI_clamp (show k < 2 ^ 31 by omega), nI_clamp (show l < 2 ^ 31 by omega)] at hK
      by_cases t1 : s.so k = -1
      · rw [if_pos t1] at hK g1
        simp only [m0, m14, m15, m16, m17, mc_0, mc_1, mc_2, mc_3, mc_4, mc_5, mc_6, mc_7, mc_8, mc_9, mc_10, mc_11, mc_12, mc_13, mc_14, mc_15, mc_16, mc_17, mc_18, mc_19, mc_20, mc_21, mc_22, mc_23, mc_24, mc_25, mc_26, mc_27, mc_28, mc_29, mc_30, mc_31, mc_32, mc_33, mc_34, mc_35, mc_36, mc_37, mc_38, mc_39, mc_40, mc_41, mc_42, mc_43, mc_44, mc_45, nI_clamp (show k < 2 ^ 31 by omega), nI_clamp (show l < 2 ^ 31 by omega), g1, Int32.reduceLT, Int32.reduceLE, eq_self, am_10, am_00, am_01, am_11, true_implies, false_implies, not_true_eq_false, not_false_eq_true, or_true, true_or, and_self, implies_true, qtm_push, qtm_iload, qtm_lload, qtm_aload, qtm_istore, qtm_lstore, qtm_astore, qtm_iinc, qtm_un, qtm_bin, qtm_div, qtm_lbin, qtm_ldiv, qtm_lsh, qtm_lcmp, qtm_i2l, qtm_l2i, qtm_if, qtm_cmp, qtm_getf, qtm_puti, qtm_putz, qtm_putl, qtm_iald, qtm_iast, qtm_zald, qtm_zast, qtm_aald, qtm_tsw, qtm_callV, qtm_callS, qtm_acp, qtm_alen, qtm_max, qtm_min, qtm_dup, qtm_pop, qtm_iret, qtm_zret, qtm_lret, qtm_aret, qtm_vret, qtm_swn, qtm_swc, am_oi_c, am_ol_c, am_or_r, am_or_f, am_pi_c, am_pj_c, am_pr_c, am_pa_r, am_pa_f, am_yo_c, am_ya_c, am_fv_i, am_fv_l, am_fv_r, am_fi_c, am_fl_c, am_rv_c, am_n2_s, am_n2_n, am_pv_0, am_pv_s, am_cs_n, am_cs_c, Value.category, List.getElem?_cons_zero, List.getElem?_cons_succ, List.set_cons_zero, List.set_cons_succ, List.length_cons, List.length_nil, List.drop_succ_cons, List.drop_zero, List.take_succ_cons, List.take_zero, List.take_nil, List.reverse_cons, List.reverse_nil, List.nil_append, List.cons_append, List.append_nil, true_and, and_true, Int.reduceAdd, am_o0, am_o1, am_o2, am_o3, am_o4, am_o5, am_o6, am_o7, am_o8, am_o9, am_o10, am_o11, am_o12, am_o13, am_o14, am_o15, am_o16, am_o17, am_o18, am_o19, am_o20, am_o21, am_o22, am_o23, am_o24, am_o25, am_o26, am_o27, Nat.reduceAdd, Nat.reduceLeDiff, Nat.reduceLT, Nat.zero_le]
        exact ⟨vp_in_nI hk (by decide), hK h (am_fM.rf h) hM⟩
      · rw [if_neg t1] at hK g1
        obtain ⟨g3, g4, g5⟩ := g2 t1
        by_cases t2 : s.so l = -1
        · rw [if_pos t2] at hK f1
          simp only [m0, m14, m15, m16, m17, mc_0, mc_1, mc_2, mc_3, mc_4, mc_5, mc_6, mc_7, mc_8, mc_9, mc_10, mc_11, mc_12, mc_13, mc_14, mc_15, mc_16, mc_17, mc_18, mc_19, mc_20, mc_21, mc_22, mc_23, mc_24, mc_25, mc_26, mc_27, mc_28, mc_29, mc_30, mc_31, mc_32, mc_33, mc_34, mc_35, mc_36, mc_37, mc_38, mc_39, mc_40, mc_41, mc_42, mc_43, mc_44, mc_45, nI_clamp (show k < 2 ^ 31 by omega), nI_clamp (show l < 2 ^ 31 by omega), g1, f1, Int32.reduceLT, Int32.reduceLE, eq_self, am_10, am_00, am_01, am_11, true_implies, false_implies, not_true_eq_false, not_false_eq_true, or_true, true_or, and_self, implies_true, qtm_push, qtm_iload, qtm_lload, qtm_aload, qtm_istore, qtm_lstore, qtm_astore, qtm_iinc, qtm_un, qtm_bin, qtm_div, qtm_lbin, qtm_ldiv, qtm_lsh, qtm_lcmp, qtm_i2l, qtm_l2i, qtm_if, qtm_cmp, qtm_getf, qtm_puti, qtm_putz, qtm_putl, qtm_iald, qtm_iast, qtm_zald, qtm_zast, qtm_aald, qtm_tsw, qtm_callV, qtm_callS, qtm_acp, qtm_alen, qtm_max, qtm_min, qtm_dup, qtm_pop, qtm_iret, qtm_zret, qtm_lret, qtm_aret, qtm_vret, qtm_swn, qtm_swc, am_oi_c, am_ol_c, am_or_r, am_or_f, am_pi_c, am_pj_c, am_pr_c, am_pa_r, am_pa_f, am_yo_c, am_ya_c, am_fv_i, am_fv_l, am_fv_r, am_fi_c, am_fl_c, am_rv_c, am_n2_s, am_n2_n, am_pv_0, am_pv_s, am_cs_n, am_cs_c, Value.category, List.getElem?_cons_zero, List.getElem?_cons_succ, List.set_cons_zero, List.set_cons_succ, List.length_cons, List.length_nil, List.drop_succ_cons, List.drop_zero, List.take_succ_cons, List.take_zero, List.take_nil, List.reverse_cons, List.reverse_nil, List.nil_append, List.cons_append, List.append_nil, true_and, and_true, Int.reduceAdd, am_o0, am_o1, am_o2, am_o3, am_o4, am_o5, am_o6, am_o7, am_o8, am_o9, am_o10, am_o11, am_o12, am_o13, am_o14, am_o15, am_o16, am_o17, am_o18, am_o19, am_o20, am_o21, am_o22, am_o23, am_o24, am_o25, am_o26, am_o27, Nat.reduceAdd, Nat.reduceLeDiff, Nat.reduceLT, Nat.zero_le]
          exact ⟨vp_in_nI hk (by decide), vp_in_nI hl (by decide), hK h (am_fM.rf h) hM⟩
        · rw [if_neg t2] at hK f1
          obtain ⟨f3, f4, f5⟩ := f2 t2
          simp only [m0, m14, m15, m16, m17, mc_0, mc_1, mc_2, mc_3, mc_4, mc_5, mc_6, mc_7, mc_8, mc_9, mc_10, mc_11, mc_12, mc_13, mc_14, mc_15, mc_16, mc_17, mc_18, mc_19, mc_20, mc_21, mc_22, mc_23, mc_24, mc_25, mc_26, mc_27, mc_28, mc_29, mc_30, mc_31, mc_32, mc_33, mc_34, mc_35, mc_36, mc_37, mc_38, mc_39, mc_40, mc_41, mc_42, mc_43, mc_44, mc_45, nI_clamp (show k < 2 ^ 31 by omega), nI_clamp (show l < 2 ^ 31 by omega), g1, f1, g3, f3, g4, f4, Int32.reduceLT, Int32.reduceLE, eq_self, am_10, am_00, am_01, am_11, true_implies, false_implies, not_true_eq_false, not_false_eq_true, or_true, true_or, and_self, implies_true, qtm_push, qtm_iload, qtm_lload, qtm_aload, qtm_istore, qtm_lstore, qtm_astore, qtm_iinc, qtm_un, qtm_bin, qtm_div, qtm_lbin, qtm_ldiv, qtm_lsh, qtm_lcmp, qtm_i2l, qtm_l2i, qtm_if, qtm_cmp, qtm_getf, qtm_puti, qtm_putz, qtm_putl, qtm_iald, qtm_iast, qtm_zald, qtm_zast, qtm_aald, qtm_tsw, qtm_callV, qtm_callS, qtm_acp, qtm_alen, qtm_max, qtm_min, qtm_dup, qtm_pop, qtm_iret, qtm_zret, qtm_lret, qtm_aret, qtm_vret, qtm_swn, qtm_swc, am_oi_c, am_ol_c, am_or_r, am_or_f, am_pi_c, am_pj_c, am_pr_c, am_pa_r, am_pa_f, am_yo_c, am_ya_c, am_fv_i, am_fv_l, am_fv_r, am_fi_c, am_fl_c, am_rv_c, am_n2_s, am_n2_n, am_pv_0, am_pv_s, am_cs_n, am_cs_c, Value.category, List.getElem?_cons_zero, List.getElem?_cons_succ, List.set_cons_zero, List.set_cons_succ, List.length_cons, List.length_nil, List.drop_succ_cons, List.drop_zero, List.take_succ_cons, List.take_zero, List.take_nil, List.reverse_cons, List.reverse_nil, List.nil_append, List.cons_append, List.append_nil, true_and, and_true, Int.reduceAdd, am_o0, am_o1, am_o2, am_o3, am_o4, am_o5, am_o6, am_o7, am_o8, am_o9, am_o10, am_o11, am_o12, am_o13, am_o14, am_o15, am_o16, am_o17, am_o18, am_o19, am_o20, am_o21, am_o22, am_o23, am_o24, am_o25, am_o26, am_o27, Nat.reduceAdd, Nat.reduceLeDiff, Nat.reduceLT, Nat.zero_le]
          refine ⟨vp_in_nI hk (by decide), vp_in_nI hl (by decide), vp_in_nI hk (by decide), vp_in_nI hl (by decide), fun t3 => ?_, fun t => ?_⟩
          · rw [if_pos t3] at hK
            have bad : (sp_fits (s.sz k) i m = false ∨ sp_fits (s.sz l) j m = false) → K [.int (-12)] Y h := by
              intro y
              by_cases y1 : sp_fits (s.sz k) i m = true
              · rw [if_pos y1, if_neg (by rcases y with y | y; exact absurd y1 (by rw [y]; decide); rw [y]; decide)] at hK
                exact hK h (am_fM.rf h) hM
              · rw [if_neg y1] at hK
                exact hK h (am_fM.rf h) hM
            refine ⟨fun t => bad (Or.inl (sp_fits_f (fun a b e1 e2 h3 => ?_) hz)), fun u1 => ⟨fun t => bad (Or.inl (sp_fits_f (fun a b e1 e2 h3 => ?_) hz)), fun u2 => ⟨fun t => bad (Or.inr (sp_fits_f (fun a b e1 e2 h3 => ?_) hz2)), fun u3 => ⟨vp_in_nI hk (by decide), fun t => bad (Or.inl (sp_fits_f (fun a b e1 e2 h3 => ?_) hz)), fun u4 => ⟨vp_in_nI hl (by decide), fun u5 => ?_, fun t => bad (Or.inr (sp_fits_f (fun a b e1 e2 h3 => ?_) hz2))⟩⟩⟩⟩⟩
            · rw [e2] at t
              exact absurd t (nI_pos (by omega))
            · rw [e1] at t
              exact absurd t (nI_pos (by omega))
            · rw [e1] at t
              exact absurd t (nI_pos (by omega))
            · rw [e1, e2, pk_sub (by omega)] at t
              have := (nI_ltI (by omega) (by omega)).mp t
              omega
            · obtain ⟨x0, hx0, rfl⟩ := nI_of u2
              obtain ⟨c, hc, rfl⟩ := nI_of u1
              obtain ⟨x2, hx2, rfl⟩ := nI_of u3
              have ek := am_sub (x := nI (s.sz k)) (y := nI c) (by rw [am_nI (by omega), am_nI hc]; omega) (by rw [am_nI (by omega), am_nI hc]; omega)
              have el := am_sub (x := nI (s.sz l)) (y := nI c) (by rw [am_nI (by omega), am_nI hc]; omega) (by rw [am_nI (by omega), am_nI hc]; omega)
              rw [am_nI (by omega), am_nI hc] at ek el
              have b1 : x0 + c ≤ s.sz k := by
                rw [am_lt, ek, am_nI hx0] at u4
                omega
              have b2 : x2 + c ≤ s.sz l := by
                rw [am_le, el, am_nI hx2] at u5
                omega
              rw [if_pos (sp_fits_t hz b1), if_pos (sp_fits_t hz2 b2), nI_clamp hx0, nI_clamp hx2, nI_clamp hc] at hK
              have hzs : ∀ i, i < 4 → s.sz i ≤ 40 := fun i hi => (hI.2.2.2.2.2.2.1 i hi).1
              have last : K [.int (nI c)] Y (am_cp h 66 66 (40 * k + x0) (40 * l + x2) c) := hK _ (fun a ha => am_cp_ne (by omega)) (hM.ss (fun a ha => am_cp_ne (by omega)) (hM.2.2.2.2.2.cp hzs hk hl t1 b1 b2))
              have e40 : ∀ a b q, (40 : Int32) * nI a + nI b + nI q = nI (40 * a + b + q) := fun a b q => by rw [show (40 : Int32) = nI 40 from rfl, pk_mul, nI_add, nI_add]
              have low : (k ≠ l ∨ x2 ≤ x0) → am_At X (am_MQ X K 0 0) 9 0 0 121 [.ref 49, .int (nI k), .int (nI x0), .int (nI l), .int (nI x2), .int (nI c), .int 0, .int 0, .null] [] Y h := by
                intro hd'
                have loop := am_for (P := fun t => ∀ a8, am_At X (am_MQ X K 0 0) 9 0 0 121 [.ref 49, .int (nI k), .int (nI x0), .int (nI l), .int (nI x2), .int (nI c), .int 0, .int (nI t), a8] [] Y (am_cp h 66 66 (40 * k + x0) (40 * l + x2) t)) c
                  (fun a8 => by
                    refine sd_X6_copy_121 F hr _ _ _ _ ?_
                    simp only [te_X6_copy_121, te_X6_copy_182, te_X6_copy_128, te_X6_copy_143, te_X6_copy_133, m0, m17, mc_0, mc_1, mc_2, mc_3, mc_4, mc_5, mc_6, mc_7, mc_8, mc_9, mc_10, mc_11, mc_12, mc_13, mc_14, mc_15, mc_16, mc_17, mc_18, mc_19, mc_20, mc_21, mc_22, mc_23, mc_24, mc_25, mc_26, mc_27, mc_28, mc_29, mc_30, mc_31, mc_32, mc_33, mc_34, mc_35, mc_36, mc_37, mc_38, mc_39, mc_40, mc_41, mc_42, mc_43, mc_44, mc_45, Int32.reduceLT, Int32.reduceLE, eq_self, am_10, am_00, am_01, am_11, true_implies, false_implies, not_true_eq_false, not_false_eq_true, or_true, true_or, and_self, implies_true, qtm_push, qtm_iload, qtm_lload, qtm_aload, qtm_istore, qtm_lstore, qtm_astore, qtm_iinc, qtm_un, qtm_bin, qtm_div, qtm_lbin, qtm_ldiv, qtm_lsh, qtm_lcmp, qtm_i2l, qtm_l2i, qtm_if, qtm_cmp, qtm_getf, qtm_puti, qtm_putz, qtm_putl, qtm_iald, qtm_iast, qtm_zald, qtm_zast, qtm_aald, qtm_tsw, qtm_callV, qtm_callS, qtm_acp, qtm_alen, qtm_max, qtm_min, qtm_dup, qtm_pop, qtm_iret, qtm_zret, qtm_lret, qtm_aret, qtm_vret, qtm_swn, qtm_swc, am_oi_c, am_ol_c, am_or_r, am_or_f, am_pi_c, am_pj_c, am_pr_c, am_pa_r, am_pa_f, am_yo_c, am_ya_c, am_fv_i, am_fv_l, am_fv_r, am_fi_c, am_fl_c, am_rv_c, am_n2_s, am_n2_n, am_pv_0, am_pv_s, am_cs_n, am_cs_c, Value.category, List.getElem?_cons_zero, List.getElem?_cons_succ, List.set_cons_zero, List.set_cons_succ, List.length_cons, List.length_nil, List.drop_succ_cons, List.drop_zero, List.take_succ_cons, List.take_zero, List.take_nil, List.reverse_cons, List.reverse_nil, List.nil_append, List.cons_append, List.append_nil, true_and, and_true, Int.reduceAdd, am_o0, am_o1, am_o2, am_o3, am_o4, am_o5, am_o6, am_o7, am_o8, am_o9, am_o10, am_o11, am_o12, am_o13, am_o14, am_o15, am_o16, am_o17, am_o18, am_o19, am_o20, am_o21, am_o22, am_o23, am_o24, am_o25, am_o26, am_o27, Nat.reduceAdd, Nat.reduceLeDiff, Nat.reduceLT, Nat.zero_le]
                    exact ⟨fun _ => last, fun z => absurd (nI_le (Nat.le_refl c) (by omega)) z⟩)
                  (fun t ht ih a8 => by
                    have hh : am_up (am_cp h 66 66 (40 * k + x0) (40 * l + x2) t) 66 (40 * l + x2 + t) ((am_cp h 66 66 (40 * k + x0) (40 * l + x2) t) 66 (40 * k + x0 + t)) = am_cp h 66 66 (40 * k + x0) (40 * l + x2) (t + 1) := am_cp_a (by omega)
                    have := ih (.int (nI t))
                    refine sd_X6_copy_121 F hr _ _ _ _ ?_
                    simp only [te_X6_copy_121, te_X6_copy_182, te_X6_copy_128, te_X6_copy_143, te_X6_copy_133, m0, m17, mc_0, mc_1, mc_2, mc_3, mc_4, mc_5, mc_6, mc_7, mc_8, mc_9, mc_10, mc_11, mc_12, mc_13, mc_14, mc_15, mc_16, mc_17, mc_18, mc_19, mc_20, mc_21, mc_22, mc_23, mc_24, mc_25, mc_26, mc_27, mc_28, mc_29, mc_30, mc_31, mc_32, mc_33, mc_34, mc_35, mc_36, mc_37, mc_38, mc_39, mc_40, mc_41, mc_42, mc_43, mc_44, mc_45, Int32.reduceLT, Int32.reduceLE, eq_self, am_10, am_00, am_01, am_11, true_implies, false_implies, not_true_eq_false, not_false_eq_true, or_true, true_or, and_self, implies_true, qtm_push, qtm_iload, qtm_lload, qtm_aload, qtm_istore, qtm_lstore, qtm_astore, qtm_iinc, qtm_un, qtm_bin, qtm_div, qtm_lbin, qtm_ldiv, qtm_lsh, qtm_lcmp, qtm_i2l, qtm_l2i, qtm_if, qtm_cmp, qtm_getf, qtm_puti, qtm_putz, qtm_putl, qtm_iald, qtm_iast, qtm_zald, qtm_zast, qtm_aald, qtm_tsw, qtm_callV, qtm_callS, qtm_acp, qtm_alen, qtm_max, qtm_min, qtm_dup, qtm_pop, qtm_iret, qtm_zret, qtm_lret, qtm_aret, qtm_vret, qtm_swn, qtm_swc, am_oi_c, am_ol_c, am_or_r, am_or_f, am_pi_c, am_pj_c, am_pr_c, am_pa_r, am_pa_f, am_yo_c, am_ya_c, am_fv_i, am_fv_l, am_fv_r, am_fi_c, am_fl_c, am_rv_c, am_n2_s, am_n2_n, am_pv_0, am_pv_s, am_cs_n, am_cs_c, Value.category, List.getElem?_cons_zero, List.getElem?_cons_succ, List.set_cons_zero, List.set_cons_succ, List.length_cons, List.length_nil, List.drop_succ_cons, List.drop_zero, List.take_succ_cons, List.take_zero, List.take_nil, List.reverse_cons, List.reverse_nil, List.nil_append, List.cons_append, List.append_nil, true_and, and_true, Int.reduceAdd, am_o0, am_o1, am_o2, am_o3, am_o4, am_o5, am_o6, am_o7, am_o8, am_o9, am_o10, am_o11, am_o12, am_o13, am_o14, am_o15, am_o16, am_o17, am_o18, am_o19, am_o20, am_o21, am_o22, am_o23, am_o24, am_o25, am_o26, am_o27, Nat.reduceAdd, Nat.reduceLeDiff, Nat.reduceLT, Nat.zero_le]
                    refine ⟨fun q => absurd ((nI_leI (by omega) (by omega)).mp q) (by omega), fun _ => ?_⟩
                    refine sd_X6_copy_145 F hr _ _ _ _ ?_
                    simp only [te_X6_copy_145, m0, m17, mc_0, mc_1, mc_2, mc_3, mc_4, mc_5, mc_6, mc_7, mc_8, mc_9, mc_10, mc_11, mc_12, mc_13, mc_14, mc_15, mc_16, mc_17, mc_18, mc_19, mc_20, mc_21, mc_22, mc_23, mc_24, mc_25, mc_26, mc_27, mc_28, mc_29, mc_30, mc_31, mc_32, mc_33, mc_34, mc_35, mc_36, mc_37, mc_38, mc_39, mc_40, mc_41, mc_42, mc_43, mc_44, mc_45, e40, nI_1, nI_clamp (show 40 * k + x0 + t < 2 ^ 31 by omega), nI_clamp (show 40 * l + x2 + t < 2 ^ 31 by omega), hh, Int32.reduceLT, Int32.reduceLE, eq_self, am_10, am_00, am_01, am_11, true_implies, false_implies, not_true_eq_false, not_false_eq_true, or_true, true_or, and_self, implies_true, qtm_push, qtm_iload, qtm_lload, qtm_aload, qtm_istore, qtm_lstore, qtm_astore, qtm_iinc, qtm_un, qtm_bin, qtm_div, qtm_lbin, qtm_ldiv, qtm_lsh, qtm_lcmp, qtm_i2l, qtm_l2i, qtm_if, qtm_cmp, qtm_getf, qtm_puti, qtm_putz, qtm_putl, qtm_iald, qtm_iast, qtm_zald, qtm_zast, qtm_aald, qtm_tsw, qtm_callV, qtm_callS, qtm_acp, qtm_alen, qtm_max, qtm_min, qtm_dup, qtm_pop, qtm_iret, qtm_zret, qtm_lret, qtm_aret, qtm_vret, qtm_swn, qtm_swc, am_oi_c, am_ol_c, am_or_r, am_or_f, am_pi_c, am_pj_c, am_pr_c, am_pa_r, am_pa_f, am_yo_c, am_ya_c, am_fv_i, am_fv_l, am_fv_r, am_fi_c, am_fl_c, am_rv_c, am_n2_s, am_n2_n, am_pv_0, am_pv_s, am_cs_n, am_cs_c, Value.category, List.getElem?_cons_zero, List.getElem?_cons_succ, List.set_cons_zero, List.set_cons_succ, List.length_cons, List.length_nil, List.drop_succ_cons, List.drop_zero, List.take_succ_cons, List.take_zero, List.take_nil, List.reverse_cons, List.reverse_nil, List.nil_append, List.cons_append, List.append_nil, true_and, and_true, Int.reduceAdd, am_o0, am_o1, am_o2, am_o3, am_o4, am_o5, am_o6, am_o7, am_o8, am_o9, am_o10, am_o11, am_o12, am_o13, am_o14, am_o15, am_o16, am_o17, am_o18, am_o19, am_o20, am_o21, am_o22, am_o23, am_o24, am_o25, am_o26, am_o27, Nat.reduceAdd, Nat.reduceLeDiff, Nat.reduceLT, Nat.zero_le]
                    exact ⟨vp_in_nI (by omega) (by decide), vp_in_nI (by omega) (by decide), this⟩)
                have := loop 0 (Nat.zero_le c) .null
                rw [am_cp_0] at this
                exact this
              have high : k = l → x0 < x2 → am_At X (am_MQ X K 0 0) 9 0 0 121 [.ref 49, .int (nI k), .int (nI x0), .int (nI l), .int (nI x2), .int (nI c), .int 1, .int 0, .null] [] Y h := by
                intro hkl hx
                have loop := am_for (P := fun t => ∀ a8, am_At X (am_MQ X K 0 0) 9 0 0 121 [.ref 49, .int (nI k), .int (nI x0), .int (nI l), .int (nI x2), .int (nI c), .int 1, .int (nI t), a8] [] Y (am_cp h 66 66 (40 * k + x0 + (c - t)) (40 * l + x2 + (c - t)) t)) c
                  (fun a8 => by
                    refine sd_X6_copy_121 F hr _ _ _ _ ?_
                    simp only [te_X6_copy_121, te_X6_copy_182, te_X6_copy_128, te_X6_copy_143, te_X6_copy_133, m0, m17, mc_0, mc_1, mc_2, mc_3, mc_4, mc_5, mc_6, mc_7, mc_8, mc_9, mc_10, mc_11, mc_12, mc_13, mc_14, mc_15, mc_16, mc_17, mc_18, mc_19, mc_20, mc_21, mc_22, mc_23, mc_24, mc_25, mc_26, mc_27, mc_28, mc_29, mc_30, mc_31, mc_32, mc_33, mc_34, mc_35, mc_36, mc_37, mc_38, mc_39, mc_40, mc_41, mc_42, mc_43, mc_44, mc_45, Int32.reduceLT, Int32.reduceLE, eq_self, am_10, am_00, am_01, am_11, true_implies, false_implies, not_true_eq_false, not_false_eq_true, or_true, true_or, and_self, implies_true, qtm_push, qtm_iload, qtm_lload, qtm_aload, qtm_istore, qtm_lstore, qtm_astore, qtm_iinc, qtm_un, qtm_bin, qtm_div, qtm_lbin, qtm_ldiv, qtm_lsh, qtm_lcmp, qtm_i2l, qtm_l2i, qtm_if, qtm_cmp, qtm_getf, qtm_puti, qtm_putz, qtm_putl, qtm_iald, qtm_iast, qtm_zald, qtm_zast, qtm_aald, qtm_tsw, qtm_callV, qtm_callS, qtm_acp, qtm_alen, qtm_max, qtm_min, qtm_dup, qtm_pop, qtm_iret, qtm_zret, qtm_lret, qtm_aret, qtm_vret, qtm_swn, qtm_swc, am_oi_c, am_ol_c, am_or_r, am_or_f, am_pi_c, am_pj_c, am_pr_c, am_pa_r, am_pa_f, am_yo_c, am_ya_c, am_fv_i, am_fv_l, am_fv_r, am_fi_c, am_fl_c, am_rv_c, am_n2_s, am_n2_n, am_pv_0, am_pv_s, am_cs_n, am_cs_c, Value.category, List.getElem?_cons_zero, List.getElem?_cons_succ, List.set_cons_zero, List.set_cons_succ, List.length_cons, List.length_nil, List.drop_succ_cons, List.drop_zero, List.take_succ_cons, List.take_zero, List.take_nil, List.reverse_cons, List.reverse_nil, List.nil_append, List.cons_append, List.append_nil, true_and, and_true, Int.reduceAdd, am_o0, am_o1, am_o2, am_o3, am_o4, am_o5, am_o6, am_o7, am_o8, am_o9, am_o10, am_o11, am_o12, am_o13, am_o14, am_o15, am_o16, am_o17, am_o18, am_o19, am_o20, am_o21, am_o22, am_o23, am_o24, am_o25, am_o26, am_o27, Nat.reduceAdd, Nat.reduceLeDiff, Nat.reduceLT, Nat.zero_le]
                    rw [Nat.sub_self]
                    exact ⟨fun _ => last, fun z => absurd (nI_le (Nat.le_refl c) (by omega)) z⟩)
                  (fun t ht ih a8 => by
                    have hh : am_up (am_cp h 66 66 (40 * k + x0 + (c - (t + 1)) + 1) (40 * l + x2 + (c - (t + 1)) + 1) t) 66 (40 * l + x2 + (c - (t + 1))) ((am_cp h 66 66 (40 * k + x0 + (c - (t + 1)) + 1) (40 * l + x2 + (c - (t + 1)) + 1) t) 66 (40 * k + x0 + (c - (t + 1)))) = am_cp h 66 66 (40 * k + x0 + (c - (t + 1))) (40 * l + x2 + (c - (t + 1))) (t + 1) := am_cp_b (by omega)
                    have := ih (.int (nI (c - (t + 1))))
                    rw [show 40 * k + x0 + (c - t) = 40 * k + x0 + (c - (t + 1)) + 1 by omega, show 40 * l + x2 + (c - t) = 40 * l + x2 + (c - (t + 1)) + 1 by omega]
                    have ec : nI c - 1 - nI t = nI (c - (t + 1)) := by rw [show (1 : Int32) = nI 1 from rfl, pk_sub (by omega), pk_sub (by omega), show c - 1 - t = c - (t + 1) by omega]
                    refine sd_X6_copy_121 F hr _ _ _ _ ?_
                    simp only [te_X6_copy_121, te_X6_copy_182, te_X6_copy_128, te_X6_copy_143, te_X6_copy_133, m0, m17, mc_0, mc_1, mc_2, mc_3, mc_4, mc_5, mc_6, mc_7, mc_8, mc_9, mc_10, mc_11, mc_12, mc_13, mc_14, mc_15, mc_16, mc_17, mc_18, mc_19, mc_20, mc_21, mc_22, mc_23, mc_24, mc_25, mc_26, mc_27, mc_28, mc_29, mc_30, mc_31, mc_32, mc_33, mc_34, mc_35, mc_36, mc_37, mc_38, mc_39, mc_40, mc_41, mc_42, mc_43, mc_44, mc_45, ec, Int32.reduceLT, Int32.reduceLE, eq_self, am_10, am_00, am_01, am_11, true_implies, false_implies, not_true_eq_false, not_false_eq_true, or_true, true_or, and_self, implies_true, qtm_push, qtm_iload, qtm_lload, qtm_aload, qtm_istore, qtm_lstore, qtm_astore, qtm_iinc, qtm_un, qtm_bin, qtm_div, qtm_lbin, qtm_ldiv, qtm_lsh, qtm_lcmp, qtm_i2l, qtm_l2i, qtm_if, qtm_cmp, qtm_getf, qtm_puti, qtm_putz, qtm_putl, qtm_iald, qtm_iast, qtm_zald, qtm_zast, qtm_aald, qtm_tsw, qtm_callV, qtm_callS, qtm_acp, qtm_alen, qtm_max, qtm_min, qtm_dup, qtm_pop, qtm_iret, qtm_zret, qtm_lret, qtm_aret, qtm_vret, qtm_swn, qtm_swc, am_oi_c, am_ol_c, am_or_r, am_or_f, am_pi_c, am_pj_c, am_pr_c, am_pa_r, am_pa_f, am_yo_c, am_ya_c, am_fv_i, am_fv_l, am_fv_r, am_fi_c, am_fl_c, am_rv_c, am_n2_s, am_n2_n, am_pv_0, am_pv_s, am_cs_n, am_cs_c, Value.category, List.getElem?_cons_zero, List.getElem?_cons_succ, List.set_cons_zero, List.set_cons_succ, List.length_cons, List.length_nil, List.drop_succ_cons, List.drop_zero, List.take_succ_cons, List.take_zero, List.take_nil, List.reverse_cons, List.reverse_nil, List.nil_append, List.cons_append, List.append_nil, true_and, and_true, Int.reduceAdd, am_o0, am_o1, am_o2, am_o3, am_o4, am_o5, am_o6, am_o7, am_o8, am_o9, am_o10, am_o11, am_o12, am_o13, am_o14, am_o15, am_o16, am_o17, am_o18, am_o19, am_o20, am_o21, am_o22, am_o23, am_o24, am_o25, am_o26, am_o27, Nat.reduceAdd, Nat.reduceLeDiff, Nat.reduceLT, Nat.zero_le]
                    refine ⟨fun q => absurd ((nI_leI (by omega) (by omega)).mp q) (by omega), ?_⟩
                    intro _
                    refine sd_X6_copy_145 F hr _ _ _ _ ?_
                    simp only [te_X6_copy_145, m0, m17, mc_0, mc_1, mc_2, mc_3, mc_4, mc_5, mc_6, mc_7, mc_8, mc_9, mc_10, mc_11, mc_12, mc_13, mc_14, mc_15, mc_16, mc_17, mc_18, mc_19, mc_20, mc_21, mc_22, mc_23, mc_24, mc_25, mc_26, mc_27, mc_28, mc_29, mc_30, mc_31, mc_32, mc_33, mc_34, mc_35, mc_36, mc_37, mc_38, mc_39, mc_40, mc_41, mc_42, mc_43, mc_44, mc_45, e40, nI_1, nI_clamp (show 40 * k + x0 + (c - (t + 1)) < 2 ^ 31 by omega), nI_clamp (show 40 * l + x2 + (c - (t + 1)) < 2 ^ 31 by omega), hh, Int32.reduceLT, Int32.reduceLE, eq_self, am_10, am_00, am_01, am_11, true_implies, false_implies, not_true_eq_false, not_false_eq_true, or_true, true_or, and_self, implies_true, qtm_push, qtm_iload, qtm_lload, qtm_aload, qtm_istore, qtm_lstore, qtm_astore, qtm_iinc, qtm_un, qtm_bin, qtm_div, qtm_lbin, qtm_ldiv, qtm_lsh, qtm_lcmp, qtm_i2l, qtm_l2i, qtm_if, qtm_cmp, qtm_getf, qtm_puti, qtm_putz, qtm_putl, qtm_iald, qtm_iast, qtm_zald, qtm_zast, qtm_aald, qtm_tsw, qtm_callV, qtm_callS, qtm_acp, qtm_alen, qtm_max, qtm_min, qtm_dup, qtm_pop, qtm_iret, qtm_zret, qtm_lret, qtm_aret, qtm_vret, qtm_swn, qtm_swc, am_oi_c, am_ol_c, am_or_r, am_or_f, am_pi_c, am_pj_c, am_pr_c, am_pa_r, am_pa_f, am_yo_c, am_ya_c, am_fv_i, am_fv_l, am_fv_r, am_fi_c, am_fl_c, am_rv_c, am_n2_s, am_n2_n, am_pv_0, am_pv_s, am_cs_n, am_cs_c, Value.category, List.getElem?_cons_zero, List.getElem?_cons_succ, List.set_cons_zero, List.set_cons_succ, List.length_cons, List.length_nil, List.drop_succ_cons, List.drop_zero, List.take_succ_cons, List.take_zero, List.take_nil, List.reverse_cons, List.reverse_nil, List.nil_append, List.cons_append, List.append_nil, true_and, and_true, Int.reduceAdd, am_o0, am_o1, am_o2, am_o3, am_o4, am_o5, am_o6, am_o7, am_o8, am_o9, am_o10, am_o11, am_o12, am_o13, am_o14, am_o15, am_o16, am_o17, am_o18, am_o19, am_o20, am_o21, am_o22, am_o23, am_o24, am_o25, am_o26, am_o27, Nat.reduceAdd, Nat.reduceLeDiff, Nat.reduceLT, Nat.zero_le]
                    exact ⟨vp_in_nI (by omega) (by decide), vp_in_nI (by omega) (by decide), this⟩)
                have := loop 0 (Nat.zero_le c) .null
                rw [am_cp_0] at this
                exact this
              have ekl : (nI k = nI l) ↔ k = l := nI_eq (by omega) (by omega)
              have ejl : (nI x2 ≤ nI x0) ↔ x2 ≤ x0 := nI_leI hx2 hx0
              rw [ekl, ejl]
              exact ⟨fun y => ⟨fun y2 => low (Or.inr y2), fun y2 => high y (by omega)⟩, fun y => low (Or.inl y)⟩
            · rw [e1, e2, pk_sub (by omega)] at t
              exact t ((nI_leI (by omega) (by omega)).mpr (by omega))
          · rw [if_neg t] at hK
            exact hK h (am_fM.rf h) hM
    · rw [if_neg (by rw [q2]; decide)] at hK
      simp only [Int32.reduceLT, Int32.reduceLE, eq_self, am_10, am_00, am_01, am_11, true_implies, false_implies, not_true_eq_false, not_false_eq_true, or_true, true_or, and_self, implies_true, qtm_push, qtm_iload, qtm_lload, qtm_aload, qtm_istore, qtm_lstore, qtm_astore, qtm_iinc, qtm_un, qtm_bin, qtm_div, qtm_lbin, qtm_ldiv, qtm_lsh, qtm_lcmp, qtm_i2l, qtm_l2i, qtm_if, qtm_cmp, qtm_getf, qtm_puti, qtm_putz, qtm_putl, qtm_iald, qtm_iast, qtm_zald, qtm_zast, qtm_aald, qtm_tsw, qtm_callV, qtm_callS, qtm_acp, qtm_alen, qtm_max, qtm_min, qtm_dup, qtm_pop, qtm_iret, qtm_zret, qtm_lret, qtm_aret, qtm_vret, qtm_swn, qtm_swc, am_oi_c, am_ol_c, am_or_r, am_or_f, am_pi_c, am_pj_c, am_pr_c, am_pa_r, am_pa_f, am_yo_c, am_ya_c, am_fv_i, am_fv_l, am_fv_r, am_fi_c, am_fl_c, am_rv_c, am_n2_s, am_n2_n, am_pv_0, am_pv_s, am_cs_n, am_cs_c, Value.category, List.getElem?_cons_zero, List.getElem?_cons_succ, List.set_cons_zero, List.set_cons_succ, List.length_cons, List.length_nil, List.drop_succ_cons, List.drop_zero, List.take_succ_cons, List.take_zero, List.take_nil, List.reverse_cons, List.reverse_nil, List.nil_append, List.cons_append, List.append_nil, true_and, and_true, Int.reduceAdd, am_o0, am_o1, am_o2, am_o3, am_o4, am_o5, am_o6, am_o7, am_o8, am_o9, am_o10, am_o11, am_o12, am_o13, am_o14, am_o15, am_o16, am_o17, am_o18, am_o19, am_o20, am_o21, am_o22, am_o23, am_o24, am_o25, am_o26, am_o27, Nat.reduceAdd, Nat.reduceLeDiff, Nat.reduceLT, Nat.zero_le]
      exact hK h (am_fM.rf h) hM
  · rw [if_neg (by rw [q]; decide)] at hK
    simp only [Int32.reduceLT, Int32.reduceLE, eq_self, am_10, am_00, am_01, am_11, true_implies, false_implies, not_true_eq_false, not_false_eq_true, or_true, true_or, and_self, implies_true, qtm_push, qtm_iload, qtm_lload, qtm_aload, qtm_istore, qtm_lstore, qtm_astore, qtm_iinc, qtm_un, qtm_bin, qtm_div, qtm_lbin, qtm_ldiv, qtm_lsh, qtm_lcmp, qtm_i2l, qtm_l2i, qtm_if, qtm_cmp, qtm_getf, qtm_puti, qtm_putz, qtm_putl, qtm_iald, qtm_iast, qtm_zald, qtm_zast, qtm_aald, qtm_tsw, qtm_callV, qtm_callS, qtm_acp, qtm_alen, qtm_max, qtm_min, qtm_dup, qtm_pop, qtm_iret, qtm_zret, qtm_lret, qtm_aret, qtm_vret, qtm_swn, qtm_swc, am_oi_c, am_ol_c, am_or_r, am_or_f, am_pi_c, am_pj_c, am_pr_c, am_pa_r, am_pa_f, am_yo_c, am_ya_c, am_fv_i, am_fv_l, am_fv_r, am_fi_c, am_fl_c, am_rv_c, am_n2_s, am_n2_n, am_pv_0, am_pv_s, am_cs_n, am_cs_c, Value.category, List.getElem?_cons_zero, List.getElem?_cons_succ, List.set_cons_zero, List.set_cons_succ, List.length_cons, List.length_nil, List.drop_succ_cons, List.drop_zero, List.take_succ_cons, List.take_zero, List.take_nil, List.reverse_cons, List.reverse_nil, List.nil_append, List.cons_append, List.append_nil, true_and, and_true, Int.reduceAdd, am_o0, am_o1, am_o2, am_o3, am_o4, am_o5, am_o6, am_o7, am_o8, am_o9, am_o10, am_o11, am_o12, am_o13, am_o14, am_o15, am_o16, am_o17, am_o18, am_o19, am_o20, am_o21, am_o22, am_o23, am_o24, am_o25, am_o26, am_o27, Nat.reduceAdd, Nat.reduceLeDiff, Nat.reduceLT, Nat.zero_le]
    exact hK h (am_fM.rf h) hM
end CON
