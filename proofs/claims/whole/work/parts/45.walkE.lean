theorem sp_min99 {x t : Int32} (hx : vp_in x 100) (ht : vp_in t 100) : (if x + t < 99 then x + t else 99) = sp_bd (x + t) 0 99 := by
  rw [am_in] at hx ht
  have e := am_add (x := x) (y := t) (by omega) (by omega)
  have h2 : (99 : Int32).toInt = 99 := rfl
  have h0 : (0 : Int32).toInt = 0 := rfl
  simp only [sp_bd, am_lt, e, h2, h0, am_eq]
  repeat' split
  all_goals first | rfl | omega
theorem sp_max0 {x s : Int32} (hx : vp_in x 100) (hs : vp_in s 100) : (if 0 < x - s / 10 then x - s / 10 else 0) = sp_bd (x - s / 10) 0 99 := by
  have e10 : s / 10 = nI (s.toNatClampNeg / 10) := by
    have h1 := am_in_nI hs
    have h2 := am_in_tn hs
    rw [h1, nI_clamp (by omega)]
    exact pk_div (d := 10) (by omega) (by decide) (by decide)
  have hs2 := am_in_tn hs
  rw [e10]
  rw [am_in] at hx
  have e1 := am_nI (n := s.toNatClampNeg / 10) (by omega)
  have e := am_sub (x := x) (y := nI (s.toNatClampNeg / 10)) (by omega) (by omega)
  have h2 : (99 : Int32).toInt = 99 := rfl
  have h0 : (0 : Int32).toInt = 0 := rfl
  simp only [sp_bd, am_lt, e, h2, h0, am_eq]
  repeat' split
  all_goals first | rfl | omega
section CON
variable {d b n : Nat} {Y : List am_C} {h w : am_H} {K : List Value → List am_C → am_H → Prop}
set_option maxHeartbeats 4000000 in
set_option maxRecDepth 100000 in
theorem c_X4_comeToNext {p : Nat} {tr : Int32} (hd : 2 ≤ d) (hw : am_walk Y b) (hR : am_RW h b w) (hI : am_WI w n) (hp : p < n) (ht : vp_in tr 100) (hK : ∀ h1, (∀ a, a < b ∨ b + 7 < a → h1 a = h a) → am_RW h1 b (sp_come w n p tr) → K [] Y h1) : am_Met d 0 0 YX4_comeToNext [.ref b, .int (nI p), .int tr] Y h K := by
  refine en_X4_comeToNext fun X F hr => ?_
  obtain ⟨w0, w1, w2, w3, w4, w5, w6, w7, w8⟩ := hw
  obtain ⟨hn, h5, hat, hfi, hse⟩ := hI
  simp only [te_X4_comeToNext_0, te_X4_comeToNext_29, te_X4_comeToNext_21, w0, w4, w6, nI_clamp (show p < 2 ^ 31 by omega), hR.row 6 (by decide) (by decide) (show p < 5 by omega), hR.row 4 (by decide) (by decide) (show p < 5 by omega), qtm_push, qtm_iload, qtm_lload, qtm_aload, qtm_istore, qtm_lstore, qtm_astore, qtm_iinc, qtm_un, qtm_bin, qtm_div, qtm_lbin, qtm_ldiv, qtm_lsh, qtm_lcmp, qtm_i2l, qtm_l2i, qtm_if, qtm_cmp, qtm_getf, qtm_puti, qtm_putz, qtm_putl, qtm_iald, qtm_iast, qtm_zald, qtm_zast, qtm_aald, qtm_tsw, qtm_callV, qtm_callS, qtm_acp, qtm_alen, qtm_max, qtm_min, qtm_dup, qtm_pop, qtm_iret, qtm_zret, qtm_lret, qtm_aret, qtm_vret, qtm_swn, qtm_swc, am_oi_c, am_ol_c, am_or_r, am_or_f, am_pi_c, am_pj_c, am_pr_c, am_pa_r, am_pa_f, am_yo_c, am_ya_c, am_fv_i, am_fv_l, am_fv_r, am_fi_c, am_fl_c, am_rv_c, am_n2_s, am_n2_n, am_pv_0, am_pv_s, am_cs_n, am_cs_c, Value.category, List.getElem?_cons_zero, List.getElem?_cons_succ, List.set_cons_zero, List.set_cons_succ, List.length_cons, List.length_nil, List.drop_succ_cons, List.drop_zero, List.take_succ_cons, List.take_zero, List.take_nil, List.reverse_cons, List.reverse_nil, List.nil_append, List.cons_append, List.append_nil, true_and, and_true, Int.reduceAdd, am_o0, am_o1, am_o2, am_o3, am_o4, am_o5, am_o6, am_o7, am_o8, am_o9, am_o10, am_o11, am_o12, am_o13, am_o14, am_o15, am_o16, am_o17, am_o18, am_o19, am_o20, am_o21, am_o22, am_o23, am_o24, am_o25, am_o26, am_o27, Nat.reduceAdd, Nat.reduceLeDiff, Nat.reduceLT, Nat.zero_le]
  refine ⟨vp_in_nI (by omega) (by decide), vp_in_nI (by omega) (by decide), by omega, c_X5_isPlace ?_⟩
  by_cases hc : 0 ≤ w 6 p + w 4 p ∧ w 6 p + w 4 p < 32
  · have hin : vp_in (w 6 p + w 4 p) 32 := am_in_of (m := 32) rfl hc.1 hc.2
    have hk : (w 6 p + w 4 p).toNatClampNeg < 32 := am_in_tn hin
    simp only [if_pos hc, am_up_ap, reduceIte, Nat.reduceEqDiff, Nat.add_eq_left, Nat.left_eq_add, Nat.add_left_cancel_iff, am_t0, am_t1, am_t2, am_t3, am_t4, am_t5, am_t6, am_t7, am_t8, am_t9, am_t10, am_t11, w0, w1, w6, nI_clamp (show p < 2 ^ 31 by omega), hR.1 _ hk, sp_min99 (hfi _ hk) ht, qtm_push, qtm_iload, qtm_lload, qtm_aload, qtm_istore, qtm_lstore, qtm_astore, qtm_iinc, qtm_un, qtm_bin, qtm_div, qtm_lbin, qtm_ldiv, qtm_lsh, qtm_lcmp, qtm_i2l, qtm_l2i, qtm_if, qtm_cmp, qtm_getf, qtm_puti, qtm_putz, qtm_putl, qtm_iald, qtm_iast, qtm_zald, qtm_zast, qtm_aald, qtm_tsw, qtm_callV, qtm_callS, qtm_acp, qtm_alen, qtm_max, qtm_min, qtm_dup, qtm_pop, qtm_iret, qtm_zret, qtm_lret, qtm_aret, qtm_vret, qtm_swn, qtm_swc, am_oi_c, am_ol_c, am_or_r, am_or_f, am_pi_c, am_pj_c, am_pr_c, am_pa_r, am_pa_f, am_yo_c, am_ya_c, am_fv_i, am_fv_l, am_fv_r, am_fi_c, am_fl_c, am_rv_c, am_n2_s, am_n2_n, am_pv_0, am_pv_s, am_cs_n, am_cs_c, Value.category, List.getElem?_cons_zero, List.getElem?_cons_succ, List.set_cons_zero, List.set_cons_succ, List.length_cons, List.length_nil, List.drop_succ_cons, List.drop_zero, List.take_succ_cons, List.take_zero, List.take_nil, List.reverse_cons, List.reverse_nil, List.nil_append, List.cons_append, List.append_nil, true_and, and_true, Int.reduceAdd, am_o0, am_o1, am_o2, am_o3, am_o4, am_o5, am_o6, am_o7, am_o8, am_o9, am_o10, am_o11, am_o12, am_o13, am_o14, am_o15, am_o16, am_o17, am_o18, am_o19, am_o20, am_o21, am_o22, am_o23, am_o24, am_o25, am_o26, am_o27, Nat.reduceAdd, Nat.reduceLeDiff, Nat.reduceLT, Nat.zero_le]
    refine ⟨fun q => absurd q (by decide), fun _ => ⟨vp_in_nI (by omega) (by decide), hin, by omega, hin, ?_⟩⟩
    have hR0 : am_RW (am_up (am_up h (b + 6) p (w 6 p + w 4 p)) (b + 1) (w 6 p + w 4 p).toNatClampNeg (sp_bd (w 1 (w 6 p + w 4 p).toNatClampNeg + tr) 0 99)) b (am_up (am_up w 6 p (w 6 p + w 4 p)) 1 (w 6 p + w 4 p).toNatClampNeg (sp_bd (w 1 (w 6 p + w 4 p).toNatClampNeg + tr) 0 99)) := (hR.upr 6 (by decide) (by decide) p _).upf _ _
    have loop := am_for (P := fun i => ∀ h' : am_H, (∀ a, a < b ∨ b + 7 < a → h' a = h a) → am_RW h' b (sp_free (am_up (am_up w 6 p (w 6 p + w 4 p)) 1 (w 6 p + w 4 p).toNatClampNeg (sp_bd (w 1 (w 6 p + w 4 p).toNatClampNeg + tr) 0 99)) (w 6 p + w 4 p) i) → am_At X (am_MQ X K 0 0) 5 0 0 58 [.ref b, .int (nI p), .int tr, .int (w 6 p + w 4 p), .int (nI i)] [] Y h') n
      (fun h' hh hR' => by
        have hn' : h' b 8 = nI n := by
          rw [hR'.2.2 8 (by decide) (by decide), sp_free_row _ _ _ 0 (by decide)]
          simpa [am_up] using hn
        refine sd_X4_comeToNext_58 F hr _ _ _ _ ?_
        simp only [te_X4_comeToNext_58, te_X4_comeToNext_67, te_X4_comeToNext_97, te_X4_comeToNext_78, te_X4_comeToNext_89, te_X4_comeToNext_103, w0, hn', qtm_push, qtm_iload, qtm_lload, qtm_aload, qtm_istore, qtm_lstore, qtm_astore, qtm_iinc, qtm_un, qtm_bin, qtm_div, qtm_lbin, qtm_ldiv, qtm_lsh, qtm_lcmp, qtm_i2l, qtm_l2i, qtm_if, qtm_cmp, qtm_getf, qtm_puti, qtm_putz, qtm_putl, qtm_iald, qtm_iast, qtm_zald, qtm_zast, qtm_aald, qtm_tsw, qtm_callV, qtm_callS, qtm_acp, qtm_alen, qtm_max, qtm_min, qtm_dup, qtm_pop, qtm_iret, qtm_zret, qtm_lret, qtm_aret, qtm_vret, qtm_swn, qtm_swc, am_oi_c, am_ol_c, am_or_r, am_or_f, am_pi_c, am_pj_c, am_pr_c, am_pa_r, am_pa_f, am_yo_c, am_ya_c, am_fv_i, am_fv_l, am_fv_r, am_fi_c, am_fl_c, am_rv_c, am_n2_s, am_n2_n, am_pv_0, am_pv_s, am_cs_n, am_cs_c, Value.category, List.getElem?_cons_zero, List.getElem?_cons_succ, List.set_cons_zero, List.set_cons_succ, List.length_cons, List.length_nil, List.drop_succ_cons, List.drop_zero, List.take_succ_cons, List.take_zero, List.take_nil, List.reverse_cons, List.reverse_nil, List.nil_append, List.cons_append, List.append_nil, true_and, and_true, Int.reduceAdd, am_o0, am_o1, am_o2, am_o3, am_o4, am_o5, am_o6, am_o7, am_o8, am_o9, am_o10, am_o11, am_o12, am_o13, am_o14, am_o15, am_o16, am_o17, am_o18, am_o19, am_o20, am_o21, am_o22, am_o23, am_o24, am_o25, am_o26, am_o27, Nat.reduceAdd, Nat.reduceLeDiff, Nat.reduceLT, Nat.zero_le]
        refine ⟨fun _ => hK h' hh ?_, fun q => absurd (nI_le (Nat.le_refl n) (by omega)) q⟩
        simpa only [sp_come, if_pos hc] using hR')
      (fun i hi ih h' hh hR' => by
        have hn' : h' b 8 = nI n := by
          rw [hR'.2.2 8 (by decide) (by decide), sp_free_row _ _ _ 0 (by decide)]
          simpa [am_up] using hn
        refine sd_X4_comeToNext_58 F hr _ _ _ _ ?_
        simp only [te_X4_comeToNext_58, te_X4_comeToNext_67, te_X4_comeToNext_97, te_X4_comeToNext_78, te_X4_comeToNext_89, te_X4_comeToNext_103, w0, w6, w7, hn', nI_clamp (show i < 2 ^ 31 by omega), hR'.row 6 (by decide) (by decide) (show i < 5 by omega), hR'.row 7 (by decide) (by decide) (show i < 5 by omega), nI_1, qtm_push, qtm_iload, qtm_lload, qtm_aload, qtm_istore, qtm_lstore, qtm_astore, qtm_iinc, qtm_un, qtm_bin, qtm_div, qtm_lbin, qtm_ldiv, qtm_lsh, qtm_lcmp, qtm_i2l, qtm_l2i, qtm_if, qtm_cmp, qtm_getf, qtm_puti, qtm_putz, qtm_putl, qtm_iald, qtm_iast, qtm_zald, qtm_zast, qtm_aald, qtm_tsw, qtm_callV, qtm_callS, qtm_acp, qtm_alen, qtm_max, qtm_min, qtm_dup, qtm_pop, qtm_iret, qtm_zret, qtm_lret, qtm_aret, qtm_vret, qtm_swn, qtm_swc, am_oi_c, am_ol_c, am_or_r, am_or_f, am_pi_c, am_pj_c, am_pr_c, am_pa_r, am_pa_f, am_yo_c, am_ya_c, am_fv_i, am_fv_l, am_fv_r, am_fi_c, am_fl_c, am_rv_c, am_n2_s, am_n2_n, am_pv_0, am_pv_s, am_cs_n, am_cs_c, Value.category, List.getElem?_cons_zero, List.getElem?_cons_succ, List.set_cons_zero, List.set_cons_succ, List.length_cons, List.length_nil, List.drop_succ_cons, List.drop_zero, List.take_succ_cons, List.take_zero, List.take_nil, List.reverse_cons, List.reverse_nil, List.nil_append, List.cons_append, List.append_nil, true_and, and_true, Int.reduceAdd, am_o0, am_o1, am_o2, am_o3, am_o4, am_o5, am_o6, am_o7, am_o8, am_o9, am_o10, am_o11, am_o12, am_o13, am_o14, am_o15, am_o16, am_o17, am_o18, am_o19, am_o20, am_o21, am_o22, am_o23, am_o24, am_o25, am_o26, am_o27, Nat.reduceAdd, Nat.reduceLeDiff, Nat.reduceLT, Nat.zero_le]
        refine ⟨fun q => absurd ((nI_leI (by omega) (by omega)).mp q) (by omega), fun _ => ⟨vp_in_nI (by omega) (by decide), fun q2 => ⟨vp_in_nI (by omega) (by decide), fun q3 => ⟨vp_in_nI (by omega) (by decide), ?_⟩, fun q3 => ?_⟩, fun q2 => ?_⟩⟩
        · refine ih _ (fun a ha => (am_up_ne a (by omega)).trans (hh a ha)) ?_
          simp only [sp_free, if_pos (And.intro q2 q3)]
          exact hR'.upr 7 (by decide) (by decide) i 1
        · refine ih _ hh ?_
          simp only [sp_free, if_neg (fun z : _ ∧ _ => q3 z.2)]
          exact hR'
        · refine ih _ hh ?_
          simp only [sp_free, if_neg (fun z : _ ∧ _ => q2 z.1)]
          exact hR')
    exact loop 0 (Nat.zero_le n) _ (fun a ha => by rw [am_up_ne a (by omega), am_up_ne a (by omega)]) hR0
  · simp only [if_neg hc, w0, w7, nI_clamp (show p < 2 ^ 31 by omega), qtm_push, qtm_iload, qtm_lload, qtm_aload, qtm_istore, qtm_lstore, qtm_astore, qtm_iinc, qtm_un, qtm_bin, qtm_div, qtm_lbin, qtm_ldiv, qtm_lsh, qtm_lcmp, qtm_i2l, qtm_l2i, qtm_if, qtm_cmp, qtm_getf, qtm_puti, qtm_putz, qtm_putl, qtm_iald, qtm_iast, qtm_zald, qtm_zast, qtm_aald, qtm_tsw, qtm_callV, qtm_callS, qtm_acp, qtm_alen, qtm_max, qtm_min, qtm_dup, qtm_pop, qtm_iret, qtm_zret, qtm_lret, qtm_aret, qtm_vret, qtm_swn, qtm_swc, am_oi_c, am_ol_c, am_or_r, am_or_f, am_pi_c, am_pj_c, am_pr_c, am_pa_r, am_pa_f, am_yo_c, am_ya_c, am_fv_i, am_fv_l, am_fv_r, am_fi_c, am_fl_c, am_rv_c, am_n2_s, am_n2_n, am_pv_0, am_pv_s, am_cs_n, am_cs_c, Value.category, List.getElem?_cons_zero, List.getElem?_cons_succ, List.set_cons_zero, List.set_cons_succ, List.length_cons, List.length_nil, List.drop_succ_cons, List.drop_zero, List.take_succ_cons, List.take_zero, List.take_nil, List.reverse_cons, List.reverse_nil, List.nil_append, List.cons_append, List.append_nil, true_and, and_true, Int.reduceAdd, am_o0, am_o1, am_o2, am_o3, am_o4, am_o5, am_o6, am_o7, am_o8, am_o9, am_o10, am_o11, am_o12, am_o13, am_o14, am_o15, am_o16, am_o17, am_o18, am_o19, am_o20, am_o21, am_o22, am_o23, am_o24, am_o25, am_o26, am_o27, Nat.reduceAdd, Nat.reduceLeDiff, Nat.reduceLT, Nat.zero_le]
    refine ⟨fun _ => ⟨vp_in_nI (by omega) (by decide), hK _ (fun a ha => am_up_ne a (by omega)) ?_⟩, fun q => absurd trivial q⟩
    simp only [sp_come, if_neg hc]
    exact hR.upr 7 (by decide) (by decide) p 3
end CON
