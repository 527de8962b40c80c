/-- what thinking may change -/
def am_q3 (h h1 : am_H) : Prop := (∀ a, (a < 56 ∨ 59 < a) → a ≠ 49 → h1 a = h a) ∧ ∀ k, k ≠ 11 → k ≠ 12 → (k < 16 ∨ 21 < k) → h1 49 k = h 49 k
theorem am_q3.rf (h : am_H) : am_q3 h h := ⟨fun _ _ _ => rfl, fun _ _ _ _ => rfl⟩
theorem am_q3.tr {a b c : am_H} (h1 : am_q3 a b) (h2 : am_q3 b c) : am_q3 a c := ⟨fun x g1 g2 => (h2.1 x g1 g2).trans (h1.1 x g1 g2), fun k g1 g2 hk => (h2.2 k g1 g2 hk).trans (h1.2 k g1 g2 hk)⟩
theorem am_q2.q3 {a b : am_H} (h : am_q2 a b) : am_q3 a b := ⟨fun x g1 g2 => h.1 x (by omega) g2, fun k g1 _ hk => h.2 k g1 hk⟩
theorem am_txM.q3 {h h1 : am_H} {t : Nat} {f : am_F} (ht : am_txM h t f) (hq : am_q3 h h1) : am_txM h1 t f := ht.keep (hq.1 52 (by decide) (by decide)) (hq.1 53 (by decide) (by decide)) (hq.1 54 (by decide) (by decide))
/-- the walk that is laid aside, as if it were there -/
def am_wb (h : am_H) : am_H := fun a k => if a = 57 then h 59 k else if a = 56 then h 59 (30 + k) else if a = 49 then (if k = 11 then h 59 62 else if k = 12 then h 59 63 else h 49 k) else h a k
def am_WA (h w : am_H) : Prop := am_RM (am_wb h) w
theorem am_RM.cong {h h1 w : am_H} (hR : am_RM h w) (h57 : ∀ k, k < 30 → h1 57 k = h 57 k) (h56 : ∀ k, k < 32 → h1 56 k = h 56 k) (h49 : ∀ k, (k = 4 ∨ k = 11 ∨ k = 12 ∨ k = 15) → h1 49 k = h 49 k) : am_RM h1 w := by
  obtain ⟨g1, g2, g3, g4, g5, g6⟩ := hR
  refine ⟨fun p hp => ?_, fun i hi => (h56 i hi).trans (g2 i hi), ?_, ?_, ?_, ?_⟩
  · rw [h57 _ (by omega), h57 _ (by omega), h57 _ (by omega), h57 _ (by omega), h57 _ (by omega), h57 _ (by omega)]
    exact g1 p hp
  · rw [h49 15 (by decide)]; exact g3
  · rw [h49 11 (by decide)]; exact g4
  · rw [h49 12 (by decide)]; exact g5
  · rw [h49 4 (by decide)]; exact g6
theorem am_WA.q2 {h h1 w : am_H} (hR : am_WA h w) (hq : am_q2 h h1) : am_WA h1 w := by
  have e := hq.1 59 (by decide) (by decide)
  refine am_RM.cong hR (fun k _ => ?_) (fun k _ => ?_) (fun k hk => ?_)
  · simp only [am_wb, if_true, e]
  · simp only [am_wb, if_true, show ¬ (56 : Nat) = 57 by decide, if_false, e]
  · rcases hk with rfl | rfl | rfl | rfl <;> simp [am_wb, e]
    · exact hq.2 4 (by decide) (by decide)
    · exact hq.2 15 (by decide) (by decide)
section CON
variable {d n : Nat} {Y : List am_C} {h w : am_H} {K : List Value → List am_C → am_H → Prop}
set_option maxHeartbeats 4000000 in
set_option maxRecDepth 100000 in
theorem c_X6_laysAside (hm : am_mod Y) (hR : am_RM h w) (hK : ∀ h1, (∀ a, a ≠ 59 → h1 a = h a) → am_WA h1 w → K [] Y h1) : am_Met d 0 0 YX6_laysAside [.ref 49] Y h K := by
  refine en_X6_laysAside fun X F hr => ?_
  obtain ⟨m0, m1, m2, m3, m4, m5, m6, m7, m8, m9, m10, m11, m12, m13, m14, m15, m16, m17⟩ := hm
  have l2 := am_for (P := fun i => ∀ h' : am_H, (∀ a, a ≠ 59 → h' a = h a) → (∀ k, k < 30 → h' 59 k = h 57 k) → (∀ k, k < i → h' 59 (30 + k) = h 56 k) → am_At X (am_MQ X K 0 0) 2 0 0 28 [.ref 49, .int (nI i)] [] Y h') 32
    (fun h' hh h1 h2 => by
      refine sd_X6_laysAside_28 F hr _ _ _ _ ?_
      simp only [te_X6_laysAside_28, te_X6_laysAside_55, te_X6_laysAside_34, m0, m10, mc_0, mc_1, mc_2, mc_3, mc_4, mc_5, mc_6, mc_7, mc_8, mc_9, mc_10, mc_11, mc_12, mc_13, mc_14, mc_15, mc_16, mc_17, mc_18, mc_19, mc_20, mc_21, mc_22, mc_23, mc_24, mc_25, mc_26, mc_27, mc_28, mc_29, mc_30, mc_31, mc_32, mc_33, mc_34, mc_35, mc_36, mc_37, mc_38, mc_39, mc_40, mc_41, mc_42, mc_43, mc_44, mc_45, am_up_ap, reduceIte, Nat.reduceEqDiff, Nat.add_eq_left, Nat.left_eq_add, Nat.add_left_cancel_iff, am_t0, am_t1, am_t2, am_t3, am_t4, am_t5, am_t6, am_t7, am_t8, am_t9, am_t10, am_t11, hh 49 (by decide), qtm_push, qtm_iload, qtm_lload, qtm_aload, qtm_istore, qtm_lstore, qtm_astore, qtm_iinc, qtm_un, qtm_bin, qtm_div, qtm_lbin, qtm_ldiv, qtm_lsh, qtm_lcmp, qtm_i2l, qtm_l2i, qtm_if, qtm_cmp, qtm_getf, qtm_puti, qtm_putz, qtm_putl, qtm_iald, qtm_iast, qtm_zald, qtm_zast, qtm_aald, qtm_tsw, qtm_callV, qtm_callS, qtm_acp, qtm_alen, qtm_max, qtm_min, qtm_dup, qtm_pop, qtm_iret, qtm_zret, qtm_lret, qtm_aret, qtm_vret, qtm_swn, qtm_swc, am_oi_c, am_ol_c, am_or_r, am_or_f, am_pi_c, am_pj_c, am_pr_c, am_pa_r, am_pa_f, am_yo_c, am_ya_c, am_fv_i, am_fv_l, am_fv_r, am_fi_c, am_fl_c, am_rv_c, am_n2_s, am_n2_n, am_pv_0, am_pv_s, am_cs_n, am_cs_c, Value.category, List.getElem?_cons_zero, List.getElem?_cons_succ, List.set_cons_zero, List.set_cons_succ, List.length_cons, List.length_nil, List.drop_succ_cons, List.drop_zero, List.take_succ_cons, List.take_zero, List.take_nil, List.reverse_cons, List.reverse_nil, List.nil_append, List.cons_append, List.append_nil, true_and, and_true, Int.reduceAdd, am_o0, am_o1, am_o2, am_o3, am_o4, am_o5, am_o6, am_o7, am_o8, am_o9, am_o10, am_o11, am_o12, am_o13, am_o14, am_o15, am_o16, am_o17, am_o18, am_o19, am_o20, am_o21, am_o22, am_o23, am_o24, am_o25, am_o26, am_o27, Nat.reduceAdd, Nat.reduceLeDiff, Nat.reduceLT, Nat.zero_le]
      have e62 : (62 : Int32).toNatClampNeg = 62 := rfl
      have e63 : (63 : Int32).toNatClampNeg = 63 := rfl
      simp only [e62, e63]
      refine ⟨fun _ => ⟨am_vin (by decide), am_vin (by decide), hK _ (fun a ha => by rw [am_up_ne a ha, am_up_ne a ha]; exact hh a ha) ?_⟩, fun z => absurd (by decide) z⟩
      refine am_RM.cong hR (fun k hk => ?_) (fun k hk => ?_) (fun k hk => ?_)
      · simp only [am_wb, am_up, if_true]
        rw [if_neg (show ¬ k = 63 by omega), if_neg (show ¬ k = 62 by omega)]
        exact h1 k hk
      · simp only [am_wb, am_up, if_true, show ¬ (56 : Nat) = 57 by decide, if_false]
        rw [if_neg (show ¬ 30 + k = 63 by omega), if_neg (show ¬ 30 + k = 62 by omega)]
        exact h2 k hk
      · rcases hk with rfl | rfl | rfl | rfl <;> simp [am_wb, am_up, hh 49 (by decide)])
    (fun i hi ih h' hh h1 h2 => by
      refine sd_X6_laysAside_28 F hr _ _ _ _ ?_
      simp only [te_X6_laysAside_28, te_X6_laysAside_55, te_X6_laysAside_34, m0, m7, m10, mc_0, mc_1, mc_2, mc_3, mc_4, mc_5, mc_6, mc_7, mc_8, mc_9, mc_10, mc_11, mc_12, mc_13, mc_14, mc_15, mc_16, mc_17, mc_18, mc_19, mc_20, mc_21, mc_22, mc_23, mc_24, mc_25, mc_26, mc_27, mc_28, mc_29, mc_30, mc_31, mc_32, mc_33, mc_34, mc_35, mc_36, mc_37, mc_38, mc_39, mc_40, mc_41, mc_42, mc_43, mc_44, mc_45, am_up_ap, reduceIte, Nat.reduceEqDiff, Nat.add_eq_left, Nat.left_eq_add, Nat.add_left_cancel_iff, am_t0, am_t1, am_t2, am_t3, am_t4, am_t5, am_t6, am_t7, am_t8, am_t9, am_t10, am_t11, hh 49 (by decide), hh 56 (by decide), nI_clamp (show i < 2 ^ 31 by omega), nI_1, qtm_push, qtm_iload, qtm_lload, qtm_aload, qtm_istore, qtm_lstore, qtm_astore, qtm_iinc, qtm_un, qtm_bin, qtm_div, qtm_lbin, qtm_ldiv, qtm_lsh, qtm_lcmp, qtm_i2l, qtm_l2i, qtm_if, qtm_cmp, qtm_getf, qtm_puti, qtm_putz, qtm_putl, qtm_iald, qtm_iast, qtm_zald, qtm_zast, qtm_aald, qtm_tsw, qtm_callV, qtm_callS, qtm_acp, qtm_alen, qtm_max, qtm_min, qtm_dup, qtm_pop, qtm_iret, qtm_zret, qtm_lret, qtm_aret, qtm_vret, qtm_swn, qtm_swc, am_oi_c, am_ol_c, am_or_r, am_or_f, am_pi_c, am_pj_c, am_pr_c, am_pa_r, am_pa_f, am_yo_c, am_ya_c, am_fv_i, am_fv_l, am_fv_r, am_fi_c, am_fl_c, am_rv_c, am_n2_s, am_n2_n, am_pv_0, am_pv_s, am_cs_n, am_cs_c, Value.category, List.getElem?_cons_zero, List.getElem?_cons_succ, List.set_cons_zero, List.set_cons_succ, List.length_cons, List.length_nil, List.drop_succ_cons, List.drop_zero, List.take_succ_cons, List.take_zero, List.take_nil, List.reverse_cons, List.reverse_nil, List.nil_append, List.cons_append, List.append_nil, true_and, and_true, Int.reduceAdd, am_o0, am_o1, am_o2, am_o3, am_o4, am_o5, am_o6, am_o7, am_o8, am_o9, am_o10, am_o11, am_o12, am_o13, am_o14, am_o15, am_o16, am_o17, am_o18, am_o19, am_o20, am_o21, am_o22, am_o23, am_o24, am_o25, am_o26, am_o27, Nat.reduceAdd, Nat.reduceLeDiff, Nat.reduceLT, Nat.zero_le]
      have e30 : (30 : Int32) + nI i = nI (30 + i) := nI_add 30 i
      rw [e30, nI_clamp (show 30 + i < 2 ^ 31 by omega)]
      refine ⟨fun z => absurd ((nI_leI (a := 32) (by omega) (by omega)).mp z) (by omega), fun _ => ⟨vp_in_nI hi (by decide), vp_in_nI (by omega) (by decide), ih _ (fun a ha => (am_up_ne a ha).trans (hh a ha)) (fun k hk => ?_) (fun k hk => ?_)⟩⟩
      · rw [am_up_ap, if_pos rfl, if_neg (by omega)]
        exact h1 k hk
      · rw [am_up_ap, if_pos rfl]
        by_cases hki : k = i
        · subst hki
          rw [if_pos rfl]
        · rw [if_neg (by omega)]
          exact h2 k (by omega))
  have l1 := am_for (P := fun i => ∀ h' : am_H, (∀ a, a ≠ 59 → h' a = h a) → (∀ k, k < i → h' 59 k = h 57 k) → am_At X (am_MQ X K 0 0) 2 0 0 2 [.ref 49, .int (nI i)] [] Y h') 30
    (fun h' hh h1 => by
      refine sd_X6_laysAside_2 F hr _ _ _ _ ?_
      simp only [te_X6_laysAside_2, te_X6_laysAside_8, te_X6_laysAside_26, qtm_push, qtm_iload, qtm_lload, qtm_aload, qtm_istore, qtm_lstore, qtm_astore, qtm_iinc, qtm_un, qtm_bin, qtm_div, qtm_lbin, qtm_ldiv, qtm_lsh, qtm_lcmp, qtm_i2l, qtm_l2i, qtm_if, qtm_cmp, qtm_getf, qtm_puti, qtm_putz, qtm_putl, qtm_iald, qtm_iast, qtm_zald, qtm_zast, qtm_aald, qtm_tsw, qtm_callV, qtm_callS, qtm_acp, qtm_alen, qtm_max, qtm_min, qtm_dup, qtm_pop, qtm_iret, qtm_zret, qtm_lret, qtm_aret, qtm_vret, qtm_swn, qtm_swc, am_oi_c, am_ol_c, am_or_r, am_or_f, am_pi_c, am_pj_c, am_pr_c, am_pa_r, am_pa_f, am_yo_c, am_ya_c, am_fv_i, am_fv_l, am_fv_r, am_fi_c, am_fl_c, am_rv_c, am_n2_s, am_n2_n, am_pv_0, am_pv_s, am_cs_n, am_cs_c, Value.category, List.getElem?_cons_zero, List.getElem?_cons_succ, List.set_cons_zero, List.set_cons_succ, List.length_cons, List.length_nil, List.drop_succ_cons, List.drop_zero, List.take_succ_cons, List.take_zero, List.take_nil, List.reverse_cons, List.reverse_nil, List.nil_append, List.cons_append, List.append_nil, true_and, and_true, Int.reduceAdd, am_o0, am_o1, am_o2, am_o3, am_o4, am_o5, am_o6, am_o7, am_o8, am_o9, am_o10, am_o11, am_o12, am_o13, am_o14, am_o15, am_o16, am_o17, am_o18, am_o19, am_o20, am_o21, am_o22, am_o23, am_o24, am_o25, am_o26, am_o27, Nat.reduceAdd, Nat.reduceLeDiff, Nat.reduceLT, Nat.zero_le]
      exact ⟨fun _ => l2 0 (by decide) h' hh h1 (fun k hk => absurd hk (by omega)), fun z => absurd (by decide) z⟩)
    (fun i hi ih h' hh h1 => by
      refine sd_X6_laysAside_2 F hr _ _ _ _ ?_
      simp only [te_X6_laysAside_2, te_X6_laysAside_8, te_X6_laysAside_26, m0, m8, m10, mc_0, mc_1, mc_2, mc_3, mc_4, mc_5, mc_6, mc_7, mc_8, mc_9, mc_10, mc_11, mc_12, mc_13, mc_14, mc_15, mc_16, mc_17, mc_18, mc_19, mc_20, mc_21, mc_22, mc_23, mc_24, mc_25, mc_26, mc_27, mc_28, mc_29, mc_30, mc_31, mc_32, mc_33, mc_34, mc_35, mc_36, mc_37, mc_38, mc_39, mc_40, mc_41, mc_42, mc_43, mc_44, mc_45, am_up_ap, reduceIte, Nat.reduceEqDiff, Nat.add_eq_left, Nat.left_eq_add, Nat.add_left_cancel_iff, am_t0, am_t1, am_t2, am_t3, am_t4, am_t5, am_t6, am_t7, am_t8, am_t9, am_t10, am_t11, hh 49 (by decide), hh 57 (by decide), nI_clamp (show i < 2 ^ 31 by omega), nI_1, qtm_push, qtm_iload, qtm_lload, qtm_aload, qtm_istore, qtm_lstore, qtm_astore, qtm_iinc, qtm_un, qtm_bin, qtm_div, qtm_lbin, qtm_ldiv, qtm_lsh, qtm_lcmp, qtm_i2l, qtm_l2i, qtm_if, qtm_cmp, qtm_getf, qtm_puti, qtm_putz, qtm_putl, qtm_iald, qtm_iast, qtm_zald, qtm_zast, qtm_aald, qtm_tsw, qtm_callV, qtm_callS, qtm_acp, qtm_alen, qtm_max, qtm_min, qtm_dup, qtm_pop, qtm_iret, qtm_zret, qtm_lret, qtm_aret, qtm_vret, qtm_swn, qtm_swc, am_oi_c, am_ol_c, am_or_r, am_or_f, am_pi_c, am_pj_c, am_pr_c, am_pa_r, am_pa_f, am_yo_c, am_ya_c, am_fv_i, am_fv_l, am_fv_r, am_fi_c, am_fl_c, am_rv_c, am_n2_s, am_n2_n, am_pv_0, am_pv_s, am_cs_n, am_cs_c, Value.category, List.getElem?_cons_zero, List.getElem?_cons_succ, List.set_cons_zero, List.set_cons_succ, List.length_cons, List.length_nil, List.drop_succ_cons, List.drop_zero, List.take_succ_cons, List.take_zero, List.take_nil, List.reverse_cons, List.reverse_nil, List.nil_append, List.cons_append, List.append_nil, true_and, and_true, Int.reduceAdd, am_o0, am_o1, am_o2, am_o3, am_o4, am_o5, am_o6, am_o7, am_o8, am_o9, am_o10, am_o11, am_o12, am_o13, am_o14, am_o15, am_o16, am_o17, am_o18, am_o19, am_o20, am_o21, am_o22, am_o23, am_o24, am_o25, am_o26, am_o27, Nat.reduceAdd, Nat.reduceLeDiff, Nat.reduceLT, Nat.zero_le]
      refine ⟨fun z => absurd ((nI_leI (a := 30) (by omega) (by omega)).mp z) (by omega), fun _ => ⟨vp_in_nI hi (by decide), vp_in_nI (by omega) (by decide), ih _ (fun a ha => (am_up_ne a ha).trans (hh a ha)) (fun k hk => ?_)⟩⟩
      rw [am_up_ap, if_pos rfl]
      by_cases hki : k = i
      · subst hki
        rw [if_pos rfl]
      · rw [if_neg (by omega)]
        exact h1 k (by omega))
  simp only [te_X6_laysAside_0, qtm_push, qtm_iload, qtm_lload, qtm_aload, qtm_istore, qtm_lstore, qtm_astore, qtm_iinc, qtm_un, qtm_bin, qtm_div, qtm_lbin, qtm_ldiv, qtm_lsh, qtm_lcmp, qtm_i2l, qtm_l2i, qtm_if, qtm_cmp, qtm_getf, qtm_puti, qtm_putz, qtm_putl, qtm_iald, qtm_iast, qtm_zald, qtm_zast, qtm_aald, qtm_tsw, qtm_callV, qtm_callS, qtm_acp, qtm_alen, qtm_max, qtm_min, qtm_dup, qtm_pop, qtm_iret, qtm_zret, qtm_lret, qtm_aret, qtm_vret, qtm_swn, qtm_swc, am_oi_c, am_ol_c, am_or_r, am_or_f, am_pi_c, am_pj_c, am_pr_c, am_pa_r, am_pa_f, am_yo_c, am_ya_c, am_fv_i, am_fv_l, am_fv_r, am_fi_c, am_fl_c, am_rv_c, am_n2_s, am_n2_n, am_pv_0, am_pv_s, am_cs_n, am_cs_c, Value.category, List.getElem?_cons_zero, List.getElem?_cons_succ, List.set_cons_zero, List.set_cons_succ, List.length_cons, List.length_nil, List.drop_succ_cons, List.drop_zero, List.take_succ_cons, List.take_zero, List.take_nil, List.reverse_cons, List.reverse_nil, List.nil_append, List.cons_append, List.append_nil, true_and, and_true, Int.reduceAdd, am_o0, am_o1, am_o2, am_o3, am_o4, am_o5, am_o6, am_o7, am_o8, am_o9, am_o10, am_o11, am_o12, am_o13, am_o14, am_o15, am_o16, am_o17, am_o18, am_o19, am_o20, am_o21, am_o22, am_o23, am_o24, am_o25, am_o26, am_o27, Nat.reduceAdd, Nat.reduceLeDiff, Nat.reduceLT, Nat.zero_le]
  exact l1 0 (by decide) h (fun _ _ => rfl) (fun k hk => absurd hk (by omega))
set_option maxHeartbeats 4000000 in
set_option maxRecDepth 100000 in
theorem c_X6_laysBack (hm : am_mod Y) (hR : am_WA h w) (hK : ∀ h1, am_q3 h h1 → am_RM h1 w → K [] Y h1) : am_Met d 0 0 YX6_laysBack [.ref 49] Y h K := by
  refine en_X6_laysBack fun X F hr => ?_
  obtain ⟨m0, m1, m2, m3, m4, m5, m6, m7, m8, m9, m10, m11, m12, m13, m14, m15, m16, m17⟩ := hm
  have l2 := am_for (P := fun i => ∀ h' : am_H, (∀ a, a ≠ 57 → a ≠ 56 → h' a = h a) → (∀ k, k < 30 → h' 57 k = h 59 k) → (∀ k, k < i → h' 56 k = h 59 (30 + k)) → am_At X (am_MQ X K 0 0) 2 0 0 28 [.ref 49, .int (nI i)] [] Y h') 32
    (fun h' hh h1 h2 => by
      refine sd_X6_laysBack_28 F hr _ _ _ _ ?_
      simp only [te_X6_laysBack_28, te_X6_laysBack_55, te_X6_laysBack_34, m0, m10, mc_0, mc_1, mc_2, mc_3, mc_4, mc_5, mc_6, mc_7, mc_8, mc_9, mc_10, mc_11, mc_12, mc_13, mc_14, mc_15, mc_16, mc_17, mc_18, mc_19, mc_20, mc_21, mc_22, mc_23, mc_24, mc_25, mc_26, mc_27, mc_28, mc_29, mc_30, mc_31, mc_32, mc_33, mc_34, mc_35, mc_36, mc_37, mc_38, mc_39, mc_40, mc_41, mc_42, mc_43, mc_44, mc_45, am_up_ap, reduceIte, Nat.reduceEqDiff, Nat.add_eq_left, Nat.left_eq_add, Nat.add_left_cancel_iff, am_t0, am_t1, am_t2, am_t3, am_t4, am_t5, am_t6, am_t7, am_t8, am_t9, am_t10, am_t11, hh 49 (by decide) (by decide), hh 59 (by decide) (by decide), qtm_push, qtm_iload, qtm_lload, qtm_aload, qtm_istore, qtm_lstore, qtm_astore, qtm_iinc, qtm_un, qtm_bin, qtm_div, qtm_lbin, qtm_ldiv, qtm_lsh, qtm_lcmp, qtm_i2l, qtm_l2i, qtm_if, qtm_cmp, qtm_getf, qtm_puti, qtm_putz, qtm_putl, qtm_iald, qtm_iast, qtm_zald, qtm_zast, qtm_aald, qtm_tsw, qtm_callV, qtm_callS, qtm_acp, qtm_alen, qtm_max, qtm_min, qtm_dup, qtm_pop, qtm_iret, qtm_zret, qtm_lret, qtm_aret, qtm_vret, qtm_swn, qtm_swc, am_oi_c, am_ol_c, am_or_r, am_or_f, am_pi_c, am_pj_c, am_pr_c, am_pa_r, am_pa_f, am_yo_c, am_ya_c, am_fv_i, am_fv_l, am_fv_r, am_fi_c, am_fl_c, am_rv_c, am_n2_s, am_n2_n, am_pv_0, am_pv_s, am_cs_n, am_cs_c, Value.category, List.getElem?_cons_zero, List.getElem?_cons_succ, List.set_cons_zero, List.set_cons_succ, List.length_cons, List.length_nil, List.drop_succ_cons, List.drop_zero, List.take_succ_cons, List.take_zero, List.take_nil, List.reverse_cons, List.reverse_nil, List.nil_append, List.cons_append, List.append_nil, true_and, and_true, Int.reduceAdd, am_o0, am_o1, am_o2, am_o3, am_o4, am_o5, am_o6, am_o7, am_o8, am_o9, am_o10, am_o11, am_o12, am_o13, am_o14, am_o15, am_o16, am_o17, am_o18, am_o19, am_o20, am_o21, am_o22, am_o23, am_o24, am_o25, am_o26, am_o27, Nat.reduceAdd, Nat.reduceLeDiff, Nat.reduceLT, Nat.zero_le]
      have e62 : (62 : Int32).toNatClampNeg = 62 := rfl
      have e63 : (63 : Int32).toNatClampNeg = 63 := rfl
      simp only [e62, e63]
      refine ⟨fun _ => ⟨am_vin (by decide), am_vin (by decide), hK _ ⟨fun a g1 g2 => ?_, fun k g1 g2 g3 => ?_⟩ ?_⟩, fun z => absurd (by decide) z⟩
      · rw [am_up_ne a g2, am_up_ne a g2]; exact hh a (by omega) (by omega)
      · rw [am_up_ap, if_pos rfl, if_neg g2, am_up_ap, if_pos rfl, if_neg g1, hh 49 (by decide) (by decide)]
      · refine am_RM.cong hR (fun k hk => ?_) (fun k hk => ?_) (fun k hk => ?_)
        · simp [am_wb, am_up, h1 k hk]
        · simp [am_wb, am_up, h2 k hk]
        · rcases hk with rfl | rfl | rfl | rfl <;> simp [am_wb, am_up, hh 49 (by decide) (by decide)])
    (fun i hi ih h' hh h1 h2 => by
      have e30 : (30 : Int32) + nI i = nI (30 + i) := nI_add 30 i
      refine sd_X6_laysBack_28 F hr _ _ _ _ ?_
      simp only [te_X6_laysBack_28, te_X6_laysBack_55, te_X6_laysBack_34, m0, m7, m10, mc_0, mc_1, mc_2, mc_3, mc_4, mc_5, mc_6, mc_7, mc_8, mc_9, mc_10, mc_11, mc_12, mc_13, mc_14, mc_15, mc_16, mc_17, mc_18, mc_19, mc_20, mc_21, mc_22, mc_23, mc_24, mc_25, mc_26, mc_27, mc_28, mc_29, mc_30, mc_31, mc_32, mc_33, mc_34, mc_35, mc_36, mc_37, mc_38, mc_39, mc_40, mc_41, mc_42, mc_43, mc_44, mc_45, am_up_ap, reduceIte, Nat.reduceEqDiff, Nat.add_eq_left, Nat.left_eq_add, Nat.add_left_cancel_iff, am_t0, am_t1, am_t2, am_t3, am_t4, am_t5, am_t6, am_t7, am_t8, am_t9, am_t10, am_t11, hh 49 (by decide) (by decide), hh 59 (by decide) (by decide), nI_clamp (show i < 2 ^ 31 by omega), nI_1, e30, nI_clamp (show 30 + i < 2 ^ 31 by omega), qtm_push, qtm_iload, qtm_lload, qtm_aload, qtm_istore, qtm_lstore, qtm_astore, qtm_iinc, qtm_un, qtm_bin, qtm_div, qtm_lbin, qtm_ldiv, qtm_lsh, qtm_lcmp, qtm_i2l, qtm_l2i, qtm_if, qtm_cmp, qtm_getf, qtm_puti, qtm_putz, qtm_putl, qtm_iald, qtm_iast, qtm_zald, qtm_zast, qtm_aald, qtm_tsw, qtm_callV, qtm_callS, qtm_acp, qtm_alen, qtm_max, qtm_min, qtm_dup, qtm_pop, qtm_iret, qtm_zret, qtm_lret, qtm_aret, qtm_vret, qtm_swn, qtm_swc, am_oi_c, am_ol_c, am_or_r, am_or_f, am_pi_c, am_pj_c, am_pr_c, am_pa_r, am_pa_f, am_yo_c, am_ya_c, am_fv_i, am_fv_l, am_fv_r, am_fi_c, am_fl_c, am_rv_c, am_n2_s, am_n2_n, am_pv_0, am_pv_s, am_cs_n, am_cs_c, Value.category, List.getElem?_cons_zero, List.getElem?_cons_succ, List.set_cons_zero, List.set_cons_succ, List.length_cons, List.length_nil, List.drop_succ_cons, List.drop_zero, List.take_succ_cons, List.take_zero, List.take_nil, List.reverse_cons, List.reverse_nil, List.nil_append, List.cons_append, List.append_nil, true_and, and_true, Int.reduceAdd, am_o0, am_o1, am_o2, am_o3, am_o4, am_o5, am_o6, am_o7, am_o8, am_o9, am_o10, am_o11, am_o12, am_o13, am_o14, am_o15, am_o16, am_o17, am_o18, am_o19, am_o20, am_o21, am_o22, am_o23, am_o24, am_o25, am_o26, am_o27, Nat.reduceAdd, Nat.reduceLeDiff, Nat.reduceLT, Nat.zero_le]
      refine ⟨fun z => absurd ((nI_leI (a := 32) (by omega) (by omega)).mp z) (by omega), fun _ => ⟨vp_in_nI (by omega) (by decide), vp_in_nI (by omega) (by decide), ih _ (fun a g1 g2 => (am_up_ne a g2).trans (hh a g1 g2)) (fun k hk => ?_) (fun k hk => ?_)⟩⟩
      · rw [am_up_ne 57 (by decide)]
        exact h1 k hk
      · rw [am_up_ap, if_pos rfl]
        by_cases hki : k = i
        · subst hki
          rw [if_pos rfl]
        · rw [if_neg (by omega)]
          exact h2 k (by omega))
  have l1 := am_for (P := fun i => ∀ h' : am_H, (∀ a, a ≠ 57 → h' a = h a) → (∀ k, k < i → h' 57 k = h 59 k) → am_At X (am_MQ X K 0 0) 2 0 0 2 [.ref 49, .int (nI i)] [] Y h') 30
    (fun h' hh h1 => by
      refine sd_X6_laysBack_2 F hr _ _ _ _ ?_
      simp only [te_X6_laysBack_2, te_X6_laysBack_8, te_X6_laysBack_26, qtm_push, qtm_iload, qtm_lload, qtm_aload, qtm_istore, qtm_lstore, qtm_astore, qtm_iinc, qtm_un, qtm_bin, qtm_div, qtm_lbin, qtm_ldiv, qtm_lsh, qtm_lcmp, qtm_i2l, qtm_l2i, qtm_if, qtm_cmp, qtm_getf, qtm_puti, qtm_putz, qtm_putl, qtm_iald, qtm_iast, qtm_zald, qtm_zast, qtm_aald, qtm_tsw, qtm_callV, qtm_callS, qtm_acp, qtm_alen, qtm_max, qtm_min, qtm_dup, qtm_pop, qtm_iret, qtm_zret, qtm_lret, qtm_aret, qtm_vret, qtm_swn, qtm_swc, am_oi_c, am_ol_c, am_or_r, am_or_f, am_pi_c, am_pj_c, am_pr_c, am_pa_r, am_pa_f, am_yo_c, am_ya_c, am_fv_i, am_fv_l, am_fv_r, am_fi_c, am_fl_c, am_rv_c, am_n2_s, am_n2_n, am_pv_0, am_pv_s, am_cs_n, am_cs_c, Value.category, List.getElem?_cons_zero, List.getElem?_cons_succ, List.set_cons_zero, List.set_cons_succ, List.length_cons, List.length_nil, List.drop_succ_cons, List.drop_zero, List.take_succ_cons, List.take_zero, List.take_nil, List.reverse_cons, List.reverse_nil, List.nil_append, List.cons_append, List.append_nil, true_and, and_true, Int.reduceAdd, am_o0, am_o1, am_o2, am_o3, am_o4, am_o5, am_o6, am_o7, am_o8, am_o9, am_o10, am_o11, am_o12, am_o13, am_o14, am_o15, am_o16, am_o17, am_o18, am_o19, am_o20, am_o21, am_o22, am_o23, am_o24, am_o25, am_o26, am_o27, Nat.reduceAdd, Nat.reduceLeDiff, Nat.reduceLT, Nat.zero_le]
      exact ⟨fun _ => l2 0 (by decide) h' (fun a g1 _ => hh a g1) h1 (fun k hk => absurd hk (by omega)), fun z => absurd (by decide) z⟩)
    (fun i hi ih h' hh h1 => by
      refine sd_X6_laysBack_2 F hr _ _ _ _ ?_
      simp only [te_X6_laysBack_2, te_X6_laysBack_8, te_X6_laysBack_26, m0, m8, m10, mc_0, mc_1, mc_2, mc_3, mc_4, mc_5, mc_6, mc_7, mc_8, mc_9, mc_10, mc_11, mc_12, mc_13, mc_14, mc_15, mc_16, mc_17, mc_18, mc_19, mc_20, mc_21, mc_22, mc_23, mc_24, mc_25, mc_26, mc_27, mc_28, mc_29, mc_30, mc_31, mc_32, mc_33, mc_34, mc_35, mc_36, mc_37, mc_38, mc_39, mc_40, mc_41, mc_42, mc_43, mc_44, mc_45, am_up_ap, reduceIte, Nat.reduceEqDiff, Nat.add_eq_left, Nat.left_eq_add, Nat.add_left_cancel_iff, am_t0, am_t1, am_t2, am_t3, am_t4, am_t5, am_t6, am_t7, am_t8, am_t9, am_t10, am_t11, hh 49 (by decide), hh 59 (by decide), nI_clamp (show i < 2 ^ 31 by omega), nI_1, qtm_push, qtm_iload, qtm_lload, qtm_aload, qtm_istore, qtm_lstore, qtm_astore, qtm_iinc, qtm_un, qtm_bin, qtm_div, qtm_lbin, qtm_ldiv, qtm_lsh, qtm_lcmp, qtm_i2l, qtm_l2i, qtm_if, qtm_cmp, qtm_getf, qtm_puti, qtm_putz, qtm_putl, qtm_iald, qtm_iast, qtm_zald, qtm_zast, qtm_aald, qtm_tsw, qtm_callV, qtm_callS, qtm_acp, qtm_alen, qtm_max, qtm_min, qtm_dup, qtm_pop, qtm_iret, qtm_zret, qtm_lret, qtm_aret, qtm_vret, qtm_swn, qtm_swc, am_oi_c, am_ol_c, am_or_r, am_or_f, am_pi_c, am_pj_c, am_pr_c, am_pa_r, am_pa_f, am_yo_c, am_ya_c, am_fv_i, am_fv_l, am_fv_r, am_fi_c, am_fl_c, am_rv_c, am_n2_s, am_n2_n, am_pv_0, am_pv_s, am_cs_n, am_cs_c, Value.category, List.getElem?_cons_zero, List.getElem?_cons_succ, List.set_cons_zero, List.set_cons_succ, List.length_cons, List.length_nil, List.drop_succ_cons, List.drop_zero, List.take_succ_cons, List.take_zero, List.take_nil, List.reverse_cons, List.reverse_nil, List.nil_append, List.cons_append, List.append_nil, true_and, and_true, Int.reduceAdd, am_o0, am_o1, am_o2, am_o3, am_o4, am_o5, am_o6, am_o7, am_o8, am_o9, am_o10, am_o11, am_o12, am_o13, am_o14, am_o15, am_o16, am_o17, am_o18, am_o19, am_o20, am_o21, am_o22, am_o23, am_o24, am_o25, am_o26, am_o27, Nat.reduceAdd, Nat.reduceLeDiff, Nat.reduceLT, Nat.zero_le]
      refine ⟨fun z => absurd ((nI_leI (a := 30) (by omega) (by omega)).mp z) (by omega), fun _ => ⟨vp_in_nI (by omega) (by decide), vp_in_nI (by omega) (by decide), ih _ (fun a ha => (am_up_ne a ha).trans (hh a ha)) (fun k hk => ?_)⟩⟩
      rw [am_up_ap, if_pos rfl]
      by_cases hki : k = i
      · subst hki
        rw [if_pos rfl]
      · rw [if_neg (by omega)]
        exact h1 k (by omega))
  simp only [te_X6_laysBack_0, qtm_push, qtm_iload, qtm_lload, qtm_aload, qtm_istore, qtm_lstore, qtm_astore, qtm_iinc, qtm_un, qtm_bin, qtm_div, qtm_lbin, qtm_ldiv, qtm_lsh, qtm_lcmp, qtm_i2l, qtm_l2i, qtm_if, qtm_cmp, qtm_getf, qtm_puti, qtm_putz, qtm_putl, qtm_iald, qtm_iast, qtm_zald, qtm_zast, qtm_aald, qtm_tsw, qtm_callV, qtm_callS, qtm_acp, qtm_alen, qtm_max, qtm_min, qtm_dup, qtm_pop, qtm_iret, qtm_zret, qtm_lret, qtm_aret, qtm_vret, qtm_swn, qtm_swc, am_oi_c, am_ol_c, am_or_r, am_or_f, am_pi_c, am_pj_c, am_pr_c, am_pa_r, am_pa_f, am_yo_c, am_ya_c, am_fv_i, am_fv_l, am_fv_r, am_fi_c, am_fl_c, am_rv_c, am_n2_s, am_n2_n, am_pv_0, am_pv_s, am_cs_n, am_cs_c, Value.category, List.getElem?_cons_zero, List.getElem?_cons_succ, List.set_cons_zero, List.set_cons_succ, List.length_cons, List.length_nil, List.drop_succ_cons, List.drop_zero, List.take_succ_cons, List.take_zero, List.take_nil, List.reverse_cons, List.reverse_nil, List.nil_append, List.cons_append, List.append_nil, true_and, and_true, Int.reduceAdd, am_o0, am_o1, am_o2, am_o3, am_o4, am_o5, am_o6, am_o7, am_o8, am_o9, am_o10, am_o11, am_o12, am_o13, am_o14, am_o15, am_o16, am_o17, am_o18, am_o19, am_o20, am_o21, am_o22, am_o23, am_o24, am_o25, am_o26, am_o27, Nat.reduceAdd, Nat.reduceLeDiff, Nat.reduceLT, Nat.zero_le]
  exact l1 0 (by decide) h (fun _ _ => rfl) (fun k hk => absurd hk (by omega))
end CON
