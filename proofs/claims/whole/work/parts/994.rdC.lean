/-- the token that starts at s is looked at -/
def am_tk (h : am_H) (tp : Nat → Int32) (tz s : Nat) : Prop := h 35 5 = nI (sp_en tp tz s) ∧ h 35 6 = nI (sp_kd tp tz s) ∧ h 35 7 = nI s ∧ (sp_kd tp tz s = 2 ∨ sp_kd tp tz s = 3 → h 35 8 = nI (sp_vl tp tz s))
theorem sp_sk_le {tp : Nat → Int32} {tz p : Nat} (h : p ≤ tz) : p ≤ sp_sk tp tz p ∧ sp_sk tp tz p ≤ tz := sp_to_le h
theorem sp_kw_3 {k : Nat} (h : sp_kw k = 3) : k < 6 := by
  unfold sp_kw at h
  split at h
  · assumption
  · split at h
    · omega
    · exact absurd h (by decide)
theorem sp_kw_2 {k : Nat} (h : sp_kw k = 2) : False := by
  unfold sp_kw at h
  split at h
  · exact absurd h (by decide)
  · split at h
    · omega
    · exact absurd h (by decide)
section CON
variable {d : Nat} {Y : List am_C} {h : am_H} {tp : Nat → Int32} {tz : Nat} {K : List Value → List am_C → am_H → Prop}
set_option maxHeartbeats 4000000 in
set_option maxRecDepth 100000 in
theorem c_X0_lookAtNext {p : Nat} (hd : 8 ≤ d) (hO : am_own Y) (hf : am_rf h tp tz) (hp : p ≤ tz) (h5 : h 35 5 = nI p) (hK : ∀ h1, am_lk h h1 → am_tk h1 tp tz (sp_sk tp tz p) → K [] Y h1) : am_Met d 0 0 YX0_lookAtNext [.ref 35] Y h K := by
  refine en_X0_lookAtNext fun X F hr => ?_
  obtain ⟨o0, o1, o2, o3, o35, o36, o37, o38, o39, o40, o41⟩ := id hO
  obtain ⟨h3, htz, ht⟩ := id hf
  have fin : ∀ (i : Nat) (h' : am_H), i ≤ tz → am_lk h h' → h' 35 5 = nI i → sp_sk tp tz p = i → am_At X (am_MQ X K 0 0) 1 0 0 52 [.ref 35] [] Y h' := by
    intro i h' i1 g1 g2 g3
    subst g3
    have hf' := hf.lk g1
    have g7 := g1.up 7 (nI (sp_sk tp tz p)) (by decide)
    have hf7 := hf.lk g7
    have e7 : ∀ k, k ≠ 7 → am_up h' 35 7 (nI (sp_sk tp tz p)) 35 k = h' 35 k := fun k hk => by rw [am_up_ap, if_pos rfl, if_neg hk]
    have e77 : am_up h' 35 7 (nI (sp_sk tp tz p)) 35 7 = nI (sp_sk tp tz p) := by rw [am_up_ap, if_pos rfl, if_pos rfl]
    have ltI : (nI (sp_sk tp tz p) < nI tz) ↔ sp_sk tp tz p < tz := nI_ltI (by omega) (by omega)
    have hs := (sp_sk_le (tp := tp) hp).2
    refine sd_X0_lookAtNext_52 F hr _ _ _ _ ?_
    simp only [te_X0_lookAtNext_52, te_X0_lookAtNext_79, te_X0_lookAtNext_94, te_X0_lookAtNext_165, te_X0_lookAtNext_101, te_X0_lookAtNext_123, te_X0_lookAtNext_151, te_X0_lookAtNext_152, te_X0_lookAtNext_139, te_X0_lookAtNext_116, te_X0_lookAtNext_71, o35, o36, g2, Int32.reduceLT, Int32.reduceLE, eq_self, am_10, am_00, am_01, am_11, true_implies, false_implies, not_true_eq_false, not_false_eq_true, or_true, true_or, and_self, implies_true, qtm_push, qtm_iload, qtm_lload, qtm_aload, qtm_istore, qtm_lstore, qtm_astore, qtm_iinc, qtm_un, qtm_bin, qtm_div, qtm_lbin, qtm_ldiv, qtm_lsh, qtm_lcmp, qtm_i2l, qtm_l2i, qtm_if, qtm_cmp, qtm_getf, qtm_puti, qtm_putz, qtm_putl, qtm_iald, qtm_iast, qtm_zald, qtm_zast, qtm_aald, qtm_tsw, qtm_callV, qtm_callS, qtm_acp, qtm_alen, qtm_max, qtm_min, qtm_dup, qtm_pop, qtm_iret, qtm_zret, qtm_lret, qtm_aret, qtm_vret, qtm_swn, qtm_swc, am_oi_c, am_ol_c, am_or_r, am_or_f, am_pi_c, am_pj_c, am_pr_c, am_pa_r, am_pa_f, am_yo_c, am_ya_c, am_fv_i, am_fv_l, am_fv_r, am_fi_c, am_fl_c, am_rv_c, am_n2_s, am_n2_n, am_pv_0, am_pv_s, am_cs_n, am_cs_c, Value.category, List.getElem?_cons_zero, List.getElem?_cons_succ, List.set_cons_zero, List.set_cons_succ, List.length_cons, List.length_nil, List.drop_succ_cons, List.drop_zero, List.take_succ_cons, List.take_zero, List.take_nil, List.reverse_cons, List.reverse_nil, List.nil_append, List.cons_append, List.append_nil, true_and, and_true, Int.reduceAdd, am_o0, am_o1, am_o2, am_o3, am_o4, am_o5, am_o6, am_o7, am_o8, am_o9, am_o10, am_o11, am_o12, am_o13, am_o14, am_o15, am_o16, am_o17, am_o18, am_o19, am_o20, am_o21, am_o22, am_o23, am_o24, am_o25, am_o26, am_o27, Nat.reduceAdd, Nat.reduceLeDiff, Nat.reduceLT, Nat.zero_le, qtm_slen, qtm_sch, am_pf_c]
    have q5 : am_up h' 35 7 (nI (sp_sk tp tz p)) 35 5 = nI (sp_sk tp tz p) := (e7 5 (by decide)).trans g2
    generalize am_up h' 35 7 (nI (sp_sk tp tz p)) = h7 at g7 hf7 e77 q5 ⊢
    generalize sp_sk tp tz p = s at *
    have q3 := hf7.1
    rw [q5, q3, ltI, nI_clamp (show s < 2 ^ 31 by omega)]
    refine ⟨fun z => ⟨vp_in_nI (by omega) (by decide), by omega, ?_⟩, fun z => ?_⟩
    · rw [hf7.2.2 s z]
      have en : sp_en tp tz s = if sp_D (tp s) = true then sp_ne tp tz s else if sp_S (tp s) = true then sp_we tp tz s else s + 1 := if_neg (by omega)
      have kd : sp_kd tp tz s = if sp_D (tp s) = true then (if sp_ne tp tz s - s ≤ 4 then 2 else 1) else if sp_S (tp s) = true then sp_kw (sp_wi tp s (sp_we tp tz s)) else if sp_Gn (tp s) = true then (tp s).toNatClampNeg else 1 := if_neg (by omega)
      refine c_X0_isDigit (fun q => ?_) (fun q => ?_)
      · simp only [o35, Int32.reduceLT, Int32.reduceLE, eq_self, am_10, am_00, am_01, am_11, true_implies, false_implies, not_true_eq_false, not_false_eq_true, or_true, true_or, and_self, implies_true, qtm_push, qtm_iload, qtm_lload, qtm_aload, qtm_istore, qtm_lstore, qtm_astore, qtm_iinc, qtm_un, qtm_bin, qtm_div, qtm_lbin, qtm_ldiv, qtm_lsh, qtm_lcmp, qtm_i2l, qtm_l2i, qtm_if, qtm_cmp, qtm_getf, qtm_puti, qtm_putz, qtm_putl, qtm_iald, qtm_iast, qtm_zald, qtm_zast, qtm_aald, qtm_tsw, qtm_callV, qtm_callS, qtm_acp, qtm_alen, qtm_max, qtm_min, qtm_dup, qtm_pop, qtm_iret, qtm_zret, qtm_lret, qtm_aret, qtm_vret, qtm_swn, qtm_swc, am_oi_c, am_ol_c, am_or_r, am_or_f, am_pi_c, am_pj_c, am_pr_c, am_pa_r, am_pa_f, am_yo_c, am_ya_c, am_fv_i, am_fv_l, am_fv_r, am_fi_c, am_fl_c, am_rv_c, am_n2_s, am_n2_n, am_pv_0, am_pv_s, am_cs_n, am_cs_c, Value.category, List.getElem?_cons_zero, List.getElem?_cons_succ, List.set_cons_zero, List.set_cons_succ, List.length_cons, List.length_nil, List.drop_succ_cons, List.drop_zero, List.take_succ_cons, List.take_zero, List.take_nil, List.reverse_cons, List.reverse_nil, List.nil_append, List.cons_append, List.append_nil, true_and, and_true, Int.reduceAdd, am_o0, am_o1, am_o2, am_o3, am_o4, am_o5, am_o6, am_o7, am_o8, am_o9, am_o10, am_o11, am_o12, am_o13, am_o14, am_o15, am_o16, am_o17, am_o18, am_o19, am_o20, am_o21, am_o22, am_o23, am_o24, am_o25, am_o26, am_o27, Nat.reduceAdd, Nat.reduceLeDiff, Nat.reduceLT, Nat.zero_le, qtm_slen, qtm_sch, am_pf_c]
        refine ⟨by omega, c_X0_lookAtNumber (s := s) (by omega) hO hf7 z q q5 e77 fun h1 k1 k2 k3 k4 k5 => ⟨rfl, hK h1 (g7.tr k1) ⟨?_, ?_, k4, fun _ => ?_⟩⟩⟩
        · rw [en, if_pos q]; exact k2
        · rw [kd, if_pos q]; exact k3
        · unfold sp_vl; rw [if_pos q]; exact k5
      · simp only [o35, o36, q5, nI_clamp (show s < 2 ^ 31 by omega), hf7.2.2 s z, Int32.reduceLT, Int32.reduceLE, eq_self, am_10, am_00, am_01, am_11, true_implies, false_implies, not_true_eq_false, not_false_eq_true, or_true, true_or, and_self, implies_true, qtm_push, qtm_iload, qtm_lload, qtm_aload, qtm_istore, qtm_lstore, qtm_astore, qtm_iinc, qtm_un, qtm_bin, qtm_div, qtm_lbin, qtm_ldiv, qtm_lsh, qtm_lcmp, qtm_i2l, qtm_l2i, qtm_if, qtm_cmp, qtm_getf, qtm_puti, qtm_putz, qtm_putl, qtm_iald, qtm_iast, qtm_zald, qtm_zast, qtm_aald, qtm_tsw, qtm_callV, qtm_callS, qtm_acp, qtm_alen, qtm_max, qtm_min, qtm_dup, qtm_pop, qtm_iret, qtm_zret, qtm_lret, qtm_aret, qtm_vret, qtm_swn, qtm_swc, am_oi_c, am_ol_c, am_or_r, am_or_f, am_pi_c, am_pj_c, am_pr_c, am_pa_r, am_pa_f, am_yo_c, am_ya_c, am_fv_i, am_fv_l, am_fv_r, am_fi_c, am_fl_c, am_rv_c, am_n2_s, am_n2_n, am_pv_0, am_pv_s, am_cs_n, am_cs_c, Value.category, List.getElem?_cons_zero, List.getElem?_cons_succ, List.set_cons_zero, List.set_cons_succ, List.length_cons, List.length_nil, List.drop_succ_cons, List.drop_zero, List.take_succ_cons, List.take_zero, List.take_nil, List.reverse_cons, List.reverse_nil, List.nil_append, List.cons_append, List.append_nil, true_and, and_true, Int.reduceAdd, am_o0, am_o1, am_o2, am_o3, am_o4, am_o5, am_o6, am_o7, am_o8, am_o9, am_o10, am_o11, am_o12, am_o13, am_o14, am_o15, am_o16, am_o17, am_o18, am_o19, am_o20, am_o21, am_o22, am_o23, am_o24, am_o25, am_o26, am_o27, Nat.reduceAdd, Nat.reduceLeDiff, Nat.reduceLT, Nat.zero_le, qtm_slen, qtm_sch, am_pf_c]
        rw [if_neg (by rw [q]; decide)] at en kd
        refine ⟨vp_in_nI (by omega) (by decide), by omega, c_X0_isSmall (fun q2 => ?_) (fun q2 => ?_)⟩
        · rw [if_pos q2] at en kd
          simp only [o35, Int32.reduceLT, Int32.reduceLE, eq_self, am_10, am_00, am_01, am_11, true_implies, false_implies, not_true_eq_false, not_false_eq_true, or_true, true_or, and_self, implies_true, qtm_push, qtm_iload, qtm_lload, qtm_aload, qtm_istore, qtm_lstore, qtm_astore, qtm_iinc, qtm_un, qtm_bin, qtm_div, qtm_lbin, qtm_ldiv, qtm_lsh, qtm_lcmp, qtm_i2l, qtm_l2i, qtm_if, qtm_cmp, qtm_getf, qtm_puti, qtm_putz, qtm_putl, qtm_iald, qtm_iast, qtm_zald, qtm_zast, qtm_aald, qtm_tsw, qtm_callV, qtm_callS, qtm_acp, qtm_alen, qtm_max, qtm_min, qtm_dup, qtm_pop, qtm_iret, qtm_zret, qtm_lret, qtm_aret, qtm_vret, qtm_swn, qtm_swc, am_oi_c, am_ol_c, am_or_r, am_or_f, am_pi_c, am_pj_c, am_pr_c, am_pa_r, am_pa_f, am_yo_c, am_ya_c, am_fv_i, am_fv_l, am_fv_r, am_fi_c, am_fl_c, am_rv_c, am_n2_s, am_n2_n, am_pv_0, am_pv_s, am_cs_n, am_cs_c, Value.category, List.getElem?_cons_zero, List.getElem?_cons_succ, List.set_cons_zero, List.set_cons_succ, List.length_cons, List.length_nil, List.drop_succ_cons, List.drop_zero, List.take_succ_cons, List.take_zero, List.take_nil, List.reverse_cons, List.reverse_nil, List.nil_append, List.cons_append, List.append_nil, true_and, and_true, Int.reduceAdd, am_o0, am_o1, am_o2, am_o3, am_o4, am_o5, am_o6, am_o7, am_o8, am_o9, am_o10, am_o11, am_o12, am_o13, am_o14, am_o15, am_o16, am_o17, am_o18, am_o19, am_o20, am_o21, am_o22, am_o23, am_o24, am_o25, am_o26, am_o27, Nat.reduceAdd, Nat.reduceLeDiff, Nat.reduceLT, Nat.zero_le, qtm_slen, qtm_sch, am_pf_c]
          refine ⟨by omega, c_X0_lookAtWord (s := s) (by omega) hO hf7 z q5 e77 fun h1 k1 k2 k3 k4 k5 => ⟨rfl, hK h1 (g7.tr k1) ⟨?_, ?_, k4, fun y => ?_⟩⟩⟩
          · rw [en]; exact k2
          · rw [kd]; exact k3
          · unfold sp_vl
            rw [if_neg (by rw [q]; decide)]
            refine k5 ?_
            rw [kd] at y
            rcases y with y | y
            · exact (sp_kw_2 y).elim
            · exact sp_kw_3 y
        · rw [if_neg (by rw [q2]; decide)] at en kd
          simp only [o35, o36, q5, nI_clamp (show s < 2 ^ 31 by omega), hf7.2.2 s z, Int32.reduceLT, Int32.reduceLE, eq_self, am_10, am_00, am_01, am_11, true_implies, false_implies, not_true_eq_false, not_false_eq_true, or_true, true_or, and_self, implies_true, qtm_push, qtm_iload, qtm_lload, qtm_aload, qtm_istore, qtm_lstore, qtm_astore, qtm_iinc, qtm_un, qtm_bin, qtm_div, qtm_lbin, qtm_ldiv, qtm_lsh, qtm_lcmp, qtm_i2l, qtm_l2i, qtm_if, qtm_cmp, qtm_getf, qtm_puti, qtm_putz, qtm_putl, qtm_iald, qtm_iast, qtm_zald, qtm_zast, qtm_aald, qtm_tsw, qtm_callV, qtm_callS, qtm_acp, qtm_alen, qtm_max, qtm_min, qtm_dup, qtm_pop, qtm_iret, qtm_zret, qtm_lret, qtm_aret, qtm_vret, qtm_swn, qtm_swc, am_oi_c, am_ol_c, am_or_r, am_or_f, am_pi_c, am_pj_c, am_pr_c, am_pa_r, am_pa_f, am_yo_c, am_ya_c, am_fv_i, am_fv_l, am_fv_r, am_fi_c, am_fl_c, am_rv_c, am_n2_s, am_n2_n, am_pv_0, am_pv_s, am_cs_n, am_cs_c, Value.category, List.getElem?_cons_zero, List.getElem?_cons_succ, List.set_cons_zero, List.set_cons_succ, List.length_cons, List.length_nil, List.drop_succ_cons, List.drop_zero, List.take_succ_cons, List.take_zero, List.take_nil, List.reverse_cons, List.reverse_nil, List.nil_append, List.cons_append, List.append_nil, true_and, and_true, Int.reduceAdd, am_o0, am_o1, am_o2, am_o3, am_o4, am_o5, am_o6, am_o7, am_o8, am_o9, am_o10, am_o11, am_o12, am_o13, am_o14, am_o15, am_o16, am_o17, am_o18, am_o19, am_o20, am_o21, am_o22, am_o23, am_o24, am_o25, am_o26, am_o27, Nat.reduceAdd, Nat.reduceLeDiff, Nat.reduceLT, Nat.zero_le, qtm_slen, qtm_sch, am_pf_c]
          have put : ∀ t : Nat, sp_kd tp tz s = t → (t ≠ 2 ∧ t ≠ 3) → K [] Y (am_up (am_up h7 35 6 (nI t)) 35 5 (nI (s + 1))) := by
            intro t h1 h2
            refine hK _ ((g7.up 6 _ (by decide)).up 5 _ (by decide)) ⟨?_, ?_, ?_, fun y => absurd y (by omega)⟩
            · rw [am_up_ap, if_pos rfl, if_pos rfl, en]
            · rw [am_up_ap, if_pos rfl, if_neg (by decide), am_up_ap, if_pos rfl, if_pos rfl, h1]
            · rw [am_up_ap, if_pos rfl, if_neg (by decide), am_up_ap, if_pos rfl, if_neg (by decide)]; exact e77
          have q56 : ∀ v, am_up h7 35 6 v 35 5 = nI s := fun v => by rw [am_up_ap, if_pos rfl, if_neg (by decide)]; exact q5
          refine ⟨vp_in_nI (by omega) (by decide), by omega, c_X0_isSign (fun q3 => ?_) (fun q3 => ?_)⟩
          · rw [if_pos q3] at kd
            obtain ⟨b1, b2, b3⟩ := sp_Gn_in q3
            simp only [o35, o36, q5, nI_clamp (show s < 2 ^ 31 by omega), hf7.2.2 s z, q56, nI_1, Int32.reduceLT, Int32.reduceLE, eq_self, am_10, am_00, am_01, am_11, true_implies, false_implies, not_true_eq_false, not_false_eq_true, or_true, true_or, and_self, implies_true, qtm_push, qtm_iload, qtm_lload, qtm_aload, qtm_istore, qtm_lstore, qtm_astore, qtm_iinc, qtm_un, qtm_bin, qtm_div, qtm_lbin, qtm_ldiv, qtm_lsh, qtm_lcmp, qtm_i2l, qtm_l2i, qtm_if, qtm_cmp, qtm_getf, qtm_puti, qtm_putz, qtm_putl, qtm_iald, qtm_iast, qtm_zald, qtm_zast, qtm_aald, qtm_tsw, qtm_callV, qtm_callS, qtm_acp, qtm_alen, qtm_max, qtm_min, qtm_dup, qtm_pop, qtm_iret, qtm_zret, qtm_lret, qtm_aret, qtm_vret, qtm_swn, qtm_swc, am_oi_c, am_ol_c, am_or_r, am_or_f, am_pi_c, am_pj_c, am_pr_c, am_pa_r, am_pa_f, am_yo_c, am_ya_c, am_fv_i, am_fv_l, am_fv_r, am_fi_c, am_fl_c, am_rv_c, am_n2_s, am_n2_n, am_pv_0, am_pv_s, am_cs_n, am_cs_c, Value.category, List.getElem?_cons_zero, List.getElem?_cons_succ, List.set_cons_zero, List.set_cons_succ, List.length_cons, List.length_nil, List.drop_succ_cons, List.drop_zero, List.take_succ_cons, List.take_zero, List.take_nil, List.reverse_cons, List.reverse_nil, List.nil_append, List.cons_append, List.append_nil, true_and, and_true, Int.reduceAdd, am_o0, am_o1, am_o2, am_o3, am_o4, am_o5, am_o6, am_o7, am_o8, am_o9, am_o10, am_o11, am_o12, am_o13, am_o14, am_o15, am_o16, am_o17, am_o18, am_o19, am_o20, am_o21, am_o22, am_o23, am_o24, am_o25, am_o26, am_o27, Nat.reduceAdd, Nat.reduceLeDiff, Nat.reduceLT, Nat.zero_le, qtm_slen, qtm_sch, am_pf_c]
            have := put _ kd (by omega)
            rw [← b1] at this
            exact ⟨vp_in_nI (by omega) (by decide), this⟩
          · rw [if_neg (by rw [q3]; decide)] at kd
            simp only [o35, q56, nI_1, Int32.reduceLT, Int32.reduceLE, eq_self, am_10, am_00, am_01, am_11, true_implies, false_implies, not_true_eq_false, not_false_eq_true, or_true, true_or, and_self, implies_true, qtm_push, qtm_iload, qtm_lload, qtm_aload, qtm_istore, qtm_lstore, qtm_astore, qtm_iinc, qtm_un, qtm_bin, qtm_div, qtm_lbin, qtm_ldiv, qtm_lsh, qtm_lcmp, qtm_i2l, qtm_l2i, qtm_if, qtm_cmp, qtm_getf, qtm_puti, qtm_putz, qtm_putl, qtm_iald, qtm_iast, qtm_zald, qtm_zast, qtm_aald, qtm_tsw, qtm_callV, qtm_callS, qtm_acp, qtm_alen, qtm_max, qtm_min, qtm_dup, qtm_pop, qtm_iret, qtm_zret, qtm_lret, qtm_aret, qtm_vret, qtm_swn, qtm_swc, am_oi_c, am_ol_c, am_or_r, am_or_f, am_pi_c, am_pj_c, am_pr_c, am_pa_r, am_pa_f, am_yo_c, am_ya_c, am_fv_i, am_fv_l, am_fv_r, am_fi_c, am_fl_c, am_rv_c, am_n2_s, am_n2_n, am_pv_0, am_pv_s, am_cs_n, am_cs_c, Value.category, List.getElem?_cons_zero, List.getElem?_cons_succ, List.set_cons_zero, List.set_cons_succ, List.length_cons, List.length_nil, List.drop_succ_cons, List.drop_zero, List.take_succ_cons, List.take_zero, List.take_nil, List.reverse_cons, List.reverse_nil, List.nil_append, List.cons_append, List.append_nil, true_and, and_true, Int.reduceAdd, am_o0, am_o1, am_o2, am_o3, am_o4, am_o5, am_o6, am_o7, am_o8, am_o9, am_o10, am_o11, am_o12, am_o13, am_o14, am_o15, am_o16, am_o17, am_o18, am_o19, am_o20, am_o21, am_o22, am_o23, am_o24, am_o25, am_o26, am_o27, Nat.reduceAdd, Nat.reduceLeDiff, Nat.reduceLT, Nat.zero_le, qtm_slen, qtm_sch, am_pf_c]
            exact put 1 kd (by decide)
    · have en : sp_en tp tz s = s := if_pos (by omega)
      have kd : sp_kd tp tz s = 0 := if_pos (by omega)
      refine hK _ (g7.up 6 _ (by decide)) ⟨?_, ?_, ?_, fun y => absurd y (by omega)⟩
      · rw [am_up_ap, if_pos rfl, if_neg (by decide), en]; exact q5
      · rw [am_up_ap, if_pos rfl, if_pos rfl, kd]; rfl
      · rw [am_up_ap, if_pos rfl, if_neg (by decide)]; exact e77
  have body : ∀ i, p ≤ i → i ≤ tz → (i < tz → sp_B (tp i) = true → ∀ h' : am_H, am_lk h h' → h' 35 5 = nI (i + 1) → sp_sk tp tz p = sp_sk tp tz (i + 1) → am_At X (am_MQ X K 0 0) 1 0 0 0 [.ref 35] [] Y h') → ∀ h' : am_H, am_lk h h' → h' 35 5 = nI i → sp_sk tp tz p = sp_sk tp tz i → tr_X0_lookAtNext_0 d (fun pc => am_At X (am_MQ X K 0 0) 1 0 0 pc) K [.ref 35] [] Y h' := by
    intro i i0 i1 ih h' g1 g2 g4
    have hf' := hf.lk g1
    have fin0 : (tz ≤ i ∨ sp_B (tp i) = false) → am_At X (am_MQ X K 0 0) 1 0 0 52 [.ref 35] [] Y h' := by
      intro hc
      refine fin i h' i1 g1 g2 ?_
      rw [g4]
      rcases hc with hc | hc
      · exact sp_to_end hc
      · exact sp_to_no hc
    simp only [te_X0_lookAtNext_0, te_X0_lookAtNext_11, te_X0_lookAtNext_39, te_X0_lookAtNext_25, o35, o36, hf'.1, g2, nI_clamp (show i < 2 ^ 31 by omega), nI_1, Int32.reduceLT, Int32.reduceLE, eq_self, am_10, am_00, am_01, am_11, true_implies, false_implies, not_true_eq_false, not_false_eq_true, or_true, true_or, and_self, implies_true, qtm_push, qtm_iload, qtm_lload, qtm_aload, qtm_istore, qtm_lstore, qtm_astore, qtm_iinc, qtm_un, qtm_bin, qtm_div, qtm_lbin, qtm_ldiv, qtm_lsh, qtm_lcmp, qtm_i2l, qtm_l2i, qtm_if, qtm_cmp, qtm_getf, qtm_puti, qtm_putz, qtm_putl, qtm_iald, qtm_iast, qtm_zald, qtm_zast, qtm_aald, qtm_tsw, qtm_callV, qtm_callS, qtm_acp, qtm_alen, qtm_max, qtm_min, qtm_dup, qtm_pop, qtm_iret, qtm_zret, qtm_lret, qtm_aret, qtm_vret, qtm_swn, qtm_swc, am_oi_c, am_ol_c, am_or_r, am_or_f, am_pi_c, am_pj_c, am_pr_c, am_pa_r, am_pa_f, am_yo_c, am_ya_c, am_fv_i, am_fv_l, am_fv_r, am_fi_c, am_fl_c, am_rv_c, am_n2_s, am_n2_n, am_pv_0, am_pv_s, am_cs_n, am_cs_c, Value.category, List.getElem?_cons_zero, List.getElem?_cons_succ, List.set_cons_zero, List.set_cons_succ, List.length_cons, List.length_nil, List.drop_succ_cons, List.drop_zero, List.take_succ_cons, List.take_zero, List.take_nil, List.reverse_cons, List.reverse_nil, List.nil_append, List.cons_append, List.append_nil, true_and, and_true, Int.reduceAdd, am_o0, am_o1, am_o2, am_o3, am_o4, am_o5, am_o6, am_o7, am_o8, am_o9, am_o10, am_o11, am_o12, am_o13, am_o14, am_o15, am_o16, am_o17, am_o18, am_o19, am_o20, am_o21, am_o22, am_o23, am_o24, am_o25, am_o26, am_o27, Nat.reduceAdd, Nat.reduceLeDiff, Nat.reduceLT, Nat.zero_le, qtm_slen, qtm_sch, am_pf_c]
    refine ⟨fun z => fin0 (Or.inl ((nI_leI (by omega) (by omega)).mp z)), fun z => ?_⟩
    have hi : i < tz := Nat.not_le.mp fun y => z (nI_le y (by omega))
    rw [hf'.2.2 i hi]
    have nx : sp_B (tp i) = true → am_At X (am_MQ X K 0 0) 1 0 0 0 [.ref 35] [] Y (am_up h' 35 5 (nI (i + 1))) := fun q => ih hi q _ (g1.up 5 _ (by decide)) (by rw [am_up_ap, if_pos rfl, if_pos rfl]) (g4.trans (sp_to_in (P := fun i => sp_B (tp i)) hi q))
    refine ⟨vp_in_nI (by omega) (by decide), fun q => nx (decide_eq_true (Or.inl q)), fun q => ⟨vp_in_nI (by omega) (by decide), fun q2 => nx (decide_eq_true (Or.inr q2)), fun q2 => fin0 (Or.inr (decide_eq_false fun y => y.elim q q2))⟩⟩
  have loop : ∀ i, p ≤ i → i ≤ tz → (fun i => ∀ h' : am_H, am_lk h h' → h' 35 5 = nI i → sp_sk tp tz p = sp_sk tp tz i → am_At X (am_MQ X K 0 0) 1 0 0 0 [.ref 35] [] Y h') i := sp_to_ind (P := fun i => sp_B (tp i)) p fun i i0 i1 ih h' g1 g2 g4 => sd_X0_lookAtNext_0 F hr _ _ _ _ (body i i0 i1 ih h' g1 g2 g4)
  exact body p (Nat.le_refl p) hp (fun q _ => loop (p + 1) (by omega) (by omega)) h (am_lk.rf h) h5 rfl
end CON
