theorem sp_cd_spl {f : Nat → Int32} : ∀ (l m : List (Nat × Nat)) (i : Nat), sp_cd f i (l ++ m) → sp_cd f i l ∧ sp_cd f (i + l.length) m
  | [], _, _, h => ⟨trivial, h⟩
  | (k, v) :: l, m, i, h => by
    obtain ⟨a, b⟩ := sp_cd_spl l m (i + 1) h.2
    refine ⟨⟨h.1, a⟩, ?_⟩
    rw [List.length_cons, show i + (l.length + 1) = i + 1 + l.length by omega]
    exact b
/-- the layout has grown: cell 29 alone may hold more references, cells behind the end are new -/
def am_gr (Y Y1 : List am_C) : Prop := Y.length ≤ Y1.length ∧ ∀ a c, a ≠ 29 → Y[a]? = some c → Y1[a]? = some c
theorem am_gr.rf (Y : List am_C) : am_gr Y Y := ⟨Nat.le_refl _, fun _ _ _ h => h⟩
theorem am_gr.tx {Y Y1 : List am_C} (g : am_gr Y Y1) {fs : List Value} (h29 : Y[29]? = some (4, 6, fs)) {h : am_H} {St : Nat → Prop} {q : Nat} {f : am_F} (ht : am_tx Y h St q f) : am_tx Y1 h St q f := by
  obtain ⟨c, e, s, len, h1, h2, h3, h4, h5⟩ := ht
  have ne : ∀ (a : Nat) (x : am_C), Y[a]? = some x → x.1 ≠ 4 → a ≠ 29 := fun a x hx h0 z => by
    rw [z, h29] at hx
    injection hx with hx
    rw [← hx] at h0
    exact h0 rfl
  exact ⟨c, e, s, len, g.2 _ _ (ne _ _ h1 (by show (2 : Nat) ≠ 4; decide)) h1, g.2 _ _ (ne _ _ h2 (by show (0 : Nat) ≠ 4; decide)) h2, g.2 _ _ (ne _ _ h3 (by show (0 : Nat) ≠ 4; decide)) h3, g.2 _ _ (ne _ _ h4 (by show (0 : Nat) ≠ 4; decide)) h4, h5⟩
theorem am_gr.walk {Y Y1 : List am_C} (g : am_gr Y Y1) {b : Nat} (hb : b < 20) (h : am_walk Y b) : am_walk Y1 b := by
  obtain ⟨h0, h1, h2, h3, h4, h5, h6, h7, h8⟩ := h
  exact ⟨g.2 _ _ (by omega) h0, g.2 _ _ (by omega) h1, g.2 _ _ (by omega) h2, g.2 _ _ (by omega) h3, g.2 _ _ (by omega) h4, g.2 _ _ (by omega) h5, g.2 _ _ (by omega) h6, g.2 _ _ (by omega) h7, g.2 _ _ (by omega) h8⟩
theorem am_tx.gr {Y Y1 : List am_C} {h h1 : am_H} {q : Nat} {f : am_F} {fs g8 : List Value} (g : am_gr Y Y1) (h29 : Y[29]? = some (4, 6, fs)) (h28 : Y[28]? = some (2, 3, g8)) (ht : am_tx Y h am_St q f) (hh : ∀ a, a < Y.length → a ≠ 28 → (a < 35 ∨ 66 < a) → h1 a = h a) : am_tx Y1 h1 am_St q f := by
  have ht' := g.tx h29 ht
  obtain ⟨c, e, s, len, h1, h2, h3, h4, h5, h6, h7, h8, h9, h10, ⟨b1, b2, b3⟩, h12⟩ := ht
  have lc : c < Y.length := (List.getElem?_eq_some_iff.mp h2).1
  have le : e < Y.length := (List.getElem?_eq_some_iff.mp h3).1
  have c8 : c ≠ 28 := fun z => by rw [z, h28] at h2; injection h2 with h2; injection h2 with h2; exact absurd h2 (by decide)
  have e8 : e ≠ 28 := fun z => by rw [z, h28] at h3; injection h3 with h3; injection h3 with h3; exact absurd h3 (by decide)
  have ne : ∀ (a n : Nat), Y[a]? = some (0, n, []) → a ≠ 29 := fun a n hx z => by rw [z, h29] at hx; injection hx with hx; injection hx with hx; exact absurd hx (by decide)
  have n2 : q ≠ 29 := fun z => by rw [z, h29] at h1; injection h1 with h1; injection h1 with h1; exact absurd h1 (by decide)
  refine ⟨c, e, s, len, g.2 _ _ n2 h1, g.2 _ _ (ne _ _ h2) h2, g.2 _ _ (ne _ _ h3) h3, g.2 _ _ (ne _ _ h4) h4, h5, h6, h7, h8, h9, h10, ⟨b1, b2, b3⟩, ?_⟩
  rw [hh c lc c8 b2, hh e le e8 b3]
  exact h12
theorem am_app_gr (Y m : List am_C) : am_gr Y (Y ++ m) := ⟨by rw [List.length_append]; omega, fun _ _ _ h => am_app_lt h⟩
theorem am_gr.tr {Y Y1 Y2 : List am_C} (a : am_gr Y Y1) (b : am_gr Y1 Y2) : am_gr Y Y2 := ⟨Nat.le_trans a.1 b.1, fun i c h1 h2 => b.2 i c h1 (a.2 i c h1 h2)⟩
theorem am_set_gr (Y : List am_C) (x : am_C) : am_gr Y (Y.set 29 x) := ⟨by rw [List.length_set]; exact Nat.le_refl _, fun a c h1 h2 => by rw [List.getElem?_set, if_neg (Ne.symm h1)]; exact h2⟩
theorem am_len_part {a b : Nat} (h : a ≤ b) (hb : b < 1000) : (if nI b < nI a then nI b else nI a) = nI a := if_neg (fun z => by have := (nI_ltI (by omega) (by omega)).mp z; omega)
/-- the text that was read is laid in three new cells -/
theorem am_tx.nw {Y : List am_C} {h : am_H} {q c e s len : Nat} {l1 l2 l3 : List (Nat × Nat)} (h1 : Y[q]? = some (2, 2, [.ref c, .ref e, .ref s])) (h2 : Y[c]? = some (0, len, [])) (h3 : Y[e]? = some (0, 3, [])) (h4 : Y[s]? = some (0, 36, [])) (hs : am_St s) (hc : ¬ am_St c) (he : ¬ am_St e) (h67 : 67 ≤ c ∧ 67 ≤ e ∧ 67 ≤ s) (hl : len = (l1 ++ l2 ++ l3).length) (h160 : len < 160) (w1 : sp_wf l1 0) (w2 : sp_wf l2 0) (w3 : sp_wf l3 0) (hcd : sp_cd (h c) 0 (l1 ++ l2 ++ l3)) (e0 : h e 0 = nI l1.length) (e1 : h e 1 = nI (l1.length + l2.length)) (e2 : h e 2 = nI (l1.length + l2.length + l3.length)) : am_tx Y h am_St q (sp_txT l1 l2 l3) := by
  obtain ⟨c12, c3⟩ := sp_cd_spl _ _ _ hcd
  obtain ⟨c1, c2⟩ := sp_cd_spl _ _ _ c12
  rw [List.length_append, Nat.zero_add] at c3
  rw [Nat.zero_add] at c2
  rw [List.length_append, List.length_append] at hl
  refine ⟨c, e, s, len, h1, h2, h3, h4, hs, hc, he, by omega, by omega, by omega, ⟨by omega, by omega, by omega⟩, fun p hp => ?_⟩
  rcases (show p = 0 ∨ p = 1 ∨ p = 2 by omega) with rfl | rfl | rfl
  · exact ⟨0, l1, rfl, e0.trans (by rw [Nat.zero_add]), by omega, w1, c1, fun nm => rfl⟩
  · exact ⟨l1.length, l2, e0, e1, by omega, w2, c2, fun nm => rfl⟩
  · exact ⟨l1.length + l2.length, l3, e1, e2, by omega, w3, c3, fun nm => rfl⟩
theorem am_gr.own {Y Y1 : List am_C} (g : am_gr Y Y1) (h : am_own Y) : am_own Y1 := by
  obtain ⟨a0, a1, a2, a3, a35, a36, a37, a38, a39, a40, a41⟩ := h
  exact ⟨g.2 _ _ (by decide) a0, g.walk (by decide) a1, g.walk (by decide) a2, g.walk (by decide) a3, g.2 _ _ (by decide) a35, g.2 _ _ (by decide) a36, g.2 _ _ (by decide) a37, g.2 _ _ (by decide) a38, g.2 _ _ (by decide) a39, g.2 _ _ (by decide) a40, fun i hi => ⟨g.2 _ _ (by omega) (a41 i hi).1, g.2 _ _ (by omega) (a41 i hi).2⟩⟩
theorem am_gr.mod {Y Y1 : List am_C} (g : am_gr Y Y1) (h : am_mod Y) : am_mod Y1 := by
  obtain ⟨m0, m1, m2, m3, m4, m5, m6, m7, m8, m9, m10, m11, m12, m13, m14, m15, m16, m17⟩ := h
  exact ⟨g.2 _ _ (by decide) m0, g.2 _ _ (by decide) m1, g.2 _ _ (by decide) m2, g.2 _ _ (by decide) m3, g.2 _ _ (by decide) m4, g.2 _ _ (by decide) m5, g.2 _ _ (by decide) m6, g.2 _ _ (by decide) m7, g.2 _ _ (by decide) m8, g.2 _ _ (by decide) m9, g.2 _ _ (by decide) m10, g.2 _ _ (by decide) m11, g.2 _ _ (by decide) m12, g.2 _ _ (by decide) m13, g.2 _ _ (by decide) m14, g.2 _ _ (by decide) m15, g.2 _ _ (by decide) m16, g.2 _ _ (by decide) m17⟩
section CON
variable {d : Nat} {Y : List am_C} {h : am_H} {s : am_S} {K : List Value → List am_C → am_H → Prop}
set_option maxHeartbeats 4000000 in
set_option maxRecDepth 100000 in
theorem o_X5_text (hd : 73 ≤ d) (hC : am_Cl Y h s) (hI : am_I s) (hY : Y.length = 63 + 4 * s.nT) (hK : ∀ Y1 h1, am_gr Y Y1 → am_fC h h1 → am_Cl Y1 h1 (sp_textO s).1 → Y1.length = 63 + 4 * (sp_textO s).1.nT → K [.int (sp_textO s).2] Y1 h1) : am_Met d 4 202 YX5_text [.ref 0] Y h K := by
  refine en_X5_textg fun X F hr hN hR => ?_
  have hC' := hC
  obtain ⟨hO, hR1, hk, hT, ⟨hB, hCt⟩, hD⟩ := hC
  have hO' := hO
  obtain ⟨o0, o1, o2, o3, o35, o36, o37, o38, o39, o40, o41⟩ := hO
  have htz := hI.2.2.2.2.1
  have hnT := hI.2.2.2.1
  have h28 := hT.1
  unfold sp_textO at hK
  simp only [te_X5_textg_0, te_X5_textg_13, te_X5_textg_49, te_X5_textg_59, te_X5_textg_25, te_X5_textg_10, o0, h28, Int32.reduceLT, Int32.reduceLE, eq_self, am_10, am_00, am_01, am_11, true_implies, false_implies, not_true_eq_false, not_false_eq_true, or_true, true_or, and_self, implies_true, qtm_push, qtm_iload, qtm_lload, qtm_aload, qtm_istore, qtm_lstore, qtm_astore, qtm_iinc, qtm_un, qtm_bin, qtm_div, qtm_lbin, qtm_ldiv, qtm_lsh, qtm_lcmp, qtm_i2l, qtm_l2i, qtm_if, qtm_cmp, qtm_getf, qtm_puti, qtm_putz, qtm_putl, qtm_iald, qtm_iast, qtm_zald, qtm_zast, qtm_aald, qtm_tsw, qtm_callV, qtm_callS, qtm_acp, qtm_alen, qtm_max, qtm_min, qtm_dup, qtm_pop, qtm_iret, qtm_zret, qtm_lret, qtm_aret, qtm_vret, qtm_swn, qtm_swc, am_oi_c, am_ol_c, am_or_r, am_or_f, am_pi_c, am_pj_c, am_pr_c, am_pa_r, am_pa_f, am_yo_c, am_ya_c, am_fv_i, am_fv_l, am_fv_r, am_fi_c, am_fl_c, am_rv_c, am_n2_s, am_n2_n, am_pv_0, am_pv_s, am_cs_n, am_cs_c, Value.category, List.getElem?_cons_zero, List.getElem?_cons_succ, List.set_cons_zero, List.set_cons_succ, List.length_cons, List.length_nil, List.drop_succ_cons, List.drop_zero, List.take_succ_cons, List.take_zero, List.take_nil, List.reverse_cons, List.reverse_nil, List.nil_append, List.cons_append, List.append_nil, true_and, and_true, Int.reduceAdd, am_o0, am_o1, am_o2, am_o3, am_o4, am_o5, am_o6, am_o7, am_o8, am_o9, am_o10, am_o11, am_o12, am_o13, am_o14, am_o15, am_o16, am_o17, am_o18, am_o19, am_o20, am_o21, am_o22, am_o23, am_o24, am_o25, am_o26, am_o27, Nat.reduceAdd, Nat.reduceLeDiff, Nat.reduceLT, Nat.zero_le, qtm_slen, qtm_sch, am_pf_c, qtm_newI, qtm_newO, qtm_putr, qtm_aastS, qtm_callVg, qtm_callIg, qtm_callSg, qtm_objI]
  refine ⟨by omega, c_X3_isFull hT ?_⟩
  by_cases h6 : s.nT = 6
  · rw [if_pos h6] at hK ⊢
    simp only [Int32.reduceLT, Int32.reduceLE, eq_self, am_10, am_00, am_01, am_11, true_implies, false_implies, not_true_eq_false, not_false_eq_true, or_true, true_or, and_self, implies_true, qtm_push, qtm_iload, qtm_lload, qtm_aload, qtm_istore, qtm_lstore, qtm_astore, qtm_iinc, qtm_un, qtm_bin, qtm_div, qtm_lbin, qtm_ldiv, qtm_lsh, qtm_lcmp, qtm_i2l, qtm_l2i, qtm_if, qtm_cmp, qtm_getf, qtm_puti, qtm_putz, qtm_putl, qtm_iald, qtm_iast, qtm_zald, qtm_zast, qtm_aald, qtm_tsw, qtm_callV, qtm_callS, qtm_acp, qtm_alen, qtm_max, qtm_min, qtm_dup, qtm_pop, qtm_iret, qtm_zret, qtm_lret, qtm_aret, qtm_vret, qtm_swn, qtm_swc, am_oi_c, am_ol_c, am_or_r, am_or_f, am_pi_c, am_pj_c, am_pr_c, am_pa_r, am_pa_f, am_yo_c, am_ya_c, am_fv_i, am_fv_l, am_fv_r, am_fi_c, am_fl_c, am_rv_c, am_n2_s, am_n2_n, am_pv_0, am_pv_s, am_cs_n, am_cs_c, Value.category, List.getElem?_cons_zero, List.getElem?_cons_succ, List.set_cons_zero, List.set_cons_succ, List.length_cons, List.length_nil, List.drop_succ_cons, List.drop_zero, List.take_succ_cons, List.take_zero, List.take_nil, List.reverse_cons, List.reverse_nil, List.nil_append, List.cons_append, List.append_nil, true_and, and_true, Int.reduceAdd, am_o0, am_o1, am_o2, am_o3, am_o4, am_o5, am_o6, am_o7, am_o8, am_o9, am_o10, am_o11, am_o12, am_o13, am_o14, am_o15, am_o16, am_o17, am_o18, am_o19, am_o20, am_o21, am_o22, am_o23, am_o24, am_o25, am_o26, am_o27, Nat.reduceAdd, Nat.reduceLeDiff, Nat.reduceLT, Nat.zero_le, qtm_slen, qtm_sch, am_pf_c, qtm_newI, qtm_newO, qtm_putr, qtm_aastS, qtm_callVg, qtm_callIg, qtm_callSg, qtm_objI]
    exact hK Y h (am_gr.rf Y) (am_fC.rf h) hC' hY
  · rw [if_neg h6] at hK ⊢
    simp only [o0, o35, Int32.reduceLT, Int32.reduceLE, eq_self, am_10, am_00, am_01, am_11, true_implies, false_implies, not_true_eq_false, not_false_eq_true, or_true, true_or, and_self, implies_true, qtm_push, qtm_iload, qtm_lload, qtm_aload, qtm_istore, qtm_lstore, qtm_astore, qtm_iinc, qtm_un, qtm_bin, qtm_div, qtm_lbin, qtm_ldiv, qtm_lsh, qtm_lcmp, qtm_i2l, qtm_l2i, qtm_if, qtm_cmp, qtm_getf, qtm_puti, qtm_putz, qtm_putl, qtm_iald, qtm_iast, qtm_zald, qtm_zast, qtm_aald, qtm_tsw, qtm_callV, qtm_callS, qtm_acp, qtm_alen, qtm_max, qtm_min, qtm_dup, qtm_pop, qtm_iret, qtm_zret, qtm_lret, qtm_aret, qtm_vret, qtm_swn, qtm_swc, am_oi_c, am_ol_c, am_or_r, am_or_f, am_pi_c, am_pj_c, am_pr_c, am_pa_r, am_pa_f, am_yo_c, am_ya_c, am_fv_i, am_fv_l, am_fv_r, am_fi_c, am_fl_c, am_rv_c, am_n2_s, am_n2_n, am_pv_0, am_pv_s, am_cs_n, am_cs_c, Value.category, List.getElem?_cons_zero, List.getElem?_cons_succ, List.set_cons_zero, List.set_cons_succ, List.length_cons, List.length_nil, List.drop_succ_cons, List.drop_zero, List.take_succ_cons, List.take_zero, List.take_nil, List.reverse_cons, List.reverse_nil, List.nil_append, List.cons_append, List.append_nil, true_and, and_true, Int.reduceAdd, am_o0, am_o1, am_o2, am_o3, am_o4, am_o5, am_o6, am_o7, am_o8, am_o9, am_o10, am_o11, am_o12, am_o13, am_o14, am_o15, am_o16, am_o17, am_o18, am_o19, am_o20, am_o21, am_o22, am_o23, am_o24, am_o25, am_o26, am_o27, Nat.reduceAdd, Nat.reduceLeDiff, Nat.reduceLT, Nat.zero_le, qtm_slen, qtm_sch, am_pf_c, qtm_newI, qtm_newO, qtm_putr, qtm_aastS, qtm_callVg, qtm_callIg, qtm_callSg, qtm_objI]
    refine ⟨by omega, c_X0_readText (tp := s.tp) (tz := s.tz) (by omega) hO' ⟨hB, htz, hCt⟩ (fun h1 e l1 l2 l3 p tx z3 z4 zl cd x0 x1 x2 => ?_) (fun h1 p tx z3 z7 => ?_)⟩
    · obtain ⟨y1, y2, y3, y4⟩ := sp_text_g (sp_tkn_ok (tp := s.tp) htz) (sp_sk_le (tp := s.tp) (tz := s.tz) (Nat.zero_le s.tz)).2 tx
      have hlen : (l1 ++ l2 ++ l3).length = l1.length + l2.length + l3.length := by rw [List.length_append, List.length_append]
      simp only [o0, o35, h28, Int32.reduceLT, Int32.reduceLE, eq_self, am_10, am_00, am_01, am_11, true_implies, false_implies, not_true_eq_false, not_false_eq_true, or_true, true_or, and_self, implies_true, qtm_push, qtm_iload, qtm_lload, qtm_aload, qtm_istore, qtm_lstore, qtm_astore, qtm_iinc, qtm_un, qtm_bin, qtm_div, qtm_lbin, qtm_ldiv, qtm_lsh, qtm_lcmp, qtm_i2l, qtm_l2i, qtm_if, qtm_cmp, qtm_getf, qtm_puti, qtm_putz, qtm_putl, qtm_iald, qtm_iast, qtm_zald, qtm_zast, qtm_aald, qtm_tsw, qtm_callV, qtm_callS, qtm_acp, qtm_alen, qtm_max, qtm_min, qtm_dup, qtm_pop, qtm_iret, qtm_zret, qtm_lret, qtm_aret, qtm_vret, qtm_swn, qtm_swc, am_oi_c, am_ol_c, am_or_r, am_or_f, am_pi_c, am_pj_c, am_pr_c, am_pa_r, am_pa_f, am_yo_c, am_ya_c, am_fv_i, am_fv_l, am_fv_r, am_fi_c, am_fl_c, am_rv_c, am_n2_s, am_n2_n, am_pv_0, am_pv_s, am_cs_n, am_cs_c, Value.category, List.getElem?_cons_zero, List.getElem?_cons_succ, List.set_cons_zero, List.set_cons_succ, List.length_cons, List.length_nil, List.drop_succ_cons, List.drop_zero, List.take_succ_cons, List.take_zero, List.take_nil, List.reverse_cons, List.reverse_nil, List.nil_append, List.cons_append, List.append_nil, true_and, and_true, Int.reduceAdd, am_o0, am_o1, am_o2, am_o3, am_o4, am_o5, am_o6, am_o7, am_o8, am_o9, am_o10, am_o11, am_o12, am_o13, am_o14, am_o15, am_o16, am_o17, am_o18, am_o19, am_o20, am_o21, am_o22, am_o23, am_o24, am_o25, am_o26, am_o27, Nat.reduceAdd, Nat.reduceLeDiff, Nat.reduceLT, Nat.zero_le, qtm_slen, qtm_sch, am_pf_c, qtm_newI, qtm_newO, qtm_putr, qtm_aastS, qtm_callVg, qtm_callIg, qtm_callSg, qtm_objI]
      refine ⟨by omega, c_X0_codeRead (by omega) hO' zl z4 ?_⟩
      generalize hL : (l1 ++ l2 ++ l3).length = len at zl hlen
      generalize hE : am_cp (am_zr h1 Y.length) 37 Y.length 0 0 len = h2
      have q0 : ∀ a, a ≠ Y.length → h2 a = h1 a := fun a q => by rw [← hE]; funext k; show (if a = Y.length then _ else _) = _; rw [if_neg q, am_zr_ne a q]
      have q1 : ∀ k, k < len → h2 Y.length k = h1 37 k := fun k q => by
        rw [← hE]
        show (if Y.length = Y.length then (if 0 ≤ k ∧ k < 0 + len then am_zr h1 Y.length 37 (0 + (k - 0)) else _) else _) = _
        rw [if_pos rfl, if_pos (by omega), am_zr_ne 37 (by omega), Nat.zero_add, Nat.sub_zero]
      have gY2 := am_app_gr Y [((0 : Nat), len, ([] : List Value))]
      have lY2 : (Y ++ [((0 : Nat), len, ([] : List Value))]).length = Y.length + 1 := by rw [List.length_append]; rfl
      have cY2 := am_app_at (Y := Y) (c := ((0 : Nat), len, ([] : List Value)))
      obtain ⟨t1, t2, t3, t4, t5, t6, fs, t7, t8⟩ := hT
      have hT2 : am_txs (Y ++ [((0 : Nat), len, ([] : List Value))]) h2 am_St s.T s.nT := ⟨gY2.2 _ _ (by decide) t1, t2, t3, by rw [q0 28 (by omega), p 28 (by decide) (by decide) (by decide)]; exact t4, t5, t6, fs, am_app_lt t7, fun k hk => by
        obtain ⟨q, g1, g2⟩ := t8 k hk
        exact ⟨q, g1, g2.gr gY2 t7 t1 fun a a1 a2 a3 => by rw [q0 a (by omega), p a (by omega) (by omega) (by omega)]⟩⟩
      have o0' := gY2.2 _ _ (by decide) o0
      have o35' := gY2.2 _ _ (by decide) o35
      have t1' := gY2.2 _ _ (by decide) t1
      have o38' := gY2.2 _ _ (by decide) o38
      have f29 := am_app_lt (l := [((0 : Nat), len, ([] : List Value))]) t7
      simp only [o0', o35', t1', Int32.reduceLT, Int32.reduceLE, eq_self, am_10, am_00, am_01, am_11, true_implies, false_implies, not_true_eq_false, not_false_eq_true, or_true, true_or, and_self, implies_true, qtm_push, qtm_iload, qtm_lload, qtm_aload, qtm_istore, qtm_lstore, qtm_astore, qtm_iinc, qtm_un, qtm_bin, qtm_div, qtm_lbin, qtm_ldiv, qtm_lsh, qtm_lcmp, qtm_i2l, qtm_l2i, qtm_if, qtm_cmp, qtm_getf, qtm_puti, qtm_putz, qtm_putl, qtm_iald, qtm_iast, qtm_zald, qtm_zast, qtm_aald, qtm_tsw, qtm_callV, qtm_callS, qtm_acp, qtm_alen, qtm_max, qtm_min, qtm_dup, qtm_pop, qtm_iret, qtm_zret, qtm_lret, qtm_aret, qtm_vret, qtm_swn, qtm_swc, am_oi_c, am_ol_c, am_or_r, am_or_f, am_pi_c, am_pj_c, am_pr_c, am_pa_r, am_pa_f, am_yo_c, am_ya_c, am_fv_i, am_fv_l, am_fv_r, am_fi_c, am_fl_c, am_rv_c, am_n2_s, am_n2_n, am_pv_0, am_pv_s, am_cs_n, am_cs_c, Value.category, List.getElem?_cons_zero, List.getElem?_cons_succ, List.set_cons_zero, List.set_cons_succ, List.length_cons, List.length_nil, List.drop_succ_cons, List.drop_zero, List.take_succ_cons, List.take_zero, List.take_nil, List.reverse_cons, List.reverse_nil, List.nil_append, List.cons_append, List.append_nil, true_and, and_true, Int.reduceAdd, am_o0, am_o1, am_o2, am_o3, am_o4, am_o5, am_o6, am_o7, am_o8, am_o9, am_o10, am_o11, am_o12, am_o13, am_o14, am_o15, am_o16, am_o17, am_o18, am_o19, am_o20, am_o21, am_o22, am_o23, am_o24, am_o25, am_o26, am_o27, Nat.reduceAdd, Nat.reduceLeDiff, Nat.reduceLT, Nat.zero_le, qtm_slen, qtm_sch, am_pf_c, qtm_newI, qtm_newO, qtm_putr, qtm_aastS, qtm_callVg, qtm_callIg, qtm_callSg, qtm_objI]
      refine ⟨by omega, c_X3_add (by omega) hT2 (by omega) f29 cY2 (by omega) o38' fun h3 g1 g28 g3 => ?_⟩
      rw [lY2] at g1 g3
      have gY3 : am_gr Y ((Y ++ [((0 : Nat), len, ([] : List Value))]).set 29 (4, 6, am_aset fs s.nT (Y ++ [((0 : Nat), len, ([] : List Value))]).length) ++ [(2, 2, [.ref Y.length, .ref ((Y ++ [((0 : Nat), len, ([] : List Value))]).length + 1), .ref ((Y ++ [((0 : Nat), len, ([] : List Value))]).length + 2)]), (0, 3, []), (0, 36, [])]) := gY2.tr ((am_set_gr _ _).tr (am_app_gr _ _))
      have o0'' := gY3.2 _ _ (by decide) o0
      have o35'' := gY3.2 _ _ (by decide) o35
      simp only [o0'', o35'', am_up_ap, reduceIte, Nat.reduceEqDiff, Nat.add_eq_left, Nat.left_eq_add, Nat.add_left_cancel_iff, am_t0, am_t1, am_t2, am_t3, am_t4, am_t5, am_t6, am_t7, am_t8, am_t9, am_t10, am_t11, Int32.reduceLT, Int32.reduceLE, eq_self, am_10, am_00, am_01, am_11, true_implies, false_implies, not_true_eq_false, not_false_eq_true, or_true, true_or, and_self, implies_true, qtm_push, qtm_iload, qtm_lload, qtm_aload, qtm_istore, qtm_lstore, qtm_astore, qtm_iinc, qtm_un, qtm_bin, qtm_div, qtm_lbin, qtm_ldiv, qtm_lsh, qtm_lcmp, qtm_i2l, qtm_l2i, qtm_if, qtm_cmp, qtm_getf, qtm_puti, qtm_putz, qtm_putl, qtm_iald, qtm_iast, qtm_zald, qtm_zast, qtm_aald, qtm_tsw, qtm_callV, qtm_callS, qtm_acp, qtm_alen, qtm_max, qtm_min, qtm_dup, qtm_pop, qtm_iret, qtm_zret, qtm_lret, qtm_aret, qtm_vret, qtm_swn, qtm_swc, am_oi_c, am_ol_c, am_or_r, am_or_f, am_pi_c, am_pj_c, am_pr_c, am_pa_r, am_pa_f, am_yo_c, am_ya_c, am_fv_i, am_fv_l, am_fv_r, am_fi_c, am_fl_c, am_rv_c, am_n2_s, am_n2_n, am_pv_0, am_pv_s, am_cs_n, am_cs_c, Value.category, List.getElem?_cons_zero, List.getElem?_cons_succ, List.set_cons_zero, List.set_cons_succ, List.length_cons, List.length_nil, List.drop_succ_cons, List.drop_zero, List.take_succ_cons, List.take_zero, List.take_nil, List.reverse_cons, List.reverse_nil, List.nil_append, List.cons_append, List.append_nil, true_and, and_true, Int.reduceAdd, am_o0, am_o1, am_o2, am_o3, am_o4, am_o5, am_o6, am_o7, am_o8, am_o9, am_o10, am_o11, am_o12, am_o13, am_o14, am_o15, am_o16, am_o17, am_o18, am_o19, am_o20, am_o21, am_o22, am_o23, am_o24, am_o25, am_o26, am_o27, Nat.reduceAdd, Nat.reduceLeDiff, Nat.reduceLT, Nat.zero_le, qtm_slen, qtm_sch, am_pf_c, qtm_newI, qtm_newO, qtm_putr, qtm_aastS, qtm_callVg, qtm_callIg, qtm_callSg, qtm_objI]
      rw [lY2] at gY3 ⊢
      have w2l : ((Y ++ [((0 : Nat), len, ([] : List Value))]).set 29 (4, 6, am_aset fs s.nT (Y.length + 1))).length = Y.length + 1 := by rw [List.length_set, lY2]
      have zc : ((Y ++ [((0 : Nat), len, ([] : List Value))]).set 29 (4, 6, am_aset fs s.nT (Y.length + 1)) ++ [(2, 2, [.ref Y.length, .ref (Y.length + 1 + 1), .ref (Y.length + 1 + 2)]), (0, 3, []), (0, 36, [])])[Y.length]? = some (0, len, []) := am_app_lt (by rw [List.getElem?_set, if_neg (by omega)]; exact cY2)
      have z29 : ((Y ++ [((0 : Nat), len, ([] : List Value))]).set 29 (4, 6, am_aset fs s.nT (Y.length + 1)) ++ [(2, 2, [.ref Y.length, .ref (Y.length + 1 + 1), .ref (Y.length + 1 + 2)]), (0, 3, []), (0, 36, [])])[29]? = some (4, 6, am_aset fs s.nT (Y.length + 1)) := am_app_lt (by rw [List.getElem?_set, if_pos rfl, if_pos (by rw [lY2]; omega)])
      have zq : ((Y ++ [((0 : Nat), len, ([] : List Value))]).set 29 (4, 6, am_aset fs s.nT (Y.length + 1)) ++ [(2, 2, [.ref Y.length, .ref (Y.length + 1 + 1), .ref (Y.length + 1 + 2)]), (0, 3, []), (0, 36, [])])[Y.length + 1]? = some (2, 2, [.ref Y.length, .ref (Y.length + 1 + 1), .ref (Y.length + 1 + 2)]) := by rw [List.getElem?_append_right (by omega), w2l, Nat.sub_self]; rfl
      have ze : ((Y ++ [((0 : Nat), len, ([] : List Value))]).set 29 (4, 6, am_aset fs s.nT (Y.length + 1)) ++ [(2, 2, [.ref Y.length, .ref (Y.length + 1 + 1), .ref (Y.length + 1 + 2)]), (0, 3, []), (0, 36, [])])[Y.length + 1 + 1]? = some (0, 3, []) := by rw [List.getElem?_append_right (by omega), w2l, show Y.length + 1 + 1 - (Y.length + 1) = 1 by omega]; rfl
      have zs : ((Y ++ [((0 : Nat), len, ([] : List Value))]).set 29 (4, 6, am_aset fs s.nT (Y.length + 1)) ++ [(2, 2, [.ref Y.length, .ref (Y.length + 1 + 1), .ref (Y.length + 1 + 2)]), (0, 3, []), (0, 36, [])])[Y.length + 1 + 2]? = some (0, 36, []) := by rw [List.getElem?_append_right (by omega), w2l, show Y.length + 1 + 2 - (Y.length + 1) = 2 by omega]; rfl
      have zl3 : ((Y ++ [((0 : Nat), len, ([] : List Value))]).set 29 (4, 6, am_aset fs s.nT (Y.length + 1)) ++ [(2, 2, [Value.ref Y.length, .ref (Y.length + 1 + 1), .ref (Y.length + 1 + 2)]), (0, 3, []), (0, 36, [])]).length = 63 + 4 * (s.nT + 1) := by rw [List.length_append, w2l, hY, List.length_cons, List.length_cons, List.length_cons, List.length_nil]; omega
      generalize (Y ++ [((0 : Nat), len, ([] : List Value))]).set 29 (4, 6, am_aset fs s.nT (Y.length + 1)) ++ [(2, 2, [Value.ref Y.length, .ref (Y.length + 1 + 1), .ref (Y.length + 1 + 2)]), (0, 3, []), (0, 36, [])] = Y3 at gY3 zc z29 zq ze zs zl3 ⊢
      have f3 : ∀ a, a ≠ 35 → am_up h3 35 3 0 a = h3 a := fun a q => am_up_ne a q
      have ff : ∀ a, a < Y.length → a ≠ 28 → a ≠ 35 → a ≠ 37 → a ≠ 38 → am_up h3 35 3 0 a = h a := fun a a1 a2 a3 a4 a5 => by rw [f3 a a3, g1 a (by omega) a2, q0 a (by omega), p a a3 a4 a5]
      have b38 : ∀ p v, p < 3 → h1 38 p = nI v → v ≤ len → am_up h3 35 3 0 (Y.length + 1 + 1) p = nI v := fun p v hp hv hl => by
        rw [f3 _ (by omega), g3 p hp, q0 38 (by omega), hv, am_len_part hl (by omega)]
      have nT' : am_txs Y3 (am_up h3 35 3 0) am_St (fun t => if t = s.nT then sp_txT l1 l2 l3 else s.T t) (s.nT + 1) := by
        refine ⟨gY3.2 _ _ (by decide) t1, by omega, by omega, by rw [f3 28 (by decide)]; exact g28, t5, t6, _, z29, fun k hk => ?_⟩
        by_cases e : k = s.nT
        · subst e
          refine ⟨_, am_aset_at, ?_⟩
          show am_tx Y3 _ am_St _ (if s.nT = s.nT then sp_txT l1 l2 l3 else s.T s.nT)
          rw [if_pos rfl]
          refine am_tx.nw zq zc ze zs (by unfold am_St; omega) (by unfold am_St; omega) (by unfold am_St; omega) (by omega) hL.symm zl y2 y3 y4 ?_ (b38 0 _ (by decide) x0 (by omega)) (b38 1 _ (by decide) x1 (by omega)) (b38 2 _ (by decide) x2 (by omega))
          rw [f3 _ (by omega), g1 _ (by omega) (by omega)]
          exact sp_cd_cong _ 0 (fun j j1 j2 => q1 j (by rw [hL] at j2; omega)) cd
        · obtain ⟨q, u1, u2⟩ := t8 k (by omega)
          refine ⟨q, ((am_aset_ne e).2 (List.getElem?_eq_some_iff.mp u1).1).trans u1, ?_⟩
          show am_tx Y3 _ am_St q (if k = s.nT then sp_txT l1 l2 l3 else s.T k)
          rw [if_neg e]
          exact u2.gr gY3 t7 t1 fun a a1 a2 a3 => ff a a1 a2 (by omega) (by omega) (by omega)
      rw [show s.rd = _ from tx, if_pos rfl] at hK
      exact hK Y3 _ gY3 (fun a a1 a2 => ff a (by omega) (by omega) (by omega) (by omega) (by omega)) ⟨gY3.own hO', hR1.keep fun c c1 c2 => ff c (by omega) (by omega) (by omega) (by omega) (by omega), hk.cong (by rw [ff 0 (by omega) (by decide) (by decide) (by decide) (by decide)]) fun a a1 a2 => ff a (by omega) (by omega) (by omega) (by omega) (by omega), nT', ⟨by rw [am_up_ap, if_pos rfl, if_pos rfl]; rfl, fun i hi => absurd hi (Nat.not_lt_zero i)⟩, hD.cong fun a a1 a2 => ff a (by omega) (by omega) (by omega) (by omega) (by omega)⟩ zl3
    · simp only [o0, o35, z7, am_up_ap, reduceIte, Nat.reduceEqDiff, Nat.add_eq_left, Nat.left_eq_add, Nat.add_left_cancel_iff, am_t0, am_t1, am_t2, am_t3, am_t4, am_t5, am_t6, am_t7, am_t8, am_t9, am_t10, am_t11, Int32.reduceLT, Int32.reduceLE, eq_self, am_10, am_00, am_01, am_11, true_implies, false_implies, not_true_eq_false, not_false_eq_true, or_true, true_or, and_self, implies_true, qtm_push, qtm_iload, qtm_lload, qtm_aload, qtm_istore, qtm_lstore, qtm_astore, qtm_iinc, qtm_un, qtm_bin, qtm_div, qtm_lbin, qtm_ldiv, qtm_lsh, qtm_lcmp, qtm_i2l, qtm_l2i, qtm_if, qtm_cmp, qtm_getf, qtm_puti, qtm_putz, qtm_putl, qtm_iald, qtm_iast, qtm_zald, qtm_zast, qtm_aald, qtm_tsw, qtm_callV, qtm_callS, qtm_acp, qtm_alen, qtm_max, qtm_min, qtm_dup, qtm_pop, qtm_iret, qtm_zret, qtm_lret, qtm_aret, qtm_vret, qtm_swn, qtm_swc, am_oi_c, am_ol_c, am_or_r, am_or_f, am_pi_c, am_pj_c, am_pr_c, am_pa_r, am_pa_f, am_yo_c, am_ya_c, am_fv_i, am_fv_l, am_fv_r, am_fi_c, am_fl_c, am_rv_c, am_n2_s, am_n2_n, am_pv_0, am_pv_s, am_cs_n, am_cs_c, Value.category, List.getElem?_cons_zero, List.getElem?_cons_succ, List.set_cons_zero, List.set_cons_succ, List.length_cons, List.length_nil, List.drop_succ_cons, List.drop_zero, List.take_succ_cons, List.take_zero, List.take_nil, List.reverse_cons, List.reverse_nil, List.nil_append, List.cons_append, List.append_nil, true_and, and_true, Int.reduceAdd, am_o0, am_o1, am_o2, am_o3, am_o4, am_o5, am_o6, am_o7, am_o8, am_o9, am_o10, am_o11, am_o12, am_o13, am_o14, am_o15, am_o16, am_o17, am_o18, am_o19, am_o20, am_o21, am_o22, am_o23, am_o24, am_o25, am_o26, am_o27, Nat.reduceAdd, Nat.reduceLeDiff, Nat.reduceLT, Nat.zero_le, qtm_slen, qtm_sch, am_pf_c, qtm_newI, qtm_newO, qtm_putr, qtm_aastS, qtm_callVg, qtm_callIg, qtm_callSg, qtm_objI]
      have hh : ∀ a, a ≠ 35 → a ≠ 37 → a ≠ 38 → am_up h1 35 3 0 a = h a := fun a q1 q2 q3 => (am_up_ne a q1).trans (p a q1 q2 q3)
      rw [show s.rd.1 = false from tx, if_neg (fun z => Bool.noConfusion z)] at hK
      exact hK Y _ (am_gr.rf Y) (fun a a1 a2 => hh a (by omega) (by omega) (by omega)) ⟨hO', hR1.keep fun c c1 c2 => hh c (by omega) (by omega) (by omega), hk.cong (by rw [hh 0 (by decide) (by decide) (by decide)]) fun a a1 a2 => hh a (by omega) (by omega) (by omega), hT.far fun a ha => hh a (by omega) (by omega) (by omega), ⟨by rw [am_up_ap, if_pos rfl, if_pos rfl]; rfl, fun i hi => absurd hi (Nat.not_lt_zero i)⟩, hD.cong fun a a1 a2 => hh a (by omega) (by omega) (by omega)⟩ hY
end CON
