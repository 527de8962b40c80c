theorem am_sl : ∀ k, k < 12 → am_slen.getD k 0 = (am_sbyt.getD k []).length ∧ (am_sbyt.getD k []).length ≤ 6 := by decide +kernel
theorem sp_wd_len {tp : Nat → Int32} : ∀ {l : List Int32} {s e : Nat}, sp_wd tp l s e = true → e = s + l.length
  | [], s, e, h => by
    simp only [sp_wd, decide_eq_true_eq] at h
    simp [h]
  | c :: l, s, e, h => by
    simp only [sp_wd, Bool.and_eq_true, decide_eq_true_eq] at h
    have := sp_wd_len h.2.2
    simp only [List.length_cons]
    omega
theorem sp_wd_f {tp : Nat → Int32} {l : List Int32} {s e : Nat} (h : e ≠ s + l.length) : sp_wd tp l s e = false := by
  by_cases q : sp_wd tp l s e = true
  · exact absurd (sp_wd_len q) h
  · simpa using q
section CON
variable {d : Nat} {Y : List am_C} {h : am_H} {tp : Nat → Int32} {tz : Nat} {K : List Value → List am_C → am_H → Prop}
set_option maxHeartbeats 4000000 in
set_option maxRecDepth 100000 in
theorem c_X0_isWord {u : UInt32} {k s e : Nat} (hd : 6 ≤ d) (hO : am_own Y) (hu : u.toNat = k) (hk : k < 12) (hs : s ≤ e) (he : e ≤ tz) (htz : tz ≤ 160) (h3 : h 35 3 = nI tz) (h5 : h 35 5 = nI e) (h7 : h 35 7 = nI s) (ht : ∀ i, i < tz → h 36 i = tp i) (h1 : sp_w tp k s e = true → K [.int 1] Y h) (h0 : sp_w tp k s e = false → K [.int 0] Y h) : am_Met d 0 0 YX0_isWord [.ref 35, .float u] Y h K := by
  refine en_X0_isWord fun X F hr => ?_
  obtain ⟨o0, o1, o2, o3, o35, o36, o37, o38, o39, o40, o41⟩ := id hO
  obtain ⟨l1, l2⟩ := am_sl k hk
  unfold sp_w at h1 h0
  have loop : e = s + (am_sbyt.getD k []).length → ∀ i, i ≤ (am_sbyt.getD k []).length → (fun i => sp_wd tp (am_sbyt.getD k []) s e = sp_wd tp ((am_sbyt.getD k []).drop i) (s + i) e → am_At X (am_MQ X K 0 0) 3 0 0 31 [.ref 35, .float u, .int (nI i)] [] Y h) i := fun hl => am_for _
    (fun hi => by
      rw [List.drop_length, ← hl] at hi
      refine sd_X0_isWord_31 F hr _ _ _ _ ?_
      simp only [te_X0_isWord_31, te_X0_isWord_66, te_X0_isWord_39, te_X0_isWord_60, te_X0_isWord_58, o35, hu, l1, Int32.reduceLT, Int32.reduceLE, eq_self, am_10, am_00, am_01, am_11, true_implies, false_implies, not_true_eq_false, not_false_eq_true, or_true, true_or, and_self, implies_true, qtm_push, qtm_iload, qtm_lload, qtm_aload, qtm_istore, qtm_lstore, qtm_astore, qtm_iinc, qtm_un, qtm_bin, qtm_div, qtm_lbin, qtm_ldiv, qtm_lsh, qtm_lcmp, qtm_i2l, qtm_l2i, qtm_if, qtm_cmp, qtm_getf, qtm_puti, qtm_putz, qtm_putl, qtm_iald, qtm_iast, qtm_zald, qtm_zast, qtm_aald, qtm_tsw, qtm_callV, qtm_callS, qtm_acp, qtm_alen, qtm_max, qtm_min, qtm_dup, qtm_pop, qtm_iret, qtm_zret, qtm_lret, qtm_aret, qtm_vret, qtm_swn, qtm_swc, am_oi_c, am_ol_c, am_or_r, am_or_f, am_pi_c, am_pj_c, am_pr_c, am_pa_r, am_pa_f, am_yo_c, am_ya_c, am_fv_i, am_fv_l, am_fv_r, am_fi_c, am_fl_c, am_rv_c, am_n2_s, am_n2_n, am_pv_0, am_pv_s, am_cs_n, am_cs_c, Value.category, List.getElem?_cons_zero, List.getElem?_cons_succ, List.set_cons_zero, List.set_cons_succ, List.length_cons, List.length_nil, List.drop_succ_cons, List.drop_zero, List.take_succ_cons, List.take_zero, List.take_nil, List.reverse_cons, List.reverse_nil, List.nil_append, List.cons_append, List.append_nil, true_and, and_true, Int.reduceAdd, am_o0, am_o1, am_o2, am_o3, am_o4, am_o5, am_o6, am_o7, am_o8, am_o9, am_o10, am_o11, am_o12, am_o13, am_o14, am_o15, am_o16, am_o17, am_o18, am_o19, am_o20, am_o21, am_o22, am_o23, am_o24, am_o25, am_o26, am_o27, Nat.reduceAdd, Nat.reduceLeDiff, Nat.reduceLT, Nat.zero_le, qtm_slen, qtm_sch, am_pf_c]
      refine ⟨hk, by omega, fun _ => h1 (by rw [hi]; exact decide_eq_true rfl), fun z => absurd (nI_le (Nat.le_refl _) (by omega)) z⟩)
    (fun i hi ih hh => by
      have hil : i < (am_sbyt.getD k []).length := hi
      have ed : (am_sbyt.getD k []).drop i = (am_sbyt.getD k [])[i] :: (am_sbyt.getD k []).drop (i + 1) := List.drop_eq_getElem_cons hil
      have eg : (am_sbyt.getD k []).getD i 0 = (am_sbyt.getD k [])[i] := by rw [List.getD_eq_getElem?_getD, List.getElem?_eq_getElem hil]; rfl
      rw [ed, sp_wd] at hh
      rw [← eg] at hh
      rw [show s + (i + 1) = s + i + 1 by omega] at ih
      refine sd_X0_isWord_31 F hr _ _ _ _ ?_
      simp only [te_X0_isWord_31, te_X0_isWord_66, te_X0_isWord_39, te_X0_isWord_60, te_X0_isWord_58, o35, o36, hu, l1, h7, nI_add, nI_1, nI_clamp (show s + i < 2 ^ 31 by omega), nI_clamp (show i < 2 ^ 31 by omega), ht (s + i) (by omega), Int32.reduceLT, Int32.reduceLE, eq_self, am_10, am_00, am_01, am_11, true_implies, false_implies, not_true_eq_false, not_false_eq_true, or_true, true_or, and_self, implies_true, qtm_push, qtm_iload, qtm_lload, qtm_aload, qtm_istore, qtm_lstore, qtm_astore, qtm_iinc, qtm_un, qtm_bin, qtm_div, qtm_lbin, qtm_ldiv, qtm_lsh, qtm_lcmp, qtm_i2l, qtm_l2i, qtm_if, qtm_cmp, qtm_getf, qtm_puti, qtm_putz, qtm_putl, qtm_iald, qtm_iast, qtm_zald, qtm_zast, qtm_aald, qtm_tsw, qtm_callV, qtm_callS, qtm_acp, qtm_alen, qtm_max, qtm_min, qtm_dup, qtm_pop, qtm_iret, qtm_zret, qtm_lret, qtm_aret, qtm_vret, qtm_swn, qtm_swc, am_oi_c, am_ol_c, am_or_r, am_or_f, am_pi_c, am_pj_c, am_pr_c, am_pa_r, am_pa_f, am_yo_c, am_ya_c, am_fv_i, am_fv_l, am_fv_r, am_fi_c, am_fl_c, am_rv_c, am_n2_s, am_n2_n, am_pv_0, am_pv_s, am_cs_n, am_cs_c, Value.category, List.getElem?_cons_zero, List.getElem?_cons_succ, List.set_cons_zero, List.set_cons_succ, List.length_cons, List.length_nil, List.drop_succ_cons, List.drop_zero, List.take_succ_cons, List.take_zero, List.take_nil, List.reverse_cons, List.reverse_nil, List.nil_append, List.cons_append, List.append_nil, true_and, and_true, Int.reduceAdd, am_o0, am_o1, am_o2, am_o3, am_o4, am_o5, am_o6, am_o7, am_o8, am_o9, am_o10, am_o11, am_o12, am_o13, am_o14, am_o15, am_o16, am_o17, am_o18, am_o19, am_o20, am_o21, am_o22, am_o23, am_o24, am_o25, am_o26, am_o27, Nat.reduceAdd, Nat.reduceLeDiff, Nat.reduceLT, Nat.zero_le, qtm_slen, qtm_sch, am_pf_c]
      refine ⟨hk, by omega, fun z => absurd ((nI_leI (by omega) (by omega)).mp z) (by omega), fun _ => ⟨vp_in_nI (by omega) (by decide), hk, by omega, vp_in_nI hil (by omega), fun z => ih ?_, fun z => h0 ?_⟩⟩
      · rw [hh, decide_eq_true (show s + i < e by omega), decide_eq_true z, Bool.true_and, Bool.true_and]
      · rw [hh, decide_eq_false z, Bool.false_and, Bool.and_false])
  simp only [te_X0_isWord_0, te_X0_isWord_27, te_X0_isWord_16, te_X0_isWord_29, o35, hu, l1, h3, h5, h7, Int32.reduceLT, Int32.reduceLE, eq_self, am_10, am_00, am_01, am_11, true_implies, false_implies, not_true_eq_false, not_false_eq_true, or_true, true_or, and_self, implies_true, qtm_push, qtm_iload, qtm_lload, qtm_aload, qtm_istore, qtm_lstore, qtm_astore, qtm_iinc, qtm_un, qtm_bin, qtm_div, qtm_lbin, qtm_ldiv, qtm_lsh, qtm_lcmp, qtm_i2l, qtm_l2i, qtm_if, qtm_cmp, qtm_getf, qtm_puti, qtm_putz, qtm_putl, qtm_iald, qtm_iast, qtm_zald, qtm_zast, qtm_aald, qtm_tsw, qtm_callV, qtm_callS, qtm_acp, qtm_alen, qtm_max, qtm_min, qtm_dup, qtm_pop, qtm_iret, qtm_zret, qtm_lret, qtm_aret, qtm_vret, qtm_swn, qtm_swc, am_oi_c, am_ol_c, am_or_r, am_or_f, am_pi_c, am_pj_c, am_pr_c, am_pa_r, am_pa_f, am_yo_c, am_ya_c, am_fv_i, am_fv_l, am_fv_r, am_fi_c, am_fl_c, am_rv_c, am_n2_s, am_n2_n, am_pv_0, am_pv_s, am_cs_n, am_cs_c, Value.category, List.getElem?_cons_zero, List.getElem?_cons_succ, List.set_cons_zero, List.set_cons_succ, List.length_cons, List.length_nil, List.drop_succ_cons, List.drop_zero, List.take_succ_cons, List.take_zero, List.take_nil, List.reverse_cons, List.reverse_nil, List.nil_append, List.cons_append, List.append_nil, true_and, and_true, Int.reduceAdd, am_o0, am_o1, am_o2, am_o3, am_o4, am_o5, am_o6, am_o7, am_o8, am_o9, am_o10, am_o11, am_o12, am_o13, am_o14, am_o15, am_o16, am_o17, am_o18, am_o19, am_o20, am_o21, am_o22, am_o23, am_o24, am_o25, am_o26, am_o27, Nat.reduceAdd, Nat.reduceLeDiff, Nat.reduceLT, Nat.zero_le, qtm_slen, qtm_sch, am_pf_c]
  rw [pk_sub hs]
  refine ⟨hk, by omega, fun z => ⟨fun _ => ?_, fun z2 => absurd (nI_le he (by omega)) z2⟩, fun z => h0 (sp_wd_f fun y => z (by rw [y]; congr 1; omega))⟩
  have hl : e = s + (am_sbyt.getD k []).length := by
    have := (nI_eq (by omega) (by omega)).mp z
    omega
  exact loop hl 0 (Nat.zero_le _) rfl
set_option maxHeartbeats 4000000 in
set_option maxRecDepth 100000 in
theorem c_X0_isDigit {c : Int32} (h1 : sp_D c = true → K [.int 1] Y h) (h0 : sp_D c = false → K [.int 0] Y h) : am_Met d 0 0 YX0_isDigit [.int c] Y h K := by
  refine en_X0_isDigit fun X F hr => ?_
  simp only [te_X0_isDigit_0, te_X0_isDigit_6, te_X0_isDigit_16, te_X0_isDigit_17, te_X0_isDigit_12, Int32.reduceLT, Int32.reduceLE, eq_self, am_10, am_00, am_01, am_11, true_implies, false_implies, not_true_eq_false, not_false_eq_true, or_true, true_or, and_self, implies_true, qtm_push, qtm_iload, qtm_lload, qtm_aload, qtm_istore, qtm_lstore, qtm_astore, qtm_iinc, qtm_un, qtm_bin, qtm_div, qtm_lbin, qtm_ldiv, qtm_lsh, qtm_lcmp, qtm_i2l, qtm_l2i, qtm_if, qtm_cmp, qtm_getf, qtm_puti, qtm_putz, qtm_putl, qtm_iald, qtm_iast, qtm_zald, qtm_zast, qtm_aald, qtm_tsw, qtm_callV, qtm_callS, qtm_acp, qtm_alen, qtm_max, qtm_min, qtm_dup, qtm_pop, qtm_iret, qtm_zret, qtm_lret, qtm_aret, qtm_vret, qtm_swn, qtm_swc, am_oi_c, am_ol_c, am_or_r, am_or_f, am_pi_c, am_pj_c, am_pr_c, am_pa_r, am_pa_f, am_yo_c, am_ya_c, am_fv_i, am_fv_l, am_fv_r, am_fi_c, am_fl_c, am_rv_c, am_n2_s, am_n2_n, am_pv_0, am_pv_s, am_cs_n, am_cs_c, Value.category, List.getElem?_cons_zero, List.getElem?_cons_succ, List.set_cons_zero, List.set_cons_succ, List.length_cons, List.length_nil, List.drop_succ_cons, List.drop_zero, List.take_succ_cons, List.take_zero, List.take_nil, List.reverse_cons, List.reverse_nil, List.nil_append, List.cons_append, List.append_nil, true_and, and_true, Int.reduceAdd, am_o0, am_o1, am_o2, am_o3, am_o4, am_o5, am_o6, am_o7, am_o8, am_o9, am_o10, am_o11, am_o12, am_o13, am_o14, am_o15, am_o16, am_o17, am_o18, am_o19, am_o20, am_o21, am_o22, am_o23, am_o24, am_o25, am_o26, am_o27, Nat.reduceAdd, Nat.reduceLeDiff, Nat.reduceLT, Nat.zero_le, qtm_slen, qtm_sch, am_pf_c]
  exact ⟨fun z => h0 (decide_eq_false fun y => absurd y.1 (Int32.not_le.mpr z)), fun z => ⟨fun z2 => h0 (decide_eq_false fun y => absurd y.2 (Int32.not_le.mpr z2)), fun z2 => h1 (decide_eq_true ⟨Int32.not_lt.mp z, Int32.not_lt.mp z2⟩)⟩⟩
set_option maxHeartbeats 4000000 in
set_option maxRecDepth 100000 in
theorem c_X0_isSmall {c : Int32} (h1 : sp_S c = true → K [.int 1] Y h) (h0 : sp_S c = false → K [.int 0] Y h) : am_Met d 0 0 YX0_isSmall [.int c] Y h K := by
  refine en_X0_isSmall fun X F hr => ?_
  simp only [te_X0_isSmall_0, te_X0_isSmall_6, te_X0_isSmall_16, te_X0_isSmall_17, te_X0_isSmall_12, Int32.reduceLT, Int32.reduceLE, eq_self, am_10, am_00, am_01, am_11, true_implies, false_implies, not_true_eq_false, not_false_eq_true, or_true, true_or, and_self, implies_true, qtm_push, qtm_iload, qtm_lload, qtm_aload, qtm_istore, qtm_lstore, qtm_astore, qtm_iinc, qtm_un, qtm_bin, qtm_div, qtm_lbin, qtm_ldiv, qtm_lsh, qtm_lcmp, qtm_i2l, qtm_l2i, qtm_if, qtm_cmp, qtm_getf, qtm_puti, qtm_putz, qtm_putl, qtm_iald, qtm_iast, qtm_zald, qtm_zast, qtm_aald, qtm_tsw, qtm_callV, qtm_callS, qtm_acp, qtm_alen, qtm_max, qtm_min, qtm_dup, qtm_pop, qtm_iret, qtm_zret, qtm_lret, qtm_aret, qtm_vret, qtm_swn, qtm_swc, am_oi_c, am_ol_c, am_or_r, am_or_f, am_pi_c, am_pj_c, am_pr_c, am_pa_r, am_pa_f, am_yo_c, am_ya_c, am_fv_i, am_fv_l, am_fv_r, am_fi_c, am_fl_c, am_rv_c, am_n2_s, am_n2_n, am_pv_0, am_pv_s, am_cs_n, am_cs_c, Value.category, List.getElem?_cons_zero, List.getElem?_cons_succ, List.set_cons_zero, List.set_cons_succ, List.length_cons, List.length_nil, List.drop_succ_cons, List.drop_zero, List.take_succ_cons, List.take_zero, List.take_nil, List.reverse_cons, List.reverse_nil, List.nil_append, List.cons_append, List.append_nil, true_and, and_true, Int.reduceAdd, am_o0, am_o1, am_o2, am_o3, am_o4, am_o5, am_o6, am_o7, am_o8, am_o9, am_o10, am_o11, am_o12, am_o13, am_o14, am_o15, am_o16, am_o17, am_o18, am_o19, am_o20, am_o21, am_o22, am_o23, am_o24, am_o25, am_o26, am_o27, Nat.reduceAdd, Nat.reduceLeDiff, Nat.reduceLT, Nat.zero_le, qtm_slen, qtm_sch, am_pf_c]
  exact ⟨fun z => h0 (decide_eq_false fun y => absurd y.1 (Int32.not_le.mpr z)), fun z => ⟨fun z2 => h0 (decide_eq_false fun y => absurd y.2 (Int32.not_le.mpr z2)), fun z2 => h1 (decide_eq_true ⟨Int32.not_lt.mp z, Int32.not_lt.mp z2⟩)⟩⟩
set_option maxHeartbeats 4000000 in
set_option maxRecDepth 100000 in
theorem c_X0_isSign {c : Int32} (h1 : sp_Gn c = true → K [.int 1] Y h) (h0 : sp_Gn c = false → K [.int 0] Y h) : am_Met d 0 0 YX0_isSign [.int c] Y h K := by
  refine en_X0_isSign fun X F hr => ?_
  have y1 : ∀ v : Int32, c = v → sp_Gn v = true → K [.int 1] Y h := fun v e z => h1 (by rw [e]; exact z)
  simp only [te_X0_isSign_0, te_X0_isSign_6, te_X0_isSign_48, te_X0_isSign_53, te_X0_isSign_12, te_X0_isSign_18, te_X0_isSign_24, te_X0_isSign_30, te_X0_isSign_36, te_X0_isSign_42, te_X0_isSign_52, Int32.reduceLT, Int32.reduceLE, eq_self, am_10, am_00, am_01, am_11, true_implies, false_implies, not_true_eq_false, not_false_eq_true, or_true, true_or, and_self, implies_true, qtm_push, qtm_iload, qtm_lload, qtm_aload, qtm_istore, qtm_lstore, qtm_astore, qtm_iinc, qtm_un, qtm_bin, qtm_div, qtm_lbin, qtm_ldiv, qtm_lsh, qtm_lcmp, qtm_i2l, qtm_l2i, qtm_if, qtm_cmp, qtm_getf, qtm_puti, qtm_putz, qtm_putl, qtm_iald, qtm_iast, qtm_zald, qtm_zast, qtm_aald, qtm_tsw, qtm_callV, qtm_callS, qtm_acp, qtm_alen, qtm_max, qtm_min, qtm_dup, qtm_pop, qtm_iret, qtm_zret, qtm_lret, qtm_aret, qtm_vret, qtm_swn, qtm_swc, am_oi_c, am_ol_c, am_or_r, am_or_f, am_pi_c, am_pj_c, am_pr_c, am_pa_r, am_pa_f, am_yo_c, am_ya_c, am_fv_i, am_fv_l, am_fv_r, am_fi_c, am_fl_c, am_rv_c, am_n2_s, am_n2_n, am_pv_0, am_pv_s, am_cs_n, am_cs_c, Value.category, List.getElem?_cons_zero, List.getElem?_cons_succ, List.set_cons_zero, List.set_cons_succ, List.length_cons, List.length_nil, List.drop_succ_cons, List.drop_zero, List.take_succ_cons, List.take_zero, List.take_nil, List.reverse_cons, List.reverse_nil, List.nil_append, List.cons_append, List.append_nil, true_and, and_true, Int.reduceAdd, am_o0, am_o1, am_o2, am_o3, am_o4, am_o5, am_o6, am_o7, am_o8, am_o9, am_o10, am_o11, am_o12, am_o13, am_o14, am_o15, am_o16, am_o17, am_o18, am_o19, am_o20, am_o21, am_o22, am_o23, am_o24, am_o25, am_o26, am_o27, Nat.reduceAdd, Nat.reduceLeDiff, Nat.reduceLT, Nat.zero_le, qtm_slen, qtm_sch, am_pf_c]
  refine ⟨fun z => y1 _ z rfl, fun z1 => ⟨fun z => y1 _ z rfl, fun z2 => ⟨fun z => y1 _ z rfl, fun z3 => ⟨fun z => y1 _ z rfl, fun z4 => ⟨fun z => y1 _ z rfl, fun z5 => ⟨fun z => y1 _ z rfl, fun z6 => ⟨fun z => y1 _ z rfl, fun z7 => ⟨fun z => y1 _ z rfl, fun z8 => ?_⟩⟩⟩⟩⟩⟩⟩⟩
  exact h0 (decide_eq_false fun y => by
    rcases y with y | y | y | y | y | y | y | y
    · exact z1 y
    · exact z2 y
    · exact z3 y
    · exact z4 y
    · exact z5 y
    · exact z6 y
    · exact z7 y
    · exact z8 y)
/-- the reader, but for what it looks at -/
def am_rf (h : am_H) (tp : Nat → Int32) (tz : Nat) : Prop := h 35 3 = nI tz ∧ tz ≤ 160 ∧ ∀ i, i < tz → h 36 i = tp i
theorem am_rf.up {h : am_H} {tp : Nat → Int32} {tz : Nat} (r : am_rf h tp tz) (k : Nat) (v : Int32) (hk : k ≠ 3) : am_rf (am_up h 35 k v) tp tz := ⟨by rw [am_up_ap, if_pos rfl, if_neg (Ne.symm hk)]; exact r.1, r.2.1, fun i hi => by rw [am_up_ne 36 (by decide)]; exact r.2.2 i hi⟩
/-- what looking at a token may change -/
def am_lk (h h1 : am_H) : Prop := (∀ a, a ≠ 35 → h1 a = h a) ∧ ∀ k, k < 5 → h1 35 k = h 35 k
theorem am_lk.rf (h : am_H) : am_lk h h := ⟨fun _ _ => rfl, fun _ _ => rfl⟩
theorem am_lk.tr {a b c : am_H} (h1 : am_lk a b) (h2 : am_lk b c) : am_lk a c := ⟨fun x q => (h2.1 x q).trans (h1.1 x q), fun k q => (h2.2 k q).trans (h1.2 k q)⟩
theorem am_lk.up {a b : am_H} (h1 : am_lk a b) (k : Nat) (v : Int32) (hk : 5 ≤ k) : am_lk a (am_up b 35 k v) := ⟨fun x q => (am_up_ne x q).trans (h1.1 x q), fun j q => by rw [am_up_ap, if_pos rfl, if_neg (by omega)]; exact h1.2 j q⟩
theorem am_rf.lk {h h1 : am_H} {tp : Nat → Int32} {tz : Nat} (r : am_rf h tp tz) (k : am_lk h h1) : am_rf h1 tp tz := ⟨(k.2 3 (by decide)).trans r.1, r.2.1, fun i hi => by rw [k.1 36 (by decide)]; exact r.2.2 i hi⟩
set_option maxHeartbeats 4000000 in
set_option maxRecDepth 100000 in
theorem c_X0_lookAtNumber {s : Nat} (hd : 1 ≤ d) (hO : am_own Y) (hf : am_rf h tp tz) (hs : s < tz) (hD : sp_D (tp s) = true) (h5 : h 35 5 = nI s) (h7 : h 35 7 = nI s) (hK : ∀ h1, am_lk h h1 → h1 35 5 = nI (sp_ne tp tz s) → h1 35 6 = nI (if sp_ne tp tz s - s ≤ 4 then 2 else 1) → h1 35 7 = nI s → h1 35 8 = nI (sp_nv tp s (min 4 (sp_ne tp tz s - s))) → K [] Y h1) : am_Met d 0 0 YX0_lookAtNumber [.ref 35] Y h K := by
  refine en_X0_lookAtNumber fun X F hr => ?_
  obtain ⟨o0, o1, o2, o3, o35, o36, o37, o38, o39, o40, o41⟩ := id hO
  obtain ⟨h3, htz, ht⟩ := id hf
  have fin : ∀ (i : Nat) (h' : am_H), s ≤ i → i ≤ tz → am_lk h h' → h' 35 5 = nI i → h' 35 7 = nI s → h' 35 8 = nI (sp_nv tp s (min 4 (i - s))) → sp_ne tp tz s = i → am_At X (am_MQ X K 0 0) 1 0 0 81 [.ref 35] [] Y h' := by
    intro i h' i0 i1 g1 g2 g3 g4 g5
    have e4 : (4 < nI (i - s)) ↔ 4 < i - s := nI_ltI (a := 4) (by decide) (by omega)
    have fi : ∀ v : Nat, (if i - s ≤ 4 then 2 else 1) = v → K [] Y (am_up h' 35 6 (nI v)) := by
      intro v hv
      refine hK _ (g1.up 6 _ (by decide)) ?_ ?_ ?_ ?_
      · rw [am_up_ap, if_pos rfl, if_neg (by decide), g5]; exact g2
      · rw [am_up_ap, if_pos rfl, if_pos rfl, g5, hv]
      · rw [am_up_ap, if_pos rfl, if_neg (by decide)]; exact g3
      · rw [am_up_ap, if_pos rfl, if_neg (by decide), g5]; exact g4
    refine sd_X0_lookAtNumber_81 F hr _ _ _ _ ?_
    simp only [te_X0_lookAtNumber_81, te_X0_lookAtNumber_99, te_X0_lookAtNumber_100, te_X0_lookAtNumber_95, o35, g2, g3, pk_sub i0, e4, Int32.reduceLT, Int32.reduceLE, eq_self, am_10, am_00, am_01, am_11, true_implies, false_implies, not_true_eq_false, not_false_eq_true, or_true, true_or, and_self, implies_true, qtm_push, qtm_iload, qtm_lload, qtm_aload, qtm_istore, qtm_lstore, qtm_astore, qtm_iinc, qtm_un, qtm_bin, qtm_div, qtm_lbin, qtm_ldiv, qtm_lsh, qtm_lcmp, qtm_i2l, qtm_l2i, qtm_if, qtm_cmp, qtm_getf, qtm_puti, qtm_putz, qtm_putl, qtm_iald, qtm_iast, qtm_zald, qtm_zast, qtm_aald, qtm_tsw, qtm_callV, qtm_callS, qtm_acp, qtm_alen, qtm_max, qtm_min, qtm_dup, qtm_pop, qtm_iret, qtm_zret, qtm_lret, qtm_aret, qtm_vret, qtm_swn, qtm_swc, am_oi_c, am_ol_c, am_or_r, am_or_f, am_pi_c, am_pj_c, am_pr_c, am_pa_r, am_pa_f, am_yo_c, am_ya_c, am_fv_i, am_fv_l, am_fv_r, am_fi_c, am_fl_c, am_rv_c, am_n2_s, am_n2_n, am_pv_0, am_pv_s, am_cs_n, am_cs_c, Value.category, List.getElem?_cons_zero, List.getElem?_cons_succ, List.set_cons_zero, List.set_cons_succ, List.length_cons, List.length_nil, List.drop_succ_cons, List.drop_zero, List.take_succ_cons, List.take_zero, List.take_nil, List.reverse_cons, List.reverse_nil, List.nil_append, List.cons_append, List.append_nil, true_and, and_true, Int.reduceAdd, am_o0, am_o1, am_o2, am_o3, am_o4, am_o5, am_o6, am_o7, am_o8, am_o9, am_o10, am_o11, am_o12, am_o13, am_o14, am_o15, am_o16, am_o17, am_o18, am_o19, am_o20, am_o21, am_o22, am_o23, am_o24, am_o25, am_o26, am_o27, Nat.reduceAdd, Nat.reduceLeDiff, Nat.reduceLT, Nat.zero_le, qtm_slen, qtm_sch, am_pf_c]
    exact ⟨fun z => fi 1 (if_neg (by omega)), fun z => fi 2 (if_pos (by omega))⟩
  have loop : ∀ i, s ≤ i → i ≤ tz → (fun i => ∀ h' : am_H, am_lk h h' → h' 35 5 = nI i → h' 35 7 = nI s → h' 35 8 = nI (sp_nv tp s (min 4 (i - s))) → (∀ j, s ≤ j → j < i → sp_D (tp j) = true) → sp_ne tp tz i = sp_ne tp tz s → am_At X (am_MQ X K 0 0) 1 0 0 5 [.ref 35] [] Y h') i := sp_to_ind (P := fun i => sp_D (tp i)) s fun i i0 i1 ih h' g1 g2 g3 g4 g5 g6 => by
    have e3 : h' 35 3 = nI tz := (g1.2 3 (by decide)).trans h3
    have e36 : h' 36 = h 36 := g1.1 36 (by decide)
    have fin0 : (tz ≤ i ∨ sp_D (tp i) = false) → am_At X (am_MQ X K 0 0) 1 0 0 81 [.ref 35] [] Y h' := by
      intro hc
      refine fin i h' i0 i1 g1 g2 g3 g4 ?_
      rw [← g6]
      rcases hc with hc | hc
      · exact sp_to_end hc
      · exact sp_to_no hc
    refine sd_X0_lookAtNumber_5 F hr _ _ _ _ ?_
    simp only [te_X0_lookAtNumber_5, te_X0_lookAtNumber_16, te_X0_lookAtNumber_31, te_X0_lookAtNumber_68, te_X0_lookAtNumber_44, o35, o36, e3, g2, e36, nI_clamp (show i < 2 ^ 31 by omega), Int32.reduceLT, Int32.reduceLE, eq_self, am_10, am_00, am_01, am_11, true_implies, false_implies, not_true_eq_false, not_false_eq_true, or_true, true_or, and_self, implies_true, qtm_push, qtm_iload, qtm_lload, qtm_aload, qtm_istore, qtm_lstore, qtm_astore, qtm_iinc, qtm_un, qtm_bin, qtm_div, qtm_lbin, qtm_ldiv, qtm_lsh, qtm_lcmp, qtm_i2l, qtm_l2i, qtm_if, qtm_cmp, qtm_getf, qtm_puti, qtm_putz, qtm_putl, qtm_iald, qtm_iast, qtm_zald, qtm_zast, qtm_aald, qtm_tsw, qtm_callV, qtm_callS, qtm_acp, qtm_alen, qtm_max, qtm_min, qtm_dup, qtm_pop, qtm_iret, qtm_zret, qtm_lret, qtm_aret, qtm_vret, qtm_swn, qtm_swc, am_oi_c, am_ol_c, am_or_r, am_or_f, am_pi_c, am_pj_c, am_pr_c, am_pa_r, am_pa_f, am_yo_c, am_ya_c, am_fv_i, am_fv_l, am_fv_r, am_fi_c, am_fl_c, am_rv_c, am_n2_s, am_n2_n, am_pv_0, am_pv_s, am_cs_n, am_cs_c, Value.category, List.getElem?_cons_zero, List.getElem?_cons_succ, List.set_cons_zero, List.set_cons_succ, List.length_cons, List.length_nil, List.drop_succ_cons, List.drop_zero, List.take_succ_cons, List.take_zero, List.take_nil, List.reverse_cons, List.reverse_nil, List.nil_append, List.cons_append, List.append_nil, true_and, and_true, Int.reduceAdd, am_o0, am_o1, am_o2, am_o3, am_o4, am_o5, am_o6, am_o7, am_o8, am_o9, am_o10, am_o11, am_o12, am_o13, am_o14, am_o15, am_o16, am_o17, am_o18, am_o19, am_o20, am_o21, am_o22, am_o23, am_o24, am_o25, am_o26, am_o27, Nat.reduceAdd, Nat.reduceLeDiff, Nat.reduceLT, Nat.zero_le, qtm_slen, qtm_sch, am_pf_c]
    refine ⟨fun z => fin0 (Or.inl ((nI_leI (by omega) (by omega)).mp z)), fun z => ?_⟩
    have hi : i < tz := Nat.not_le.mp fun y => z (nI_le y (by omega))
    refine ⟨vp_in_nI (by omega) (by decide), by omega, c_X0_isDigit (fun q => ?_) (fun q => ?_)⟩
    · rw [ht i hi] at q
      obtain ⟨v, v1, v2, v3⟩ := sp_D_in q
      have nx : sp_ne tp tz (i + 1) = sp_ne tp tz s := (sp_to_in (P := fun i => sp_D (tp i)) hi q).symm.trans g6
      have dg : ∀ j, s ≤ j → j < i + 1 → sp_D (tp j) = true := fun j j1 j2 => by
        rcases Nat.lt_or_ge j i with y | y
        · exact g5 j j1 y
        · rw [show j = i by omega]; exact q
      have e4 : ((4 : Int32) ≤ nI (i - s)) ↔ 4 ≤ i - s := nI_leI (a := 4) (by decide) (by omega)
      have lt4 := sp_nv_lt (tp := tp) (s := s) (min 4 (i - s)) (fun j hj => g5 (s + j) (by omega) (by have : min 4 (i - s) ≤ i - s := Nat.min_le_right _ _; omega))
      have b4 : sp_nv tp s (min 4 (i - s)) < 10000 := Nat.lt_of_lt_of_le lt4 (Nat.le_trans (Nat.pow_le_pow_right (by decide) (Nat.min_le_left 4 (i - s))) (by decide))
      have ev : nI (sp_nv tp s (min 4 (i - s))) * 10 + tp i - 48 = nI (sp_nv tp s (min 4 (i - s)) * 10 + v) := by
        rw [v2, show (10 : Int32) = nI 10 from rfl, pk_mul, nI_add, show (48 : Int32) = nI 48 from rfl, pk_sub (by omega)]
        congr 1
        omega
      simp only [o35, o36, g2, g3, g4, pk_sub i0, e4, e36, nI_clamp (show i < 2 ^ 31 by omega), ht i hi, am_up_ap, reduceIte, Nat.reduceEqDiff, nI_1, Int32.reduceLT, Int32.reduceLE, eq_self, am_10, am_00, am_01, am_11, true_implies, false_implies, not_true_eq_false, not_false_eq_true, or_true, true_or, and_self, implies_true, qtm_push, qtm_iload, qtm_lload, qtm_aload, qtm_istore, qtm_lstore, qtm_astore, qtm_iinc, qtm_un, qtm_bin, qtm_div, qtm_lbin, qtm_ldiv, qtm_lsh, qtm_lcmp, qtm_i2l, qtm_l2i, qtm_if, qtm_cmp, qtm_getf, qtm_puti, qtm_putz, qtm_putl, qtm_iald, qtm_iast, qtm_zald, qtm_zast, qtm_aald, qtm_tsw, qtm_callV, qtm_callS, qtm_acp, qtm_alen, qtm_max, qtm_min, qtm_dup, qtm_pop, qtm_iret, qtm_zret, qtm_lret, qtm_aret, qtm_vret, qtm_swn, qtm_swc, am_oi_c, am_ol_c, am_or_r, am_or_f, am_pi_c, am_pj_c, am_pr_c, am_pa_r, am_pa_f, am_yo_c, am_ya_c, am_fv_i, am_fv_l, am_fv_r, am_fi_c, am_fl_c, am_rv_c, am_n2_s, am_n2_n, am_pv_0, am_pv_s, am_cs_n, am_cs_c, Value.category, List.getElem?_cons_zero, List.getElem?_cons_succ, List.set_cons_zero, List.set_cons_succ, List.length_cons, List.length_nil, List.drop_succ_cons, List.drop_zero, List.take_succ_cons, List.take_zero, List.take_nil, List.reverse_cons, List.reverse_nil, List.nil_append, List.cons_append, List.append_nil, true_and, and_true, Int.reduceAdd, am_o0, am_o1, am_o2, am_o3, am_o4, am_o5, am_o6, am_o7, am_o8, am_o9, am_o10, am_o11, am_o12, am_o13, am_o14, am_o15, am_o16, am_o17, am_o18, am_o19, am_o20, am_o21, am_o22, am_o23, am_o24, am_o25, am_o26, am_o27, Nat.reduceAdd, Nat.reduceLeDiff, Nat.reduceLT, Nat.zero_le, qtm_slen, qtm_sch, am_pf_c]
      refine ⟨fun y => ?_, fun y => ⟨vp_in_nI (by omega) (by decide), ?_⟩⟩
      · refine ih hi q _ (g1.up 5 _ (by decide)) (by rw [am_up_ap, if_pos rfl, if_pos rfl]) (by rw [am_up_ap, if_pos rfl, if_neg (by decide)]; exact g3) ?_ dg nx
        rw [am_up_ap, if_pos rfl, if_neg (by decide), Nat.min_eq_left (by omega)]
        rw [Nat.min_eq_left (by omega)] at g4
        exact g4
      · rw [ev]
        refine ih hi q _ ((g1.up 8 _ (by decide)).up 5 _ (by decide)) (by rw [am_up_ap, if_pos rfl, if_pos rfl]) (by rw [am_up_ap, if_pos rfl, if_neg (by decide), am_up_ap, if_pos rfl, if_neg (by decide)]; exact g3) ?_ dg nx
        rw [am_up_ap, if_pos rfl, if_neg (by decide), am_up_ap, if_pos rfl, if_pos rfl, Nat.min_eq_right (show i - s ≤ 4 by omega), Nat.min_eq_right (show i + 1 - s ≤ 4 by omega), show i + 1 - s = (i - s) + 1 by omega, sp_nv, show s + (i - s) = i by omega, v3]
    · rw [ht i hi] at q
      simp only [Int32.reduceLT, Int32.reduceLE, eq_self, am_10, am_00, am_01, am_11, true_implies, false_implies, not_true_eq_false, not_false_eq_true, or_true, true_or, and_self, implies_true, qtm_push, qtm_iload, qtm_lload, qtm_aload, qtm_istore, qtm_lstore, qtm_astore, qtm_iinc, qtm_un, qtm_bin, qtm_div, qtm_lbin, qtm_ldiv, qtm_lsh, qtm_lcmp, qtm_i2l, qtm_l2i, qtm_if, qtm_cmp, qtm_getf, qtm_puti, qtm_putz, qtm_putl, qtm_iald, qtm_iast, qtm_zald, qtm_zast, qtm_aald, qtm_tsw, qtm_callV, qtm_callS, qtm_acp, qtm_alen, qtm_max, qtm_min, qtm_dup, qtm_pop, qtm_iret, qtm_zret, qtm_lret, qtm_aret, qtm_vret, qtm_swn, qtm_swc, am_oi_c, am_ol_c, am_or_r, am_or_f, am_pi_c, am_pj_c, am_pr_c, am_pa_r, am_pa_f, am_yo_c, am_ya_c, am_fv_i, am_fv_l, am_fv_r, am_fi_c, am_fl_c, am_rv_c, am_n2_s, am_n2_n, am_pv_0, am_pv_s, am_cs_n, am_cs_c, Value.category, List.getElem?_cons_zero, List.getElem?_cons_succ, List.set_cons_zero, List.set_cons_succ, List.length_cons, List.length_nil, List.drop_succ_cons, List.drop_zero, List.take_succ_cons, List.take_zero, List.take_nil, List.reverse_cons, List.reverse_nil, List.nil_append, List.cons_append, List.append_nil, true_and, and_true, Int.reduceAdd, am_o0, am_o1, am_o2, am_o3, am_o4, am_o5, am_o6, am_o7, am_o8, am_o9, am_o10, am_o11, am_o12, am_o13, am_o14, am_o15, am_o16, am_o17, am_o18, am_o19, am_o20, am_o21, am_o22, am_o23, am_o24, am_o25, am_o26, am_o27, Nat.reduceAdd, Nat.reduceLeDiff, Nat.reduceLT, Nat.zero_le, qtm_slen, qtm_sch, am_pf_c]
      exact fin0 (Or.inr q)
  simp only [te_X0_lookAtNumber_0, o35, Int32.reduceLT, Int32.reduceLE, eq_self, am_10, am_00, am_01, am_11, true_implies, false_implies, not_true_eq_false, not_false_eq_true, or_true, true_or, and_self, implies_true, qtm_push, qtm_iload, qtm_lload, qtm_aload, qtm_istore, qtm_lstore, qtm_astore, qtm_iinc, qtm_un, qtm_bin, qtm_div, qtm_lbin, qtm_ldiv, qtm_lsh, qtm_lcmp, qtm_i2l, qtm_l2i, qtm_if, qtm_cmp, qtm_getf, qtm_puti, qtm_putz, qtm_putl, qtm_iald, qtm_iast, qtm_zald, qtm_zast, qtm_aald, qtm_tsw, qtm_callV, qtm_callS, qtm_acp, qtm_alen, qtm_max, qtm_min, qtm_dup, qtm_pop, qtm_iret, qtm_zret, qtm_lret, qtm_aret, qtm_vret, qtm_swn, qtm_swc, am_oi_c, am_ol_c, am_or_r, am_or_f, am_pi_c, am_pj_c, am_pr_c, am_pa_r, am_pa_f, am_yo_c, am_ya_c, am_fv_i, am_fv_l, am_fv_r, am_fi_c, am_fl_c, am_rv_c, am_n2_s, am_n2_n, am_pv_0, am_pv_s, am_cs_n, am_cs_c, Value.category, List.getElem?_cons_zero, List.getElem?_cons_succ, List.set_cons_zero, List.set_cons_succ, List.length_cons, List.length_nil, List.drop_succ_cons, List.drop_zero, List.take_succ_cons, List.take_zero, List.take_nil, List.reverse_cons, List.reverse_nil, List.nil_append, List.cons_append, List.append_nil, true_and, and_true, Int.reduceAdd, am_o0, am_o1, am_o2, am_o3, am_o4, am_o5, am_o6, am_o7, am_o8, am_o9, am_o10, am_o11, am_o12, am_o13, am_o14, am_o15, am_o16, am_o17, am_o18, am_o19, am_o20, am_o21, am_o22, am_o23, am_o24, am_o25, am_o26, am_o27, Nat.reduceAdd, Nat.reduceLeDiff, Nat.reduceLT, Nat.zero_le, qtm_slen, qtm_sch, am_pf_c]
  exact loop s (Nat.le_refl s) (by omega) _ ((am_lk.rf h).up _ _ (by decide)) (by rw [am_up_ap, if_pos rfl, if_neg (by decide)]; exact h5) (by rw [am_up_ap, if_pos rfl, if_neg (by decide)]; exact h7) (by rw [am_up_ap, if_pos rfl, if_pos rfl, Nat.sub_self]; rfl) (fun j j1 j2 => absurd j2 (by omega)) rfl
end CON
