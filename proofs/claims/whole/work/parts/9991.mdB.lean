def sp_lt (tp : Nat → Int32) (s e i : Nat) (c : Int32) : Bool := if s + i < e then decide (tp (s + i) = c) else decide (c = 0)
def sp_c8 (k i : Nat) : Int32 := (am_sbyt.getD k []).getD i 0
theorem sp_wd_iff {tp : Nat → Int32} : ∀ {l : List Int32} {s e : Nat}, sp_wd tp l s e = true ↔ e = s + l.length ∧ ∀ i, i < l.length → tp (s + i) = l.getD i 0
  | [], s, e => by
    simp only [sp_wd, decide_eq_true_eq, List.length_nil, Nat.add_zero]
    exact ⟨fun h => ⟨h.symm, fun i hi => absurd hi (Nat.not_lt_zero i)⟩, fun h => h.1.symm⟩
  | c :: l, s, e => by
    simp only [sp_wd, Bool.and_eq_true, decide_eq_true_eq, sp_wd_iff (l := l) (s := s + 1) (e := e), List.length_cons]
    constructor
    · rintro ⟨h1, h2, h3, h4⟩
      refine ⟨by omega, fun i hi => ?_⟩
      cases i with
      | zero => exact h2
      | succ i =>
        have := h4 i (by omega)
        rw [show s + (i + 1) = s + 1 + i by omega, this]
        rfl
    · rintro ⟨h1, h2⟩
      refine ⟨by omega, h2 0 (by omega), by omega, fun i hi => ?_⟩
      have := h2 (i + 1) (by omega)
      rw [show s + (i + 1) = s + 1 + i by omega] at this
      rw [this]
      rfl
theorem sp_c8_in : ∀ k, k < 12 → ∀ i, i < 8 → (i < (am_sbyt.getD k []).length → sp_c8 k i ≠ 0) ∧ ((am_sbyt.getD k []).length ≤ i → sp_c8 k i = 0) := by decide +kernel
theorem sp_l8 {tp : Nat → Int32} {k s e : Nat} (hk : k < 12) (hs : s ≤ e) (hS : ∀ j, s ≤ j → j < e → tp j ≠ 0) : (∀ i, i < 8 → sp_lt tp s e i (sp_c8 k i) = true) ↔ sp_w tp k s e = true := by
  unfold sp_w
  rw [sp_wd_iff]
  obtain ⟨l1, l2⟩ := am_sl k hk
  constructor
  · intro h
    have in1 : ∀ i, i < (am_sbyt.getD k []).length → s + i < e ∧ tp (s + i) = sp_c8 k i := by
      intro i hi
      have h1 := h i (by omega)
      have h2 := (sp_c8_in k hk i (by omega)).1 hi
      unfold sp_lt at h1
      by_cases q : s + i < e
      · rw [if_pos q] at h1
        exact ⟨q, of_decide_eq_true h1⟩
      · rw [if_neg q] at h1
        exact absurd (of_decide_eq_true h1) h2
    refine ⟨?_, fun i hi => (in1 i hi).2⟩
    have h1 := h (am_sbyt.getD k []).length (by omega)
    have h2 := (sp_c8_in k hk (am_sbyt.getD k []).length (by omega)).2 (Nat.le_refl _)
    unfold sp_lt at h1
    have up : e ≤ s + (am_sbyt.getD k []).length := by
      rcases Nat.lt_or_ge (s + (am_sbyt.getD k []).length) e with q | q
      · rw [if_pos q] at h1
        exact absurd ((of_decide_eq_true h1).trans h2) (hS _ (by omega) q)
      · exact q
    rcases Nat.eq_zero_or_pos (am_sbyt.getD k []).length with z | z
    · omega
    · have := (in1 ((am_sbyt.getD k []).length - 1) (by omega)).1
      omega
  · rintro ⟨h1, h2⟩ i hi
    unfold sp_lt
    by_cases q : s + i < e
    · rw [if_pos q]
      exact decide_eq_true (h2 i (by omega))
    · rw [if_neg q]
      exact decide_eq_true ((sp_c8_in k hk i hi).2 (by omega))
theorem sp_rw_lt (tp : Nat → Int32) (tz s : Nat) : sp_rw tp tz s < 5 := by
  unfold sp_rw
  split
  · omega
  · split
    · omega
    · split
      · split <;> omega
      · split <;> omega
theorem sp_kw_lt (k : Nat) : sp_kw k < 40 ∨ 12 < k := by
  unfold sp_kw
  split
  · omega
  · split <;> omega
/-- what the token's kind is, by what the reference takes it for -/
theorem sp_rw_0 {tp : Nat → Int32} {tz s : Nat} : sp_rw tp tz s = 0 ↔ tz ≤ s := by
  unfold sp_rw
  split
  · omega
  · split
    · omega
    · split
      · split <;> omega
      · split <;> omega
theorem sp_rw_1 {tp : Nat → Int32} {tz s : Nat} (h : sp_rw tp tz s = 1) : sp_kd tp tz s = sp_kw (sp_wi tp s (sp_we tp tz s)) ∧ sp_vl tp tz s = sp_wi tp s (sp_we tp tz s) ∧ s < tz ∧ sp_S (tp s) = true := by
  unfold sp_rw at h
  split at h
  · exact absurd h (by decide)
  · split at h
    · rename_i h1 h2
      have nD := sp_SD h2
      refine ⟨?_, ?_, by omega, h2⟩
      · unfold sp_kd; rw [if_neg h1, if_neg (by rw [nD]; decide), if_pos h2]
      · unfold sp_vl; rw [if_neg (by rw [nD]; decide)]
    · split at h
      · split at h <;> exact absurd h (by decide)
      · split at h <;> exact absurd h (by decide)
theorem sp_rw_2 {tp : Nat → Int32} {tz s : Nat} (h : sp_rw tp tz s = 2) : sp_kd tp tz s = 2 := by
  unfold sp_rw at h
  split at h
  · exact absurd h (by decide)
  · split at h
    · exact absurd h (by decide)
    · split at h
      · rename_i h1 h2 h3
        unfold sp_kd
        rw [if_neg h1, if_pos h3]
        split at h
        · rename_i h4; rw [if_pos h4]
        · exact absurd h (by decide)
      · split at h <;> exact absurd h (by decide)
theorem sp_rw_3 {tp : Nat → Int32} {tz s : Nat} (h : sp_rw tp tz s = 3) : sp_kd tp tz s = (tp s).toNatClampNeg ∧ tp s = nI (tp s).toNatClampNeg ∧ 40 ≤ (tp s).toNatClampNeg ∧ (tp s).toNatClampNeg ≤ 61 := by
  unfold sp_rw at h
  split at h
  · exact absurd h (by decide)
  · split at h
    · exact absurd h (by decide)
    · split at h
      · split at h <;> exact absurd h (by decide)
      · split at h
        · rename_i h1 h2 h3 h4
          refine ⟨?_, sp_Gn_in h4⟩
          unfold sp_kd
          rw [if_neg h1, if_neg h3, if_neg h2, if_pos h4]
        · exact absurd h (by decide)
theorem sp_rw_4 {tp : Nat → Int32} {tz s : Nat} (h : sp_rw tp tz s = 4) : sp_kd tp tz s = 1 := by
  unfold sp_rw at h
  split at h
  · exact absurd h (by decide)
  · split at h
    · exact absurd h (by decide)
    · split at h
      · rename_i h1 h2 h3
        unfold sp_kd
        rw [if_neg h1, if_pos h3]
        split at h
        · exact absurd h (by decide)
        · rename_i h4; rw [if_neg h4]
      · split at h
        · exact absurd h (by decide)
        · rename_i h1 h2 h3 h4
          unfold sp_kd
          rw [if_neg h1, if_neg h3, if_neg h2, if_neg h4]
theorem sp_kw_12 {k : Nat} : sp_kw k < 12 ∨ sp_kw k = k - 2 := by
  unfold sp_kw
  split
  · omega
  · split <;> omega
theorem sp_sign_kd {tp : Nat → Int32} {tz s c : Nat} (hc : 40 ≤ c) (h : sp_kd tp tz s = c) : sp_rw tp tz s = 3 := by
  have hl := sp_rw_lt tp tz s
  rcases (show sp_rw tp tz s = 0 ∨ sp_rw tp tz s = 1 ∨ sp_rw tp tz s = 2 ∨ sp_rw tp tz s = 3 ∨ sp_rw tp tz s = 4 by omega) with q | q | q | q | q
  · have := sp_rw_0.mp q
    unfold sp_kd at h
    rw [if_pos this] at h
    omega
  · have := (sp_rw_1 q).1
    have h12 := sp_wi_le tp s (sp_we tp tz s)
    have := sp_kw_lt (sp_wi tp s (sp_we tp tz s))
    omega
  · have := sp_rw_2 q; omega
  · exact q
  · have := sp_rw_4 q; omega
theorem sp_word_kd {tp : Nat → Int32} {tz s k : Nat} (hk : 6 ≤ k ∧ k < 12) : (sp_rw tp tz s = 1 ∧ sp_w tp k s (sp_we tp tz s) = true) ↔ sp_kd tp tz s = k - 2 := by
  constructor
  · rintro ⟨h1, h2⟩
    rw [(sp_rw_1 h1).1, (sp_wi_w hk.2).mpr h2]
    unfold sp_kw
    rw [if_neg (by omega), if_pos hk.2]
  · intro h
    have hl := sp_rw_lt tp tz s
    rcases (show sp_rw tp tz s = 0 ∨ sp_rw tp tz s = 1 ∨ sp_rw tp tz s = 2 ∨ sp_rw tp tz s = 3 ∨ sp_rw tp tz s = 4 by omega) with q | q | q | q | q
    · have := sp_rw_0.mp q
      unfold sp_kd at h
      rw [if_pos this] at h
      omega
    · refine ⟨q, (sp_wi_w hk.2).mp ?_⟩
      rw [(sp_rw_1 q).1] at h
      unfold sp_kw at h
      split at h
      · omega
      · split at h <;> omega
    · have := sp_rw_2 q; omega
    · have := sp_rw_3 q; omega
    · have := sp_rw_4 q; omega
theorem am_i2l_inj {a b : Int32} : a.toInt64 = b.toInt64 ↔ a = b := by
  constructor
  · intro h
    have := congrArg Int64.toInt h
    rw [Int32.toInt_toInt64, Int32.toInt_toInt64] at this
    exact Int32.toInt_inj.mp this
  · intro h; rw [h]
section CON
variable {d : Nat} {Y : List am_C} {h : am_H} {tp : Nat → Int32} {tz t : Nat} {K : List Value → List am_C → am_H → Prop}
set_option maxHeartbeats 4000000 in
set_option maxRecDepth 100000 in
theorem c_X6_fail {s : Nat} (hm : am_mod Y) (h26 : h 49 26 = nI s) (h0 : h 49 29 = 0 → K [] Y (am_up (am_up h 49 29 1) 49 30 (nI s))) (h1 : h 49 29 ≠ 0 → K [] Y h) : am_Met d 0 0 YX6_fail [.ref 49] Y h K := by
  refine en_X6_fail fun X F hr => ?_
  have m0 := hm.1
  have e : am_up h 49 29 1 49 26 = nI s := by rw [am_up_ap, if_pos rfl, if_neg (by decide)]; exact h26
  simp only [te_X6_fail_0, te_X6_fail_7, te_X6_fail_20, m0, mc_0, mc_1, mc_2, mc_3, mc_4, mc_5, mc_6, mc_7, mc_8, mc_9, mc_10, mc_11, mc_12, mc_13, mc_14, mc_15, mc_16, mc_17, mc_18, mc_19, mc_20, mc_21, mc_22, mc_23, mc_24, mc_25, mc_26, mc_27, mc_28, mc_29, mc_30, mc_31, mc_32, mc_33, mc_34, mc_35, mc_36, mc_37, mc_38, mc_39, mc_40, mc_41, mc_42, mc_43, mc_44, mc_45, e, Int32.reduceLT, Int32.reduceLE, eq_self, am_10, am_00, am_01, am_11, true_implies, false_implies, not_true_eq_false, not_false_eq_true, or_true, true_or, and_self, implies_true, qtm_push, qtm_iload, qtm_lload, qtm_aload, qtm_istore, qtm_lstore, qtm_astore, qtm_iinc, qtm_un, qtm_bin, qtm_div, qtm_lbin, qtm_ldiv, qtm_lsh, qtm_lcmp, qtm_i2l, qtm_l2i, qtm_if, qtm_cmp, qtm_getf, qtm_puti, qtm_putz, qtm_putl, qtm_iald, qtm_iast, qtm_zald, qtm_zast, qtm_aald, qtm_tsw, qtm_callV, qtm_callS, qtm_acp, qtm_alen, qtm_max, qtm_min, qtm_dup, qtm_pop, qtm_iret, qtm_zret, qtm_lret, qtm_aret, qtm_vret, qtm_swn, qtm_swc, am_oi_c, am_ol_c, am_or_r, am_or_f, am_pi_c, am_pj_c, am_pr_c, am_pa_r, am_pa_f, am_yo_c, am_ya_c, am_fv_i, am_fv_l, am_fv_r, am_fi_c, am_fl_c, am_rv_c, am_n2_s, am_n2_n, am_pv_0, am_pv_s, am_cs_n, am_cs_c, Value.category, List.getElem?_cons_zero, List.getElem?_cons_succ, List.set_cons_zero, List.set_cons_succ, List.length_cons, List.length_nil, List.drop_succ_cons, List.drop_zero, List.take_succ_cons, List.take_zero, List.take_nil, List.reverse_cons, List.reverse_nil, List.nil_append, List.cons_append, List.append_nil, true_and, and_true, Int.reduceAdd, am_o0, am_o1, am_o2, am_o3, am_o4, am_o5, am_o6, am_o7, am_o8, am_o9, am_o10, am_o11, am_o12, am_o13, am_o14, am_o15, am_o16, am_o17, am_o18, am_o19, am_o20, am_o21, am_o22, am_o23, am_o24, am_o25, am_o26, am_o27, Nat.reduceAdd, Nat.reduceLeDiff, Nat.reduceLT, Nat.zero_le, qtm_slen, qtm_sch, am_pf_c]
  exact ⟨fun z => h0 z, fun z => h1 z⟩
set_option maxHeartbeats 4000000 in
set_option maxRecDepth 100000 in
theorem c_X6_isLetter {s e i : Nat} {c : Int32} (hd : 1 ≤ d) (hm : am_mod Y) (hf : am_mf h tp tz t) (h26 : h 49 26 = nI s) (h24 : h 49 24 = nI e) (he : e ≤ tz) (hs : s ≤ e) (hi : i < 8) (h1 : sp_lt tp s e i c = true → K [.int 1] Y h) (h0 : sp_lt tp s e i c = false → K [.int 0] Y h) : am_Met d 0 0 YX6_isLetter [.ref 49, .int (nI i), .int c] Y h K := by
  refine en_X6_isLetter fun X F hr => ?_
  have m0 := hm.1
  have htz := hf.2.2.1
  unfold sp_lt at h1 h0
  simp only [te_X6_isLetter_0, te_X6_isLetter_35, te_X6_isLetter_43, te_X6_isLetter_44, te_X6_isLetter_39, te_X6_isLetter_13, te_X6_isLetter_31, te_X6_isLetter_27, m0, mc_0, mc_1, mc_2, mc_3, mc_4, mc_5, mc_6, mc_7, mc_8, mc_9, mc_10, mc_11, mc_12, mc_13, mc_14, mc_15, mc_16, mc_17, mc_18, mc_19, mc_20, mc_21, mc_22, mc_23, mc_24, mc_25, mc_26, mc_27, mc_28, mc_29, mc_30, mc_31, mc_32, mc_33, mc_34, mc_35, mc_36, mc_37, mc_38, mc_39, mc_40, mc_41, mc_42, mc_43, mc_44, mc_45, h26, h24, nI_add, Int32.reduceLT, Int32.reduceLE, eq_self, am_10, am_00, am_01, am_11, true_implies, false_implies, not_true_eq_false, not_false_eq_true, or_true, true_or, and_self, implies_true, qtm_push, qtm_iload, qtm_lload, qtm_aload, qtm_istore, qtm_lstore, qtm_astore, qtm_iinc, qtm_un, qtm_bin, qtm_div, qtm_lbin, qtm_ldiv, qtm_lsh, qtm_lcmp, qtm_i2l, qtm_l2i, qtm_if, qtm_cmp, qtm_getf, qtm_puti, qtm_putz, qtm_putl, qtm_iald, qtm_iast, qtm_zald, qtm_zast, qtm_aald, qtm_tsw, qtm_callV, qtm_callS, qtm_acp, qtm_alen, qtm_max, qtm_min, qtm_dup, qtm_pop, qtm_iret, qtm_zret, qtm_lret, qtm_aret, qtm_vret, qtm_swn, qtm_swc, am_oi_c, am_ol_c, am_or_r, am_or_f, am_pi_c, am_pj_c, am_pr_c, am_pa_r, am_pa_f, am_yo_c, am_ya_c, am_fv_i, am_fv_l, am_fv_r, am_fi_c, am_fl_c, am_rv_c, am_n2_s, am_n2_n, am_pv_0, am_pv_s, am_cs_n, am_cs_c, Value.category, List.getElem?_cons_zero, List.getElem?_cons_succ, List.set_cons_zero, List.set_cons_succ, List.length_cons, List.length_nil, List.drop_succ_cons, List.drop_zero, List.take_succ_cons, List.take_zero, List.take_nil, List.reverse_cons, List.reverse_nil, List.nil_append, List.cons_append, List.append_nil, true_and, and_true, Int.reduceAdd, am_o0, am_o1, am_o2, am_o3, am_o4, am_o5, am_o6, am_o7, am_o8, am_o9, am_o10, am_o11, am_o12, am_o13, am_o14, am_o15, am_o16, am_o17, am_o18, am_o19, am_o20, am_o21, am_o22, am_o23, am_o24, am_o25, am_o26, am_o27, Nat.reduceAdd, Nat.reduceLeDiff, Nat.reduceLT, Nat.zero_le, qtm_slen, qtm_sch, am_pf_c]
  refine ⟨fun z => ?_, fun z => ⟨by omega, c_X6_byteAt hm hf (by omega) ?_⟩⟩
  · have q : ¬ s + i < e := fun y => by have := (nI_leI (by omega) (by omega)).mp z; omega
    rw [if_neg q] at h1 h0
    exact ⟨fun y => h1 (decide_eq_true y), fun y => h0 (decide_eq_false y)⟩
  · have q : s + i < e := Nat.not_le.mp fun y => z (nI_le y (by omega))
    rw [if_pos q] at h1 h0
    unfold sp_by
    rw [if_pos (by omega)]
    simp only [Int32.reduceLT, Int32.reduceLE, eq_self, am_10, am_00, am_01, am_11, true_implies, false_implies, not_true_eq_false, not_false_eq_true, or_true, true_or, and_self, implies_true, qtm_push, qtm_iload, qtm_lload, qtm_aload, qtm_istore, qtm_lstore, qtm_astore, qtm_iinc, qtm_un, qtm_bin, qtm_div, qtm_lbin, qtm_ldiv, qtm_lsh, qtm_lcmp, qtm_i2l, qtm_l2i, qtm_if, qtm_cmp, qtm_getf, qtm_puti, qtm_putz, qtm_putl, qtm_iald, qtm_iast, qtm_zald, qtm_zast, qtm_aald, qtm_tsw, qtm_callV, qtm_callS, qtm_acp, qtm_alen, qtm_max, qtm_min, qtm_dup, qtm_pop, qtm_iret, qtm_zret, qtm_lret, qtm_aret, qtm_vret, qtm_swn, qtm_swc, am_oi_c, am_ol_c, am_or_r, am_or_f, am_pi_c, am_pj_c, am_pr_c, am_pa_r, am_pa_f, am_yo_c, am_ya_c, am_fv_i, am_fv_l, am_fv_r, am_fi_c, am_fl_c, am_rv_c, am_n2_s, am_n2_n, am_pv_0, am_pv_s, am_cs_n, am_cs_c, Value.category, List.getElem?_cons_zero, List.getElem?_cons_succ, List.set_cons_zero, List.set_cons_succ, List.length_cons, List.length_nil, List.drop_succ_cons, List.drop_zero, List.take_succ_cons, List.take_zero, List.take_nil, List.reverse_cons, List.reverse_nil, List.nil_append, List.cons_append, List.append_nil, true_and, and_true, Int.reduceAdd, am_o0, am_o1, am_o2, am_o3, am_o4, am_o5, am_o6, am_o7, am_o8, am_o9, am_o10, am_o11, am_o12, am_o13, am_o14, am_o15, am_o16, am_o17, am_o18, am_o19, am_o20, am_o21, am_o22, am_o23, am_o24, am_o25, am_o26, am_o27, Nat.reduceAdd, Nat.reduceLeDiff, Nat.reduceLT, Nat.zero_le, qtm_slen, qtm_sch, am_pf_c]
    exact ⟨fun y => h1 (decide_eq_true y), fun y => h0 (decide_eq_false y)⟩
set_option maxHeartbeats 4000000 in
set_option maxRecDepth 100000 in
theorem c_X6_isWord {k s : Nat} {x1 x2 x3 x4 x5 x6 x7 x8 : Int32} (hd : 2 ≤ d) (hm : am_mod Y) (hf : am_mf h tp tz t) (ht : am_mt h tp tz s) (hs : s ≤ tz) (hb : h 49 29 = 0) (hk : k < 12) (hx : x1 = sp_c8 k 0 ∧ x2 = sp_c8 k 1 ∧ x3 = sp_c8 k 2 ∧ x4 = sp_c8 k 3 ∧ x5 = sp_c8 k 4 ∧ x6 = sp_c8 k 5 ∧ x7 = sp_c8 k 6 ∧ x8 = sp_c8 k 7) (h1 : sp_rw tp tz s = 1 → sp_w tp k s (sp_we tp tz s) = true → K [.int 1] Y h) (h0 : ¬ (sp_rw tp tz s = 1 ∧ sp_w tp k s (sp_we tp tz s) = true) → K [.int 0] Y h) : am_Met d 0 0 YX6_isWord [.ref 49, .int x1, .int x2, .int x3, .int x4, .int x5, .int x6, .int x7, .int x8] Y h K := by
  refine en_X6_isWord fun X F hr => ?_
  have m0 := hm.1
  have htz := hf.2.2.1
  obtain ⟨t1, t2, t3, t4, t5⟩ := ht
  obtain ⟨y1, y2, y3, y4, y5, y6, y7, y8⟩ := hx
  have rlt : sp_rw tp tz s < 5 := by
    unfold sp_rw
    split
    · omega
    · split
      · omega
      · split
        · split <;> omega
        · split <;> omega
  have e1 : (nI (sp_rw tp tz s) = 1) ↔ sp_rw tp tz s = 1 := nI_eq (b := 1) (by omega) (by decide)
  simp only [te_X6_isWord_0, te_X6_isWord_7, te_X6_isWord_15, te_X6_isWord_29, te_X6_isWord_38, te_X6_isWord_47, te_X6_isWord_56, te_X6_isWord_66, te_X6_isWord_76, te_X6_isWord_86, te_X6_isWord_97, te_X6_isWord_112, te_X6_isWord_113, te_X6_isWord_108, m0, mc_0, mc_1, mc_2, mc_3, mc_4, mc_5, mc_6, mc_7, mc_8, mc_9, mc_10, mc_11, mc_12, mc_13, mc_14, mc_15, mc_16, mc_17, mc_18, mc_19, mc_20, mc_21, mc_22, mc_23, mc_24, mc_25, mc_26, mc_27, mc_28, mc_29, mc_30, mc_31, mc_32, mc_33, mc_34, mc_35, mc_36, mc_37, mc_38, mc_39, mc_40, mc_41, mc_42, mc_43, mc_44, mc_45, hb, t1, e1, Int32.reduceLT, Int32.reduceLE, eq_self, am_10, am_00, am_01, am_11, true_implies, false_implies, not_true_eq_false, not_false_eq_true, or_true, true_or, and_self, implies_true, qtm_push, qtm_iload, qtm_lload, qtm_aload, qtm_istore, qtm_lstore, qtm_astore, qtm_iinc, qtm_un, qtm_bin, qtm_div, qtm_lbin, qtm_ldiv, qtm_lsh, qtm_lcmp, qtm_i2l, qtm_l2i, qtm_if, qtm_cmp, qtm_getf, qtm_puti, qtm_putz, qtm_putl, qtm_iald, qtm_iast, qtm_zald, qtm_zast, qtm_aald, qtm_tsw, qtm_callV, qtm_callS, qtm_acp, qtm_alen, qtm_max, qtm_min, qtm_dup, qtm_pop, qtm_iret, qtm_zret, qtm_lret, qtm_aret, qtm_vret, qtm_swn, qtm_swc, am_oi_c, am_ol_c, am_or_r, am_or_f, am_pi_c, am_pj_c, am_pr_c, am_pa_r, am_pa_f, am_yo_c, am_ya_c, am_fv_i, am_fv_l, am_fv_r, am_fi_c, am_fl_c, am_rv_c, am_n2_s, am_n2_n, am_pv_0, am_pv_s, am_cs_n, am_cs_c, Value.category, List.getElem?_cons_zero, List.getElem?_cons_succ, List.set_cons_zero, List.set_cons_succ, List.length_cons, List.length_nil, List.drop_succ_cons, List.drop_zero, List.take_succ_cons, List.take_zero, List.take_nil, List.reverse_cons, List.reverse_nil, List.nil_append, List.cons_append, List.append_nil, true_and, and_true, Int.reduceAdd, am_o0, am_o1, am_o2, am_o3, am_o4, am_o5, am_o6, am_o7, am_o8, am_o9, am_o10, am_o11, am_o12, am_o13, am_o14, am_o15, am_o16, am_o17, am_o18, am_o19, am_o20, am_o21, am_o22, am_o23, am_o24, am_o25, am_o26, am_o27, Nat.reduceAdd, Nat.reduceLeDiff, Nat.reduceLT, Nat.zero_le, qtm_slen, qtm_sch, am_pf_c]
  refine ⟨fun z => ?_, fun z => h0 fun y => z y.1⟩
  have hS : s < tz ∧ sp_S (tp s) = true := by
    unfold sp_rw at z
    split at z
    · exact absurd z (by decide)
    · split at z
      · exact ⟨by omega, by assumption⟩
      · split at z
        · split at z <;> exact absurd z (by decide)
        · split at z <;> exact absurd z (by decide)
  have en : sp_en tp tz s = sp_we tp tz s := by unfold sp_en; rw [if_neg (by omega), if_neg (by rw [sp_SD hS.2]; decide), if_pos hS.2]
  have h24 := t3 (by rw [z]; decide)
  rw [en] at h24
  obtain ⟨w1, w2⟩ : s ≤ sp_we tp tz s ∧ sp_we tp tz s ≤ tz := sp_to_le hs
  have hnz : ∀ j, s ≤ j → j < sp_we tp tz s → tp j ≠ 0 := fun j j1 j2 y => by
    have := sp_to_all (P := fun i => sp_S (tp i)) j1 j2
    rw [y] at this
    exact absurd this (by decide)
  have l8 := sp_l8 (tp := tp) hk w1 hnz
  have e8 : (nI s + 8 < nI (sp_we tp tz s)) ↔ s + 8 < sp_we tp tz s := by
    rw [show (8 : Int32) = nI 8 from rfl, nI_add]
    exact nI_ltI (by omega) (by omega)
  have no : ∀ i, i < 8 → sp_lt tp s (sp_we tp tz s) i (sp_c8 k i) = false → K [.int 0] Y h := fun i hi z2 => h0 fun y => by
    have := l8.mpr y.2 i hi
    rw [z2] at this
    exact absurd this (by decide)
  rw [t2, h24, e8]
  subst y1 y2 y3 y4 y5 y6 y7 y8
  refine ⟨fun y => h0 fun y2 => ?_, fun _ => ?_⟩
  · have := (sp_wd_len y2.2)
    have := (am_sl k hk).2
    omega
  · refine ⟨by omega, c_X6_isLetter (i := 0) (by omega) hm hf t2 h24 w2 w1 (by decide) (fun q0 => ?_) (fun q0 => ?_)⟩
    · simp only [m0, Int32.reduceLT, Int32.reduceLE, eq_self, am_10, am_00, am_01, am_11, true_implies, false_implies, not_true_eq_false, not_false_eq_true, or_true, true_or, and_self, implies_true, qtm_push, qtm_iload, qtm_lload, qtm_aload, qtm_istore, qtm_lstore, qtm_astore, qtm_iinc, qtm_un, qtm_bin, qtm_div, qtm_lbin, qtm_ldiv, qtm_lsh, qtm_lcmp, qtm_i2l, qtm_l2i, qtm_if, qtm_cmp, qtm_getf, qtm_puti, qtm_putz, qtm_putl, qtm_iald, qtm_iast, qtm_zald, qtm_zast, qtm_aald, qtm_tsw, qtm_callV, qtm_callS, qtm_acp, qtm_alen, qtm_max, qtm_min, qtm_dup, qtm_pop, qtm_iret, qtm_zret, qtm_lret, qtm_aret, qtm_vret, qtm_swn, qtm_swc, am_oi_c, am_ol_c, am_or_r, am_or_f, am_pi_c, am_pj_c, am_pr_c, am_pa_r, am_pa_f, am_yo_c, am_ya_c, am_fv_i, am_fv_l, am_fv_r, am_fi_c, am_fl_c, am_rv_c, am_n2_s, am_n2_n, am_pv_0, am_pv_s, am_cs_n, am_cs_c, Value.category, List.getElem?_cons_zero, List.getElem?_cons_succ, List.set_cons_zero, List.set_cons_succ, List.length_cons, List.length_nil, List.drop_succ_cons, List.drop_zero, List.take_succ_cons, List.take_zero, List.take_nil, List.reverse_cons, List.reverse_nil, List.nil_append, List.cons_append, List.append_nil, true_and, and_true, Int.reduceAdd, am_o0, am_o1, am_o2, am_o3, am_o4, am_o5, am_o6, am_o7, am_o8, am_o9, am_o10, am_o11, am_o12, am_o13, am_o14, am_o15, am_o16, am_o17, am_o18, am_o19, am_o20, am_o21, am_o22, am_o23, am_o24, am_o25, am_o26, am_o27, Nat.reduceAdd, Nat.reduceLeDiff, Nat.reduceLT, Nat.zero_le, qtm_slen, qtm_sch, am_pf_c]
      refine ⟨by omega, c_X6_isLetter (i := 1) (by omega) hm hf t2 h24 w2 w1 (by decide) (fun q1 => ?_) (fun q1 => ?_)⟩
      · simp only [m0, Int32.reduceLT, Int32.reduceLE, eq_self, am_10, am_00, am_01, am_11, true_implies, false_implies, not_true_eq_false, not_false_eq_true, or_true, true_or, and_self, implies_true, qtm_push, qtm_iload, qtm_lload, qtm_aload, qtm_istore, qtm_lstore, qtm_astore, qtm_iinc, qtm_un, qtm_bin, qtm_div, qtm_lbin, qtm_ldiv, qtm_lsh, qtm_lcmp, qtm_i2l, qtm_l2i, qtm_if, qtm_cmp, qtm_getf, qtm_puti, qtm_putz, qtm_putl, qtm_iald, qtm_iast, qtm_zald, qtm_zast, qtm_aald, qtm_tsw, qtm_callV, qtm_callS, qtm_acp, qtm_alen, qtm_max, qtm_min, qtm_dup, qtm_pop, qtm_iret, qtm_zret, qtm_lret, qtm_aret, qtm_vret, qtm_swn, qtm_swc, am_oi_c, am_ol_c, am_or_r, am_or_f, am_pi_c, am_pj_c, am_pr_c, am_pa_r, am_pa_f, am_yo_c, am_ya_c, am_fv_i, am_fv_l, am_fv_r, am_fi_c, am_fl_c, am_rv_c, am_n2_s, am_n2_n, am_pv_0, am_pv_s, am_cs_n, am_cs_c, Value.category, List.getElem?_cons_zero, List.getElem?_cons_succ, List.set_cons_zero, List.set_cons_succ, List.length_cons, List.length_nil, List.drop_succ_cons, List.drop_zero, List.take_succ_cons, List.take_zero, List.take_nil, List.reverse_cons, List.reverse_nil, List.nil_append, List.cons_append, List.append_nil, true_and, and_true, Int.reduceAdd, am_o0, am_o1, am_o2, am_o3, am_o4, am_o5, am_o6, am_o7, am_o8, am_o9, am_o10, am_o11, am_o12, am_o13, am_o14, am_o15, am_o16, am_o17, am_o18, am_o19, am_o20, am_o21, am_o22, am_o23, am_o24, am_o25, am_o26, am_o27, Nat.reduceAdd, Nat.reduceLeDiff, Nat.reduceLT, Nat.zero_le, qtm_slen, qtm_sch, am_pf_c]
        refine ⟨by omega, c_X6_isLetter (i := 2) (by omega) hm hf t2 h24 w2 w1 (by decide) (fun q2 => ?_) (fun q2 => ?_)⟩
        · simp only [m0, Int32.reduceLT, Int32.reduceLE, eq_self, am_10, am_00, am_01, am_11, true_implies, false_implies, not_true_eq_false, not_false_eq_true, or_true, true_or, and_self, implies_true, qtm_push, qtm_iload, qtm_lload, qtm_aload, qtm_istore, qtm_lstore, qtm_astore, qtm_iinc, qtm_un, qtm_bin, qtm_div, qtm_lbin, qtm_ldiv, qtm_lsh, qtm_lcmp, qtm_i2l, qtm_l2i, qtm_if, qtm_cmp, qtm_getf, qtm_puti, qtm_putz, qtm_putl, qtm_iald, qtm_iast, qtm_zald, qtm_zast, qtm_aald, qtm_tsw, qtm_callV, qtm_callS, qtm_acp, qtm_alen, qtm_max, qtm_min, qtm_dup, qtm_pop, qtm_iret, qtm_zret, qtm_lret, qtm_aret, qtm_vret, qtm_swn, qtm_swc, am_oi_c, am_ol_c, am_or_r, am_or_f, am_pi_c, am_pj_c, am_pr_c, am_pa_r, am_pa_f, am_yo_c, am_ya_c, am_fv_i, am_fv_l, am_fv_r, am_fi_c, am_fl_c, am_rv_c, am_n2_s, am_n2_n, am_pv_0, am_pv_s, am_cs_n, am_cs_c, Value.category, List.getElem?_cons_zero, List.getElem?_cons_succ, List.set_cons_zero, List.set_cons_succ, List.length_cons, List.length_nil, List.drop_succ_cons, List.drop_zero, List.take_succ_cons, List.take_zero, List.take_nil, List.reverse_cons, List.reverse_nil, List.nil_append, List.cons_append, List.append_nil, true_and, and_true, Int.reduceAdd, am_o0, am_o1, am_o2, am_o3, am_o4, am_o5, am_o6, am_o7, am_o8, am_o9, am_o10, am_o11, am_o12, am_o13, am_o14, am_o15, am_o16, am_o17, am_o18, am_o19, am_o20, am_o21, am_o22, am_o23, am_o24, am_o25, am_o26, am_o27, Nat.reduceAdd, Nat.reduceLeDiff, Nat.reduceLT, Nat.zero_le, qtm_slen, qtm_sch, am_pf_c]
          refine ⟨by omega, c_X6_isLetter (i := 3) (by omega) hm hf t2 h24 w2 w1 (by decide) (fun q3 => ?_) (fun q3 => ?_)⟩
          · simp only [m0, Int32.reduceLT, Int32.reduceLE, eq_self, am_10, am_00, am_01, am_11, true_implies, false_implies, not_true_eq_false, not_false_eq_true, or_true, true_or, and_self, implies_true, qtm_push, qtm_iload, qtm_lload, qtm_aload, qtm_istore, qtm_lstore, qtm_astore, qtm_iinc, qtm_un, qtm_bin, qtm_div, qtm_lbin, qtm_ldiv, qtm_lsh, qtm_lcmp, qtm_i2l, qtm_l2i, qtm_if, qtm_cmp, qtm_getf, qtm_puti, qtm_putz, qtm_putl, qtm_iald, qtm_iast, qtm_zald, qtm_zast, qtm_aald, qtm_tsw, qtm_callV, qtm_callS, qtm_acp, qtm_alen, qtm_max, qtm_min, qtm_dup, qtm_pop, qtm_iret, qtm_zret, qtm_lret, qtm_aret, qtm_vret, qtm_swn, qtm_swc, am_oi_c, am_ol_c, am_or_r, am_or_f, am_pi_c, am_pj_c, am_pr_c, am_pa_r, am_pa_f, am_yo_c, am_ya_c, am_fv_i, am_fv_l, am_fv_r, am_fi_c, am_fl_c, am_rv_c, am_n2_s, am_n2_n, am_pv_0, am_pv_s, am_cs_n, am_cs_c, Value.category, List.getElem?_cons_zero, List.getElem?_cons_succ, List.set_cons_zero, List.set_cons_succ, List.length_cons, List.length_nil, List.drop_succ_cons, List.drop_zero, List.take_succ_cons, List.take_zero, List.take_nil, List.reverse_cons, List.reverse_nil, List.nil_append, List.cons_append, List.append_nil, true_and, and_true, Int.reduceAdd, am_o0, am_o1, am_o2, am_o3, am_o4, am_o5, am_o6, am_o7, am_o8, am_o9, am_o10, am_o11, am_o12, am_o13, am_o14, am_o15, am_o16, am_o17, am_o18, am_o19, am_o20, am_o21, am_o22, am_o23, am_o24, am_o25, am_o26, am_o27, Nat.reduceAdd, Nat.reduceLeDiff, Nat.reduceLT, Nat.zero_le, qtm_slen, qtm_sch, am_pf_c]
            refine ⟨by omega, c_X6_isLetter (i := 4) (by omega) hm hf t2 h24 w2 w1 (by decide) (fun q4 => ?_) (fun q4 => ?_)⟩
            · simp only [m0, Int32.reduceLT, Int32.reduceLE, eq_self, am_10, am_00, am_01, am_11, true_implies, false_implies, not_true_eq_false, not_false_eq_true, or_true, true_or, and_self, implies_true, qtm_push, qtm_iload, qtm_lload, qtm_aload, qtm_istore, qtm_lstore, qtm_astore, qtm_iinc, qtm_un, qtm_bin, qtm_div, qtm_lbin, qtm_ldiv, qtm_lsh, qtm_lcmp, qtm_i2l, qtm_l2i, qtm_if, qtm_cmp, qtm_getf, qtm_puti, qtm_putz, qtm_putl, qtm_iald, qtm_iast, qtm_zald, qtm_zast, qtm_aald, qtm_tsw, qtm_callV, qtm_callS, qtm_acp, qtm_alen, qtm_max, qtm_min, qtm_dup, qtm_pop, qtm_iret, qtm_zret, qtm_lret, qtm_aret, qtm_vret, qtm_swn, qtm_swc, am_oi_c, am_ol_c, am_or_r, am_or_f, am_pi_c, am_pj_c, am_pr_c, am_pa_r, am_pa_f, am_yo_c, am_ya_c, am_fv_i, am_fv_l, am_fv_r, am_fi_c, am_fl_c, am_rv_c, am_n2_s, am_n2_n, am_pv_0, am_pv_s, am_cs_n, am_cs_c, Value.category, List.getElem?_cons_zero, List.getElem?_cons_succ, List.set_cons_zero, List.set_cons_succ, List.length_cons, List.length_nil, List.drop_succ_cons, List.drop_zero, List.take_succ_cons, List.take_zero, List.take_nil, List.reverse_cons, List.reverse_nil, List.nil_append, List.cons_append, List.append_nil, true_and, and_true, Int.reduceAdd, am_o0, am_o1, am_o2, am_o3, am_o4, am_o5, am_o6, am_o7, am_o8, am_o9, am_o10, am_o11, am_o12, am_o13, am_o14, am_o15, am_o16, am_o17, am_o18, am_o19, am_o20, am_o21, am_o22, am_o23, am_o24, am_o25, am_o26, am_o27, Nat.reduceAdd, Nat.reduceLeDiff, Nat.reduceLT, Nat.zero_le, qtm_slen, qtm_sch, am_pf_c]
              refine ⟨by omega, c_X6_isLetter (i := 5) (by omega) hm hf t2 h24 w2 w1 (by decide) (fun q5 => ?_) (fun q5 => ?_)⟩
              · simp only [m0, Int32.reduceLT, Int32.reduceLE, eq_self, am_10, am_00, am_01, am_11, true_implies, false_implies, not_true_eq_false, not_false_eq_true, or_true, true_or, and_self, implies_true, qtm_push, qtm_iload, qtm_lload, qtm_aload, qtm_istore, qtm_lstore, qtm_astore, qtm_iinc, qtm_un, qtm_bin, qtm_div, qtm_lbin, qtm_ldiv, qtm_lsh, qtm_lcmp, qtm_i2l, qtm_l2i, qtm_if, qtm_cmp, qtm_getf, qtm_puti, qtm_putz, qtm_putl, qtm_iald, qtm_iast, qtm_zald, qtm_zast, qtm_aald, qtm_tsw, qtm_callV, qtm_callS, qtm_acp, qtm_alen, qtm_max, qtm_min, qtm_dup, qtm_pop, qtm_iret, qtm_zret, qtm_lret, qtm_aret, qtm_vret, qtm_swn, qtm_swc, am_oi_c, am_ol_c, am_or_r, am_or_f, am_pi_c, am_pj_c, am_pr_c, am_pa_r, am_pa_f, am_yo_c, am_ya_c, am_fv_i, am_fv_l, am_fv_r, am_fi_c, am_fl_c, am_rv_c, am_n2_s, am_n2_n, am_pv_0, am_pv_s, am_cs_n, am_cs_c, Value.category, List.getElem?_cons_zero, List.getElem?_cons_succ, List.set_cons_zero, List.set_cons_succ, List.length_cons, List.length_nil, List.drop_succ_cons, List.drop_zero, List.take_succ_cons, List.take_zero, List.take_nil, List.reverse_cons, List.reverse_nil, List.nil_append, List.cons_append, List.append_nil, true_and, and_true, Int.reduceAdd, am_o0, am_o1, am_o2, am_o3, am_o4, am_o5, am_o6, am_o7, am_o8, am_o9, am_o10, am_o11, am_o12, am_o13, am_o14, am_o15, am_o16, am_o17, am_o18, am_o19, am_o20, am_o21, am_o22, am_o23, am_o24, am_o25, am_o26, am_o27, Nat.reduceAdd, Nat.reduceLeDiff, Nat.reduceLT, Nat.zero_le, qtm_slen, qtm_sch, am_pf_c]
                refine ⟨by omega, c_X6_isLetter (i := 6) (by omega) hm hf t2 h24 w2 w1 (by decide) (fun q6 => ?_) (fun q6 => ?_)⟩
                · simp only [m0, Int32.reduceLT, Int32.reduceLE, eq_self, am_10, am_00, am_01, am_11, true_implies, false_implies, not_true_eq_false, not_false_eq_true, or_true, true_or, and_self, implies_true, qtm_push, qtm_iload, qtm_lload, qtm_aload, qtm_istore, qtm_lstore, qtm_astore, qtm_iinc, qtm_un, qtm_bin, qtm_div, qtm_lbin, qtm_ldiv, qtm_lsh, qtm_lcmp, qtm_i2l, qtm_l2i, qtm_if, qtm_cmp, qtm_getf, qtm_puti, qtm_putz, qtm_putl, qtm_iald, qtm_iast, qtm_zald, qtm_zast, qtm_aald, qtm_tsw, qtm_callV, qtm_callS, qtm_acp, qtm_alen, qtm_max, qtm_min, qtm_dup, qtm_pop, qtm_iret, qtm_zret, qtm_lret, qtm_aret, qtm_vret, qtm_swn, qtm_swc, am_oi_c, am_ol_c, am_or_r, am_or_f, am_pi_c, am_pj_c, am_pr_c, am_pa_r, am_pa_f, am_yo_c, am_ya_c, am_fv_i, am_fv_l, am_fv_r, am_fi_c, am_fl_c, am_rv_c, am_n2_s, am_n2_n, am_pv_0, am_pv_s, am_cs_n, am_cs_c, Value.category, List.getElem?_cons_zero, List.getElem?_cons_succ, List.set_cons_zero, List.set_cons_succ, List.length_cons, List.length_nil, List.drop_succ_cons, List.drop_zero, List.take_succ_cons, List.take_zero, List.take_nil, List.reverse_cons, List.reverse_nil, List.nil_append, List.cons_append, List.append_nil, true_and, and_true, Int.reduceAdd, am_o0, am_o1, am_o2, am_o3, am_o4, am_o5, am_o6, am_o7, am_o8, am_o9, am_o10, am_o11, am_o12, am_o13, am_o14, am_o15, am_o16, am_o17, am_o18, am_o19, am_o20, am_o21, am_o22, am_o23, am_o24, am_o25, am_o26, am_o27, Nat.reduceAdd, Nat.reduceLeDiff, Nat.reduceLT, Nat.zero_le, qtm_slen, qtm_sch, am_pf_c]
                  refine ⟨by omega, c_X6_isLetter (i := 7) (by omega) hm hf t2 h24 w2 w1 (by decide) (fun q7 => ?_) (fun q7 => ?_)⟩
                  · simp only [m0, Int32.reduceLT, Int32.reduceLE, eq_self, am_10, am_00, am_01, am_11, true_implies, false_implies, not_true_eq_false, not_false_eq_true, or_true, true_or, and_self, implies_true, qtm_push, qtm_iload, qtm_lload, qtm_aload, qtm_istore, qtm_lstore, qtm_astore, qtm_iinc, qtm_un, qtm_bin, qtm_div, qtm_lbin, qtm_ldiv, qtm_lsh, qtm_lcmp, qtm_i2l, qtm_l2i, qtm_if, qtm_cmp, qtm_getf, qtm_puti, qtm_putz, qtm_putl, qtm_iald, qtm_iast, qtm_zald, qtm_zast, qtm_aald, qtm_tsw, qtm_callV, qtm_callS, qtm_acp, qtm_alen, qtm_max, qtm_min, qtm_dup, qtm_pop, qtm_iret, qtm_zret, qtm_lret, qtm_aret, qtm_vret, qtm_swn, qtm_swc, am_oi_c, am_ol_c, am_or_r, am_or_f, am_pi_c, am_pj_c, am_pr_c, am_pa_r, am_pa_f, am_yo_c, am_ya_c, am_fv_i, am_fv_l, am_fv_r, am_fi_c, am_fl_c, am_rv_c, am_n2_s, am_n2_n, am_pv_0, am_pv_s, am_cs_n, am_cs_c, Value.category, List.getElem?_cons_zero, List.getElem?_cons_succ, List.set_cons_zero, List.set_cons_succ, List.length_cons, List.length_nil, List.drop_succ_cons, List.drop_zero, List.take_succ_cons, List.take_zero, List.take_nil, List.reverse_cons, List.reverse_nil, List.nil_append, List.cons_append, List.append_nil, true_and, and_true, Int.reduceAdd, am_o0, am_o1, am_o2, am_o3, am_o4, am_o5, am_o6, am_o7, am_o8, am_o9, am_o10, am_o11, am_o12, am_o13, am_o14, am_o15, am_o16, am_o17, am_o18, am_o19, am_o20, am_o21, am_o22, am_o23, am_o24, am_o25, am_o26, am_o27, Nat.reduceAdd, Nat.reduceLeDiff, Nat.reduceLT, Nat.zero_le, qtm_slen, qtm_sch, am_pf_c]
                    refine h1 z (l8.mp fun i hi => ?_)
                    rcases (show i = 0 ∨ i = 1 ∨ i = 2 ∨ i = 3 ∨ i = 4 ∨ i = 5 ∨ i = 6 ∨ i = 7 by omega) with rfl | rfl | rfl | rfl | rfl | rfl | rfl | rfl
                    · exact q0
                    · exact q1
                    · exact q2
                    · exact q3
                    · exact q4
                    · exact q5
                    · exact q6
                    · exact q7
                  · simp only [Int32.reduceLT, Int32.reduceLE, eq_self, am_10, am_00, am_01, am_11, true_implies, false_implies, not_true_eq_false, not_false_eq_true, or_true, true_or, and_self, implies_true, qtm_push, qtm_iload, qtm_lload, qtm_aload, qtm_istore, qtm_lstore, qtm_astore, qtm_iinc, qtm_un, qtm_bin, qtm_div, qtm_lbin, qtm_ldiv, qtm_lsh, qtm_lcmp, qtm_i2l, qtm_l2i, qtm_if, qtm_cmp, qtm_getf, qtm_puti, qtm_putz, qtm_putl, qtm_iald, qtm_iast, qtm_zald, qtm_zast, qtm_aald, qtm_tsw, qtm_callV, qtm_callS, qtm_acp, qtm_alen, qtm_max, qtm_min, qtm_dup, qtm_pop, qtm_iret, qtm_zret, qtm_lret, qtm_aret, qtm_vret, qtm_swn, qtm_swc, am_oi_c, am_ol_c, am_or_r, am_or_f, am_pi_c, am_pj_c, am_pr_c, am_pa_r, am_pa_f, am_yo_c, am_ya_c, am_fv_i, am_fv_l, am_fv_r, am_fi_c, am_fl_c, am_rv_c, am_n2_s, am_n2_n, am_pv_0, am_pv_s, am_cs_n, am_cs_c, Value.category, List.getElem?_cons_zero, List.getElem?_cons_succ, List.set_cons_zero, List.set_cons_succ, List.length_cons, List.length_nil, List.drop_succ_cons, List.drop_zero, List.take_succ_cons, List.take_zero, List.take_nil, List.reverse_cons, List.reverse_nil, List.nil_append, List.cons_append, List.append_nil, true_and, and_true, Int.reduceAdd, am_o0, am_o1, am_o2, am_o3, am_o4, am_o5, am_o6, am_o7, am_o8, am_o9, am_o10, am_o11, am_o12, am_o13, am_o14, am_o15, am_o16, am_o17, am_o18, am_o19, am_o20, am_o21, am_o22, am_o23, am_o24, am_o25, am_o26, am_o27, Nat.reduceAdd, Nat.reduceLeDiff, Nat.reduceLT, Nat.zero_le, qtm_slen, qtm_sch, am_pf_c]
                    exact no 7 (by decide) q7
                · simp only [Int32.reduceLT, Int32.reduceLE, eq_self, am_10, am_00, am_01, am_11, true_implies, false_implies, not_true_eq_false, not_false_eq_true, or_true, true_or, and_self, implies_true, qtm_push, qtm_iload, qtm_lload, qtm_aload, qtm_istore, qtm_lstore, qtm_astore, qtm_iinc, qtm_un, qtm_bin, qtm_div, qtm_lbin, qtm_ldiv, qtm_lsh, qtm_lcmp, qtm_i2l, qtm_l2i, qtm_if, qtm_cmp, qtm_getf, qtm_puti, qtm_putz, qtm_putl, qtm_iald, qtm_iast, qtm_zald, qtm_zast, qtm_aald, qtm_tsw, qtm_callV, qtm_callS, qtm_acp, qtm_alen, qtm_max, qtm_min, qtm_dup, qtm_pop, qtm_iret, qtm_zret, qtm_lret, qtm_aret, qtm_vret, qtm_swn, qtm_swc, am_oi_c, am_ol_c, am_or_r, am_or_f, am_pi_c, am_pj_c, am_pr_c, am_pa_r, am_pa_f, am_yo_c, am_ya_c, am_fv_i, am_fv_l, am_fv_r, am_fi_c, am_fl_c, am_rv_c, am_n2_s, am_n2_n, am_pv_0, am_pv_s, am_cs_n, am_cs_c, Value.category, List.getElem?_cons_zero, List.getElem?_cons_succ, List.set_cons_zero, List.set_cons_succ, List.length_cons, List.length_nil, List.drop_succ_cons, List.drop_zero, List.take_succ_cons, List.take_zero, List.take_nil, List.reverse_cons, List.reverse_nil, List.nil_append, List.cons_append, List.append_nil, true_and, and_true, Int.reduceAdd, am_o0, am_o1, am_o2, am_o3, am_o4, am_o5, am_o6, am_o7, am_o8, am_o9, am_o10, am_o11, am_o12, am_o13, am_o14, am_o15, am_o16, am_o17, am_o18, am_o19, am_o20, am_o21, am_o22, am_o23, am_o24, am_o25, am_o26, am_o27, Nat.reduceAdd, Nat.reduceLeDiff, Nat.reduceLT, Nat.zero_le, qtm_slen, qtm_sch, am_pf_c]
                  exact no 6 (by decide) q6
              · simp only [Int32.reduceLT, Int32.reduceLE, eq_self, am_10, am_00, am_01, am_11, true_implies, false_implies, not_true_eq_false, not_false_eq_true, or_true, true_or, and_self, implies_true, qtm_push, qtm_iload, qtm_lload, qtm_aload, qtm_istore, qtm_lstore, qtm_astore, qtm_iinc, qtm_un, qtm_bin, qtm_div, qtm_lbin, qtm_ldiv, qtm_lsh, qtm_lcmp, qtm_i2l, qtm_l2i, qtm_if, qtm_cmp, qtm_getf, qtm_puti, qtm_putz, qtm_putl, qtm_iald, qtm_iast, qtm_zald, qtm_zast, qtm_aald, qtm_tsw, qtm_callV, qtm_callS, qtm_acp, qtm_alen, qtm_max, qtm_min, qtm_dup, qtm_pop, qtm_iret, qtm_zret, qtm_lret, qtm_aret, qtm_vret, qtm_swn, qtm_swc, am_oi_c, am_ol_c, am_or_r, am_or_f, am_pi_c, am_pj_c, am_pr_c, am_pa_r, am_pa_f, am_yo_c, am_ya_c, am_fv_i, am_fv_l, am_fv_r, am_fi_c, am_fl_c, am_rv_c, am_n2_s, am_n2_n, am_pv_0, am_pv_s, am_cs_n, am_cs_c, Value.category, List.getElem?_cons_zero, List.getElem?_cons_succ, List.set_cons_zero, List.set_cons_succ, List.length_cons, List.length_nil, List.drop_succ_cons, List.drop_zero, List.take_succ_cons, List.take_zero, List.take_nil, List.reverse_cons, List.reverse_nil, List.nil_append, List.cons_append, List.append_nil, true_and, and_true, Int.reduceAdd, am_o0, am_o1, am_o2, am_o3, am_o4, am_o5, am_o6, am_o7, am_o8, am_o9, am_o10, am_o11, am_o12, am_o13, am_o14, am_o15, am_o16, am_o17, am_o18, am_o19, am_o20, am_o21, am_o22, am_o23, am_o24, am_o25, am_o26, am_o27, Nat.reduceAdd, Nat.reduceLeDiff, Nat.reduceLT, Nat.zero_le, qtm_slen, qtm_sch, am_pf_c]
                exact no 5 (by decide) q5
            · simp only [Int32.reduceLT, Int32.reduceLE, eq_self, am_10, am_00, am_01, am_11, true_implies, false_implies, not_true_eq_false, not_false_eq_true, or_true, true_or, and_self, implies_true, qtm_push, qtm_iload, qtm_lload, qtm_aload, qtm_istore, qtm_lstore, qtm_astore, qtm_iinc, qtm_un, qtm_bin, qtm_div, qtm_lbin, qtm_ldiv, qtm_lsh, qtm_lcmp, qtm_i2l, qtm_l2i, qtm_if, qtm_cmp, qtm_getf, qtm_puti, qtm_putz, qtm_putl, qtm_iald, qtm_iast, qtm_zald, qtm_zast, qtm_aald, qtm_tsw, qtm_callV, qtm_callS, qtm_acp, qtm_alen, qtm_max, qtm_min, qtm_dup, qtm_pop, qtm_iret, qtm_zret, qtm_lret, qtm_aret, qtm_vret, qtm_swn, qtm_swc, am_oi_c, am_ol_c, am_or_r, am_or_f, am_pi_c, am_pj_c, am_pr_c, am_pa_r, am_pa_f, am_yo_c, am_ya_c, am_fv_i, am_fv_l, am_fv_r, am_fi_c, am_fl_c, am_rv_c, am_n2_s, am_n2_n, am_pv_0, am_pv_s, am_cs_n, am_cs_c, Value.category, List.getElem?_cons_zero, List.getElem?_cons_succ, List.set_cons_zero, List.set_cons_succ, List.length_cons, List.length_nil, List.drop_succ_cons, List.drop_zero, List.take_succ_cons, List.take_zero, List.take_nil, List.reverse_cons, List.reverse_nil, List.nil_append, List.cons_append, List.append_nil, true_and, and_true, Int.reduceAdd, am_o0, am_o1, am_o2, am_o3, am_o4, am_o5, am_o6, am_o7, am_o8, am_o9, am_o10, am_o11, am_o12, am_o13, am_o14, am_o15, am_o16, am_o17, am_o18, am_o19, am_o20, am_o21, am_o22, am_o23, am_o24, am_o25, am_o26, am_o27, Nat.reduceAdd, Nat.reduceLeDiff, Nat.reduceLT, Nat.zero_le, qtm_slen, qtm_sch, am_pf_c]
              exact no 4 (by decide) q4
          · simp only [Int32.reduceLT, Int32.reduceLE, eq_self, am_10, am_00, am_01, am_11, true_implies, false_implies, not_true_eq_false, not_false_eq_true, or_true, true_or, and_self, implies_true, qtm_push, qtm_iload, qtm_lload, qtm_aload, qtm_istore, qtm_lstore, qtm_astore, qtm_iinc, qtm_un, qtm_bin, qtm_div, qtm_lbin, qtm_ldiv, qtm_lsh, qtm_lcmp, qtm_i2l, qtm_l2i, qtm_if, qtm_cmp, qtm_getf, qtm_puti, qtm_putz, qtm_putl, qtm_iald, qtm_iast, qtm_zald, qtm_zast, qtm_aald, qtm_tsw, qtm_callV, qtm_callS, qtm_acp, qtm_alen, qtm_max, qtm_min, qtm_dup, qtm_pop, qtm_iret, qtm_zret, qtm_lret, qtm_aret, qtm_vret, qtm_swn, qtm_swc, am_oi_c, am_ol_c, am_or_r, am_or_f, am_pi_c, am_pj_c, am_pr_c, am_pa_r, am_pa_f, am_yo_c, am_ya_c, am_fv_i, am_fv_l, am_fv_r, am_fi_c, am_fl_c, am_rv_c, am_n2_s, am_n2_n, am_pv_0, am_pv_s, am_cs_n, am_cs_c, Value.category, List.getElem?_cons_zero, List.getElem?_cons_succ, List.set_cons_zero, List.set_cons_succ, List.length_cons, List.length_nil, List.drop_succ_cons, List.drop_zero, List.take_succ_cons, List.take_zero, List.take_nil, List.reverse_cons, List.reverse_nil, List.nil_append, List.cons_append, List.append_nil, true_and, and_true, Int.reduceAdd, am_o0, am_o1, am_o2, am_o3, am_o4, am_o5, am_o6, am_o7, am_o8, am_o9, am_o10, am_o11, am_o12, am_o13, am_o14, am_o15, am_o16, am_o17, am_o18, am_o19, am_o20, am_o21, am_o22, am_o23, am_o24, am_o25, am_o26, am_o27, Nat.reduceAdd, Nat.reduceLeDiff, Nat.reduceLT, Nat.zero_le, qtm_slen, qtm_sch, am_pf_c]
            exact no 3 (by decide) q3
        · simp only [Int32.reduceLT, Int32.reduceLE, eq_self, am_10, am_00, am_01, am_11, true_implies, false_implies, not_true_eq_false, not_false_eq_true, or_true, true_or, and_self, implies_true, qtm_push, qtm_iload, qtm_lload, qtm_aload, qtm_istore, qtm_lstore, qtm_astore, qtm_iinc, qtm_un, qtm_bin, qtm_div, qtm_lbin, qtm_ldiv, qtm_lsh, qtm_lcmp, qtm_i2l, qtm_l2i, qtm_if, qtm_cmp, qtm_getf, qtm_puti, qtm_putz, qtm_putl, qtm_iald, qtm_iast, qtm_zald, qtm_zast, qtm_aald, qtm_tsw, qtm_callV, qtm_callS, qtm_acp, qtm_alen, qtm_max, qtm_min, qtm_dup, qtm_pop, qtm_iret, qtm_zret, qtm_lret, qtm_aret, qtm_vret, qtm_swn, qtm_swc, am_oi_c, am_ol_c, am_or_r, am_or_f, am_pi_c, am_pj_c, am_pr_c, am_pa_r, am_pa_f, am_yo_c, am_ya_c, am_fv_i, am_fv_l, am_fv_r, am_fi_c, am_fl_c, am_rv_c, am_n2_s, am_n2_n, am_pv_0, am_pv_s, am_cs_n, am_cs_c, Value.category, List.getElem?_cons_zero, List.getElem?_cons_succ, List.set_cons_zero, List.set_cons_succ, List.length_cons, List.length_nil, List.drop_succ_cons, List.drop_zero, List.take_succ_cons, List.take_zero, List.take_nil, List.reverse_cons, List.reverse_nil, List.nil_append, List.cons_append, List.append_nil, true_and, and_true, Int.reduceAdd, am_o0, am_o1, am_o2, am_o3, am_o4, am_o5, am_o6, am_o7, am_o8, am_o9, am_o10, am_o11, am_o12, am_o13, am_o14, am_o15, am_o16, am_o17, am_o18, am_o19, am_o20, am_o21, am_o22, am_o23, am_o24, am_o25, am_o26, am_o27, Nat.reduceAdd, Nat.reduceLeDiff, Nat.reduceLT, Nat.zero_le, qtm_slen, qtm_sch, am_pf_c]
          exact no 2 (by decide) q2
      · simp only [Int32.reduceLT, Int32.reduceLE, eq_self, am_10, am_00, am_01, am_11, true_implies, false_implies, not_true_eq_false, not_false_eq_true, or_true, true_or, and_self, implies_true, qtm_push, qtm_iload, qtm_lload, qtm_aload, qtm_istore, qtm_lstore, qtm_astore, qtm_iinc, qtm_un, qtm_bin, qtm_div, qtm_lbin, qtm_ldiv, qtm_lsh, qtm_lcmp, qtm_i2l, qtm_l2i, qtm_if, qtm_cmp, qtm_getf, qtm_puti, qtm_putz, qtm_putl, qtm_iald, qtm_iast, qtm_zald, qtm_zast, qtm_aald, qtm_tsw, qtm_callV, qtm_callS, qtm_acp, qtm_alen, qtm_max, qtm_min, qtm_dup, qtm_pop, qtm_iret, qtm_zret, qtm_lret, qtm_aret, qtm_vret, qtm_swn, qtm_swc, am_oi_c, am_ol_c, am_or_r, am_or_f, am_pi_c, am_pj_c, am_pr_c, am_pa_r, am_pa_f, am_yo_c, am_ya_c, am_fv_i, am_fv_l, am_fv_r, am_fi_c, am_fl_c, am_rv_c, am_n2_s, am_n2_n, am_pv_0, am_pv_s, am_cs_n, am_cs_c, Value.category, List.getElem?_cons_zero, List.getElem?_cons_succ, List.set_cons_zero, List.set_cons_succ, List.length_cons, List.length_nil, List.drop_succ_cons, List.drop_zero, List.take_succ_cons, List.take_zero, List.take_nil, List.reverse_cons, List.reverse_nil, List.nil_append, List.cons_append, List.append_nil, true_and, and_true, Int.reduceAdd, am_o0, am_o1, am_o2, am_o3, am_o4, am_o5, am_o6, am_o7, am_o8, am_o9, am_o10, am_o11, am_o12, am_o13, am_o14, am_o15, am_o16, am_o17, am_o18, am_o19, am_o20, am_o21, am_o22, am_o23, am_o24, am_o25, am_o26, am_o27, Nat.reduceAdd, Nat.reduceLeDiff, Nat.reduceLT, Nat.zero_le, qtm_slen, qtm_sch, am_pf_c]
        exact no 1 (by decide) q1
    · simp only [Int32.reduceLT, Int32.reduceLE, eq_self, am_10, am_00, am_01, am_11, true_implies, false_implies, not_true_eq_false, not_false_eq_true, or_true, true_or, and_self, implies_true, qtm_push, qtm_iload, qtm_lload, qtm_aload, qtm_istore, qtm_lstore, qtm_astore, qtm_iinc, qtm_un, qtm_bin, qtm_div, qtm_lbin, qtm_ldiv, qtm_lsh, qtm_lcmp, qtm_i2l, qtm_l2i, qtm_if, qtm_cmp, qtm_getf, qtm_puti, qtm_putz, qtm_putl, qtm_iald, qtm_iast, qtm_zald, qtm_zast, qtm_aald, qtm_tsw, qtm_callV, qtm_callS, qtm_acp, qtm_alen, qtm_max, qtm_min, qtm_dup, qtm_pop, qtm_iret, qtm_zret, qtm_lret, qtm_aret, qtm_vret, qtm_swn, qtm_swc, am_oi_c, am_ol_c, am_or_r, am_or_f, am_pi_c, am_pj_c, am_pr_c, am_pa_r, am_pa_f, am_yo_c, am_ya_c, am_fv_i, am_fv_l, am_fv_r, am_fi_c, am_fl_c, am_rv_c, am_n2_s, am_n2_n, am_pv_0, am_pv_s, am_cs_n, am_cs_c, Value.category, List.getElem?_cons_zero, List.getElem?_cons_succ, List.set_cons_zero, List.set_cons_succ, List.length_cons, List.length_nil, List.drop_succ_cons, List.drop_zero, List.take_succ_cons, List.take_zero, List.take_nil, List.reverse_cons, List.reverse_nil, List.nil_append, List.cons_append, List.append_nil, true_and, and_true, Int.reduceAdd, am_o0, am_o1, am_o2, am_o3, am_o4, am_o5, am_o6, am_o7, am_o8, am_o9, am_o10, am_o11, am_o12, am_o13, am_o14, am_o15, am_o16, am_o17, am_o18, am_o19, am_o20, am_o21, am_o22, am_o23, am_o24, am_o25, am_o26, am_o27, Nat.reduceAdd, Nat.reduceLeDiff, Nat.reduceLT, Nat.zero_le, qtm_slen, qtm_sch, am_pf_c]
      exact no 0 (by decide) q0
set_option maxHeartbeats 4000000 in
set_option maxRecDepth 100000 in
theorem c_X6_isSign {c s : Nat} (hm : am_mod Y) (ht : am_mt h tp tz s) (hs : s ≤ tz) (hb : h 49 29 = 0) (hc : 40 ≤ c ∧ c ≤ 61) (h1 : sp_kd tp tz s = c → K [.int 1] Y h) (h0 : sp_kd tp tz s ≠ c → K [.int 0] Y h) : am_Met d 0 0 YX6_isSign [.ref 49, .int (nI c)] Y h K := by
  refine en_X6_isSign fun X F hr => ?_
  have m0 := hm.1
  obtain ⟨t1, t2, t3, t4, t5⟩ := ht
  have e3 : (nI (sp_rw tp tz s) = 3) ↔ sp_rw tp tz s = 3 := nI_eq (b := 3) (by have := sp_rw_lt tp tz s; omega) (by decide)
  simp only [te_X6_isSign_0, te_X6_isSign_7, te_X6_isSign_29, te_X6_isSign_30, te_X6_isSign_15, te_X6_isSign_25, m0, mc_0, mc_1, mc_2, mc_3, mc_4, mc_5, mc_6, mc_7, mc_8, mc_9, mc_10, mc_11, mc_12, mc_13, mc_14, mc_15, mc_16, mc_17, mc_18, mc_19, mc_20, mc_21, mc_22, mc_23, mc_24, mc_25, mc_26, mc_27, mc_28, mc_29, mc_30, mc_31, mc_32, mc_33, mc_34, mc_35, mc_36, mc_37, mc_38, mc_39, mc_40, mc_41, mc_42, mc_43, mc_44, mc_45, hb, t1, lg_cmp_eq, e3, Int32.reduceLT, Int32.reduceLE, eq_self, am_10, am_00, am_01, am_11, true_implies, false_implies, not_true_eq_false, not_false_eq_true, or_true, true_or, and_self, implies_true, qtm_push, qtm_iload, qtm_lload, qtm_aload, qtm_istore, qtm_lstore, qtm_astore, qtm_iinc, qtm_un, qtm_bin, qtm_div, qtm_lbin, qtm_ldiv, qtm_lsh, qtm_lcmp, qtm_i2l, qtm_l2i, qtm_if, qtm_cmp, qtm_getf, qtm_puti, qtm_putz, qtm_putl, qtm_iald, qtm_iast, qtm_zald, qtm_zast, qtm_aald, qtm_tsw, qtm_callV, qtm_callS, qtm_acp, qtm_alen, qtm_max, qtm_min, qtm_dup, qtm_pop, qtm_iret, qtm_zret, qtm_lret, qtm_aret, qtm_vret, qtm_swn, qtm_swc, am_oi_c, am_ol_c, am_or_r, am_or_f, am_pi_c, am_pj_c, am_pr_c, am_pa_r, am_pa_f, am_yo_c, am_ya_c, am_fv_i, am_fv_l, am_fv_r, am_fi_c, am_fl_c, am_rv_c, am_n2_s, am_n2_n, am_pv_0, am_pv_s, am_cs_n, am_cs_c, Value.category, List.getElem?_cons_zero, List.getElem?_cons_succ, List.set_cons_zero, List.set_cons_succ, List.length_cons, List.length_nil, List.drop_succ_cons, List.drop_zero, List.take_succ_cons, List.take_zero, List.take_nil, List.reverse_cons, List.reverse_nil, List.nil_append, List.cons_append, List.append_nil, true_and, and_true, Int.reduceAdd, am_o0, am_o1, am_o2, am_o3, am_o4, am_o5, am_o6, am_o7, am_o8, am_o9, am_o10, am_o11, am_o12, am_o13, am_o14, am_o15, am_o16, am_o17, am_o18, am_o19, am_o20, am_o21, am_o22, am_o23, am_o24, am_o25, am_o26, am_o27, Nat.reduceAdd, Nat.reduceLeDiff, Nat.reduceLT, Nat.zero_le, qtm_slen, qtm_sch, am_pf_c]
  refine ⟨fun z => ?_, fun z => h0 fun y => z (sp_sign_kd hc.1 y)⟩
  obtain ⟨q1, q2, q3, q4⟩ := sp_rw_3 z
  rw [t5 z, am_i2l_inj]
  refine ⟨fun y => h1 ?_, fun y => h0 fun y2 => y ?_⟩
  · rw [q1, y, nI_clamp (by omega)]
  · rw [q2, ← q1, y2]
set_option maxHeartbeats 4000000 in
set_option maxRecDepth 100000 in
theorem c_X6_isSignB {c : Int32} (hm : am_mod Y) (hb : h 49 29 = 1) (h0 : K [.int 0] Y h) : am_Met d 0 0 YX6_isSign [.ref 49, .int c] Y h K := by
  refine en_X6_isSign fun X F hr => ?_
  have m0 := hm.1
  simp only [te_X6_isSign_0, te_X6_isSign_7, te_X6_isSign_29, te_X6_isSign_30, te_X6_isSign_15, te_X6_isSign_25, m0, mc_0, mc_1, mc_2, mc_3, mc_4, mc_5, mc_6, mc_7, mc_8, mc_9, mc_10, mc_11, mc_12, mc_13, mc_14, mc_15, mc_16, mc_17, mc_18, mc_19, mc_20, mc_21, mc_22, mc_23, mc_24, mc_25, mc_26, mc_27, mc_28, mc_29, mc_30, mc_31, mc_32, mc_33, mc_34, mc_35, mc_36, mc_37, mc_38, mc_39, mc_40, mc_41, mc_42, mc_43, mc_44, mc_45, hb, Int32.reduceLT, Int32.reduceLE, eq_self, am_10, am_00, am_01, am_11, true_implies, false_implies, not_true_eq_false, not_false_eq_true, or_true, true_or, and_self, implies_true, qtm_push, qtm_iload, qtm_lload, qtm_aload, qtm_istore, qtm_lstore, qtm_astore, qtm_iinc, qtm_un, qtm_bin, qtm_div, qtm_lbin, qtm_ldiv, qtm_lsh, qtm_lcmp, qtm_i2l, qtm_l2i, qtm_if, qtm_cmp, qtm_getf, qtm_puti, qtm_putz, qtm_putl, qtm_iald, qtm_iast, qtm_zald, qtm_zast, qtm_aald, qtm_tsw, qtm_callV, qtm_callS, qtm_acp, qtm_alen, qtm_max, qtm_min, qtm_dup, qtm_pop, qtm_iret, qtm_zret, qtm_lret, qtm_aret, qtm_vret, qtm_swn, qtm_swc, am_oi_c, am_ol_c, am_or_r, am_or_f, am_pi_c, am_pj_c, am_pr_c, am_pa_r, am_pa_f, am_yo_c, am_ya_c, am_fv_i, am_fv_l, am_fv_r, am_fi_c, am_fl_c, am_rv_c, am_n2_s, am_n2_n, am_pv_0, am_pv_s, am_cs_n, am_cs_c, Value.category, List.getElem?_cons_zero, List.getElem?_cons_succ, List.set_cons_zero, List.set_cons_succ, List.length_cons, List.length_nil, List.drop_succ_cons, List.drop_zero, List.take_succ_cons, List.take_zero, List.take_nil, List.reverse_cons, List.reverse_nil, List.nil_append, List.cons_append, List.append_nil, true_and, and_true, Int.reduceAdd, am_o0, am_o1, am_o2, am_o3, am_o4, am_o5, am_o6, am_o7, am_o8, am_o9, am_o10, am_o11, am_o12, am_o13, am_o14, am_o15, am_o16, am_o17, am_o18, am_o19, am_o20, am_o21, am_o22, am_o23, am_o24, am_o25, am_o26, am_o27, Nat.reduceAdd, Nat.reduceLeDiff, Nat.reduceLT, Nat.zero_le, qtm_slen, qtm_sch, am_pf_c]
  exact h0
set_option maxHeartbeats 4000000 in
set_option maxRecDepth 100000 in
theorem c_X6_isWordB {x1 x2 x3 x4 x5 x6 x7 x8 : Int32} (hm : am_mod Y) (hb : h 49 29 = 1) (h0 : K [.int 0] Y h) : am_Met d 0 0 YX6_isWord [.ref 49, .int x1, .int x2, .int x3, .int x4, .int x5, .int x6, .int x7, .int x8] Y h K := by
  refine en_X6_isWord fun X F hr => ?_
  have m0 := hm.1
  simp only [te_X6_isWord_0, te_X6_isWord_7, te_X6_isWord_15, te_X6_isWord_29, te_X6_isWord_38, te_X6_isWord_47, te_X6_isWord_56, te_X6_isWord_66, te_X6_isWord_76, te_X6_isWord_86, te_X6_isWord_97, te_X6_isWord_112, te_X6_isWord_113, te_X6_isWord_108, m0, mc_0, mc_1, mc_2, mc_3, mc_4, mc_5, mc_6, mc_7, mc_8, mc_9, mc_10, mc_11, mc_12, mc_13, mc_14, mc_15, mc_16, mc_17, mc_18, mc_19, mc_20, mc_21, mc_22, mc_23, mc_24, mc_25, mc_26, mc_27, mc_28, mc_29, mc_30, mc_31, mc_32, mc_33, mc_34, mc_35, mc_36, mc_37, mc_38, mc_39, mc_40, mc_41, mc_42, mc_43, mc_44, mc_45, hb, Int32.reduceLT, Int32.reduceLE, eq_self, am_10, am_00, am_01, am_11, true_implies, false_implies, not_true_eq_false, not_false_eq_true, or_true, true_or, and_self, implies_true, qtm_push, qtm_iload, qtm_lload, qtm_aload, qtm_istore, qtm_lstore, qtm_astore, qtm_iinc, qtm_un, qtm_bin, qtm_div, qtm_lbin, qtm_ldiv, qtm_lsh, qtm_lcmp, qtm_i2l, qtm_l2i, qtm_if, qtm_cmp, qtm_getf, qtm_puti, qtm_putz, qtm_putl, qtm_iald, qtm_iast, qtm_zald, qtm_zast, qtm_aald, qtm_tsw, qtm_callV, qtm_callS, qtm_acp, qtm_alen, qtm_max, qtm_min, qtm_dup, qtm_pop, qtm_iret, qtm_zret, qtm_lret, qtm_aret, qtm_vret, qtm_swn, qtm_swc, am_oi_c, am_ol_c, am_or_r, am_or_f, am_pi_c, am_pj_c, am_pr_c, am_pa_r, am_pa_f, am_yo_c, am_ya_c, am_fv_i, am_fv_l, am_fv_r, am_fi_c, am_fl_c, am_rv_c, am_n2_s, am_n2_n, am_pv_0, am_pv_s, am_cs_n, am_cs_c, Value.category, List.getElem?_cons_zero, List.getElem?_cons_succ, List.set_cons_zero, List.set_cons_succ, List.length_cons, List.length_nil, List.drop_succ_cons, List.drop_zero, List.take_succ_cons, List.take_zero, List.take_nil, List.reverse_cons, List.reverse_nil, List.nil_append, List.cons_append, List.append_nil, true_and, and_true, Int.reduceAdd, am_o0, am_o1, am_o2, am_o3, am_o4, am_o5, am_o6, am_o7, am_o8, am_o9, am_o10, am_o11, am_o12, am_o13, am_o14, am_o15, am_o16, am_o17, am_o18, am_o19, am_o20, am_o21, am_o22, am_o23, am_o24, am_o25, am_o26, am_o27, Nat.reduceAdd, Nat.reduceLeDiff, Nat.reduceLT, Nat.zero_le, qtm_slen, qtm_sch, am_pf_c]
  exact h0
/-- one more sign is written -/
def am_sy (h : am_H) (t c k v : Nat) : am_H := am_up (am_up (am_up h 52 (160 * t + c) (nI (sp_rc k))) 53 (160 * t + c) (nI v)) 49 8 (nI (c + 1))
set_option maxHeartbeats 4000000 in
set_option maxRecDepth 100000 in
theorem c_X6_says1 {c k v : Nat} (hm : am_mod Y) (hf : am_mf h tp tz t) (hb : h 49 29 = 0) (h8 : h 49 8 = nI c) (hc : c < 160) (hK : K [] Y (am_sy h t c k v)) : am_Met d 0 0 YX6_says1 [.ref 49, .int (nI (sp_rc k)), .int (nI v)] Y h K := by
  refine en_X6_says1 fun X F hr => ?_
  obtain ⟨m0, m1, m2, m3, m4, m5, m6, m7, m8, m9, m10, m11, m12, m13, m14, m15, m16, m17⟩ := id hm
  have ht6 := hf.2.2.2.1
  unfold am_sy at hK
  simp only [te_X6_says1_0, te_X6_says1_8, te_X6_says1_7, m0, m3, m4, mc_0, mc_1, mc_2, mc_3, mc_4, mc_5, mc_6, mc_7, mc_8, mc_9, mc_10, mc_11, mc_12, mc_13, mc_14, mc_15, mc_16, mc_17, mc_18, mc_19, mc_20, mc_21, mc_22, mc_23, mc_24, mc_25, mc_26, mc_27, mc_28, mc_29, mc_30, mc_31, mc_32, mc_33, mc_34, mc_35, mc_36, mc_37, mc_38, mc_39, mc_40, mc_41, mc_42, mc_43, mc_44, mc_45, hb, h8, hf.1, nI_add, nI_1, nI_clamp (show 160 * t + c < 2 ^ 31 by omega), am_up_ne 49 (show 49 ≠ 52 by decide), am_up_ne 49 (show 49 ≠ 53 by decide), Int32.reduceLT, Int32.reduceLE, eq_self, am_10, am_00, am_01, am_11, true_implies, false_implies, not_true_eq_false, not_false_eq_true, or_true, true_or, and_self, implies_true, qtm_push, qtm_iload, qtm_lload, qtm_aload, qtm_istore, qtm_lstore, qtm_astore, qtm_iinc, qtm_un, qtm_bin, qtm_div, qtm_lbin, qtm_ldiv, qtm_lsh, qtm_lcmp, qtm_i2l, qtm_l2i, qtm_if, qtm_cmp, qtm_getf, qtm_puti, qtm_putz, qtm_putl, qtm_iald, qtm_iast, qtm_zald, qtm_zast, qtm_aald, qtm_tsw, qtm_callV, qtm_callS, qtm_acp, qtm_alen, qtm_max, qtm_min, qtm_dup, qtm_pop, qtm_iret, qtm_zret, qtm_lret, qtm_aret, qtm_vret, qtm_swn, qtm_swc, am_oi_c, am_ol_c, am_or_r, am_or_f, am_pi_c, am_pj_c, am_pr_c, am_pa_r, am_pa_f, am_yo_c, am_ya_c, am_fv_i, am_fv_l, am_fv_r, am_fi_c, am_fl_c, am_rv_c, am_n2_s, am_n2_n, am_pv_0, am_pv_s, am_cs_n, am_cs_c, Value.category, List.getElem?_cons_zero, List.getElem?_cons_succ, List.set_cons_zero, List.set_cons_succ, List.length_cons, List.length_nil, List.drop_succ_cons, List.drop_zero, List.take_succ_cons, List.take_zero, List.take_nil, List.reverse_cons, List.reverse_nil, List.nil_append, List.cons_append, List.append_nil, true_and, and_true, Int.reduceAdd, am_o0, am_o1, am_o2, am_o3, am_o4, am_o5, am_o6, am_o7, am_o8, am_o9, am_o10, am_o11, am_o12, am_o13, am_o14, am_o15, am_o16, am_o17, am_o18, am_o19, am_o20, am_o21, am_o22, am_o23, am_o24, am_o25, am_o26, am_o27, Nat.reduceAdd, Nat.reduceLeDiff, Nat.reduceLT, Nat.zero_le, qtm_slen, qtm_sch, am_pf_c]
  exact ⟨vp_in_nI (by omega) (by decide), vp_in_nI (by omega) (by decide), hK⟩
set_option maxHeartbeats 4000000 in
set_option maxRecDepth 100000 in
theorem c_X6_says1B {x v : Int32} (hm : am_mod Y) (hb : h 49 29 = 1) (hK : K [] Y h) : am_Met d 0 0 YX6_says1 [.ref 49, .int x, .int v] Y h K := by
  refine en_X6_says1 fun X F hr => ?_
  have m0 := hm.1
  simp only [te_X6_says1_0, te_X6_says1_8, te_X6_says1_7, m0, mc_0, mc_1, mc_2, mc_3, mc_4, mc_5, mc_6, mc_7, mc_8, mc_9, mc_10, mc_11, mc_12, mc_13, mc_14, mc_15, mc_16, mc_17, mc_18, mc_19, mc_20, mc_21, mc_22, mc_23, mc_24, mc_25, mc_26, mc_27, mc_28, mc_29, mc_30, mc_31, mc_32, mc_33, mc_34, mc_35, mc_36, mc_37, mc_38, mc_39, mc_40, mc_41, mc_42, mc_43, mc_44, mc_45, hb, Int32.reduceLT, Int32.reduceLE, eq_self, am_10, am_00, am_01, am_11, true_implies, false_implies, not_true_eq_false, not_false_eq_true, or_true, true_or, and_self, implies_true, qtm_push, qtm_iload, qtm_lload, qtm_aload, qtm_istore, qtm_lstore, qtm_astore, qtm_iinc, qtm_un, qtm_bin, qtm_div, qtm_lbin, qtm_ldiv, qtm_lsh, qtm_lcmp, qtm_i2l, qtm_l2i, qtm_if, qtm_cmp, qtm_getf, qtm_puti, qtm_putz, qtm_putl, qtm_iald, qtm_iast, qtm_zald, qtm_zast, qtm_aald, qtm_tsw, qtm_callV, qtm_callS, qtm_acp, qtm_alen, qtm_max, qtm_min, qtm_dup, qtm_pop, qtm_iret, qtm_zret, qtm_lret, qtm_aret, qtm_vret, qtm_swn, qtm_swc, am_oi_c, am_ol_c, am_or_r, am_or_f, am_pi_c, am_pj_c, am_pr_c, am_pa_r, am_pa_f, am_yo_c, am_ya_c, am_fv_i, am_fv_l, am_fv_r, am_fi_c, am_fl_c, am_rv_c, am_n2_s, am_n2_n, am_pv_0, am_pv_s, am_cs_n, am_cs_c, Value.category, List.getElem?_cons_zero, List.getElem?_cons_succ, List.set_cons_zero, List.set_cons_succ, List.length_cons, List.length_nil, List.drop_succ_cons, List.drop_zero, List.take_succ_cons, List.take_zero, List.take_nil, List.reverse_cons, List.reverse_nil, List.nil_append, List.cons_append, List.append_nil, true_and, and_true, Int.reduceAdd, am_o0, am_o1, am_o2, am_o3, am_o4, am_o5, am_o6, am_o7, am_o8, am_o9, am_o10, am_o11, am_o12, am_o13, am_o14, am_o15, am_o16, am_o17, am_o18, am_o19, am_o20, am_o21, am_o22, am_o23, am_o24, am_o25, am_o26, am_o27, Nat.reduceAdd, Nat.reduceLeDiff, Nat.reduceLT, Nat.zero_le, qtm_slen, qtm_sch, am_pf_c]
  exact hK
/-- the reference reads: all is well so far, k may yet be open -/
def am_md (h : am_H) (tp : Nat → Int32) (tz t s : Nat) (l : List (Nat × Nat)) (k : Nat) : Prop := am_mf h tp tz t ∧ am_mt h tp tz s ∧ h 49 29 = 0 ∧ h 49 28 = nI (5 - k) ∧ h 49 8 = nI l.length ∧ sp_cdM (h 52) (h 53) (160 * t) l ∧ s ≤ tz
/-- it found a fault at s -/
def am_mb (h : am_H) (s : Nat) : Prop := h 49 29 = 1 ∧ h 49 30 = nI s
def am_mp (t : Nat) (h h1 : am_H) : Prop := (∀ a, a ≠ 49 → a ≠ 52 → a ≠ 53 → h1 a = h a) ∧ (∀ i, i < 160 * t ∨ 160 * t + 160 ≤ i → h1 52 i = h 52 i ∧ h1 53 i = h 53 i) ∧ ∀ k, k ≠ 8 → (k < 24 ∨ 30 < k) → h1 49 k = h 49 k
theorem am_mp.rf (t : Nat) (h : am_H) : am_mp t h h := ⟨fun _ _ _ _ => rfl, fun _ _ => ⟨rfl, rfl⟩, fun _ _ _ => rfl⟩
theorem am_mp.tr {t : Nat} {a b c : am_H} (h1 : am_mp t a b) (h2 : am_mp t b c) : am_mp t a c := ⟨fun x q1 q2 q3 => (h2.1 x q1 q2 q3).trans (h1.1 x q1 q2 q3), fun i q => ⟨(h2.2.1 i q).1.trans (h1.2.1 i q).1, (h2.2.1 i q).2.trans (h1.2.1 i q).2⟩, fun k q1 q2 => (h2.2.2 k q1 q2).trans (h1.2.2 k q1 q2)⟩
theorem am_ln.mp {t : Nat} {h h1 : am_H} (k : am_ln h h1) : am_mp t h h1 := ⟨fun a q _ _ => k.1 a q, fun i _ => ⟨by rw [k.1 52 (by decide)], by rw [k.1 53 (by decide)]⟩, fun j _ q => k.2 j (by omega)⟩
theorem am_mp.up {t : Nat} {h h1 : am_H} (k : am_mp t h h1) (j : Nat) (v : Int32) (hj : j = 8 ∨ (24 ≤ j ∧ j ≤ 30)) : am_mp t h (am_up h1 49 j v) := ⟨fun a q1 q2 q3 => (am_up_ne a q1).trans (k.1 a q1 q2 q3), fun i q => by rw [am_up_ne 52 (by decide), am_up_ne 53 (by decide)]; exact k.2.1 i q, fun i q1 q2 => by rw [am_up_ap, if_pos rfl, if_neg (by omega)]; exact k.2.2 i q1 q2⟩
theorem am_md.ln {h h1 : am_H} {tp : Nat → Int32} {tz t s s2 k : Nat} {l : List (Nat × Nat)} (r : am_md h tp tz t s l k) (q : am_ln h h1) (z : am_mt h1 tp tz s2) (h2 : s2 ≤ tz) : am_md h1 tp tz t s2 l k := ⟨r.1.ln q, z, (q.2 29 (by decide)).trans r.2.2.1, (q.2 28 (by decide)).trans r.2.2.2.1, (q.2 8 (by decide)).trans r.2.2.2.2.1, by rw [q.1 52 (by decide), q.1 53 (by decide)]; exact r.2.2.2.2.2.1, h2⟩
theorem sp_cdM_cong {f g f' g' : Nat → Int32} : ∀ (l : List (Nat × Nat)) (i : Nat), (∀ j, i ≤ j → j < i + l.length → f' j = f j ∧ g' j = g j) → sp_cdM f g i l → sp_cdM f' g' i l
  | [], _, _, _ => trivial
  | (k, v) :: l, i, hg, h => ⟨by rw [(hg i (Nat.le_refl i) (by simp)).1]; exact h.1, by rw [(hg i (Nat.le_refl i) (by simp)).2]; exact h.2.1, sp_cdM_cong l (i + 1) (fun j h1 h2 => hg j (by omega) (by simp only [List.length_cons]; omega)) h.2.2⟩
theorem sp_cdM_app {f g : Nat → Int32} : ∀ (l : List (Nat × Nat)) (i k v : Nat), sp_cdM f g i l → f (i + l.length) = nI (sp_rc k) → g (i + l.length) = nI v → sp_cdM f g i (l ++ [(k, v)])
  | [], i, k, v, _, h, h2 => ⟨h, h2, trivial⟩
  | (k0, v0) :: l, i, k, v, h, h2, h3 => ⟨h.1, h.2.1, sp_cdM_app l (i + 1) k v h.2.2 (by rw [← h2]; congr 1; simp only [List.length_cons]; omega) (by rw [← h3]; congr 1; simp only [List.length_cons]; omega)⟩
theorem am_sy_mp {h : am_H} {t c k v : Nat} (hc : c < 160) : am_mp t h (am_sy h t c k v) := by
  unfold am_sy
  refine ⟨fun a q1 q2 q3 => by rw [am_up_ne a q1, am_up_ne a q3, am_up_ne a q2], fun i q => ⟨?_, ?_⟩, fun j q1 q2 => ?_⟩
  · rw [am_up_ne 52 (by decide), am_up_ne 52 (by decide), am_up_ap, if_pos rfl, if_neg (by omega)]
  · rw [am_up_ne 53 (by decide), am_up_ap, if_pos rfl, if_neg (by omega), am_up_ne 53 (by decide)]
  · rw [am_up_ap, if_pos rfl, if_neg q1, am_up_ne 49 (by decide), am_up_ne 49 (by decide)]
theorem am_md.sy {h : am_H} {tp : Nat → Int32} {tz t s k : Nat} {l : List (Nat × Nat)} (r : am_md h tp tz t s l k) (op v : Nat) : am_md (am_sy h t l.length op v) tp tz t s (l ++ [(op, v)]) k := by
  obtain ⟨⟨f1, f2, f3, f4, f5⟩, ⟨t1, t2, t3, t4, t5⟩, r3, r4, r5, r6, r7⟩ := r
  have e49 : ∀ j, j ≠ 8 → am_sy h t l.length op v 49 j = h 49 j := fun j hj => by
    unfold am_sy
    rw [am_up_ap, if_pos rfl, if_neg hj, am_up_ne 49 (by decide), am_up_ne 49 (by decide)]
  refine ⟨⟨by rw [e49 22 (by decide)]; exact f1, by rw [e49 23 (by decide)]; exact f2, f3, f4, fun i hi => ?_⟩, ⟨by rw [e49 25 (by decide)]; exact t1, by rw [e49 26 (by decide)]; exact t2, fun q => by rw [e49 24 (by decide)]; exact t3 q, fun q => by rw [e49 27 (by decide)]; exact t4 q, fun q => by rw [e49 27 (by decide)]; exact t5 q⟩, by rw [e49 29 (by decide)]; exact r3, by rw [e49 28 (by decide)]; exact r4, ?_, ?_, r7⟩
  · have : am_sy h t l.length op v 50 = h 50 := by
      unfold am_sy
      rw [am_up_ne 50 (by decide), am_up_ne 50 (by decide), am_up_ne 50 (by decide)]
    rw [this]
    exact f5 i hi
  · unfold am_sy
    rw [am_up_ap, if_pos rfl, if_pos rfl, List.length_append]
    rfl
  · refine sp_cdM_app l (160 * t) op v (sp_cdM_cong l (160 * t) (fun j _ hj => ⟨?_, ?_⟩) r6) ?_ ?_
    · unfold am_sy
      rw [am_up_ne 52 (by decide), am_up_ne 52 (by decide), am_up_ap, if_pos rfl, if_neg (by omega)]
    · unfold am_sy
      rw [am_up_ne 53 (by decide), am_up_ap, if_pos rfl, if_neg (by omega), am_up_ne 53 (by decide)]
    · unfold am_sy
      rw [am_up_ne 52 (by decide), am_up_ne 52 (by decide), am_up_ap, if_pos rfl, if_pos rfl]
    · unfold am_sy
      rw [am_up_ne 53 (by decide), am_up_ap, if_pos rfl, if_pos rfl]
set_option maxHeartbeats 4000000 in
set_option maxRecDepth 100000 in
/-- a fault is marked -/
theorem c_X6_failD {s k : Nat} {l : List (Nat × Nat)} (hm : am_mod Y) (r : am_md h tp tz t s l k) (hK : ∀ h1, am_mp t h h1 → am_mb h1 s → K [] Y h1) : am_Met d 0 0 YX6_fail [.ref 49] Y h K :=
  c_X6_fail hm r.2.1.2.1 (fun _ => hK _ (((am_mp.rf t h).up 29 1 (by decide)).up 30 _ (by decide)) ⟨by rw [am_up_ap, if_pos rfl, if_neg (by decide), am_up_ap, if_pos rfl, if_pos rfl], by rw [am_up_ap, if_pos rfl, if_pos rfl]⟩) (fun z => absurd r.2.2.1 z)
set_option maxHeartbeats 4000000 in
set_option maxRecDepth 100000 in
theorem c_X6_failB {s : Nat} (hm : am_mod Y) (r : am_mb h s) (hK : K [] Y h) : am_Met d 0 0 YX6_fail [.ref 49] Y h K := by
  refine en_X6_fail fun X F hr => ?_
  have m0 := hm.1
  simp only [te_X6_fail_0, te_X6_fail_7, te_X6_fail_20, m0, mc_0, mc_1, mc_2, mc_3, mc_4, mc_5, mc_6, mc_7, mc_8, mc_9, mc_10, mc_11, mc_12, mc_13, mc_14, mc_15, mc_16, mc_17, mc_18, mc_19, mc_20, mc_21, mc_22, mc_23, mc_24, mc_25, mc_26, mc_27, mc_28, mc_29, mc_30, mc_31, mc_32, mc_33, mc_34, mc_35, mc_36, mc_37, mc_38, mc_39, mc_40, mc_41, mc_42, mc_43, mc_44, mc_45, r.1, Int32.reduceLT, Int32.reduceLE, eq_self, am_10, am_00, am_01, am_11, true_implies, false_implies, not_true_eq_false, not_false_eq_true, or_true, true_or, and_self, implies_true, qtm_push, qtm_iload, qtm_lload, qtm_aload, qtm_istore, qtm_lstore, qtm_astore, qtm_iinc, qtm_un, qtm_bin, qtm_div, qtm_lbin, qtm_ldiv, qtm_lsh, qtm_lcmp, qtm_i2l, qtm_l2i, qtm_if, qtm_cmp, qtm_getf, qtm_puti, qtm_putz, qtm_putl, qtm_iald, qtm_iast, qtm_zald, qtm_zast, qtm_aald, qtm_tsw, qtm_callV, qtm_callS, qtm_acp, qtm_alen, qtm_max, qtm_min, qtm_dup, qtm_pop, qtm_iret, qtm_zret, qtm_lret, qtm_aret, qtm_vret, qtm_swn, qtm_swc, am_oi_c, am_ol_c, am_or_r, am_or_f, am_pi_c, am_pj_c, am_pr_c, am_pa_r, am_pa_f, am_yo_c, am_ya_c, am_fv_i, am_fv_l, am_fv_r, am_fi_c, am_fl_c, am_rv_c, am_n2_s, am_n2_n, am_pv_0, am_pv_s, am_cs_n, am_cs_c, Value.category, List.getElem?_cons_zero, List.getElem?_cons_succ, List.set_cons_zero, List.set_cons_succ, List.length_cons, List.length_nil, List.drop_succ_cons, List.drop_zero, List.take_succ_cons, List.take_zero, List.take_nil, List.reverse_cons, List.reverse_nil, List.nil_append, List.cons_append, List.append_nil, true_and, and_true, Int.reduceAdd, am_o0, am_o1, am_o2, am_o3, am_o4, am_o5, am_o6, am_o7, am_o8, am_o9, am_o10, am_o11, am_o12, am_o13, am_o14, am_o15, am_o16, am_o17, am_o18, am_o19, am_o20, am_o21, am_o22, am_o23, am_o24, am_o25, am_o26, am_o27, Nat.reduceAdd, Nat.reduceLeDiff, Nat.reduceLT, Nat.zero_le, qtm_slen, qtm_sch, am_pf_c]
  exact hK
end CON
