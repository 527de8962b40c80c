def sp_bd (v lo hi : Int32) : Int32 := if v < lo then lo else if hi < v then hi else v
theorem sp_bd_in {v lo hi : Int32} (h : lo ≤ hi) : lo ≤ sp_bd v lo hi ∧ sp_bd v lo hi ≤ hi := by
  simp only [sp_bd, am_lt, am_le] at *
  split
  · omega
  · split <;> omega
theorem sp_bd_mm {v lo hi : Int32} (h : lo ≤ hi) : (if lo < (if v < hi then v else hi) then (if v < hi then v else hi) else lo) = sp_bd v lo hi := by
  simp only [sp_bd, am_lt, am_le, am_eq] at *
  repeat' split
  all_goals first | rfl | omega
theorem sp_bd_wi {v lo hi : Int32} : (if v < lo then lo else if hi < v then hi else v) = sp_bd v lo hi := rfl
/-- the names' values -/
def sp_nm (w : am_H) (n p : Nat) : Nat → Int32 := fun k => if k = 0 then w 5 p else if k = 1 then w 1 (w 6 p).toNatClampNeg else if k = 2 then w 3 p else if k = 3 then w 0 9 else if k = 4 then w 0 10 else sp_metBy w n p
theorem sp_ex_cong {nm nm' : Nat → Int32} (hn : ∀ i, i < 6 → nm i = nm' i) : ∀ (l : List (Nat × Nat)) (k : Nat) (s : List Int32), sp_wf l k → sp_ex nm l s = sp_ex nm' l s
  | [], _, _, _ => rfl
  | (k, v) :: l, n, s, h => by
    simp only [sp_wf] at h
    simp only [sp_ex]
    by_cases h0 : k = 0
    · subst h0
      simp only [Nat.zero_le, if_true] at h ⊢
      exact sp_ex_cong hn l _ _ h.2.2.2
    by_cases h1 : k = 1
    · subst h1
      simp only [Nat.le_refl, if_true] at h
      simp only [if_neg h0, if_true]
      rw [hn v (h.2.2.1 trivial)]
      exact sp_ex_cong hn l _ _ h.2.2.2
    rw [if_neg (show ¬ k ≤ 1 by omega)] at h
    simp only [if_neg h0, if_neg h1]
    by_cases h2 : k ≤ 3
    · rw [if_pos h2] at h
      by_cases k2 : k = 2
      · simp only [if_pos k2]
        exact sp_ex_cong hn l _ _ h.2.2
      · simp only [if_neg k2, if_pos (show k = 3 by omega)]
        exact sp_ex_cong hn l _ _ h.2.2
    · rw [if_neg h2] at h
      simp only [if_neg (show ¬ k = 2 by omega), if_neg (show ¬ k = 3 by omega)]
      exact sp_ex_cong hn l _ _ h.2.2.2
abbrev am_F : Type := Nat → (Nat → Int32) → Int32
/-- the Steps object q says f; its pile is one of the cells St -/
def am_tx (Y : List am_C) (h : am_H) (St : Nat → Prop) (q : Nat) (f : am_F) : Prop := ∃ c e s len : Nat, Y[q]? = some (2, 2, [.ref c, .ref e, .ref s]) ∧ Y[c]? = some (0, len, []) ∧ Y[e]? = some (0, 3, []) ∧ Y[s]? = some (0, 36, []) ∧ St s ∧ ¬ St c ∧ ¬ St e ∧ 28 ≤ c ∧ 28 ≤ e ∧ 28 ≤ s ∧ (len < 1000 ∧ (c < 35 ∨ 66 < c) ∧ (e < 35 ∨ 66 < e)) ∧ ∀ p, p < 3 → ∃ i0 ops, (if p = 0 then i0 = 0 else h e (p - 1) = nI i0) ∧ h e p = nI (i0 + ops.length) ∧ i0 + ops.length ≤ len ∧ sp_wf ops 0 ∧ sp_cd (h c) i0 ops ∧ ∀ nm, f p nm = sp_val nm ops
theorem am_tx.keep {Y : List am_C} {h h' : am_H} {St : Nat → Prop} {q : Nat} {f : am_F} (ht : am_tx Y h St q f) (hh : ∀ a, 28 ≤ a → ¬ St a → h' a = h a) : am_tx Y h' St q f := by
  obtain ⟨c, e, s, len, h1, h2, h3, h4, h5, h6, h7, h8, h9, h10, h11, h12⟩ := ht
  refine ⟨c, e, s, len, h1, h2, h3, h4, h5, h6, h7, h8, h9, h10, h11, fun p hp => ?_⟩
  rw [hh c h8 h6, hh e h9 h7]
  exact h12 p hp
section CON
variable {d b n : Nat} {Y : List am_C} {h w : am_H} {K : List Value → List am_C → am_H → Prop}
set_option maxHeartbeats 4000000 in
set_option maxRecDepth 100000 in
theorem c_X5_bounded {v lo hi : Int32} (hd : 1 ≤ d) (hlh : lo ≤ hi) (hK : K [.int (sp_bd v lo hi)] Y h) : am_Met d 0 0 YX5_bounded [.int v, .int lo, .int hi] Y h K := by
  refine en_X5_bounded fun X F hr => ?_
  simp only [te_X5_bounded_0, sp_bd_mm hlh, qtm_push, qtm_iload, qtm_lload, qtm_aload, qtm_istore, qtm_lstore, qtm_astore, qtm_iinc, qtm_un, qtm_bin, qtm_div, qtm_lbin, qtm_ldiv, qtm_lsh, qtm_lcmp, qtm_i2l, qtm_l2i, qtm_if, qtm_cmp, qtm_getf, qtm_puti, qtm_putz, qtm_putl, qtm_iald, qtm_iast, qtm_zald, qtm_zast, qtm_aald, qtm_tsw, qtm_callV, qtm_callS, qtm_acp, qtm_alen, qtm_max, qtm_min, qtm_dup, qtm_pop, qtm_iret, qtm_zret, qtm_lret, qtm_aret, qtm_vret, qtm_swn, qtm_swc, am_oi_c, am_ol_c, am_or_r, am_or_f, am_pi_c, am_pj_c, am_pr_c, am_pa_r, am_pa_f, am_yo_c, am_ya_c, am_fv_i, am_fv_l, am_fv_r, am_fi_c, am_fl_c, am_rv_c, am_n2_s, am_n2_n, am_pv_0, am_pv_s, am_cs_n, am_cs_c, Value.category, List.getElem?_cons_zero, List.getElem?_cons_succ, List.set_cons_zero, List.set_cons_succ, List.length_cons, List.length_nil, List.drop_succ_cons, List.drop_zero, List.take_succ_cons, List.take_zero, List.take_nil, List.reverse_cons, List.reverse_nil, List.nil_append, List.cons_append, List.append_nil, true_and, and_true, Int.reduceAdd, am_o0, am_o1, am_o2, am_o3, am_o4, am_o5, am_o6, am_o7, am_o8, am_o9, am_o10, am_o11, am_o12, am_o13, am_o14, am_o15, am_o16, am_o17, am_o18, am_o19, am_o20, am_o21, am_o22, am_o23, am_o24, am_o25, am_o26, am_o27, Nat.reduceAdd, Nat.reduceLeDiff, Nat.reduceLT, Nat.zero_le]
  exact ⟨hd, hd, hK⟩
set_option maxHeartbeats 4000000 in
set_option maxRecDepth 100000 in
theorem c_X5_isPlace {v : Int32} (hK : K [.int (if 0 ≤ v ∧ v < 32 then 1 else 0)] Y h) : am_Met d 0 0 YX5_isPlace [.int v] Y h K := by
  refine en_X5_isPlace fun X F hr => ?_
  simp only [te_X5_isPlace_0, te_X5_isPlace_4, te_X5_isPlace_14, te_X5_isPlace_15, te_X5_isPlace_10, qtm_push, qtm_iload, qtm_lload, qtm_aload, qtm_istore, qtm_lstore, qtm_astore, qtm_iinc, qtm_un, qtm_bin, qtm_div, qtm_lbin, qtm_ldiv, qtm_lsh, qtm_lcmp, qtm_i2l, qtm_l2i, qtm_if, qtm_cmp, qtm_getf, qtm_puti, qtm_putz, qtm_putl, qtm_iald, qtm_iast, qtm_zald, qtm_zast, qtm_aald, qtm_tsw, qtm_callV, qtm_callS, qtm_acp, qtm_alen, qtm_max, qtm_min, qtm_dup, qtm_pop, qtm_iret, qtm_zret, qtm_lret, qtm_aret, qtm_vret, qtm_swn, qtm_swc, am_oi_c, am_ol_c, am_or_r, am_or_f, am_pi_c, am_pj_c, am_pr_c, am_pa_r, am_pa_f, am_yo_c, am_ya_c, am_fv_i, am_fv_l, am_fv_r, am_fi_c, am_fl_c, am_rv_c, am_n2_s, am_n2_n, am_pv_0, am_pv_s, am_cs_n, am_cs_c, Value.category, List.getElem?_cons_zero, List.getElem?_cons_succ, List.set_cons_zero, List.set_cons_succ, List.length_cons, List.length_nil, List.drop_succ_cons, List.drop_zero, List.take_succ_cons, List.take_zero, List.take_nil, List.reverse_cons, List.reverse_nil, List.nil_append, List.cons_append, List.append_nil, true_and, and_true, Int.reduceAdd, am_o0, am_o1, am_o2, am_o3, am_o4, am_o5, am_o6, am_o7, am_o8, am_o9, am_o10, am_o11, am_o12, am_o13, am_o14, am_o15, am_o16, am_o17, am_o18, am_o19, am_o20, am_o21, am_o22, am_o23, am_o24, am_o25, am_o26, am_o27, Nat.reduceAdd, Nat.reduceLeDiff, Nat.reduceLT, Nat.zero_le]
  refine ⟨fun q => ?_, fun q => ⟨fun q2 => ?_, fun q2 => ?_⟩⟩
  · rw [if_neg (fun z => absurd q (Int32.not_lt.mpr z.1))] at hK
    exact ⟨Or.inl trivial, hK⟩
  · rw [if_neg (fun z => absurd z.2 (Int32.not_lt.mpr q2))] at hK
    exact ⟨Or.inl trivial, hK⟩
  · rw [if_pos ⟨Int32.not_lt.mp q, Int32.not_le.mp q2⟩] at hK
    exact ⟨Or.inr trivial, hK⟩
set_option maxHeartbeats 4000000 in
set_option maxRecDepth 100000 in
/-- look(): the names are laid -/
theorem c_X4_look {p : Nat} (hd : 2 ≤ d) (hw : am_walk Y b) (hR : am_RW h b w) (hn : w 0 8 = nI n) (h5 : n ≤ 5) (hp : p < 5) (hat : vp_in (w 6 p) 32) (hK : ∀ h1, (∀ a, a ≠ b + 8 → h1 a = h a) → (∀ i, i < 6 → h1 (b + 8) i = sp_nm w n p i) → K [] Y h1) : am_Met d 0 0 YX4_look [.ref b, .int (nI p)] Y h K := by
  refine en_X4_look fun X F hr => ?_
  have hw' := hw
  obtain ⟨w0, w1, w2, w3, w4, w5, w6, w7, w8⟩ := hw
  have ha : (w 6 p).toNatClampNeg < 32 := Nat.not_le.mp fun q => hat (Or.inr q)
  simp only [te_X4_look_0, am_up_ap, reduceIte, Nat.reduceEqDiff, Nat.add_eq_left, Nat.left_eq_add, Nat.add_left_cancel_iff, am_t0, am_t1, am_t2, am_t3, am_t4, am_t5, am_t6, am_t7, am_t8, am_t9, am_t10, am_t11, w0, w1, w2, w3, w4, w5, w6, w7, w8, nI_clamp (show p < 2 ^ 31 by omega), hR.row 5 (by decide) (by decide) hp, hR.row 6 (by decide) (by decide) hp, hR.row 3 (by decide) (by decide) hp, hR.1 _ ha, hR.2.2 9 (by decide) (by decide), hR.2.2 10 (by decide) (by decide), qtm_push, qtm_iload, qtm_lload, qtm_aload, qtm_istore, qtm_lstore, qtm_astore, qtm_iinc, qtm_un, qtm_bin, qtm_div, qtm_lbin, qtm_ldiv, qtm_lsh, qtm_lcmp, qtm_i2l, qtm_l2i, qtm_if, qtm_cmp, qtm_getf, qtm_puti, qtm_putz, qtm_putl, qtm_iald, qtm_iast, qtm_zald, qtm_zast, qtm_aald, qtm_tsw, qtm_callV, qtm_callS, qtm_acp, qtm_alen, qtm_max, qtm_min, qtm_dup, qtm_pop, qtm_iret, qtm_zret, qtm_lret, qtm_aret, qtm_vret, qtm_swn, qtm_swc, am_oi_c, am_ol_c, am_or_r, am_or_f, am_pi_c, am_pj_c, am_pr_c, am_pa_r, am_pa_f, am_yo_c, am_ya_c, am_fv_i, am_fv_l, am_fv_r, am_fi_c, am_fl_c, am_rv_c, am_n2_s, am_n2_n, am_pv_0, am_pv_s, am_cs_n, am_cs_c, Value.category, List.getElem?_cons_zero, List.getElem?_cons_succ, List.set_cons_zero, List.set_cons_succ, List.length_cons, List.length_nil, List.drop_succ_cons, List.drop_zero, List.take_succ_cons, List.take_zero, List.take_nil, List.reverse_cons, List.reverse_nil, List.nil_append, List.cons_append, List.append_nil, true_and, and_true, Int.reduceAdd, am_o0, am_o1, am_o2, am_o3, am_o4, am_o5, am_o6, am_o7, am_o8, am_o9, am_o10, am_o11, am_o12, am_o13, am_o14, am_o15, am_o16, am_o17, am_o18, am_o19, am_o20, am_o21, am_o22, am_o23, am_o24, am_o25, am_o26, am_o27, Nat.reduceAdd, Nat.reduceLeDiff, Nat.reduceLT, Nat.zero_le]
  refine ⟨vp_in_nI hp (by decide), am_vin (by decide), vp_in_nI hp (by decide), hat, am_vin (by decide), vp_in_nI hp (by decide), am_vin (by decide), am_vin (by decide), am_vin (by decide), by omega, ?_⟩
  refine c_X4_metBy (n := n) (w := w) (by omega) hw' ?_ hn h5 hp ?_
  · exact ((((hR.far (b + 8) (by omega) _ _).far (b + 8) (by omega) _ _).far (b + 8) (by omega) _ _).far (b + 8) (by omega) _ _).far (b + 8) (by omega) _ _
  · simp only [am_up_ap, reduceIte, Nat.reduceEqDiff, Nat.add_eq_left, Nat.left_eq_add, Nat.add_left_cancel_iff, am_t0, am_t1, am_t2, am_t3, am_t4, am_t5, am_t6, am_t7, am_t8, am_t9, am_t10, am_t11, w8, qtm_push, qtm_iload, qtm_lload, qtm_aload, qtm_istore, qtm_lstore, qtm_astore, qtm_iinc, qtm_un, qtm_bin, qtm_div, qtm_lbin, qtm_ldiv, qtm_lsh, qtm_lcmp, qtm_i2l, qtm_l2i, qtm_if, qtm_cmp, qtm_getf, qtm_puti, qtm_putz, qtm_putl, qtm_iald, qtm_iast, qtm_zald, qtm_zast, qtm_aald, qtm_tsw, qtm_callV, qtm_callS, qtm_acp, qtm_alen, qtm_max, qtm_min, qtm_dup, qtm_pop, qtm_iret, qtm_zret, qtm_lret, qtm_aret, qtm_vret, qtm_swn, qtm_swc, am_oi_c, am_ol_c, am_or_r, am_or_f, am_pi_c, am_pj_c, am_pr_c, am_pa_r, am_pa_f, am_yo_c, am_ya_c, am_fv_i, am_fv_l, am_fv_r, am_fi_c, am_fl_c, am_rv_c, am_n2_s, am_n2_n, am_pv_0, am_pv_s, am_cs_n, am_cs_c, Value.category, List.getElem?_cons_zero, List.getElem?_cons_succ, List.set_cons_zero, List.set_cons_succ, List.length_cons, List.length_nil, List.drop_succ_cons, List.drop_zero, List.take_succ_cons, List.take_zero, List.take_nil, List.reverse_cons, List.reverse_nil, List.nil_append, List.cons_append, List.append_nil, true_and, and_true, Int.reduceAdd, am_o0, am_o1, am_o2, am_o3, am_o4, am_o5, am_o6, am_o7, am_o8, am_o9, am_o10, am_o11, am_o12, am_o13, am_o14, am_o15, am_o16, am_o17, am_o18, am_o19, am_o20, am_o21, am_o22, am_o23, am_o24, am_o25, am_o26, am_o27, Nat.reduceAdd, Nat.reduceLeDiff, Nat.reduceLT, Nat.zero_le]
    refine ⟨am_vin (by decide), hK _ (fun a ha => by simp only [am_up_ne a ha]) (fun i hi => ?_)⟩
    have hcs : i = 0 ∨ i = 1 ∨ i = 2 ∨ i = 3 ∨ i = 4 ∨ i = 5 := by omega
    rcases hcs with rfl | rfl | rfl | rfl | rfl | rfl <;> simp [am_up, sp_nm]
end CON
