/-- all texts: text k says T k; they are nT -/
def am_txs (Y : List am_C) (h : am_H) (St : Nat → Prop) (T : Nat → am_F) (nT : Nat) : Prop := Y[28]? = some (2, 3, [.ref 29, .int 0]) ∧ 1 ≤ nT ∧ nT ≤ 6 ∧ h 28 1 = nI nT ∧ ¬ St 28 ∧ (∀ a, St a → 28 ≤ a) ∧ ∃ fs, Y[29]? = some (4, 6, fs) ∧ ∀ k, k < nT → ∃ q, fs[k]? = some (.ref q) ∧ am_tx Y h St q (T k)
theorem am_txs.keep {Y : List am_C} {h h' : am_H} {St : Nat → Prop} {T : Nat → am_F} {nT : Nat} (ht : am_txs Y h St T nT) (hh : ∀ a, 28 ≤ a → ¬ St a → h' a = h a) : am_txs Y h' St T nT := by
  obtain ⟨h1, h2, h3, h4, h5, h6, fs, h7, h8⟩ := ht
  refine ⟨h1, h2, h3, by rw [hh 28 (by decide) h5]; exact h4, h5, h6, fs, h7, fun k hk => ?_⟩
  obtain ⟨q, g1, g2⟩ := h8 k hk
  exact ⟨q, g1, g2.keep hh⟩
def sp_washk (w : am_H) (k : Nat) : am_H := fun j i => if j = 1 then (if i < k then sp_bd (w 1 i - w 0 10 / 10) 0 99 else w 1 i) else w j i
theorem sp_washk_0 (w : am_H) : sp_washk w 0 = w := by
  funext j i
  simp only [sp_washk, Nat.not_lt_zero, if_false]
  split
  · rename_i h
    rw [h]
  · rfl
theorem sp_washk_s (w : am_H) (k : Nat) : am_up (sp_washk w k) 1 k (sp_bd (w 1 k - w 0 10 / 10) 0 99) = sp_washk w (k + 1) := by
  funext j i
  simp only [am_up, sp_washk]
  by_cases hj : j = 1
  · simp only [if_pos hj, if_true]
    by_cases hi : i = k
    · subst hi
      simp
    · simp only [if_neg hi]
      by_cases hl : i < k
      · rw [if_pos hl, if_pos (by omega)]
      · rw [if_neg hl, if_neg (by omega)]
  · simp only [if_neg hj]
theorem sp_come_0 (w : am_H) (n p : Nat) (tr : Int32) (i : Nat) : (sp_come w n p tr) 0 i = w 0 i := by
  unfold sp_come
  split
  · rw [sp_free_row _ _ _ 0 (by decide), am_up_ne 0 (by decide), am_up_ne 0 (by decide)]
  · rw [am_up_ne 0 (by decide)]
theorem sp_steps_0 (n p : Nat) (tr : Int32) (i : Nat) : ∀ k (w : am_H), (sp_steps n p tr k w) 0 i = w 0 i
  | 0, _ => rfl
  | k + 1, w => by
    simp only [sp_steps]
    split
    · rw [sp_steps_0 n p tr i k, sp_come_0]
    · rfl
theorem sp_sink_0 (w : am_H) (p i : Nat) : (sp_sink w p) 0 i = w 0 i := by
  unfold sp_sink
  split
  · rw [am_up_ne 0 (by decide)]
  · rfl
theorem sp_go_0 (f : am_F) (w : am_H) (n p i : Nat) : (sp_go f w n p) 0 i = w 0 i := by
  unfold sp_go
  rw [sp_sink_0, sp_steps_0, am_up_ne 0 (by decide)]
theorem sp_pass_0 (f : am_F) (w : am_H) (n : Nat) : ∀ k i, (sp_pass f w n k) 0 i = w 0 i
  | 0, _ => rfl
  | k + 1, i => by
    simp only [sp_pass]
    split
    · rw [sp_go_0, sp_pass_0 f w n k]
    · exact sp_pass_0 f w n k i
section CON
variable {d b n nT : Nat} {Y : List am_C} {h w : am_H} {K : List Value → List am_C → am_H → Prop} {St : Nat → Prop} {T : Nat → am_F}
set_option maxHeartbeats 4000000 in
set_option maxRecDepth 100000 in
theorem c_X3_isFull (ht : am_txs Y h St T nT) (hK : K [.int (if nT = 6 then 1 else 0)] Y h) : am_Met d 0 0 YX3_isFull [.ref 28] Y h K := by
  refine en_X3_isFull fun X F hr => ?_
  obtain ⟨h1, h2, h3, h4, h5, h6, fs, h7, h8⟩ := ht
  simp only [te_X3_isFull_0, te_X3_isFull_9, te_X3_isFull_14, te_X3_isFull_13, h1, h4, qtm_push, qtm_iload, qtm_lload, qtm_aload, qtm_istore, qtm_lstore, qtm_astore, qtm_iinc, qtm_un, qtm_bin, qtm_div, qtm_lbin, qtm_ldiv, qtm_lsh, qtm_lcmp, qtm_i2l, qtm_l2i, qtm_if, qtm_cmp, qtm_getf, qtm_puti, qtm_putz, qtm_putl, qtm_iald, qtm_iast, qtm_zald, qtm_zast, qtm_aald, qtm_tsw, qtm_callV, qtm_callS, qtm_acp, qtm_alen, qtm_max, qtm_min, qtm_dup, qtm_pop, qtm_iret, qtm_zret, qtm_lret, qtm_aret, qtm_vret, qtm_swn, qtm_swc, am_oi_c, am_ol_c, am_or_r, am_or_f, am_pi_c, am_pj_c, am_pr_c, am_pa_r, am_pa_f, am_yo_c, am_ya_c, am_fv_i, am_fv_l, am_fv_r, am_fi_c, am_fl_c, am_rv_c, am_n2_s, am_n2_n, am_pv_0, am_pv_s, am_cs_n, am_cs_c, Value.category, List.getElem?_cons_zero, List.getElem?_cons_succ, List.set_cons_zero, List.set_cons_succ, List.length_cons, List.length_nil, List.drop_succ_cons, List.drop_zero, List.take_succ_cons, List.take_zero, List.take_nil, List.reverse_cons, List.reverse_nil, List.nil_append, List.cons_append, List.append_nil, true_and, and_true, Int.reduceAdd, am_o0, am_o1, am_o2, am_o3, am_o4, am_o5, am_o6, am_o7, am_o8, am_o9, am_o10, am_o11, am_o12, am_o13, am_o14, am_o15, am_o16, am_o17, am_o18, am_o19, am_o20, am_o21, am_o22, am_o23, am_o24, am_o25, am_o26, am_o27, Nat.reduceAdd, Nat.reduceLeDiff, Nat.reduceLT, Nat.zero_le]
  have e : (nI nT < 6) ↔ nT < 6 := nI_ltI (b := 6) (by omega) (by decide)
  rw [e]
  refine ⟨fun q => ⟨Or.inl trivial, ?_⟩, fun q => ⟨Or.inr trivial, ?_⟩⟩
  · rw [if_neg (by omega)] at hK; exact hK
  · rw [if_pos (by omega)] at hK; exact hK
set_option maxHeartbeats 4000000 in
set_option maxRecDepth 100000 in
theorem c_X3_numbered {r : Nat} (ht : am_txs Y h St T nT) (hr : r < nT) (hK : ∀ q, am_tx Y h St q (T r) → K [.ref q] Y h) : am_Met d 0 0 YX3_numbered [.ref 28, .int (nI r)] Y h K := by
  refine en_X3_numbered fun X F hr' => ?_
  obtain ⟨h1, h2, h3, h4, h5, h6, fs, h7, h8⟩ := ht
  obtain ⟨q, g1, g2⟩ := h8 r hr
  simp only [te_X3_numbered_0, te_X3_numbered_4, te_X3_numbered_21, te_X3_numbered_27, te_X3_numbered_12, h1, h4, h7, nI_clamp (show r < 2 ^ 31 by omega), g1, qtm_push, qtm_iload, qtm_lload, qtm_aload, qtm_istore, qtm_lstore, qtm_astore, qtm_iinc, qtm_un, qtm_bin, qtm_div, qtm_lbin, qtm_ldiv, qtm_lsh, qtm_lcmp, qtm_i2l, qtm_l2i, qtm_if, qtm_cmp, qtm_getf, qtm_puti, qtm_putz, qtm_putl, qtm_iald, qtm_iast, qtm_zald, qtm_zast, qtm_aald, qtm_tsw, qtm_callV, qtm_callS, qtm_acp, qtm_alen, qtm_max, qtm_min, qtm_dup, qtm_pop, qtm_iret, qtm_zret, qtm_lret, qtm_aret, qtm_vret, qtm_swn, qtm_swc, am_oi_c, am_ol_c, am_or_r, am_or_f, am_pi_c, am_pj_c, am_pr_c, am_pa_r, am_pa_f, am_yo_c, am_ya_c, am_fv_i, am_fv_l, am_fv_r, am_fi_c, am_fl_c, am_rv_c, am_n2_s, am_n2_n, am_pv_0, am_pv_s, am_cs_n, am_cs_c, Value.category, List.getElem?_cons_zero, List.getElem?_cons_succ, List.set_cons_zero, List.set_cons_succ, List.length_cons, List.length_nil, List.drop_succ_cons, List.drop_zero, List.take_succ_cons, List.take_zero, List.take_nil, List.reverse_cons, List.reverse_nil, List.nil_append, List.cons_append, List.append_nil, true_and, and_true, Int.reduceAdd, am_o0, am_o1, am_o2, am_o3, am_o4, am_o5, am_o6, am_o7, am_o8, am_o9, am_o10, am_o11, am_o12, am_o13, am_o14, am_o15, am_o16, am_o17, am_o18, am_o19, am_o20, am_o21, am_o22, am_o23, am_o24, am_o25, am_o26, am_o27, Nat.reduceAdd, Nat.reduceLeDiff, Nat.reduceLT, Nat.zero_le]
  exact ⟨fun z => absurd z (nI_pos (by omega)), fun _ => ⟨fun z => absurd ((nI_leI (by omega) (by omega)).mp z) (by omega), fun _ => ⟨vp_in_nI (by omega) (by decide), hK q g2⟩⟩⟩
set_option maxHeartbeats 4000000 in
set_option maxRecDepth 100000 in
theorem c_X4_passHour {r : Nat} (hd : 5 ≤ d) (hw : am_walk Y b) (hR : am_RW h b w) (hI : am_WI w n) (hru : w 0 11 = nI r) (hrT : r < nT) (ht : am_txs Y h St T nT) (hb : b + 8 < 28) (hK : ∀ h1, (∀ a, a < b ∨ b + 8 < a → ¬ St a → h1 a = h a) → am_RW h1 b (sp_hour (T r) w n) → K [] Y h1) : am_Met d 0 0 YX4_passHour [.ref b, .ref 28] Y h K := by
  refine en_X4_passHour fun X F hr => ?_
  have hw' := hw
  obtain ⟨w0, w1, w2, w3, w4, w5, w6, w7, w8⟩ := hw
  have t0 := ht.1
  have hSt := ht.2.2.2.2.2.1
  simp only [te_X4_passHour_0, w0, t0, hR.2.2 11 (by decide) (by decide), hru, qtm_push, qtm_iload, qtm_lload, qtm_aload, qtm_istore, qtm_lstore, qtm_astore, qtm_iinc, qtm_un, qtm_bin, qtm_div, qtm_lbin, qtm_ldiv, qtm_lsh, qtm_lcmp, qtm_i2l, qtm_l2i, qtm_if, qtm_cmp, qtm_getf, qtm_puti, qtm_putz, qtm_putl, qtm_iald, qtm_iast, qtm_zald, qtm_zast, qtm_aald, qtm_tsw, qtm_callV, qtm_callS, qtm_acp, qtm_alen, qtm_max, qtm_min, qtm_dup, qtm_pop, qtm_iret, qtm_zret, qtm_lret, qtm_aret, qtm_vret, qtm_swn, qtm_swc, am_oi_c, am_ol_c, am_or_r, am_or_f, am_pi_c, am_pj_c, am_pr_c, am_pa_r, am_pa_f, am_yo_c, am_ya_c, am_fv_i, am_fv_l, am_fv_r, am_fi_c, am_fl_c, am_rv_c, am_n2_s, am_n2_n, am_pv_0, am_pv_s, am_cs_n, am_cs_c, Value.category, List.getElem?_cons_zero, List.getElem?_cons_succ, List.set_cons_zero, List.set_cons_succ, List.length_cons, List.length_nil, List.drop_succ_cons, List.drop_zero, List.take_succ_cons, List.take_zero, List.take_nil, List.reverse_cons, List.reverse_nil, List.nil_append, List.cons_append, List.append_nil, true_and, and_true, Int.reduceAdd, am_o0, am_o1, am_o2, am_o3, am_o4, am_o5, am_o6, am_o7, am_o8, am_o9, am_o10, am_o11, am_o12, am_o13, am_o14, am_o15, am_o16, am_o17, am_o18, am_o19, am_o20, am_o21, am_o22, am_o23, am_o24, am_o25, am_o26, am_o27, Nat.reduceAdd, Nat.reduceLeDiff, Nat.reduceLT, Nat.zero_le]
  refine ⟨by omega, c_X3_numbered ht hrT fun q hq => ?_⟩
  simp only [qtm_push, qtm_iload, qtm_lload, qtm_aload, qtm_istore, qtm_lstore, qtm_astore, qtm_iinc, qtm_un, qtm_bin, qtm_div, qtm_lbin, qtm_ldiv, qtm_lsh, qtm_lcmp, qtm_i2l, qtm_l2i, qtm_if, qtm_cmp, qtm_getf, qtm_puti, qtm_putz, qtm_putl, qtm_iald, qtm_iast, qtm_zald, qtm_zast, qtm_aald, qtm_tsw, qtm_callV, qtm_callS, qtm_acp, qtm_alen, qtm_max, qtm_min, qtm_dup, qtm_pop, qtm_iret, qtm_zret, qtm_lret, qtm_aret, qtm_vret, qtm_swn, qtm_swc, am_oi_c, am_ol_c, am_or_r, am_or_f, am_pi_c, am_pj_c, am_pr_c, am_pa_r, am_pa_f, am_yo_c, am_ya_c, am_fv_i, am_fv_l, am_fv_r, am_fi_c, am_fl_c, am_rv_c, am_n2_s, am_n2_n, am_pv_0, am_pv_s, am_cs_n, am_cs_c, Value.category, List.getElem?_cons_zero, List.getElem?_cons_succ, List.set_cons_zero, List.set_cons_succ, List.length_cons, List.length_nil, List.drop_succ_cons, List.drop_zero, List.take_succ_cons, List.take_zero, List.take_nil, List.reverse_cons, List.reverse_nil, List.nil_append, List.cons_append, List.append_nil, true_and, and_true, Int.reduceAdd, am_o0, am_o1, am_o2, am_o3, am_o4, am_o5, am_o6, am_o7, am_o8, am_o9, am_o10, am_o11, am_o12, am_o13, am_o14, am_o15, am_o16, am_o17, am_o18, am_o19, am_o20, am_o21, am_o22, am_o23, am_o24, am_o25, am_o26, am_o27, Nat.reduceAdd, Nat.reduceLeDiff, Nat.reduceLT, Nat.zero_le]
  have wash := am_for (P := fun i => ∀ (h' : am_H), (∀ a, a < b ∨ b + 8 < a → ¬ St a → h' a = h a) → am_RW h' b (sp_washk (sp_pass (T r) w n n) i) → am_At X (am_MQ X K 0 0) 5 0 0 52 [.ref b, .ref 28, .ref q, .int (w 0 10 / 10), .int (nI i)] [] Y h') 32
    (fun h' hh hR' => by
      refine sd_X4_passHour_52 F hr _ _ _ _ ?_
      simp only [te_X4_passHour_52, te_X4_passHour_85, te_X4_passHour_59, w0, qtm_push, qtm_iload, qtm_lload, qtm_aload, qtm_istore, qtm_lstore, qtm_astore, qtm_iinc, qtm_un, qtm_bin, qtm_div, qtm_lbin, qtm_ldiv, qtm_lsh, qtm_lcmp, qtm_i2l, qtm_l2i, qtm_if, qtm_cmp, qtm_getf, qtm_puti, qtm_putz, qtm_putl, qtm_iald, qtm_iast, qtm_zald, qtm_zast, qtm_aald, qtm_tsw, qtm_callV, qtm_callS, qtm_acp, qtm_alen, qtm_max, qtm_min, qtm_dup, qtm_pop, qtm_iret, qtm_zret, qtm_lret, qtm_aret, qtm_vret, qtm_swn, qtm_swc, am_oi_c, am_ol_c, am_or_r, am_or_f, am_pi_c, am_pj_c, am_pr_c, am_pa_r, am_pa_f, am_yo_c, am_ya_c, am_fv_i, am_fv_l, am_fv_r, am_fi_c, am_fl_c, am_rv_c, am_n2_s, am_n2_n, am_pv_0, am_pv_s, am_cs_n, am_cs_c, Value.category, List.getElem?_cons_zero, List.getElem?_cons_succ, List.set_cons_zero, List.set_cons_succ, List.length_cons, List.length_nil, List.drop_succ_cons, List.drop_zero, List.take_succ_cons, List.take_zero, List.take_nil, List.reverse_cons, List.reverse_nil, List.nil_append, List.cons_append, List.append_nil, true_and, and_true, Int.reduceAdd, am_o0, am_o1, am_o2, am_o3, am_o4, am_o5, am_o6, am_o7, am_o8, am_o9, am_o10, am_o11, am_o12, am_o13, am_o14, am_o15, am_o16, am_o17, am_o18, am_o19, am_o20, am_o21, am_o22, am_o23, am_o24, am_o25, am_o26, am_o27, Nat.reduceAdd, Nat.reduceLeDiff, Nat.reduceLT, Nat.zero_le]
      refine ⟨fun _ => hK _ (fun a ha hs => (am_up_ne a (by omega)).trans (hh a ha hs)) ?_, fun z => absurd (by decide) z⟩
      have := hR'.upo 9 (h' b 9 + 1)
      rw [hR'.2.2 9 (by decide) (by decide)] at this ⊢
      exact this)
    (fun i hi ih h' hh hR' => by
      have e0 : h' (b + 1) i = (sp_pass (T r) w n n) 1 i := by
        rw [hR'.1 i hi]
        simp [sp_washk]
      have hIp := sp_pass_WI (f := T r) hI n (Nat.le_refl n)
      have hsea : (sp_pass (T r) w n n) 0 10 = w 0 10 := sp_pass_0 (T r) w n n 10
      refine sd_X4_passHour_52 F hr _ _ _ _ ?_
      simp only [te_X4_passHour_52, te_X4_passHour_85, te_X4_passHour_59, w0, w1, e0, nI_clamp (show i < 2 ^ 31 by omega), sp_max0 (hIp.2.2.2.1 i hi) (hI.2.2.2.2), nI_1, qtm_push, qtm_iload, qtm_lload, qtm_aload, qtm_istore, qtm_lstore, qtm_astore, qtm_iinc, qtm_un, qtm_bin, qtm_div, qtm_lbin, qtm_ldiv, qtm_lsh, qtm_lcmp, qtm_i2l, qtm_l2i, qtm_if, qtm_cmp, qtm_getf, qtm_puti, qtm_putz, qtm_putl, qtm_iald, qtm_iast, qtm_zald, qtm_zast, qtm_aald, qtm_tsw, qtm_callV, qtm_callS, qtm_acp, qtm_alen, qtm_max, qtm_min, qtm_dup, qtm_pop, qtm_iret, qtm_zret, qtm_lret, qtm_aret, qtm_vret, qtm_swn, qtm_swc, am_oi_c, am_ol_c, am_or_r, am_or_f, am_pi_c, am_pj_c, am_pr_c, am_pa_r, am_pa_f, am_yo_c, am_ya_c, am_fv_i, am_fv_l, am_fv_r, am_fi_c, am_fl_c, am_rv_c, am_n2_s, am_n2_n, am_pv_0, am_pv_s, am_cs_n, am_cs_c, Value.category, List.getElem?_cons_zero, List.getElem?_cons_succ, List.set_cons_zero, List.set_cons_succ, List.length_cons, List.length_nil, List.drop_succ_cons, List.drop_zero, List.take_succ_cons, List.take_zero, List.take_nil, List.reverse_cons, List.reverse_nil, List.nil_append, List.cons_append, List.append_nil, true_and, and_true, Int.reduceAdd, am_o0, am_o1, am_o2, am_o3, am_o4, am_o5, am_o6, am_o7, am_o8, am_o9, am_o10, am_o11, am_o12, am_o13, am_o14, am_o15, am_o16, am_o17, am_o18, am_o19, am_o20, am_o21, am_o22, am_o23, am_o24, am_o25, am_o26, am_o27, Nat.reduceAdd, Nat.reduceLeDiff, Nat.reduceLT, Nat.zero_le]
      refine ⟨fun z => absurd ((nI_leI (a := 32) (by omega) (by omega)).mp z) (by omega), fun _ => ⟨vp_in_nI hi (by decide), by omega, vp_in_nI hi (by decide), ih _ (fun a ha hs => (am_up_ne a (by omega)).trans (hh a ha hs)) ?_⟩⟩
      have := hR'.upf i (sp_bd ((sp_pass (T r) w n n) 1 i - (sp_pass (T r) w n n) 0 10 / 10) 0 99)
      rw [sp_washk_s, hsea] at this
      exact this)
  have pass := am_for (P := fun i => ∀ (h' : am_H), (∀ a, a < b ∨ b + 8 < a → ¬ St a → h' a = h a) → am_RW h' b (sp_pass (T r) w n i) → am_At X (am_MQ X K 0 0) 5 0 0 11 [.ref b, .ref 28, .ref q, .int (nI i), .null] [] Y h') n
    (fun h' hh hR' => by
      have hIp := sp_pass_WI (f := T r) hI n (Nat.le_refl n)
      have e8 : h' b 8 = nI n := (hR'.2.2 8 (by decide) (by decide)).trans hIp.1
      have e10 : h' b 10 = w 0 10 := (hR'.2.2 10 (by decide) (by decide)).trans (sp_pass_0 (T r) w n n 10)
      refine sd_X4_passHour_11 F hr _ _ _ _ ?_
      simp only [te_X4_passHour_11, te_X4_passHour_41, te_X4_passHour_19, te_X4_passHour_35, te_X4_passHour_29, w0, e8, e10, qtm_push, qtm_iload, qtm_lload, qtm_aload, qtm_istore, qtm_lstore, qtm_astore, qtm_iinc, qtm_un, qtm_bin, qtm_div, qtm_lbin, qtm_ldiv, qtm_lsh, qtm_lcmp, qtm_i2l, qtm_l2i, qtm_if, qtm_cmp, qtm_getf, qtm_puti, qtm_putz, qtm_putl, qtm_iald, qtm_iast, qtm_zald, qtm_zast, qtm_aald, qtm_tsw, qtm_callV, qtm_callS, qtm_acp, qtm_alen, qtm_max, qtm_min, qtm_dup, qtm_pop, qtm_iret, qtm_zret, qtm_lret, qtm_aret, qtm_vret, qtm_swn, qtm_swc, am_oi_c, am_ol_c, am_or_r, am_or_f, am_pi_c, am_pj_c, am_pr_c, am_pa_r, am_pa_f, am_yo_c, am_ya_c, am_fv_i, am_fv_l, am_fv_r, am_fi_c, am_fl_c, am_rv_c, am_n2_s, am_n2_n, am_pv_0, am_pv_s, am_cs_n, am_cs_c, Value.category, List.getElem?_cons_zero, List.getElem?_cons_succ, List.set_cons_zero, List.set_cons_succ, List.length_cons, List.length_nil, List.drop_succ_cons, List.drop_zero, List.take_succ_cons, List.take_zero, List.take_nil, List.reverse_cons, List.reverse_nil, List.nil_append, List.cons_append, List.append_nil, true_and, and_true, Int.reduceAdd, am_o0, am_o1, am_o2, am_o3, am_o4, am_o5, am_o6, am_o7, am_o8, am_o9, am_o10, am_o11, am_o12, am_o13, am_o14, am_o15, am_o16, am_o17, am_o18, am_o19, am_o20, am_o21, am_o22, am_o23, am_o24, am_o25, am_o26, am_o27, Nat.reduceAdd, Nat.reduceLeDiff, Nat.reduceLT, Nat.zero_le]
      refine ⟨fun _ => ⟨by decide, ?_⟩, fun z => absurd (nI_le (Nat.le_refl n) (by have := hI.2.1; omega)) z⟩
      refine wash 0 (by decide) h' hh ?_
      rw [sp_washk_0]
      exact hR')
    (fun i hi ih h' hh hR' => by
      have hIp := sp_pass_WI (f := T r) hI i (by omega)
      have h5 := hI.2.1
      have e8 : h' b 8 = nI n := (hR'.2.2 8 (by decide) (by decide)).trans hIp.1
      refine sd_X4_passHour_11 F hr _ _ _ _ ?_
      simp only [te_X4_passHour_11, te_X4_passHour_41, te_X4_passHour_19, te_X4_passHour_35, te_X4_passHour_29, w0, w7, e8, nI_clamp (show i < 2 ^ 31 by omega), hR'.row 7 (by decide) (by decide) (show i < 5 by omega), nI_1, qtm_push, qtm_iload, qtm_lload, qtm_aload, qtm_istore, qtm_lstore, qtm_astore, qtm_iinc, qtm_un, qtm_bin, qtm_div, qtm_lbin, qtm_ldiv, qtm_lsh, qtm_lcmp, qtm_i2l, qtm_l2i, qtm_if, qtm_cmp, qtm_getf, qtm_puti, qtm_putz, qtm_putl, qtm_iald, qtm_iast, qtm_zald, qtm_zast, qtm_aald, qtm_tsw, qtm_callV, qtm_callS, qtm_acp, qtm_alen, qtm_max, qtm_min, qtm_dup, qtm_pop, qtm_iret, qtm_zret, qtm_lret, qtm_aret, qtm_vret, qtm_swn, qtm_swc, am_oi_c, am_ol_c, am_or_r, am_or_f, am_pi_c, am_pj_c, am_pr_c, am_pa_r, am_pa_f, am_yo_c, am_ya_c, am_fv_i, am_fv_l, am_fv_r, am_fi_c, am_fl_c, am_rv_c, am_n2_s, am_n2_n, am_pv_0, am_pv_s, am_cs_n, am_cs_c, Value.category, List.getElem?_cons_zero, List.getElem?_cons_succ, List.set_cons_zero, List.set_cons_succ, List.length_cons, List.length_nil, List.drop_succ_cons, List.drop_zero, List.take_succ_cons, List.take_zero, List.take_nil, List.reverse_cons, List.reverse_nil, List.nil_append, List.cons_append, List.append_nil, true_and, and_true, Int.reduceAdd, am_o0, am_o1, am_o2, am_o3, am_o4, am_o5, am_o6, am_o7, am_o8, am_o9, am_o10, am_o11, am_o12, am_o13, am_o14, am_o15, am_o16, am_o17, am_o18, am_o19, am_o20, am_o21, am_o22, am_o23, am_o24, am_o25, am_o26, am_o27, Nat.reduceAdd, Nat.reduceLeDiff, Nat.reduceLT, Nat.zero_le]
      refine ⟨fun z => absurd ((nI_leI (by omega) (by omega)).mp z) (by omega), fun _ => ⟨vp_in_nI (by omega) (by decide), fun q1 => ⟨by omega, c_X4_goOn (n := n) (by omega) hw' hR' hIp hi (hq.keep fun a ha hs => hh a (by omega) hs) hSt hb fun h1 hh1 hR1 => ?_⟩, fun q1 => ih h' hh ?_⟩⟩
      · simp only [nI_1, qtm_push, qtm_iload, qtm_lload, qtm_aload, qtm_istore, qtm_lstore, qtm_astore, qtm_iinc, qtm_un, qtm_bin, qtm_div, qtm_lbin, qtm_ldiv, qtm_lsh, qtm_lcmp, qtm_i2l, qtm_l2i, qtm_if, qtm_cmp, qtm_getf, qtm_puti, qtm_putz, qtm_putl, qtm_iald, qtm_iast, qtm_zald, qtm_zast, qtm_aald, qtm_tsw, qtm_callV, qtm_callS, qtm_acp, qtm_alen, qtm_max, qtm_min, qtm_dup, qtm_pop, qtm_iret, qtm_zret, qtm_lret, qtm_aret, qtm_vret, qtm_swn, qtm_swc, am_oi_c, am_ol_c, am_or_r, am_or_f, am_pi_c, am_pj_c, am_pr_c, am_pa_r, am_pa_f, am_yo_c, am_ya_c, am_fv_i, am_fv_l, am_fv_r, am_fi_c, am_fl_c, am_rv_c, am_n2_s, am_n2_n, am_pv_0, am_pv_s, am_cs_n, am_cs_c, Value.category, List.getElem?_cons_zero, List.getElem?_cons_succ, List.set_cons_zero, List.set_cons_succ, List.length_cons, List.length_nil, List.drop_succ_cons, List.drop_zero, List.take_succ_cons, List.take_zero, List.take_nil, List.reverse_cons, List.reverse_nil, List.nil_append, List.cons_append, List.append_nil, true_and, and_true, Int.reduceAdd, am_o0, am_o1, am_o2, am_o3, am_o4, am_o5, am_o6, am_o7, am_o8, am_o9, am_o10, am_o11, am_o12, am_o13, am_o14, am_o15, am_o16, am_o17, am_o18, am_o19, am_o20, am_o21, am_o22, am_o23, am_o24, am_o25, am_o26, am_o27, Nat.reduceAdd, Nat.reduceLeDiff, Nat.reduceLT, Nat.zero_le]
        refine ih h1 (fun a ha hs => (hh1 a ha hs).trans (hh a ha hs)) ?_
        simp only [sp_pass, if_pos q1]
        exact hR1
      · simp only [sp_pass, if_neg q1]
        exact hR')
  exact pass 0 (Nat.zero_le n) h (fun _ _ _ => rfl) hR
end CON
