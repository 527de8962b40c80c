def sp_hrs (f : am_F) (w : am_H) (n : Nat) : Nat → am_H
  | 0 => w
  | k + 1 => sp_hour f (sp_hrs f w n k) n
theorem sp_hour_0 (f : am_F) (w : am_H) (n i : Nat) (hi : i ≠ 9) : (sp_hour f w n) 0 i = w 0 i := by
  simp only [sp_hour, am_up, if_true, if_neg hi]
  simp only [sp_wash, show ¬ (0 : Nat) = 1 by decide, if_false]
  exact sp_pass_0 f w n n i
theorem sp_hrs_0 (f : am_F) (w : am_H) (n i : Nat) (hi : i ≠ 9) : ∀ k, (sp_hrs f w n k) 0 i = w 0 i
  | 0 => rfl
  | k + 1 => by rw [sp_hrs, sp_hour_0 f _ n i hi, sp_hrs_0 f w n i hi k]
theorem sp_hrs_WI {f : am_F} {w : am_H} {n : Nat} (h : am_WI w n) : ∀ k, am_WI (sp_hrs f w n k) n
  | 0 => h
  | k + 1 => sp_hour_WI (sp_hrs_WI h k)
section CON
variable {d b n nT : Nat} {Y : List am_C} {h w : am_H} {K : List Value → List am_C → am_H → Prop} {St : Nat → Prop} {T : Nat → am_F}
set_option maxHeartbeats 4000000 in
set_option maxRecDepth 100000 in
theorem c_X4_passHours {r k : Nat} (hd : 6 ≤ d) (hk : k < 1000) (hw : am_walk Y b) (hR : am_RW h b w) (hI : am_WI w n) (hru : w 0 11 = nI r) (hrT : r < nT) (ht : am_txs Y h St T nT) (hb : b + 8 < 28) (hK : ∀ h1, (∀ a, a < b ∨ b + 8 < a → ¬ St a → h1 a = h a) → am_RW h1 b (sp_hrs (T r) w n k) → K [] Y h1) : am_Met d 0 0 YX4_passHours [.ref b, .int (nI k), .ref 28] Y h K := by
  refine en_X4_passHours fun X F hr => ?_
  have hw' := hw
  obtain ⟨w0, w1, w2, w3, w4, w5, w6, w7, w8⟩ := hw
  have loop := am_for (P := fun i => ∀ (h' : am_H), (∀ a, a < b ∨ b + 8 < a → ¬ St a → h' a = h a) → am_RW h' b (sp_hrs (T r) w n i) → am_At X (am_MQ X K 0 0) 4 0 0 2 [.ref b, .int (nI k), .ref 28, .int (nI i)] [] Y h') k
    (fun h' hh hR' => by
      refine sd_X4_passHours_2 F hr _ _ _ _ ?_
      simp only [te_X4_passHours_2, te_X4_passHours_7, te_X4_passHours_18, qtm_push, qtm_iload, qtm_lload, qtm_aload, qtm_istore, qtm_lstore, qtm_astore, qtm_iinc, qtm_un, qtm_bin, qtm_div, qtm_lbin, qtm_ldiv, qtm_lsh, qtm_lcmp, qtm_i2l, qtm_l2i, qtm_if, qtm_cmp, qtm_getf, qtm_puti, qtm_putz, qtm_putl, qtm_iald, qtm_iast, qtm_zald, qtm_zast, qtm_aald, qtm_tsw, qtm_callV, qtm_callS, qtm_acp, qtm_alen, qtm_max, qtm_min, qtm_dup, qtm_pop, qtm_iret, qtm_zret, qtm_lret, qtm_aret, qtm_vret, qtm_swn, qtm_swc, am_oi_c, am_ol_c, am_or_r, am_or_f, am_pi_c, am_pj_c, am_pr_c, am_pa_r, am_pa_f, am_yo_c, am_ya_c, am_fv_i, am_fv_l, am_fv_r, am_fi_c, am_fl_c, am_rv_c, am_n2_s, am_n2_n, am_pv_0, am_pv_s, am_cs_n, am_cs_c, Value.category, List.getElem?_cons_zero, List.getElem?_cons_succ, List.set_cons_zero, List.set_cons_succ, List.length_cons, List.length_nil, List.drop_succ_cons, List.drop_zero, List.take_succ_cons, List.take_zero, List.take_nil, List.reverse_cons, List.reverse_nil, List.nil_append, List.cons_append, List.append_nil, true_and, and_true, Int.reduceAdd, am_o0, am_o1, am_o2, am_o3, am_o4, am_o5, am_o6, am_o7, am_o8, am_o9, am_o10, am_o11, am_o12, am_o13, am_o14, am_o15, am_o16, am_o17, am_o18, am_o19, am_o20, am_o21, am_o22, am_o23, am_o24, am_o25, am_o26, am_o27, Nat.reduceAdd, Nat.reduceLeDiff, Nat.reduceLT, Nat.zero_le]
      exact ⟨fun _ => hK h' hh hR', fun z => absurd (nI_le (Nat.le_refl k) (by omega)) z⟩)
    (fun i hi ih h' hh hR' => by
      refine sd_X4_passHours_2 F hr _ _ _ _ ?_
      simp only [te_X4_passHours_2, te_X4_passHours_7, te_X4_passHours_18, w0, qtm_push, qtm_iload, qtm_lload, qtm_aload, qtm_istore, qtm_lstore, qtm_astore, qtm_iinc, qtm_un, qtm_bin, qtm_div, qtm_lbin, qtm_ldiv, qtm_lsh, qtm_lcmp, qtm_i2l, qtm_l2i, qtm_if, qtm_cmp, qtm_getf, qtm_puti, qtm_putz, qtm_putl, qtm_iald, qtm_iast, qtm_zald, qtm_zast, qtm_aald, qtm_tsw, qtm_callV, qtm_callS, qtm_acp, qtm_alen, qtm_max, qtm_min, qtm_dup, qtm_pop, qtm_iret, qtm_zret, qtm_lret, qtm_aret, qtm_vret, qtm_swn, qtm_swc, am_oi_c, am_ol_c, am_or_r, am_or_f, am_pi_c, am_pj_c, am_pr_c, am_pa_r, am_pa_f, am_yo_c, am_ya_c, am_fv_i, am_fv_l, am_fv_r, am_fi_c, am_fl_c, am_rv_c, am_n2_s, am_n2_n, am_pv_0, am_pv_s, am_cs_n, am_cs_c, Value.category, List.getElem?_cons_zero, List.getElem?_cons_succ, List.set_cons_zero, List.set_cons_succ, List.length_cons, List.length_nil, List.drop_succ_cons, List.drop_zero, List.take_succ_cons, List.take_zero, List.take_nil, List.reverse_cons, List.reverse_nil, List.nil_append, List.cons_append, List.append_nil, true_and, and_true, Int.reduceAdd, am_o0, am_o1, am_o2, am_o3, am_o4, am_o5, am_o6, am_o7, am_o8, am_o9, am_o10, am_o11, am_o12, am_o13, am_o14, am_o15, am_o16, am_o17, am_o18, am_o19, am_o20, am_o21, am_o22, am_o23, am_o24, am_o25, am_o26, am_o27, Nat.reduceAdd, Nat.reduceLeDiff, Nat.reduceLT, Nat.zero_le]
      refine ⟨fun z => absurd ((nI_leI (by omega) (by omega)).mp z) (by omega), fun _ => ⟨by omega, c_X4_passHour (n := n) (nT := nT) (T := T) (r := r) (by omega) hw' hR' (sp_hrs_WI hI i) ((sp_hrs_0 _ _ _ 11 (by decide) i).trans hru) hrT (ht.keep fun a ha hs => hh a (by omega) hs) hb fun h1 hh1 hR1 => ?_⟩⟩
      simp only [nI_1, qtm_push, qtm_iload, qtm_lload, qtm_aload, qtm_istore, qtm_lstore, qtm_astore, qtm_iinc, qtm_un, qtm_bin, qtm_div, qtm_lbin, qtm_ldiv, qtm_lsh, qtm_lcmp, qtm_i2l, qtm_l2i, qtm_if, qtm_cmp, qtm_getf, qtm_puti, qtm_putz, qtm_putl, qtm_iald, qtm_iast, qtm_zald, qtm_zast, qtm_aald, qtm_tsw, qtm_callV, qtm_callS, qtm_acp, qtm_alen, qtm_max, qtm_min, qtm_dup, qtm_pop, qtm_iret, qtm_zret, qtm_lret, qtm_aret, qtm_vret, qtm_swn, qtm_swc, am_oi_c, am_ol_c, am_or_r, am_or_f, am_pi_c, am_pj_c, am_pr_c, am_pa_r, am_pa_f, am_yo_c, am_ya_c, am_fv_i, am_fv_l, am_fv_r, am_fi_c, am_fl_c, am_rv_c, am_n2_s, am_n2_n, am_pv_0, am_pv_s, am_cs_n, am_cs_c, Value.category, List.getElem?_cons_zero, List.getElem?_cons_succ, List.set_cons_zero, List.set_cons_succ, List.length_cons, List.length_nil, List.drop_succ_cons, List.drop_zero, List.take_succ_cons, List.take_zero, List.take_nil, List.reverse_cons, List.reverse_nil, List.nil_append, List.cons_append, List.append_nil, true_and, and_true, Int.reduceAdd, am_o0, am_o1, am_o2, am_o3, am_o4, am_o5, am_o6, am_o7, am_o8, am_o9, am_o10, am_o11, am_o12, am_o13, am_o14, am_o15, am_o16, am_o17, am_o18, am_o19, am_o20, am_o21, am_o22, am_o23, am_o24, am_o25, am_o26, am_o27, Nat.reduceAdd, Nat.reduceLeDiff, Nat.reduceLT, Nat.zero_le]
      exact ih h1 (fun a ha hs => (hh1 a ha hs).trans (hh a ha hs)) hR1)
  simp only [te_X4_passHours_0, qtm_push, qtm_iload, qtm_lload, qtm_aload, qtm_istore, qtm_lstore, qtm_astore, qtm_iinc, qtm_un, qtm_bin, qtm_div, qtm_lbin, qtm_ldiv, qtm_lsh, qtm_lcmp, qtm_i2l, qtm_l2i, qtm_if, qtm_cmp, qtm_getf, qtm_puti, qtm_putz, qtm_putl, qtm_iald, qtm_iast, qtm_zald, qtm_zast, qtm_aald, qtm_tsw, qtm_callV, qtm_callS, qtm_acp, qtm_alen, qtm_max, qtm_min, qtm_dup, qtm_pop, qtm_iret, qtm_zret, qtm_lret, qtm_aret, qtm_vret, qtm_swn, qtm_swc, am_oi_c, am_ol_c, am_or_r, am_or_f, am_pi_c, am_pj_c, am_pr_c, am_pa_r, am_pa_f, am_yo_c, am_ya_c, am_fv_i, am_fv_l, am_fv_r, am_fi_c, am_fl_c, am_rv_c, am_n2_s, am_n2_n, am_pv_0, am_pv_s, am_cs_n, am_cs_c, Value.category, List.getElem?_cons_zero, List.getElem?_cons_succ, List.set_cons_zero, List.set_cons_succ, List.length_cons, List.length_nil, List.drop_succ_cons, List.drop_zero, List.take_succ_cons, List.take_zero, List.take_nil, List.reverse_cons, List.reverse_nil, List.nil_append, List.cons_append, List.append_nil, true_and, and_true, Int.reduceAdd, am_o0, am_o1, am_o2, am_o3, am_o4, am_o5, am_o6, am_o7, am_o8, am_o9, am_o10, am_o11, am_o12, am_o13, am_o14, am_o15, am_o16, am_o17, am_o18, am_o19, am_o20, am_o21, am_o22, am_o23, am_o24, am_o25, am_o26, am_o27, Nat.reduceAdd, Nat.reduceLeDiff, Nat.reduceLT, Nat.zero_le]
  exact loop 0 (Nat.zero_le k) h (fun _ _ _ => rfl) hR
theorem am_cp_ne {h : am_H} {a b sp dp n c : Nat} (hc : c ≠ b) : am_cp h a b sp dp n c = h c := by
  funext k
  simp [am_cp, hc]
theorem am_cp_in {h : am_H} {a b n k : Nat} (hk : k < n) : am_cp h a b 0 0 n b k = h a k := by
  simp [am_cp, hk]
set_option maxHeartbeats 4000000 in
set_option maxRecDepth 100000 in
theorem c_X4_become {b' : Nat} (hd : 1 ≤ d) (hw : am_walk Y b) (hw2 : am_walk Y b') (hdis : b + 8 < b' ∨ b' + 8 < b) (hR : am_RW h b' w) (hK : ∀ h1, (∀ a, a < b ∨ b + 7 < a → h1 a = h a) → am_RW h1 b w → K [] Y h1) : am_Met d 0 0 YX4_become [.ref b, .ref b'] Y h K := by
  refine en_X4_become fun X F hr => ?_
  obtain ⟨w0, w1, w2, w3, w4, w5, w6, w7, w8⟩ := hw
  obtain ⟨v0, v1, v2, v3, v4, v5, v6, v7, v8⟩ := hw2
  have t32 : Int32.toNatClampNeg 32 = 32 := rfl
  have n0 : ¬ (0 : Int32) < 0 := by decide
  have n5 : ¬ (5 : Int32) < 0 := by decide
  have n32 : ¬ (32 : Int32) < 0 := by decide
  simp only [te_X4_become_0, w0, w1, w2, w3, w4, w5, w6, w7, w8, v0, v1, v2, v3, v4, v5, v6, v7, v8, am_t0, am_t5, t32, n0, n5, n32, not_false_eq_true, qtm_push, qtm_iload, qtm_lload, qtm_aload, qtm_istore, qtm_lstore, qtm_astore, qtm_iinc, qtm_un, qtm_bin, qtm_div, qtm_lbin, qtm_ldiv, qtm_lsh, qtm_lcmp, qtm_i2l, qtm_l2i, qtm_if, qtm_cmp, qtm_getf, qtm_puti, qtm_putz, qtm_putl, qtm_iald, qtm_iast, qtm_zald, qtm_zast, qtm_aald, qtm_tsw, qtm_callV, qtm_callS, qtm_acp, qtm_alen, qtm_max, qtm_min, qtm_dup, qtm_pop, qtm_iret, qtm_zret, qtm_lret, qtm_aret, qtm_vret, qtm_swn, qtm_swc, am_oi_c, am_ol_c, am_or_r, am_or_f, am_pi_c, am_pj_c, am_pr_c, am_pa_r, am_pa_f, am_yo_c, am_ya_c, am_fv_i, am_fv_l, am_fv_r, am_fi_c, am_fl_c, am_rv_c, am_n2_s, am_n2_n, am_pv_0, am_pv_s, am_cs_n, am_cs_c, Value.category, List.getElem?_cons_zero, List.getElem?_cons_succ, List.set_cons_zero, List.set_cons_succ, List.length_cons, List.length_nil, List.drop_succ_cons, List.drop_zero, List.take_succ_cons, List.take_zero, List.take_nil, List.reverse_cons, List.reverse_nil, List.nil_append, List.cons_append, List.append_nil, true_and, and_true, Int.reduceAdd, am_o0, am_o1, am_o2, am_o3, am_o4, am_o5, am_o6, am_o7, am_o8, am_o9, am_o10, am_o11, am_o12, am_o13, am_o14, am_o15, am_o16, am_o17, am_o18, am_o19, am_o20, am_o21, am_o22, am_o23, am_o24, am_o25, am_o26, am_o27, Nat.reduceAdd, Nat.reduceLeDiff, Nat.reduceLT, Nat.zero_le]
  have hx : ∀ i k, i ≤ 8 → k ≤ 8 → (b' + i = b + k) = False := fun i k hi hk => eq_false (by omega)
  have hx0 : ∀ k, k ≤ 8 → (b' = b + k) = False := fun k hk => eq_false (by omega)
  have hxb : (b' = b) = False := eq_false (by omega)
  refine ⟨hd, hd, hd, hd, hd, hd, hd, hK _ (fun a ha => ?_) ⟨fun i hi => ?_, fun j j2 j7 i hi => ?_, fun i i8 i11 => ?_⟩⟩
  · simp only [am_up_ne a (show a ≠ b by omega), am_cp_ne (show a ≠ b + 1 by omega), am_cp_ne (show a ≠ b + 2 by omega), am_cp_ne (show a ≠ b + 3 by omega), am_cp_ne (show a ≠ b + 4 by omega), am_cp_ne (show a ≠ b + 5 by omega), am_cp_ne (show a ≠ b + 6 by omega), am_cp_ne (show a ≠ b + 7 by omega)]
  · simp [am_up, am_cp, hi, hx, hx0, hxb, hR.1 i hi]
  · have hr := hR.row j j2 j7 hi
    rcases (show j = 2 ∨ j = 3 ∨ j = 4 ∨ j = 5 ∨ j = 6 ∨ j = 7 by omega) with rfl | rfl | rfl | rfl | rfl | rfl <;> simp [am_up, am_cp, hi, hx, hx0, hxb, hr]
  · have hr := hR.2.2 i i8 i11
    rcases (show i = 8 ∨ i = 9 ∨ i = 10 ∨ i = 11 by omega) with rfl | rfl | rfl | rfl <;> simp [am_up, am_cp, hx, hx0, hxb, hr]
def sp_add (w : am_H) (n : Nat) (k m s : Int32) : am_H := am_up (am_up (am_up (am_up (am_up (am_up (am_up w 2 n k) 3 n m) 4 n s) 5 n 0) 6 n (if s ≤ 0 then 31 else 0)) 7 n 0) 0 8 (nI (n + 1))
set_option maxHeartbeats 4000000 in
set_option maxRecDepth 100000 in
theorem c_X4_add {k m s : Int32} (hw : am_walk Y b) (hR : am_RW h b w) (hn : w 0 8 = nI n) (h5 : n ≤ 5) (hF : n = 5 → K [.int (-4)] Y h) (hK : n < 5 → ∀ h1, (∀ a, a < b ∨ b + 7 < a → h1 a = h a) → am_RW h1 b (sp_add w n k m s) → K [.int (nI n)] Y h1) : am_Met d 0 0 YX4_add [.ref b, .int k, .int m, .int s] Y h K := by
  refine en_X4_add fun X F hr => ?_
  obtain ⟨w0, w1, w2, w3, w4, w5, w6, w7, w8⟩ := hw
  have hn' : h b 8 = nI n := (hR.2.2 8 (by decide) (by decide)).trans hn
  have e : (nI n < 5) ↔ n < 5 := nI_ltI (b := 5) (by omega) (by decide)
  simp only [te_X4_add_0, te_X4_add_8, te_X4_add_11, te_X4_add_63, te_X4_add_65, te_X4_add_59, am_up_ap, reduceIte, Nat.reduceEqDiff, Nat.add_eq_left, Nat.left_eq_add, Nat.add_left_cancel_iff, am_t0, am_t1, am_t2, am_t3, am_t4, am_t5, am_t6, am_t7, am_t8, am_t9, am_t10, am_t11, w0, w1, w2, w3, w4, w5, w6, w7, w8, hn', nI_clamp (show n < 2 ^ 31 by omega), nI_1, e, qtm_push, qtm_iload, qtm_lload, qtm_aload, qtm_istore, qtm_lstore, qtm_astore, qtm_iinc, qtm_un, qtm_bin, qtm_div, qtm_lbin, qtm_ldiv, qtm_lsh, qtm_lcmp, qtm_i2l, qtm_l2i, qtm_if, qtm_cmp, qtm_getf, qtm_puti, qtm_putz, qtm_putl, qtm_iald, qtm_iast, qtm_zald, qtm_zast, qtm_aald, qtm_tsw, qtm_callV, qtm_callS, qtm_acp, qtm_alen, qtm_max, qtm_min, qtm_dup, qtm_pop, qtm_iret, qtm_zret, qtm_lret, qtm_aret, qtm_vret, qtm_swn, qtm_swc, am_oi_c, am_ol_c, am_or_r, am_or_f, am_pi_c, am_pj_c, am_pr_c, am_pa_r, am_pa_f, am_yo_c, am_ya_c, am_fv_i, am_fv_l, am_fv_r, am_fi_c, am_fl_c, am_rv_c, am_n2_s, am_n2_n, am_pv_0, am_pv_s, am_cs_n, am_cs_c, Value.category, List.getElem?_cons_zero, List.getElem?_cons_succ, List.set_cons_zero, List.set_cons_succ, List.length_cons, List.length_nil, List.drop_succ_cons, List.drop_zero, List.take_succ_cons, List.take_zero, List.take_nil, List.reverse_cons, List.reverse_nil, List.nil_append, List.cons_append, List.append_nil, true_and, and_true, Int.reduceAdd, am_o0, am_o1, am_o2, am_o3, am_o4, am_o5, am_o6, am_o7, am_o8, am_o9, am_o10, am_o11, am_o12, am_o13, am_o14, am_o15, am_o16, am_o17, am_o18, am_o19, am_o20, am_o21, am_o22, am_o23, am_o24, am_o25, am_o26, am_o27, Nat.reduceAdd, Nat.reduceLeDiff, Nat.reduceLT, Nat.zero_le]
  refine ⟨fun q => ?_, fun q => hF (by omega)⟩
  have hh : ∀ (v : Int32) (a : Nat), a < b ∨ b + 7 < a → am_up (am_up (am_up (am_up (am_up (am_up (am_up h (b + 2) n k) (b + 3) n m) (b + 4) n s) (b + 5) n 0) (b + 6) n v) (b + 7) n 0) b 8 (nI (n + 1)) a = h a := fun v a ha => by simp only [am_up_ne a (show a ≠ b by omega), am_up_ne a (show a ≠ b + 2 by omega), am_up_ne a (show a ≠ b + 3 by omega), am_up_ne a (show a ≠ b + 4 by omega), am_up_ne a (show a ≠ b + 5 by omega), am_up_ne a (show a ≠ b + 6 by omega), am_up_ne a (show a ≠ b + 7 by omega)]
  have hRR : ∀ v : Int32, v = (if s ≤ 0 then 31 else 0) → am_RW (am_up (am_up (am_up (am_up (am_up (am_up (am_up h (b + 2) n k) (b + 3) n m) (b + 4) n s) (b + 5) n 0) (b + 6) n v) (b + 7) n 0) b 8 (nI (n + 1))) b (sp_add w n k m s) := fun v hv => by
    rw [hv]
    exact ((((((hR.upr 2 (by decide) (by decide) n k).upr 3 (by decide) (by decide) n m).upr 4 (by decide) (by decide) n s).upr 5 (by decide) (by decide) n 0).upr 6 (by decide) (by decide) n _).upr 7 (by decide) (by decide) n 0).upo 8 _
  refine ⟨vp_in_nI (by omega) (by decide), vp_in_nI (by omega) (by decide), vp_in_nI (by omega) (by decide), vp_in_nI (by omega) (by decide), fun q2 => ⟨vp_in_nI (by omega) (by decide), vp_in_nI (by omega) (by decide), hK q _ (hh _) (hRR _ (by rw [if_pos q2]))⟩, fun q2 => ⟨vp_in_nI (by omega) (by decide), vp_in_nI (by omega) (by decide), hK q _ (hh _) (hRR _ (by rw [if_neg q2]))⟩⟩
end CON
