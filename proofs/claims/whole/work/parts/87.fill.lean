/-! java.util.Arrays.fill(int[], int) -/
theorem dJ7_fill_0 : decode cJ7_fill_53178 0 = .ok (.iconst 0, 1) := by decide +kernel
theorem dJ7_fill_1 : decode cJ7_fill_53178 1 = .ok (.istore_n 2, 1) := by decide +kernel
theorem dJ7_fill_2 : decode cJ7_fill_53178 2 = .ok (.aload_n 0, 1) := by decide +kernel
theorem dJ7_fill_3 : decode cJ7_fill_53178 3 = .ok (.arraylength, 1) := by decide +kernel
theorem dJ7_fill_4 : decode cJ7_fill_53178 4 = .ok (.istore_n 3, 1) := by decide +kernel
theorem dJ7_fill_5 : decode cJ7_fill_53178 5 = .ok (.iload_n 2, 1) := by decide +kernel
theorem dJ7_fill_6 : decode cJ7_fill_53178 6 = .ok (.iload_n 3, 1) := by decide +kernel
theorem dJ7_fill_7 : decode cJ7_fill_53178 7 = .ok (.if_icmp .ge 13, 3) := by decide +kernel
theorem dJ7_fill_10 : decode cJ7_fill_53178 10 = .ok (.aload_n 0, 1) := by decide +kernel
theorem dJ7_fill_11 : decode cJ7_fill_53178 11 = .ok (.iload_n 2, 1) := by decide +kernel
theorem dJ7_fill_12 : decode cJ7_fill_53178 12 = .ok (.iload_n 1, 1) := by decide +kernel
theorem dJ7_fill_13 : decode cJ7_fill_53178 13 = .ok (.iastore, 1) := by decide +kernel
theorem dJ7_fill_14 : decode cJ7_fill_53178 14 = .ok (.iinc 2 1, 3) := by decide +kernel
theorem dJ7_fill_17 : decode cJ7_fill_53178 17 = .ok (.goto (-12), 3) := by decide +kernel
theorem dJ7_fill_20 : decode cJ7_fill_53178 20 = .ok (.return_, 1) := by decide +kernel
abbrev YJ7_fill : am_Y := (yJ7_fill_53178, cJ7_fill_53178, 4, none)
theorem my_J7_fill : am_My YJ7_fill 2 := ⟨am_mem 31 (by decide +kernel) (by decide +kernel), am_mem 3 (by decide +kernel) (by decide +kernel), by decide +kernel, by decide +kernel⟩
theorem ms_J7_fill : Cond.static yJ7_fill_53178 ∈ am_ws := am_mem 30 (by decide +kernel) (by decide +kernel)
/-- the first k places of cell a are v -/
def am_fil (h : am_H) (a k : Nat) (v : Int32) : am_H := fun c i => if c = a then (if i < k then v else h c i) else h c i
theorem am_fil_0 (h : am_H) (a : Nat) (v : Int32) : am_fil h a 0 v = h := by
  funext c i
  simp [am_fil]
theorem am_fil_s (h : am_H) (a k : Nat) (v : Int32) : am_up (am_fil h a k v) a k v = am_fil h a (k + 1) v := by
  funext c i
  simp only [am_up, am_fil]
  by_cases hc : c = a
  · simp only [if_pos hc]
    by_cases hi : i = k
    · simp only [if_pos hi, if_pos (show i < k + 1 by omega)]
    · simp only [if_neg hi]
      by_cases h2 : i < k
      · simp only [if_pos h2, if_pos (show i < k + 1 by omega)]
      · simp only [if_neg h2, if_neg (show ¬ i < k + 1 by omega)]
  · simp only [if_neg hc]
theorem am_fil_ne {h : am_H} {a k : Nat} {v : Int32} : ∀ c, c ≠ a → am_fil h a k v c = h c := fun c hc => by funext i; simp [am_fil, hc]
set_option maxHeartbeats 4000000 in
set_option maxRecDepth 100000 in
theorem c_J7_fill {d a n : Nat} {v : Int32} {fs : List Value} {Y : List am_C} {h : am_H} {K : List Value → List am_C → am_H → Prop} (ha : Y[a]? = some (0, n, fs)) (hn : n < 1000) (hK : K [] Y (am_fil h a n v)) : am_Met d 0 0 YJ7_fill [.ref a, .int v] Y h K := by
  refine am_start (L := [.ref a, .int v, .null, .null]) (by decide +kernel) rfl (by simp [am_ents, Value.category]) fun X F hr _ _ => ?_
  have J5 : ∀ L S Y h, am_At X (am_MQ X K 0 0) 4 0 0 5 L S Y h → am_At X (am_MQ X K 0 0) 4 0 0 5 L S Y h := fun _ _ _ _ q => q
  have loop := am_for (P := fun i => am_At X (am_MQ X K 0 0) 4 0 0 5 [.ref a, .int v, .int (nI i), .int (nI n)] [] Y (am_fil h a i v)) n
    (by
      refine a_iload_n (i := 2) F dJ7_fill_5 rfl (a_iload_n (i := 3) F dJ7_fill_6 rfl (a_icmp_ge F dJ7_fill_7 (by decide) (a_vret F hr dJ7_fill_20) (fun _ _ _ _ q => q))) _ _ _ _ ?_
      simp only [qtm_push, qtm_iload, qtm_lload, qtm_aload, qtm_istore, qtm_lstore, qtm_astore, qtm_iinc, qtm_un, qtm_bin, qtm_div, qtm_lbin, qtm_ldiv, qtm_lsh, qtm_lcmp, qtm_i2l, qtm_l2i, qtm_if, qtm_cmp, qtm_getf, qtm_puti, qtm_putz, qtm_putl, qtm_iald, qtm_iast, qtm_zald, qtm_zast, qtm_aald, qtm_tsw, qtm_callV, qtm_callS, qtm_acp, qtm_alen, qtm_max, qtm_min, qtm_dup, qtm_pop, qtm_iret, qtm_zret, qtm_lret, qtm_aret, qtm_vret, qtm_swn, qtm_swc, am_oi_c, am_ol_c, am_or_r, am_or_f, am_pi_c, am_pj_c, am_pr_c, am_pa_r, am_pa_f, am_yo_c, am_ya_c, am_fv_i, am_fv_l, am_fv_r, am_fi_c, am_fl_c, am_rv_c, am_n2_s, am_n2_n, am_pv_0, am_pv_s, am_cs_n, am_cs_c, Value.category, List.getElem?_cons_zero, List.getElem?_cons_succ, List.set_cons_zero, List.set_cons_succ, List.length_cons, List.length_nil, List.drop_succ_cons, List.drop_zero, List.take_succ_cons, List.take_zero, List.take_nil, List.reverse_cons, List.reverse_nil, List.nil_append, List.cons_append, List.append_nil, true_and, and_true, Int.reduceAdd, am_o0, am_o1, am_o2, am_o3, am_o4, am_o5, am_o6, am_o7, am_o8, am_o9, am_o10, am_o11, am_o12, am_o13, am_o14, am_o15, am_o16, am_o17, am_o18, am_o19, am_o20, am_o21, am_o22, am_o23, am_o24, am_o25, am_o26, am_o27, Nat.reduceAdd, Nat.reduceLeDiff, Nat.reduceLT, Nat.zero_le]
      exact ⟨fun _ => hK, fun q => absurd (nI_le (Nat.le_refl n) (by omega)) q⟩)
    (fun i hi ih => by
      refine a_iload_n (i := 2) F dJ7_fill_5 rfl (a_iload_n (i := 3) F dJ7_fill_6 rfl (a_icmp_ge F dJ7_fill_7 (by decide) (a_vret (K := K) F hr dJ7_fill_20) (a_aload_n (i := 0) F dJ7_fill_10 rfl (a_iload_n (i := 2) F dJ7_fill_11 rfl (a_iload_n (i := 1) F dJ7_fill_12 rfl (a_iast F dJ7_fill_13 (a_iinc F dJ7_fill_14 rfl (a_goto F dJ7_fill_17 (by decide) J5)))))))) _ _ _ _ ?_
      simp only [ha, nI_clamp (show i < 2 ^ 31 by omega), nI_1, am_fil_s, qtm_push, qtm_iload, qtm_lload, qtm_aload, qtm_istore, qtm_lstore, qtm_astore, qtm_iinc, qtm_un, qtm_bin, qtm_div, qtm_lbin, qtm_ldiv, qtm_lsh, qtm_lcmp, qtm_i2l, qtm_l2i, qtm_if, qtm_cmp, qtm_getf, qtm_puti, qtm_putz, qtm_putl, qtm_iald, qtm_iast, qtm_zald, qtm_zast, qtm_aald, qtm_tsw, qtm_callV, qtm_callS, qtm_acp, qtm_alen, qtm_max, qtm_min, qtm_dup, qtm_pop, qtm_iret, qtm_zret, qtm_lret, qtm_aret, qtm_vret, qtm_swn, qtm_swc, am_oi_c, am_ol_c, am_or_r, am_or_f, am_pi_c, am_pj_c, am_pr_c, am_pa_r, am_pa_f, am_yo_c, am_ya_c, am_fv_i, am_fv_l, am_fv_r, am_fi_c, am_fl_c, am_rv_c, am_n2_s, am_n2_n, am_pv_0, am_pv_s, am_cs_n, am_cs_c, Value.category, List.getElem?_cons_zero, List.getElem?_cons_succ, List.set_cons_zero, List.set_cons_succ, List.length_cons, List.length_nil, List.drop_succ_cons, List.drop_zero, List.take_succ_cons, List.take_zero, List.take_nil, List.reverse_cons, List.reverse_nil, List.nil_append, List.cons_append, List.append_nil, true_and, and_true, Int.reduceAdd, am_o0, am_o1, am_o2, am_o3, am_o4, am_o5, am_o6, am_o7, am_o8, am_o9, am_o10, am_o11, am_o12, am_o13, am_o14, am_o15, am_o16, am_o17, am_o18, am_o19, am_o20, am_o21, am_o22, am_o23, am_o24, am_o25, am_o26, am_o27, Nat.reduceAdd, Nat.reduceLeDiff, Nat.reduceLT, Nat.zero_le]
      exact ⟨fun q => absurd ((nI_leI (by omega) (by omega)).mp q) (by omega), fun _ => ⟨vp_in_nI hi (by omega), ih⟩⟩)
  refine a_iconst F dJ7_fill_0 rfl (a_istore_n (i := 2) F dJ7_fill_1 rfl (a_aload_n (i := 0) F dJ7_fill_2 rfl (a_alen F dJ7_fill_3 (a_istore_n (i := 3) F dJ7_fill_4 rfl (fun _ _ _ _ q => q))))) _ _ _ _ ?_
  simp only [ha, qtm_push, qtm_iload, qtm_lload, qtm_aload, qtm_istore, qtm_lstore, qtm_astore, qtm_iinc, qtm_un, qtm_bin, qtm_div, qtm_lbin, qtm_ldiv, qtm_lsh, qtm_lcmp, qtm_i2l, qtm_l2i, qtm_if, qtm_cmp, qtm_getf, qtm_puti, qtm_putz, qtm_putl, qtm_iald, qtm_iast, qtm_zald, qtm_zast, qtm_aald, qtm_tsw, qtm_callV, qtm_callS, qtm_acp, qtm_alen, qtm_max, qtm_min, qtm_dup, qtm_pop, qtm_iret, qtm_zret, qtm_lret, qtm_aret, qtm_vret, qtm_swn, qtm_swc, am_oi_c, am_ol_c, am_or_r, am_or_f, am_pi_c, am_pj_c, am_pr_c, am_pa_r, am_pa_f, am_yo_c, am_ya_c, am_fv_i, am_fv_l, am_fv_r, am_fi_c, am_fl_c, am_rv_c, am_n2_s, am_n2_n, am_pv_0, am_pv_s, am_cs_n, am_cs_c, Value.category, List.getElem?_cons_zero, List.getElem?_cons_succ, List.set_cons_zero, List.set_cons_succ, List.length_cons, List.length_nil, List.drop_succ_cons, List.drop_zero, List.take_succ_cons, List.take_zero, List.take_nil, List.reverse_cons, List.reverse_nil, List.nil_append, List.cons_append, List.append_nil, true_and, and_true, Int.reduceAdd, am_o0, am_o1, am_o2, am_o3, am_o4, am_o5, am_o6, am_o7, am_o8, am_o9, am_o10, am_o11, am_o12, am_o13, am_o14, am_o15, am_o16, am_o17, am_o18, am_o19, am_o20, am_o21, am_o22, am_o23, am_o24, am_o25, am_o26, am_o27, Nat.reduceAdd, Nat.reduceLeDiff, Nat.reduceLT, Nat.zero_le]
  have l0 := loop 0 (Nat.zero_le n)
  rw [am_fil_0] at l0
  exact l0
