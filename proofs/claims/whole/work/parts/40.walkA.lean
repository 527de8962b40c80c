/-- a Walk's cells -/
def am_walk (Y : List am_C) (b : Nat) : Prop := Y[b]? = some (2, 4, [.ref (b + 1), .ref (b + 2), .ref (b + 3), .ref (b + 4), .ref (b + 5), .ref (b + 6), .ref (b + 7), .ref (b + 8), .int 0, .int 0, .int 0, .int 0]) ∧ Y[b + 1]? = some (0, 32, []) ∧ Y[b + 2]? = some (0, 5, []) ∧ Y[b + 3]? = some (0, 5, []) ∧ Y[b + 4]? = some (0, 5, []) ∧ Y[b + 5]? = some (0, 5, []) ∧ Y[b + 6]? = some (0, 5, []) ∧ Y[b + 7]? = some (0, 5, []) ∧ Y[b + 8]? = some (0, 6, [])
/-- a Walk at b holds w: rows 1 firm, 2 kind, 3 number, 4 step, 5 doubt, 6 at, 7 how; row 0: 8 people, 9 hours, 10 sea, 11 rule -/
def am_RW (h : am_H) (b : Nat) (w : am_H) : Prop := (∀ i, i < 32 → h (b + 1) i = w 1 i) ∧ (∀ j, 2 ≤ j → j ≤ 7 → ∀ i, i < 5 → h (b + j) i = w j i) ∧ ∀ i, 8 ≤ i → i ≤ 11 → h b i = w 0 i
theorem am_RW.row {h w : am_H} {b : Nat} (hR : am_RW h b w) (j : Nat) (h2 : 2 ≤ j) (h7 : j ≤ 7) {i : Nat} (hi : i < 5) : h (b + j) i = w j i := hR.2.1 j h2 h7 i hi
theorem am_RW.upr {h w : am_H} {b : Nat} (hR : am_RW h b w) (j : Nat) (h2 : 2 ≤ j) (h7 : j ≤ 7) (i : Nat) (v : Int32) : am_RW (am_up h (b + j) i v) b (am_up w j i v) := by
  refine ⟨fun k hk => ?_, fun k k2 k7 q hq => ?_, fun k k8 k11 => ?_⟩
  · simp only [am_up, if_neg (show ¬ b + 1 = b + j by omega), if_neg (show ¬ 1 = j by omega)]
    exact hR.1 k hk
  · simp only [am_up, Nat.add_left_cancel_iff, hR.2.1 k k2 k7 q hq]
  · simp only [am_up, if_neg (show ¬ b = b + j by omega), if_neg (show ¬ 0 = j by omega)]
    exact hR.2.2 k k8 k11
theorem am_RW.upf {h w : am_H} {b : Nat} (hR : am_RW h b w) (i : Nat) (v : Int32) : am_RW (am_up h (b + 1) i v) b (am_up w 1 i v) := by
  refine ⟨fun k hk => ?_, fun k k2 k7 q hq => ?_, fun k k8 k11 => ?_⟩
  · simp only [am_up, if_pos, hR.1 k hk]
  · simp only [am_up, if_neg (show ¬ b + k = b + 1 by omega), if_neg (show ¬ k = 1 by omega)]
    exact hR.2.1 k k2 k7 q hq
  · simp only [am_up, if_neg (show ¬ b = b + 1 by omega), if_neg (show ¬ (0 : Nat) = 1 by omega)]
    exact hR.2.2 k k8 k11
theorem am_RW.upo {h w : am_H} {b : Nat} (hR : am_RW h b w) (i : Nat) (v : Int32) : am_RW (am_up h b i v) b (am_up w 0 i v) := by
  refine ⟨fun k hk => ?_, fun k k2 k7 q hq => ?_, fun k k8 k11 => ?_⟩
  · simp only [am_up, if_neg (show ¬ b + 1 = b by omega), if_neg (show ¬ (1 : Nat) = 0 by omega)]
    exact hR.1 k hk
  · simp only [am_up, if_neg (show ¬ b + k = b by omega), if_neg (show ¬ k = 0 by omega)]
    exact hR.2.1 k k2 k7 q hq
  · simp only [am_up, if_pos, hR.2.2 k k8 k11]
theorem am_RW.far {h w : am_H} {b : Nat} (hR : am_RW h b w) (c : Nat) (hc : c < b ∨ b + 7 < c) (i : Nat) (v : Int32) : am_RW (am_up h c i v) b w := by
  refine ⟨fun k hk => ?_, fun k k2 k7 q hq => ?_, fun k k8 k11 => ?_⟩
  · simp only [am_up, if_neg (show ¬ b + 1 = c by omega)]
    exact hR.1 k hk
  · simp only [am_up, if_neg (show ¬ b + k = c by omega)]
    exact hR.2.1 k k2 k7 q hq
  · simp only [am_up, if_neg (show ¬ b = c by omega)]
    exact hR.2.2 k k8 k11
theorem am_RW.keep {h h' w : am_H} {b : Nat} (hR : am_RW h b w) (hh : ∀ c, b ≤ c → c ≤ b + 7 → h' c = h c) : am_RW h' b w := by
  refine ⟨fun k hk => ?_, fun k k2 k7 q hq => ?_, fun k k8 k11 => ?_⟩
  · rw [hh (b + 1) (by omega) (by omega)]
    exact hR.1 k hk
  · rw [hh (b + k) (by omega) (by omega)]
    exact hR.2.1 k k2 k7 q hq
  · rw [hh b (by omega) (by omega)]
    exact hR.2.2 k k8 k11
/-! what is told of a walk -/
def sp_cnt (f : Nat → Int32) (a : Int32) : Nat → Int32
  | 0 => 0
  | k + 1 => if f k = a then sp_cnt f a k + 1 else sp_cnt f a k
theorem sp_cnt_cong {f g : Nat → Int32} {a : Int32} : ∀ n, (∀ i, i < n → f i = g i) → sp_cnt f a n = sp_cnt g a n
  | 0, _ => rfl
  | n + 1, h => by simp only [sp_cnt, h n (Nat.lt_succ_self n), sp_cnt_cong n (fun i hi => h i (by omega))]
def sp_out (w : am_H) (q : Nat) : Prop := w 7 q = 1 ∨ w 7 q = 2
def sp_bits (w : am_H) (c : Int32) : Nat → Int32
  | 0 => 0
  | k + 1 => if w 6 k = c ∧ (w 7 k = 1 ∨ w 7 k = 2) then sp_bits w c k ||| ((1 : Int32) <<< (nI k &&& 31)) else sp_bits w c k
def sp_met (w : am_H) (p : Nat) : Nat → Int32
  | 0 => 0
  | k + 1 => if ¬ k = p ∧ w 6 k = w 6 p ∧ (w 7 k = 1 ∨ w 7 k = 2) then sp_met w p k + 1 else sp_met w p k
def sp_metBy (w : am_H) (n p : Nat) : Int32 := if w 7 p = 1 ∨ w 7 p = 2 then sp_met w p n else 0
def sp_least (f : Nat → Int32) : Nat → Nat
  | 0 => 0
  | k + 1 => if f (k + 1) < f (sp_least f k) then k + 1 else sp_least f k
def sp_sum (f : Nat → Int32) : Nat → Int32
  | 0 => 0
  | k + 1 => sp_sum f k + f k
theorem sp_least_le (f : Nat → Int32) : ∀ k, sp_least f k ≤ k
  | 0 => Nat.le_refl 0
  | k + 1 => by
    have := sp_least_le f k
    simp only [sp_least]
    split <;> omega
section CON
variable {d b n : Nat} {Y : List am_C} {h w : am_H} {K : List Value → List am_C → am_H → Prop}
set_option maxHeartbeats 4000000 in
set_option maxRecDepth 100000 in
theorem c_X4_howMany {a : Int32} (hw : am_walk Y b) (hR : am_RW h b w) (hn : w 0 8 = nI n) (h5 : n ≤ 5) (hK : K [.int (sp_cnt (w 7) a n)] Y h) : am_Met d 0 0 YX4_howMany [.ref b, .int a] Y h K := by
  refine en_X4_howMany fun X F hr => ?_
  obtain ⟨w0, w1, w2, w3, w4, w5, w6, w7, w8⟩ := hw
  have hn' : h b 8 = nI n := (hR.2.2 8 (by decide) (by decide)).trans hn
  have loop := am_for (P := fun i => am_At X (am_MQ X K 0 0) 4 0 0 4 [.ref b, .int a, .int (sp_cnt (w 7) a i), .int (nI i)] [] Y h) n
    (by
      refine sd_X4_howMany_4 F hr _ _ _ _ ?_
      simp only [tr_X4_howMany_4, tr_X4_howMany_31, tr_X4_howMany_12, tr_X4_howMany_25, tr_X4_howMany_22, w0, w7, hn', tm_push, tm_iload, tm_lload, tm_aload, tm_istore, tm_lstore, tm_astore, tm_iinc, tm_un, tm_bin, tm_div, tm_lbin, tm_ldiv, tm_lsh, tm_lcmp, tm_i2l, tm_l2i, tm_dup, tm_pop, tm_if, tm_cmp, tm_getf, tm_puti, tm_putz, tm_putl, tm_iald, tm_iast, tm_zald, tm_zast, tm_aald, tm_iret, tm_zret, tm_lret, tm_aret, tm_vret, tm_swc, tm_tsw, tm_callV, tm_callS, tm_max, tm_min, tm_acp, tm_alen, am_oi, am_ol, am_or, am_pi, am_pj, am_pr, am_pa, am_yo, am_ya, am_fv, am_fi, am_fl, am_rv, am_n2, am_pv, am_cs, Value.category, List.getElem?_cons_zero, List.getElem?_cons_succ, List.set_cons_zero, List.set_cons_succ, List.length_cons, List.length_nil, List.drop_succ_cons, List.drop_zero, List.take_succ_cons, List.take_zero, List.take_nil, List.reverse_cons, List.reverse_nil, List.nil_append, List.cons_append, List.append_nil, true_and, and_true, Int.reduceAdd, am_o0, am_o1, am_o2, am_o3, am_o4, am_o5, am_o6, am_o7, am_o8, am_o9, am_o10, am_o11, am_o12, am_o13, am_o14, am_o15, am_o16, am_o17, am_o18, am_o19, am_o20, am_o21, am_o22, am_o23, am_o24, am_o25, am_o26, am_o27, Nat.reduceAdd, Nat.reduceLeDiff, Nat.reduceLT, Nat.zero_le]
      exact ⟨fun _ => hK, fun q => absurd (nI_le (Nat.le_refl n) (by omega)) q⟩)
    (fun i hi ih => by
      refine sd_X4_howMany_4 F hr _ _ _ _ ?_
      simp only [tr_X4_howMany_4, tr_X4_howMany_31, tr_X4_howMany_12, tr_X4_howMany_25, tr_X4_howMany_22, w0, w7, hn', nI_clamp (show i < 2 ^ 31 by omega), hR.row 7 (by decide) (by decide) (show i < 5 by omega), nI_1, tm_push, tm_iload, tm_lload, tm_aload, tm_istore, tm_lstore, tm_astore, tm_iinc, tm_un, tm_bin, tm_div, tm_lbin, tm_ldiv, tm_lsh, tm_lcmp, tm_i2l, tm_l2i, tm_dup, tm_pop, tm_if, tm_cmp, tm_getf, tm_puti, tm_putz, tm_putl, tm_iald, tm_iast, tm_zald, tm_zast, tm_aald, tm_iret, tm_zret, tm_lret, tm_aret, tm_vret, tm_swc, tm_tsw, tm_callV, tm_callS, tm_max, tm_min, tm_acp, tm_alen, am_oi, am_ol, am_or, am_pi, am_pj, am_pr, am_pa, am_yo, am_ya, am_fv, am_fi, am_fl, am_rv, am_n2, am_pv, am_cs, Value.category, List.getElem?_cons_zero, List.getElem?_cons_succ, List.set_cons_zero, List.set_cons_succ, List.length_cons, List.length_nil, List.drop_succ_cons, List.drop_zero, List.take_succ_cons, List.take_zero, List.take_nil, List.reverse_cons, List.reverse_nil, List.nil_append, List.cons_append, List.append_nil, true_and, and_true, Int.reduceAdd, am_o0, am_o1, am_o2, am_o3, am_o4, am_o5, am_o6, am_o7, am_o8, am_o9, am_o10, am_o11, am_o12, am_o13, am_o14, am_o15, am_o16, am_o17, am_o18, am_o19, am_o20, am_o21, am_o22, am_o23, am_o24, am_o25, am_o26, am_o27, Nat.reduceAdd, Nat.reduceLeDiff, Nat.reduceLT, Nat.zero_le]
      refine ⟨fun q => absurd ((nI_leI (by omega) (by omega)).mp q) (by omega), fun _ => ⟨vp_in_nI (by omega) (by decide), fun q => ?_, fun q => ?_⟩⟩
      · simpa only [sp_cnt, if_pos q] using ih
      · simpa only [sp_cnt, if_neg q] using ih)
  simp only [tr_X4_howMany_0, tm_push, tm_iload, tm_lload, tm_aload, tm_istore, tm_lstore, tm_astore, tm_iinc, tm_un, tm_bin, tm_div, tm_lbin, tm_ldiv, tm_lsh, tm_lcmp, tm_i2l, tm_l2i, tm_dup, tm_pop, tm_if, tm_cmp, tm_getf, tm_puti, tm_putz, tm_putl, tm_iald, tm_iast, tm_zald, tm_zast, tm_aald, tm_iret, tm_zret, tm_lret, tm_aret, tm_vret, tm_swc, tm_tsw, tm_callV, tm_callS, tm_max, tm_min, tm_acp, tm_alen, am_oi, am_ol, am_or, am_pi, am_pj, am_pr, am_pa, am_yo, am_ya, am_fv, am_fi, am_fl, am_rv, am_n2, am_pv, am_cs, Value.category, List.getElem?_cons_zero, List.getElem?_cons_succ, List.set_cons_zero, List.set_cons_succ, List.length_cons, List.length_nil, List.drop_succ_cons, List.drop_zero, List.take_succ_cons, List.take_zero, List.take_nil, List.reverse_cons, List.reverse_nil, List.nil_append, List.cons_append, List.append_nil, true_and, and_true, Int.reduceAdd, am_o0, am_o1, am_o2, am_o3, am_o4, am_o5, am_o6, am_o7, am_o8, am_o9, am_o10, am_o11, am_o12, am_o13, am_o14, am_o15, am_o16, am_o17, am_o18, am_o19, am_o20, am_o21, am_o22, am_o23, am_o24, am_o25, am_o26, am_o27, Nat.reduceAdd, Nat.reduceLeDiff, Nat.reduceLT, Nat.zero_le]
  exact loop 0 (Nat.zero_le n)
set_option maxHeartbeats 4000000 in
set_option maxRecDepth 100000 in
theorem c_X4_isOut {p : Nat} (hw : am_walk Y b) (hR : am_RW h b w) (hp : p < 5) (hK : K [.int (if w 7 p = 1 ∨ w 7 p = 2 then 1 else 0)] Y h) : am_Met d 0 0 YX4_isOut [.ref b, .int (nI p)] Y h K := by
  refine en_X4_isOut fun X F hr => ?_
  obtain ⟨w0, w1, w2, w3, w4, w5, w6, w7, w8⟩ := hw
  simp only [tr_X4_isOut_0, tr_X4_isOut_20, tr_X4_isOut_25, tr_X4_isOut_10, tr_X4_isOut_24, w0, w7, nI_clamp (show p < 2 ^ 31 by omega), hR.row 7 (by decide) (by decide) hp, tm_push, tm_iload, tm_lload, tm_aload, tm_istore, tm_lstore, tm_astore, tm_iinc, tm_un, tm_bin, tm_div, tm_lbin, tm_ldiv, tm_lsh, tm_lcmp, tm_i2l, tm_l2i, tm_dup, tm_pop, tm_if, tm_cmp, tm_getf, tm_puti, tm_putz, tm_putl, tm_iald, tm_iast, tm_zald, tm_zast, tm_aald, tm_iret, tm_zret, tm_lret, tm_aret, tm_vret, tm_swc, tm_tsw, tm_callV, tm_callS, tm_max, tm_min, tm_acp, tm_alen, am_oi, am_ol, am_or, am_pi, am_pj, am_pr, am_pa, am_yo, am_ya, am_fv, am_fi, am_fl, am_rv, am_n2, am_pv, am_cs, Value.category, List.getElem?_cons_zero, List.getElem?_cons_succ, List.set_cons_zero, List.set_cons_succ, List.length_cons, List.length_nil, List.drop_succ_cons, List.drop_zero, List.take_succ_cons, List.take_zero, List.take_nil, List.reverse_cons, List.reverse_nil, List.nil_append, List.cons_append, List.append_nil, true_and, and_true, Int.reduceAdd, am_o0, am_o1, am_o2, am_o3, am_o4, am_o5, am_o6, am_o7, am_o8, am_o9, am_o10, am_o11, am_o12, am_o13, am_o14, am_o15, am_o16, am_o17, am_o18, am_o19, am_o20, am_o21, am_o22, am_o23, am_o24, am_o25, am_o26, am_o27, Nat.reduceAdd, Nat.reduceLeDiff, Nat.reduceLT, Nat.zero_le]
  refine ⟨vp_in_nI hp (by decide), fun q => ?_, fun q => ⟨vp_in_nI hp (by decide), fun q2 => ?_, fun q2 => ?_⟩⟩
  · simpa [q] using hK
  · simpa [q2] using hK
  · simpa [q, q2] using hK
set_option maxHeartbeats 4000000 in
set_option maxRecDepth 100000 in
theorem c_X4_bitsAt {c : Int32} (hd : 1 ≤ d) (hw : am_walk Y b) (hR : am_RW h b w) (hn : w 0 8 = nI n) (h5 : n ≤ 5) (hK : K [.int (sp_bits w c n)] Y h) : am_Met d 0 0 YX4_bitsAt [.ref b, .int c] Y h K := by
  refine en_X4_bitsAt fun X F hr => ?_
  have hw' := hw
  obtain ⟨w0, w1, w2, w3, w4, w5, w6, w7, w8⟩ := hw
  have hn' : h b 8 = nI n := (hR.2.2 8 (by decide) (by decide)).trans hn
  have loop := am_for (P := fun i => am_At X (am_MQ X K 0 0) 4 0 0 4 [.ref b, .int c, .int (sp_bits w c i), .int (nI i)] [] Y h) n
    (by
      refine sd_X4_bitsAt_4 F hr _ _ _ _ ?_
      simp only [tr_X4_bitsAt_4, tr_X4_bitsAt_42, tr_X4_bitsAt_12, tr_X4_bitsAt_36, tr_X4_bitsAt_22, tr_X4_bitsAt_30, w0, w7, hn', tm_push, tm_iload, tm_lload, tm_aload, tm_istore, tm_lstore, tm_astore, tm_iinc, tm_un, tm_bin, tm_div, tm_lbin, tm_ldiv, tm_lsh, tm_lcmp, tm_i2l, tm_l2i, tm_dup, tm_pop, tm_if, tm_cmp, tm_getf, tm_puti, tm_putz, tm_putl, tm_iald, tm_iast, tm_zald, tm_zast, tm_aald, tm_iret, tm_zret, tm_lret, tm_aret, tm_vret, tm_swc, tm_tsw, tm_callV, tm_callS, tm_max, tm_min, tm_acp, tm_alen, am_oi, am_ol, am_or, am_pi, am_pj, am_pr, am_pa, am_yo, am_ya, am_fv, am_fi, am_fl, am_rv, am_n2, am_pv, am_cs, Value.category, List.getElem?_cons_zero, List.getElem?_cons_succ, List.set_cons_zero, List.set_cons_succ, List.length_cons, List.length_nil, List.drop_succ_cons, List.drop_zero, List.take_succ_cons, List.take_zero, List.take_nil, List.reverse_cons, List.reverse_nil, List.nil_append, List.cons_append, List.append_nil, true_and, and_true, Int.reduceAdd, am_o0, am_o1, am_o2, am_o3, am_o4, am_o5, am_o6, am_o7, am_o8, am_o9, am_o10, am_o11, am_o12, am_o13, am_o14, am_o15, am_o16, am_o17, am_o18, am_o19, am_o20, am_o21, am_o22, am_o23, am_o24, am_o25, am_o26, am_o27, Nat.reduceAdd, Nat.reduceLeDiff, Nat.reduceLT, Nat.zero_le]
      exact ⟨fun _ => hK, fun q => absurd (nI_le (Nat.le_refl n) (by omega)) q⟩)
    (fun i hi ih => by
      refine sd_X4_bitsAt_4 F hr _ _ _ _ ?_
      simp only [tr_X4_bitsAt_4, tr_X4_bitsAt_42, tr_X4_bitsAt_12, tr_X4_bitsAt_36, tr_X4_bitsAt_22, tr_X4_bitsAt_30, w0, w6, hn', nI_clamp (show i < 2 ^ 31 by omega), hR.row 6 (by decide) (by decide) (show i < 5 by omega), nI_1, tm_push, tm_iload, tm_lload, tm_aload, tm_istore, tm_lstore, tm_astore, tm_iinc, tm_un, tm_bin, tm_div, tm_lbin, tm_ldiv, tm_lsh, tm_lcmp, tm_i2l, tm_l2i, tm_dup, tm_pop, tm_if, tm_cmp, tm_getf, tm_puti, tm_putz, tm_putl, tm_iald, tm_iast, tm_zald, tm_zast, tm_aald, tm_iret, tm_zret, tm_lret, tm_aret, tm_vret, tm_swc, tm_tsw, tm_callV, tm_callS, tm_max, tm_min, tm_acp, tm_alen, am_oi, am_ol, am_or, am_pi, am_pj, am_pr, am_pa, am_yo, am_ya, am_fv, am_fi, am_fl, am_rv, am_n2, am_pv, am_cs, Value.category, List.getElem?_cons_zero, List.getElem?_cons_succ, List.set_cons_zero, List.set_cons_succ, List.length_cons, List.length_nil, List.drop_succ_cons, List.drop_zero, List.take_succ_cons, List.take_zero, List.take_nil, List.reverse_cons, List.reverse_nil, List.nil_append, List.cons_append, List.append_nil, true_and, and_true, Int.reduceAdd, am_o0, am_o1, am_o2, am_o3, am_o4, am_o5, am_o6, am_o7, am_o8, am_o9, am_o10, am_o11, am_o12, am_o13, am_o14, am_o15, am_o16, am_o17, am_o18, am_o19, am_o20, am_o21, am_o22, am_o23, am_o24, am_o25, am_o26, am_o27, Nat.reduceAdd, Nat.reduceLeDiff, Nat.reduceLT, Nat.zero_le]
      refine ⟨fun q => absurd ((nI_leI (by omega) (by omega)).mp q) (by omega), fun _ => ⟨vp_in_nI (by omega) (by decide), fun q => ⟨hd, c_X4_isOut hw' hR (by omega) ?_⟩, fun q => ?_⟩⟩
      · simp only [tr_X4_bitsAt_36, tr_X4_bitsAt_30, nI_1, tm_push, tm_iload, tm_lload, tm_aload, tm_istore, tm_lstore, tm_astore, tm_iinc, tm_un, tm_bin, tm_div, tm_lbin, tm_ldiv, tm_lsh, tm_lcmp, tm_i2l, tm_l2i, tm_dup, tm_pop, tm_if, tm_cmp, tm_getf, tm_puti, tm_putz, tm_putl, tm_iald, tm_iast, tm_zald, tm_zast, tm_aald, tm_iret, tm_zret, tm_lret, tm_aret, tm_vret, tm_swc, tm_tsw, tm_callV, tm_callS, tm_max, tm_min, tm_acp, tm_alen, am_oi, am_ol, am_or, am_pi, am_pj, am_pr, am_pa, am_yo, am_ya, am_fv, am_fi, am_fl, am_rv, am_n2, am_pv, am_cs, Value.category, List.getElem?_cons_zero, List.getElem?_cons_succ, List.set_cons_zero, List.set_cons_succ, List.length_cons, List.length_nil, List.drop_succ_cons, List.drop_zero, List.take_succ_cons, List.take_zero, List.take_nil, List.reverse_cons, List.reverse_nil, List.nil_append, List.cons_append, List.append_nil, true_and, and_true, Int.reduceAdd, am_o0, am_o1, am_o2, am_o3, am_o4, am_o5, am_o6, am_o7, am_o8, am_o9, am_o10, am_o11, am_o12, am_o13, am_o14, am_o15, am_o16, am_o17, am_o18, am_o19, am_o20, am_o21, am_o22, am_o23, am_o24, am_o25, am_o26, am_o27, Nat.reduceAdd, Nat.reduceLeDiff, Nat.reduceLT, Nat.zero_le]
        by_cases q2 : w 7 i = 1 ∨ w 7 i = 2
        · rw [if_pos q2]
          refine ⟨fun q3 => absurd q3 (by decide), fun _ => ?_⟩
          simpa only [sp_bits, if_pos (show w 6 i = c ∧ (w 7 i = 1 ∨ w 7 i = 2) from ⟨q, q2⟩)] using ih
        · rw [if_neg q2]
          refine ⟨fun _ => ?_, fun q3 => absurd rfl q3⟩
          simpa only [sp_bits, if_neg (show ¬ (w 6 i = c ∧ (w 7 i = 1 ∨ w 7 i = 2)) from fun z => q2 z.2)] using ih
      · simpa only [sp_bits, if_neg (show ¬ (w 6 i = c ∧ (w 7 i = 1 ∨ w 7 i = 2)) from fun z => q z.1)] using ih)
  simp only [tr_X4_bitsAt_0, tm_push, tm_iload, tm_lload, tm_aload, tm_istore, tm_lstore, tm_astore, tm_iinc, tm_un, tm_bin, tm_div, tm_lbin, tm_ldiv, tm_lsh, tm_lcmp, tm_i2l, tm_l2i, tm_dup, tm_pop, tm_if, tm_cmp, tm_getf, tm_puti, tm_putz, tm_putl, tm_iald, tm_iast, tm_zald, tm_zast, tm_aald, tm_iret, tm_zret, tm_lret, tm_aret, tm_vret, tm_swc, tm_tsw, tm_callV, tm_callS, tm_max, tm_min, tm_acp, tm_alen, am_oi, am_ol, am_or, am_pi, am_pj, am_pr, am_pa, am_yo, am_ya, am_fv, am_fi, am_fl, am_rv, am_n2, am_pv, am_cs, Value.category, List.getElem?_cons_zero, List.getElem?_cons_succ, List.set_cons_zero, List.set_cons_succ, List.length_cons, List.length_nil, List.drop_succ_cons, List.drop_zero, List.take_succ_cons, List.take_zero, List.take_nil, List.reverse_cons, List.reverse_nil, List.nil_append, List.cons_append, List.append_nil, true_and, and_true, Int.reduceAdd, am_o0, am_o1, am_o2, am_o3, am_o4, am_o5, am_o6, am_o7, am_o8, am_o9, am_o10, am_o11, am_o12, am_o13, am_o14, am_o15, am_o16, am_o17, am_o18, am_o19, am_o20, am_o21, am_o22, am_o23, am_o24, am_o25, am_o26, am_o27, Nat.reduceAdd, Nat.reduceLeDiff, Nat.reduceLT, Nat.zero_le]
  exact loop 0 (Nat.zero_le n)
set_option maxHeartbeats 4000000 in
set_option maxRecDepth 100000 in
theorem c_X4_metBy {p : Nat} (hd : 1 ≤ d) (hw : am_walk Y b) (hR : am_RW h b w) (hn : w 0 8 = nI n) (h5 : n ≤ 5) (hp : p < 5) (hK : K [.int (sp_metBy w n p)] Y h) : am_Met d 0 0 YX4_metBy [.ref b, .int (nI p)] Y h K := by
  refine en_X4_metBy fun X F hr => ?_
  have hw' := hw
  obtain ⟨w0, w1, w2, w3, w4, w5, w6, w7, w8⟩ := hw
  have hn' : h b 8 = nI n := (hR.2.2 8 (by decide) (by decide)).trans hn
  have loop := am_for (P := fun i => am_At X (am_MQ X K 0 0) 4 0 0 4 [.ref b, .int (nI p), .int (sp_met w p i), .int (nI i)] [] Y h) n
    (by
      refine sd_X4_metBy_4 F hr _ _ _ _ ?_
      simp only [tr_X4_metBy_4, tr_X4_metBy_49, tr_X4_metBy_61, tr_X4_metBy_62, tr_X4_metBy_57, tr_X4_metBy_12, tr_X4_metBy_43, tr_X4_metBy_17, tr_X4_metBy_32, tr_X4_metBy_40, w0, w7, hn', tm_push, tm_iload, tm_lload, tm_aload, tm_istore, tm_lstore, tm_astore, tm_iinc, tm_un, tm_bin, tm_div, tm_lbin, tm_ldiv, tm_lsh, tm_lcmp, tm_i2l, tm_l2i, tm_dup, tm_pop, tm_if, tm_cmp, tm_getf, tm_puti, tm_putz, tm_putl, tm_iald, tm_iast, tm_zald, tm_zast, tm_aald, tm_iret, tm_zret, tm_lret, tm_aret, tm_vret, tm_swc, tm_tsw, tm_callV, tm_callS, tm_max, tm_min, tm_acp, tm_alen, am_oi, am_ol, am_or, am_pi, am_pj, am_pr, am_pa, am_yo, am_ya, am_fv, am_fi, am_fl, am_rv, am_n2, am_pv, am_cs, Value.category, List.getElem?_cons_zero, List.getElem?_cons_succ, List.set_cons_zero, List.set_cons_succ, List.length_cons, List.length_nil, List.drop_succ_cons, List.drop_zero, List.take_succ_cons, List.take_zero, List.take_nil, List.reverse_cons, List.reverse_nil, List.nil_append, List.cons_append, List.append_nil, true_and, and_true, Int.reduceAdd, am_o0, am_o1, am_o2, am_o3, am_o4, am_o5, am_o6, am_o7, am_o8, am_o9, am_o10, am_o11, am_o12, am_o13, am_o14, am_o15, am_o16, am_o17, am_o18, am_o19, am_o20, am_o21, am_o22, am_o23, am_o24, am_o25, am_o26, am_o27, Nat.reduceAdd, Nat.reduceLeDiff, Nat.reduceLT, Nat.zero_le]
      refine ⟨fun _ => ⟨hd, c_X4_isOut hw' hR hp ?_⟩, fun q => absurd (nI_le (Nat.le_refl n) (by omega)) q⟩
      simp only [tr_X4_metBy_57, tr_X4_metBy_62, tr_X4_metBy_61, tm_push, tm_iload, tm_lload, tm_aload, tm_istore, tm_lstore, tm_astore, tm_iinc, tm_un, tm_bin, tm_div, tm_lbin, tm_ldiv, tm_lsh, tm_lcmp, tm_i2l, tm_l2i, tm_dup, tm_pop, tm_if, tm_cmp, tm_getf, tm_puti, tm_putz, tm_putl, tm_iald, tm_iast, tm_zald, tm_zast, tm_aald, tm_iret, tm_zret, tm_lret, tm_aret, tm_vret, tm_swc, tm_tsw, tm_callV, tm_callS, tm_max, tm_min, tm_acp, tm_alen, am_oi, am_ol, am_or, am_pi, am_pj, am_pr, am_pa, am_yo, am_ya, am_fv, am_fi, am_fl, am_rv, am_n2, am_pv, am_cs, Value.category, List.getElem?_cons_zero, List.getElem?_cons_succ, List.set_cons_zero, List.set_cons_succ, List.length_cons, List.length_nil, List.drop_succ_cons, List.drop_zero, List.take_succ_cons, List.take_zero, List.take_nil, List.reverse_cons, List.reverse_nil, List.nil_append, List.cons_append, List.append_nil, true_and, and_true, Int.reduceAdd, am_o0, am_o1, am_o2, am_o3, am_o4, am_o5, am_o6, am_o7, am_o8, am_o9, am_o10, am_o11, am_o12, am_o13, am_o14, am_o15, am_o16, am_o17, am_o18, am_o19, am_o20, am_o21, am_o22, am_o23, am_o24, am_o25, am_o26, am_o27, Nat.reduceAdd, Nat.reduceLeDiff, Nat.reduceLT, Nat.zero_le]
      unfold sp_metBy at hK
      by_cases q2 : w 7 p = 1 ∨ w 7 p = 2
      · rw [if_pos q2] at hK ⊢
        exact ⟨fun q3 => absurd q3 (by decide), fun _ => hK⟩
      · rw [if_neg q2] at hK ⊢
        exact ⟨fun _ => hK, fun q3 => absurd rfl q3⟩)
    (fun i hi ih => by
      refine sd_X4_metBy_4 F hr _ _ _ _ ?_
      simp only [tr_X4_metBy_4, tr_X4_metBy_49, tr_X4_metBy_61, tr_X4_metBy_62, tr_X4_metBy_57, tr_X4_metBy_12, tr_X4_metBy_43, tr_X4_metBy_17, tr_X4_metBy_32, tr_X4_metBy_40, w0, w6, hn', nI_clamp (show i < 2 ^ 31 by omega), nI_clamp (show p < 2 ^ 31 by omega), hR.row 6 (by decide) (by decide) (show i < 5 by omega), hR.row 6 (by decide) (by decide) hp, nI_1, tm_push, tm_iload, tm_lload, tm_aload, tm_istore, tm_lstore, tm_astore, tm_iinc, tm_un, tm_bin, tm_div, tm_lbin, tm_ldiv, tm_lsh, tm_lcmp, tm_i2l, tm_l2i, tm_dup, tm_pop, tm_if, tm_cmp, tm_getf, tm_puti, tm_putz, tm_putl, tm_iald, tm_iast, tm_zald, tm_zast, tm_aald, tm_iret, tm_zret, tm_lret, tm_aret, tm_vret, tm_swc, tm_tsw, tm_callV, tm_callS, tm_max, tm_min, tm_acp, tm_alen, am_oi, am_ol, am_or, am_pi, am_pj, am_pr, am_pa, am_yo, am_ya, am_fv, am_fi, am_fl, am_rv, am_n2, am_pv, am_cs, Value.category, List.getElem?_cons_zero, List.getElem?_cons_succ, List.set_cons_zero, List.set_cons_succ, List.length_cons, List.length_nil, List.drop_succ_cons, List.drop_zero, List.take_succ_cons, List.take_zero, List.take_nil, List.reverse_cons, List.reverse_nil, List.nil_append, List.cons_append, List.append_nil, true_and, and_true, Int.reduceAdd, am_o0, am_o1, am_o2, am_o3, am_o4, am_o5, am_o6, am_o7, am_o8, am_o9, am_o10, am_o11, am_o12, am_o13, am_o14, am_o15, am_o16, am_o17, am_o18, am_o19, am_o20, am_o21, am_o22, am_o23, am_o24, am_o25, am_o26, am_o27, Nat.reduceAdd, Nat.reduceLeDiff, Nat.reduceLT, Nat.zero_le]
      refine ⟨fun q => absurd ((nI_leI (by omega) (by omega)).mp q) (by omega), fun _ => ⟨fun q => ?_, fun q => ⟨vp_in_nI (by omega) (by decide), vp_in_nI (by omega) (by decide), fun q2 => ⟨hd, c_X4_isOut hw' hR (by omega) ?_⟩, fun q2 => ?_⟩⟩⟩
      · have e : i = p := (nI_eq (by omega) (by omega)).mp q
        simpa only [sp_met, if_neg (show ¬ (¬ i = p ∧ w 6 i = w 6 p ∧ (w 7 i = 1 ∨ w 7 i = 2)) from fun z => z.1 e)] using ih
      · have e : ¬ i = p := fun z => q (by rw [z])
        simp only [tr_X4_metBy_43, tr_X4_metBy_40, nI_1, tm_push, tm_iload, tm_lload, tm_aload, tm_istore, tm_lstore, tm_astore, tm_iinc, tm_un, tm_bin, tm_div, tm_lbin, tm_ldiv, tm_lsh, tm_lcmp, tm_i2l, tm_l2i, tm_dup, tm_pop, tm_if, tm_cmp, tm_getf, tm_puti, tm_putz, tm_putl, tm_iald, tm_iast, tm_zald, tm_zast, tm_aald, tm_iret, tm_zret, tm_lret, tm_aret, tm_vret, tm_swc, tm_tsw, tm_callV, tm_callS, tm_max, tm_min, tm_acp, tm_alen, am_oi, am_ol, am_or, am_pi, am_pj, am_pr, am_pa, am_yo, am_ya, am_fv, am_fi, am_fl, am_rv, am_n2, am_pv, am_cs, Value.category, List.getElem?_cons_zero, List.getElem?_cons_succ, List.set_cons_zero, List.set_cons_succ, List.length_cons, List.length_nil, List.drop_succ_cons, List.drop_zero, List.take_succ_cons, List.take_zero, List.take_nil, List.reverse_cons, List.reverse_nil, List.nil_append, List.cons_append, List.append_nil, true_and, and_true, Int.reduceAdd, am_o0, am_o1, am_o2, am_o3, am_o4, am_o5, am_o6, am_o7, am_o8, am_o9, am_o10, am_o11, am_o12, am_o13, am_o14, am_o15, am_o16, am_o17, am_o18, am_o19, am_o20, am_o21, am_o22, am_o23, am_o24, am_o25, am_o26, am_o27, Nat.reduceAdd, Nat.reduceLeDiff, Nat.reduceLT, Nat.zero_le]
        by_cases q3 : w 7 i = 1 ∨ w 7 i = 2
        · rw [if_pos q3]
          refine ⟨fun q4 => absurd q4 (by decide), fun _ => ?_⟩
          simpa only [sp_met, if_pos (show ¬ i = p ∧ w 6 i = w 6 p ∧ (w 7 i = 1 ∨ w 7 i = 2) from ⟨e, q2, q3⟩)] using ih
        · rw [if_neg q3]
          refine ⟨fun _ => ?_, fun q4 => absurd rfl q4⟩
          simpa only [sp_met, if_neg (show ¬ (¬ i = p ∧ w 6 i = w 6 p ∧ (w 7 i = 1 ∨ w 7 i = 2)) from fun z => q3 z.2.2)] using ih
      · simpa only [sp_met, if_neg (show ¬ (¬ i = p ∧ w 6 i = w 6 p ∧ (w 7 i = 1 ∨ w 7 i = 2)) from fun z => q2 z.2.1)] using ih)
  simp only [tr_X4_metBy_0, tm_push, tm_iload, tm_lload, tm_aload, tm_istore, tm_lstore, tm_astore, tm_iinc, tm_un, tm_bin, tm_div, tm_lbin, tm_ldiv, tm_lsh, tm_lcmp, tm_i2l, tm_l2i, tm_dup, tm_pop, tm_if, tm_cmp, tm_getf, tm_puti, tm_putz, tm_putl, tm_iald, tm_iast, tm_zald, tm_zast, tm_aald, tm_iret, tm_zret, tm_lret, tm_aret, tm_vret, tm_swc, tm_tsw, tm_callV, tm_callS, tm_max, tm_min, tm_acp, tm_alen, am_oi, am_ol, am_or, am_pi, am_pj, am_pr, am_pa, am_yo, am_ya, am_fv, am_fi, am_fl, am_rv, am_n2, am_pv, am_cs, Value.category, List.getElem?_cons_zero, List.getElem?_cons_succ, List.set_cons_zero, List.set_cons_succ, List.length_cons, List.length_nil, List.drop_succ_cons, List.drop_zero, List.take_succ_cons, List.take_zero, List.take_nil, List.reverse_cons, List.reverse_nil, List.nil_append, List.cons_append, List.append_nil, true_and, and_true, Int.reduceAdd, am_o0, am_o1, am_o2, am_o3, am_o4, am_o5, am_o6, am_o7, am_o8, am_o9, am_o10, am_o11, am_o12, am_o13, am_o14, am_o15, am_o16, am_o17, am_o18, am_o19, am_o20, am_o21, am_o22, am_o23, am_o24, am_o25, am_o26, am_o27, Nat.reduceAdd, Nat.reduceLeDiff, Nat.reduceLT, Nat.zero_le]
  exact loop 0 (Nat.zero_le n)
set_option maxHeartbeats 4000000 in
set_option maxRecDepth 100000 in
theorem c_X4_leastFirm (hw : am_walk Y b) (hR : am_RW h b w) (hK : K [.int (nI (sp_least (w 1) 31))] Y h) : am_Met d 0 0 YX4_leastFirm [.ref b] Y h K := by
  refine en_X4_leastFirm fun X F hr => ?_
  obtain ⟨w0, w1, w2, w3, w4, w5, w6, w7, w8⟩ := hw
  have loop := am_for (P := fun i => am_At X (am_MQ X K 0 0) 3 0 0 4 [.ref b, .int (nI (sp_least (w 1) i)), .int (nI (i + 1))] [] Y h) 31
    (by
      refine sd_X4_leastFirm_4 F hr _ _ _ _ ?_
      simp only [tr_X4_leastFirm_4, tr_X4_leastFirm_33, tr_X4_leastFirm_10, tr_X4_leastFirm_27, tr_X4_leastFirm_25, w0, w1, tm_push, tm_iload, tm_lload, tm_aload, tm_istore, tm_lstore, tm_astore, tm_iinc, tm_un, tm_bin, tm_div, tm_lbin, tm_ldiv, tm_lsh, tm_lcmp, tm_i2l, tm_l2i, tm_dup, tm_pop, tm_if, tm_cmp, tm_getf, tm_puti, tm_putz, tm_putl, tm_iald, tm_iast, tm_zald, tm_zast, tm_aald, tm_iret, tm_zret, tm_lret, tm_aret, tm_vret, tm_swc, tm_tsw, tm_callV, tm_callS, tm_max, tm_min, tm_acp, tm_alen, am_oi, am_ol, am_or, am_pi, am_pj, am_pr, am_pa, am_yo, am_ya, am_fv, am_fi, am_fl, am_rv, am_n2, am_pv, am_cs, Value.category, List.getElem?_cons_zero, List.getElem?_cons_succ, List.set_cons_zero, List.set_cons_succ, List.length_cons, List.length_nil, List.drop_succ_cons, List.drop_zero, List.take_succ_cons, List.take_zero, List.take_nil, List.reverse_cons, List.reverse_nil, List.nil_append, List.cons_append, List.append_nil, true_and, and_true, Int.reduceAdd, am_o0, am_o1, am_o2, am_o3, am_o4, am_o5, am_o6, am_o7, am_o8, am_o9, am_o10, am_o11, am_o12, am_o13, am_o14, am_o15, am_o16, am_o17, am_o18, am_o19, am_o20, am_o21, am_o22, am_o23, am_o24, am_o25, am_o26, am_o27, Nat.reduceAdd, Nat.reduceLeDiff, Nat.reduceLT, Nat.zero_le]
      exact ⟨fun _ => hK, fun q => absurd (by decide) q⟩)
    (fun i hi ih => by
      have hl := sp_least_le (w 1) i
      refine sd_X4_leastFirm_4 F hr _ _ _ _ ?_
      simp only [tr_X4_leastFirm_4, tr_X4_leastFirm_33, tr_X4_leastFirm_10, tr_X4_leastFirm_27, tr_X4_leastFirm_25, w0, w1, nI_clamp (show i + 1 < 2 ^ 31 by omega), nI_clamp (show sp_least (w 1) i < 2 ^ 31 by omega), hR.1 (i + 1) (by omega), hR.1 (sp_least (w 1) i) (by omega), nI_1, tm_push, tm_iload, tm_lload, tm_aload, tm_istore, tm_lstore, tm_astore, tm_iinc, tm_un, tm_bin, tm_div, tm_lbin, tm_ldiv, tm_lsh, tm_lcmp, tm_i2l, tm_l2i, tm_dup, tm_pop, tm_if, tm_cmp, tm_getf, tm_puti, tm_putz, tm_putl, tm_iald, tm_iast, tm_zald, tm_zast, tm_aald, tm_iret, tm_zret, tm_lret, tm_aret, tm_vret, tm_swc, tm_tsw, tm_callV, tm_callS, tm_max, tm_min, tm_acp, tm_alen, am_oi, am_ol, am_or, am_pi, am_pj, am_pr, am_pa, am_yo, am_ya, am_fv, am_fi, am_fl, am_rv, am_n2, am_pv, am_cs, Value.category, List.getElem?_cons_zero, List.getElem?_cons_succ, List.set_cons_zero, List.set_cons_succ, List.length_cons, List.length_nil, List.drop_succ_cons, List.drop_zero, List.take_succ_cons, List.take_zero, List.take_nil, List.reverse_cons, List.reverse_nil, List.nil_append, List.cons_append, List.append_nil, true_and, and_true, Int.reduceAdd, am_o0, am_o1, am_o2, am_o3, am_o4, am_o5, am_o6, am_o7, am_o8, am_o9, am_o10, am_o11, am_o12, am_o13, am_o14, am_o15, am_o16, am_o17, am_o18, am_o19, am_o20, am_o21, am_o22, am_o23, am_o24, am_o25, am_o26, am_o27, Nat.reduceAdd, Nat.reduceLeDiff, Nat.reduceLT, Nat.zero_le]
      refine ⟨fun q => absurd ((nI_leI (a := 32) (by omega) (by omega)).mp q) (by omega), fun _ => ⟨vp_in_nI (by omega) (by decide), vp_in_nI (by omega) (by decide), fun q => ?_, fun q => ?_⟩⟩
      · simpa only [sp_least, if_neg (Int32.not_lt.mpr q)] using ih
      · simpa only [sp_least, if_pos (Int32.not_le.mp q)] using ih)
  simp only [tr_X4_leastFirm_0, tm_push, tm_iload, tm_lload, tm_aload, tm_istore, tm_lstore, tm_astore, tm_iinc, tm_un, tm_bin, tm_div, tm_lbin, tm_ldiv, tm_lsh, tm_lcmp, tm_i2l, tm_l2i, tm_dup, tm_pop, tm_if, tm_cmp, tm_getf, tm_puti, tm_putz, tm_putl, tm_iald, tm_iast, tm_zald, tm_zast, tm_aald, tm_iret, tm_zret, tm_lret, tm_aret, tm_vret, tm_swc, tm_tsw, tm_callV, tm_callS, tm_max, tm_min, tm_acp, tm_alen, am_oi, am_ol, am_or, am_pi, am_pj, am_pr, am_pa, am_yo, am_ya, am_fv, am_fi, am_fl, am_rv, am_n2, am_pv, am_cs, Value.category, List.getElem?_cons_zero, List.getElem?_cons_succ, List.set_cons_zero, List.set_cons_succ, List.length_cons, List.length_nil, List.drop_succ_cons, List.drop_zero, List.take_succ_cons, List.take_zero, List.take_nil, List.reverse_cons, List.reverse_nil, List.nil_append, List.cons_append, List.append_nil, true_and, and_true, Int.reduceAdd, am_o0, am_o1, am_o2, am_o3, am_o4, am_o5, am_o6, am_o7, am_o8, am_o9, am_o10, am_o11, am_o12, am_o13, am_o14, am_o15, am_o16, am_o17, am_o18, am_o19, am_o20, am_o21, am_o22, am_o23, am_o24, am_o25, am_o26, am_o27, Nat.reduceAdd, Nat.reduceLeDiff, Nat.reduceLT, Nat.zero_le]
  exact loop 0 (by decide)
set_option maxHeartbeats 4000000 in
set_option maxRecDepth 100000 in
theorem c_X4_firmTogether (hw : am_walk Y b) (hR : am_RW h b w) (hK : K [.int (sp_sum (w 1) 32)] Y h) : am_Met d 0 0 YX4_firmTogether [.ref b] Y h K := by
  refine en_X4_firmTogether fun X F hr => ?_
  obtain ⟨w0, w1, w2, w3, w4, w5, w6, w7, w8⟩ := hw
  have loop := am_for (P := fun i => am_At X (am_MQ X K 0 0) 3 0 0 4 [.ref b, .int (sp_sum (w 1) i), .int (nI i)] [] Y h) 32
    (by
      refine sd_X4_firmTogether_4 F hr _ _ _ _ ?_
      simp only [tr_X4_firmTogether_4, tr_X4_firmTogether_25, tr_X4_firmTogether_10, w0, w1, tm_push, tm_iload, tm_lload, tm_aload, tm_istore, tm_lstore, tm_astore, tm_iinc, tm_un, tm_bin, tm_div, tm_lbin, tm_ldiv, tm_lsh, tm_lcmp, tm_i2l, tm_l2i, tm_dup, tm_pop, tm_if, tm_cmp, tm_getf, tm_puti, tm_putz, tm_putl, tm_iald, tm_iast, tm_zald, tm_zast, tm_aald, tm_iret, tm_zret, tm_lret, tm_aret, tm_vret, tm_swc, tm_tsw, tm_callV, tm_callS, tm_max, tm_min, tm_acp, tm_alen, am_oi, am_ol, am_or, am_pi, am_pj, am_pr, am_pa, am_yo, am_ya, am_fv, am_fi, am_fl, am_rv, am_n2, am_pv, am_cs, Value.category, List.getElem?_cons_zero, List.getElem?_cons_succ, List.set_cons_zero, List.set_cons_succ, List.length_cons, List.length_nil, List.drop_succ_cons, List.drop_zero, List.take_succ_cons, List.take_zero, List.take_nil, List.reverse_cons, List.reverse_nil, List.nil_append, List.cons_append, List.append_nil, true_and, and_true, Int.reduceAdd, am_o0, am_o1, am_o2, am_o3, am_o4, am_o5, am_o6, am_o7, am_o8, am_o9, am_o10, am_o11, am_o12, am_o13, am_o14, am_o15, am_o16, am_o17, am_o18, am_o19, am_o20, am_o21, am_o22, am_o23, am_o24, am_o25, am_o26, am_o27, Nat.reduceAdd, Nat.reduceLeDiff, Nat.reduceLT, Nat.zero_le]
      exact ⟨fun _ => hK, fun q => absurd (by decide) q⟩)
    (fun i hi ih => by
      refine sd_X4_firmTogether_4 F hr _ _ _ _ ?_
      simp only [tr_X4_firmTogether_4, tr_X4_firmTogether_25, tr_X4_firmTogether_10, w0, w1, nI_clamp (show i < 2 ^ 31 by omega), hR.1 i hi, nI_1, tm_push, tm_iload, tm_lload, tm_aload, tm_istore, tm_lstore, tm_astore, tm_iinc, tm_un, tm_bin, tm_div, tm_lbin, tm_ldiv, tm_lsh, tm_lcmp, tm_i2l, tm_l2i, tm_dup, tm_pop, tm_if, tm_cmp, tm_getf, tm_puti, tm_putz, tm_putl, tm_iald, tm_iast, tm_zald, tm_zast, tm_aald, tm_iret, tm_zret, tm_lret, tm_aret, tm_vret, tm_swc, tm_tsw, tm_callV, tm_callS, tm_max, tm_min, tm_acp, tm_alen, am_oi, am_ol, am_or, am_pi, am_pj, am_pr, am_pa, am_yo, am_ya, am_fv, am_fi, am_fl, am_rv, am_n2, am_pv, am_cs, Value.category, List.getElem?_cons_zero, List.getElem?_cons_succ, List.set_cons_zero, List.set_cons_succ, List.length_cons, List.length_nil, List.drop_succ_cons, List.drop_zero, List.take_succ_cons, List.take_zero, List.take_nil, List.reverse_cons, List.reverse_nil, List.nil_append, List.cons_append, List.append_nil, true_and, and_true, Int.reduceAdd, am_o0, am_o1, am_o2, am_o3, am_o4, am_o5, am_o6, am_o7, am_o8, am_o9, am_o10, am_o11, am_o12, am_o13, am_o14, am_o15, am_o16, am_o17, am_o18, am_o19, am_o20, am_o21, am_o22, am_o23, am_o24, am_o25, am_o26, am_o27, Nat.reduceAdd, Nat.reduceLeDiff, Nat.reduceLT, Nat.zero_le]
      exact ⟨fun q => absurd ((nI_leI (a := 32) (by omega) (by omega)).mp q) (by omega), fun _ => ⟨vp_in_nI (by omega) (by decide), ih⟩⟩)
  simp only [tr_X4_firmTogether_0, tm_push, tm_iload, tm_lload, tm_aload, tm_istore, tm_lstore, tm_astore, tm_iinc, tm_un, tm_bin, tm_div, tm_lbin, tm_ldiv, tm_lsh, tm_lcmp, tm_i2l, tm_l2i, tm_dup, tm_pop, tm_if, tm_cmp, tm_getf, tm_puti, tm_putz, tm_putl, tm_iald, tm_iast, tm_zald, tm_zast, tm_aald, tm_iret, tm_zret, tm_lret, tm_aret, tm_vret, tm_swc, tm_tsw, tm_callV, tm_callS, tm_max, tm_min, tm_acp, tm_alen, am_oi, am_ol, am_or, am_pi, am_pj, am_pr, am_pa, am_yo, am_ya, am_fv, am_fi, am_fl, am_rv, am_n2, am_pv, am_cs, Value.category, List.getElem?_cons_zero, List.getElem?_cons_succ, List.set_cons_zero, List.set_cons_succ, List.length_cons, List.length_nil, List.drop_succ_cons, List.drop_zero, List.take_succ_cons, List.take_zero, List.take_nil, List.reverse_cons, List.reverse_nil, List.nil_append, List.cons_append, List.append_nil, true_and, and_true, Int.reduceAdd, am_o0, am_o1, am_o2, am_o3, am_o4, am_o5, am_o6, am_o7, am_o8, am_o9, am_o10, am_o11, am_o12, am_o13, am_o14, am_o15, am_o16, am_o17, am_o18, am_o19, am_o20, am_o21, am_o22, am_o23, am_o24, am_o25, am_o26, am_o27, Nat.reduceAdd, Nat.reduceLeDiff, Nat.reduceLT, Nat.zero_le]
  exact loop 0 (by decide)
set_option maxHeartbeats 4000000 in
set_option maxRecDepth 100000 in
theorem c_X4_placesWithout (hw : am_walk Y b) (hR : am_RW h b w) (hK : K [.int (sp_cnt (w 1) 0 32)] Y h) : am_Met d 0 0 YX4_placesWithout [.ref b] Y h K := by
  refine en_X4_placesWithout fun X F hr => ?_
  obtain ⟨w0, w1, w2, w3, w4, w5, w6, w7, w8⟩ := hw
  have loop := am_for (P := fun i => am_At X (am_MQ X K 0 0) 3 0 0 4 [.ref b, .int (sp_cnt (w 1) 0 i), .int (nI i)] [] Y h) 32
    (by
      refine sd_X4_placesWithout_4 F hr _ _ _ _ ?_
      simp only [tr_X4_placesWithout_4, tr_X4_placesWithout_28, tr_X4_placesWithout_10, tr_X4_placesWithout_22, tr_X4_placesWithout_19, w0, w1, tm_push, tm_iload, tm_lload, tm_aload, tm_istore, tm_lstore, tm_astore, tm_iinc, tm_un, tm_bin, tm_div, tm_lbin, tm_ldiv, tm_lsh, tm_lcmp, tm_i2l, tm_l2i, tm_dup, tm_pop, tm_if, tm_cmp, tm_getf, tm_puti, tm_putz, tm_putl, tm_iald, tm_iast, tm_zald, tm_zast, tm_aald, tm_iret, tm_zret, tm_lret, tm_aret, tm_vret, tm_swc, tm_tsw, tm_callV, tm_callS, tm_max, tm_min, tm_acp, tm_alen, am_oi, am_ol, am_or, am_pi, am_pj, am_pr, am_pa, am_yo, am_ya, am_fv, am_fi, am_fl, am_rv, am_n2, am_pv, am_cs, Value.category, List.getElem?_cons_zero, List.getElem?_cons_succ, List.set_cons_zero, List.set_cons_succ, List.length_cons, List.length_nil, List.drop_succ_cons, List.drop_zero, List.take_succ_cons, List.take_zero, List.take_nil, List.reverse_cons, List.reverse_nil, List.nil_append, List.cons_append, List.append_nil, true_and, and_true, Int.reduceAdd, am_o0, am_o1, am_o2, am_o3, am_o4, am_o5, am_o6, am_o7, am_o8, am_o9, am_o10, am_o11, am_o12, am_o13, am_o14, am_o15, am_o16, am_o17, am_o18, am_o19, am_o20, am_o21, am_o22, am_o23, am_o24, am_o25, am_o26, am_o27, Nat.reduceAdd, Nat.reduceLeDiff, Nat.reduceLT, Nat.zero_le]
      exact ⟨fun _ => hK, fun q => absurd (by decide) q⟩)
    (fun i hi ih => by
      refine sd_X4_placesWithout_4 F hr _ _ _ _ ?_
      simp only [tr_X4_placesWithout_4, tr_X4_placesWithout_28, tr_X4_placesWithout_10, tr_X4_placesWithout_22, tr_X4_placesWithout_19, w0, w1, nI_clamp (show i < 2 ^ 31 by omega), hR.1 i hi, nI_1, tm_push, tm_iload, tm_lload, tm_aload, tm_istore, tm_lstore, tm_astore, tm_iinc, tm_un, tm_bin, tm_div, tm_lbin, tm_ldiv, tm_lsh, tm_lcmp, tm_i2l, tm_l2i, tm_dup, tm_pop, tm_if, tm_cmp, tm_getf, tm_puti, tm_putz, tm_putl, tm_iald, tm_iast, tm_zald, tm_zast, tm_aald, tm_iret, tm_zret, tm_lret, tm_aret, tm_vret, tm_swc, tm_tsw, tm_callV, tm_callS, tm_max, tm_min, tm_acp, tm_alen, am_oi, am_ol, am_or, am_pi, am_pj, am_pr, am_pa, am_yo, am_ya, am_fv, am_fi, am_fl, am_rv, am_n2, am_pv, am_cs, Value.category, List.getElem?_cons_zero, List.getElem?_cons_succ, List.set_cons_zero, List.set_cons_succ, List.length_cons, List.length_nil, List.drop_succ_cons, List.drop_zero, List.take_succ_cons, List.take_zero, List.take_nil, List.reverse_cons, List.reverse_nil, List.nil_append, List.cons_append, List.append_nil, true_and, and_true, Int.reduceAdd, am_o0, am_o1, am_o2, am_o3, am_o4, am_o5, am_o6, am_o7, am_o8, am_o9, am_o10, am_o11, am_o12, am_o13, am_o14, am_o15, am_o16, am_o17, am_o18, am_o19, am_o20, am_o21, am_o22, am_o23, am_o24, am_o25, am_o26, am_o27, Nat.reduceAdd, Nat.reduceLeDiff, Nat.reduceLT, Nat.zero_le]
      refine ⟨fun q => absurd ((nI_leI (a := 32) (by omega) (by omega)).mp q) (by omega), fun _ => ⟨vp_in_nI (by omega) (by decide), fun q => ?_, fun q => ?_⟩⟩
      · simpa only [sp_cnt, if_pos q] using ih
      · simpa only [sp_cnt, if_neg q] using ih)
  simp only [tr_X4_placesWithout_0, tm_push, tm_iload, tm_lload, tm_aload, tm_istore, tm_lstore, tm_astore, tm_iinc, tm_un, tm_bin, tm_div, tm_lbin, tm_ldiv, tm_lsh, tm_lcmp, tm_i2l, tm_l2i, tm_dup, tm_pop, tm_if, tm_cmp, tm_getf, tm_puti, tm_putz, tm_putl, tm_iald, tm_iast, tm_zald, tm_zast, tm_aald, tm_iret, tm_zret, tm_lret, tm_aret, tm_vret, tm_swc, tm_tsw, tm_callV, tm_callS, tm_max, tm_min, tm_acp, tm_alen, am_oi, am_ol, am_or, am_pi, am_pj, am_pr, am_pa, am_yo, am_ya, am_fv, am_fi, am_fl, am_rv, am_n2, am_pv, am_cs, Value.category, List.getElem?_cons_zero, List.getElem?_cons_succ, List.set_cons_zero, List.set_cons_succ, List.length_cons, List.length_nil, List.drop_succ_cons, List.drop_zero, List.take_succ_cons, List.take_zero, List.take_nil, List.reverse_cons, List.reverse_nil, List.nil_append, List.cons_append, List.append_nil, true_and, and_true, Int.reduceAdd, am_o0, am_o1, am_o2, am_o3, am_o4, am_o5, am_o6, am_o7, am_o8, am_o9, am_o10, am_o11, am_o12, am_o13, am_o14, am_o15, am_o16, am_o17, am_o18, am_o19, am_o20, am_o21, am_o22, am_o23, am_o24, am_o25, am_o26, am_o27, Nat.reduceAdd, Nat.reduceLeDiff, Nat.reduceLT, Nat.zero_le]
  exact loop 0 (by decide)
end CON
