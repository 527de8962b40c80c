def sp_fits (z : Nat) (i m : Int32) : Bool := decide (0 ≤ i.toInt ∧ 0 ≤ m.toInt ∧ i.toInt + m.toInt ≤ z)
theorem sp_fits_t {z a b : Nat} (hz : z ≤ 40) (h : a + b ≤ z) : sp_fits z (nI a) (nI b) = true := by
  refine decide_eq_true ?_
  rw [am_nI (by omega), am_nI (by omega)]
  omega
theorem sp_fits_o {z : Nat} {i m : Int32} (hz : z ≤ 40) (h : sp_fits z i m = true) : ∃ a b, i = nI a ∧ m = nI b ∧ a + b ≤ z := by
  have h' : 0 ≤ i.toInt ∧ 0 ≤ m.toInt ∧ i.toInt + m.toInt ≤ z := of_decide_eq_true h
  have hi : vp_in i 41 := by rw [am_in]; omega
  have hm : vp_in m 41 := by rw [am_in]; omega
  have e1 := am_in_nI hi
  have e2 := am_in_nI hm
  have t1 := am_in_tn hi
  have t2 := am_in_tn hm
  refine ⟨_, _, e1, e2, ?_⟩
  rw [e1, e2, am_nI (by omega), am_nI (by omega)] at h'
  omega
theorem sp_fits_f {z : Nat} {i m : Int32} (h : ∀ a b, i = nI a → m = nI b → ¬ a + b ≤ z) (hz : z ≤ 40) : sp_fits z i m = false := by
  cases hq : sp_fits z i m with
  | false => rfl
  | true =>
    obtain ⟨a, b, e1, e2, h3⟩ := sp_fits_o hz hq
    exact absurd h3 (h a b e1 e2)
def sp_copy (s : am_S) (a i b j m : Int32) : am_S × Int32 := if am_is 4 a = true then (if am_is 4 b = true then (if s.so a.toNatClampNeg = -1 then (s, -11) else if s.so b.toNatClampNeg = -1 then (s, -11) else if s.so a.toNatClampNeg = s.so b.toNatClampNeg then (if sp_fits (s.sz a.toNatClampNeg) i m = true then (if sp_fits (s.sz b.toNatClampNeg) j m = true then (s.ss s.so s.sz (am_cp s.it a.toNatClampNeg b.toNatClampNeg i.toNatClampNeg j.toNatClampNeg m.toNatClampNeg), m) else (s, -12)) else (s, -12)) else (s, -13)) else (s, -2)) else (s, -2)
theorem am_Cs.cp {h : am_H} {so : Nat → Int32} {sz : Nat → Nat} {it : Nat → Nat → Int32} (g : am_Cs h so sz it) {k l i j m : Nat} (hk : k < 4) (hso : so k ≠ -1) (hi : i + m ≤ sz k) : am_Cs (am_cp h (42 + 2 * k) (42 + 2 * l) i j m) so sz (am_cp it k l i j m) := by
  intro c hc
  obtain ⟨g1, g2, g3⟩ := g c hc
  obtain ⟨f1, f2, f3⟩ := g k hk
  refine ⟨by rw [am_cp_ne (by omega)]; exact g1, by rw [am_cp_ne (by omega)]; exact g2, fun hs e he => ?_⟩
  by_cases q : c = l
  · subst q
    simp only [am_cp, if_true]
    split
    · rename_i hq
      exact f3 hso _ (by omega)
    · exact g3 hs e he
  · rw [am_cp_ne (by omega), am_cp_ne q]
    exact g3 hs e he
section CON
variable {d n : Nat} {Y : List am_C} {h w : am_H} {s : am_S} {K : List Value → List am_C → am_H → Prop}
set_option maxHeartbeats 4000000 in
set_option maxRecDepth 100000 in
theorem c_X1_holds {k : Nat} {i m : Int32} (hk : k < 4) (hC : am_Cl Y h s) (hso : ¬ s.so k = -1) (hz : s.sz k ≤ 40) (h1 : ∀ a b, i = nI a → m = nI b → a + b ≤ s.sz k → K [.int 1] Y h) (h0 : sp_fits (s.sz k) i m = false → K [.int 0] Y h) : am_Met d 0 0 YX1_holds [.ref (41 + 2 * k), .int i, .int m] Y h K := by
  refine en_X1_holds fun X F hr => ?_
  obtain ⟨o0, o1, o2, o3, o35, o36, o37, o38, o39, o40, o41⟩ := id hC.1
  obtain ⟨y1, y2⟩ := o41 k hk
  obtain ⟨g1, g2, g3⟩ := hC.2.2.2.2.2 k hk
  rw [if_neg hso] at g2
  simp only [te_X1_holds_0, te_X1_holds_4, te_X1_holds_8, te_X1_holds_30, te_X1_holds_31, te_X1_holds_16, te_X1_holds_26, y1, g2, Int32.reduceLT, Int32.reduceLE, eq_self, am_10, am_00, am_01, am_11, true_implies, false_implies, not_true_eq_false, not_false_eq_true, or_true, true_or, and_self, implies_true, qtm_push, qtm_iload, qtm_lload, qtm_aload, qtm_istore, qtm_lstore, qtm_astore, qtm_iinc, qtm_un, qtm_bin, qtm_div, qtm_lbin, qtm_ldiv, qtm_lsh, qtm_lcmp, qtm_i2l, qtm_l2i, qtm_if, qtm_cmp, qtm_getf, qtm_puti, qtm_putz, qtm_putl, qtm_iald, qtm_iast, qtm_zald, qtm_zast, qtm_aald, qtm_tsw, qtm_callV, qtm_callS, qtm_acp, qtm_alen, qtm_max, qtm_min, qtm_dup, qtm_pop, qtm_iret, qtm_zret, qtm_lret, qtm_aret, qtm_vret, qtm_swn, qtm_swc, am_oi_c, am_ol_c, am_or_r, am_or_f, am_pi_c, am_pj_c, am_pr_c, am_pa_r, am_pa_f, am_yo_c, am_ya_c, am_fv_i, am_fv_l, am_fv_r, am_fi_c, am_fl_c, am_rv_c, am_n2_s, am_n2_n, am_pv_0, am_pv_s, am_cs_n, am_cs_c, Value.category, List.getElem?_cons_zero, List.getElem?_cons_succ, List.set_cons_zero, List.set_cons_succ, List.length_cons, List.length_nil, List.drop_succ_cons, List.drop_zero, List.take_succ_cons, List.take_zero, List.take_nil, List.reverse_cons, List.reverse_nil, List.nil_append, List.cons_append, List.append_nil, true_and, and_true, Int.reduceAdd, am_o0, am_o1, am_o2, am_o3, am_o4, am_o5, am_o6, am_o7, am_o8, am_o9, am_o10, am_o11, am_o12, am_o13, am_o14, am_o15, am_o16, am_o17, am_o18, am_o19, am_o20, am_o21, am_o22, am_o23, am_o24, am_o25, am_o26, am_o27, Nat.reduceAdd, Nat.reduceLeDiff, Nat.reduceLT, Nat.zero_le]
  refine ⟨fun z => h0 (sp_fits_f (fun a b e1 e2 h3 => ?_) hz), fun z1 => ⟨fun z => h0 (sp_fits_f (fun a b e1 e2 h3 => ?_) hz), fun z2 => ⟨fun z => h0 (sp_fits_f (fun a b e1 e2 h3 => ?_) hz), fun z3 => ⟨fun z => h0 (sp_fits_f (fun a b e1 e2 h3 => ?_) hz), fun z4 => ?_⟩⟩⟩⟩
  · rw [e1] at z
    exact absurd z (nI_pos (by omega))
  · rw [e2] at z
    exact absurd z (nI_pos (by omega))
  · rw [e2] at z
    have := (nI_ltI (by omega) (by omega)).mp z
    omega
  · rw [e1, e2, pk_sub (by omega)] at z
    have := (nI_ltI (by omega) (by omega)).mp z
    omega
  · obtain ⟨a, ha, rfl⟩ := nI_of z1
    obtain ⟨b, hb, rfl⟩ := nI_of z2
    have hb2 : b ≤ s.sz k := Nat.not_lt.mp fun y => z3 ((nI_ltI (by omega) hb).mpr y)
    rw [pk_sub hb2] at z4
    have ha2 : a ≤ s.sz k - b := Nat.not_lt.mp fun y => z4 ((nI_ltI (by omega) ha).mpr y)
    exact h1 a b rfl rfl (by omega)
set_option maxHeartbeats 4000000 in
set_option maxRecDepth 100000 in
theorem o_X5_copy {a i b j m : Int32} (hd : 2 ≤ d) (hC : am_Cl Y h s) (hI : am_I s) (hK : ∀ h1, am_fC h h1 → am_Cl Y h1 (sp_copy s a i b j m).1 → K [.int (sp_copy s a i b j m).2] Y h1) : am_Met d 0 0 YX5_copy [.ref 0, .int a, .int i, .int b, .int j, .int m] Y h K := by
  refine en_X5_copy fun X F hr => ?_
  obtain ⟨o0, o1, o2, o3, o35, o36, o37, o38, o39, o40, o41⟩ := id hC.1
  unfold sp_copy at hK
  simp only [te_X5_copy_0, te_X5_copy_7, te_X5_copy_17, te_X5_copy_51, te_X5_copy_42, te_X5_copy_54, te_X5_copy_70, te_X5_copy_93, te_X5_copy_81, te_X5_copy_96, te_X5_copy_67, te_X5_copy_14, o0, Int32.reduceLT, Int32.reduceLE, eq_self, am_10, am_00, am_01, am_11, true_implies, false_implies, not_true_eq_false, not_false_eq_true, or_true, true_or, and_self, implies_true, qtm_push, qtm_iload, qtm_lload, qtm_aload, qtm_istore, qtm_lstore, qtm_astore, qtm_iinc, qtm_un, qtm_bin, qtm_div, qtm_lbin, qtm_ldiv, qtm_lsh, qtm_lcmp, qtm_i2l, qtm_l2i, qtm_if, qtm_cmp, qtm_getf, qtm_puti, qtm_putz, qtm_putl, qtm_iald, qtm_iast, qtm_zald, qtm_zast, qtm_aald, qtm_tsw, qtm_callV, qtm_callS, qtm_acp, qtm_alen, qtm_max, qtm_min, qtm_dup, qtm_pop, qtm_iret, qtm_zret, qtm_lret, qtm_aret, qtm_vret, qtm_swn, qtm_swc, am_oi_c, am_ol_c, am_or_r, am_or_f, am_pi_c, am_pj_c, am_pr_c, am_pa_r, am_pa_f, am_yo_c, am_ya_c, am_fv_i, am_fv_l, am_fv_r, am_fi_c, am_fl_c, am_rv_c, am_n2_s, am_n2_n, am_pv_0, am_pv_s, am_cs_n, am_cs_c, Value.category, List.getElem?_cons_zero, List.getElem?_cons_succ, List.set_cons_zero, List.set_cons_succ, List.length_cons, List.length_nil, List.drop_succ_cons, List.drop_zero, List.take_succ_cons, List.take_zero, List.take_nil, List.reverse_cons, List.reverse_nil, List.nil_append, List.cons_append, List.append_nil, true_and, and_true, Int.reduceAdd, am_o0, am_o1, am_o2, am_o3, am_o4, am_o5, am_o6, am_o7, am_o8, am_o9, am_o10, am_o11, am_o12, am_o13, am_o14, am_o15, am_o16, am_o17, am_o18, am_o19, am_o20, am_o21, am_o22, am_o23, am_o24, am_o25, am_o26, am_o27, Nat.reduceAdd, Nat.reduceLeDiff, Nat.reduceLT, Nat.zero_le]
  refine ⟨by omega, c_X5_isSheet (fun q => ?_) (fun q => ?_)⟩
  · rw [if_pos q] at hK
    simp only [o0, Int32.reduceLT, Int32.reduceLE, eq_self, am_10, am_00, am_01, am_11, true_implies, false_implies, not_true_eq_false, not_false_eq_true, or_true, true_or, and_self, implies_true, qtm_push, qtm_iload, qtm_lload, qtm_aload, qtm_istore, qtm_lstore, qtm_astore, qtm_iinc, qtm_un, qtm_bin, qtm_div, qtm_lbin, qtm_ldiv, qtm_lsh, qtm_lcmp, qtm_i2l, qtm_l2i, qtm_if, qtm_cmp, qtm_getf, qtm_puti, qtm_putz, qtm_putl, qtm_iald, qtm_iast, qtm_zald, qtm_zast, qtm_aald, qtm_tsw, qtm_callV, qtm_callS, qtm_acp, qtm_alen, qtm_max, qtm_min, qtm_dup, qtm_pop, qtm_iret, qtm_zret, qtm_lret, qtm_aret, qtm_vret, qtm_swn, qtm_swc, am_oi_c, am_ol_c, am_or_r, am_or_f, am_pi_c, am_pj_c, am_pr_c, am_pa_r, am_pa_f, am_yo_c, am_ya_c, am_fv_i, am_fv_l, am_fv_r, am_fi_c, am_fl_c, am_rv_c, am_n2_s, am_n2_n, am_pv_0, am_pv_s, am_cs_n, am_cs_c, Value.category, List.getElem?_cons_zero, List.getElem?_cons_succ, List.set_cons_zero, List.set_cons_succ, List.length_cons, List.length_nil, List.drop_succ_cons, List.drop_zero, List.take_succ_cons, List.take_zero, List.take_nil, List.reverse_cons, List.reverse_nil, List.nil_append, List.cons_append, List.append_nil, true_and, and_true, Int.reduceAdd, am_o0, am_o1, am_o2, am_o3, am_o4, am_o5, am_o6, am_o7, am_o8, am_o9, am_o10, am_o11, am_o12, am_o13, am_o14, am_o15, am_o16, am_o17, am_o18, am_o19, am_o20, am_o21, am_o22, am_o23, am_o24, am_o25, am_o26, am_o27, Nat.reduceAdd, Nat.reduceLeDiff, Nat.reduceLT, Nat.zero_le]
    refine ⟨by omega, c_X5_isSheet (fun q2 => ?_) (fun q2 => ?_)⟩
    · rw [if_pos q2] at hK
      obtain ⟨k, hk, rfl⟩ := am_is_o (by decide) q
      obtain ⟨y1, y2⟩ := o41 k hk
      obtain ⟨g1, g2, g3⟩ := hC.2.2.2.2.2 k hk
      obtain ⟨l, hl, rfl⟩ := am_is_o (by decide) q2
      obtain ⟨z1, z2⟩ := o41 l hl
      obtain ⟨f1, f2, f3⟩ := hC.2.2.2.2.2 l hl
      have hz := (hI.2.2.2.2.2.2.1 k hk).1
      have hz2 := (hI.2.2.2.2.2.2.1 l hl).1
      rw [nI_clamp (show k < 2 ^ 31 by omega), nI_clamp (show l < 2 ^ 31 by omega)] at hK
      simp only [o0, o39, nI_clamp (show k < 2 ^ 31 by omega), am_shr hk, y1, y2, g1, nI_clamp (show l < 2 ^ 31 by omega), am_shr hl, z1, z2, f1, Int32.reduceLT, Int32.reduceLE, eq_self, am_10, am_00, am_01, am_11, true_implies, false_implies, not_true_eq_false, not_false_eq_true, or_true, true_or, and_self, implies_true, qtm_push, qtm_iload, qtm_lload, qtm_aload, qtm_istore, qtm_lstore, qtm_astore, qtm_iinc, qtm_un, qtm_bin, qtm_div, qtm_lbin, qtm_ldiv, qtm_lsh, qtm_lcmp, qtm_i2l, qtm_l2i, qtm_if, qtm_cmp, qtm_getf, qtm_puti, qtm_putz, qtm_putl, qtm_iald, qtm_iast, qtm_zald, qtm_zast, qtm_aald, qtm_tsw, qtm_callV, qtm_callS, qtm_acp, qtm_alen, qtm_max, qtm_min, qtm_dup, qtm_pop, qtm_iret, qtm_zret, qtm_lret, qtm_aret, qtm_vret, qtm_swn, qtm_swc, am_oi_c, am_ol_c, am_or_r, am_or_f, am_pi_c, am_pj_c, am_pr_c, am_pa_r, am_pa_f, am_yo_c, am_ya_c, am_fv_i, am_fv_l, am_fv_r, am_fi_c, am_fl_c, am_rv_c, am_n2_s, am_n2_n, am_pv_0, am_pv_s, am_cs_n, am_cs_c, Value.category, List.getElem?_cons_zero, List.getElem?_cons_succ, List.set_cons_zero, List.set_cons_succ, List.length_cons, List.length_nil, List.drop_succ_cons, List.drop_zero, List.take_succ_cons, List.take_zero, List.take_nil, List.reverse_cons, List.reverse_nil, List.nil_append, List.cons_append, List.append_nil, true_and, and_true, Int.reduceAdd, am_o0, am_o1, am_o2, am_o3, am_o4, am_o5, am_o6, am_o7, am_o8, am_o9, am_o10, am_o11, am_o12, am_o13, am_o14, am_o15, am_o16, am_o17, am_o18, am_o19, am_o20, am_o21, am_o22, am_o23, am_o24, am_o25, am_o26, am_o27, Nat.reduceAdd, Nat.reduceLeDiff, Nat.reduceLT, Nat.zero_le]
      refine ⟨vp_in_nI hk (by decide), vp_in_nI hl (by decide), fun t => ?_, fun t1 => ⟨fun t => ?_, fun t2 => ⟨fun t3 => ⟨by omega, c_X1_holds hk hC t1 hz (fun x c ex ec hxc => ?_) (fun y => ?_)⟩, fun t => ?_⟩⟩⟩
      · rw [if_pos t] at hK
        exact hK h (am_fC.rf h) hC
      · rw [if_neg t1, if_pos t] at hK
        exact hK h (am_fC.rf h) hC
      · subst ex ec
        rw [if_neg t1, if_neg t2, if_pos t3, if_pos (sp_fits_t hz hxc)] at hK
        simp only [z1, z2, Int32.reduceLT, Int32.reduceLE, eq_self, am_10, am_00, am_01, am_11, true_implies, false_implies, not_true_eq_false, not_false_eq_true, or_true, true_or, and_self, implies_true, qtm_push, qtm_iload, qtm_lload, qtm_aload, qtm_istore, qtm_lstore, qtm_astore, qtm_iinc, qtm_un, qtm_bin, qtm_div, qtm_lbin, qtm_ldiv, qtm_lsh, qtm_lcmp, qtm_i2l, qtm_l2i, qtm_if, qtm_cmp, qtm_getf, qtm_puti, qtm_putz, qtm_putl, qtm_iald, qtm_iast, qtm_zald, qtm_zast, qtm_aald, qtm_tsw, qtm_callV, qtm_callS, qtm_acp, qtm_alen, qtm_max, qtm_min, qtm_dup, qtm_pop, qtm_iret, qtm_zret, qtm_lret, qtm_aret, qtm_vret, qtm_swn, qtm_swc, am_oi_c, am_ol_c, am_or_r, am_or_f, am_pi_c, am_pj_c, am_pr_c, am_pa_r, am_pa_f, am_yo_c, am_ya_c, am_fv_i, am_fv_l, am_fv_r, am_fi_c, am_fl_c, am_rv_c, am_n2_s, am_n2_n, am_pv_0, am_pv_s, am_cs_n, am_cs_c, Value.category, List.getElem?_cons_zero, List.getElem?_cons_succ, List.set_cons_zero, List.set_cons_succ, List.length_cons, List.length_nil, List.drop_succ_cons, List.drop_zero, List.take_succ_cons, List.take_zero, List.take_nil, List.reverse_cons, List.reverse_nil, List.nil_append, List.cons_append, List.append_nil, true_and, and_true, Int.reduceAdd, am_o0, am_o1, am_o2, am_o3, am_o4, am_o5, am_o6, am_o7, am_o8, am_o9, am_o10, am_o11, am_o12, am_o13, am_o14, am_o15, am_o16, am_o17, am_o18, am_o19, am_o20, am_o21, am_o22, am_o23, am_o24, am_o25, am_o26, am_o27, Nat.reduceAdd, Nat.reduceLeDiff, Nat.reduceLT, Nat.zero_le]
        refine ⟨by omega, c_X1_holds hl hC t2 hz2 (fun x2 c2 ex2 ec2 hxc2 => ?_) (fun y => ?_)⟩
        · subst ex2
          have : c2 = c := by
            by_cases hc2 : c2 < 2 ^ 31
            · exact ((nI_eq (by omega) hc2).mp ec2).symm
            · omega
          subst this
          rw [if_pos (sp_fits_t hz2 hxc2), nI_clamp (by omega), nI_clamp (by omega), nI_clamp (by omega)] at hK
          simp only [y1, y2, z1, z2, nI_clamp (show x < 2 ^ 31 by omega), nI_clamp (show x2 < 2 ^ 31 by omega), nI_clamp (show c2 < 2 ^ 31 by omega), Int32.reduceLT, Int32.reduceLE, eq_self, am_10, am_00, am_01, am_11, true_implies, false_implies, not_true_eq_false, not_false_eq_true, or_true, true_or, and_self, implies_true, qtm_push, qtm_iload, qtm_lload, qtm_aload, qtm_istore, qtm_lstore, qtm_astore, qtm_iinc, qtm_un, qtm_bin, qtm_div, qtm_lbin, qtm_ldiv, qtm_lsh, qtm_lcmp, qtm_i2l, qtm_l2i, qtm_if, qtm_cmp, qtm_getf, qtm_puti, qtm_putz, qtm_putl, qtm_iald, qtm_iast, qtm_zald, qtm_zast, qtm_aald, qtm_tsw, qtm_callV, qtm_callS, qtm_acp, qtm_alen, qtm_max, qtm_min, qtm_dup, qtm_pop, qtm_iret, qtm_zret, qtm_lret, qtm_aret, qtm_vret, qtm_swn, qtm_swc, am_oi_c, am_ol_c, am_or_r, am_or_f, am_pi_c, am_pj_c, am_pr_c, am_pa_r, am_pa_f, am_yo_c, am_ya_c, am_fv_i, am_fv_l, am_fv_r, am_fi_c, am_fl_c, am_rv_c, am_n2_s, am_n2_n, am_pv_0, am_pv_s, am_cs_n, am_cs_c, Value.category, List.getElem?_cons_zero, List.getElem?_cons_succ, List.set_cons_zero, List.set_cons_succ, List.length_cons, List.length_nil, List.drop_succ_cons, List.drop_zero, List.take_succ_cons, List.take_zero, List.take_nil, List.reverse_cons, List.reverse_nil, List.nil_append, List.cons_append, List.append_nil, true_and, and_true, Int.reduceAdd, am_o0, am_o1, am_o2, am_o3, am_o4, am_o5, am_o6, am_o7, am_o8, am_o9, am_o10, am_o11, am_o12, am_o13, am_o14, am_o15, am_o16, am_o17, am_o18, am_o19, am_o20, am_o21, am_o22, am_o23, am_o24, am_o25, am_o26, am_o27, Nat.reduceAdd, Nat.reduceLeDiff, Nat.reduceLT, Nat.zero_le]
          refine ⟨by omega, nI_pos (by omega), nI_pos (by omega), nI_pos (by omega), by omega, by omega, ?_⟩
          exact hK _ (fun e e1 e2 => am_cp_ne (by omega)) (hC.ss (fun e he => am_cp_ne (by omega)) (hC.2.2.2.2.2.cp hk t1 hxc))
        · rw [if_neg (by rw [y]; decide)] at hK
          simp only [Int32.reduceLT, Int32.reduceLE, eq_self, am_10, am_00, am_01, am_11, true_implies, false_implies, not_true_eq_false, not_false_eq_true, or_true, true_or, and_self, implies_true, qtm_push, qtm_iload, qtm_lload, qtm_aload, qtm_istore, qtm_lstore, qtm_astore, qtm_iinc, qtm_un, qtm_bin, qtm_div, qtm_lbin, qtm_ldiv, qtm_lsh, qtm_lcmp, qtm_i2l, qtm_l2i, qtm_if, qtm_cmp, qtm_getf, qtm_puti, qtm_putz, qtm_putl, qtm_iald, qtm_iast, qtm_zald, qtm_zast, qtm_aald, qtm_tsw, qtm_callV, qtm_callS, qtm_acp, qtm_alen, qtm_max, qtm_min, qtm_dup, qtm_pop, qtm_iret, qtm_zret, qtm_lret, qtm_aret, qtm_vret, qtm_swn, qtm_swc, am_oi_c, am_ol_c, am_or_r, am_or_f, am_pi_c, am_pj_c, am_pr_c, am_pa_r, am_pa_f, am_yo_c, am_ya_c, am_fv_i, am_fv_l, am_fv_r, am_fi_c, am_fl_c, am_rv_c, am_n2_s, am_n2_n, am_pv_0, am_pv_s, am_cs_n, am_cs_c, Value.category, List.getElem?_cons_zero, List.getElem?_cons_succ, List.set_cons_zero, List.set_cons_succ, List.length_cons, List.length_nil, List.drop_succ_cons, List.drop_zero, List.take_succ_cons, List.take_zero, List.take_nil, List.reverse_cons, List.reverse_nil, List.nil_append, List.cons_append, List.append_nil, true_and, and_true, Int.reduceAdd, am_o0, am_o1, am_o2, am_o3, am_o4, am_o5, am_o6, am_o7, am_o8, am_o9, am_o10, am_o11, am_o12, am_o13, am_o14, am_o15, am_o16, am_o17, am_o18, am_o19, am_o20, am_o21, am_o22, am_o23, am_o24, am_o25, am_o26, am_o27, Nat.reduceAdd, Nat.reduceLeDiff, Nat.reduceLT, Nat.zero_le]
          exact hK h (am_fC.rf h) hC
      · rw [if_neg t1, if_neg t2, if_pos t3, if_neg (by rw [y]; decide)] at hK
        simp only [Int32.reduceLT, Int32.reduceLE, eq_self, am_10, am_00, am_01, am_11, true_implies, false_implies, not_true_eq_false, not_false_eq_true, or_true, true_or, and_self, implies_true, qtm_push, qtm_iload, qtm_lload, qtm_aload, qtm_istore, qtm_lstore, qtm_astore, qtm_iinc, qtm_un, qtm_bin, qtm_div, qtm_lbin, qtm_ldiv, qtm_lsh, qtm_lcmp, qtm_i2l, qtm_l2i, qtm_if, qtm_cmp, qtm_getf, qtm_puti, qtm_putz, qtm_putl, qtm_iald, qtm_iast, qtm_zald, qtm_zast, qtm_aald, qtm_tsw, qtm_callV, qtm_callS, qtm_acp, qtm_alen, qtm_max, qtm_min, qtm_dup, qtm_pop, qtm_iret, qtm_zret, qtm_lret, qtm_aret, qtm_vret, qtm_swn, qtm_swc, am_oi_c, am_ol_c, am_or_r, am_or_f, am_pi_c, am_pj_c, am_pr_c, am_pa_r, am_pa_f, am_yo_c, am_ya_c, am_fv_i, am_fv_l, am_fv_r, am_fi_c, am_fl_c, am_rv_c, am_n2_s, am_n2_n, am_pv_0, am_pv_s, am_cs_n, am_cs_c, Value.category, List.getElem?_cons_zero, List.getElem?_cons_succ, List.set_cons_zero, List.set_cons_succ, List.length_cons, List.length_nil, List.drop_succ_cons, List.drop_zero, List.take_succ_cons, List.take_zero, List.take_nil, List.reverse_cons, List.reverse_nil, List.nil_append, List.cons_append, List.append_nil, true_and, and_true, Int.reduceAdd, am_o0, am_o1, am_o2, am_o3, am_o4, am_o5, am_o6, am_o7, am_o8, am_o9, am_o10, am_o11, am_o12, am_o13, am_o14, am_o15, am_o16, am_o17, am_o18, am_o19, am_o20, am_o21, am_o22, am_o23, am_o24, am_o25, am_o26, am_o27, Nat.reduceAdd, Nat.reduceLeDiff, Nat.reduceLT, Nat.zero_le]
        exact hK h (am_fC.rf h) hC
      · rw [if_neg t1, if_neg t2, if_neg t] at hK
        exact hK h (am_fC.rf h) hC
    · rw [if_neg (by rw [q2]; decide)] at hK
      simp only [Int32.reduceLT, Int32.reduceLE, eq_self, am_10, am_00, am_01, am_11, true_implies, false_implies, not_true_eq_false, not_false_eq_true, or_true, true_or, and_self, implies_true, qtm_push, qtm_iload, qtm_lload, qtm_aload, qtm_istore, qtm_lstore, qtm_astore, qtm_iinc, qtm_un, qtm_bin, qtm_div, qtm_lbin, qtm_ldiv, qtm_lsh, qtm_lcmp, qtm_i2l, qtm_l2i, qtm_if, qtm_cmp, qtm_getf, qtm_puti, qtm_putz, qtm_putl, qtm_iald, qtm_iast, qtm_zald, qtm_zast, qtm_aald, qtm_tsw, qtm_callV, qtm_callS, qtm_acp, qtm_alen, qtm_max, qtm_min, qtm_dup, qtm_pop, qtm_iret, qtm_zret, qtm_lret, qtm_aret, qtm_vret, qtm_swn, qtm_swc, am_oi_c, am_ol_c, am_or_r, am_or_f, am_pi_c, am_pj_c, am_pr_c, am_pa_r, am_pa_f, am_yo_c, am_ya_c, am_fv_i, am_fv_l, am_fv_r, am_fi_c, am_fl_c, am_rv_c, am_n2_s, am_n2_n, am_pv_0, am_pv_s, am_cs_n, am_cs_c, Value.category, List.getElem?_cons_zero, List.getElem?_cons_succ, List.set_cons_zero, List.set_cons_succ, List.length_cons, List.length_nil, List.drop_succ_cons, List.drop_zero, List.take_succ_cons, List.take_zero, List.take_nil, List.reverse_cons, List.reverse_nil, List.nil_append, List.cons_append, List.append_nil, true_and, and_true, Int.reduceAdd, am_o0, am_o1, am_o2, am_o3, am_o4, am_o5, am_o6, am_o7, am_o8, am_o9, am_o10, am_o11, am_o12, am_o13, am_o14, am_o15, am_o16, am_o17, am_o18, am_o19, am_o20, am_o21, am_o22, am_o23, am_o24, am_o25, am_o26, am_o27, Nat.reduceAdd, Nat.reduceLeDiff, Nat.reduceLT, Nat.zero_le]
      exact hK h (am_fC.rf h) hC
  · rw [if_neg (by rw [q]; decide)] at hK
    simp only [Int32.reduceLT, Int32.reduceLE, eq_self, am_10, am_00, am_01, am_11, true_implies, false_implies, not_true_eq_false, not_false_eq_true, or_true, true_or, and_self, implies_true, qtm_push, qtm_iload, qtm_lload, qtm_aload, qtm_istore, qtm_lstore, qtm_astore, qtm_iinc, qtm_un, qtm_bin, qtm_div, qtm_lbin, qtm_ldiv, qtm_lsh, qtm_lcmp, qtm_i2l, qtm_l2i, qtm_if, qtm_cmp, qtm_getf, qtm_puti, qtm_putz, qtm_putl, qtm_iald, qtm_iast, qtm_zald, qtm_zast, qtm_aald, qtm_tsw, qtm_callV, qtm_callS, qtm_acp, qtm_alen, qtm_max, qtm_min, qtm_dup, qtm_pop, qtm_iret, qtm_zret, qtm_lret, qtm_aret, qtm_vret, qtm_swn, qtm_swc, am_oi_c, am_ol_c, am_or_r, am_or_f, am_pi_c, am_pj_c, am_pr_c, am_pa_r, am_pa_f, am_yo_c, am_ya_c, am_fv_i, am_fv_l, am_fv_r, am_fi_c, am_fl_c, am_rv_c, am_n2_s, am_n2_n, am_pv_0, am_pv_s, am_cs_n, am_cs_c, Value.category, List.getElem?_cons_zero, List.getElem?_cons_succ, List.set_cons_zero, List.set_cons_succ, List.length_cons, List.length_nil, List.drop_succ_cons, List.drop_zero, List.take_succ_cons, List.take_zero, List.take_nil, List.reverse_cons, List.reverse_nil, List.nil_append, List.cons_append, List.append_nil, true_and, and_true, Int.reduceAdd, am_o0, am_o1, am_o2, am_o3, am_o4, am_o5, am_o6, am_o7, am_o8, am_o9, am_o10, am_o11, am_o12, am_o13, am_o14, am_o15, am_o16, am_o17, am_o18, am_o19, am_o20, am_o21, am_o22, am_o23, am_o24, am_o25, am_o26, am_o27, Nat.reduceAdd, Nat.reduceLeDiff, Nat.reduceLT, Nat.zero_le]
    exact hK h (am_fC.rf h) hC
end CON
