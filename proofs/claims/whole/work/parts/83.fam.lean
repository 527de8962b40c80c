/-- people come out of a sheet: e are still wanted, q have been read -/
def sp_famN (k : Nat) (a : Int32) : Nat → Nat → Nat → am_S → am_S × Int32
  | 0, _, came, s => (s, nI came)
  | e + 1, q, came, s => if sp_fits (s.sz k) a (nI (3 * q + 3)) = true then (if 0 ≤ (sp_person s (s.it k (a.toNatClampNeg + 3 * q)) (s.it k (a.toNatClampNeg + 3 * q + 1)) (s.it k (a.toNatClampNeg + 3 * q + 2))).2 then sp_famN k a e (q + 1) (came + 1) (sp_person s (s.it k (a.toNatClampNeg + 3 * q)) (s.it k (a.toNatClampNeg + 3 * q + 1)) (s.it k (a.toNatClampNeg + 3 * q + 2))).1 else sp_famN k a e (q + 1) came (sp_person s (s.it k (a.toNatClampNeg + 3 * q)) (s.it k (a.toNatClampNeg + 3 * q + 1)) (s.it k (a.toNatClampNeg + 3 * q + 2))).1) else (s, -12)
def sp_family (s : am_S) (c so1 a m : Int32) : am_S × Int32 := if am_is 4 c = true ∧ am_is 3 so1 = true ∧ am_is 6 m = true then (if s.so c.toNatClampNeg = -1 then (s, -11) else if s.so c.toNatClampNeg = so1 then sp_famN c.toNatClampNeg a m.toNatClampNeg 0 0 s else (s, -13)) else (s, -2)
theorem sp_person_so (s : am_S) (k m y : Int32) : (sp_person s k m y).1.so = s.so := by
  unfold sp_person
  repeat' split
  all_goals rfl
theorem sp_person_sz (s : am_S) (k m y : Int32) : (sp_person s k m y).1.sz = s.sz := by
  unfold sp_person
  repeat' split
  all_goals rfl
theorem sp_famN_bad {k e q came : Nat} {a : Int32} {s : am_S} (h : sp_fits (s.sz k) a (nI (3 * q + 3)) = false) : sp_famN k a (e + 1) q came s = (s, -12) := by
  rw [sp_famN, if_neg (by rw [h]; decide)]
section CON
variable {d n : Nat} {Y : List am_C} {h w : am_H} {s : am_S} {K : List Value → List am_C → am_H → Prop}
set_option maxHeartbeats 4000000 in
set_option maxRecDepth 100000 in
theorem o_X5_family {c so1 a m : Int32} (hd : 4 ≤ d) (hC : am_Cl Y h s) (hI : am_I s) (hK : ∀ h1, am_fC h h1 → am_Cl Y h1 (sp_family s c so1 a m).1 → K [.int (sp_family s c so1 a m).2] Y h1) : am_Met d 0 0 YX5_family [.ref 0, .int c, .int so1, .int a, .int m] Y h K := by
  refine en_X5_family fun X F hr => ?_
  obtain ⟨o0, o1, o2, o3, o35, o36, o37, o38, o39, o40, o41⟩ := id hC.1
  have loop : ∀ (k mm : Nat), k < 4 → mm ≤ 5 → m = nI mm → ∀ e (s' : am_S) (h' : am_H) (q came : Nat) (a8 : Value), q + e = mm → (q = 0 ∨ ∃ A, A ≤ 40 ∧ a = nI A) → am_Cl Y h' s' → am_fC h h' → am_I s' → ¬ s'.so k = -1 → (∀ h1, am_fC h h1 → am_Cl Y h1 (sp_famN k a e q came s').1 → K [.int (sp_famN k a e q came s').2] Y h1) → am_At X (am_MQ X K 0 0) 9 0 0 77 [.ref 0, .int c, .int so1, .int a, .int m, .ref (41 + 2 * k), .int (nI came), .int (nI q), a8] [] Y h' := by
    intro k mm hk hmm em e
    subst em
    obtain ⟨y1, y2⟩ := o41 k hk
    induction e with
    | zero =>
      intro s' h' q came a8 hq hA hC' hf hI' hso hK'
      refine sd_X5_family_77 F hr _ _ _ _ ?_
      simp only [te_X5_family_77, te_X5_family_84, te_X5_family_90, te_X5_family_108, te_X5_family_154, te_X5_family_151, te_X5_family_105, te_X5_family_160, o0, y1, Int32.reduceLT, Int32.reduceLE, eq_self, am_10, am_00, am_01, am_11, true_implies, false_implies, not_true_eq_false, not_false_eq_true, or_true, true_or, and_self, implies_true, qtm_push, qtm_iload, qtm_lload, qtm_aload, qtm_istore, qtm_lstore, qtm_astore, qtm_iinc, qtm_un, qtm_bin, qtm_div, qtm_lbin, qtm_ldiv, qtm_lsh, qtm_lcmp, qtm_i2l, qtm_l2i, qtm_if, qtm_cmp, qtm_getf, qtm_puti, qtm_putz, qtm_putl, qtm_iald, qtm_iast, qtm_zald, qtm_zast, qtm_aald, qtm_tsw, qtm_callV, qtm_callS, qtm_acp, qtm_alen, qtm_max, qtm_min, qtm_dup, qtm_pop, qtm_iret, qtm_zret, qtm_lret, qtm_aret, qtm_vret, qtm_swn, qtm_swc, am_oi_c, am_ol_c, am_or_r, am_or_f, am_pi_c, am_pj_c, am_pr_c, am_pa_r, am_pa_f, am_yo_c, am_ya_c, am_fv_i, am_fv_l, am_fv_r, am_fi_c, am_fl_c, am_rv_c, am_n2_s, am_n2_n, am_pv_0, am_pv_s, am_cs_n, am_cs_c, Value.category, List.getElem?_cons_zero, List.getElem?_cons_succ, List.set_cons_zero, List.set_cons_succ, List.length_cons, List.length_nil, List.drop_succ_cons, List.drop_zero, List.take_succ_cons, List.take_zero, List.take_nil, List.reverse_cons, List.reverse_nil, List.nil_append, List.cons_append, List.append_nil, true_and, and_true, Int.reduceAdd, am_o0, am_o1, am_o2, am_o3, am_o4, am_o5, am_o6, am_o7, am_o8, am_o9, am_o10, am_o11, am_o12, am_o13, am_o14, am_o15, am_o16, am_o17, am_o18, am_o19, am_o20, am_o21, am_o22, am_o23, am_o24, am_o25, am_o26, am_o27, Nat.reduceAdd, Nat.reduceLeDiff, Nat.reduceLT, Nat.zero_le]
      exact ⟨fun _ => hK' h' hf hC', fun z => absurd ((nI_leI (by omega) (by omega)).mpr (by omega)) z⟩
    | succ e ih =>
      intro s' h' q came a8 hq hA hC' hf hI' hso hK'
      have hz := (hI'.2.2.2.2.2.2.1 k hk).1
      have bad : sp_fits (s'.sz k) a (nI (3 * q + 3)) = false → K [.int (-12)] Y h' := by
        intro y
        rw [sp_famN_bad y] at hK'
        exact hK' h' hf hC'
      have e3q : (3 : Int32) * nI q = nI (3 * q) := pk_mul 3 q
      refine sd_X5_family_77 F hr _ _ _ _ ?_
      simp only [te_X5_family_77, te_X5_family_84, te_X5_family_90, te_X5_family_108, te_X5_family_154, te_X5_family_151, te_X5_family_105, te_X5_family_160, o0, y1, e3q, Int32.reduceLT, Int32.reduceLE, eq_self, am_10, am_00, am_01, am_11, true_implies, false_implies, not_true_eq_false, not_false_eq_true, or_true, true_or, and_self, implies_true, qtm_push, qtm_iload, qtm_lload, qtm_aload, qtm_istore, qtm_lstore, qtm_astore, qtm_iinc, qtm_un, qtm_bin, qtm_div, qtm_lbin, qtm_ldiv, qtm_lsh, qtm_lcmp, qtm_i2l, qtm_l2i, qtm_if, qtm_cmp, qtm_getf, qtm_puti, qtm_putz, qtm_putl, qtm_iald, qtm_iast, qtm_zald, qtm_zast, qtm_aald, qtm_tsw, qtm_callV, qtm_callS, qtm_acp, qtm_alen, qtm_max, qtm_min, qtm_dup, qtm_pop, qtm_iret, qtm_zret, qtm_lret, qtm_aret, qtm_vret, qtm_swn, qtm_swc, am_oi_c, am_ol_c, am_or_r, am_or_f, am_pi_c, am_pj_c, am_pr_c, am_pa_r, am_pa_f, am_yo_c, am_ya_c, am_fv_i, am_fv_l, am_fv_r, am_fi_c, am_fl_c, am_rv_c, am_n2_s, am_n2_n, am_pv_0, am_pv_s, am_cs_n, am_cs_c, Value.category, List.getElem?_cons_zero, List.getElem?_cons_succ, List.set_cons_zero, List.set_cons_succ, List.length_cons, List.length_nil, List.drop_succ_cons, List.drop_zero, List.take_succ_cons, List.take_zero, List.take_nil, List.reverse_cons, List.reverse_nil, List.nil_append, List.cons_append, List.append_nil, true_and, and_true, Int.reduceAdd, am_o0, am_o1, am_o2, am_o3, am_o4, am_o5, am_o6, am_o7, am_o8, am_o9, am_o10, am_o11, am_o12, am_o13, am_o14, am_o15, am_o16, am_o17, am_o18, am_o19, am_o20, am_o21, am_o22, am_o23, am_o24, am_o25, am_o26, am_o27, Nat.reduceAdd, Nat.reduceLeDiff, Nat.reduceLT, Nat.zero_le]
      refine ⟨fun z => absurd ((nI_leI (by omega) (by omega)).mp z) (by omega), fun _ => ⟨fun z => bad (sp_fits_f (fun A b e1 e2 h3 => ?_) hz), fun z => ⟨by omega, c_X1_holds hk hC' hso hz (fun x t ex et hxt => ?_) (fun y => ?_)⟩⟩⟩
      · rw [e1] at z
        have := (nI_ltI (a := 40) (by decide) (by omega)).mp z
        omega
      · have t3 : t = 3 := ((nI_eq (a := 3) (by decide) (by omega)).mp et).symm
        subst t3
        obtain ⟨A, rfl, hx⟩ : ∃ A, a = nI A ∧ x = A + 3 * q := by
          rcases hA with h0 | ⟨A, hA1, hA2⟩
          · subst h0
            exact ⟨x, by rw [← ex]; exact (Int32.add_zero a).symm, by omega⟩
          · refine ⟨A, hA2, ?_⟩
            rw [hA2, nI_add] at ex
            exact ((nI_eq (by omega) (by omega)).mp ex).symm
        subst hx
        have hfit : sp_fits (s'.sz k) (nI A) (nI (3 * q + 3)) = true := sp_fits_t hz (by omega)
        obtain ⟨g1, g2, g3⟩ := hC'.2.2.2.2.2 k hk
        have i0 := g3 hso (A + 3 * q) (by omega)
        have i1 := g3 hso (A + 3 * q + 1) (by omega)
        have i2 := g3 hso (A + 3 * q + 2) (by omega)
        rw [sp_famN, if_pos hfit, nI_clamp (show A < 2 ^ 31 by omega)] at hK'
        simp only [o0, y1, y2, nI_add, nI_1, am_a2, nI_clamp (show A + 3 * q < 2 ^ 31 by omega), nI_clamp (show A + 3 * q + 1 < 2 ^ 31 by omega), nI_clamp (show A + 3 * q + 2 < 2 ^ 31 by omega), i0, i1, i2, Int32.reduceLT, Int32.reduceLE, eq_self, am_10, am_00, am_01, am_11, true_implies, false_implies, not_true_eq_false, not_false_eq_true, or_true, true_or, and_self, implies_true, qtm_push, qtm_iload, qtm_lload, qtm_aload, qtm_istore, qtm_lstore, qtm_astore, qtm_iinc, qtm_un, qtm_bin, qtm_div, qtm_lbin, qtm_ldiv, qtm_lsh, qtm_lcmp, qtm_i2l, qtm_l2i, qtm_if, qtm_cmp, qtm_getf, qtm_puti, qtm_putz, qtm_putl, qtm_iald, qtm_iast, qtm_zald, qtm_zast, qtm_aald, qtm_tsw, qtm_callV, qtm_callS, qtm_acp, qtm_alen, qtm_max, qtm_min, qtm_dup, qtm_pop, qtm_iret, qtm_zret, qtm_lret, qtm_aret, qtm_vret, qtm_swn, qtm_swc, am_oi_c, am_ol_c, am_or_r, am_or_f, am_pi_c, am_pj_c, am_pr_c, am_pa_r, am_pa_f, am_yo_c, am_ya_c, am_fv_i, am_fv_l, am_fv_r, am_fi_c, am_fl_c, am_rv_c, am_n2_s, am_n2_n, am_pv_0, am_pv_s, am_cs_n, am_cs_c, Value.category, List.getElem?_cons_zero, List.getElem?_cons_succ, List.set_cons_zero, List.set_cons_succ, List.length_cons, List.length_nil, List.drop_succ_cons, List.drop_zero, List.take_succ_cons, List.take_zero, List.take_nil, List.reverse_cons, List.reverse_nil, List.nil_append, List.cons_append, List.append_nil, true_and, and_true, Int.reduceAdd, am_o0, am_o1, am_o2, am_o3, am_o4, am_o5, am_o6, am_o7, am_o8, am_o9, am_o10, am_o11, am_o12, am_o13, am_o14, am_o15, am_o16, am_o17, am_o18, am_o19, am_o20, am_o21, am_o22, am_o23, am_o24, am_o25, am_o26, am_o27, Nat.reduceAdd, Nat.reduceLeDiff, Nat.reduceLT, Nat.zero_le]
        refine ⟨vp_in_nI (by omega) (by decide), vp_in_nI (by omega) (by decide), vp_in_nI (by omega) (by decide), by omega, o_X5_person (by omega) hC' hI' fun h2 p1 p2 => ?_⟩
        have hI2 := sp_person_I (k := s'.it k (A + 3 * q)) (m := s'.it k (A + 3 * q + 1)) (y := s'.it k (A + 3 * q + 2)) hI'
        have hf2 : am_fC h h2 := fun a g1 g2 => (p1.fC a g1 g2).trans (hf a g1 g2)
        have hso2 : ¬ (sp_person s' (s'.it k (A + 3 * q)) (s'.it k (A + 3 * q + 1)) (s'.it k (A + 3 * q + 2))).1.so k = -1 := by rw [sp_person_so]; exact hso
        simp only [nI_1, Int32.reduceLT, Int32.reduceLE, eq_self, am_10, am_00, am_01, am_11, true_implies, false_implies, not_true_eq_false, not_false_eq_true, or_true, true_or, and_self, implies_true, qtm_push, qtm_iload, qtm_lload, qtm_aload, qtm_istore, qtm_lstore, qtm_astore, qtm_iinc, qtm_un, qtm_bin, qtm_div, qtm_lbin, qtm_ldiv, qtm_lsh, qtm_lcmp, qtm_i2l, qtm_l2i, qtm_if, qtm_cmp, qtm_getf, qtm_puti, qtm_putz, qtm_putl, qtm_iald, qtm_iast, qtm_zald, qtm_zast, qtm_aald, qtm_tsw, qtm_callV, qtm_callS, qtm_acp, qtm_alen, qtm_max, qtm_min, qtm_dup, qtm_pop, qtm_iret, qtm_zret, qtm_lret, qtm_aret, qtm_vret, qtm_swn, qtm_swc, am_oi_c, am_ol_c, am_or_r, am_or_f, am_pi_c, am_pj_c, am_pr_c, am_pa_r, am_pa_f, am_yo_c, am_ya_c, am_fv_i, am_fv_l, am_fv_r, am_fi_c, am_fl_c, am_rv_c, am_n2_s, am_n2_n, am_pv_0, am_pv_s, am_cs_n, am_cs_c, Value.category, List.getElem?_cons_zero, List.getElem?_cons_succ, List.set_cons_zero, List.set_cons_succ, List.length_cons, List.length_nil, List.drop_succ_cons, List.drop_zero, List.take_succ_cons, List.take_zero, List.take_nil, List.reverse_cons, List.reverse_nil, List.nil_append, List.cons_append, List.append_nil, true_and, and_true, Int.reduceAdd, am_o0, am_o1, am_o2, am_o3, am_o4, am_o5, am_o6, am_o7, am_o8, am_o9, am_o10, am_o11, am_o12, am_o13, am_o14, am_o15, am_o16, am_o17, am_o18, am_o19, am_o20, am_o21, am_o22, am_o23, am_o24, am_o25, am_o26, am_o27, Nat.reduceAdd, Nat.reduceLeDiff, Nat.reduceLT, Nat.zero_le]
        refine ⟨fun z => ?_, fun z => ?_⟩
        · refine ih _ h2 (q + 1) came _ (by omega) (Or.inr ⟨A, by omega, rfl⟩) p2 hf2 hI2 hso2 ?_
          rw [if_neg (Int32.not_le.mpr z)] at hK'
          exact hK'
        · refine ih _ h2 (q + 1) (came + 1) _ (by omega) (Or.inr ⟨A, by omega, rfl⟩) p2 hf2 hI2 hso2 ?_
          rw [if_pos (Int32.not_lt.mp z)] at hK'
          exact hK'
      · simp only [Int32.reduceLT, Int32.reduceLE, eq_self, am_10, am_00, am_01, am_11, true_implies, false_implies, not_true_eq_false, not_false_eq_true, or_true, true_or, and_self, implies_true, qtm_push, qtm_iload, qtm_lload, qtm_aload, qtm_istore, qtm_lstore, qtm_astore, qtm_iinc, qtm_un, qtm_bin, qtm_div, qtm_lbin, qtm_ldiv, qtm_lsh, qtm_lcmp, qtm_i2l, qtm_l2i, qtm_if, qtm_cmp, qtm_getf, qtm_puti, qtm_putz, qtm_putl, qtm_iald, qtm_iast, qtm_zald, qtm_zast, qtm_aald, qtm_tsw, qtm_callV, qtm_callS, qtm_acp, qtm_alen, qtm_max, qtm_min, qtm_dup, qtm_pop, qtm_iret, qtm_zret, qtm_lret, qtm_aret, qtm_vret, qtm_swn, qtm_swc, am_oi_c, am_ol_c, am_or_r, am_or_f, am_pi_c, am_pj_c, am_pr_c, am_pa_r, am_pa_f, am_yo_c, am_ya_c, am_fv_i, am_fv_l, am_fv_r, am_fi_c, am_fl_c, am_rv_c, am_n2_s, am_n2_n, am_pv_0, am_pv_s, am_cs_n, am_cs_c, Value.category, List.getElem?_cons_zero, List.getElem?_cons_succ, List.set_cons_zero, List.set_cons_succ, List.length_cons, List.length_nil, List.drop_succ_cons, List.drop_zero, List.take_succ_cons, List.take_zero, List.take_nil, List.reverse_cons, List.reverse_nil, List.nil_append, List.cons_append, List.append_nil, true_and, and_true, Int.reduceAdd, am_o0, am_o1, am_o2, am_o3, am_o4, am_o5, am_o6, am_o7, am_o8, am_o9, am_o10, am_o11, am_o12, am_o13, am_o14, am_o15, am_o16, am_o17, am_o18, am_o19, am_o20, am_o21, am_o22, am_o23, am_o24, am_o25, am_o26, am_o27, Nat.reduceAdd, Nat.reduceLeDiff, Nat.reduceLT, Nat.zero_le]
        refine bad (sp_fits_f (fun A b e1 e2 h3 => ?_) hz)
        have hb : b = 3 * q + 3 := ((nI_eq (by omega) (by omega)).mp e2).symm
        rw [e1, nI_add] at y
        have := sp_fits_t (a := A + 3 * q) (b := 3) hz (by omega)
        rw [show nI 3 = (3 : Int32) from rfl] at this
        rw [y] at this
        exact absurd this (by decide)
  have bad : ¬ (am_is 4 c = true ∧ am_is 3 so1 = true ∧ am_is 6 m = true) → K [.int (-2)] Y h := fun y => by
    unfold sp_family at hK
    rw [if_neg y] at hK
    exact hK h (am_fC.rf h) hC
  have e2 : (so1 ≤ 2) ↔ so1 < 3 := am_lt_le (n := 2) (by decide)
  have e5 : (m ≤ 5) ↔ m < 6 := am_lt_le (n := 5) (by decide)
  simp only [te_X5_family_0, te_X5_family_7, te_X5_family_27, te_X5_family_11, te_X5_family_16, te_X5_family_21, te_X5_family_30, te_X5_family_59, te_X5_family_71, te_X5_family_68, te_X5_family_47, te_X5_family_56, o0, Int32.reduceLT, Int32.reduceLE, eq_self, am_10, am_00, am_01, am_11, true_implies, false_implies, not_true_eq_false, not_false_eq_true, or_true, true_or, and_self, implies_true, qtm_push, qtm_iload, qtm_lload, qtm_aload, qtm_istore, qtm_lstore, qtm_astore, qtm_iinc, qtm_un, qtm_bin, qtm_div, qtm_lbin, qtm_ldiv, qtm_lsh, qtm_lcmp, qtm_i2l, qtm_l2i, qtm_if, qtm_cmp, qtm_getf, qtm_puti, qtm_putz, qtm_putl, qtm_iald, qtm_iast, qtm_zald, qtm_zast, qtm_aald, qtm_tsw, qtm_callV, qtm_callS, qtm_acp, qtm_alen, qtm_max, qtm_min, qtm_dup, qtm_pop, qtm_iret, qtm_zret, qtm_lret, qtm_aret, qtm_vret, qtm_swn, qtm_swc, am_oi_c, am_ol_c, am_or_r, am_or_f, am_pi_c, am_pj_c, am_pr_c, am_pa_r, am_pa_f, am_yo_c, am_ya_c, am_fv_i, am_fv_l, am_fv_r, am_fi_c, am_fl_c, am_rv_c, am_n2_s, am_n2_n, am_pv_0, am_pv_s, am_cs_n, am_cs_c, Value.category, List.getElem?_cons_zero, List.getElem?_cons_succ, List.set_cons_zero, List.set_cons_succ, List.length_cons, List.length_nil, List.drop_succ_cons, List.drop_zero, List.take_succ_cons, List.take_zero, List.take_nil, List.reverse_cons, List.reverse_nil, List.nil_append, List.cons_append, List.append_nil, true_and, and_true, Int.reduceAdd, am_o0, am_o1, am_o2, am_o3, am_o4, am_o5, am_o6, am_o7, am_o8, am_o9, am_o10, am_o11, am_o12, am_o13, am_o14, am_o15, am_o16, am_o17, am_o18, am_o19, am_o20, am_o21, am_o22, am_o23, am_o24, am_o25, am_o26, am_o27, Nat.reduceAdd, Nat.reduceLeDiff, Nat.reduceLT, Nat.zero_le]
  refine ⟨by omega, c_X5_isSheet (fun q => ?_) (fun q => ?_)⟩
  · obtain ⟨k, hk, rfl⟩ := am_is_o (by decide) q
    obtain ⟨y1, y2⟩ := o41 k hk
    obtain ⟨g1, g2, g3⟩ := hC.2.2.2.2.2 k hk
    simp only [o0, o39, nI_clamp (show k < 2 ^ 31 by omega), am_shr hk, y1, g1, Int32.reduceLT, Int32.reduceLE, eq_self, am_10, am_00, am_01, am_11, true_implies, false_implies, not_true_eq_false, not_false_eq_true, or_true, true_or, and_self, implies_true, qtm_push, qtm_iload, qtm_lload, qtm_aload, qtm_istore, qtm_lstore, qtm_astore, qtm_iinc, qtm_un, qtm_bin, qtm_div, qtm_lbin, qtm_ldiv, qtm_lsh, qtm_lcmp, qtm_i2l, qtm_l2i, qtm_if, qtm_cmp, qtm_getf, qtm_puti, qtm_putz, qtm_putl, qtm_iald, qtm_iast, qtm_zald, qtm_zast, qtm_aald, qtm_tsw, qtm_callV, qtm_callS, qtm_acp, qtm_alen, qtm_max, qtm_min, qtm_dup, qtm_pop, qtm_iret, qtm_zret, qtm_lret, qtm_aret, qtm_vret, qtm_swn, qtm_swc, am_oi_c, am_ol_c, am_or_r, am_or_f, am_pi_c, am_pj_c, am_pr_c, am_pa_r, am_pa_f, am_yo_c, am_ya_c, am_fv_i, am_fv_l, am_fv_r, am_fi_c, am_fl_c, am_rv_c, am_n2_s, am_n2_n, am_pv_0, am_pv_s, am_cs_n, am_cs_c, Value.category, List.getElem?_cons_zero, List.getElem?_cons_succ, List.set_cons_zero, List.set_cons_succ, List.length_cons, List.length_nil, List.drop_succ_cons, List.drop_zero, List.take_succ_cons, List.take_zero, List.take_nil, List.reverse_cons, List.reverse_nil, List.nil_append, List.cons_append, List.append_nil, true_and, and_true, Int.reduceAdd, am_o0, am_o1, am_o2, am_o3, am_o4, am_o5, am_o6, am_o7, am_o8, am_o9, am_o10, am_o11, am_o12, am_o13, am_o14, am_o15, am_o16, am_o17, am_o18, am_o19, am_o20, am_o21, am_o22, am_o23, am_o24, am_o25, am_o26, am_o27, Nat.reduceAdd, Nat.reduceLeDiff, Nat.reduceLT, Nat.zero_le]
    refine ⟨fun z => bad fun y => by rw [am_is_neg z] at y; exact absurd y.2.1 (by decide), fun z1 => ⟨fun z => bad fun y => by rw [am_is_big (n := 3) (fun t => absurd z (Int32.not_lt.mpr (e2.mpr t)))] at y; exact absurd y.2.1 (by decide), fun z2 => ⟨fun z => bad fun y => by rw [am_is_neg z] at y; exact absurd y.2.2 (by decide), fun z3 => ⟨fun z4 => ⟨vp_in_nI hk (by decide), ?_⟩, fun z => bad fun y => by rw [am_is_big (n := 6) (fun t => z (e5.mpr t))] at y; exact absurd y.2.2 (by decide)⟩⟩⟩⟩
    have qm := am_is_of (n := 6) z3 (e5.mp z4)
    obtain ⟨mm, hmm, em⟩ := am_is_o (by decide) qm
    unfold sp_family at hK
    rw [if_pos ⟨q, am_is_of (n := 3) z1 (e2.mp (Int32.not_lt.mp z2)), qm⟩, nI_clamp (by omega), em, nI_clamp (by omega)] at hK
    refine ⟨fun t => ⟨fun _ => ?_, fun t' => absurd t t'⟩, fun t => ⟨fun t2 => ⟨fun t' => absurd t' t, fun _ => ?_⟩, fun t2 => ?_⟩⟩
    · rw [if_pos t] at hK
      exact hK h (am_fC.rf h) hC
    · rw [if_neg t, if_pos t2] at hK
      exact loop k mm hk (by omega) em mm s h 0 0 _ (by omega) (Or.inl rfl) hC (am_fC.rf h) hI t hK
    · rw [if_neg t, if_neg t2] at hK
      exact hK h (am_fC.rf h) hC
  · simp only [Int32.reduceLT, Int32.reduceLE, eq_self, am_10, am_00, am_01, am_11, true_implies, false_implies, not_true_eq_false, not_false_eq_true, or_true, true_or, and_self, implies_true, qtm_push, qtm_iload, qtm_lload, qtm_aload, qtm_istore, qtm_lstore, qtm_astore, qtm_iinc, qtm_un, qtm_bin, qtm_div, qtm_lbin, qtm_ldiv, qtm_lsh, qtm_lcmp, qtm_i2l, qtm_l2i, qtm_if, qtm_cmp, qtm_getf, qtm_puti, qtm_putz, qtm_putl, qtm_iald, qtm_iast, qtm_zald, qtm_zast, qtm_aald, qtm_tsw, qtm_callV, qtm_callS, qtm_acp, qtm_alen, qtm_max, qtm_min, qtm_dup, qtm_pop, qtm_iret, qtm_zret, qtm_lret, qtm_aret, qtm_vret, qtm_swn, qtm_swc, am_oi_c, am_ol_c, am_or_r, am_or_f, am_pi_c, am_pj_c, am_pr_c, am_pa_r, am_pa_f, am_yo_c, am_ya_c, am_fv_i, am_fv_l, am_fv_r, am_fi_c, am_fl_c, am_rv_c, am_n2_s, am_n2_n, am_pv_0, am_pv_s, am_cs_n, am_cs_c, Value.category, List.getElem?_cons_zero, List.getElem?_cons_succ, List.set_cons_zero, List.set_cons_succ, List.length_cons, List.length_nil, List.drop_succ_cons, List.drop_zero, List.take_succ_cons, List.take_zero, List.take_nil, List.reverse_cons, List.reverse_nil, List.nil_append, List.cons_append, List.append_nil, true_and, and_true, Int.reduceAdd, am_o0, am_o1, am_o2, am_o3, am_o4, am_o5, am_o6, am_o7, am_o8, am_o9, am_o10, am_o11, am_o12, am_o13, am_o14, am_o15, am_o16, am_o17, am_o18, am_o19, am_o20, am_o21, am_o22, am_o23, am_o24, am_o25, am_o26, am_o27, Nat.reduceAdd, Nat.reduceLeDiff, Nat.reduceLT, Nat.zero_le]
    exact bad fun y => by rw [q] at y; exact absurd y.1 (by decide)
end CON
