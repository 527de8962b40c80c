theorem sp_kd_lt (tp : Nat → Int32) (tz s : Nat) : sp_kd tp tz s < 100 := by
  unfold sp_kd
  split
  · omega
  · split
    · split <;> omega
    · split
      · unfold sp_kw
        have := sp_wi_le tp s (sp_we tp tz s)
        split
        · omega
        · split <;> omega
      · split
        · rename_i h
          have := sp_Gn_in h
          omega
        · omega
/-- the reader looks at the token at s; the steps l are written -/
def am_rd (h : am_H) (tp : Nat → Int32) (tz s : Nat) (l : List (Nat × Nat)) : Prop := am_rf h tp tz ∧ am_tk h tp tz s ∧ h 35 4 = nI l.length ∧ sp_cd (h 37) 0 l ∧ s ≤ tz
/-- the reader found a fault at s -/
def am_rb (h : am_H) (tp : Nat → Int32) (tz s : Nat) : Prop := am_rf h tp tz ∧ h 35 7 = nI s ∧ ∃ c, c ≤ 160 ∧ h 35 4 = nI c
def am_pk (h h1 : am_H) : Prop := ∀ a, a ≠ 35 → a ≠ 37 → h1 a = h a
theorem am_pk.rf (h : am_H) : am_pk h h := fun _ _ _ => rfl
theorem am_pk.tr {a b c : am_H} (h1 : am_pk a b) (h2 : am_pk b c) : am_pk a c := fun x q q2 => (h2 x q q2).trans (h1 x q q2)
theorem am_lk.pk {h h1 : am_H} (k : am_lk h h1) : am_pk h h1 := fun a q _ => k.1 a q
theorem am_rd.rb {h : am_H} {tp : Nat → Int32} {tz s : Nat} {l : List (Nat × Nat)} (r : am_rd h tp tz s l) (hl : l.length ≤ s) : am_rb h tp tz s := ⟨r.1, r.2.1.2.2.1, l.length, by have := r.2.2.2.2; have := r.1.2.1; omega, r.2.2.1⟩
theorem am_rd.lk {h h1 : am_H} {tp : Nat → Int32} {tz s s2 : Nat} {l : List (Nat × Nat)} (r : am_rd h tp tz s l) (k : am_lk h h1) (t : am_tk h1 tp tz s2) (h2 : s2 ≤ tz) : am_rd h1 tp tz s2 l := ⟨r.1.lk k, t, (k.2 4 (by decide)).trans r.2.2.1, by rw [k.1 37 (by decide)]; exact r.2.2.2.1, h2⟩
theorem am_tk.end_le {tp : Nat → Int32} {tz s : Nat} (h : s ≤ tz) : sp_en tp tz s ≤ tz := (sp_en_le h).2.1
theorem sp_cd_app {f : Nat → Int32} : ∀ (l : List (Nat × Nat)) (i k v : Nat), sp_cd f i l → f (i + l.length) = nI (k * 16384 + v) → sp_cd f i (l ++ [(k, v)])
  | [], i, k, v, _, h => ⟨h, trivial⟩
  | (k0, v0) :: l, i, k, v, h, h2 => ⟨h.1, sp_cd_app l (i + 1) k v h.2 (by rw [← h2]; congr 1; simp only [List.length_cons]; omega)⟩
def am_st (h : am_H) (c k v : Nat) : am_H := am_up (am_up h 37 c (nI (k * 16384 + v))) 35 4 (nI (c + 1))
theorem am_st_pk (h : am_H) (c k v : Nat) : am_pk h (am_st h c k v) := fun a q q2 => by
  unfold am_st
  rw [am_up_ne a q, am_up_ne a q2]
theorem am_st_35 (h : am_H) (c k v : Nat) (j : Nat) (hj : j ≠ 4) : am_st h c k v 35 j = h 35 j := by
  unfold am_st
  rw [am_up_ap, if_pos rfl, if_neg hj, am_up_ne 35 (by decide)]
theorem am_rf.st {h : am_H} {tp : Nat → Int32} {tz : Nat} (r : am_rf h tp tz) (c k v : Nat) : am_rf (am_st h c k v) tp tz := ⟨by rw [am_st_35 _ _ _ _ 3 (by decide)]; exact r.1, r.2.1, fun i hi => by rw [am_st_pk h c k v 36 (by decide) (by decide)]; exact r.2.2 i hi⟩
theorem am_tk.st {h : am_H} {tp : Nat → Int32} {tz s : Nat} (r : am_tk h tp tz s) (c k v : Nat) : am_tk (am_st h c k v) tp tz s := ⟨by rw [am_st_35 _ _ _ _ 5 (by decide)]; exact r.1, by rw [am_st_35 _ _ _ _ 6 (by decide)]; exact r.2.1, by rw [am_st_35 _ _ _ _ 7 (by decide)]; exact r.2.2.1, fun q => by rw [am_st_35 _ _ _ _ 8 (by decide)]; exact r.2.2.2 q⟩
theorem am_rd.st {h : am_H} {tp : Nat → Int32} {tz s : Nat} {l : List (Nat × Nat)} (r : am_rd h tp tz s l) (k v : Nat) : am_rd (am_st h l.length k v) tp tz s (l ++ [(k, v)]) := by
  refine ⟨r.1.st _ _ _, r.2.1.st _ _ _, ?_, ?_, r.2.2.2.2⟩
  · unfold am_st
    rw [am_up_ap, if_pos rfl, if_pos rfl, List.length_append]
    rfl
  · have e : am_st h l.length k v 37 = fun i => if i = l.length then nI (k * 16384 + v) else h 37 i := by
      funext i
      unfold am_st
      rw [am_up_ne 37 (by decide), am_up_ap, if_pos rfl]
    rw [e]
    refine sp_cd_app l 0 k v (sp_cd_cong l 0 (fun j _ hj => if_neg (by omega)) r.2.2.2.1) ?_
    rw [Nat.zero_add]
    exact if_pos rfl
theorem am_enc {k v : Nat} (hk : k ≤ 10) (hv : v < 16384) : nI k <<< ((14 : Int32) &&& 31) ||| nI v = nI (k * 16384 + v) := by
  rw [pk_shlN _ 14 (by decide) (by omega), nI_or]
  have := Nat.two_pow_add_eq_or_of_lt (i := 14) (show v < 2 ^ 14 by omega) k
  rw [show k * 2 ^ 14 = 2 ^ 14 * k from Nat.mul_comm _ _, ← this, show 2 ^ 14 * k + v = k * 16384 + v by omega]
section CON
variable {d : Nat} {Y : List am_C} {h : am_H} {tp : Nat → Int32} {tz : Nat} {K : List Value → List am_C → am_H → Prop}
set_option maxHeartbeats 4000000 in
set_option maxRecDepth 100000 in
theorem c_X0_putStep {c k v : Nat} (hO : am_own Y) (hc : c ≤ 160) (h4 : h 35 4 = nI c) (hk : k ≤ 10) (hv : v < 16384) (h1 : c < 160 → K [] Y (am_st h c k v)) (h0 : c = 160 → K [] Y h) : am_Met d 0 0 YX0_putStep [.ref 35, .int (nI k), .int (nI v)] Y h K := by
  refine en_X0_putStep fun X F hr => ?_
  obtain ⟨o0, o1, o2, o3, o35, o36, o37, o38, o39, o40, o41⟩ := id hO
  unfold am_st at h1
  have e : ∀ x, am_up h 37 c x 35 4 = nI c := fun x => by rw [am_up_ne 35 (by decide)]; exact h4
  simp only [te_X0_putStep_0, te_X0_putStep_35, te_X0_putStep_10, o35, o37, h4, am_enc hk hv, nI_clamp (show c < 2 ^ 31 by omega), e, nI_1, Int32.reduceLT, Int32.reduceLE, eq_self, am_10, am_00, am_01, am_11, true_implies, false_implies, not_true_eq_false, not_false_eq_true, or_true, true_or, and_self, implies_true, qtm_push, qtm_iload, qtm_lload, qtm_aload, qtm_istore, qtm_lstore, qtm_astore, qtm_iinc, qtm_un, qtm_bin, qtm_div, qtm_lbin, qtm_ldiv, qtm_lsh, qtm_lcmp, qtm_i2l, qtm_l2i, qtm_if, qtm_cmp, qtm_getf, qtm_puti, qtm_putz, qtm_putl, qtm_iald, qtm_iast, qtm_zald, qtm_zast, qtm_aald, qtm_tsw, qtm_callV, qtm_callS, qtm_acp, qtm_alen, qtm_max, qtm_min, qtm_dup, qtm_pop, qtm_iret, qtm_zret, qtm_lret, qtm_aret, qtm_vret, qtm_swn, qtm_swc, am_oi_c, am_ol_c, am_or_r, am_or_f, am_pi_c, am_pj_c, am_pr_c, am_pa_r, am_pa_f, am_yo_c, am_ya_c, am_fv_i, am_fv_l, am_fv_r, am_fi_c, am_fl_c, am_rv_c, am_n2_s, am_n2_n, am_pv_0, am_pv_s, am_cs_n, am_cs_c, Value.category, List.getElem?_cons_zero, List.getElem?_cons_succ, List.set_cons_zero, List.set_cons_succ, List.length_cons, List.length_nil, List.drop_succ_cons, List.drop_zero, List.take_succ_cons, List.take_zero, List.take_nil, List.reverse_cons, List.reverse_nil, List.nil_append, List.cons_append, List.append_nil, true_and, and_true, Int.reduceAdd, am_o0, am_o1, am_o2, am_o3, am_o4, am_o5, am_o6, am_o7, am_o8, am_o9, am_o10, am_o11, am_o12, am_o13, am_o14, am_o15, am_o16, am_o17, am_o18, am_o19, am_o20, am_o21, am_o22, am_o23, am_o24, am_o25, am_o26, am_o27, Nat.reduceAdd, Nat.reduceLeDiff, Nat.reduceLT, Nat.zero_le, qtm_slen, qtm_sch, am_pf_c]
  exact ⟨fun z => h0 (by have := (nI_leI (a := 160) (by decide) (by omega)).mp z; omega), fun z => have hlt : c < 160 := Nat.not_le.mp fun y => z (nI_le (a := 160) y (by omega)); ⟨vp_in_nI hlt (by decide), h1 hlt⟩⟩
set_option maxHeartbeats 4000000 in
set_option maxRecDepth 100000 in
theorem c_X0_passes {s key : Nat} {l : List (Nat × Nat)} (hd : 9 ≤ d) (hO : am_own Y) (hr : am_rd h tp tz s l) (hk : key < 100) (h1 : sp_kd tp tz s = key → ∀ h1, am_lk h h1 → am_rd h1 tp tz ((sp_tkn tp tz).2.2 s) l → K [.int 1] Y h1) (h0 : sp_kd tp tz s ≠ key → K [.int 0] Y h) : am_Met d 0 0 YX0_passes [.ref 35, .int (nI key)] Y h K := by
  refine en_X0_passes fun X F hrt => ?_
  obtain ⟨o0, o1, o2, o3, o35, o36, o37, o38, o39, o40, o41⟩ := id hO
  have e : (nI (sp_kd tp tz s) = nI key) ↔ sp_kd tp tz s = key := nI_eq (by have := sp_kd_lt tp tz s; omega) (by omega)
  have hr' := hr
  obtain ⟨r1, r2, r3, r4, r5⟩ := hr
  have hr := hrt
  simp only [te_X0_passes_0, te_X0_passes_8, te_X0_passes_10, o35, r2.2.1, e, Int32.reduceLT, Int32.reduceLE, eq_self, am_10, am_00, am_01, am_11, true_implies, false_implies, not_true_eq_false, not_false_eq_true, or_true, true_or, and_self, implies_true, qtm_push, qtm_iload, qtm_lload, qtm_aload, qtm_istore, qtm_lstore, qtm_astore, qtm_iinc, qtm_un, qtm_bin, qtm_div, qtm_lbin, qtm_ldiv, qtm_lsh, qtm_lcmp, qtm_i2l, qtm_l2i, qtm_if, qtm_cmp, qtm_getf, qtm_puti, qtm_putz, qtm_putl, qtm_iald, qtm_iast, qtm_zald, qtm_zast, qtm_aald, qtm_tsw, qtm_callV, qtm_callS, qtm_acp, qtm_alen, qtm_max, qtm_min, qtm_dup, qtm_pop, qtm_iret, qtm_zret, qtm_lret, qtm_aret, qtm_vret, qtm_swn, qtm_swc, am_oi_c, am_ol_c, am_or_r, am_or_f, am_pi_c, am_pj_c, am_pr_c, am_pa_r, am_pa_f, am_yo_c, am_ya_c, am_fv_i, am_fv_l, am_fv_r, am_fi_c, am_fl_c, am_rv_c, am_n2_s, am_n2_n, am_pv_0, am_pv_s, am_cs_n, am_cs_c, Value.category, List.getElem?_cons_zero, List.getElem?_cons_succ, List.set_cons_zero, List.set_cons_succ, List.length_cons, List.length_nil, List.drop_succ_cons, List.drop_zero, List.take_succ_cons, List.take_zero, List.take_nil, List.reverse_cons, List.reverse_nil, List.nil_append, List.cons_append, List.append_nil, true_and, and_true, Int.reduceAdd, am_o0, am_o1, am_o2, am_o3, am_o4, am_o5, am_o6, am_o7, am_o8, am_o9, am_o10, am_o11, am_o12, am_o13, am_o14, am_o15, am_o16, am_o17, am_o18, am_o19, am_o20, am_o21, am_o22, am_o23, am_o24, am_o25, am_o26, am_o27, Nat.reduceAdd, Nat.reduceLeDiff, Nat.reduceLT, Nat.zero_le, qtm_slen, qtm_sch, am_pf_c]
  refine ⟨fun z => ⟨by omega, c_X0_lookAtNext (by omega) hO r1 (am_tk.end_le r5) r2.1 fun h2 k1 k2 => ?_⟩, fun z => h0 z⟩
  simp only [Int32.reduceLT, Int32.reduceLE, eq_self, am_10, am_00, am_01, am_11, true_implies, false_implies, not_true_eq_false, not_false_eq_true, or_true, true_or, and_self, implies_true, qtm_push, qtm_iload, qtm_lload, qtm_aload, qtm_istore, qtm_lstore, qtm_astore, qtm_iinc, qtm_un, qtm_bin, qtm_div, qtm_lbin, qtm_ldiv, qtm_lsh, qtm_lcmp, qtm_i2l, qtm_l2i, qtm_if, qtm_cmp, qtm_getf, qtm_puti, qtm_putz, qtm_putl, qtm_iald, qtm_iast, qtm_zald, qtm_zast, qtm_aald, qtm_tsw, qtm_callV, qtm_callS, qtm_acp, qtm_alen, qtm_max, qtm_min, qtm_dup, qtm_pop, qtm_iret, qtm_zret, qtm_lret, qtm_aret, qtm_vret, qtm_swn, qtm_swc, am_oi_c, am_ol_c, am_or_r, am_or_f, am_pi_c, am_pj_c, am_pr_c, am_pa_r, am_pa_f, am_yo_c, am_ya_c, am_fv_i, am_fv_l, am_fv_r, am_fi_c, am_fl_c, am_rv_c, am_n2_s, am_n2_n, am_pv_0, am_pv_s, am_cs_n, am_cs_c, Value.category, List.getElem?_cons_zero, List.getElem?_cons_succ, List.set_cons_zero, List.set_cons_succ, List.length_cons, List.length_nil, List.drop_succ_cons, List.drop_zero, List.take_succ_cons, List.take_zero, List.take_nil, List.reverse_cons, List.reverse_nil, List.nil_append, List.cons_append, List.append_nil, true_and, and_true, Int.reduceAdd, am_o0, am_o1, am_o2, am_o3, am_o4, am_o5, am_o6, am_o7, am_o8, am_o9, am_o10, am_o11, am_o12, am_o13, am_o14, am_o15, am_o16, am_o17, am_o18, am_o19, am_o20, am_o21, am_o22, am_o23, am_o24, am_o25, am_o26, am_o27, Nat.reduceAdd, Nat.reduceLeDiff, Nat.reduceLT, Nat.zero_le, qtm_slen, qtm_sch, am_pf_c]
  exact h1 z h2 k1 (hr'.lk k1 k2 (sp_sk_le (am_tk.end_le r5)).2)
set_option maxHeartbeats 4000000 in
set_option maxRecDepth 100000 in
theorem c_X0_putSteps {k m s : Nat} {l : List (Nat × Nat)} (hd : 1 ≤ d) (hO : am_own Y) (hr : am_rd h tp tz s l) (hk : k ≤ 10) (hl : l.length + m ≤ 160) (hK : ∀ h1, am_pk h h1 → am_rd h1 tp tz s (l ++ List.replicate m (k, 0)) → K [] Y h1) : am_Met d 0 0 YX0_putSteps [.ref 35, .int (nI k), .int (nI m)] Y h K := by
  refine en_X0_putSteps fun X F hrt => ?_
  have o35 := hO.2.2.2.2.1
  have hrr := hr
  have hr := hrt
  have loop := am_for (P := fun i => ∀ h' : am_H, am_pk h h' → am_rd h' tp tz s (l ++ List.replicate i (k, 0)) → am_At X (am_MQ X K 0 0) 4 0 0 2 [.ref 35, .int (nI k), .int (nI m), .int (nI i)] [] Y h') m
    (fun h' g1 g2 => by
      refine sd_X0_putSteps_2 F hr _ _ _ _ ?_
      simp only [te_X0_putSteps_2, te_X0_putSteps_7, te_X0_putSteps_19, o35, Int32.reduceLT, Int32.reduceLE, eq_self, am_10, am_00, am_01, am_11, true_implies, false_implies, not_true_eq_false, not_false_eq_true, or_true, true_or, and_self, implies_true, qtm_push, qtm_iload, qtm_lload, qtm_aload, qtm_istore, qtm_lstore, qtm_astore, qtm_iinc, qtm_un, qtm_bin, qtm_div, qtm_lbin, qtm_ldiv, qtm_lsh, qtm_lcmp, qtm_i2l, qtm_l2i, qtm_if, qtm_cmp, qtm_getf, qtm_puti, qtm_putz, qtm_putl, qtm_iald, qtm_iast, qtm_zald, qtm_zast, qtm_aald, qtm_tsw, qtm_callV, qtm_callS, qtm_acp, qtm_alen, qtm_max, qtm_min, qtm_dup, qtm_pop, qtm_iret, qtm_zret, qtm_lret, qtm_aret, qtm_vret, qtm_swn, qtm_swc, am_oi_c, am_ol_c, am_or_r, am_or_f, am_pi_c, am_pj_c, am_pr_c, am_pa_r, am_pa_f, am_yo_c, am_ya_c, am_fv_i, am_fv_l, am_fv_r, am_fi_c, am_fl_c, am_rv_c, am_n2_s, am_n2_n, am_pv_0, am_pv_s, am_cs_n, am_cs_c, Value.category, List.getElem?_cons_zero, List.getElem?_cons_succ, List.set_cons_zero, List.set_cons_succ, List.length_cons, List.length_nil, List.drop_succ_cons, List.drop_zero, List.take_succ_cons, List.take_zero, List.take_nil, List.reverse_cons, List.reverse_nil, List.nil_append, List.cons_append, List.append_nil, true_and, and_true, Int.reduceAdd, am_o0, am_o1, am_o2, am_o3, am_o4, am_o5, am_o6, am_o7, am_o8, am_o9, am_o10, am_o11, am_o12, am_o13, am_o14, am_o15, am_o16, am_o17, am_o18, am_o19, am_o20, am_o21, am_o22, am_o23, am_o24, am_o25, am_o26, am_o27, Nat.reduceAdd, Nat.reduceLeDiff, Nat.reduceLT, Nat.zero_le, qtm_slen, qtm_sch, am_pf_c]
      exact ⟨fun _ => hK h' g1 g2, fun z => absurd (nI_le (Nat.le_refl _) (by omega)) z⟩)
    (fun i hi ih h' g1 g2 => by
      have ll : (l ++ List.replicate i (k, 0)).length = l.length + i := by simp
      refine sd_X0_putSteps_2 F hr _ _ _ _ ?_
      simp only [te_X0_putSteps_2, te_X0_putSteps_7, te_X0_putSteps_19, o35, Int32.reduceLT, Int32.reduceLE, eq_self, am_10, am_00, am_01, am_11, true_implies, false_implies, not_true_eq_false, not_false_eq_true, or_true, true_or, and_self, implies_true, qtm_push, qtm_iload, qtm_lload, qtm_aload, qtm_istore, qtm_lstore, qtm_astore, qtm_iinc, qtm_un, qtm_bin, qtm_div, qtm_lbin, qtm_ldiv, qtm_lsh, qtm_lcmp, qtm_i2l, qtm_l2i, qtm_if, qtm_cmp, qtm_getf, qtm_puti, qtm_putz, qtm_putl, qtm_iald, qtm_iast, qtm_zald, qtm_zast, qtm_aald, qtm_tsw, qtm_callV, qtm_callS, qtm_acp, qtm_alen, qtm_max, qtm_min, qtm_dup, qtm_pop, qtm_iret, qtm_zret, qtm_lret, qtm_aret, qtm_vret, qtm_swn, qtm_swc, am_oi_c, am_ol_c, am_or_r, am_or_f, am_pi_c, am_pj_c, am_pr_c, am_pa_r, am_pa_f, am_yo_c, am_ya_c, am_fv_i, am_fv_l, am_fv_r, am_fi_c, am_fl_c, am_rv_c, am_n2_s, am_n2_n, am_pv_0, am_pv_s, am_cs_n, am_cs_c, Value.category, List.getElem?_cons_zero, List.getElem?_cons_succ, List.set_cons_zero, List.set_cons_succ, List.length_cons, List.length_nil, List.drop_succ_cons, List.drop_zero, List.take_succ_cons, List.take_zero, List.take_nil, List.reverse_cons, List.reverse_nil, List.nil_append, List.cons_append, List.append_nil, true_and, and_true, Int.reduceAdd, am_o0, am_o1, am_o2, am_o3, am_o4, am_o5, am_o6, am_o7, am_o8, am_o9, am_o10, am_o11, am_o12, am_o13, am_o14, am_o15, am_o16, am_o17, am_o18, am_o19, am_o20, am_o21, am_o22, am_o23, am_o24, am_o25, am_o26, am_o27, Nat.reduceAdd, Nat.reduceLeDiff, Nat.reduceLT, Nat.zero_le, qtm_slen, qtm_sch, am_pf_c]
      refine ⟨fun z => absurd ((nI_leI (by omega) (by omega)).mp z) (by omega), fun _ => ⟨by omega, c_X0_putStep (c := l.length + i) (v := 0) hO (by omega) (by rw [← ll]; exact g2.2.2.1) hk (by decide) (fun _ => ?_) (fun z => absurd z (by omega))⟩⟩
      simp only [nI_1, Int32.reduceLT, Int32.reduceLE, eq_self, am_10, am_00, am_01, am_11, true_implies, false_implies, not_true_eq_false, not_false_eq_true, or_true, true_or, and_self, implies_true, qtm_push, qtm_iload, qtm_lload, qtm_aload, qtm_istore, qtm_lstore, qtm_astore, qtm_iinc, qtm_un, qtm_bin, qtm_div, qtm_lbin, qtm_ldiv, qtm_lsh, qtm_lcmp, qtm_i2l, qtm_l2i, qtm_if, qtm_cmp, qtm_getf, qtm_puti, qtm_putz, qtm_putl, qtm_iald, qtm_iast, qtm_zald, qtm_zast, qtm_aald, qtm_tsw, qtm_callV, qtm_callS, qtm_acp, qtm_alen, qtm_max, qtm_min, qtm_dup, qtm_pop, qtm_iret, qtm_zret, qtm_lret, qtm_aret, qtm_vret, qtm_swn, qtm_swc, am_oi_c, am_ol_c, am_or_r, am_or_f, am_pi_c, am_pj_c, am_pr_c, am_pa_r, am_pa_f, am_yo_c, am_ya_c, am_fv_i, am_fv_l, am_fv_r, am_fi_c, am_fl_c, am_rv_c, am_n2_s, am_n2_n, am_pv_0, am_pv_s, am_cs_n, am_cs_c, Value.category, List.getElem?_cons_zero, List.getElem?_cons_succ, List.set_cons_zero, List.set_cons_succ, List.length_cons, List.length_nil, List.drop_succ_cons, List.drop_zero, List.take_succ_cons, List.take_zero, List.take_nil, List.reverse_cons, List.reverse_nil, List.nil_append, List.cons_append, List.append_nil, true_and, and_true, Int.reduceAdd, am_o0, am_o1, am_o2, am_o3, am_o4, am_o5, am_o6, am_o7, am_o8, am_o9, am_o10, am_o11, am_o12, am_o13, am_o14, am_o15, am_o16, am_o17, am_o18, am_o19, am_o20, am_o21, am_o22, am_o23, am_o24, am_o25, am_o26, am_o27, Nat.reduceAdd, Nat.reduceLeDiff, Nat.reduceLT, Nat.zero_le, qtm_slen, qtm_sch, am_pf_c]
      have g3 := g2.st k 0
      rw [ll, List.append_assoc, ← List.replicate_succ'] at g3
      exact ih _ (g1.tr (am_st_pk _ _ _ _)) g3)
  simp only [te_X0_putSteps_0, Int32.reduceLT, Int32.reduceLE, eq_self, am_10, am_00, am_01, am_11, true_implies, false_implies, not_true_eq_false, not_false_eq_true, or_true, true_or, and_self, implies_true, qtm_push, qtm_iload, qtm_lload, qtm_aload, qtm_istore, qtm_lstore, qtm_astore, qtm_iinc, qtm_un, qtm_bin, qtm_div, qtm_lbin, qtm_ldiv, qtm_lsh, qtm_lcmp, qtm_i2l, qtm_l2i, qtm_if, qtm_cmp, qtm_getf, qtm_puti, qtm_putz, qtm_putl, qtm_iald, qtm_iast, qtm_zald, qtm_zast, qtm_aald, qtm_tsw, qtm_callV, qtm_callS, qtm_acp, qtm_alen, qtm_max, qtm_min, qtm_dup, qtm_pop, qtm_iret, qtm_zret, qtm_lret, qtm_aret, qtm_vret, qtm_swn, qtm_swc, am_oi_c, am_ol_c, am_or_r, am_or_f, am_pi_c, am_pj_c, am_pr_c, am_pa_r, am_pa_f, am_yo_c, am_ya_c, am_fv_i, am_fv_l, am_fv_r, am_fi_c, am_fl_c, am_rv_c, am_n2_s, am_n2_n, am_pv_0, am_pv_s, am_cs_n, am_cs_c, Value.category, List.getElem?_cons_zero, List.getElem?_cons_succ, List.set_cons_zero, List.set_cons_succ, List.length_cons, List.length_nil, List.drop_succ_cons, List.drop_zero, List.take_succ_cons, List.take_zero, List.take_nil, List.reverse_cons, List.reverse_nil, List.nil_append, List.cons_append, List.append_nil, true_and, and_true, Int.reduceAdd, am_o0, am_o1, am_o2, am_o3, am_o4, am_o5, am_o6, am_o7, am_o8, am_o9, am_o10, am_o11, am_o12, am_o13, am_o14, am_o15, am_o16, am_o17, am_o18, am_o19, am_o20, am_o21, am_o22, am_o23, am_o24, am_o25, am_o26, am_o27, Nat.reduceAdd, Nat.reduceLeDiff, Nat.reduceLT, Nat.zero_le, qtm_slen, qtm_sch, am_pf_c]
  refine loop 0 (Nat.zero_le _) h (am_pk.rf h) ?_
  rw [List.replicate_zero, List.append_nil]
  exact hrr
end CON
/-- a reading method's contract: what it reads is P -/
def am_rc (d : Nat) (Y : List am_C) (tp : Nat → Int32) (tz : Nat) (y : am_Y) (o : Nat) (P : Nat → sp_R) : Prop := ∀ (h : am_H) (s : Nat) (l : List (Nat × Nat)) (K : List Value → List am_C → am_H → Prop), am_rd h tp tz s l → l.length ≤ s → (∀ h1, am_pk h h1 → (P s).1 = true → am_rd h1 tp tz (P s).2.1 (l ++ (P s).2.2) → K [.int 1] Y h1) → (∀ h1, am_pk h h1 → (P s).1 = false → am_rb h1 tp tz (P s).2.1 → K [.int 0] Y h1) → am_Met d 0 0 y [.ref 35, .int (nI o)] Y h K
