theorem sp_cdM_spl {f g : Nat → Int32} : ∀ (l m : List (Nat × Nat)) (i : Nat), sp_cdM f g i (l ++ m) → sp_cdM f g i l ∧ sp_cdM f g (i + l.length) m
  | [], _, _, h => ⟨trivial, h⟩
  | (k, v) :: l, m, i, h => by
    obtain ⟨a, b⟩ := sp_cdM_spl l m (i + 1) h.2.2
    refine ⟨⟨h.1, h.2.1, a⟩, ?_⟩
    rw [List.length_cons, show i + (l.length + 1) = i + 1 + l.length by omega]
    exact b
theorem sp_text_g {t : sp_K} {tz s0 e : Nat} {l1 l2 l3 : List (Nat × Nat)} (ht : sp_tk t tz) (h0 : s0 ≤ tz) (h : sp_text t s0 = (true, e, l1, l2, l3)) : l1.length + l2.length + l3.length + 6 ≤ tz ∧ sp_wf l1 0 ∧ sp_wf l2 0 ∧ sp_wf l3 0 := by
  obtain ⟨a1, a2, a3⟩ := sp_part_g ht h0 (show (4 : Nat) ≠ 0 ∧ (4 : Nat) ≠ 1 by decide)
  by_cases q1 : (sp_part t 4 s0).1 = true
  · obtain ⟨b1, b2, b3⟩ := sp_part_g ht a2 (show (5 : Nat) ≠ 0 ∧ (5 : Nat) ≠ 1 by decide)
    by_cases q2 : (sp_part t 5 (sp_part t 4 s0).2.1).1 = true
    · obtain ⟨c1, c2, c3⟩ := sp_part_g ht b2 (show (6 : Nat) ≠ 0 ∧ (6 : Nat) ≠ 1 by decide)
      by_cases q3 : (sp_part t 6 (sp_part t 5 (sp_part t 4 s0).2.1).2.1).1 = true
      · rw [sp_text_4 q1 q2 q3] at h
        split at h
        · injection h with _ h
          injection h with _ h
          injection h with e1 h
          injection h with e2 e3
          rw [← e1, ← e2, ← e3]
          have a3 := a3 q1
          have b3 := b3 q2
          have c3 := c3 q3
          exact ⟨by omega, a3.2, b3.2, c3.2⟩
        · injection h with h _
          exact absurd h (by decide)
      · rw [sp_text_3 q1 q2 (by simpa using q3)] at h
        injection h with h _
        exact absurd h (by decide)
    · rw [sp_text_2 q1 (by simpa using q2)] at h
      injection h with h _
      exact absurd h (by decide)
  · rw [sp_text_1 (by simpa using q1)] at h
    injection h with h _
    exact absurd h (by decide)
def sp_txT (l1 l2 l3 : List (Nat × Nat)) : am_F := fun p nm => sp_val nm (if p = 0 then l1 else if p = 1 then l2 else l3)
def am_S.rd (s : am_S) : Bool × Nat × List (Nat × Nat) × List (Nat × Nat) × List (Nat × Nat) := sp_text (sp_tkn s.tp s.tz) (sp_sk s.tp s.tz 0)
def sp_textO (s : am_S) : am_S × Int32 := if s.nT = 6 then (s, -4) else if s.rd.1 = true then ((s.sT (fun t => if t = s.nT then sp_txT s.rd.2.2.1 s.rd.2.2.2.1 s.rd.2.2.2.2 else s.T t) (s.nT + 1)).st s.tp 0, nI s.nT) else (s.st s.tp 0, -100 - nI s.rd.2.1)
theorem am_txM.mq {h h1 : am_H} {t t' : Nat} {f : am_F} (ht : am_txM h t' f) (k : am_mq t h h1) (hn : t' < t) : am_txM h1 t' f := by
  intro p hp
  obtain ⟨i0, ops, g1, g2, g3, g4, g5, g6⟩ := ht p hp
  refine ⟨i0, ops, ?_, ?_, g3, g4, sp_cdM_cong ops _ (fun j j1 j2 => k.2.1 j (by omega)) g5, g6⟩
  · rw [k.2.2.1 _ (by omega)]
    exact g1
  · rw [k.2.2.1 _ (by omega)]
    exact g2
theorem am_txM.nw {h : am_H} {t : Nat} {l1 l2 l3 : List (Nat × Nat)} (hl : l1.length + l2.length + l3.length ≤ 160) (w1 : sp_wf l1 0) (w2 : sp_wf l2 0) (w3 : sp_wf l3 0) (hc : sp_cdM (h 52) (h 53) (160 * t) (l1 ++ l2 ++ l3)) (e0 : h 54 (3 * t) = nI l1.length) (e1 : h 54 (3 * t + 1) = nI (l1.length + l2.length)) (e2 : h 54 (3 * t + 2) = nI (l1.length + l2.length + l3.length)) : am_txM h t (sp_txT l1 l2 l3) := by
  obtain ⟨c12, c3⟩ := sp_cdM_spl _ _ _ hc
  obtain ⟨c1, c2⟩ := sp_cdM_spl _ _ _ c12
  rw [List.length_append] at c3
  intro p hp
  rcases (show p = 0 ∨ p = 1 ∨ p = 2 by omega) with rfl | rfl | rfl
  · exact ⟨0, l1, rfl, e0.trans (by rw [Nat.zero_add]), by omega, w1, c1, fun nm => rfl⟩
  · exact ⟨l1.length, l2, e0, e1, by omega, w2, c2, fun nm => rfl⟩
  · exact ⟨l1.length + l2.length, l3, e1, e2, by omega, w3, c3, fun nm => rfl⟩
section CON
variable {d : Nat} {Y : List am_C} {h : am_H} {s : am_S} {K : List Value → List am_C → am_H → Prop}
set_option maxHeartbeats 4000000 in
set_option maxRecDepth 100000 in
theorem o_X6_text (hd : 62 ≤ d) (hM : am_Md Y h s) (hI : am_I s) (hK : ∀ h1, am_fM h h1 → am_Md Y h1 (sp_textO s).1 → K [.int (sp_textO s).2] Y h1) : am_Met d 0 0 YX6_text [.ref 49] Y h K := by
  refine en_X6_text fun X F hr => ?_
  have hM' := hM
  obtain ⟨hm, hR, hT, hk, ⟨hB, hC⟩, hD⟩ := hM
  have hm' := hm
  obtain ⟨m0, m1, m2, m3, m4, m5, m6, m7, m8, m9, m10, m11, m12, m13, m14, m15, m16, m17⟩ := hm
  have htz := hI.2.2.2.2.1
  have hnT := hI.2.2.2.1
  have hby := hI.2.2.2.2.2.1
  have e6 : (nI s.nT = 6) ↔ s.nT = 6 := nI_eq (b := 6) (by omega) (by decide)
  unfold sp_textO at hK
  have loop : s.nT < 6 → ∀ n i, i + n = s.tz → ∀ h' : am_H, (∀ a, a ≠ 50 → h' a = h a) → (∀ j, j < i → h' 50 (160 * s.nT + j) = s.tp j) → am_At X (am_MQ X K 0 0) 2 0 0 14 [.ref 49, .int (nI i)] [] Y h' := by
    intro h6 n
    induction n with
    | zero =>
      intro i hi h' g1 g2
      have ei : i = s.tz := by omega
      subst ei
      have e49 : h' 49 = h 49 := g1 49 (by decide)
      have e10 : am_up h' 51 s.nT (nI s.tz) 49 = h 49 := (am_up_ne 49 (by decide)).trans e49
      refine sd_X6_text_14 F hr _ _ _ _ ?_
      simp only [te_X6_text_14, te_X6_text_49, te_X6_text_90, te_X6_text_82, te_X6_text_22, m0, m2, m6, mc_0, mc_1, mc_2, mc_3, mc_4, mc_5, mc_6, mc_7, mc_8, mc_9, mc_10, mc_11, mc_12, mc_13, mc_14, mc_15, mc_16, mc_17, mc_18, mc_19, mc_20, mc_21, mc_22, mc_23, mc_24, mc_25, mc_26, mc_27, mc_28, mc_29, mc_30, mc_31, mc_32, mc_33, mc_34, mc_35, mc_36, mc_37, mc_38, mc_39, mc_40, mc_41, mc_42, mc_43, mc_44, mc_45, e49, e10, hB, hT.1, nI_clamp (show s.nT < 2 ^ 31 by omega), Int32.reduceLT, Int32.reduceLE, eq_self, am_10, am_00, am_01, am_11, true_implies, false_implies, not_true_eq_false, not_false_eq_true, or_true, true_or, and_self, implies_true, qtm_push, qtm_iload, qtm_lload, qtm_aload, qtm_istore, qtm_lstore, qtm_astore, qtm_iinc, qtm_un, qtm_bin, qtm_div, qtm_lbin, qtm_ldiv, qtm_lsh, qtm_lcmp, qtm_i2l, qtm_l2i, qtm_if, qtm_cmp, qtm_getf, qtm_puti, qtm_putz, qtm_putl, qtm_iald, qtm_iast, qtm_zald, qtm_zast, qtm_aald, qtm_tsw, qtm_callV, qtm_callS, qtm_acp, qtm_alen, qtm_max, qtm_min, qtm_dup, qtm_pop, qtm_iret, qtm_zret, qtm_lret, qtm_aret, qtm_vret, qtm_swn, qtm_swc, am_oi_c, am_ol_c, am_or_r, am_or_f, am_pi_c, am_pj_c, am_pr_c, am_pa_r, am_pa_f, am_yo_c, am_ya_c, am_fv_i, am_fv_l, am_fv_r, am_fi_c, am_fl_c, am_rv_c, am_n2_s, am_n2_n, am_pv_0, am_pv_s, am_cs_n, am_cs_c, Value.category, List.getElem?_cons_zero, List.getElem?_cons_succ, List.set_cons_zero, List.set_cons_succ, List.length_cons, List.length_nil, List.drop_succ_cons, List.drop_zero, List.take_succ_cons, List.take_zero, List.take_nil, List.reverse_cons, List.reverse_nil, List.nil_append, List.cons_append, List.append_nil, true_and, and_true, Int.reduceAdd, am_o0, am_o1, am_o2, am_o3, am_o4, am_o5, am_o6, am_o7, am_o8, am_o9, am_o10, am_o11, am_o12, am_o13, am_o14, am_o15, am_o16, am_o17, am_o18, am_o19, am_o20, am_o21, am_o22, am_o23, am_o24, am_o25, am_o26, am_o27, Nat.reduceAdd, Nat.reduceLeDiff, Nat.reduceLT, Nat.zero_le, qtm_slen, qtm_sch, am_pf_c]
      refine ⟨fun _ => ⟨vp_in_nI h6 (by decide), by omega, ?_⟩, fun z => absurd (nI_le (Nat.le_refl _) (by omega)) z⟩
      have e3 : am_up (am_up h' 51 s.nT (nI s.tz)) 49 10 0 49 3 = nI s.nT := by rw [am_up_ap, if_pos rfl, if_neg (by decide), e10]; exact hT.1
      rw [e3]
      generalize hE : am_up (am_up h' 51 s.nT (nI s.tz)) 49 10 0 = h2 at e3 ⊢
      have r10 : h2 49 10 = 0 := by rw [← hE, am_up_ap, if_pos rfl, if_pos rfl]
      have r49 : ∀ k, k ≠ 10 → h2 49 k = h 49 k := fun k q => by rw [← hE, am_up_ap, if_pos rfl, if_neg q, e10]
      have r50 : h2 50 = h' 50 := by rw [← hE, am_up_ne 50 (by decide), am_up_ne 50 (by decide)]
      have r51 : h2 51 s.nT = nI s.tz := by rw [← hE, am_up_ne 51 (by decide), am_up_ap, if_pos rfl, if_pos rfl]
      have ro : ∀ a, a ≠ 49 → a ≠ 50 → a ≠ 51 → h2 a = h a := fun a q1 q2 q3 => by rw [← hE, am_up_ne a q1, am_up_ne a q3, g1 a q2]
      have md : ∀ (hF : am_H) (T : Nat → am_F) (nT : Nat), am_mq s.nT h2 hF → hF 49 10 = 0 → am_MT hF T nT → am_Md Y hF ((s.sT T nT).st s.tp 0) := by
        intro hF T nT q q10 qT
        have fo : ∀ a, 54 < a → hF a = h a := fun a z => (q.1 a (by omega) (by omega) (by omega) (by omega)).trans (ro a (by omega) (by omega) (by omega))
        have f49 : ∀ k, k ≠ 8 → k ≠ 10 → (k < 22 ∨ 30 < k) → hF 49 k = h 49 k := fun k z1 z2 z3 => (q.2.2.2 k z1 z3).trans (r49 k z2)
        exact ⟨hm', hR.cong (fun k _ => by rw [fo 57 (by decide)]) (fun k _ => by rw [fo 56 (by decide)]) (fun k hk => f49 k (by omega) (by omega) (by omega)), qT, hk.cong (fun k _ _ => f49 k (by omega) (by omega) (by omega)) fun a _ _ => fo a (by omega), ⟨q10, fun i hi => absurd hi (Nat.not_lt_zero i)⟩, hD.cong fun a _ _ => fo a (by omega)⟩
      have fM2 : ∀ hF : am_H, am_mq s.nT h2 hF → am_fM h hF := fun hF q a ha => (q.1 a (by omega) (by omega) (by omega) (by omega)).trans (ro a (by omega) (by omega) (by omega))
      have old : ∀ hF : am_H, am_mq s.nT h2 hF → ∀ t', t' < s.nT → am_txM hF t' (s.T t') := fun hF q t' ht' => ((hT.2 t' ht').keep (ro 52 (by decide) (by decide) (by decide)) (ro 53 (by decide) (by decide) (by decide)) (ro 54 (by decide) (by decide) (by decide))).mq q ht'
      refine c_X6_read (tp := s.tp) (tz := s.tz) (by omega) hm' htz h6 r51 (fun i hi => ?_) (fun h3 e l1 l2 l3 q tx b cd x0 x1 x2 => ?_) (fun h3 e q tx b => ?_)
      · rw [r50, g2 i hi]
        exact ⟨rfl, hby i hi⟩
      · have f3 : h3 49 3 = nI s.nT := (q.2.2.2 3 (by decide) (by decide)).trans e3
        simp only [m0, mc_0, mc_1, mc_2, mc_3, mc_4, mc_5, mc_6, mc_7, mc_8, mc_9, mc_10, mc_11, mc_12, mc_13, mc_14, mc_15, mc_16, mc_17, mc_18, mc_19, mc_20, mc_21, mc_22, mc_23, mc_24, mc_25, mc_26, mc_27, mc_28, mc_29, mc_30, mc_31, mc_32, mc_33, mc_34, mc_35, mc_36, mc_37, mc_38, mc_39, mc_40, mc_41, mc_42, mc_43, mc_44, mc_45, am_up_ap, reduceIte, Nat.reduceEqDiff, Nat.add_eq_left, Nat.left_eq_add, Nat.add_left_cancel_iff, am_t0, am_t1, am_t2, am_t3, am_t4, am_t5, am_t6, am_t7, am_t8, am_t9, am_t10, am_t11, b, f3, Int32.reduceLT, Int32.reduceLE, eq_self, am_10, am_00, am_01, am_11, true_implies, false_implies, not_true_eq_false, not_false_eq_true, or_true, true_or, and_self, implies_true, qtm_push, qtm_iload, qtm_lload, qtm_aload, qtm_istore, qtm_lstore, qtm_astore, qtm_iinc, qtm_un, qtm_bin, qtm_div, qtm_lbin, qtm_ldiv, qtm_lsh, qtm_lcmp, qtm_i2l, qtm_l2i, qtm_if, qtm_cmp, qtm_getf, qtm_puti, qtm_putz, qtm_putl, qtm_iald, qtm_iast, qtm_zald, qtm_zast, qtm_aald, qtm_tsw, qtm_callV, qtm_callS, qtm_acp, qtm_alen, qtm_max, qtm_min, qtm_dup, qtm_pop, qtm_iret, qtm_zret, qtm_lret, qtm_aret, qtm_vret, qtm_swn, qtm_swc, am_oi_c, am_ol_c, am_or_r, am_or_f, am_pi_c, am_pj_c, am_pr_c, am_pa_r, am_pa_f, am_yo_c, am_ya_c, am_fv_i, am_fv_l, am_fv_r, am_fi_c, am_fl_c, am_rv_c, am_n2_s, am_n2_n, am_pv_0, am_pv_s, am_cs_n, am_cs_c, Value.category, List.getElem?_cons_zero, List.getElem?_cons_succ, List.set_cons_zero, List.set_cons_succ, List.length_cons, List.length_nil, List.drop_succ_cons, List.drop_zero, List.take_succ_cons, List.take_zero, List.take_nil, List.reverse_cons, List.reverse_nil, List.nil_append, List.cons_append, List.append_nil, true_and, and_true, Int.reduceAdd, am_o0, am_o1, am_o2, am_o3, am_o4, am_o5, am_o6, am_o7, am_o8, am_o9, am_o10, am_o11, am_o12, am_o13, am_o14, am_o15, am_o16, am_o17, am_o18, am_o19, am_o20, am_o21, am_o22, am_o23, am_o24, am_o25, am_o26, am_o27, Nat.reduceAdd, Nat.reduceLeDiff, Nat.reduceLT, Nat.zero_le, qtm_slen, qtm_sch, am_pf_c]
        have ht := sp_tkn_ok (tp := s.tp) htz
        obtain ⟨y1, y2, y3, y4⟩ := sp_text_g ht (sp_sk_le (tp := s.tp) (tz := s.tz) (Nat.zero_le s.tz)).2 tx
        have hF49 : ∀ k, k ≠ 3 → am_up h3 49 3 (nI s.nT + 1) 49 k = h3 49 k := fun k z => by rw [am_up_ap, if_pos rfl, if_neg z]
        have q' : am_mq s.nT h2 h3 := q
        rw [if_neg (by omega), show s.rd = _ from tx, if_pos rfl] at hK
        rw [show nI s.nT + 1 - 1 = nI s.nT from Int32.add_sub_cancel _ _]
        refine hK _ ((fM2 h3 q).up 49 3 _ (by decide)) ?_
        have g := md h3 (fun t => if t = s.nT then sp_txT l1 l2 l3 else s.T t) s.nT q ((q.2.2.2 10 (by decide) (by decide)).trans r10) ⟨f3, fun t' ht' => by show am_txM h3 t' (if t' = s.nT then _ else s.T t'); have l2 : t' < s.nT := ht'; rw [if_neg (by omega)]; exact old h3 q t' l2⟩
        obtain ⟨v1, v2, v3, v4, v5, v6⟩ := g
        refine ⟨v1, v2.cong (fun k _ => by rw [am_up_ne 57 (by decide)]) (fun k _ => by rw [am_up_ne 56 (by decide)]) (fun k hk => hF49 k (by omega)), ⟨?_, fun t' ht' => ?_⟩, v4.cong (fun k _ _ => hF49 k (by omega)) (fun a _ _ => am_up_ne a (by omega)), ⟨(hF49 10 (by decide)).trans v5.1, fun i hi => absurd hi (Nat.not_lt_zero i)⟩, v6.cong fun a _ _ => am_up_ne a (by omega)⟩
        · rw [am_up_ap, if_pos rfl, if_pos rfl]
          exact nI_add s.nT 1
        · refine am_txM.keep ?_ (am_up_ne 52 (by decide)) (am_up_ne 53 (by decide)) (am_up_ne 54 (by decide))
          by_cases z : t' = s.nT
          · subst z
            show am_txM h3 s.nT (if s.nT = s.nT then sp_txT l1 l2 l3 else s.T s.nT)
            rw [if_pos rfl]
            exact am_txM.nw (by omega) y2 y3 y4 cd x0 x1 x2
          · have l1 : t' < s.nT + 1 := ht'
            have l2 : t' < s.nT := by omega
            exact v3.2 t' l2
      · simp only [m0, mc_0, mc_1, mc_2, mc_3, mc_4, mc_5, mc_6, mc_7, mc_8, mc_9, mc_10, mc_11, mc_12, mc_13, mc_14, mc_15, mc_16, mc_17, mc_18, mc_19, mc_20, mc_21, mc_22, mc_23, mc_24, mc_25, mc_26, mc_27, mc_28, mc_29, mc_30, mc_31, mc_32, mc_33, mc_34, mc_35, mc_36, mc_37, mc_38, mc_39, mc_40, mc_41, mc_42, mc_43, mc_44, mc_45, b.1, b.2, Int32.reduceLT, Int32.reduceLE, eq_self, am_10, am_00, am_01, am_11, true_implies, false_implies, not_true_eq_false, not_false_eq_true, or_true, true_or, and_self, implies_true, qtm_push, qtm_iload, qtm_lload, qtm_aload, qtm_istore, qtm_lstore, qtm_astore, qtm_iinc, qtm_un, qtm_bin, qtm_div, qtm_lbin, qtm_ldiv, qtm_lsh, qtm_lcmp, qtm_i2l, qtm_l2i, qtm_if, qtm_cmp, qtm_getf, qtm_puti, qtm_putz, qtm_putl, qtm_iald, qtm_iast, qtm_zald, qtm_zast, qtm_aald, qtm_tsw, qtm_callV, qtm_callS, qtm_acp, qtm_alen, qtm_max, qtm_min, qtm_dup, qtm_pop, qtm_iret, qtm_zret, qtm_lret, qtm_aret, qtm_vret, qtm_swn, qtm_swc, am_oi_c, am_ol_c, am_or_r, am_or_f, am_pi_c, am_pj_c, am_pr_c, am_pa_r, am_pa_f, am_yo_c, am_ya_c, am_fv_i, am_fv_l, am_fv_r, am_fi_c, am_fl_c, am_rv_c, am_n2_s, am_n2_n, am_pv_0, am_pv_s, am_cs_n, am_cs_c, Value.category, List.getElem?_cons_zero, List.getElem?_cons_succ, List.set_cons_zero, List.set_cons_succ, List.length_cons, List.length_nil, List.drop_succ_cons, List.drop_zero, List.take_succ_cons, List.take_zero, List.take_nil, List.reverse_cons, List.reverse_nil, List.nil_append, List.cons_append, List.append_nil, true_and, and_true, Int.reduceAdd, am_o0, am_o1, am_o2, am_o3, am_o4, am_o5, am_o6, am_o7, am_o8, am_o9, am_o10, am_o11, am_o12, am_o13, am_o14, am_o15, am_o16, am_o17, am_o18, am_o19, am_o20, am_o21, am_o22, am_o23, am_o24, am_o25, am_o26, am_o27, Nat.reduceAdd, Nat.reduceLeDiff, Nat.reduceLT, Nat.zero_le, qtm_slen, qtm_sch, am_pf_c]
        rw [if_neg (by omega), show s.rd = _ from tx, if_neg (fun z => Bool.noConfusion z)] at hK
        exact hK h3 (fM2 h3 q) (md h3 s.T s.nT q ((q.2.2.2 10 (by decide) (by decide)).trans r10) ⟨(q.2.2.2 3 (by decide) (by decide)).trans e3, old h3 q⟩)
    | succ n ih =>
      intro i hi h' g1 g2
      have e49 : h' 49 = h 49 := g1 49 (by decide)
      have e : (nI s.tz ≤ nI i) ↔ s.tz ≤ i := nI_leI (by omega) (by omega)
      refine sd_X6_text_14 F hr _ _ _ _ ?_
      simp only [te_X6_text_14, te_X6_text_49, te_X6_text_90, te_X6_text_82, te_X6_text_22, m0, m1, m6, mc_0, mc_1, mc_2, mc_3, mc_4, mc_5, mc_6, mc_7, mc_8, mc_9, mc_10, mc_11, mc_12, mc_13, mc_14, mc_15, mc_16, mc_17, mc_18, mc_19, mc_20, mc_21, mc_22, mc_23, mc_24, mc_25, mc_26, mc_27, mc_28, mc_29, mc_30, mc_31, mc_32, mc_33, mc_34, mc_35, mc_36, mc_37, mc_38, mc_39, mc_40, mc_41, mc_42, mc_43, mc_44, mc_45, e49, hB, e, hT.1, am_m160, nI_add, nI_1, nI_clamp (show 160 * s.nT + i < 2 ^ 31 by omega), nI_clamp (show i < 2 ^ 31 by omega), Int32.reduceLT, Int32.reduceLE, eq_self, am_10, am_00, am_01, am_11, true_implies, false_implies, not_true_eq_false, not_false_eq_true, or_true, true_or, and_self, implies_true, qtm_push, qtm_iload, qtm_lload, qtm_aload, qtm_istore, qtm_lstore, qtm_astore, qtm_iinc, qtm_un, qtm_bin, qtm_div, qtm_lbin, qtm_ldiv, qtm_lsh, qtm_lcmp, qtm_i2l, qtm_l2i, qtm_if, qtm_cmp, qtm_getf, qtm_puti, qtm_putz, qtm_putl, qtm_iald, qtm_iast, qtm_zald, qtm_zast, qtm_aald, qtm_tsw, qtm_callV, qtm_callS, qtm_acp, qtm_alen, qtm_max, qtm_min, qtm_dup, qtm_pop, qtm_iret, qtm_zret, qtm_lret, qtm_aret, qtm_vret, qtm_swn, qtm_swc, am_oi_c, am_ol_c, am_or_r, am_or_f, am_pi_c, am_pj_c, am_pr_c, am_pa_r, am_pa_f, am_yo_c, am_ya_c, am_fv_i, am_fv_l, am_fv_r, am_fi_c, am_fl_c, am_rv_c, am_n2_s, am_n2_n, am_pv_0, am_pv_s, am_cs_n, am_cs_c, Value.category, List.getElem?_cons_zero, List.getElem?_cons_succ, List.set_cons_zero, List.set_cons_succ, List.length_cons, List.length_nil, List.drop_succ_cons, List.drop_zero, List.take_succ_cons, List.take_zero, List.take_nil, List.reverse_cons, List.reverse_nil, List.nil_append, List.cons_append, List.append_nil, true_and, and_true, Int.reduceAdd, am_o0, am_o1, am_o2, am_o3, am_o4, am_o5, am_o6, am_o7, am_o8, am_o9, am_o10, am_o11, am_o12, am_o13, am_o14, am_o15, am_o16, am_o17, am_o18, am_o19, am_o20, am_o21, am_o22, am_o23, am_o24, am_o25, am_o26, am_o27, Nat.reduceAdd, Nat.reduceLeDiff, Nat.reduceLT, Nat.zero_le, qtm_slen, qtm_sch, am_pf_c]
      refine ⟨fun z => absurd z (by omega), fun _ => ⟨vp_in_nI (by omega) (by decide), vp_in_nI (by omega) (by decide), ?_⟩⟩
      refine ih (i + 1) (by omega) _ (fun a q => (am_up_ne a q).trans (g1 a q)) fun j hj => ?_
      rw [am_up_ap, if_pos rfl]
      by_cases z : j = i
      · rw [if_pos (by omega), g1 55 (by decide), z]
        exact hC i (by omega)
      · rw [if_neg (by omega)]
        exact g2 j (by omega)
  simp only [te_X6_text_0, te_X6_text_9, te_X6_text_12, m0, mc_0, mc_1, mc_2, mc_3, mc_4, mc_5, mc_6, mc_7, mc_8, mc_9, mc_10, mc_11, mc_12, mc_13, mc_14, mc_15, mc_16, mc_17, mc_18, mc_19, mc_20, mc_21, mc_22, mc_23, mc_24, mc_25, mc_26, mc_27, mc_28, mc_29, mc_30, mc_31, mc_32, mc_33, mc_34, mc_35, mc_36, mc_37, mc_38, mc_39, mc_40, mc_41, mc_42, mc_43, mc_44, mc_45, hT.1, e6, Int32.reduceLT, Int32.reduceLE, eq_self, am_10, am_00, am_01, am_11, true_implies, false_implies, not_true_eq_false, not_false_eq_true, or_true, true_or, and_self, implies_true, qtm_push, qtm_iload, qtm_lload, qtm_aload, qtm_istore, qtm_lstore, qtm_astore, qtm_iinc, qtm_un, qtm_bin, qtm_div, qtm_lbin, qtm_ldiv, qtm_lsh, qtm_lcmp, qtm_i2l, qtm_l2i, qtm_if, qtm_cmp, qtm_getf, qtm_puti, qtm_putz, qtm_putl, qtm_iald, qtm_iast, qtm_zald, qtm_zast, qtm_aald, qtm_tsw, qtm_callV, qtm_callS, qtm_acp, qtm_alen, qtm_max, qtm_min, qtm_dup, qtm_pop, qtm_iret, qtm_zret, qtm_lret, qtm_aret, qtm_vret, qtm_swn, qtm_swc, am_oi_c, am_ol_c, am_or_r, am_or_f, am_pi_c, am_pj_c, am_pr_c, am_pa_r, am_pa_f, am_yo_c, am_ya_c, am_fv_i, am_fv_l, am_fv_r, am_fi_c, am_fl_c, am_rv_c, am_n2_s, am_n2_n, am_pv_0, am_pv_s, am_cs_n, am_cs_c, Value.category, List.getElem?_cons_zero, List.getElem?_cons_succ, List.set_cons_zero, List.set_cons_succ, List.length_cons, List.length_nil, List.drop_succ_cons, List.drop_zero, List.take_succ_cons, List.take_zero, List.take_nil, List.reverse_cons, List.reverse_nil, List.nil_append, List.cons_append, List.append_nil, true_and, and_true, Int.reduceAdd, am_o0, am_o1, am_o2, am_o3, am_o4, am_o5, am_o6, am_o7, am_o8, am_o9, am_o10, am_o11, am_o12, am_o13, am_o14, am_o15, am_o16, am_o17, am_o18, am_o19, am_o20, am_o21, am_o22, am_o23, am_o24, am_o25, am_o26, am_o27, Nat.reduceAdd, Nat.reduceLeDiff, Nat.reduceLT, Nat.zero_le, qtm_slen, qtm_sch, am_pf_c]
  refine ⟨fun z => ?_, fun z => ?_⟩
  · rw [if_pos z] at hK
    exact hK h (am_fM.rf h) hM'
  · exact loop (by omega) s.tz 0 (by omega) h (fun _ _ => rfl) (fun j hj => absurd hj (by omega))
end CON
