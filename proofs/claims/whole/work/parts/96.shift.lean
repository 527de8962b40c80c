/-! who should start how late -/
def sp_cN (g : Nat → Int32) : Nat → Nat
  | 0 => 0
  | k + 1 => if g k = 0 then sp_cN g k + 1 else sp_cN g k
theorem sp_cN_le (g : Nat → Int32) : ∀ k, sp_cN g k ≤ k
  | 0 => Nat.le_refl 0
  | k + 1 => by
    have := sp_cN_le g k
    rw [sp_cN]
    split <;> omega
theorem sp_cN_mono (g : Nat → Int32) {a b : Nat} (h : a ≤ b) : sp_cN g a ≤ sp_cN g b := by
  induction b with
  | zero => rw [Nat.le_zero.mp h]; exact Nat.le_refl _
  | succ b ih =>
    rcases Nat.lt_or_ge a (b + 1) with q | q
    · have := ih (by omega)
      rw [sp_cN]
      split <;> omega
    · rw [show a = b + 1 by omega]; exact Nat.le_refl _
theorem sp_cnt_cN (g : Nat → Int32) : ∀ k, sp_cnt g 0 k = nI (sp_cN g k)
  | 0 => rfl
  | k + 1 => by
    rw [sp_cnt, sp_cN]
    split
    · rw [sp_cnt_cN g k, nI_1]
    · exact sp_cnt_cN g k
/-- who starts how late in the way numbered x: 0 for who isn't at home -/
def sp_pl (g : Nat → Int32) (n x p : Nat) : Nat := if g p = 0 then x / 4 ^ (sp_cN g n - sp_cN g (p + 1)) % 4 + 1 else 0
def sp_dig (q : Nat → Nat) : Nat → Nat
  | 0 => 0
  | k + 1 => 10 * sp_dig q k + q k
theorem sp_pl_le (g : Nat → Int32) (n x p : Nat) : sp_pl g n x p ≤ 4 := by
  unfold sp_pl
  split <;> omega
theorem sp_dig_lt {q : Nat → Nat} (hq : ∀ p, q p ≤ 4) : ∀ k, sp_dig q k < 10 ^ k
  | 0 => by rw [sp_dig]; decide
  | k + 1 => by
    have h1 := sp_dig_lt hq k
    have h2 := hq k
    rw [sp_dig, Nat.pow_succ]
    omega
/-- those start whose hour it is -/
def sp_st (q : Nat → Nat) (n t : Nat) (w : am_H) : am_H := fun j i => if j = 7 ∧ i < n ∧ t < 3 ∧ q i = t + 1 then 1 else w j i
def sp_sw (f : am_F) (w : am_H) (n : Nat) (q : Nat → Nat) : Nat → am_H
  | 0 => sp_st q n 0 w
  | t + 1 => sp_st q n (t + 1) (sp_hour f (sp_sw f w n q t) n)
def sp_bs (f : am_F) (w : am_H) (n N : Nat) : Nat → Int32 × Int32 × Int32
  | 0 => (0, -1, 0)
  | x + 1 => if (sp_bs f w n N x).2.1 < sp_cnt ((sp_sw f w n (sp_pl (w 7) n x) N) 7) 3 n ∨ (sp_cnt ((sp_sw f w n (sp_pl (w 7) n x) N) 7) 3 n = (sp_bs f w n N x).2.1 ∧ sp_cnt ((sp_sw f w n (sp_pl (w 7) n x) N) 7) 2 n < (sp_bs f w n N x).2.2) then (nI (sp_dig (sp_pl (w 7) n x) n), sp_cnt ((sp_sw f w n (sp_pl (w 7) n x) N) 7) 3 n, sp_cnt ((sp_sw f w n (sp_pl (w 7) n x) N) 7) 2 n) else sp_bs f w n N x
def sp_shifts (s : am_S) (k what : Int32) : Int32 := if am_is 13 k = true ∧ am_is 3 what = true then (if what = 0 then (sp_bs (s.T s.ru) s.w s.n k.toNatClampNeg (4 ^ sp_cN (s.w 7) s.n)).1 else if what = 1 then (sp_bs (s.T s.ru) s.w s.n k.toNatClampNeg (4 ^ sp_cN (s.w 7) s.n)).2.1 else (sp_bs (s.T s.ru) s.w s.n k.toNatClampNeg (4 ^ sp_cN (s.w 7) s.n)).2.2) else -2
/-! who is at home stays there -/
theorem sp_free_h {w : am_H} {c : Int32} {p : Nat} (h : w 7 p = 0) : ∀ n, (sp_free w c n) 7 p = 0
  | 0 => h
  | n + 1 => by
    have ih := sp_free_h (c := c) h n
    rw [sp_free]
    split
    · rename_i hc
      rw [am_up_ap, if_pos rfl]
      by_cases e : p = n
      · subst e
        rw [ih] at hc
        exact absurd hc.2 (by decide)
      · rw [if_neg e]; exact ih
    · exact ih
theorem sp_come_h {w : am_H} {n p q : Nat} {tr : Int32} (h : w 7 p = 0) (hp : p ≠ q) : (sp_come w n q tr) 7 p = 0 := by
  unfold sp_come
  split
  · refine sp_free_h ?_ n
    rw [am_up_ne 7 (by decide), am_up_ne 7 (by decide)]
    exact h
  · rw [am_up_ap, if_pos rfl, if_neg hp]; exact h
theorem sp_steps_h {n p q : Nat} {tr : Int32} (hp : p ≠ q) : ∀ k (w : am_H), w 7 p = 0 → (sp_steps n q tr k w) 7 p = 0
  | 0, w, h => h
  | k + 1, w, h => by
    rw [sp_steps]
    split
    · exact sp_steps_h hp k _ (sp_come_h h hp)
    · exact h
theorem sp_go_h {f : am_F} {w : am_H} {n p q : Nat} (h : w 7 p = 0) (hp : p ≠ q) : (sp_go f w n q) 7 p = 0 := by
  unfold sp_go sp_sink
  have h1 := sp_steps_h (n := n) (tr := sp_treads f w n q) hp (sp_pace f w n q).toNatClampNeg (am_up w 5 q (sp_bd (w 5 q + sp_doubts f w n q) 0 99)) (by rw [am_up_ne 7 (by decide)]; exact h)
  split
  · rw [am_up_ap, if_pos rfl, if_neg hp]; exact h1
  · exact h1
theorem sp_pass_h {f : am_F} {w : am_H} {n p : Nat} (h : w 7 p = 0) : ∀ k, (sp_pass f w n k) 7 p = 0
  | 0 => h
  | k + 1 => by
    have ih := sp_pass_h (f := f) (n := n) h k
    rw [sp_pass]
    split
    · rename_i hc
      refine sp_go_h ih fun e => ?_
      subst e
      rw [ih] at hc
      exact absurd hc (by decide)
    · exact ih
theorem sp_hour_h {f : am_F} {w : am_H} {n p : Nat} (h : w 7 p = 0) : (sp_hour f w n) 7 p = 0 := by
  unfold sp_hour
  rw [am_up_ne 7 (by decide)]
  show (if (7 : Nat) = 1 then _ else (sp_pass f w n n) 7 p) = 0
  rw [if_neg (by decide)]
  exact sp_pass_h h n
theorem sp_st_h {q : Nat → Nat} {n t : Nat} {w : am_H} {p : Nat} (h : w 7 p = 0) (hp : t + 1 < q p) : (sp_st q n t w) 7 p = 0 := by
  unfold sp_st
  rw [if_neg (fun z => by have := z.2.2.2; omega)]
  exact h
theorem sp_sw_h {f : am_F} {w : am_H} {n : Nat} {q : Nat → Nat} (hq : ∀ p, q p ≠ 0 → w 7 p = 0) : ∀ t p, t + 1 < q p → (sp_sw f w n q t) 7 p = 0
  | 0, p, hp => sp_st_h (hq p (by omega)) hp
  | t + 1, p, hp => sp_st_h (sp_hour_h (sp_sw_h hq t p (by omega))) hp
/-- those who start now are at home -/
theorem sp_st_cnt {q : Nat → Nat} {n t : Nat} {w : am_H} {a : Int32} (ha0 : a ≠ 0) (ha1 : a ≠ 1) (hq : ∀ p, q p = t + 1 → w 7 p = 0) : ∀ k, sp_cnt ((sp_st q n t w) 7) a k = sp_cnt (w 7) a k
  | 0 => rfl
  | k + 1 => by
    rw [sp_cnt, sp_cnt, sp_st_cnt ha0 ha1 hq k]
    have e : ((sp_st q n t w) 7 k = a) ↔ (w 7 k = a) := by
      unfold sp_st
      split
      · rename_i hc
        rw [hq k hc.2.2.2]
        exact ⟨fun z => absurd z.symm ha1, fun z => absurd z.symm ha0⟩
      · exact Iff.rfl
    by_cases z : w 7 k = a
    · rw [if_pos z, if_pos (e.mpr z)]
    · rw [if_neg z, if_neg (fun y => z (e.mp y))]
theorem sp_st_WI {q : Nat → Nat} {n t : Nat} {w : am_H} (h : am_WI w n) : am_WI (sp_st q n t w) n := by
  obtain ⟨g1, g2, g3, g4, g5⟩ := h
  have e : ∀ j i, j ≠ 7 → (sp_st q n t w) j i = w j i := fun j i hj => by unfold sp_st; rw [if_neg (fun z => hj z.1)]
  exact ⟨by rw [e 0 8 (by decide)]; exact g1, g2, fun p hp => by rw [e 6 p (by decide)]; exact g3 p hp, fun i hi => by rw [e 1 i (by decide)]; exact g4 i hi, by rw [e 0 10 (by decide)]; exact g5⟩
theorem sp_st_0 {q : Nat → Nat} {n t : Nat} {w : am_H} (i : Nat) : (sp_st q n t w) 0 i = w 0 i := by unfold sp_st; rw [if_neg (fun z => absurd z.1 (by decide))]
theorem sp_sw_WI {f : am_F} {w : am_H} {n : Nat} {q : Nat → Nat} (h : am_WI w n) : ∀ t, am_WI (sp_sw f w n q t) n
  | 0 => sp_st_WI h
  | t + 1 => sp_st_WI (sp_hour_WI (sp_sw_WI h t))
theorem sp_sw_11 {f : am_F} {w : am_H} {n : Nat} {q : Nat → Nat} : ∀ t, (sp_sw f w n q t) 0 11 = w 0 11
  | 0 => sp_st_0 11
  | t + 1 => by rw [sp_sw, sp_st_0, sp_hour_0 _ _ _ 11 (by decide), sp_sw_11 t]
theorem sp_sw_9 {f : am_F} {w : am_H} {n u : Nat} {q : Nat → Nat} (hu : w 0 9 = nI u) : ∀ t, (sp_sw f w n q t) 0 9 = nI (u + t)
  | 0 => by rw [sp_sw, sp_st_0]; exact hu
  | t + 1 => by rw [sp_sw, sp_st_0, sp_hour_9 _ _ _ (u + t) (sp_sw_9 hu t)]; rfl
theorem sp_cnt_is (g : Nat → Int32) (a : Int32) : ∀ k, ∃ j, j ≤ k ∧ sp_cnt g a k = nI j
  | 0 => ⟨0, Nat.le_refl 0, rfl⟩
  | k + 1 => by
    obtain ⟨j, h1, h2⟩ := sp_cnt_is g a k
    rw [sp_cnt]
    split
    · exact ⟨j + 1, by omega, by rw [h2, nI_1]⟩
    · exact ⟨j, by omega, h2⟩
section CON
variable {d n : Nat} {Y : List am_C} {h w : am_H} {s : am_S} {K : List Value → List am_C → am_H → Prop}
set_option maxHeartbeats 4000000 in
set_option maxRecDepth 100000 in
theorem c_X5_layPlan {x : Nat} (hC : am_Cl Y h s) (hI : am_I s) (hx : x < 2 ^ 30) (hK : ∀ h1, (∀ a, a ≠ 40 → h1 a = h a) → (∀ p, p < s.n → h1 40 p = nI (sp_pl (s.w 7) s.n x p)) → K [] Y h1) : am_Met d 0 0 YX5_layPlan [.ref 0, .int (nI x)] Y h K := by
  refine en_X5_layPlan fun X F hr => ?_
  obtain ⟨hO, hR, hk, hT, hA, hD⟩ := id hC
  obtain ⟨o0, o1, o2, o3, o35, o36, o37, o38, o39, o40, o41⟩ := id hO
  have v8 : Y[8]? = some (0, 5, []) := o1.2.2.2.2.2.2.2.1
  have h5 := hI.1.1.2.1
  have e8 : h 1 8 = nI s.n := (hR.2.2 8 (by decide) (by decide)).trans hI.1.1.1
  have loop : ∀ m, m ≤ s.n → ∀ h' : am_H, (∀ a, a ≠ 40 → h' a = h a) → (∀ p, m ≤ p → p < s.n → h' 40 p = nI (sp_pl (s.w 7) s.n x p)) → am_At X (am_MQ X K 0 0) 4 0 0 12 [.ref 0, .int (nI x), .int (nI (x / 4 ^ (sp_cN (s.w 7) s.n - sp_cN (s.w 7) m))), .int (nI m + (-1))] [] Y h' := by
    intro m
    induction m with
    | zero =>
      intro _ h' g1 g2
      refine sd_X5_layPlan_12 F hr _ _ _ _ ?_
      simp only [te_X5_layPlan_12, te_X5_layPlan_59, te_X5_layPlan_16, te_X5_layPlan_46, te_X5_layPlan_53, te_X5_layPlan_28, o0, Int32.reduceLT, Int32.reduceLE, eq_self, am_10, am_00, am_01, am_11, true_implies, false_implies, not_true_eq_false, not_false_eq_true, or_true, true_or, and_self, implies_true, qtm_push, qtm_iload, qtm_lload, qtm_aload, qtm_istore, qtm_lstore, qtm_astore, qtm_iinc, qtm_un, qtm_bin, qtm_div, qtm_lbin, qtm_ldiv, qtm_lsh, qtm_lcmp, qtm_i2l, qtm_l2i, qtm_if, qtm_cmp, qtm_getf, qtm_puti, qtm_putz, qtm_putl, qtm_iald, qtm_iast, qtm_zald, qtm_zast, qtm_aald, qtm_tsw, qtm_callV, qtm_callS, qtm_acp, qtm_alen, qtm_max, qtm_min, qtm_dup, qtm_pop, qtm_iret, qtm_zret, qtm_lret, qtm_aret, qtm_vret, qtm_swn, qtm_swc, am_oi_c, am_ol_c, am_or_r, am_or_f, am_pi_c, am_pj_c, am_pr_c, am_pa_r, am_pa_f, am_yo_c, am_ya_c, am_fv_i, am_fv_l, am_fv_r, am_fi_c, am_fl_c, am_rv_c, am_n2_s, am_n2_n, am_pv_0, am_pv_s, am_cs_n, am_cs_c, Value.category, List.getElem?_cons_zero, List.getElem?_cons_succ, List.set_cons_zero, List.set_cons_succ, List.length_cons, List.length_nil, List.drop_succ_cons, List.drop_zero, List.take_succ_cons, List.take_zero, List.take_nil, List.reverse_cons, List.reverse_nil, List.nil_append, List.cons_append, List.append_nil, true_and, and_true, Int.reduceAdd, am_o0, am_o1, am_o2, am_o3, am_o4, am_o5, am_o6, am_o7, am_o8, am_o9, am_o10, am_o11, am_o12, am_o13, am_o14, am_o15, am_o16, am_o17, am_o18, am_o19, am_o20, am_o21, am_o22, am_o23, am_o24, am_o25, am_o26, am_o27, Nat.reduceAdd, Nat.reduceLeDiff, Nat.reduceLT, Nat.zero_le]
      exact ⟨fun _ => hK h' g1 fun p hp => g2 p (Nat.zero_le p) hp, fun y => absurd (by decide) y⟩
    | succ m ih =>
      intro hm h' g1 g2
      have e7 : h' 8 m = s.w 7 m := by rw [g1 8 (by decide)]; exact hR.row 7 (by decide) (by decide) (by omega)
      rw [pk_m1]
      refine sd_X5_layPlan_12 F hr _ _ _ _ ?_
      simp only [te_X5_layPlan_12, te_X5_layPlan_59, te_X5_layPlan_16, te_X5_layPlan_46, te_X5_layPlan_53, te_X5_layPlan_28, o0, o1.1, v8, o40, nI_clamp (show m < 2 ^ 31 by omega), e7, Int32.reduceLT, Int32.reduceLE, eq_self, am_10, am_00, am_01, am_11, true_implies, false_implies, not_true_eq_false, not_false_eq_true, or_true, true_or, and_self, implies_true, qtm_push, qtm_iload, qtm_lload, qtm_aload, qtm_istore, qtm_lstore, qtm_astore, qtm_iinc, qtm_un, qtm_bin, qtm_div, qtm_lbin, qtm_ldiv, qtm_lsh, qtm_lcmp, qtm_i2l, qtm_l2i, qtm_if, qtm_cmp, qtm_getf, qtm_puti, qtm_putz, qtm_putl, qtm_iald, qtm_iast, qtm_zald, qtm_zast, qtm_aald, qtm_tsw, qtm_callV, qtm_callS, qtm_acp, qtm_alen, qtm_max, qtm_min, qtm_dup, qtm_pop, qtm_iret, qtm_zret, qtm_lret, qtm_aret, qtm_vret, qtm_swn, qtm_swc, am_oi_c, am_ol_c, am_or_r, am_or_f, am_pi_c, am_pj_c, am_pr_c, am_pa_r, am_pa_f, am_yo_c, am_ya_c, am_fv_i, am_fv_l, am_fv_r, am_fi_c, am_fl_c, am_rv_c, am_n2_s, am_n2_n, am_pv_0, am_pv_s, am_cs_n, am_cs_c, Value.category, List.getElem?_cons_zero, List.getElem?_cons_succ, List.set_cons_zero, List.set_cons_succ, List.length_cons, List.length_nil, List.drop_succ_cons, List.drop_zero, List.take_succ_cons, List.take_zero, List.take_nil, List.reverse_cons, List.reverse_nil, List.nil_append, List.cons_append, List.append_nil, true_and, and_true, Int.reduceAdd, am_o0, am_o1, am_o2, am_o3, am_o4, am_o5, am_o6, am_o7, am_o8, am_o9, am_o10, am_o11, am_o12, am_o13, am_o14, am_o15, am_o16, am_o17, am_o18, am_o19, am_o20, am_o21, am_o22, am_o23, am_o24, am_o25, am_o26, am_o27, Nat.reduceAdd, Nat.reduceLeDiff, Nat.reduceLT, Nat.zero_le]
      have hmono := sp_cN_mono (s.w 7) (show m + 1 ≤ s.n by omega)
      have hb : x / 4 ^ (sp_cN (s.w 7) s.n - sp_cN (s.w 7) (m + 1)) < 2 ^ 31 := Nat.lt_of_le_of_lt (Nat.div_le_self _ _) (by omega)
      have e4 : (4 : Int32) = nI 4 := rfl
      refine ⟨fun y => absurd y (nI_pos (by omega)), fun _ => ⟨vp_in_nI (by omega) (by decide), fun q => ⟨by decide, vp_in_nI (by omega) (by decide), by decide, ?_⟩, fun q => ⟨vp_in_nI (by omega) (by decide), ?_⟩⟩⟩
      · rw [e4, pk_rem hb (by decide) (by decide), pk_div hb (by decide) (by decide)]
        have ec : sp_cN (s.w 7) (m + 1) = sp_cN (s.w 7) m + 1 := by rw [sp_cN, if_pos q]
        have ee : sp_cN (s.w 7) s.n - sp_cN (s.w 7) m = (sp_cN (s.w 7) s.n - sp_cN (s.w 7) (m + 1)) + 1 := by omega
        have l := ih (by omega) (am_up h' 40 m (1 + nI (x / 4 ^ (sp_cN (s.w 7) s.n - sp_cN (s.w 7) (m + 1)) % 4))) (fun a ha => (am_up_ne a ha).trans (g1 a ha)) (fun p p1 p2 => by
          rw [am_up_ap, if_pos rfl]
          by_cases e : p = m
          · subst e
            rw [if_pos rfl]
            unfold sp_pl
            rw [if_pos q, show (1 : Int32) = nI 1 from rfl, nI_add, Nat.add_comm]
          · rw [if_neg e]
            exact g2 p (by omega) p2)
        rw [ee, Nat.pow_succ, ← Nat.div_div_eq_div_mul] at l
        exact l
      · have ec : sp_cN (s.w 7) (m + 1) = sp_cN (s.w 7) m := by rw [sp_cN, if_neg q]
        rw [ec]
        refine ih (by omega) _ (fun a ha => (am_up_ne a ha).trans (g1 a ha)) (fun p p1 p2 => ?_)
        rw [am_up_ap, if_pos rfl]
        by_cases e : p = m
        · subst e
          rw [if_pos rfl]
          unfold sp_pl
          rw [if_neg q]
          rfl
        · rw [if_neg e]
          exact g2 p (by omega) p2
  simp only [te_X5_layPlan_0, o0, o1.1, e8, Int32.reduceLT, Int32.reduceLE, eq_self, am_10, am_00, am_01, am_11, true_implies, false_implies, not_true_eq_false, not_false_eq_true, or_true, true_or, and_self, implies_true, qtm_push, qtm_iload, qtm_lload, qtm_aload, qtm_istore, qtm_lstore, qtm_astore, qtm_iinc, qtm_un, qtm_bin, qtm_div, qtm_lbin, qtm_ldiv, qtm_lsh, qtm_lcmp, qtm_i2l, qtm_l2i, qtm_if, qtm_cmp, qtm_getf, qtm_puti, qtm_putz, qtm_putl, qtm_iald, qtm_iast, qtm_zald, qtm_zast, qtm_aald, qtm_tsw, qtm_callV, qtm_callS, qtm_acp, qtm_alen, qtm_max, qtm_min, qtm_dup, qtm_pop, qtm_iret, qtm_zret, qtm_lret, qtm_aret, qtm_vret, qtm_swn, qtm_swc, am_oi_c, am_ol_c, am_or_r, am_or_f, am_pi_c, am_pj_c, am_pr_c, am_pa_r, am_pa_f, am_yo_c, am_ya_c, am_fv_i, am_fv_l, am_fv_r, am_fi_c, am_fl_c, am_rv_c, am_n2_s, am_n2_n, am_pv_0, am_pv_s, am_cs_n, am_cs_c, Value.category, List.getElem?_cons_zero, List.getElem?_cons_succ, List.set_cons_zero, List.set_cons_succ, List.length_cons, List.length_nil, List.drop_succ_cons, List.drop_zero, List.take_succ_cons, List.take_zero, List.take_nil, List.reverse_cons, List.reverse_nil, List.nil_append, List.cons_append, List.append_nil, true_and, and_true, Int.reduceAdd, am_o0, am_o1, am_o2, am_o3, am_o4, am_o5, am_o6, am_o7, am_o8, am_o9, am_o10, am_o11, am_o12, am_o13, am_o14, am_o15, am_o16, am_o17, am_o18, am_o19, am_o20, am_o21, am_o22, am_o23, am_o24, am_o25, am_o26, am_o27, Nat.reduceAdd, Nat.reduceLeDiff, Nat.reduceLT, Nat.zero_le]
  have l := loop s.n (Nat.le_refl _) h (fun _ _ => rfl) (fun p p1 p2 => absurd p1 (by omega))
  rw [Nat.sub_self, Nat.pow_zero, Nat.div_one] at l
  rw [Int32.sub_eq_add_neg]
  exact l
set_option maxHeartbeats 4000000 in
set_option maxRecDepth 100000 in
/-- the plan is laid: q -/
theorem c_X5_planDigits {q : Nat → Nat} (hC : am_Cl Y h s) (hI : am_I s) (hq : ∀ p, q p ≤ 4) (hp : ∀ p, p < s.n → h 40 p = nI (q p)) (hK : K [.int (nI (sp_dig q s.n))] Y h) : am_Met d 0 0 YX5_planDigits [.ref 0] Y h K := by
  refine en_X5_planDigits fun X F hr => ?_
  obtain ⟨hO, hR, hk, hT, hA, hD⟩ := id hC
  obtain ⟨o0, o1, o2, o3, o35, o36, o37, o38, o39, o40, o41⟩ := id hO
  have h5 := hI.1.1.2.1
  have e8 : h 1 8 = nI s.n := (hR.2.2 8 (by decide) (by decide)).trans hI.1.1.1
  have loop := am_for (P := fun i => am_At X (am_MQ X K 0 0) 3 0 0 4 [.ref 0, .int (nI (sp_dig q i)), .int (nI i)] [] Y h) s.n
    (by
      refine sd_X5_planDigits_4 F hr _ _ _ _ ?_
      simp only [te_X5_planDigits_4, te_X5_planDigits_33, te_X5_planDigits_15, o0, o1.1, e8, Int32.reduceLT, Int32.reduceLE, eq_self, am_10, am_00, am_01, am_11, true_implies, false_implies, not_true_eq_false, not_false_eq_true, or_true, true_or, and_self, implies_true, qtm_push, qtm_iload, qtm_lload, qtm_aload, qtm_istore, qtm_lstore, qtm_astore, qtm_iinc, qtm_un, qtm_bin, qtm_div, qtm_lbin, qtm_ldiv, qtm_lsh, qtm_lcmp, qtm_i2l, qtm_l2i, qtm_if, qtm_cmp, qtm_getf, qtm_puti, qtm_putz, qtm_putl, qtm_iald, qtm_iast, qtm_zald, qtm_zast, qtm_aald, qtm_tsw, qtm_callV, qtm_callS, qtm_acp, qtm_alen, qtm_max, qtm_min, qtm_dup, qtm_pop, qtm_iret, qtm_zret, qtm_lret, qtm_aret, qtm_vret, qtm_swn, qtm_swc, am_oi_c, am_ol_c, am_or_r, am_or_f, am_pi_c, am_pj_c, am_pr_c, am_pa_r, am_pa_f, am_yo_c, am_ya_c, am_fv_i, am_fv_l, am_fv_r, am_fi_c, am_fl_c, am_rv_c, am_n2_s, am_n2_n, am_pv_0, am_pv_s, am_cs_n, am_cs_c, Value.category, List.getElem?_cons_zero, List.getElem?_cons_succ, List.set_cons_zero, List.set_cons_succ, List.length_cons, List.length_nil, List.drop_succ_cons, List.drop_zero, List.take_succ_cons, List.take_zero, List.take_nil, List.reverse_cons, List.reverse_nil, List.nil_append, List.cons_append, List.append_nil, true_and, and_true, Int.reduceAdd, am_o0, am_o1, am_o2, am_o3, am_o4, am_o5, am_o6, am_o7, am_o8, am_o9, am_o10, am_o11, am_o12, am_o13, am_o14, am_o15, am_o16, am_o17, am_o18, am_o19, am_o20, am_o21, am_o22, am_o23, am_o24, am_o25, am_o26, am_o27, Nat.reduceAdd, Nat.reduceLeDiff, Nat.reduceLT, Nat.zero_le]
      exact ⟨fun _ => hK, fun z => absurd (nI_le (Nat.le_refl _) (by omega)) z⟩)
    (fun i hi ih => by
      rw [sp_dig] at ih
      have e10 : nI (sp_dig q i) * 10 + nI (q i) = nI (10 * sp_dig q i + q i) := by rw [show (10 : Int32) = nI 10 from rfl, pk_mul, nI_add, Nat.mul_comm]
      refine sd_X5_planDigits_4 F hr _ _ _ _ ?_
      simp only [te_X5_planDigits_4, te_X5_planDigits_33, te_X5_planDigits_15, o0, o1.1, e8, o40, nI_clamp (show i < 2 ^ 31 by omega), hp i hi, e10, nI_1, Int32.reduceLT, Int32.reduceLE, eq_self, am_10, am_00, am_01, am_11, true_implies, false_implies, not_true_eq_false, not_false_eq_true, or_true, true_or, and_self, implies_true, qtm_push, qtm_iload, qtm_lload, qtm_aload, qtm_istore, qtm_lstore, qtm_astore, qtm_iinc, qtm_un, qtm_bin, qtm_div, qtm_lbin, qtm_ldiv, qtm_lsh, qtm_lcmp, qtm_i2l, qtm_l2i, qtm_if, qtm_cmp, qtm_getf, qtm_puti, qtm_putz, qtm_putl, qtm_iald, qtm_iast, qtm_zald, qtm_zast, qtm_aald, qtm_tsw, qtm_callV, qtm_callS, qtm_acp, qtm_alen, qtm_max, qtm_min, qtm_dup, qtm_pop, qtm_iret, qtm_zret, qtm_lret, qtm_aret, qtm_vret, qtm_swn, qtm_swc, am_oi_c, am_ol_c, am_or_r, am_or_f, am_pi_c, am_pj_c, am_pr_c, am_pa_r, am_pa_f, am_yo_c, am_ya_c, am_fv_i, am_fv_l, am_fv_r, am_fi_c, am_fl_c, am_rv_c, am_n2_s, am_n2_n, am_pv_0, am_pv_s, am_cs_n, am_cs_c, Value.category, List.getElem?_cons_zero, List.getElem?_cons_succ, List.set_cons_zero, List.set_cons_succ, List.length_cons, List.length_nil, List.drop_succ_cons, List.drop_zero, List.take_succ_cons, List.take_zero, List.take_nil, List.reverse_cons, List.reverse_nil, List.nil_append, List.cons_append, List.append_nil, true_and, and_true, Int.reduceAdd, am_o0, am_o1, am_o2, am_o3, am_o4, am_o5, am_o6, am_o7, am_o8, am_o9, am_o10, am_o11, am_o12, am_o13, am_o14, am_o15, am_o16, am_o17, am_o18, am_o19, am_o20, am_o21, am_o22, am_o23, am_o24, am_o25, am_o26, am_o27, Nat.reduceAdd, Nat.reduceLeDiff, Nat.reduceLT, Nat.zero_le]
      exact ⟨fun z => absurd ((nI_leI (by omega) (by omega)).mp z) (by omega), fun _ => ⟨vp_in_nI (by omega) (by decide), ih⟩⟩)
  simp only [te_X5_planDigits_0, Int32.reduceLT, Int32.reduceLE, eq_self, am_10, am_00, am_01, am_11, true_implies, false_implies, not_true_eq_false, not_false_eq_true, or_true, true_or, and_self, implies_true, qtm_push, qtm_iload, qtm_lload, qtm_aload, qtm_istore, qtm_lstore, qtm_astore, qtm_iinc, qtm_un, qtm_bin, qtm_div, qtm_lbin, qtm_ldiv, qtm_lsh, qtm_lcmp, qtm_i2l, qtm_l2i, qtm_if, qtm_cmp, qtm_getf, qtm_puti, qtm_putz, qtm_putl, qtm_iald, qtm_iast, qtm_zald, qtm_zast, qtm_aald, qtm_tsw, qtm_callV, qtm_callS, qtm_acp, qtm_alen, qtm_max, qtm_min, qtm_dup, qtm_pop, qtm_iret, qtm_zret, qtm_lret, qtm_aret, qtm_vret, qtm_swn, qtm_swc, am_oi_c, am_ol_c, am_or_r, am_or_f, am_pi_c, am_pj_c, am_pr_c, am_pa_r, am_pa_f, am_yo_c, am_ya_c, am_fv_i, am_fv_l, am_fv_r, am_fi_c, am_fl_c, am_rv_c, am_n2_s, am_n2_n, am_pv_0, am_pv_s, am_cs_n, am_cs_c, Value.category, List.getElem?_cons_zero, List.getElem?_cons_succ, List.set_cons_zero, List.set_cons_succ, List.length_cons, List.length_nil, List.drop_succ_cons, List.drop_zero, List.take_succ_cons, List.take_zero, List.take_nil, List.reverse_cons, List.reverse_nil, List.nil_append, List.cons_append, List.append_nil, true_and, and_true, Int.reduceAdd, am_o0, am_o1, am_o2, am_o3, am_o4, am_o5, am_o6, am_o7, am_o8, am_o9, am_o10, am_o11, am_o12, am_o13, am_o14, am_o15, am_o16, am_o17, am_o18, am_o19, am_o20, am_o21, am_o22, am_o23, am_o24, am_o25, am_o26, am_o27, Nat.reduceAdd, Nat.reduceLeDiff, Nat.reduceLT, Nat.zero_le]
  exact loop 0 (Nat.zero_le _)
set_option maxHeartbeats 4000000 in
set_option maxRecDepth 100000 in
theorem c_X5_startPlanned {q : Nat → Nat} {t : Nat} {w : am_H} (hO : am_own Y) (hR : am_RW h 10 w) (hn : w 0 8 = nI n) (h5 : n ≤ 5) (ht : t < 1000) (hq : ∀ p, q p ≤ 4) (hp : ∀ p, p < n → h 40 p = nI (q p)) (hK : ∀ h1, (∀ a, a < 10 ∨ 18 < a → h1 a = h a) → am_RW h1 10 (sp_st q n t w) → K [] Y h1) : am_Met d 0 0 YX5_startPlanned [.ref 0, .int (nI t)] Y h K := by
  refine en_X5_startPlanned fun X F hr => ?_
  obtain ⟨o0, o1, o2, o3, o35, o36, o37, o38, o39, o40, o41⟩ := id hO
  have v17 : Y[17]? = some (0, 5, []) := o2.2.2.2.2.2.2.2.1
  have e3 : ((3 : Int32) ≤ nI t) ↔ 3 ≤ t := nI_leI (a := 3) (by decide) (by omega)
  have loop := am_for (P := fun i => ∀ h' : am_H, (∀ a, a < 10 ∨ 18 < a → h' a = h a) → am_RW h' 10 (sp_st q i t w) → am_At X (am_MQ X K 0 0) 3 0 0 2 [.ref 0, .int (nI t), .int (nI i)] [] Y h') n
    (fun h' g1 g2 => by
      have e8 : h' 10 8 = nI n := (g2.2.2 8 (by decide) (by decide)).trans ((sp_st_0 8).trans hn)
      refine sd_X5_startPlanned_2 F hr _ _ _ _ ?_
      simp only [te_X5_startPlanned_2, te_X5_startPlanned_46, te_X5_startPlanned_13, te_X5_startPlanned_18, te_X5_startPlanned_40, te_X5_startPlanned_30, o0, o2.1, e8, Int32.reduceLT, Int32.reduceLE, eq_self, am_10, am_00, am_01, am_11, true_implies, false_implies, not_true_eq_false, not_false_eq_true, or_true, true_or, and_self, implies_true, qtm_push, qtm_iload, qtm_lload, qtm_aload, qtm_istore, qtm_lstore, qtm_astore, qtm_iinc, qtm_un, qtm_bin, qtm_div, qtm_lbin, qtm_ldiv, qtm_lsh, qtm_lcmp, qtm_i2l, qtm_l2i, qtm_if, qtm_cmp, qtm_getf, qtm_puti, qtm_putz, qtm_putl, qtm_iald, qtm_iast, qtm_zald, qtm_zast, qtm_aald, qtm_tsw, qtm_callV, qtm_callS, qtm_acp, qtm_alen, qtm_max, qtm_min, qtm_dup, qtm_pop, qtm_iret, qtm_zret, qtm_lret, qtm_aret, qtm_vret, qtm_swn, qtm_swc, am_oi_c, am_ol_c, am_or_r, am_or_f, am_pi_c, am_pj_c, am_pr_c, am_pa_r, am_pa_f, am_yo_c, am_ya_c, am_fv_i, am_fv_l, am_fv_r, am_fi_c, am_fl_c, am_rv_c, am_n2_s, am_n2_n, am_pv_0, am_pv_s, am_cs_n, am_cs_c, Value.category, List.getElem?_cons_zero, List.getElem?_cons_succ, List.set_cons_zero, List.set_cons_succ, List.length_cons, List.length_nil, List.drop_succ_cons, List.drop_zero, List.take_succ_cons, List.take_zero, List.take_nil, List.reverse_cons, List.reverse_nil, List.nil_append, List.cons_append, List.append_nil, true_and, and_true, Int.reduceAdd, am_o0, am_o1, am_o2, am_o3, am_o4, am_o5, am_o6, am_o7, am_o8, am_o9, am_o10, am_o11, am_o12, am_o13, am_o14, am_o15, am_o16, am_o17, am_o18, am_o19, am_o20, am_o21, am_o22, am_o23, am_o24, am_o25, am_o26, am_o27, Nat.reduceAdd, Nat.reduceLeDiff, Nat.reduceLT, Nat.zero_le]
      exact ⟨fun _ => hK h' g1 g2, fun z => absurd (nI_le (Nat.le_refl _) (by omega)) z⟩)
    (fun i hi ih h' g1 g2 => by
      have e8 : h' 10 8 = nI n := (g2.2.2 8 (by decide) (by decide)).trans ((sp_st_0 8).trans hn)
      have e40 : h' 40 i = nI (q i) := by rw [g1 40 (by omega)]; exact hp i hi
      have eq : (nI (q i) = nI (t + 1)) ↔ q i = t + 1 := nI_eq (by have := hq i; omega) (by omega)
      refine sd_X5_startPlanned_2 F hr _ _ _ _ ?_
      simp only [te_X5_startPlanned_2, te_X5_startPlanned_46, te_X5_startPlanned_13, te_X5_startPlanned_18, te_X5_startPlanned_40, te_X5_startPlanned_30, o0, o2.1, e8, v17, o40, nI_clamp (show i < 2 ^ 31 by omega), e3, nI_1, e40, eq, Int32.reduceLT, Int32.reduceLE, eq_self, am_10, am_00, am_01, am_11, true_implies, false_implies, not_true_eq_false, not_false_eq_true, or_true, true_or, and_self, implies_true, qtm_push, qtm_iload, qtm_lload, qtm_aload, qtm_istore, qtm_lstore, qtm_astore, qtm_iinc, qtm_un, qtm_bin, qtm_div, qtm_lbin, qtm_ldiv, qtm_lsh, qtm_lcmp, qtm_i2l, qtm_l2i, qtm_if, qtm_cmp, qtm_getf, qtm_puti, qtm_putz, qtm_putl, qtm_iald, qtm_iast, qtm_zald, qtm_zast, qtm_aald, qtm_tsw, qtm_callV, qtm_callS, qtm_acp, qtm_alen, qtm_max, qtm_min, qtm_dup, qtm_pop, qtm_iret, qtm_zret, qtm_lret, qtm_aret, qtm_vret, qtm_swn, qtm_swc, am_oi_c, am_ol_c, am_or_r, am_or_f, am_pi_c, am_pj_c, am_pr_c, am_pa_r, am_pa_f, am_yo_c, am_ya_c, am_fv_i, am_fv_l, am_fv_r, am_fi_c, am_fl_c, am_rv_c, am_n2_s, am_n2_n, am_pv_0, am_pv_s, am_cs_n, am_cs_c, Value.category, List.getElem?_cons_zero, List.getElem?_cons_succ, List.set_cons_zero, List.set_cons_succ, List.length_cons, List.length_nil, List.drop_succ_cons, List.drop_zero, List.take_succ_cons, List.take_zero, List.take_nil, List.reverse_cons, List.reverse_nil, List.nil_append, List.cons_append, List.append_nil, true_and, and_true, Int.reduceAdd, am_o0, am_o1, am_o2, am_o3, am_o4, am_o5, am_o6, am_o7, am_o8, am_o9, am_o10, am_o11, am_o12, am_o13, am_o14, am_o15, am_o16, am_o17, am_o18, am_o19, am_o20, am_o21, am_o22, am_o23, am_o24, am_o25, am_o26, am_o27, Nat.reduceAdd, Nat.reduceLeDiff, Nat.reduceLT, Nat.zero_le]
      refine ⟨fun z => absurd ((nI_leI (by omega) (by omega)).mp z) (by omega), fun _ => ⟨fun z => ?_, fun z => ⟨vp_in_nI (by omega) (by decide), fun z2 => ⟨vp_in_nI (by omega) (by decide), ?_⟩, fun z2 => ?_⟩⟩⟩
      · have e : sp_st q i t w = sp_st q n t w := by
          funext j c
          unfold sp_st
          rw [if_neg (fun y => by have := y.2.2.1; omega), if_neg (fun y => by have := y.2.2.1; omega)]
        rw [e] at g2
        exact hK h' g1 g2
      · have e : am_up (sp_st q i t w) 7 i 1 = sp_st q (i + 1) t w := by
          funext j c
          simp only [am_up_ap, sp_st]
          by_cases j7 : j = 7
          · subst j7
            by_cases ci : c = i
            · subst ci
              simp only [if_true]
              rw [if_pos ⟨trivial, by omega, by omega, z2⟩]
            · simp only [if_true, if_neg ci]
              by_cases cl : c < i
              · simp only [cl, show c < i + 1 by omega]
              · simp only [cl, show ¬ c < i + 1 by omega]
          · simp only [if_neg j7]
            rw [if_neg (fun y => j7 y.1), if_neg (fun y => j7 y.1)]
        have g3 := g2.upr 7 (by decide) (by decide) i 1
        rw [e] at g3
        exact ih _ (fun a ha => (am_up_ne a (by omega)).trans (g1 a ha)) g3
      · have e : sp_st q (i + 1) t w = sp_st q i t w := by
          funext j c
          unfold sp_st
          by_cases ci : c = i
          · subst ci
            rw [if_neg (fun y => z2 y.2.2.2), if_neg (fun y => z2 y.2.2.2)]
          · by_cases cl : c < i
            · simp only [cl, show c < i + 1 by omega]
            · simp only [cl, show ¬ c < i + 1 by omega]
        rw [← e] at g2
        exact ih h' g1 g2)
  simp only [te_X5_startPlanned_0, Int32.reduceLT, Int32.reduceLE, eq_self, am_10, am_00, am_01, am_11, true_implies, false_implies, not_true_eq_false, not_false_eq_true, or_true, true_or, and_self, implies_true, qtm_push, qtm_iload, qtm_lload, qtm_aload, qtm_istore, qtm_lstore, qtm_astore, qtm_iinc, qtm_un, qtm_bin, qtm_div, qtm_lbin, qtm_ldiv, qtm_lsh, qtm_lcmp, qtm_i2l, qtm_l2i, qtm_if, qtm_cmp, qtm_getf, qtm_puti, qtm_putz, qtm_putl, qtm_iald, qtm_iast, qtm_zald, qtm_zast, qtm_aald, qtm_tsw, qtm_callV, qtm_callS, qtm_acp, qtm_alen, qtm_max, qtm_min, qtm_dup, qtm_pop, qtm_iret, qtm_zret, qtm_lret, qtm_aret, qtm_vret, qtm_swn, qtm_swc, am_oi_c, am_ol_c, am_or_r, am_or_f, am_pi_c, am_pj_c, am_pr_c, am_pa_r, am_pa_f, am_yo_c, am_ya_c, am_fv_i, am_fv_l, am_fv_r, am_fi_c, am_fl_c, am_rv_c, am_n2_s, am_n2_n, am_pv_0, am_pv_s, am_cs_n, am_cs_c, Value.category, List.getElem?_cons_zero, List.getElem?_cons_succ, List.set_cons_zero, List.set_cons_succ, List.length_cons, List.length_nil, List.drop_succ_cons, List.drop_zero, List.take_succ_cons, List.take_zero, List.take_nil, List.reverse_cons, List.reverse_nil, List.nil_append, List.cons_append, List.append_nil, true_and, and_true, Int.reduceAdd, am_o0, am_o1, am_o2, am_o3, am_o4, am_o5, am_o6, am_o7, am_o8, am_o9, am_o10, am_o11, am_o12, am_o13, am_o14, am_o15, am_o16, am_o17, am_o18, am_o19, am_o20, am_o21, am_o22, am_o23, am_o24, am_o25, am_o26, am_o27, Nat.reduceAdd, Nat.reduceLeDiff, Nat.reduceLT, Nat.zero_le]
  refine loop 0 (Nat.zero_le _) h (fun _ _ => rfl) ?_
  have e : sp_st q 0 t w = w := by
    funext j c
    unfold sp_st
    rw [if_neg (fun y => absurd y.2.1 (Nat.not_lt_zero _))]
  rw [e]
  exact hR
set_option maxHeartbeats 4000000 in
set_option maxRecDepth 100000 in
theorem c_X5_walkPlan {q : Nat → Nat} {N : Nat} (hd : 6 ≤ d) (hC : am_Cl Y h s) (hI : am_I s) (hN : N < 100) (hq : ∀ p, q p ≤ 4) (hp : ∀ p, p < s.n → h 40 p = nI (q p)) (hK : ∀ h1, (∀ a, a < 10 ∨ 18 < a → ¬ am_St a → h1 a = h a) → am_RW h1 10 (sp_sw (s.T s.ru) s.w s.n q N) → K [] Y h1) : am_Met d 0 0 YX5_walkPlan [.ref 0, .int (nI N)] Y h K := by
  refine en_X5_walkPlan fun X F hr => ?_
  obtain ⟨hO, hR, hk, hT, hA, hD⟩ := id hC
  obtain ⟨o0, o1, o2, o3, o35, o36, o37, o38, o39, o40, o41⟩ := id hO
  obtain ⟨hW, ⟨r, hr1, hr2⟩, ⟨u, hu1, hu2⟩⟩ := hI.1
  have h5 := hW.2.1
  have er := am_S.ru_eq (s := s) hr2 (by have := hI.2.2.2.1; omega)
  rw [er] at hK
  simp only [te_X5_walkPlan_0, o0, o1.1, o2.1, Int32.reduceLT, Int32.reduceLE, eq_self, am_10, am_00, am_01, am_11, true_implies, false_implies, not_true_eq_false, not_false_eq_true, or_true, true_or, and_self, implies_true, qtm_push, qtm_iload, qtm_lload, qtm_aload, qtm_istore, qtm_lstore, qtm_astore, qtm_iinc, qtm_un, qtm_bin, qtm_div, qtm_lbin, qtm_ldiv, qtm_lsh, qtm_lcmp, qtm_i2l, qtm_l2i, qtm_if, qtm_cmp, qtm_getf, qtm_puti, qtm_putz, qtm_putl, qtm_iald, qtm_iast, qtm_zald, qtm_zast, qtm_aald, qtm_tsw, qtm_callV, qtm_callS, qtm_acp, qtm_alen, qtm_max, qtm_min, qtm_dup, qtm_pop, qtm_iret, qtm_zret, qtm_lret, qtm_aret, qtm_vret, qtm_swn, qtm_swc, am_oi_c, am_ol_c, am_or_r, am_or_f, am_pi_c, am_pj_c, am_pr_c, am_pa_r, am_pa_f, am_yo_c, am_ya_c, am_fv_i, am_fv_l, am_fv_r, am_fi_c, am_fl_c, am_rv_c, am_n2_s, am_n2_n, am_pv_0, am_pv_s, am_cs_n, am_cs_c, Value.category, List.getElem?_cons_zero, List.getElem?_cons_succ, List.set_cons_zero, List.set_cons_succ, List.length_cons, List.length_nil, List.drop_succ_cons, List.drop_zero, List.take_succ_cons, List.take_zero, List.take_nil, List.reverse_cons, List.reverse_nil, List.nil_append, List.cons_append, List.append_nil, true_and, and_true, Int.reduceAdd, am_o0, am_o1, am_o2, am_o3, am_o4, am_o5, am_o6, am_o7, am_o8, am_o9, am_o10, am_o11, am_o12, am_o13, am_o14, am_o15, am_o16, am_o17, am_o18, am_o19, am_o20, am_o21, am_o22, am_o23, am_o24, am_o25, am_o26, am_o27, Nat.reduceAdd, Nat.reduceLeDiff, Nat.reduceLT, Nat.zero_le]
  refine ⟨by omega, c_X4_become (by omega) o2 o1 (by decide) hR fun h1 hh hR1 => ?_⟩
  have loop := am_for (P := fun i => ∀ (h' : am_H), (∀ a, a < 10 ∨ 18 < a → ¬ am_St a → h' a = h a) → am_RW h' 10 (if i = 0 then s.w else sp_sw (s.T r) s.w s.n q (i - 1)) → am_At X (am_MQ X K 0 0) 3 0 0 13 [.ref 0, .int (nI N), .int (nI i)] [] Y h') (N + 1)
    (fun h' g1 g2 => by
      rw [if_neg (by omega), Nat.add_sub_cancel] at g2
      refine sd_X5_walkPlan_13 F hr _ _ _ _ ?_
      simp only [te_X5_walkPlan_13, te_X5_walkPlan_44, te_X5_walkPlan_18, te_X5_walkPlan_33, te_X5_walkPlan_22, o0, Int32.reduceLT, Int32.reduceLE, eq_self, am_10, am_00, am_01, am_11, true_implies, false_implies, not_true_eq_false, not_false_eq_true, or_true, true_or, and_self, implies_true, qtm_push, qtm_iload, qtm_lload, qtm_aload, qtm_istore, qtm_lstore, qtm_astore, qtm_iinc, qtm_un, qtm_bin, qtm_div, qtm_lbin, qtm_ldiv, qtm_lsh, qtm_lcmp, qtm_i2l, qtm_l2i, qtm_if, qtm_cmp, qtm_getf, qtm_puti, qtm_putz, qtm_putl, qtm_iald, qtm_iast, qtm_zald, qtm_zast, qtm_aald, qtm_tsw, qtm_callV, qtm_callS, qtm_acp, qtm_alen, qtm_max, qtm_min, qtm_dup, qtm_pop, qtm_iret, qtm_zret, qtm_lret, qtm_aret, qtm_vret, qtm_swn, qtm_swc, am_oi_c, am_ol_c, am_or_r, am_or_f, am_pi_c, am_pj_c, am_pr_c, am_pa_r, am_pa_f, am_yo_c, am_ya_c, am_fv_i, am_fv_l, am_fv_r, am_fi_c, am_fl_c, am_rv_c, am_n2_s, am_n2_n, am_pv_0, am_pv_s, am_cs_n, am_cs_c, Value.category, List.getElem?_cons_zero, List.getElem?_cons_succ, List.set_cons_zero, List.set_cons_succ, List.length_cons, List.length_nil, List.drop_succ_cons, List.drop_zero, List.take_succ_cons, List.take_zero, List.take_nil, List.reverse_cons, List.reverse_nil, List.nil_append, List.cons_append, List.append_nil, true_and, and_true, Int.reduceAdd, am_o0, am_o1, am_o2, am_o3, am_o4, am_o5, am_o6, am_o7, am_o8, am_o9, am_o10, am_o11, am_o12, am_o13, am_o14, am_o15, am_o16, am_o17, am_o18, am_o19, am_o20, am_o21, am_o22, am_o23, am_o24, am_o25, am_o26, am_o27, Nat.reduceAdd, Nat.reduceLeDiff, Nat.reduceLT, Nat.zero_le]
      exact ⟨fun _ => hK h' g1 g2, fun z => absurd (nI_lt (Nat.lt_succ_self N) (by omega)) z⟩)
    (fun i hi ih h' g1 g2 => by
      have e0 : (nI i ≤ 0) ↔ i ≤ 0 := nI_leI (b := 0) (by omega) (by decide)
      have go : ∀ (h2 w2 : am_H), (∀ a, a < 10 ∨ 18 < a → ¬ am_St a → h2 a = h a) → am_RW h2 10 w2 → w2 0 8 = nI s.n → sp_st q s.n i w2 = sp_sw (s.T r) s.w s.n q i → am_Met (d - 1) 0 0 YX5_startPlanned [.ref 0, .int (nI i)] Y h2 fun r_1 Y1 h1 => am_At X (am_MQ X K 0 0) 3 0 0 13 [.ref 0, .int (nI N), .int (nI (i + 1))] (List.take 1 r_1) Y1 h1 := by
        intro h2 w2 p1 p2 p3 p4
        refine c_X5_startPlanned (n := s.n) hO p2 p3 h5 (by omega) hq (fun p pp => by rw [p1 40 (by omega) (am_nSt (by decide) (by decide))]; exact hp p pp) fun h3 hh3 hR3 => ?_
        rw [p4] at hR3
        exact ih h3 (fun a ha hs => (hh3 a ha).trans (p1 a ha hs)) (by rw [if_neg (by omega), Nat.add_sub_cancel]; exact hR3)
      refine sd_X5_walkPlan_13 F hr _ _ _ _ ?_
      simp only [te_X5_walkPlan_13, te_X5_walkPlan_44, te_X5_walkPlan_18, te_X5_walkPlan_33, te_X5_walkPlan_22, o0, o2.1, hT.1, e0, nI_1, Int32.reduceLT, Int32.reduceLE, eq_self, am_10, am_00, am_01, am_11, true_implies, false_implies, not_true_eq_false, not_false_eq_true, or_true, true_or, and_self, implies_true, qtm_push, qtm_iload, qtm_lload, qtm_aload, qtm_istore, qtm_lstore, qtm_astore, qtm_iinc, qtm_un, qtm_bin, qtm_div, qtm_lbin, qtm_ldiv, qtm_lsh, qtm_lcmp, qtm_i2l, qtm_l2i, qtm_if, qtm_cmp, qtm_getf, qtm_puti, qtm_putz, qtm_putl, qtm_iald, qtm_iast, qtm_zald, qtm_zast, qtm_aald, qtm_tsw, qtm_callV, qtm_callS, qtm_acp, qtm_alen, qtm_max, qtm_min, qtm_dup, qtm_pop, qtm_iret, qtm_zret, qtm_lret, qtm_aret, qtm_vret, qtm_swn, qtm_swc, am_oi_c, am_ol_c, am_or_r, am_or_f, am_pi_c, am_pj_c, am_pr_c, am_pa_r, am_pa_f, am_yo_c, am_ya_c, am_fv_i, am_fv_l, am_fv_r, am_fi_c, am_fl_c, am_rv_c, am_n2_s, am_n2_n, am_pv_0, am_pv_s, am_cs_n, am_cs_c, Value.category, List.getElem?_cons_zero, List.getElem?_cons_succ, List.set_cons_zero, List.set_cons_succ, List.length_cons, List.length_nil, List.drop_succ_cons, List.drop_zero, List.take_succ_cons, List.take_zero, List.take_nil, List.reverse_cons, List.reverse_nil, List.nil_append, List.cons_append, List.append_nil, true_and, and_true, Int.reduceAdd, am_o0, am_o1, am_o2, am_o3, am_o4, am_o5, am_o6, am_o7, am_o8, am_o9, am_o10, am_o11, am_o12, am_o13, am_o14, am_o15, am_o16, am_o17, am_o18, am_o19, am_o20, am_o21, am_o22, am_o23, am_o24, am_o25, am_o26, am_o27, Nat.reduceAdd, Nat.reduceLeDiff, Nat.reduceLT, Nat.zero_le]
      refine ⟨fun z => absurd ((nI_ltI (by omega) (by omega)).mp z) (by omega), fun _ => ⟨fun z => ⟨by omega, ?_⟩, fun z => ⟨by omega, ?_⟩⟩⟩
      · have i0 : i = 0 := by omega
        rw [if_pos i0] at g2
        exact go h' s.w g1 g2 hW.1 (by rw [i0]; rfl)
      · obtain ⟨j, rfl⟩ : ∃ j, i = j + 1 := ⟨i - 1, by omega⟩
        rw [if_neg (by omega), Nat.add_sub_cancel] at g2
        refine c_X4_passHour (n := s.n) (r := r) (by omega) o2 g2 (sp_sw_WI hW j) ((sp_sw_11 j).trans hr2) hr1 (hT.keep fun a ha hs => g1 a (by omega) hs) (by decide) fun h2 hh2 hR2 => ?_
        simp only [o0, Int32.reduceLT, Int32.reduceLE, eq_self, am_10, am_00, am_01, am_11, true_implies, false_implies, not_true_eq_false, not_false_eq_true, or_true, true_or, and_self, implies_true, qtm_push, qtm_iload, qtm_lload, qtm_aload, qtm_istore, qtm_lstore, qtm_astore, qtm_iinc, qtm_un, qtm_bin, qtm_div, qtm_lbin, qtm_ldiv, qtm_lsh, qtm_lcmp, qtm_i2l, qtm_l2i, qtm_if, qtm_cmp, qtm_getf, qtm_puti, qtm_putz, qtm_putl, qtm_iald, qtm_iast, qtm_zald, qtm_zast, qtm_aald, qtm_tsw, qtm_callV, qtm_callS, qtm_acp, qtm_alen, qtm_max, qtm_min, qtm_dup, qtm_pop, qtm_iret, qtm_zret, qtm_lret, qtm_aret, qtm_vret, qtm_swn, qtm_swc, am_oi_c, am_ol_c, am_or_r, am_or_f, am_pi_c, am_pj_c, am_pr_c, am_pa_r, am_pa_f, am_yo_c, am_ya_c, am_fv_i, am_fv_l, am_fv_r, am_fi_c, am_fl_c, am_rv_c, am_n2_s, am_n2_n, am_pv_0, am_pv_s, am_cs_n, am_cs_c, Value.category, List.getElem?_cons_zero, List.getElem?_cons_succ, List.set_cons_zero, List.set_cons_succ, List.length_cons, List.length_nil, List.drop_succ_cons, List.drop_zero, List.take_succ_cons, List.take_zero, List.take_nil, List.reverse_cons, List.reverse_nil, List.nil_append, List.cons_append, List.append_nil, true_and, and_true, Int.reduceAdd, am_o0, am_o1, am_o2, am_o3, am_o4, am_o5, am_o6, am_o7, am_o8, am_o9, am_o10, am_o11, am_o12, am_o13, am_o14, am_o15, am_o16, am_o17, am_o18, am_o19, am_o20, am_o21, am_o22, am_o23, am_o24, am_o25, am_o26, am_o27, Nat.reduceAdd, Nat.reduceLeDiff, Nat.reduceLT, Nat.zero_le]
        exact ⟨by omega, go h2 _ (fun a ha hs => (hh2 a ha hs).trans (g1 a ha hs)) hR2 (sp_hour_WI (sp_sw_WI hW j)).1 rfl⟩)
  simp only [Int32.reduceLT, Int32.reduceLE, eq_self, am_10, am_00, am_01, am_11, true_implies, false_implies, not_true_eq_false, not_false_eq_true, or_true, true_or, and_self, implies_true, qtm_push, qtm_iload, qtm_lload, qtm_aload, qtm_istore, qtm_lstore, qtm_astore, qtm_iinc, qtm_un, qtm_bin, qtm_div, qtm_lbin, qtm_ldiv, qtm_lsh, qtm_lcmp, qtm_i2l, qtm_l2i, qtm_if, qtm_cmp, qtm_getf, qtm_puti, qtm_putz, qtm_putl, qtm_iald, qtm_iast, qtm_zald, qtm_zast, qtm_aald, qtm_tsw, qtm_callV, qtm_callS, qtm_acp, qtm_alen, qtm_max, qtm_min, qtm_dup, qtm_pop, qtm_iret, qtm_zret, qtm_lret, qtm_aret, qtm_vret, qtm_swn, qtm_swc, am_oi_c, am_ol_c, am_or_r, am_or_f, am_pi_c, am_pj_c, am_pr_c, am_pa_r, am_pa_f, am_yo_c, am_ya_c, am_fv_i, am_fv_l, am_fv_r, am_fi_c, am_fl_c, am_rv_c, am_n2_s, am_n2_n, am_pv_0, am_pv_s, am_cs_n, am_cs_c, Value.category, List.getElem?_cons_zero, List.getElem?_cons_succ, List.set_cons_zero, List.set_cons_succ, List.length_cons, List.length_nil, List.drop_succ_cons, List.drop_zero, List.take_succ_cons, List.take_zero, List.take_nil, List.reverse_cons, List.reverse_nil, List.nil_append, List.cons_append, List.append_nil, true_and, and_true, Int.reduceAdd, am_o0, am_o1, am_o2, am_o3, am_o4, am_o5, am_o6, am_o7, am_o8, am_o9, am_o10, am_o11, am_o12, am_o13, am_o14, am_o15, am_o16, am_o17, am_o18, am_o19, am_o20, am_o21, am_o22, am_o23, am_o24, am_o25, am_o26, am_o27, Nat.reduceAdd, Nat.reduceLeDiff, Nat.reduceLT, Nat.zero_le]
  exact loop 0 (Nat.zero_le _) h1 (fun a ha hs => hh a (by omega)) hR1
set_option maxHeartbeats 4000000 in
set_option maxRecDepth 100000 in
theorem c_X5_searchShifts {N : Nat} (hd : 7 ≤ d) (hN : N < 100) (hC : am_Cl Y h s) (hI : am_I s) (hK : ∀ h1, am_p4 h h1 → am_Cl Y h1 s → h1 0 8 = (sp_bs (s.T s.ru) s.w s.n N (4 ^ sp_cN (s.w 7) s.n)).1 → h1 0 9 = (sp_bs (s.T s.ru) s.w s.n N (4 ^ sp_cN (s.w 7) s.n)).2.1 → h1 0 10 = (sp_bs (s.T s.ru) s.w s.n N (4 ^ sp_cN (s.w 7) s.n)).2.2 → K [] Y h1) : am_Met d 0 0 YX5_searchShifts [.ref 0, .int (nI N)] Y h K := by
  refine en_X5_searchShifts fun X F hr => ?_
  obtain ⟨hO, hR, hk, hT, hA, hD⟩ := id hC
  obtain ⟨o0, o1, o2, o3, o35, o36, o37, o38, o39, o40, o41⟩ := id hO
  have hW := hI.1.1
  have h5 := hW.2.1
  have e8 : h 1 8 = nI s.n := (hR.2.2 8 (by decide) (by decide)).trans hW.1
  have v8 : Y[8]? = some (0, 5, []) := o1.2.2.2.2.2.2.2.1
  have hcN := sp_cN_le (s.w 7) s.n
  have pw : ∀ k, k ≤ 5 → 4 ^ k < 2 ^ 20 ∧ 0 < 4 ^ k := fun k hk => ⟨Nat.lt_of_le_of_lt (Nat.pow_le_pow_right (by decide) hk) (by decide), Nat.pos_of_ne_zero (by exact Nat.ne_of_gt (Nat.pow_pos (by decide)))⟩
  have hways := pw _ (show sp_cN (s.w 7) s.n ≤ 5 by omega)
  have keep : ∀ h' h2 : am_H, am_Cl Y h' s → am_p4 h h' → (∀ a, a < 10 ∨ 18 < a → ¬ am_St a → h2 a = h' a) → am_p4 h h2 ∧ am_Cl Y h2 s := by
    intro h' h2 g1 g2 g3
    have hp := am_p4.fr (b := 10) (by decide) g3
    exact ⟨g2.tr hp, g1.sw (n := s.n) hp (g1.2.1.keep fun c c1 c2 => g3 c (by omega) (am_nSt (by omega) (by omega)))⟩
  have up0 : ∀ (h' : am_H) (k : Nat) (v : Int32), k ≠ 3 → am_Cl Y h' s → am_p4 h h' → am_p4 h (am_up h' 0 k v) ∧ am_Cl Y (am_up h' 0 k v) s := by
    intro h' k v hk3 g1 g2
    exact ⟨g2.uo k v hk3, g1.sw (n := s.n) ((am_p4.rf h').uo k v hk3) (g1.2.1.keep fun c c1 c2 => am_up_ne c (by omega))⟩
  have main : ∀ k, k ≤ 4 ^ sp_cN (s.w 7) s.n → ∀ (h' : am_H) (a4 a5 : Value), am_p4 h h' → am_Cl Y h' s → h' 0 9 = (sp_bs (s.T s.ru) s.w s.n N k).2.1 → (k ≠ 0 → h' 0 8 = (sp_bs (s.T s.ru) s.w s.n N k).1 ∧ h' 0 10 = (sp_bs (s.T s.ru) s.w s.n N k).2.2) → am_At X (am_MQ X K 0 0) 6 0 0 44 [.ref 0, .int (nI N), .int (nI (4 ^ sp_cN (s.w 7) s.n)), .int (nI k), a4, a5] [] Y h' := am_for _
    (fun h' a4 a5 g1 g2 g3 g4 => by
      obtain ⟨g5, g6⟩ := g4 (by omega)
      refine sd_X5_searchShifts_44 F hr _ _ _ _ ?_
      simp only [te_X5_searchShifts_44, te_X5_searchShifts_49, te_X5_searchShifts_88, te_X5_searchShifts_97, te_X5_searchShifts_126, te_X5_searchShifts_106, te_X5_searchShifts_132, o0, Int32.reduceLT, Int32.reduceLE, eq_self, am_10, am_00, am_01, am_11, true_implies, false_implies, not_true_eq_false, not_false_eq_true, or_true, true_or, and_self, implies_true, qtm_push, qtm_iload, qtm_lload, qtm_aload, qtm_istore, qtm_lstore, qtm_astore, qtm_iinc, qtm_un, qtm_bin, qtm_div, qtm_lbin, qtm_ldiv, qtm_lsh, qtm_lcmp, qtm_i2l, qtm_l2i, qtm_if, qtm_cmp, qtm_getf, qtm_puti, qtm_putz, qtm_putl, qtm_iald, qtm_iast, qtm_zald, qtm_zast, qtm_aald, qtm_tsw, qtm_callV, qtm_callS, qtm_acp, qtm_alen, qtm_max, qtm_min, qtm_dup, qtm_pop, qtm_iret, qtm_zret, qtm_lret, qtm_aret, qtm_vret, qtm_swn, qtm_swc, am_oi_c, am_ol_c, am_or_r, am_or_f, am_pi_c, am_pj_c, am_pr_c, am_pa_r, am_pa_f, am_yo_c, am_ya_c, am_fv_i, am_fv_l, am_fv_r, am_fi_c, am_fl_c, am_rv_c, am_n2_s, am_n2_n, am_pv_0, am_pv_s, am_cs_n, am_cs_c, Value.category, List.getElem?_cons_zero, List.getElem?_cons_succ, List.set_cons_zero, List.set_cons_succ, List.length_cons, List.length_nil, List.drop_succ_cons, List.drop_zero, List.take_succ_cons, List.take_zero, List.take_nil, List.reverse_cons, List.reverse_nil, List.nil_append, List.cons_append, List.append_nil, true_and, and_true, Int.reduceAdd, am_o0, am_o1, am_o2, am_o3, am_o4, am_o5, am_o6, am_o7, am_o8, am_o9, am_o10, am_o11, am_o12, am_o13, am_o14, am_o15, am_o16, am_o17, am_o18, am_o19, am_o20, am_o21, am_o22, am_o23, am_o24, am_o25, am_o26, am_o27, Nat.reduceAdd, Nat.reduceLeDiff, Nat.reduceLT, Nat.zero_le]
      exact ⟨fun _ => hK h' g1 g2 g5 g3 g6, fun z => absurd (nI_le (Nat.le_refl _) (by omega)) z⟩)
    (fun k hk ih h' a4 a5 g1 g2 g3 g4 => by
      refine sd_X5_searchShifts_44 F hr _ _ _ _ ?_
      simp only [te_X5_searchShifts_44, te_X5_searchShifts_49, te_X5_searchShifts_88, te_X5_searchShifts_97, te_X5_searchShifts_126, te_X5_searchShifts_106, te_X5_searchShifts_132, o0, Int32.reduceLT, Int32.reduceLE, eq_self, am_10, am_00, am_01, am_11, true_implies, false_implies, not_true_eq_false, not_false_eq_true, or_true, true_or, and_self, implies_true, qtm_push, qtm_iload, qtm_lload, qtm_aload, qtm_istore, qtm_lstore, qtm_astore, qtm_iinc, qtm_un, qtm_bin, qtm_div, qtm_lbin, qtm_ldiv, qtm_lsh, qtm_lcmp, qtm_i2l, qtm_l2i, qtm_if, qtm_cmp, qtm_getf, qtm_puti, qtm_putz, qtm_putl, qtm_iald, qtm_iast, qtm_zald, qtm_zast, qtm_aald, qtm_tsw, qtm_callV, qtm_callS, qtm_acp, qtm_alen, qtm_max, qtm_min, qtm_dup, qtm_pop, qtm_iret, qtm_zret, qtm_lret, qtm_aret, qtm_vret, qtm_swn, qtm_swc, am_oi_c, am_ol_c, am_or_r, am_or_f, am_pi_c, am_pj_c, am_pr_c, am_pa_r, am_pa_f, am_yo_c, am_ya_c, am_fv_i, am_fv_l, am_fv_r, am_fi_c, am_fl_c, am_rv_c, am_n2_s, am_n2_n, am_pv_0, am_pv_s, am_cs_n, am_cs_c, Value.category, List.getElem?_cons_zero, List.getElem?_cons_succ, List.set_cons_zero, List.set_cons_succ, List.length_cons, List.length_nil, List.drop_succ_cons, List.drop_zero, List.take_succ_cons, List.take_zero, List.take_nil, List.reverse_cons, List.reverse_nil, List.nil_append, List.cons_append, List.append_nil, true_and, and_true, Int.reduceAdd, am_o0, am_o1, am_o2, am_o3, am_o4, am_o5, am_o6, am_o7, am_o8, am_o9, am_o10, am_o11, am_o12, am_o13, am_o14, am_o15, am_o16, am_o17, am_o18, am_o19, am_o20, am_o21, am_o22, am_o23, am_o24, am_o25, am_o26, am_o27, Nat.reduceAdd, Nat.reduceLeDiff, Nat.reduceLT, Nat.zero_le]
      refine ⟨fun z => absurd ((nI_leI (by omega) (by omega)).mp z) (by omega), fun _ => ⟨by omega, c_X5_layPlan g2 hI (by omega) fun h1 hh1 hp1 => ?_⟩⟩
      have q1 := (am_p4.rf h').tr ⟨fun a b1 b2 _ => hh1 a b2, by rw [hh1 0 (by decide)]⟩
      have c1 : am_Cl Y h1 s := g2.sw (n := s.n) q1 (g2.2.1.keep fun c b1 b2 => hh1 c (by omega))
      have hq4 : ∀ p, sp_pl (s.w 7) s.n k p ≤ 4 := sp_pl_le (s.w 7) s.n k
      simp only [o0, Int32.reduceLT, Int32.reduceLE, eq_self, am_10, am_00, am_01, am_11, true_implies, false_implies, not_true_eq_false, not_false_eq_true, or_true, true_or, and_self, implies_true, qtm_push, qtm_iload, qtm_lload, qtm_aload, qtm_istore, qtm_lstore, qtm_astore, qtm_iinc, qtm_un, qtm_bin, qtm_div, qtm_lbin, qtm_ldiv, qtm_lsh, qtm_lcmp, qtm_i2l, qtm_l2i, qtm_if, qtm_cmp, qtm_getf, qtm_puti, qtm_putz, qtm_putl, qtm_iald, qtm_iast, qtm_zald, qtm_zast, qtm_aald, qtm_tsw, qtm_callV, qtm_callS, qtm_acp, qtm_alen, qtm_max, qtm_min, qtm_dup, qtm_pop, qtm_iret, qtm_zret, qtm_lret, qtm_aret, qtm_vret, qtm_swn, qtm_swc, am_oi_c, am_ol_c, am_or_r, am_or_f, am_pi_c, am_pj_c, am_pr_c, am_pa_r, am_pa_f, am_yo_c, am_ya_c, am_fv_i, am_fv_l, am_fv_r, am_fi_c, am_fl_c, am_rv_c, am_n2_s, am_n2_n, am_pv_0, am_pv_s, am_cs_n, am_cs_c, Value.category, List.getElem?_cons_zero, List.getElem?_cons_succ, List.set_cons_zero, List.set_cons_succ, List.length_cons, List.length_nil, List.drop_succ_cons, List.drop_zero, List.take_succ_cons, List.take_zero, List.take_nil, List.reverse_cons, List.reverse_nil, List.nil_append, List.cons_append, List.append_nil, true_and, and_true, Int.reduceAdd, am_o0, am_o1, am_o2, am_o3, am_o4, am_o5, am_o6, am_o7, am_o8, am_o9, am_o10, am_o11, am_o12, am_o13, am_o14, am_o15, am_o16, am_o17, am_o18, am_o19, am_o20, am_o21, am_o22, am_o23, am_o24, am_o25, am_o26, am_o27, Nat.reduceAdd, Nat.reduceLeDiff, Nat.reduceLT, Nat.zero_le]
      refine ⟨by omega, c_X5_walkPlan (by omega) c1 hI hN hq4 hp1 fun h2 hh2 hR2 => ?_⟩
      obtain ⟨q2, c2⟩ := keep h1 h2 c1 (g1.tr q1) hh2
      have hWk := sp_sw_WI (f := s.T s.ru) (q := sp_pl (s.w 7) s.n k) hW N
      have e20 : h2 0 = h' 0 := by rw [hh2 0 (by decide) (am_nSt (by decide) (by decide)), hh1 0 (by decide)]
      simp only [o0, o2.1, Int32.reduceLT, Int32.reduceLE, eq_self, am_10, am_00, am_01, am_11, true_implies, false_implies, not_true_eq_false, not_false_eq_true, or_true, true_or, and_self, implies_true, qtm_push, qtm_iload, qtm_lload, qtm_aload, qtm_istore, qtm_lstore, qtm_astore, qtm_iinc, qtm_un, qtm_bin, qtm_div, qtm_lbin, qtm_ldiv, qtm_lsh, qtm_lcmp, qtm_i2l, qtm_l2i, qtm_if, qtm_cmp, qtm_getf, qtm_puti, qtm_putz, qtm_putl, qtm_iald, qtm_iast, qtm_zald, qtm_zast, qtm_aald, qtm_tsw, qtm_callV, qtm_callS, qtm_acp, qtm_alen, qtm_max, qtm_min, qtm_dup, qtm_pop, qtm_iret, qtm_zret, qtm_lret, qtm_aret, qtm_vret, qtm_swn, qtm_swc, am_oi_c, am_ol_c, am_or_r, am_or_f, am_pi_c, am_pj_c, am_pr_c, am_pa_r, am_pa_f, am_yo_c, am_ya_c, am_fv_i, am_fv_l, am_fv_r, am_fi_c, am_fl_c, am_rv_c, am_n2_s, am_n2_n, am_pv_0, am_pv_s, am_cs_n, am_cs_c, Value.category, List.getElem?_cons_zero, List.getElem?_cons_succ, List.set_cons_zero, List.set_cons_succ, List.length_cons, List.length_nil, List.drop_succ_cons, List.drop_zero, List.take_succ_cons, List.take_zero, List.take_nil, List.reverse_cons, List.reverse_nil, List.nil_append, List.cons_append, List.append_nil, true_and, and_true, Int.reduceAdd, am_o0, am_o1, am_o2, am_o3, am_o4, am_o5, am_o6, am_o7, am_o8, am_o9, am_o10, am_o11, am_o12, am_o13, am_o14, am_o15, am_o16, am_o17, am_o18, am_o19, am_o20, am_o21, am_o22, am_o23, am_o24, am_o25, am_o26, am_o27, Nat.reduceAdd, Nat.reduceLeDiff, Nat.reduceLT, Nat.zero_le]
      refine ⟨by omega, c_X4_howMany (n := s.n) o2 hR2 hWk.1 h5 ?_⟩
      simp only [o0, o2.1, Int32.reduceLT, Int32.reduceLE, eq_self, am_10, am_00, am_01, am_11, true_implies, false_implies, not_true_eq_false, not_false_eq_true, or_true, true_or, and_self, implies_true, qtm_push, qtm_iload, qtm_lload, qtm_aload, qtm_istore, qtm_lstore, qtm_astore, qtm_iinc, qtm_un, qtm_bin, qtm_div, qtm_lbin, qtm_ldiv, qtm_lsh, qtm_lcmp, qtm_i2l, qtm_l2i, qtm_if, qtm_cmp, qtm_getf, qtm_puti, qtm_putz, qtm_putl, qtm_iald, qtm_iast, qtm_zald, qtm_zast, qtm_aald, qtm_tsw, qtm_callV, qtm_callS, qtm_acp, qtm_alen, qtm_max, qtm_min, qtm_dup, qtm_pop, qtm_iret, qtm_zret, qtm_lret, qtm_aret, qtm_vret, qtm_swn, qtm_swc, am_oi_c, am_ol_c, am_or_r, am_or_f, am_pi_c, am_pj_c, am_pr_c, am_pa_r, am_pa_f, am_yo_c, am_ya_c, am_fv_i, am_fv_l, am_fv_r, am_fi_c, am_fl_c, am_rv_c, am_n2_s, am_n2_n, am_pv_0, am_pv_s, am_cs_n, am_cs_c, Value.category, List.getElem?_cons_zero, List.getElem?_cons_succ, List.set_cons_zero, List.set_cons_succ, List.length_cons, List.length_nil, List.drop_succ_cons, List.drop_zero, List.take_succ_cons, List.take_zero, List.take_nil, List.reverse_cons, List.reverse_nil, List.nil_append, List.cons_append, List.append_nil, true_and, and_true, Int.reduceAdd, am_o0, am_o1, am_o2, am_o3, am_o4, am_o5, am_o6, am_o7, am_o8, am_o9, am_o10, am_o11, am_o12, am_o13, am_o14, am_o15, am_o16, am_o17, am_o18, am_o19, am_o20, am_o21, am_o22, am_o23, am_o24, am_o25, am_o26, am_o27, Nat.reduceAdd, Nat.reduceLeDiff, Nat.reduceLT, Nat.zero_le]
      refine ⟨by omega, c_X4_howMany (n := s.n) o2 hR2 hWk.1 h5 ?_⟩
      have bs1 : sp_bs (s.T s.ru) s.w s.n N (k + 1) = if (sp_bs (s.T s.ru) s.w s.n N k).2.1 < sp_cnt ((sp_sw (s.T s.ru) s.w s.n (sp_pl (s.w 7) s.n k) N) 7) 3 s.n ∨ (sp_cnt ((sp_sw (s.T s.ru) s.w s.n (sp_pl (s.w 7) s.n k) N) 7) 3 s.n = (sp_bs (s.T s.ru) s.w s.n N k).2.1 ∧ sp_cnt ((sp_sw (s.T s.ru) s.w s.n (sp_pl (s.w 7) s.n k) N) 7) 2 s.n < (sp_bs (s.T s.ru) s.w s.n N k).2.2) then (nI (sp_dig (sp_pl (s.w 7) s.n k) s.n), sp_cnt ((sp_sw (s.T s.ru) s.w s.n (sp_pl (s.w 7) s.n k) N) 7) 3 s.n, sp_cnt ((sp_sw (s.T s.ru) s.w s.n (sp_pl (s.w 7) s.n k) N) 7) 2 s.n) else sp_bs (s.T s.ru) s.w s.n N k := rfl
      obtain ⟨jo, -, eo⟩ := sp_cnt_is ((sp_sw (s.T s.ru) s.w s.n (sp_pl (s.w 7) s.n k) N) 7) 3 s.n
      have pos : -1 < sp_cnt ((sp_sw (s.T s.ru) s.w s.n (sp_pl (s.w 7) s.n k) N) 7) 3 s.n := by
        obtain ⟨j2, l2, e2⟩ := sp_cnt_is ((sp_sw (s.T s.ru) s.w s.n (sp_pl (s.w 7) s.n k) N) 7) 3 s.n
        rw [e2, am_lt, am_nI (by omega)]
        have t1 : (-1 : Int32).toInt = -1 := rfl
        omega
      generalize sp_cnt ((sp_sw (s.T s.ru) s.w s.n (sp_pl (s.w 7) s.n k) N) 7) 3 s.n = O at *
      generalize sp_cnt ((sp_sw (s.T s.ru) s.w s.n (sp_pl (s.w 7) s.n k) N) 7) 2 s.n = U at *
      have win : ((sp_bs (s.T s.ru) s.w s.n N k).2.1 < O ∨ (O = (sp_bs (s.T s.ru) s.w s.n N k).2.1 ∧ U < (sp_bs (s.T s.ru) s.w s.n N k).2.2)) → am_Met (d - 1) 0 0 YX5_planDigits [Value.ref 0] Y (am_up (am_up h2 0 9 O) 0 10 U) fun r Y1 h1 => am_pi (List.take 1 r ++ [Value.ref 0]) fun x S1 => am_pr S1 fun i S2 => am_yo Y1[i]? 5 fun fs => am_fi fs[8]? (am_At X (am_MQ X K 0 0) 6 0 0 44 [.ref 0, .int (nI N), .int (nI (4 ^ sp_cN (s.w 7) s.n)), .int (nI (k + 1)), .int O, .int U] S2 Y1 (am_up h1 i 8 x)) := by
        intro hc
        rw [if_pos hc] at bs1
        obtain ⟨qA, cA⟩ := up0 h2 9 O (by decide) c2 q2
        obtain ⟨qB, cB⟩ := up0 _ 10 U (by decide) cA qA
        refine c_X5_planDigits cB hI hq4 (fun p pp => ?_) ?_
        · rw [am_up_ne 40 (by decide), am_up_ne 40 (by decide), hh2 40 (by decide) (am_nSt (by decide) (by decide))]
          exact hp1 p pp
        · simp only [o0, Int32.reduceLT, Int32.reduceLE, eq_self, am_10, am_00, am_01, am_11, true_implies, false_implies, not_true_eq_false, not_false_eq_true, or_true, true_or, and_self, implies_true, qtm_push, qtm_iload, qtm_lload, qtm_aload, qtm_istore, qtm_lstore, qtm_astore, qtm_iinc, qtm_un, qtm_bin, qtm_div, qtm_lbin, qtm_ldiv, qtm_lsh, qtm_lcmp, qtm_i2l, qtm_l2i, qtm_if, qtm_cmp, qtm_getf, qtm_puti, qtm_putz, qtm_putl, qtm_iald, qtm_iast, qtm_zald, qtm_zast, qtm_aald, qtm_tsw, qtm_callV, qtm_callS, qtm_acp, qtm_alen, qtm_max, qtm_min, qtm_dup, qtm_pop, qtm_iret, qtm_zret, qtm_lret, qtm_aret, qtm_vret, qtm_swn, qtm_swc, am_oi_c, am_ol_c, am_or_r, am_or_f, am_pi_c, am_pj_c, am_pr_c, am_pa_r, am_pa_f, am_yo_c, am_ya_c, am_fv_i, am_fv_l, am_fv_r, am_fi_c, am_fl_c, am_rv_c, am_n2_s, am_n2_n, am_pv_0, am_pv_s, am_cs_n, am_cs_c, Value.category, List.getElem?_cons_zero, List.getElem?_cons_succ, List.set_cons_zero, List.set_cons_succ, List.length_cons, List.length_nil, List.drop_succ_cons, List.drop_zero, List.take_succ_cons, List.take_zero, List.take_nil, List.reverse_cons, List.reverse_nil, List.nil_append, List.cons_append, List.append_nil, true_and, and_true, Int.reduceAdd, am_o0, am_o1, am_o2, am_o3, am_o4, am_o5, am_o6, am_o7, am_o8, am_o9, am_o10, am_o11, am_o12, am_o13, am_o14, am_o15, am_o16, am_o17, am_o18, am_o19, am_o20, am_o21, am_o22, am_o23, am_o24, am_o25, am_o26, am_o27, Nat.reduceAdd, Nat.reduceLeDiff, Nat.reduceLT, Nat.zero_le]
          obtain ⟨qC, cC⟩ := up0 _ 8 (nI (sp_dig (sp_pl (s.w 7) s.n k) s.n)) (by decide) cB qB
          refine ih _ _ _ qC cC ?_ (fun _ => ⟨?_, ?_⟩)
          · rw [bs1, am_up_ap, if_pos rfl, if_neg (by decide), am_up_ap, if_pos rfl, if_neg (by decide), am_up_ap, if_pos rfl, if_pos rfl]
          · rw [bs1, am_up_ap, if_pos rfl, if_pos rfl]
          · rw [bs1, am_up_ap, if_pos rfl, if_neg (by decide), am_up_ap, if_pos rfl, if_pos rfl]
      have lose : ¬ ((sp_bs (s.T s.ru) s.w s.n N k).2.1 < O ∨ (O = (sp_bs (s.T s.ru) s.w s.n N k).2.1 ∧ U < (sp_bs (s.T s.ru) s.w s.n N k).2.2)) → am_At X (am_MQ X K 0 0) 6 0 0 44 [.ref 0, .int (nI N), .int (nI (4 ^ sp_cN (s.w 7) s.n)), .int (nI (k + 1)), .int O, .int U] [] Y h2 := by
        intro hc
        rw [if_neg hc] at bs1
        have k0 : k ≠ 0 := fun e => hc (Or.inl (by rw [e]; exact pos))
        obtain ⟨g5, g6⟩ := g4 k0
        exact ih h2 _ _ q2 c2 (by rw [bs1, e20]; exact g3) (fun _ => ⟨by rw [bs1, e20]; exact g5, by rw [bs1, e20]; exact g6⟩)
      simp only [o0, e20, g3, nI_1, Int32.reduceLT, Int32.reduceLE, eq_self, am_10, am_00, am_01, am_11, true_implies, false_implies, not_true_eq_false, not_false_eq_true, or_true, true_or, and_self, implies_true, qtm_push, qtm_iload, qtm_lload, qtm_aload, qtm_istore, qtm_lstore, qtm_astore, qtm_iinc, qtm_un, qtm_bin, qtm_div, qtm_lbin, qtm_ldiv, qtm_lsh, qtm_lcmp, qtm_i2l, qtm_l2i, qtm_if, qtm_cmp, qtm_getf, qtm_puti, qtm_putz, qtm_putl, qtm_iald, qtm_iast, qtm_zald, qtm_zast, qtm_aald, qtm_tsw, qtm_callV, qtm_callS, qtm_acp, qtm_alen, qtm_max, qtm_min, qtm_dup, qtm_pop, qtm_iret, qtm_zret, qtm_lret, qtm_aret, qtm_vret, qtm_swn, qtm_swc, am_oi_c, am_ol_c, am_or_r, am_or_f, am_pi_c, am_pj_c, am_pr_c, am_pa_r, am_pa_f, am_yo_c, am_ya_c, am_fv_i, am_fv_l, am_fv_r, am_fi_c, am_fl_c, am_rv_c, am_n2_s, am_n2_n, am_pv_0, am_pv_s, am_cs_n, am_cs_c, Value.category, List.getElem?_cons_zero, List.getElem?_cons_succ, List.set_cons_zero, List.set_cons_succ, List.length_cons, List.length_nil, List.drop_succ_cons, List.drop_zero, List.take_succ_cons, List.take_zero, List.take_nil, List.reverse_cons, List.reverse_nil, List.nil_append, List.cons_append, List.append_nil, true_and, and_true, Int.reduceAdd, am_o0, am_o1, am_o2, am_o3, am_o4, am_o5, am_o6, am_o7, am_o8, am_o9, am_o10, am_o11, am_o12, am_o13, am_o14, am_o15, am_o16, am_o17, am_o18, am_o19, am_o20, am_o21, am_o22, am_o23, am_o24, am_o25, am_o26, am_o27, Nat.reduceAdd, Nat.reduceLeDiff, Nat.reduceLT, Nat.zero_le]
      refine ⟨fun z => ⟨by omega, win (Or.inl z)⟩, fun z => ⟨fun z2 => ?_, fun z2 => lose (fun y => y.elim z (fun y => z2 y.1))⟩⟩
      have k0 : k ≠ 0 := fun e => z (by rw [e]; exact pos)
      rw [(g4 k0).2]
      exact ⟨fun z3 => lose (fun y => y.elim z (fun y => absurd y.2 (Int32.not_lt.mpr z3))), fun z3 => ⟨by omega, win (Or.inr ⟨z2, Int32.not_le.mp z3⟩)⟩⟩)
  have loop := am_for (P := fun i => ∀ (a4 a5 : Value), am_At X (am_MQ X K 0 0) 6 0 0 4 [.ref 0, .int (nI N), .int (nI (4 ^ sp_cN (s.w 7) i)), .int (nI i), a4, a5] [] Y h) s.n
    (fun a4 a5 => by
      refine sd_X5_searchShifts_4 F hr _ _ _ _ ?_
      simp only [te_X5_searchShifts_4, te_X5_searchShifts_37, te_X5_searchShifts_15, te_X5_searchShifts_31, te_X5_searchShifts_27, o0, o1.1, e8, Int32.reduceLT, Int32.reduceLE, eq_self, am_10, am_00, am_01, am_11, true_implies, false_implies, not_true_eq_false, not_false_eq_true, or_true, true_or, and_self, implies_true, qtm_push, qtm_iload, qtm_lload, qtm_aload, qtm_istore, qtm_lstore, qtm_astore, qtm_iinc, qtm_un, qtm_bin, qtm_div, qtm_lbin, qtm_ldiv, qtm_lsh, qtm_lcmp, qtm_i2l, qtm_l2i, qtm_if, qtm_cmp, qtm_getf, qtm_puti, qtm_putz, qtm_putl, qtm_iald, qtm_iast, qtm_zald, qtm_zast, qtm_aald, qtm_tsw, qtm_callV, qtm_callS, qtm_acp, qtm_alen, qtm_max, qtm_min, qtm_dup, qtm_pop, qtm_iret, qtm_zret, qtm_lret, qtm_aret, qtm_vret, qtm_swn, qtm_swc, am_oi_c, am_ol_c, am_or_r, am_or_f, am_pi_c, am_pj_c, am_pr_c, am_pa_r, am_pa_f, am_yo_c, am_ya_c, am_fv_i, am_fv_l, am_fv_r, am_fi_c, am_fl_c, am_rv_c, am_n2_s, am_n2_n, am_pv_0, am_pv_s, am_cs_n, am_cs_c, Value.category, List.getElem?_cons_zero, List.getElem?_cons_succ, List.set_cons_zero, List.set_cons_succ, List.length_cons, List.length_nil, List.drop_succ_cons, List.drop_zero, List.take_succ_cons, List.take_zero, List.take_nil, List.reverse_cons, List.reverse_nil, List.nil_append, List.cons_append, List.append_nil, true_and, and_true, Int.reduceAdd, am_o0, am_o1, am_o2, am_o3, am_o4, am_o5, am_o6, am_o7, am_o8, am_o9, am_o10, am_o11, am_o12, am_o13, am_o14, am_o15, am_o16, am_o17, am_o18, am_o19, am_o20, am_o21, am_o22, am_o23, am_o24, am_o25, am_o26, am_o27, Nat.reduceAdd, Nat.reduceLeDiff, Nat.reduceLT, Nat.zero_le]
      refine ⟨fun _ => ?_, fun z => absurd (nI_le (Nat.le_refl _) (by omega)) z⟩
      have u9 := up0 h 9 (-1) (by decide) hC (am_p4.rf h)
      exact main 0 (Nat.zero_le _) _ a4 a5 u9.1 u9.2 (by rw [am_up_ap, if_pos rfl, if_pos rfl]; rfl) (fun y => absurd rfl y))
    (fun i hi ih a4 a5 => by
      have e7 : h 8 i = s.w 7 i := hR.row 7 (by decide) (by decide) (by omega)
      refine sd_X5_searchShifts_4 F hr _ _ _ _ ?_
      simp only [te_X5_searchShifts_4, te_X5_searchShifts_37, te_X5_searchShifts_15, te_X5_searchShifts_31, te_X5_searchShifts_27, o0, o1.1, e8, v8, nI_clamp (show i < 2 ^ 31 by omega), e7, nI_1, Int32.reduceLT, Int32.reduceLE, eq_self, am_10, am_00, am_01, am_11, true_implies, false_implies, not_true_eq_false, not_false_eq_true, or_true, true_or, and_self, implies_true, qtm_push, qtm_iload, qtm_lload, qtm_aload, qtm_istore, qtm_lstore, qtm_astore, qtm_iinc, qtm_un, qtm_bin, qtm_div, qtm_lbin, qtm_ldiv, qtm_lsh, qtm_lcmp, qtm_i2l, qtm_l2i, qtm_if, qtm_cmp, qtm_getf, qtm_puti, qtm_putz, qtm_putl, qtm_iald, qtm_iast, qtm_zald, qtm_zast, qtm_aald, qtm_tsw, qtm_callV, qtm_callS, qtm_acp, qtm_alen, qtm_max, qtm_min, qtm_dup, qtm_pop, qtm_iret, qtm_zret, qtm_lret, qtm_aret, qtm_vret, qtm_swn, qtm_swc, am_oi_c, am_ol_c, am_or_r, am_or_f, am_pi_c, am_pj_c, am_pr_c, am_pa_r, am_pa_f, am_yo_c, am_ya_c, am_fv_i, am_fv_l, am_fv_r, am_fi_c, am_fl_c, am_rv_c, am_n2_s, am_n2_n, am_pv_0, am_pv_s, am_cs_n, am_cs_c, Value.category, List.getElem?_cons_zero, List.getElem?_cons_succ, List.set_cons_zero, List.set_cons_succ, List.length_cons, List.length_nil, List.drop_succ_cons, List.drop_zero, List.take_succ_cons, List.take_zero, List.take_nil, List.reverse_cons, List.reverse_nil, List.nil_append, List.cons_append, List.append_nil, true_and, and_true, Int.reduceAdd, am_o0, am_o1, am_o2, am_o3, am_o4, am_o5, am_o6, am_o7, am_o8, am_o9, am_o10, am_o11, am_o12, am_o13, am_o14, am_o15, am_o16, am_o17, am_o18, am_o19, am_o20, am_o21, am_o22, am_o23, am_o24, am_o25, am_o26, am_o27, Nat.reduceAdd, Nat.reduceLeDiff, Nat.reduceLT, Nat.zero_le]
      refine ⟨fun z => absurd ((nI_leI (by omega) (by omega)).mp z) (by omega), fun _ => ⟨vp_in_nI (by omega) (by decide), fun z => ?_, fun z => ?_⟩⟩
      · have := ih a4 a5
        rw [sp_cN, if_pos z, Nat.pow_succ] at this
        rw [show (4 : Int32) = nI 4 from rfl, pk_mul]
        exact this
      · have := ih a4 a5
        rw [sp_cN, if_neg z] at this
        exact this)
  simp only [te_X5_searchShifts_0, Int32.reduceLT, Int32.reduceLE, eq_self, am_10, am_00, am_01, am_11, true_implies, false_implies, not_true_eq_false, not_false_eq_true, or_true, true_or, and_self, implies_true, qtm_push, qtm_iload, qtm_lload, qtm_aload, qtm_istore, qtm_lstore, qtm_astore, qtm_iinc, qtm_un, qtm_bin, qtm_div, qtm_lbin, qtm_ldiv, qtm_lsh, qtm_lcmp, qtm_i2l, qtm_l2i, qtm_if, qtm_cmp, qtm_getf, qtm_puti, qtm_putz, qtm_putl, qtm_iald, qtm_iast, qtm_zald, qtm_zast, qtm_aald, qtm_tsw, qtm_callV, qtm_callS, qtm_acp, qtm_alen, qtm_max, qtm_min, qtm_dup, qtm_pop, qtm_iret, qtm_zret, qtm_lret, qtm_aret, qtm_vret, qtm_swn, qtm_swc, am_oi_c, am_ol_c, am_or_r, am_or_f, am_pi_c, am_pj_c, am_pr_c, am_pa_r, am_pa_f, am_yo_c, am_ya_c, am_fv_i, am_fv_l, am_fv_r, am_fi_c, am_fl_c, am_rv_c, am_n2_s, am_n2_n, am_pv_0, am_pv_s, am_cs_n, am_cs_c, Value.category, List.getElem?_cons_zero, List.getElem?_cons_succ, List.set_cons_zero, List.set_cons_succ, List.length_cons, List.length_nil, List.drop_succ_cons, List.drop_zero, List.take_succ_cons, List.take_zero, List.take_nil, List.reverse_cons, List.reverse_nil, List.nil_append, List.cons_append, List.append_nil, true_and, and_true, Int.reduceAdd, am_o0, am_o1, am_o2, am_o3, am_o4, am_o5, am_o6, am_o7, am_o8, am_o9, am_o10, am_o11, am_o12, am_o13, am_o14, am_o15, am_o16, am_o17, am_o18, am_o19, am_o20, am_o21, am_o22, am_o23, am_o24, am_o25, am_o26, am_o27, Nat.reduceAdd, Nat.reduceLeDiff, Nat.reduceLT, Nat.zero_le]
  exact loop 0 (Nat.zero_le _) _ _
set_option maxHeartbeats 4000000 in
set_option maxRecDepth 100000 in
theorem o_X5_shifts {k what : Int32} (hd : 8 ≤ d) (hC : am_Cl Y h s) (hI : am_I s) (hK : ∀ h1, am_p4 h h1 → am_Cl Y h1 s → K [.int (sp_shifts s k what)] Y h1) : am_Met d 0 0 YX5_shifts [.ref 0, .int k, .int what] Y h K := by
  refine en_X5_shifts fun X F hr => ?_
  have o0 := hC.1.1
  have bad : ¬ (am_is 13 k = true ∧ am_is 3 what = true) → K [.int (-2)] Y h := fun y => by
    unfold sp_shifts at hK
    rw [if_neg y] at hK
    exact hK h (am_p4.rf h) hC
  have e12 : (k ≤ 12) ↔ k < 13 := am_lt_le (n := 12) (by decide)
  have e2 : (what ≤ 2) ↔ what < 3 := am_lt_le (n := 2) (by decide)
  simp only [te_X5_shifts_0, te_X5_shifts_4, te_X5_shifts_19, te_X5_shifts_10, te_X5_shifts_14, te_X5_shifts_22, te_X5_shifts_38, te_X5_shifts_50, te_X5_shifts_54, te_X5_shifts_43, te_X5_shifts_31, o0, Int32.reduceLT, Int32.reduceLE, eq_self, am_10, am_00, am_01, am_11, true_implies, false_implies, not_true_eq_false, not_false_eq_true, or_true, true_or, and_self, implies_true, qtm_push, qtm_iload, qtm_lload, qtm_aload, qtm_istore, qtm_lstore, qtm_astore, qtm_iinc, qtm_un, qtm_bin, qtm_div, qtm_lbin, qtm_ldiv, qtm_lsh, qtm_lcmp, qtm_i2l, qtm_l2i, qtm_if, qtm_cmp, qtm_getf, qtm_puti, qtm_putz, qtm_putl, qtm_iald, qtm_iast, qtm_zald, qtm_zast, qtm_aald, qtm_tsw, qtm_callV, qtm_callS, qtm_acp, qtm_alen, qtm_max, qtm_min, qtm_dup, qtm_pop, qtm_iret, qtm_zret, qtm_lret, qtm_aret, qtm_vret, qtm_swn, qtm_swc, am_oi_c, am_ol_c, am_or_r, am_or_f, am_pi_c, am_pj_c, am_pr_c, am_pa_r, am_pa_f, am_yo_c, am_ya_c, am_fv_i, am_fv_l, am_fv_r, am_fi_c, am_fl_c, am_rv_c, am_n2_s, am_n2_n, am_pv_0, am_pv_s, am_cs_n, am_cs_c, Value.category, List.getElem?_cons_zero, List.getElem?_cons_succ, List.set_cons_zero, List.set_cons_succ, List.length_cons, List.length_nil, List.drop_succ_cons, List.drop_zero, List.take_succ_cons, List.take_zero, List.take_nil, List.reverse_cons, List.reverse_nil, List.nil_append, List.cons_append, List.append_nil, true_and, and_true, Int.reduceAdd, am_o0, am_o1, am_o2, am_o3, am_o4, am_o5, am_o6, am_o7, am_o8, am_o9, am_o10, am_o11, am_o12, am_o13, am_o14, am_o15, am_o16, am_o17, am_o18, am_o19, am_o20, am_o21, am_o22, am_o23, am_o24, am_o25, am_o26, am_o27, Nat.reduceAdd, Nat.reduceLeDiff, Nat.reduceLT, Nat.zero_le]
  refine ⟨fun z => bad fun y => by rw [am_is_neg z] at y; exact absurd y.1 (by decide), fun z => ⟨fun z2 => bad fun y => by rw [am_is_big (n := 13) (fun t => absurd z2 (Int32.not_lt.mpr (e12.mpr t)))] at y; exact absurd y.1 (by decide), fun z2' => ⟨fun z3 => bad fun y => by rw [am_is_neg z3] at y; exact absurd y.2 (by decide), fun z3 => ⟨fun z4 => ?_, fun z4 => bad fun y => by rw [am_is_big (n := 3) (fun t => z4 (e2.mpr t))] at y; exact absurd y.2 (by decide)⟩⟩⟩⟩
  have z2 := Int32.not_lt.mp z2'
  have q1 := am_is_of (n := 13) z (e12.mp z2)
  have q2 := am_is_of (n := 3) z3 (e2.mp z4)
  obtain ⟨N, hN, rfl⟩ := am_is_o (by decide) q1
  unfold sp_shifts at hK
  rw [if_pos ⟨q1, q2⟩, nI_clamp (by omega)] at hK
  refine ⟨by omega, c_X5_searchShifts (by omega) (by omega) hC hI fun h1 g1 g2 g3 g4 g5 => ?_⟩
  have := hK h1 g1 g2
  simp only [o0, g3, g4, g5, Int32.reduceLT, Int32.reduceLE, eq_self, am_10, am_00, am_01, am_11, true_implies, false_implies, not_true_eq_false, not_false_eq_true, or_true, true_or, and_self, implies_true, qtm_push, qtm_iload, qtm_lload, qtm_aload, qtm_istore, qtm_lstore, qtm_astore, qtm_iinc, qtm_un, qtm_bin, qtm_div, qtm_lbin, qtm_ldiv, qtm_lsh, qtm_lcmp, qtm_i2l, qtm_l2i, qtm_if, qtm_cmp, qtm_getf, qtm_puti, qtm_putz, qtm_putl, qtm_iald, qtm_iast, qtm_zald, qtm_zast, qtm_aald, qtm_tsw, qtm_callV, qtm_callS, qtm_acp, qtm_alen, qtm_max, qtm_min, qtm_dup, qtm_pop, qtm_iret, qtm_zret, qtm_lret, qtm_aret, qtm_vret, qtm_swn, qtm_swc, am_oi_c, am_ol_c, am_or_r, am_or_f, am_pi_c, am_pj_c, am_pr_c, am_pa_r, am_pa_f, am_yo_c, am_ya_c, am_fv_i, am_fv_l, am_fv_r, am_fi_c, am_fl_c, am_rv_c, am_n2_s, am_n2_n, am_pv_0, am_pv_s, am_cs_n, am_cs_c, Value.category, List.getElem?_cons_zero, List.getElem?_cons_succ, List.set_cons_zero, List.set_cons_succ, List.length_cons, List.length_nil, List.drop_succ_cons, List.drop_zero, List.take_succ_cons, List.take_zero, List.take_nil, List.reverse_cons, List.reverse_nil, List.nil_append, List.cons_append, List.append_nil, true_and, and_true, Int.reduceAdd, am_o0, am_o1, am_o2, am_o3, am_o4, am_o5, am_o6, am_o7, am_o8, am_o9, am_o10, am_o11, am_o12, am_o13, am_o14, am_o15, am_o16, am_o17, am_o18, am_o19, am_o20, am_o21, am_o22, am_o23, am_o24, am_o25, am_o26, am_o27, Nat.reduceAdd, Nat.reduceLeDiff, Nat.reduceLT, Nat.zero_le]
  refine ⟨fun y => ?_, fun y => ⟨fun y2 => ?_, fun y2 => ?_⟩⟩
  · rw [if_pos y] at this; exact this
  · rw [if_neg y, if_pos y2] at this; exact this
  · rw [if_neg y, if_neg y2] at this; exact this
end CON
