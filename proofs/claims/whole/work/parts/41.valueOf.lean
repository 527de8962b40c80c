/-! a part of a text: steps (sort, number) over a pile -/
def sp_jn (s : Nat) (a b : Int32) : Int32 := if s = 4 then a + b else if s = 5 then a - b else if s = 6 then a * b else if s = 7 then (if a < b then 1 else 0) else if s = 8 then (if a = b then 1 else 0) else if s = 9 then (if a = 0 then 0 else if b = 0 then 0 else 1) else (if a = 0 then (if b = 0 then 0 else 1) else 1)
def sp_ex (nm : Nat → Int32) : List (Nat × Nat) → List Int32 → List Int32
  | [], s => s
  | (k, v) :: l, s => if k = 0 then sp_ex nm l (nI v :: s) else if k = 1 then sp_ex nm l (nm v :: s) else if k = 2 then sp_ex nm l (-(s.headD 0) :: s.tail) else if k = 3 then sp_ex nm l ((if s.headD 0 = 0 then 1 else 0) :: s.tail) else sp_ex nm l (sp_jn k (s.tail.headD 0) (s.headD 0) :: s.tail.tail)
def sp_wf : List (Nat × Nat) → Nat → Prop
  | [], n => n = 1
  | (k, v) :: l, n => if k ≤ 1 then n < 36 ∧ v < 16384 ∧ (k = 1 → v < 6) ∧ sp_wf l (n + 1) else if k ≤ 3 then 1 ≤ n ∧ v = 0 ∧ sp_wf l n else k ≤ 10 ∧ v = 0 ∧ 2 ≤ n ∧ sp_wf l (n - 1)
def sp_val (nm : Nat → Int32) (l : List (Nat × Nat)) : Int32 := (sp_ex nm l []).headD 0
def sp_stk (f : Nat → Int32) : List Int32 → Prop
  | [] => True
  | a :: l => f l.length = a ∧ sp_stk f l
def sp_cd (f : Nat → Int32) : Nat → List (Nat × Nat) → Prop
  | _, [] => True
  | i, (k, v) :: l => f i = nI (k * 16384 + v) ∧ sp_cd f (i + 1) l
theorem sp_stk_up {f g : Nat → Int32} : ∀ l : List Int32, (∀ j, j < l.length → g j = f j) → sp_stk f l → sp_stk g l
  | [], _, _ => trivial
  | a :: l, hg, h => ⟨by rw [hg l.length (by simp)]; exact h.1, sp_stk_up l (fun j hj => hg j (by simp; omega)) h.2⟩
theorem sp_cd_cong {f g : Nat → Int32} : ∀ (l : List (Nat × Nat)) (i : Nat), (∀ j, i ≤ j → j < i + l.length → g j = f j) → sp_cd f i l → sp_cd g i l
  | [], _, _, _ => trivial
  | (k, v) :: l, i, hg, h => ⟨by rw [hg i (by omega) (by simp)]; exact h.1, sp_cd_cong l (i + 1) (fun j h1 h2 => hg j (by omega) (by simp; omega)) h.2⟩
section CON
variable {d : Nat} {Y : List am_C} {h : am_H} {K : List Value → List am_C → am_H → Prop}
set_option maxHeartbeats 4000000 in
set_option maxRecDepth 100000 in
theorem c_X2_joined {k : Nat} {x y : Int32} (hk4 : 4 ≤ k) (hk : k ≤ 10) (hK : K [.int (sp_jn k x y)] Y h) : am_Met d 0 0 YX2_joined [.int (nI k), .int x, .int y] Y h K := by
  refine en_X2_joined fun X F hr => ?_
  have hcs : k = 4 ∨ k = 5 ∨ k = 6 ∨ k = 7 ∨ k = 8 ∨ k = 9 ∨ k = 10 := by omega
  rcases hcs with rfl | rfl | rfl | rfl | rfl | rfl | rfl
  · simp only [tr_X2_joined_0, tr_X2_joined_88, tr_X2_joined_96, tr_X2_joined_101, tr_X2_joined_92, tr_X2_joined_100, tr_X2_joined_74, tr_X2_joined_86, tr_X2_joined_87, tr_X2_joined_78, tr_X2_joined_82, tr_X2_joined_63, tr_X2_joined_72, tr_X2_joined_73, tr_X2_joined_68, tr_X2_joined_52, tr_X2_joined_61, tr_X2_joined_62, tr_X2_joined_57, tr_X2_joined_48, tr_X2_joined_44, tr_X2_joined_40, tm_push, tm_iload, tm_lload, tm_aload, tm_istore, tm_lstore, tm_astore, tm_iinc, tm_un, tm_bin, tm_div, tm_lbin, tm_ldiv, tm_lsh, tm_lcmp, tm_i2l, tm_l2i, tm_dup, tm_pop, tm_if, tm_cmp, tm_getf, tm_puti, tm_putz, tm_putl, tm_iald, tm_iast, tm_zald, tm_zast, tm_aald, tm_iret, tm_zret, tm_lret, tm_aret, tm_vret, tm_swc, tm_tsw, tm_callV, tm_callS, tm_max, tm_min, tm_acp, tm_alen, am_oi, am_ol, am_or, am_pi, am_pj, am_pr, am_pa, am_yo, am_ya, am_fv, am_fi, am_fl, am_rv, am_n2, am_pv, am_cs, Value.category, List.getElem?_cons_zero, List.getElem?_cons_succ, List.set_cons_zero, List.set_cons_succ, List.length_cons, List.length_nil, List.drop_succ_cons, List.drop_zero, List.take_succ_cons, List.take_zero, List.take_nil, List.reverse_cons, List.reverse_nil, List.nil_append, List.cons_append, List.append_nil, true_and, and_true, Int.reduceAdd, am_o0, am_o1, am_o2, am_o3, am_o4, am_o5, am_o6, am_o7, am_o8, am_o9, am_o10, am_o11, am_o12, am_o13, am_o14, am_o15, am_o16, am_o17, am_o18, am_o19, am_o20, am_o21, am_o22, am_o23, am_o24, am_o25, am_o26, am_o27, Nat.reduceAdd, Nat.reduceLeDiff, Nat.reduceLT, Nat.zero_le]
    refine ⟨fun _ => hK, fun q => absurd rfl q⟩
  · simp only [tr_X2_joined_0, tr_X2_joined_88, tr_X2_joined_96, tr_X2_joined_101, tr_X2_joined_92, tr_X2_joined_100, tr_X2_joined_74, tr_X2_joined_86, tr_X2_joined_87, tr_X2_joined_78, tr_X2_joined_82, tr_X2_joined_63, tr_X2_joined_72, tr_X2_joined_73, tr_X2_joined_68, tr_X2_joined_52, tr_X2_joined_61, tr_X2_joined_62, tr_X2_joined_57, tr_X2_joined_48, tr_X2_joined_44, tr_X2_joined_40, tm_push, tm_iload, tm_lload, tm_aload, tm_istore, tm_lstore, tm_astore, tm_iinc, tm_un, tm_bin, tm_div, tm_lbin, tm_ldiv, tm_lsh, tm_lcmp, tm_i2l, tm_l2i, tm_dup, tm_pop, tm_if, tm_cmp, tm_getf, tm_puti, tm_putz, tm_putl, tm_iald, tm_iast, tm_zald, tm_zast, tm_aald, tm_iret, tm_zret, tm_lret, tm_aret, tm_vret, tm_swc, tm_tsw, tm_callV, tm_callS, tm_max, tm_min, tm_acp, tm_alen, am_oi, am_ol, am_or, am_pi, am_pj, am_pr, am_pa, am_yo, am_ya, am_fv, am_fi, am_fl, am_rv, am_n2, am_pv, am_cs, Value.category, List.getElem?_cons_zero, List.getElem?_cons_succ, List.set_cons_zero, List.set_cons_succ, List.length_cons, List.length_nil, List.drop_succ_cons, List.drop_zero, List.take_succ_cons, List.take_zero, List.take_nil, List.reverse_cons, List.reverse_nil, List.nil_append, List.cons_append, List.append_nil, true_and, and_true, Int.reduceAdd, am_o0, am_o1, am_o2, am_o3, am_o4, am_o5, am_o6, am_o7, am_o8, am_o9, am_o10, am_o11, am_o12, am_o13, am_o14, am_o15, am_o16, am_o17, am_o18, am_o19, am_o20, am_o21, am_o22, am_o23, am_o24, am_o25, am_o26, am_o27, Nat.reduceAdd, Nat.reduceLeDiff, Nat.reduceLT, Nat.zero_le]
    refine ⟨fun q => absurd q (by decide), fun _ => ⟨fun _ => hK, fun q => absurd rfl q⟩⟩
  · simp only [tr_X2_joined_0, tr_X2_joined_88, tr_X2_joined_96, tr_X2_joined_101, tr_X2_joined_92, tr_X2_joined_100, tr_X2_joined_74, tr_X2_joined_86, tr_X2_joined_87, tr_X2_joined_78, tr_X2_joined_82, tr_X2_joined_63, tr_X2_joined_72, tr_X2_joined_73, tr_X2_joined_68, tr_X2_joined_52, tr_X2_joined_61, tr_X2_joined_62, tr_X2_joined_57, tr_X2_joined_48, tr_X2_joined_44, tr_X2_joined_40, tm_push, tm_iload, tm_lload, tm_aload, tm_istore, tm_lstore, tm_astore, tm_iinc, tm_un, tm_bin, tm_div, tm_lbin, tm_ldiv, tm_lsh, tm_lcmp, tm_i2l, tm_l2i, tm_dup, tm_pop, tm_if, tm_cmp, tm_getf, tm_puti, tm_putz, tm_putl, tm_iald, tm_iast, tm_zald, tm_zast, tm_aald, tm_iret, tm_zret, tm_lret, tm_aret, tm_vret, tm_swc, tm_tsw, tm_callV, tm_callS, tm_max, tm_min, tm_acp, tm_alen, am_oi, am_ol, am_or, am_pi, am_pj, am_pr, am_pa, am_yo, am_ya, am_fv, am_fi, am_fl, am_rv, am_n2, am_pv, am_cs, Value.category, List.getElem?_cons_zero, List.getElem?_cons_succ, List.set_cons_zero, List.set_cons_succ, List.length_cons, List.length_nil, List.drop_succ_cons, List.drop_zero, List.take_succ_cons, List.take_zero, List.take_nil, List.reverse_cons, List.reverse_nil, List.nil_append, List.cons_append, List.append_nil, true_and, and_true, Int.reduceAdd, am_o0, am_o1, am_o2, am_o3, am_o4, am_o5, am_o6, am_o7, am_o8, am_o9, am_o10, am_o11, am_o12, am_o13, am_o14, am_o15, am_o16, am_o17, am_o18, am_o19, am_o20, am_o21, am_o22, am_o23, am_o24, am_o25, am_o26, am_o27, Nat.reduceAdd, Nat.reduceLeDiff, Nat.reduceLT, Nat.zero_le]
    refine ⟨fun q => absurd q (by decide), fun _ => ⟨fun q => absurd q (by decide), fun _ => ⟨fun _ => hK, fun q => absurd rfl q⟩⟩⟩
  · simp only [tr_X2_joined_0, tr_X2_joined_88, tr_X2_joined_96, tr_X2_joined_101, tr_X2_joined_92, tr_X2_joined_100, tr_X2_joined_74, tr_X2_joined_86, tr_X2_joined_87, tr_X2_joined_78, tr_X2_joined_82, tr_X2_joined_63, tr_X2_joined_72, tr_X2_joined_73, tr_X2_joined_68, tr_X2_joined_52, tr_X2_joined_61, tr_X2_joined_62, tr_X2_joined_57, tr_X2_joined_48, tr_X2_joined_44, tr_X2_joined_40, tm_push, tm_iload, tm_lload, tm_aload, tm_istore, tm_lstore, tm_astore, tm_iinc, tm_un, tm_bin, tm_div, tm_lbin, tm_ldiv, tm_lsh, tm_lcmp, tm_i2l, tm_l2i, tm_dup, tm_pop, tm_if, tm_cmp, tm_getf, tm_puti, tm_putz, tm_putl, tm_iald, tm_iast, tm_zald, tm_zast, tm_aald, tm_iret, tm_zret, tm_lret, tm_aret, tm_vret, tm_swc, tm_tsw, tm_callV, tm_callS, tm_max, tm_min, tm_acp, tm_alen, am_oi, am_ol, am_or, am_pi, am_pj, am_pr, am_pa, am_yo, am_ya, am_fv, am_fi, am_fl, am_rv, am_n2, am_pv, am_cs, Value.category, List.getElem?_cons_zero, List.getElem?_cons_succ, List.set_cons_zero, List.set_cons_succ, List.length_cons, List.length_nil, List.drop_succ_cons, List.drop_zero, List.take_succ_cons, List.take_zero, List.take_nil, List.reverse_cons, List.reverse_nil, List.nil_append, List.cons_append, List.append_nil, true_and, and_true, Int.reduceAdd, am_o0, am_o1, am_o2, am_o3, am_o4, am_o5, am_o6, am_o7, am_o8, am_o9, am_o10, am_o11, am_o12, am_o13, am_o14, am_o15, am_o16, am_o17, am_o18, am_o19, am_o20, am_o21, am_o22, am_o23, am_o24, am_o25, am_o26, am_o27, Nat.reduceAdd, Nat.reduceLeDiff, Nat.reduceLT, Nat.zero_le]
    refine ⟨fun q => absurd q (by decide), fun _ => ⟨fun q => absurd q (by decide), fun _ => ⟨fun q => absurd q (by decide), fun _ => ⟨fun _ => ?_, fun q => absurd rfl q⟩⟩⟩⟩
    simp only [sp_jn] at hK
    refine ⟨fun q => ?_, fun q => ?_⟩
    · simpa [Int32.not_lt.mpr q] using hK
    · simpa [Int32.not_le.mp q] using hK
  · simp only [tr_X2_joined_0, tr_X2_joined_88, tr_X2_joined_96, tr_X2_joined_101, tr_X2_joined_92, tr_X2_joined_100, tr_X2_joined_74, tr_X2_joined_86, tr_X2_joined_87, tr_X2_joined_78, tr_X2_joined_82, tr_X2_joined_63, tr_X2_joined_72, tr_X2_joined_73, tr_X2_joined_68, tr_X2_joined_52, tr_X2_joined_61, tr_X2_joined_62, tr_X2_joined_57, tr_X2_joined_48, tr_X2_joined_44, tr_X2_joined_40, tm_push, tm_iload, tm_lload, tm_aload, tm_istore, tm_lstore, tm_astore, tm_iinc, tm_un, tm_bin, tm_div, tm_lbin, tm_ldiv, tm_lsh, tm_lcmp, tm_i2l, tm_l2i, tm_dup, tm_pop, tm_if, tm_cmp, tm_getf, tm_puti, tm_putz, tm_putl, tm_iald, tm_iast, tm_zald, tm_zast, tm_aald, tm_iret, tm_zret, tm_lret, tm_aret, tm_vret, tm_swc, tm_tsw, tm_callV, tm_callS, tm_max, tm_min, tm_acp, tm_alen, am_oi, am_ol, am_or, am_pi, am_pj, am_pr, am_pa, am_yo, am_ya, am_fv, am_fi, am_fl, am_rv, am_n2, am_pv, am_cs, Value.category, List.getElem?_cons_zero, List.getElem?_cons_succ, List.set_cons_zero, List.set_cons_succ, List.length_cons, List.length_nil, List.drop_succ_cons, List.drop_zero, List.take_succ_cons, List.take_zero, List.take_nil, List.reverse_cons, List.reverse_nil, List.nil_append, List.cons_append, List.append_nil, true_and, and_true, Int.reduceAdd, am_o0, am_o1, am_o2, am_o3, am_o4, am_o5, am_o6, am_o7, am_o8, am_o9, am_o10, am_o11, am_o12, am_o13, am_o14, am_o15, am_o16, am_o17, am_o18, am_o19, am_o20, am_o21, am_o22, am_o23, am_o24, am_o25, am_o26, am_o27, Nat.reduceAdd, Nat.reduceLeDiff, Nat.reduceLT, Nat.zero_le]
    refine ⟨fun q => absurd q (by decide), fun _ => ⟨fun q => absurd q (by decide), fun _ => ⟨fun q => absurd q (by decide), fun _ => ⟨fun q => absurd q (by decide), fun _ => ⟨fun _ => ?_, fun q => absurd rfl q⟩⟩⟩⟩⟩
    simp only [sp_jn] at hK
    refine ⟨fun q => ?_, fun q => ?_⟩
    · simpa [q] using hK
    · simpa [q] using hK
  · simp only [tr_X2_joined_0, tr_X2_joined_88, tr_X2_joined_96, tr_X2_joined_101, tr_X2_joined_92, tr_X2_joined_100, tr_X2_joined_74, tr_X2_joined_86, tr_X2_joined_87, tr_X2_joined_78, tr_X2_joined_82, tr_X2_joined_63, tr_X2_joined_72, tr_X2_joined_73, tr_X2_joined_68, tr_X2_joined_52, tr_X2_joined_61, tr_X2_joined_62, tr_X2_joined_57, tr_X2_joined_48, tr_X2_joined_44, tr_X2_joined_40, tm_push, tm_iload, tm_lload, tm_aload, tm_istore, tm_lstore, tm_astore, tm_iinc, tm_un, tm_bin, tm_div, tm_lbin, tm_ldiv, tm_lsh, tm_lcmp, tm_i2l, tm_l2i, tm_dup, tm_pop, tm_if, tm_cmp, tm_getf, tm_puti, tm_putz, tm_putl, tm_iald, tm_iast, tm_zald, tm_zast, tm_aald, tm_iret, tm_zret, tm_lret, tm_aret, tm_vret, tm_swc, tm_tsw, tm_callV, tm_callS, tm_max, tm_min, tm_acp, tm_alen, am_oi, am_ol, am_or, am_pi, am_pj, am_pr, am_pa, am_yo, am_ya, am_fv, am_fi, am_fl, am_rv, am_n2, am_pv, am_cs, Value.category, List.getElem?_cons_zero, List.getElem?_cons_succ, List.set_cons_zero, List.set_cons_succ, List.length_cons, List.length_nil, List.drop_succ_cons, List.drop_zero, List.take_succ_cons, List.take_zero, List.take_nil, List.reverse_cons, List.reverse_nil, List.nil_append, List.cons_append, List.append_nil, true_and, and_true, Int.reduceAdd, am_o0, am_o1, am_o2, am_o3, am_o4, am_o5, am_o6, am_o7, am_o8, am_o9, am_o10, am_o11, am_o12, am_o13, am_o14, am_o15, am_o16, am_o17, am_o18, am_o19, am_o20, am_o21, am_o22, am_o23, am_o24, am_o25, am_o26, am_o27, Nat.reduceAdd, Nat.reduceLeDiff, Nat.reduceLT, Nat.zero_le]
    refine ⟨fun q => absurd q (by decide), fun _ => ⟨fun q => absurd q (by decide), fun _ => ⟨fun q => absurd q (by decide), fun _ => ⟨fun q => absurd q (by decide), fun _ => ⟨fun q => absurd q (by decide), fun _ => ⟨fun _ => ?_, fun q => absurd rfl q⟩⟩⟩⟩⟩⟩
    simp only [sp_jn] at hK
    refine ⟨fun q => ?_, fun q => ⟨fun q2 => ?_, fun q2 => ?_⟩⟩
    · simpa [q] using hK
    · simpa [q, q2] using hK
    · simpa [q, q2] using hK
  · simp only [tr_X2_joined_0, tr_X2_joined_88, tr_X2_joined_96, tr_X2_joined_101, tr_X2_joined_92, tr_X2_joined_100, tr_X2_joined_74, tr_X2_joined_86, tr_X2_joined_87, tr_X2_joined_78, tr_X2_joined_82, tr_X2_joined_63, tr_X2_joined_72, tr_X2_joined_73, tr_X2_joined_68, tr_X2_joined_52, tr_X2_joined_61, tr_X2_joined_62, tr_X2_joined_57, tr_X2_joined_48, tr_X2_joined_44, tr_X2_joined_40, tm_push, tm_iload, tm_lload, tm_aload, tm_istore, tm_lstore, tm_astore, tm_iinc, tm_un, tm_bin, tm_div, tm_lbin, tm_ldiv, tm_lsh, tm_lcmp, tm_i2l, tm_l2i, tm_dup, tm_pop, tm_if, tm_cmp, tm_getf, tm_puti, tm_putz, tm_putl, tm_iald, tm_iast, tm_zald, tm_zast, tm_aald, tm_iret, tm_zret, tm_lret, tm_aret, tm_vret, tm_swc, tm_tsw, tm_callV, tm_callS, tm_max, tm_min, tm_acp, tm_alen, am_oi, am_ol, am_or, am_pi, am_pj, am_pr, am_pa, am_yo, am_ya, am_fv, am_fi, am_fl, am_rv, am_n2, am_pv, am_cs, Value.category, List.getElem?_cons_zero, List.getElem?_cons_succ, List.set_cons_zero, List.set_cons_succ, List.length_cons, List.length_nil, List.drop_succ_cons, List.drop_zero, List.take_succ_cons, List.take_zero, List.take_nil, List.reverse_cons, List.reverse_nil, List.nil_append, List.cons_append, List.append_nil, true_and, and_true, Int.reduceAdd, am_o0, am_o1, am_o2, am_o3, am_o4, am_o5, am_o6, am_o7, am_o8, am_o9, am_o10, am_o11, am_o12, am_o13, am_o14, am_o15, am_o16, am_o17, am_o18, am_o19, am_o20, am_o21, am_o22, am_o23, am_o24, am_o25, am_o26, am_o27, Nat.reduceAdd, Nat.reduceLeDiff, Nat.reduceLT, Nat.zero_le]
    refine ⟨fun q => absurd q (by decide), fun _ => ⟨fun q => absurd q (by decide), fun _ => ⟨fun q => absurd q (by decide), fun _ => ⟨fun q => absurd q (by decide), fun _ => ⟨fun q => absurd q (by decide), fun _ => ⟨fun q => absurd q (by decide), fun _ => ?_⟩⟩⟩⟩⟩⟩
    simp only [sp_jn] at hK
    refine ⟨fun q => ⟨fun q2 => ?_, fun q2 => ?_⟩, fun q => ?_⟩
    · simpa [q, q2] using hK
    · simpa [q, q2] using hK
    · simpa [q] using hK
theorem sp_hi {k v : Nat} (hk : k ≤ 10) (hv : v < 16384) : nI (k * 16384 + v) >>> ((14 : Int32) &&& 31) = nI k := by
  rw [pk_shrN (by omega) _ 14 (by decide)]
  congr 1
  omega
theorem sp_lo {k v : Nat} (hk : k ≤ 10) (hv : v < 16384) : nI (k * 16384 + v) &&& (16383 : Int32) = nI v := by
  rw [pk_andN (by omega) 14 (by decide)]
  congr 1
  omega
set_option maxHeartbeats 4000000 in
set_option maxRecDepth 100000 in
theorem c_X2_valueOf {b c e s len p i0 : Nat} {q : Nat} {ops : List (Nat × Nat)} (hd : 1 ≤ d) (hb : Y[b]? = some (2, 2, [.ref c, .ref e, .ref s])) (hc : Y[c]? = some (0, len, [])) (he : Y[e]? = some (0, 3, [])) (hs : Y[s]? = some (0, 36, [])) (hq : Y[q]? = some (0, 6, [])) (hcs : c ≠ s) (hes : e ≠ s) (hqs : q ≠ s) (hp : p < 3)
    (h0 : if p = 0 then i0 = 0 else h e (p - 1) = nI i0) (h1 : h e p = nI (i0 + ops.length)) (hl : i0 + ops.length ≤ len) (hlen : len < 1000) (hwf : sp_wf ops 0) (hcd : sp_cd (h c) i0 ops)
    (hK : ∀ h1, (∀ a, a ≠ s → h1 a = h a) → K [.int (sp_val (h q) ops)] Y h1) : am_Met d 0 0 YX2_valueOf [.ref b, .int (nI p), .ref q] Y h K := by
  refine en_X2_valueOf fun X F hr => ?_
  have loop : ∀ (l : List (Nat × Nat)) (i : Nat) (st : List Int32) (h' : am_H) (a5 a6 a7 : Value), i + l.length = i0 + ops.length → sp_wf l st.length → sp_cd (h c) i l → (∀ a, a ≠ s → h' a = h a) → sp_stk (h' s) st → st.length ≤ 36 → (sp_ex (h q) l st).headD 0 = sp_val (h q) ops → am_At X (am_MQ X K 0 0) 8 0 0 20 [.ref b, .int (nI p), .ref q, .int (nI st.length), .int (nI i), a5, a6, a7] [] Y h' := by
    intro l
    induction l with
    | nil =>
      intro i st h' a5 a6 a7 hi hw _ hh hst _ hv
      simp only [List.length_nil, Nat.add_zero] at hi
      subst hi
      simp only [sp_wf] at hw
      refine sd_X2_valueOf_20 F hr _ _ _ _ ?_
      simp only [tr_X2_valueOf_20, tr_X2_valueOf_31, tr_X2_valueOf_67, tr_X2_valueOf_73, tr_X2_valueOf_78, tr_X2_valueOf_205, tr_X2_valueOf_61, tr_X2_valueOf_111, tr_X2_valueOf_117, tr_X2_valueOf_170, tr_X2_valueOf_175, tr_X2_valueOf_211, tr_X2_valueOf_224, tr_X2_valueOf_225, tr_X2_valueOf_215, hb, he, hs, hh e hes, h1, nI_clamp (show p < 2 ^ 31 by omega), hw, tm_push, tm_iload, tm_lload, tm_aload, tm_istore, tm_lstore, tm_astore, tm_iinc, tm_un, tm_bin, tm_div, tm_lbin, tm_ldiv, tm_lsh, tm_lcmp, tm_i2l, tm_l2i, tm_dup, tm_pop, tm_if, tm_cmp, tm_getf, tm_puti, tm_putz, tm_putl, tm_iald, tm_iast, tm_zald, tm_zast, tm_aald, tm_iret, tm_zret, tm_lret, tm_aret, tm_vret, tm_swc, tm_tsw, tm_callV, tm_callS, tm_max, tm_min, tm_acp, tm_alen, am_oi, am_ol, am_or, am_pi, am_pj, am_pr, am_pa, am_yo, am_ya, am_fv, am_fi, am_fl, am_rv, am_n2, am_pv, am_cs, Value.category, List.getElem?_cons_zero, List.getElem?_cons_succ, List.set_cons_zero, List.set_cons_succ, List.length_cons, List.length_nil, List.drop_succ_cons, List.drop_zero, List.take_succ_cons, List.take_zero, List.take_nil, List.reverse_cons, List.reverse_nil, List.nil_append, List.cons_append, List.append_nil, true_and, and_true, Int.reduceAdd, am_o0, am_o1, am_o2, am_o3, am_o4, am_o5, am_o6, am_o7, am_o8, am_o9, am_o10, am_o11, am_o12, am_o13, am_o14, am_o15, am_o16, am_o17, am_o18, am_o19, am_o20, am_o21, am_o22, am_o23, am_o24, am_o25, am_o26, am_o27, Nat.reduceAdd, Nat.reduceLeDiff, Nat.reduceLT, Nat.zero_le]
      refine ⟨vp_in_nI hp (by decide), fun _ => ⟨fun z => absurd z (by decide), fun _ => ⟨am_vin (by decide), ?_⟩⟩, fun z => absurd (nI_le (Nat.le_refl _) (by omega)) z⟩
      match st, hw, hst, hv with
      | [a], _, hst, hv =>
        have e1 : h' s (0 : Int32).toNatClampNeg = a := hst.1
        rw [e1]
        simp only [sp_ex, List.headD_cons] at hv
        rw [hv]
        exact hK h' hh
    | cons kv l ih =>
      intro i st h' a5 a6 a7 hi hw hcd hh hst hmx hv
      obtain ⟨k, v⟩ := kv
      obtain ⟨hc1, hc2⟩ := hcd
      simp only [List.length_cons] at hi
      have hk10 : k ≤ 10 ∧ v < 16384 := by
        simp only [sp_wf] at hw
        split at hw
        · omega
        · split at hw <;> omega
      refine sd_X2_valueOf_20 F hr _ _ _ _ ?_
      simp only [tr_X2_valueOf_20, tr_X2_valueOf_31, tr_X2_valueOf_67, tr_X2_valueOf_73, tr_X2_valueOf_78, tr_X2_valueOf_205, tr_X2_valueOf_61, tr_X2_valueOf_111, tr_X2_valueOf_117, tr_X2_valueOf_170, tr_X2_valueOf_175, tr_X2_valueOf_211, tr_X2_valueOf_224, tr_X2_valueOf_225, tr_X2_valueOf_215, hb, he, hc, hs, hq, hh e hes, hh c hcs, hh q hqs, h1, nI_clamp (show p < 2 ^ 31 by omega), nI_clamp (show i < 2 ^ 31 by omega), hc1, sp_hi hk10.1 hk10.2, sp_lo hk10.1 hk10.2, nI_1, tm_push, tm_iload, tm_lload, tm_aload, tm_istore, tm_lstore, tm_astore, tm_iinc, tm_un, tm_bin, tm_div, tm_lbin, tm_ldiv, tm_lsh, tm_lcmp, tm_i2l, tm_l2i, tm_dup, tm_pop, tm_if, tm_cmp, tm_getf, tm_puti, tm_putz, tm_putl, tm_iald, tm_iast, tm_zald, tm_zast, tm_aald, tm_iret, tm_zret, tm_lret, tm_aret, tm_vret, tm_swc, tm_tsw, tm_callV, tm_callS, tm_max, tm_min, tm_acp, tm_alen, am_oi, am_ol, am_or, am_pi, am_pj, am_pr, am_pa, am_yo, am_ya, am_fv, am_fi, am_fl, am_rv, am_n2, am_pv, am_cs, Value.category, List.getElem?_cons_zero, List.getElem?_cons_succ, List.set_cons_zero, List.set_cons_succ, List.length_cons, List.length_nil, List.drop_succ_cons, List.drop_zero, List.take_succ_cons, List.take_zero, List.take_nil, List.reverse_cons, List.reverse_nil, List.nil_append, List.cons_append, List.append_nil, true_and, and_true, Int.reduceAdd, am_o0, am_o1, am_o2, am_o3, am_o4, am_o5, am_o6, am_o7, am_o8, am_o9, am_o10, am_o11, am_o12, am_o13, am_o14, am_o15, am_o16, am_o17, am_o18, am_o19, am_o20, am_o21, am_o22, am_o23, am_o24, am_o25, am_o26, am_o27, Nat.reduceAdd, Nat.reduceLeDiff, Nat.reduceLT, Nat.zero_le]
      refine ⟨vp_in_nI hp (by decide), fun z => absurd ((nI_leI (by omega) (by omega)).mp z) (by omega), fun _ => ⟨vp_in_nI (by omega) (by omega), vp_in_nI (by omega) (by omega), ?_⟩⟩
      have q0 : (nI k = 0) ↔ k = 0 := nI_eq (b := 0) (by omega) (by omega)
      have q1 : (nI k = 1) ↔ k = 1 := nI_eq (b := 1) (by omega) (by omega)
      have q2 : (nI k = 2) ↔ k = 2 := nI_eq (b := 2) (by omega) (by omega)
      have q3 : (nI k = 3) ↔ k = 3 := nI_eq (b := 3) (by omega) (by omega)
      have q36 : ((36 : Int32) ≤ nI st.length) ↔ 36 ≤ st.length := nI_leI (a := 36) (by omega) (by omega)
      have qv : (nI 6 ≤ nI v) ↔ 6 ≤ v := nI_leI (by omega) (by omega)
      have ql1 : (nI st.length ≤ 1) ↔ st.length ≤ 1 := nI_leI (b := 1) (by omega) (by omega)
      have ql0 : (nI st.length ≤ 0) ↔ st.length ≤ 0 := nI_leI (b := 0) (by omega) (by omega)
      simp only [q0, q1, q2, q3, q36, qv, ql1]
      have hup : ∀ (n : Nat) (x : Int32) (a : Nat), a ≠ s → am_up h' s n x a = h a := fun n x a ha => (am_up_ne a ha).trans (hh a ha)
      have hstk : ∀ (n : Nat) (x : Int32) (t : List Int32), n = t.length → sp_stk (h' s) t → sp_stk (am_up h' s n x s) (x :: t) := fun n x t hn ht => ⟨by simp [am_up, hn], sp_stk_up t (fun j hj => by simp [am_up, show j ≠ n by omega]) ht⟩
      rcases (show k = 0 ∨ k = 1 ∨ k = 2 ∨ k = 3 ∨ 4 ≤ k by omega) with rfl | rfl | rfl | rfl | h4
      · simp only [sp_wf, Nat.zero_le, if_true] at hw
        refine ⟨fun _ => ⟨fun z => absurd z (by omega), fun _ => ⟨fun _ => ?_, fun z => absurd rfl z⟩⟩, fun z => absurd rfl z⟩
        refine sd_X2_valueOf_85 F hr _ _ _ _ ?_
        simp only [tr_X2_valueOf_85, tr_X2_valueOf_95, tr_X2_valueOf_104, tr_X2_valueOf_205, tr_X2_valueOf_100, hb, hs, nI_clamp (show st.length < 2 ^ 31 by omega), nI_1, tm_push, tm_iload, tm_lload, tm_aload, tm_istore, tm_lstore, tm_astore, tm_iinc, tm_un, tm_bin, tm_div, tm_lbin, tm_ldiv, tm_lsh, tm_lcmp, tm_i2l, tm_l2i, tm_dup, tm_pop, tm_if, tm_cmp, tm_getf, tm_puti, tm_putz, tm_putl, tm_iald, tm_iast, tm_zald, tm_zast, tm_aald, tm_iret, tm_zret, tm_lret, tm_aret, tm_vret, tm_swc, tm_tsw, tm_callV, tm_callS, tm_max, tm_min, tm_acp, tm_alen, am_oi, am_ol, am_or, am_pi, am_pj, am_pr, am_pa, am_yo, am_ya, am_fv, am_fi, am_fl, am_rv, am_n2, am_pv, am_cs, Value.category, List.getElem?_cons_zero, List.getElem?_cons_succ, List.set_cons_zero, List.set_cons_succ, List.length_cons, List.length_nil, List.drop_succ_cons, List.drop_zero, List.take_succ_cons, List.take_zero, List.take_nil, List.reverse_cons, List.reverse_nil, List.nil_append, List.cons_append, List.append_nil, true_and, and_true, Int.reduceAdd, am_o0, am_o1, am_o2, am_o3, am_o4, am_o5, am_o6, am_o7, am_o8, am_o9, am_o10, am_o11, am_o12, am_o13, am_o14, am_o15, am_o16, am_o17, am_o18, am_o19, am_o20, am_o21, am_o22, am_o23, am_o24, am_o25, am_o26, am_o27, Nat.reduceAdd, Nat.reduceLeDiff, Nat.reduceLT, Nat.zero_le]
        refine ⟨fun _ => ⟨vp_in_nI (by omega) (by decide), ?_⟩, fun z => absurd rfl z⟩
        exact ih (i + 1) (nI v :: st) _ _ _ _ (by omega) hw.2.2.2 hc2 (hup _ _) (hstk _ _ st rfl hst) (by simp only [List.length_cons]; omega) (by rw [← hv]; rfl)
      · simp only [sp_wf, Nat.le_refl, if_true] at hw
        refine ⟨fun z => absurd z (by decide), fun _ => ⟨fun _ => ⟨fun z => absurd z (by omega), fun _ => ⟨fun z => absurd z (by decide), fun _ => ⟨fun z => absurd z (by have := hw.2.2.1 trivial; omega), fun _ => ?_⟩⟩⟩, fun z => absurd rfl z⟩⟩
        refine sd_X2_valueOf_85 F hr _ _ _ _ ?_
        simp only [tr_X2_valueOf_85, tr_X2_valueOf_95, tr_X2_valueOf_104, tr_X2_valueOf_205, tr_X2_valueOf_100, hb, hs, hq, hh q hqs, nI_clamp (show st.length < 2 ^ 31 by omega), nI_clamp (show v < 2 ^ 31 by omega), nI_1, tm_push, tm_iload, tm_lload, tm_aload, tm_istore, tm_lstore, tm_astore, tm_iinc, tm_un, tm_bin, tm_div, tm_lbin, tm_ldiv, tm_lsh, tm_lcmp, tm_i2l, tm_l2i, tm_dup, tm_pop, tm_if, tm_cmp, tm_getf, tm_puti, tm_putz, tm_putl, tm_iald, tm_iast, tm_zald, tm_zast, tm_aald, tm_iret, tm_zret, tm_lret, tm_aret, tm_vret, tm_swc, tm_tsw, tm_callV, tm_callS, tm_max, tm_min, tm_acp, tm_alen, am_oi, am_ol, am_or, am_pi, am_pj, am_pr, am_pa, am_yo, am_ya, am_fv, am_fi, am_fl, am_rv, am_n2, am_pv, am_cs, Value.category, List.getElem?_cons_zero, List.getElem?_cons_succ, List.set_cons_zero, List.set_cons_succ, List.length_cons, List.length_nil, List.drop_succ_cons, List.drop_zero, List.take_succ_cons, List.take_zero, List.take_nil, List.reverse_cons, List.reverse_nil, List.nil_append, List.cons_append, List.append_nil, true_and, and_true, Int.reduceAdd, am_o0, am_o1, am_o2, am_o3, am_o4, am_o5, am_o6, am_o7, am_o8, am_o9, am_o10, am_o11, am_o12, am_o13, am_o14, am_o15, am_o16, am_o17, am_o18, am_o19, am_o20, am_o21, am_o22, am_o23, am_o24, am_o25, am_o26, am_o27, Nat.reduceAdd, Nat.reduceLeDiff, Nat.reduceLT, Nat.zero_le]
        refine ⟨fun z => absurd z (by decide), fun _ => ⟨vp_in_nI (hw.2.2.1 trivial) (by decide), vp_in_nI (by omega) (by decide), ?_⟩⟩
        exact ih (i + 1) (h q v :: st) _ _ _ _ (by omega) hw.2.2.2 hc2 (hup _ _) (hstk _ _ st rfl hst) (by simp only [List.length_cons]; omega) (by rw [← hv]; rfl)
      · simp only [sp_wf, show ¬ 2 ≤ 1 by decide, show 2 ≤ 3 by decide, if_true, if_false] at hw
        refine ⟨fun z => absurd z (by decide), fun _ => ⟨fun z => absurd z (by decide), fun _ => ⟨fun _ => ?_, fun z => absurd rfl z⟩⟩⟩
        match st, hw, hst, hv, hmx with
        | x :: t, hw, hst, hv, hmx =>
          simp only [List.length_cons] at hmx ⊢
          have ql0 : (nI (t.length + 1) ≤ 0) ↔ t.length + 1 ≤ 0 := nI_leI (b := 0) (by omega) (by omega)
          refine sd_X2_valueOf_123 F hr _ _ _ _ ?_
          simp only [tr_X2_valueOf_123, tr_X2_valueOf_205, tr_X2_valueOf_127, tr_X2_valueOf_156, tr_X2_valueOf_165, tr_X2_valueOf_166, tr_X2_valueOf_161, tr_X2_valueOf_150, hb, hs, ql0, nI_pred, nI_1, nI_clamp (show t.length < 2 ^ 31 by omega), hst.1, tm_push, tm_iload, tm_lload, tm_aload, tm_istore, tm_lstore, tm_astore, tm_iinc, tm_un, tm_bin, tm_div, tm_lbin, tm_ldiv, tm_lsh, tm_lcmp, tm_i2l, tm_l2i, tm_dup, tm_pop, tm_if, tm_cmp, tm_getf, tm_puti, tm_putz, tm_putl, tm_iald, tm_iast, tm_zald, tm_zast, tm_aald, tm_iret, tm_zret, tm_lret, tm_aret, tm_vret, tm_swc, tm_tsw, tm_callV, tm_callS, tm_max, tm_min, tm_acp, tm_alen, am_oi, am_ol, am_or, am_pi, am_pj, am_pr, am_pa, am_yo, am_ya, am_fv, am_fi, am_fl, am_rv, am_n2, am_pv, am_cs, Value.category, List.getElem?_cons_zero, List.getElem?_cons_succ, List.set_cons_zero, List.set_cons_succ, List.length_cons, List.length_nil, List.drop_succ_cons, List.drop_zero, List.take_succ_cons, List.take_zero, List.take_nil, List.reverse_cons, List.reverse_nil, List.nil_append, List.cons_append, List.append_nil, true_and, and_true, Int.reduceAdd, am_o0, am_o1, am_o2, am_o3, am_o4, am_o5, am_o6, am_o7, am_o8, am_o9, am_o10, am_o11, am_o12, am_o13, am_o14, am_o15, am_o16, am_o17, am_o18, am_o19, am_o20, am_o21, am_o22, am_o23, am_o24, am_o25, am_o26, am_o27, Nat.reduceAdd, Nat.reduceLeDiff, Nat.reduceLT, Nat.zero_le]
          refine ⟨fun z => z.elim, fun _ => ⟨vp_in_nI (by omega) (by decide), fun _ => ⟨vp_in_nI (by omega) (by decide), ?_⟩, fun z => absurd rfl z⟩⟩
          exact ih (i + 1) (-x :: t) _ _ _ _ (by omega) hw.2.2 hc2 (hup _ _) (hstk _ _ t rfl hst.2) (by simp only [List.length_cons]; omega) (by rw [← hv]; rfl)
      · simp only [sp_wf, show ¬ 3 ≤ 1 by decide, show 3 ≤ 3 by decide, if_true, if_false] at hw
        refine ⟨fun z => absurd z (by decide), fun _ => ⟨fun z => absurd z (by decide), fun _ => ⟨fun z => absurd z (by decide), fun _ => ⟨fun _ => ?_, fun z => absurd rfl z⟩⟩⟩⟩
        match st, hw, hst, hv, hmx with
        | x :: t, hw, hst, hv, hmx =>
          simp only [List.length_cons] at hmx ⊢
          have ql0 : (nI (t.length + 1) ≤ 0) ↔ t.length + 1 ≤ 0 := nI_leI (b := 0) (by omega) (by omega)
          refine sd_X2_valueOf_123 F hr _ _ _ _ ?_
          simp only [tr_X2_valueOf_123, tr_X2_valueOf_205, tr_X2_valueOf_127, tr_X2_valueOf_156, tr_X2_valueOf_165, tr_X2_valueOf_166, tr_X2_valueOf_161, tr_X2_valueOf_150, hb, hs, ql0, nI_pred, nI_1, nI_clamp (show t.length < 2 ^ 31 by omega), hst.1, tm_push, tm_iload, tm_lload, tm_aload, tm_istore, tm_lstore, tm_astore, tm_iinc, tm_un, tm_bin, tm_div, tm_lbin, tm_ldiv, tm_lsh, tm_lcmp, tm_i2l, tm_l2i, tm_dup, tm_pop, tm_if, tm_cmp, tm_getf, tm_puti, tm_putz, tm_putl, tm_iald, tm_iast, tm_zald, tm_zast, tm_aald, tm_iret, tm_zret, tm_lret, tm_aret, tm_vret, tm_swc, tm_tsw, tm_callV, tm_callS, tm_max, tm_min, tm_acp, tm_alen, am_oi, am_ol, am_or, am_pi, am_pj, am_pr, am_pa, am_yo, am_ya, am_fv, am_fi, am_fl, am_rv, am_n2, am_pv, am_cs, Value.category, List.getElem?_cons_zero, List.getElem?_cons_succ, List.set_cons_zero, List.set_cons_succ, List.length_cons, List.length_nil, List.drop_succ_cons, List.drop_zero, List.take_succ_cons, List.take_zero, List.take_nil, List.reverse_cons, List.reverse_nil, List.nil_append, List.cons_append, List.append_nil, true_and, and_true, Int.reduceAdd, am_o0, am_o1, am_o2, am_o3, am_o4, am_o5, am_o6, am_o7, am_o8, am_o9, am_o10, am_o11, am_o12, am_o13, am_o14, am_o15, am_o16, am_o17, am_o18, am_o19, am_o20, am_o21, am_o22, am_o23, am_o24, am_o25, am_o26, am_o27, Nat.reduceAdd, Nat.reduceLeDiff, Nat.reduceLT, Nat.zero_le]
          refine ⟨fun z => z.elim, fun _ => ⟨vp_in_nI (by omega) (by decide), fun z => absurd z (by decide), fun _ => ⟨fun z => ⟨vp_in_nI (by omega) (by decide), ?_⟩, fun z => ⟨vp_in_nI (by omega) (by decide), ?_⟩⟩⟩⟩
          · exact ih (i + 1) (1 :: t) _ _ _ _ (by omega) hw.2.2 hc2 (hup _ _) (hstk _ _ t rfl hst.2) (by simp only [List.length_cons]; omega) (by rw [← hv]; simp [sp_ex, z])
          · exact ih (i + 1) (0 :: t) _ _ _ _ (by omega) hw.2.2 hc2 (hup _ _) (hstk _ _ t rfl hst.2) (by simp only [List.length_cons]; omega) (by rw [← hv]; simp [sp_ex, z])
      · simp only [sp_wf, if_neg (show ¬ k ≤ 1 by omega), if_neg (show ¬ k ≤ 3 by omega)] at hw
        refine ⟨fun z => absurd z (by omega), fun _ => ⟨fun z => absurd z (by omega), fun _ => ⟨fun z => absurd z (by omega), fun _ => ⟨fun z => absurd z (by omega), fun _ => ?_⟩⟩⟩⟩
        match st, hw, hst, hv, hmx with
        | y :: x :: t, hw, hst, hv, hmx =>
          have hst1 : h' s (t.length + 1) = y := hst.1
          simp only [List.length_cons, pk_m1, nI_pred, nI_clamp (show t.length < 2 ^ 31 by simp only [List.length_cons] at hmx; omega), nI_clamp (show t.length + 1 < 2 ^ 31 by simp only [List.length_cons] at hmx; omega), hst1, hst.2.1] at hmx ⊢
          refine ⟨fun z => absurd z (by omega), fun _ => ⟨vp_in_nI (by omega) (by decide), vp_in_nI (by omega) (by decide), hd, c_X2_joined h4 hw.1 ?_⟩⟩
          simp only [hs, nI_1, nI_clamp (show t.length < 2 ^ 31 by omega), tm_push, tm_iload, tm_lload, tm_aload, tm_istore, tm_lstore, tm_astore, tm_iinc, tm_un, tm_bin, tm_div, tm_lbin, tm_ldiv, tm_lsh, tm_lcmp, tm_i2l, tm_l2i, tm_dup, tm_pop, tm_if, tm_cmp, tm_getf, tm_puti, tm_putz, tm_putl, tm_iald, tm_iast, tm_zald, tm_zast, tm_aald, tm_iret, tm_zret, tm_lret, tm_aret, tm_vret, tm_swc, tm_tsw, tm_callV, tm_callS, tm_max, tm_min, tm_acp, tm_alen, am_oi, am_ol, am_or, am_pi, am_pj, am_pr, am_pa, am_yo, am_ya, am_fv, am_fi, am_fl, am_rv, am_n2, am_pv, am_cs, Value.category, List.getElem?_cons_zero, List.getElem?_cons_succ, List.set_cons_zero, List.set_cons_succ, List.length_cons, List.length_nil, List.drop_succ_cons, List.drop_zero, List.take_succ_cons, List.take_zero, List.take_nil, List.reverse_cons, List.reverse_nil, List.nil_append, List.cons_append, List.append_nil, true_and, and_true, Int.reduceAdd, am_o0, am_o1, am_o2, am_o3, am_o4, am_o5, am_o6, am_o7, am_o8, am_o9, am_o10, am_o11, am_o12, am_o13, am_o14, am_o15, am_o16, am_o17, am_o18, am_o19, am_o20, am_o21, am_o22, am_o23, am_o24, am_o25, am_o26, am_o27, Nat.reduceAdd, Nat.reduceLeDiff, Nat.reduceLT, Nat.zero_le]
          refine ⟨vp_in_nI (by omega) (by decide), ?_⟩
          exact ih (i + 1) (sp_jn k x y :: t) _ _ _ _ (by omega) hw.2.2.2 hc2 (hup _ _) (hstk _ _ t rfl hst.2.2) (by simp only [List.length_cons]; omega) (by rw [← hv]; simp only [sp_ex, if_neg (show ¬ k = 0 by omega), if_neg (show ¬ k = 1 by omega), if_neg (show ¬ k = 2 by omega), if_neg (show ¬ k = 3 by omega)]; rfl)
  simp only [tr_X2_valueOf_0, tr_X2_valueOf_6, tr_X2_valueOf_18, tr_X2_valueOf_17, hb, he, tm_push, tm_iload, tm_lload, tm_aload, tm_istore, tm_lstore, tm_astore, tm_iinc, tm_un, tm_bin, tm_div, tm_lbin, tm_ldiv, tm_lsh, tm_lcmp, tm_i2l, tm_l2i, tm_dup, tm_pop, tm_if, tm_cmp, tm_getf, tm_puti, tm_putz, tm_putl, tm_iald, tm_iast, tm_zald, tm_zast, tm_aald, tm_iret, tm_zret, tm_lret, tm_aret, tm_vret, tm_swc, tm_tsw, tm_callV, tm_callS, tm_max, tm_min, tm_acp, tm_alen, am_oi, am_ol, am_or, am_pi, am_pj, am_pr, am_pa, am_yo, am_ya, am_fv, am_fi, am_fl, am_rv, am_n2, am_pv, am_cs, Value.category, List.getElem?_cons_zero, List.getElem?_cons_succ, List.set_cons_zero, List.set_cons_succ, List.length_cons, List.length_nil, List.drop_succ_cons, List.drop_zero, List.take_succ_cons, List.take_zero, List.take_nil, List.reverse_cons, List.reverse_nil, List.nil_append, List.cons_append, List.append_nil, true_and, and_true, Int.reduceAdd, am_o0, am_o1, am_o2, am_o3, am_o4, am_o5, am_o6, am_o7, am_o8, am_o9, am_o10, am_o11, am_o12, am_o13, am_o14, am_o15, am_o16, am_o17, am_o18, am_o19, am_o20, am_o21, am_o22, am_o23, am_o24, am_o25, am_o26, am_o27, Nat.reduceAdd, Nat.reduceLeDiff, Nat.reduceLT, Nat.zero_le]
  have qp : (nI p ≤ 0) ↔ p ≤ 0 := nI_leI (b := 0) (by omega) (by omega)
  rw [qp]
  refine ⟨fun z => ?_, fun z => ?_⟩
  · rw [if_pos (by omega)] at h0
    subst h0
    exact loop ops 0 [] h _ _ _ rfl hwf hcd (fun _ _ => rfl) trivial (by simp) rfl
  · rw [if_neg (by omega)] at h0
    have e1 : nI p - 1 = nI (p - 1) := by
      obtain ⟨p', rfl⟩ : ∃ p', p = p' + 1 := ⟨p - 1, by omega⟩
      rw [nI_pred]
      rfl
    rw [e1, nI_clamp (show p - 1 < 2 ^ 31 by omega), h0]
    exact ⟨vp_in_nI (by omega) (by decide), loop ops i0 [] h _ _ _ rfl hwf hcd (fun _ _ => rfl) trivial (by simp) rfl⟩
end CON
