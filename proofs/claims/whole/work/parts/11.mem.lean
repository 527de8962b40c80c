section SND
variable {X : am_X} {d : Nat} {own : String} {cc : ByteArray} {nL : Nat} {Q : State → Prop} {n1 n2 pc : Nat} {Qn Qt Qf : am_P} {K : List Value → List am_C → am_H → Prop}
theorem a_iret (F : am_Fx X d own cc nL) (hr : am_Rt X (some .int)) (hd : decode cc pc = .ok (.ireturn, 1)) : ∀ L S Y h, tm_iret K L S Y h → am_At X (am_MQ X K n1 n2) nL n1 n2 pc L S Y h := by
  obtain ⟨p, l, e, R, s, m, args, below, meth, c, G, o⟩ := X
  obtain ⟨hx, hb, hml, hown, hts, hE, ho, hd1, hd2, hlk⟩ := F
  intro L S Y h hq H locs ls hz hP hS hl
  obtain ⟨x, S1, rfl, rfl, hk⟩ := am_pi_of hq
  exact W.iret (v := x) hx hb hr (fun t ht hW => ⟨⟨[.int x], Y, h, rfl, hk, by rw [ht]; exact hz, by rw [ht]; exact hP⟩, hS.F ht⟩) hS.2.2 hd hlk
theorem a_zret (F : am_Fx X d own cc nL) (hr : am_Rt X (some .boolean)) (hd : decode cc pc = .ok (.ireturn, 1)) : ∀ L S Y h, tm_zret K L S Y h → am_At X (am_MQ X K n1 n2) nL n1 n2 pc L S Y h := by
  obtain ⟨p, l, e, R, s, m, args, below, meth, c, G, o⟩ := X
  obtain ⟨hx, hb, hml, hown, hts, hE, ho, hd1, hd2, hlk⟩ := F
  intro L S Y h hq H locs ls hz hP hS hl
  obtain ⟨x, S1, rfl, rfl, h01, hk⟩ := am_pi_of hq
  exact W.zret (v := x) (ty := .boolean) hx hb hr (by rcases h01 with rfl | rfl <;> rfl) (fun t ht hW => ⟨⟨[.int x], Y, h, rfl, hk, by rw [ht]; exact hz, by rw [ht]; exact hP⟩, hS.F ht⟩) hS.2.2 hd hlk
theorem a_lret (F : am_Fx X d own cc nL) (hr : am_Rt X (some .long)) (hd : decode cc pc = .ok (.lreturn, 1)) : ∀ L S Y h, tm_lret K L S Y h → am_At X (am_MQ X K n1 n2) nL n1 n2 pc L S Y h := by
  obtain ⟨p, l, e, R, s, m, args, below, meth, c, G, o⟩ := X
  obtain ⟨hx, hb, hml, hown, hts, hE, ho, hd1, hd2, hlk⟩ := F
  intro L S Y h hq H locs ls hz hP hS hl
  obtain ⟨x, S1, rfl, rfl, hk⟩ := am_pj_of hq
  exact W.lret (v := x) hx hb hr (fun t ht hW => ⟨⟨[.long x], Y, h, rfl, hk, by rw [ht]; exact hz, by rw [ht]; exact hP⟩, hS.F ht⟩) hS.2.2 hd hlk
theorem a_aret {rt : FieldType} (F : am_Fx X d own cc nL) (hr : am_Rt X (some rt)) (hrt : (∃ n, rt = .object n) ∨ ∃ t, rt = .array t) (hd : decode cc pc = .ok (.areturn, 1)) : ∀ L S Y h, tm_aret K L S Y h → am_At X (am_MQ X K n1 n2) nL n1 n2 pc L S Y h := by
  obtain ⟨p, l, e, R, s, m, args, below, meth, c, G, o⟩ := X
  obtain ⟨hx, hb, hml, hown, hts, hE, ho, hd1, hd2, hlk⟩ := F
  intro L S Y h hq H locs ls hz hP hS hl
  obtain ⟨x, S1, rfl, rfl, hk⟩ := am_pr_of hq
  exact W.aret (v := .ref (o + x)) hx hb hr hrt (Or.inr ⟨_, rfl⟩) (fun t ht hW => ⟨⟨[.ref x], Y, h, rfl, hk, by rw [ht]; exact hz, by rw [ht]; exact hP⟩, hS.F ht⟩) hS.2.2 hd hlk
theorem a_vret (F : am_Fx X d own cc nL) (hr : am_Rt X none) (hd : decode cc pc = .ok (.return_, 1)) : ∀ L S Y h, tm_vret K L S Y h → am_At X (am_MQ X K n1 n2) nL n1 n2 pc L S Y h := by
  obtain ⟨p, l, e, R, s, m, args, below, meth, c, G, o⟩ := X
  obtain ⟨hx, hb, hml, hown, hts, hE, ho, hd1, hd2, hlk⟩ := F
  intro L S Y h hq H locs ls hz hP hS hl
  obtain ⟨rfl, hk⟩ := hq
  exact W.vret hx hb hr (fun t ht hW => ⟨⟨[], Y, h, rfl, hk, by rw [ht]; exact hz, by rw [ht]; exact hP⟩, hS.F ht⟩) hS.2.2 hd hlk
theorem a_getf {C : String} {T : u_T} {N ci k idx : Nat} (F : am_Fx X d own cc nL) (hc : vwCl[ci]? = some (C, T, N)) (hin : ∀ w ∈ u_ws C T N, w ∈ am_ws) (hk : k < N) (hw : Cond.fieldLink own idx (T k).1 (T k).2.1 (T k).2.2.1 ∈ am_ws) (hd : decode cc pc = .ok (.getfield idx, 3)) (kk : ∀ L S Y h, Qn L S Y h → am_At X Q nL n1 n2 (pc + 3) L S Y h) : ∀ L S Y h, tm_getf ci k Qn L S Y h → am_At X Q nL n1 n2 pc L S Y h := by
  obtain ⟨p, l, e, R, s, m, args, below, meth, c, G, o⟩ := X
  obtain ⟨hx, hb, hml, hown, hts, hE, ho, hd1, hd2, hlk⟩ := F
  intro L S Y h hq H locs ls hz hP hS hl
  obtain ⟨i, S1, rfl, hq1⟩ := am_pr_of hq
  obtain ⟨fs, hY, hq2⟩ := am_yo_of hq1
  obtain ⟨z, v, hf, hq3, hv⟩ := am_fv_of hq2
  exact va_get hx hb hts hin hown hE.1 hP i (am_w_at hY) hc k hk (hts _ hw) (fun _ q => q) (v := am_v G o v) (by rw [← hv G o]; exact am_fs_at hf) hd (kk _ _ _ _ hq3 H locs ls hz hP hS hl)
/-- a field of the kind that the layout names is written -/
theorem am_putG {G : am_G} {o : Nat} {p : Program} {l : Launch} {e : Env} {R : Room} {s : State} {m : MethodId} {args : Array Value} {below : List Frame} {meth : Method} {c : Code} {H : Heap} {locs : List Loc} {ls : Array Slot} {rest : List Value} {Y : List am_C} {h : am_H} {C : String} {T : u_T} {N ci i k idx : Nat} {fs : List Value} {v : Value} {ty : FieldType} (ty0 : Nat → FieldType) (hx : p.tables.exec = Jvm.exec) (hb : c.code = cc) (hown : s.vm.findClass own = some m.cls) (hts : ∀ w ∈ am_ws, w.before args s = true) (hE : am_E G o s s.heap) (hc : vwCl[ci]? = some (C, T, N)) (hin : ∀ w ∈ u_ws C T N, w ∈ am_ws) (hty : ∀ k, k < N → parseFieldDescriptor (T k).2.2.1 = some (ty0 k)) (hnm : ∀ a, a < N → ∀ b, b < N → a ≠ b → (T a).2.1 ≠ (T b).2.1) (hk : k < N) (hw : Cond.fieldLink own idx (T k).1 (T k).2.1 (T k).2.2.1 ∈ am_ws)
    (hfin : (T k).2.2.2 = false ∨ ((T k).2.2.2 = true ∧ meth.name = "<init>" ∧ (T k).1 = own)) (hd0 : parseFieldDescriptor (T k).2.2.1 = some ty) (hn : narrow ty v = v) (hfit : fits ty v = true) (hY : Y[i]? = some (2, ci, fs)) (hkl : k < fs.length) (hP : va_P G.1 vwCl (am_w G o h Y) H) (hS : va_S (am_A o) s.heap H locs) (hd : decode cc pc = .ok (.putfield idx, 3))
    (kk : ∀ (H1 : Heap) (locs1 : List Loc), H1.size = H.size → va_P G.1 vwCl ((am_w G o h Y).set i (o + i, .inr (ci, (am_fs o (h i) fs).set k v))) H1 → va_S (am_A o) s.heap H1 locs1 → W p l e R s m args below meth c H1 locs1 n1 n2 Q (F0 m (pc + 3) ls rest)) : W p l e R s m args below meth c H locs n1 n2 Q (F0 m pc ls (v :: .ref (o + i) :: rest)) := by
  have hD : va_D (am_A o) (am_w G o h Y) := am_D fun _ q => q
  have he : (am_w G o h Y)[i]? = some (o + i, .inr (ci, am_fs o (h i) fs)) := am_w_at hY
  have hap := va_apart (own := own) hts hin ty0 hty hnm hE.1 hc
  obtain ⟨r, h1, cell, q1, q2, q3, q4⟩ := hP i _ he
  have hr : r = (C, T, N) := Option.some.inj (h1.symm.trans hc)
  subst hr
  obtain ⟨hSl, hfc, kC, hkC, hkind⟩ := hE.1.1 ci _ hc
  obtain ⟨cf, kf, fi, f, hi, hsl⟩ := hSl k hk
  have hst := (u_facts hfc hkC (u_lays hts hin hk) hi).1
  have hlen : k < (am_fs o (h i) fs).length := by rw [am_fs_len]; exact hkl
  have fin : ∀ H' : Heap, H'[o + i]? = some (cell.setSlot f.slot v) → H'.size = H.size → (∀ q, q ≠ o + i → H'[q]? = H[q]?) → W p l e R s m args below meth c H' (locs ++ [⟨o + i, f.slot⟩]) n1 n2 Q (F0 m (pc + 3) ls rest) := by
    intro H' e1 e2 e3
    rw [hsl] at e1 ⊢
    exact kk H' _ e2 (hP.set hD he ⟨_, hc, t_OB.to (V := updV (vp_V (am_fs o (h i) fs)) k v) ⟨_, e1, q2, q3, t_set q4 hap hk v⟩ (fun j _ => vp_updV_set hlen v j)⟩ e3) (hS.put e2 e3 (hD.2 i _ he))
  have hlay := hts _ (hin _ (u_in_lay hk))
  unfold u_lay at hlay
  rcases hfin with hfin | ⟨hfin, hname, hdecl⟩
  · rw [if_neg (by rw [hfin]; decide)] at hlay
    have h6 := u_store hfc hkC hkind hlay hi hd0 hn hfit
    exact W.putK hx hb (f := f) ⟨hown, hts _ hw, ⟨_, _, _, hi⟩, hst⟩ (by rw [q2]; exact h6) q1 q3 (by rw [hsl]; exact k2_hasslot (q4 k hk)) rfl rfl hd fin
  · rw [if_pos hfin] at hlay
    have hcf : m.cls = cf := by
      obtain ⟨_, _, c', _, _, _, -, -, hf', -, -, -, hown2, -⟩ := Cond.laysFinal_spec hlay
      have e1 : c' = cf := by
        have := hi.symm.trans hf'
        simp at this
        exact this.1.symm
      rw [hdecl] at hown2
      rw [← e1]
      exact Option.some.inj (hown.symm.trans hown2)
    have h6 := u_fits hfc hkC hkind (Or.inr hlay) hi hd0 hn hfit
    exact W.putFinK hx hb hown (hts _ hw) hi hst hcf hname (by rw [q2]; exact h6) q1 q3 (by rw [hsl]; exact k2_hasslot (q4 k hk)) rfl rfl hd fin
theorem a_puti {C : String} {T : u_T} {N ci k idx : Nat} (ty0 : Nat → FieldType) (F : am_Fx X d own cc nL) (hc : vwCl[ci]? = some (C, T, N)) (hin : ∀ w ∈ u_ws C T N, w ∈ am_ws) (hty : ∀ k, k < N → parseFieldDescriptor (T k).2.2.1 = some (ty0 k)) (hnm : ∀ a, a < N → ∀ b, b < N → a ≠ b → (T a).2.1 ≠ (T b).2.1) (hk : k < N) (hw : Cond.fieldLink own idx (T k).1 (T k).2.1 (T k).2.2.1 ∈ am_ws) (hfin : (T k).2.2.2 = false) (hd0 : parseFieldDescriptor (T k).2.2.1 = some .int) (hd : decode cc pc = .ok (.putfield idx, 3)) (kk : ∀ L S Y h, Qn L S Y h → am_At X Q nL n1 n2 (pc + 3) L S Y h) : ∀ L S Y h, tm_puti ci k Qn L S Y h → am_At X Q nL n1 n2 pc L S Y h := by
  obtain ⟨p, l, e, R, s, m, args, below, meth, c, G, o⟩ := X
  obtain ⟨hx, hb, hml, hown, hts, hE, ho, hd1, hd2, hlk⟩ := F
  intro L S Y h hq H locs ls hz hP hS hl
  obtain ⟨x, S1, rfl, hq1⟩ := am_pi_of hq
  obtain ⟨i, S2, rfl, hq2⟩ := am_pr_of hq1
  obtain ⟨fs, hY, hq3⟩ := am_yo_of hq2
  obtain ⟨z, hf, hq4⟩ := am_fi_of hq3
  refine am_putG ty0 hx hb hown hts hE hc hin hty hnm hk hw (Or.inl hfin) hd0 (v := .int x) rfl rfl hY (List.getElem?_eq_some_iff.mp hf).1 hP hS hd fun H1 locs1 z1 hP1 hS1 => ?_
  refine kk _ _ _ _ hq4 H1 locs1 ls (z1.trans hz) ?_ hS1 hl
  rw [am_w_up hY]
  show va_P _ _ ((am_w G o h Y).set i (o + i, .inr (ci, am_fs o (am_up h i k x i) fs))) H1
  rw [am_fs_up hf]
  exact hP1
theorem a_putz {C : String} {T : u_T} {N ci k idx : Nat} (ty0 : Nat → FieldType) (F : am_Fx X d own cc nL) (hc : vwCl[ci]? = some (C, T, N)) (hin : ∀ w ∈ u_ws C T N, w ∈ am_ws) (hty : ∀ k, k < N → parseFieldDescriptor (T k).2.2.1 = some (ty0 k)) (hnm : ∀ a, a < N → ∀ b, b < N → a ≠ b → (T a).2.1 ≠ (T b).2.1) (hk : k < N) (hw : Cond.fieldLink own idx (T k).1 (T k).2.1 (T k).2.2.1 ∈ am_ws) (hfin : (T k).2.2.2 = false) (hd0 : parseFieldDescriptor (T k).2.2.1 = some .boolean) (hd : decode cc pc = .ok (.putfield idx, 3)) (kk : ∀ L S Y h, Qn L S Y h → am_At X Q nL n1 n2 (pc + 3) L S Y h) : ∀ L S Y h, tm_putz ci k Qn L S Y h → am_At X Q nL n1 n2 pc L S Y h := by
  obtain ⟨p, l, e, R, s, m, args, below, meth, c, G, o⟩ := X
  obtain ⟨hx, hb, hml, hown, hts, hE, ho, hd1, hd2, hlk⟩ := F
  intro L S Y h hq H locs ls hz hP hS hl
  obtain ⟨x, S1, rfl, hq1⟩ := am_pi_of hq
  obtain ⟨i, S2, rfl, hq2⟩ := am_pr_of hq1
  obtain ⟨fs, hY, hq3⟩ := am_yo_of hq2
  obtain ⟨z, hf, h01, hq4⟩ := am_fi_of hq3
  refine am_putG ty0 hx hb hown hts hE hc hin hty hnm hk hw (Or.inl hfin) hd0 (v := .int x) (by rcases h01 with rfl | rfl <;> rfl) (by rcases h01 with rfl | rfl <;> rfl) hY (List.getElem?_eq_some_iff.mp hf).1 hP hS hd fun H1 locs1 z1 hP1 hS1 => ?_
  refine kk _ _ _ _ hq4 H1 locs1 ls (z1.trans hz) ?_ hS1 hl
  rw [am_w_up hY]
  show va_P _ _ ((am_w G o h Y).set i (o + i, .inr (ci, am_fs o (am_up h i k x i) fs))) H1
  rw [am_fs_up hf]
  exact hP1
theorem a_putl {C : String} {T : u_T} {N ci k idx : Nat} (ty0 : Nat → FieldType) (F : am_Fx X d own cc nL) (hc : vwCl[ci]? = some (C, T, N)) (hin : ∀ w ∈ u_ws C T N, w ∈ am_ws) (hty : ∀ k, k < N → parseFieldDescriptor (T k).2.2.1 = some (ty0 k)) (hnm : ∀ a, a < N → ∀ b, b < N → a ≠ b → (T a).2.1 ≠ (T b).2.1) (hk : k < N) (hw : Cond.fieldLink own idx (T k).1 (T k).2.1 (T k).2.2.1 ∈ am_ws) (hfin : (T k).2.2.2 = false) (hd0 : parseFieldDescriptor (T k).2.2.1 = some .long) (hd : decode cc pc = .ok (.putfield idx, 3)) (kk : ∀ L S Y h, Qn L S Y h → am_At X Q nL n1 n2 (pc + 3) L S Y h) : ∀ L S Y h, tm_putl ci k Qn L S Y h → am_At X Q nL n1 n2 pc L S Y h := by
  obtain ⟨p, l, e, R, s, m, args, below, meth, c, G, o⟩ := X
  obtain ⟨hx, hb, hml, hown, hts, hE, ho, hd1, hd2, hlk⟩ := F
  intro L S Y h hq H locs ls hz hP hS hl
  obtain ⟨x, S1, rfl, hq1⟩ := am_pj_of hq
  obtain ⟨i, S2, rfl, hq2⟩ := am_pr_of hq1
  obtain ⟨fs, hY, hq3⟩ := am_yo_of hq2
  obtain ⟨z, hf, y, rfl, hq4⟩ := am_fl_of hq3
  refine am_putG ty0 hx hb hown hts hE hc hin hty hnm hk hw (Or.inl hfin) hd0 (v := .long y.toInt64) rfl rfl hY (List.getElem?_eq_some_iff.mp hf).1 hP hS hd fun H1 locs1 z1 hP1 hS1 => ?_
  refine kk _ _ _ _ hq4 H1 locs1 ls (z1.trans hz) ?_ hS1 hl
  rw [am_w_up hY]
  show va_P _ _ ((am_w G o h Y).set i (o + i, .inr (ci, am_fs o (am_up h i k y i) fs))) H1
  rw [am_fs_up hf]
  exact hP1
theorem a_iald (F : am_Fx X d own cc nL) (hd : decode cc pc = .ok (.iaload, 1)) (kk : ∀ L S Y h, Qn L S Y h → am_At X Q nL n1 n2 (pc + 1) L S Y h) : ∀ L S Y h, tm_iald Qn L S Y h → am_At X Q nL n1 n2 pc L S Y h := by
  obtain ⟨p, l, e, R, s, m, args, below, meth, c, G, o⟩ := X
  obtain ⟨hx, hb, hml, hown, hts, hE, ho, hd1, hd2, hlk⟩ := F
  intro L S Y h hq H locs ls hz hP hS hl
  obtain ⟨j, S1, rfl, hq1⟩ := am_pi_of hq
  obtain ⟨i, S2, rfl, hq2⟩ := am_pr_of hq1
  obtain ⟨n, fs, hY, hin, hq3⟩ := am_ya_of hq2
  exact va_iald hx hb hE.1 hP i 0 (am_w_at hY) rfl hin hd (kk _ _ _ _ hq3 H locs ls hz hP hS hl)
theorem a_zald (F : am_Fx X d own cc nL) (hd : decode cc pc = .ok (.baload, 1)) (kk : ∀ L S Y h, Qn L S Y h → am_At X Q nL n1 n2 (pc + 1) L S Y h) : ∀ L S Y h, tm_zald Qn L S Y h → am_At X Q nL n1 n2 pc L S Y h := by
  obtain ⟨p, l, e, R, s, m, args, below, meth, c, G, o⟩ := X
  obtain ⟨hx, hb, hml, hown, hts, hE, ho, hd1, hd2, hlk⟩ := F
  intro L S Y h hq H locs ls hz hP hS hl
  obtain ⟨j, S1, rfl, hq1⟩ := am_pi_of hq
  obtain ⟨i, S2, rfl, hq2⟩ := am_pr_of hq1
  obtain ⟨n, fs, hY, hin, hq3⟩ := am_ya_of hq2
  exact va_zald hx hb hE.1 hP i 1 (am_w_at hY) rfl hin hd (kk _ _ _ _ hq3 H locs ls hz hP hS hl)
theorem a_aald3 (F : am_Fx X d own cc nL) (hd : decode cc pc = .ok (.aaload, 1)) (kk : ∀ L S Y h, Qn L S Y h → am_At X Q nL n1 n2 (pc + 1) L S Y h) : ∀ L S Y h, tm_aald 3 Qn L S Y h → am_At X Q nL n1 n2 pc L S Y h := by
  obtain ⟨p, l, e, R, s, m, args, below, meth, c, G, o⟩ := X
  obtain ⟨hx, hb, hml, hown, hts, hE, ho, hd1, hd2, hlk⟩ := F
  intro L S Y h hq H locs ls hz hP hS hl
  obtain ⟨j, S1, rfl, hq1⟩ := am_pi_of hq
  obtain ⟨i, S2, rfl, hq2⟩ := am_pr_of hq1
  obtain ⟨n, fs, hY, hin, hq3⟩ := am_ya_of hq2
  obtain ⟨r, hr, hq4⟩ := am_rv_of hq3
  refine va_aldq hx hb hE.1 hP i 3 (am_w_at hY) rfl hin hd ?_
  show W _ _ _ _ _ _ _ _ _ _ _ _ _ _ _ (F0 m (pc + 1) ls (va_rf (am_ro o fs[j.toNatClampNeg]?) :: _))
  rw [hr]
  exact kk _ _ _ _ hq4 H locs ls hz hP hS hl
theorem a_aald4 (F : am_Fx X d own cc nL) (hd : decode cc pc = .ok (.aaload, 1)) (kk : ∀ L S Y h, Qn L S Y h → am_At X Q nL n1 n2 (pc + 1) L S Y h) : ∀ L S Y h, tm_aald 4 Qn L S Y h → am_At X Q nL n1 n2 pc L S Y h := by
  obtain ⟨p, l, e, R, s, m, args, below, meth, c, G, o⟩ := X
  obtain ⟨hx, hb, hml, hown, hts, hE, ho, hd1, hd2, hlk⟩ := F
  intro L S Y h hq H locs ls hz hP hS hl
  obtain ⟨j, S1, rfl, hq1⟩ := am_pi_of hq
  obtain ⟨i, S2, rfl, hq2⟩ := am_pr_of hq1
  obtain ⟨n, fs, hY, hin, hq3⟩ := am_ya_of hq2
  obtain ⟨r, hr, hq4⟩ := am_rv_of hq3
  refine va_aldq hx hb hE.1 hP i 4 (am_w_at hY) rfl hin hd ?_
  show W _ _ _ _ _ _ _ _ _ _ _ _ _ _ _ (F0 m (pc + 1) ls (va_rf (am_ro o fs[j.toNatClampNeg]?) :: _))
  rw [hr]
  exact kk _ _ _ _ hq4 H locs ls hz hP hS hl
theorem a_iast (F : am_Fx X d own cc nL) (hd : decode cc pc = .ok (.iastore, 1)) (kk : ∀ L S Y h, Qn L S Y h → am_At X Q nL n1 n2 (pc + 1) L S Y h) : ∀ L S Y h, tm_iast Qn L S Y h → am_At X Q nL n1 n2 pc L S Y h := by
  obtain ⟨p, l, e, R, s, m, args, below, meth, c, G, o⟩ := X
  obtain ⟨hx, hb, hml, hown, hts, hE, ho, hd1, hd2, hlk⟩ := F
  intro L S Y h hq H locs ls hz hP hS hl
  obtain ⟨x, S1, rfl, hq1⟩ := am_pi_of hq
  obtain ⟨j, S2, rfl, hq2⟩ := am_pi_of hq1
  obtain ⟨i, S3, rfl, hq3⟩ := am_pr_of hq2
  obtain ⟨n, fs, hY, hin, hq4⟩ := am_ya_of hq3
  have hD : va_D (am_A o) (am_w G o h Y) := am_D fun _ q => q
  have ha : (am_w G o h Y)[i]? = some (o + i, .inl (G.2.1 0, n, .inl (h i))) := am_w_at hY
  refine W.iast hx hb (hP i _ ha) ((hE.1.2 0 _ rfl).1 n (fun j => .int (h i j))) (fun q => by cases q) (by show ¬ (j < 0 ∨ (arrV _ _ _).slots.size ≤ _); rw [arrV_size]; exact hin) rfl rfl hd fun H1 e1 z oq => ?_
  refine kk _ _ _ _ hq4 H1 _ ls (z.trans hz) ?_ (hS.put z oq (hD.2 i _ ha)) hl
  rw [am_w_up hY]
  refine hP.set hD ha ?_ oq
  show H1[o + i]? = some (vp_cell (G.2.1 0) (n, .inl (am_up h i j.toNatClampNeg x i)))
  rw [e1, am_row_up, vp_cell_i, vp_cell_i, arrV_store]
  congr 2
  funext q
  by_cases hq' : q = j.toNatClampNeg <;> simp [updV, upd, hq']
theorem a_zast (F : am_Fx X d own cc nL) (hd : decode cc pc = .ok (.bastore, 1)) (kk : ∀ L S Y h, Qn L S Y h → am_At X Q nL n1 n2 (pc + 1) L S Y h) : ∀ L S Y h, tm_zast Qn L S Y h → am_At X Q nL n1 n2 pc L S Y h := by
  obtain ⟨p, l, e, R, s, m, args, below, meth, c, G, o⟩ := X
  obtain ⟨hx, hb, hml, hown, hts, hE, ho, hd1, hd2, hlk⟩ := F
  intro L S Y h hq H locs ls hz hP hS hl
  obtain ⟨x, S1, rfl, hq1⟩ := am_pi_of hq
  obtain ⟨j, S2, rfl, hq2⟩ := am_pi_of hq1
  obtain ⟨i, S3, rfl, hq3⟩ := am_pr_of hq2
  obtain ⟨n, fs, hY, hin, h01, hq4⟩ := am_ya_of hq3
  have hD : va_D (am_A o) (am_w G o h Y) := am_D fun _ q => q
  have ha : (am_w G o h Y)[i]? = some (o + i, .inl (G.2.1 1, n, .inl (h i))) := am_w_at hY
  have hnar : narrow .boolean (.int x) = .int x := by rcases h01 with rfl | rfl <;> rfl
  refine W.zast hx hb (hP i _ ha) ((hE.1.2 1 _ rfl).1 n (fun j => .int (h i j))) (fun q => by cases q) (by show ¬ (j < 0 ∨ (arrV _ _ _).slots.size ≤ _); rw [arrV_size]; exact hin) rfl rfl hd fun H1 e1 z oq => ?_
  refine kk _ _ _ _ hq4 H1 _ ls (z.trans hz) ?_ (hS.put z oq (hD.2 i _ ha)) hl
  rw [am_w_up hY]
  refine hP.set hD ha ?_ oq
  show H1[o + i]? = some (vp_cell (G.2.1 1) (n, .inl (am_up h i j.toNatClampNeg x i)))
  rw [e1, hnar, am_row_up, vp_cell_i, vp_cell_i, arrV_store]
  congr 2
  funext q
  by_cases hq' : q = j.toNatClampNeg <;> simp [updV, upd, hq']
end SND
