def am_cp (h : am_H) (a b sp dp n : Nat) : am_H := fun i k => if i = b then (if dp ≤ k ∧ k < dp + n then h a (sp + (k - dp)) else h b k) else h i k
def tm_acp (d : Nat) (Q : am_P) : am_P := fun L S Y h => am_pi S fun n S1 => am_pi S1 fun dp S2 => am_pr S2 fun b S3 => am_pi S3 fun sp S4 => am_pr S4 fun a S5 => am_ya Y[a]? 0 fun na _ => am_ya Y[b]? 0 fun nb _ => 1 ≤ d ∧ am_cs S5 ≤ 8 ∧ ¬ sp < 0 ∧ ¬ dp < 0 ∧ ¬ n < 0 ∧ sp.toNatClampNeg + n.toNatClampNeg ≤ na ∧ dp.toNatClampNeg + n.toNatClampNeg ≤ nb ∧ Q L S5 Y (am_cp h a b sp.toNatClampNeg dp.toNatClampNeg n.toNatClampNeg)
def tm_alen (Q : am_P) : am_P := fun L S Y h => am_pr S fun i S1 => am_ya Y[i]? 0 fun n _ => Q L (.int (nI n) :: S1) Y h
section SND
variable {X : am_X} {d : Nat} {own : String} {cc : ByteArray} {nL : Nat} {Q : State → Prop} {n1 n2 pc : Nat} {Qn Qt Qf : am_P} {K : List Value → List am_C → am_H → Prop}
theorem a_ldcS {k idx : Nat} {u : UInt32} (F : am_Fx X d RX0 cc nL) (hd : decode cc pc = .ok (.ldc idx, 2)) (hu : u.toNat = k) (hk : k < 12) (hi : am_sidx.getD k 0 = idx) (kk : ∀ L S Y h, Qn L S Y h → am_At X Q nL n1 n2 (pc + 2) L S Y h) : ∀ L S Y h, tm_push (.float u) Qn L S Y h → am_At X Q nL n1 n2 pc L S Y h := by
  obtain ⟨p, l, e, R, s, m, args, below, meth, c, G, o⟩ := X
  obtain ⟨hx, hb, hml, hown, hts, hE, ho, hd1, hd2, hlk⟩ := F
  intro L S Y h hq H locs ls hz hP hS hl
  subst hi
  subst hu
  exact va_ldcS hx hb hown (hE.2.2.2.2.2 _ hk) hd (kk _ _ _ _ hq H locs ls hz hP hS hl)
theorem a_ldcw {i : Nat} {v : Int32} (F : am_Fx X d own cc nL) (hd : decode cc pc = .ok (.ldc_w i, 3)) (hw : Cond.constant own i v ∈ am_ws) (kk : ∀ L S Y h, Qn L S Y h → am_At X Q nL n1 n2 (pc + 3) L S Y h) : ∀ L S Y h, tm_push (.int v) Qn L S Y h → am_At X Q nL n1 n2 pc L S Y h := by
  obtain ⟨p, l, e, R, s, m, args, below, meth, c, G, o⟩ := X
  obtain ⟨hx, hb, hml, hown, hts, hE, ho, hd1, hd2, hlk⟩ := F
  intro L S Y h hq H locs ls hz hP hS hl
  exact lv_ldcw hx hb hown (hts _ hw) hd (kk _ _ _ _ hq H locs ls hz hP hS hl)
theorem a_alen (F : am_Fx X d own cc nL) (hd : decode cc pc = .ok (.arraylength, 1)) (kk : ∀ L S Y h, Qn L S Y h → am_At X Q nL n1 n2 (pc + 1) L S Y h) : ∀ L S Y h, tm_alen Qn L S Y h → am_At X Q nL n1 n2 pc L S Y h := by
  obtain ⟨p, l, e, R, s, m, args, below, meth, c, G, o⟩ := X
  obtain ⟨hx, hb, hml, hown, hts, hE, ho, hd1, hd2, hlk⟩ := F
  intro L S Y h hq H locs ls hz hP hS hl
  obtain ⟨i, S1, rfl, hq1⟩ := am_pr_of hq
  obtain ⟨n, fs, hY, hq2⟩ := am_ya_of hq1
  exact va_alen hx hb hE.1 hP i 0 (am_w_at hY) rfl rfl hd (kk _ _ _ _ hq2 H locs ls hz hP hS hl)
theorem am_w_static : Cond.static Lib.Math.max.name ∈ am_ws ∧ Cond.static Lib.Math.min.name ∈ am_ws ∧ Cond.initialized "java/lang/Math" ∈ am_ws ∧ Cond.code Lib.Math.max.name Lib.Math.max.code 2 (some .int) ∈ am_ws ∧ Cond.code Lib.Math.min.name Lib.Math.min.code 2 (some .int) ∈ am_ws := by
  refine ⟨am_mem 280 (by decide +kernel) (by decide +kernel), am_mem 95 (by decide +kernel) (by decide +kernel), am_mem 6 (by decide +kernel) (by decide +kernel), am_mem 281 (by decide +kernel) (by decide +kernel), am_mem 96 (by decide +kernel) (by decide +kernel)⟩
def tm_max (d : Nat) (Q : am_P) : am_P := fun L S Y h => am_pi S fun y S1 => am_pi S1 fun x S2 => 1 ≤ d ∧ am_cs S2 ≤ 8 ∧ Q L (.int (if x < y then y else x) :: S2) Y h
def tm_min (d : Nat) (Q : am_P) : am_P := fun L S Y h => am_pi S fun y S1 => am_pi S1 fun x S2 => 1 ≤ d ∧ am_cs S2 ≤ 8 ∧ Q L (.int (if y < x then y else x) :: S2) Y h
theorem a_mmax {idx : Nat} (F : am_Fx X d own cc nL) (hw : Cond.methodLink own idx Lib.Math.max.name ∈ am_ws) (hR : am_Rc X n1 n2) (hd : decode cc pc = .ok (.invokestatic idx, 3)) (kk : ∀ L S Y h, Qn L S Y h → am_At X Q nL n1 n2 (pc + 3) L S Y h) : ∀ L S Y h, tm_max d Qn L S Y h → am_At X Q nL n1 n2 pc L S Y h := by
  obtain ⟨p, l, e, R, s, m, args, below, meth, c, G, o⟩ := X
  obtain ⟨hx, hb, hml, hown, hts, hE, ho, hd1, hd2, hlk⟩ := F
  intro L S Y h hq H locs ls hz hP hS hl
  obtain ⟨y, S1, rfl, hq1⟩ := am_pi_of hq
  obtain ⟨x, S2, rfl, h1, hcs, hq2⟩ := am_pi_of hq1
  exact va_mmax hx hb (hml.trans hl.1.symm) hown (hts _ hw) (hts _ am_w_static.1) (hts _ am_w_static.2.2.1) (hts _ am_w_static.2.2.2.1) (by omega) (by rw [am_cs_map]; omega) hR.1 hR.2 hd (kk _ _ _ _ hq2 H locs ls hz hP hS hl)
theorem a_mmin {idx : Nat} (F : am_Fx X d own cc nL) (hw : Cond.methodLink own idx Lib.Math.min.name ∈ am_ws) (hR : am_Rc X n1 n2) (hd : decode cc pc = .ok (.invokestatic idx, 3)) (kk : ∀ L S Y h, Qn L S Y h → am_At X Q nL n1 n2 (pc + 3) L S Y h) : ∀ L S Y h, tm_min d Qn L S Y h → am_At X Q nL n1 n2 pc L S Y h := by
  obtain ⟨p, l, e, R, s, m, args, below, meth, c, G, o⟩ := X
  obtain ⟨hx, hb, hml, hown, hts, hE, ho, hd1, hd2, hlk⟩ := F
  intro L S Y h hq H locs ls hz hP hS hl
  obtain ⟨y, S1, rfl, hq1⟩ := am_pi_of hq
  obtain ⟨x, S2, rfl, h1, hcs, hq2⟩ := am_pi_of hq1
  exact va_mmin hx hb (hml.trans hl.1.symm) hown (hts _ hw) (hts _ am_w_static.2.1) (hts _ am_w_static.2.2.1) (hts _ am_w_static.2.2.2.2) (by omega) (by rw [am_cs_map]; omega) hR.1 hR.2 hd (kk _ _ _ _ hq2 H locs ls hz hP hS hl)
theorem am_w_copy : Cond.native arraycopyName ∈ am_ws ∧ Cond.static arraycopyName ∈ am_ws ∧ Cond.initialized "java/lang/System" ∈ am_ws := ⟨am_mem 461 (by decide +kernel) (by decide +kernel), am_mem 460 (by decide +kernel) (by decide +kernel), am_mem 14 (by decide +kernel) (by decide +kernel)⟩
theorem am_nonneg {z : Int32} (hz : ¬ z < 0) : z.toInt = (z.toNatClampNeg : Int) := by
  have hz0 : (0 : Int) ≤ z.toInt := by
    have := Int32.not_lt.mp hz
    simpa using Int32.le_iff_toInt_le.mp this
  show z.toInt = ((z.toInt.toNat : Nat) : Int)
  omega
theorem a_acp {idx : Nat} (F : am_Fx X d own cc nL) (hw : Cond.methodLink own idx arraycopyName ∈ am_ws) (hd : decode cc pc = .ok (.invokestatic idx, 3)) (kk : ∀ L S Y h, Qn L S Y h → am_At X Q nL n1 n2 (pc + 3) L S Y h) : ∀ L S Y h, tm_acp d Qn L S Y h → am_At X Q nL n1 n2 pc L S Y h := by
  obtain ⟨p, l, e, R, s, m, args, below, meth, c, G, o⟩ := X
  obtain ⟨hx, hb, hml, hown, hts, hE, ho, hd1, hd2, hlk⟩ := F
  intro L S Y h hq H locs ls hz hP hS hl
  obtain ⟨n, S1, rfl, hq1⟩ := am_pi_of hq
  obtain ⟨dp, S2, rfl, hq2⟩ := am_pi_of hq1
  obtain ⟨b, S3, rfl, hq3⟩ := am_pr_of hq2
  obtain ⟨sp, S4, rfl, hq4⟩ := am_pi_of hq3
  obtain ⟨a, S5, rfl, hq5⟩ := am_pr_of hq4
  obtain ⟨na, fa, hYa, hq6⟩ := am_ya_of hq5
  obtain ⟨nb, fb, hYb, h1, hcs, g1, g2, g3, g4, g5, hq7⟩ := am_ya_of hq6
  have hD : va_D (am_A o) (am_w G o h Y) := am_D fun _ q => q
  have ha : (am_w G o h Y)[a]? = some (o + a, .inl (G.2.1 0, na, .inl (h a))) := am_w_at hYa
  have hbb : (am_w G o h Y)[b]? = some (o + b, .inl (G.2.1 0, nb, .inl (h b))) := am_w_at hYb
  intro T hT X
  obtain ⟨-, k0, hk0, cm0, hkk0⟩ := (hE.1.2 0 _ rfl).1 na (fun j => .int (h a j))
  obtain ⟨-, k1, hk1, cm1, hkk1⟩ := (hE.1.2 0 _ rfl).1 nb (fun j => .int (h b j))
  obtain ⟨vm', X', step⟩ := X.arraycopy hx hown (hts _ hw) (hts _ am_w_copy.1) (hts _ am_w_copy.2.1) (hts _ am_w_copy.2.2) (src := o + a) (dst := o + b) (cs := vp_cell (G.2.1 0) (na, .inl (h a))) (cd := vp_cell (G.2.1 0) (nb, .inl (h b))) (srcPos := sp) (destPos := dp) (n := n) (by rw [hT]; exact hP a _ ha) (by rw [hT]; exact hP b _ hbb)
    (fun _ h => by cases h) (fun _ h => by cases h) (fun h => by cases h) (fun h => by cases h) hk0 hk1 hkk0 hkk1 (by simp [refKind]) g1 g2 g3
    (by rw [am_nonneg g1, am_nonneg g3]; show ¬ _ > ((arrV (G.2.1 0) na (fun j => .int (h a j))).slots.size : Int); rw [arrV_size]; omega)
    (by rw [am_nonneg g2, am_nonneg g3]; show ¬ _ > ((arrV (G.2.1 0) nb (fun j => .int (h b j))).slots.size : Int); rw [arrV_size]; omega)
    (fun vm₁ _ i hi => by
      have e : (vp_cell (G.2.1 0) (na, .inl (h a))).slots.getD (sp.toNatClampNeg + i) .null = .int (h a (sp.toNatClampNeg + i)) := by
        show (arrV (G.2.1 0) na (fun j => .int (h a j))).slots.getD _ _ = _
        rw [Array.getD_eq_getD_getElem?, arrV_read _ _ (by omega)]
        rfl
      refine ⟨?_, ?_⟩
      · rw [e]
        rfl
      · rw [e]
        exact trivial)
    (g := F0 m pc ls (.int n :: .int dp :: .ref (o + b) :: .int sp :: .ref (o + a) :: S5.map (am_v G o))) rfl (by rw [hml]; exact hl.1) (rest := S5.map (am_v G o)) rfl (by rw [hb]; exact hd) (by omega) (by show 2 * 0 + _ + _ ≤ _; rw [am_cs_map]; have : nativeFrameWords "java/lang/System" "arraycopy" 5 = 7 := (by decide +kernel); omega)
  have e1 : copied (vp_cell (G.2.1 0) (na, .inl (h a))) (vp_cell (G.2.1 0) (nb, .inl (h b))) sp dp n = vp_cell (G.2.1 0) (nb, .inl (va_cpy (h a) (h b) sp.toNatClampNeg dp.toNatClampNeg n.toNatClampNeg)) := va_copied (fun z => .int z) (G.2.1 0) (G.2.1 0) (h a) (h b) g4
  rw [e1] at X' step
  have hlt : o + b < H.size := (Array.getElem?_eq_some_iff.mp (hP b _ hbb)).1
  have oq : ∀ q : Nat, q ≠ o + b → (H.setIfInBounds (o + b) (vp_cell (G.2.1 0) (nb, .inl (va_cpy (h a) (h b) sp.toNatClampNeg dp.toNatClampNeg n.toNatClampNeg))))[q]? = H[q]? := fun q hq => by simp [Array.getElem?_setIfInBounds, Ne.symm hq]
  have hheap : ((T.setVm vm').setCell (o + b) (vp_cell (G.2.1 0) (nb, .inl (va_cpy (h a) (h b) sp.toNatClampNeg dp.toNatClampNeg n.toNatClampNeg)))).heap = H.setIfInBounds (o + b) (vp_cell (G.2.1 0) (nb, .inl (va_cpy (h a) (h b) sp.toNatClampNeg dp.toNatClampNeg n.toNatClampNeg))) := by rw [← hT]; rfl
  have hrow : am_cp h a b sp.toNatClampNeg dp.toNatClampNeg n.toNatClampNeg b = va_cpy (h a) (h b) sp.toNatClampNeg dp.toNatClampNeg n.toNatClampNeg := by
    funext k
    simp [am_cp, va_cpy]
  have hw1 := am_w_set (G := G) (o := o) (h := h) (h' := am_cp h a b sp.toNatClampNeg dp.toNatClampNeg n.toNatClampNeg) (Y := Y) (i := b) (c := (0, nb, fb)) (fun j hj => by funext k; simp [am_cp, hj])
  rw [am_set_self hYb] at hw1
  obtain ⟨t, a1, b1⟩ := kk _ _ _ _ hq7 (H.setIfInBounds (o + b) (vp_cell (G.2.1 0) (nb, .inl (va_cpy (h a) (h b) sp.toNatClampNeg dp.toNatClampNeg n.toNatClampNeg)))) _ ls (by simp; exact hz) (by
      rw [hw1]
      show va_P _ _ ((am_w G o h Y).set b (o + b, .inl (G.2.1 0, nb, .inl (am_cp h a b sp.toNatClampNeg dp.toNatClampNeg n.toNatClampNeg b)))) _
      rw [hrow]
      exact hP.set hD hbb (show (H.setIfInBounds (o + b) _)[o + b]? = some _ by simp [Array.getElem?_setIfInBounds, hlt]) oq) ⟨by simp; exact hS.1, fun q g1 g2 => by
      rw [oq q (fun e => g2 (by rw [e]; exact hD.2 b _ hbb))]
      exact hS.2.1 q g1 g2, fun q hq => by
      rcases List.mem_append.mp hq with h' | h'
      · exact hS.2.2 q h'
      · obtain ⟨z, -, hz'⟩ := List.mem_map.mp h'
        rw [← hz']
        exact hD.2 b _ hbb⟩ hl _ hheap X'
  exact ⟨t, step t a1, b1⟩
end SND
