/-! rows for the constructors: arrays of booleans, Sheets and Steps -/
def tm_newZ (N : Nat) (Q : am_P) : am_P := fun L S Y h => am_pi S fun n S1 => ¬ n < 0 ∧ n.toNatClampNeg ≤ N ∧ Q L (.ref Y.length :: S1) (Y ++ [(1, n.toNatClampNeg, [])]) (am_zr h Y.length)
def tm_newA1 (N : Nat) (Q : am_P) : am_P := fun L S Y h => am_pi S fun n S1 => ¬ n < 0 ∧ n.toNatClampNeg ≤ N ∧ Q L (.ref Y.length :: S1) (Y ++ [(3, n.toNatClampNeg, [])]) (am_zr h Y.length)
def tm_newA2 (N : Nat) (Q : am_P) : am_P := fun L S Y h => am_pi S fun n S1 => ¬ n < 0 ∧ n.toNatClampNeg ≤ N ∧ Q L (.ref Y.length :: S1) (Y ++ [(4, n.toNatClampNeg, [])]) (am_zr h Y.length)
def tm_aastT (Q : am_P) : am_P := fun L S Y h => am_pr S fun v S1 => am_pi S1 fun j S2 => am_pr S2 fun i S3 => am_ya Y[i]? 3 fun n fs => vp_in j n ∧ am_yo Y[v]? 1 fun _ => Q L S3 (Y.set i (3, n, am_aset fs j.toNatClampNeg v)) h
theorem qtm_newZ (N : Nat) (Q : am_P) (L S : List Value) (Y : List am_C) (h : am_H) : tm_newZ N Q L S Y h = (am_pi S fun n S1 => ¬ n < 0 ∧ n.toNatClampNeg ≤ N ∧ Q L (.ref Y.length :: S1) (Y ++ [(1, n.toNatClampNeg, [])]) (am_zr h Y.length)) := of_eq_true (eq_self _)
theorem qtm_newA1 (N : Nat) (Q : am_P) (L S : List Value) (Y : List am_C) (h : am_H) : tm_newA1 N Q L S Y h = (am_pi S fun n S1 => ¬ n < 0 ∧ n.toNatClampNeg ≤ N ∧ Q L (.ref Y.length :: S1) (Y ++ [(3, n.toNatClampNeg, [])]) (am_zr h Y.length)) := of_eq_true (eq_self _)
theorem qtm_newA2 (N : Nat) (Q : am_P) (L S : List Value) (Y : List am_C) (h : am_H) : tm_newA2 N Q L S Y h = (am_pi S fun n S1 => ¬ n < 0 ∧ n.toNatClampNeg ≤ N ∧ Q L (.ref Y.length :: S1) (Y ++ [(4, n.toNatClampNeg, [])]) (am_zr h Y.length)) := of_eq_true (eq_self _)
theorem qtm_aastT (Q : am_P) (L S : List Value) (Y : List am_C) (h : am_H) : tm_aastT Q L S Y h = (am_pr S fun v S1 => am_pi S1 fun j S2 => am_pr S2 fun i S3 => am_ya Y[i]? 3 fun n fs => vp_in j n ∧ am_yo Y[v]? 1 fun _ => Q L S3 (Y.set i (3, n, am_aset fs j.toNatClampNeg v)) h) := of_eq_true (eq_self _)
section SND
variable {X : am_X} {d : Nat} {own : String} {cc : ByteArray} {nL : Nat} {Q : State → Prop} {n1 n2 pc mc ms : Nat} {Qn Qt Qf : am_P} {K : List Value → List am_C → am_H → Prop}
theorem am_wa_bool : Cond.arrayClass .boolean ∈ am_ws := am_mem 922 (by decide +kernel) (by decide +kernel)
theorem a_newZ {N : Nat} (F : am_Fx X d own cc nL) (hN : N ≤ 1000) (hR : am_Rc X (n1 + 1) (n2 + N)) (hd : decode cc pc = .ok (.newarray .boolean, 2)) (kk : ∀ L S Y h, Qn L S Y h → am_At X Q nL (n1 + 1) (n2 + N) (pc + 2) L S Y h) : ∀ L S Y h, tm_newZ N Qn L S Y h → am_At X Q nL n1 n2 pc L S Y h := by
  obtain ⟨p, l, e, R, s, m, args, below, meth, c, G, o⟩ := X
  obtain ⟨hx, hb, hml, hown, hts, hE, ho, hd1, hd2, hlk⟩ := F
  intro L S Y h hq H locs ls hz hP hS hl
  obtain ⟨n, S1, rfl, hn, hle, hq1⟩ := am_pi_of hq
  have hR2 : n2 + N ≤ R.slots := hR.2
  refine va_newaK (atype := .boolean) hx hb (hts _ am_wa_bool) (g := F0 m pc ls ((Value.int n :: S1).map (am_v G o))) rfl hd rfl hn rfl (by show n.toNatClampNeg * 1 ≤ _; omega) hR.1 (by omega) hz fun H' cA e1 z1 o1 hAr hNm => ?_
  have hcA : cA = G.2.1 1 := Option.some.inj (hNm.symm.trans (hE.1.2 1 (G.2.1 1, .boolean) rfl).2)
  subst hcA
  have hk : ∀ (k : Nat) (x : Nat × va_E), (am_w G o h Y)[k]? = some x → H'[x.1]? = H[x.1]? := fun k x hx => o1 x.1 (by rw [← hz]; exact (hP k x hx).lt)
  refine am_Wpad (Nat.le_refl _) (show n2 + n.toNatClampNeg ≤ n2 + N by omega) (kk _ _ _ _ hq1 H' locs ls (by rw [z1, List.length_append]; rfl) ?_ ⟨Nat.le_trans hS.1 (by omega), fun q g1 g2 => (o1 q (by have := hS.1; omega)).trans (hS.2.1 q g1 g2), hS.2.2⟩ hl)
  rw [am_w_push (h := h) (fun j hj => am_zr_ne j (by omega))]
  refine (hP.kept hk).app (fun k x hx => ?_)
  have hz' : k < 1 := (List.getElem?_eq_some_iff.mp hx).1
  rw [show k = 0 by omega] at hx
  cases hx
  show H'[o + Y.length]? = some (vp_cell (G.2.1 1) (n.toNatClampNeg, .inl (am_zr h Y.length Y.length)))
  rw [e1, vp_cell_i]
  congr 2
  funext j
  rw [am_zr_at]
  rfl
theorem a_newA1 {N : Nat} {index : Nat} (F : am_Fx X d own cc nL) (hN : N ≤ 1000) (hcl : Cond.classLink own index RX1 ∈ am_ws) (hR : am_Rc X (n1 + 1) (n2 + N)) (hd : decode cc pc = .ok (.anewarray index, 3)) (kk : ∀ L S Y h, Qn L S Y h → am_At X Q nL (n1 + 1) (n2 + N) (pc + 3) L S Y h) : ∀ L S Y h, tm_newA1 N Qn L S Y h → am_At X Q nL n1 n2 pc L S Y h := by
  obtain ⟨p, l, e, R, s, m, args, below, meth, c, G, o⟩ := X
  obtain ⟨hx, hb, hml, hown, hts, hE, ho, hd1, hd2, hlk⟩ := F
  intro L S Y h hq H locs ls hz hP hS hl
  obtain ⟨n, S1, rfl, hn, hle, hq1⟩ := am_pi_of hq
  have hR2 : n2 + N ≤ R.slots := hR.2
  refine W.anew hx hb hown (hts _ hcl) (va_AO.use hE.2.2.1.2.1) (g := F0 m pc ls ((Value.int n :: S1).map (am_v G o))) rfl hd rfl hn (by omega) hR.1 (by omega) fun cA kA comp f1 f2 f3 f4 => ?_
  obtain ⟨kA', comp', g1, g2, g3, g4⟩ := (hE.1.2 3 _ rfl).2
  have hcA : cA = G.2.1 3 := Option.some.inj (f1.symm.trans g4)
  subst hcA
  generalize hH1 : H.push ({ cls := G.2.1 3, slots := Array.replicate n.toNatClampNeg .null, vm := .none } : Cell) = H1
  have z1 : H1.size = H.size + 1 := by rw [← hH1, Array.size_push]
  have e1 : H1[H.size]? = some (arrV (G.2.1 3) n.toNatClampNeg (fun _ => .null)) := by rw [← hH1, Array.getElem?_push_size, ← arrV_new]
  have o1 : ∀ q : Nat, q < H.size → H1[q]? = H[q]? := fun q hq => by rw [← hH1, Array.getElem?_push, if_neg (Nat.ne_of_lt hq)]
  have hk : ∀ (k : Nat) (x : Nat × va_E), (am_w G o h Y)[k]? = some x → H1[x.1]? = H[x.1]? := fun k x hx => o1 x.1 (hP k x hx).lt
  rw [hz]
  refine am_Wpad (Nat.le_refl _) (show n2 + n.toNatClampNeg ≤ n2 + N by omega) (kk _ _ _ _ hq1 H1 locs ls (by rw [z1, hz, List.length_append]; rfl) ?_ ⟨Nat.le_trans hS.1 (by omega), fun q g1 g2 => (o1 q (by have := hS.1; omega)).trans (hS.2.1 q g1 g2), hS.2.2⟩ hl)
  rw [am_w_push (h := h) (fun j hj => am_zr_ne j (by omega))]
  refine (hP.kept hk).app (fun k x hx => ?_)
  have hz' : k < 1 := (List.getElem?_eq_some_iff.mp hx).1
  rw [show k = 0 by omega] at hx
  cases hx
  show H1[o + Y.length]? = some (vp_cell (G.2.1 3) (n.toNatClampNeg, .inr (.inr (.inr (.inr (am_rs o []))))))
  rw [← hz, vp_cell_q]
  exact e1
theorem a_newA2 {N : Nat} {index : Nat} (F : am_Fx X d own cc nL) (hN : N ≤ 1000) (hcl : Cond.classLink own index RX2 ∈ am_ws) (hR : am_Rc X (n1 + 1) (n2 + N)) (hd : decode cc pc = .ok (.anewarray index, 3)) (kk : ∀ L S Y h, Qn L S Y h → am_At X Q nL (n1 + 1) (n2 + N) (pc + 3) L S Y h) : ∀ L S Y h, tm_newA2 N Qn L S Y h → am_At X Q nL n1 n2 pc L S Y h := by
  obtain ⟨p, l, e, R, s, m, args, below, meth, c, G, o⟩ := X
  obtain ⟨hx, hb, hml, hown, hts, hE, ho, hd1, hd2, hlk⟩ := F
  intro L S Y h hq H locs ls hz hP hS hl
  obtain ⟨n, S1, rfl, hn, hle, hq1⟩ := am_pi_of hq
  have hR2 : n2 + N ≤ R.slots := hR.2
  refine W.anew hx hb hown (hts _ hcl) (va_AO.use hE.2.2.1.2.2) (g := F0 m pc ls ((Value.int n :: S1).map (am_v G o))) rfl hd rfl hn (by omega) hR.1 (by omega) fun cA kA comp f1 f2 f3 f4 => ?_
  obtain ⟨kA', comp', g1, g2, g3, g4⟩ := (hE.1.2 4 _ rfl).2
  have hcA : cA = G.2.1 4 := Option.some.inj (f1.symm.trans g4)
  subst hcA
  generalize hH1 : H.push ({ cls := G.2.1 4, slots := Array.replicate n.toNatClampNeg .null, vm := .none } : Cell) = H1
  have z1 : H1.size = H.size + 1 := by rw [← hH1, Array.size_push]
  have e1 : H1[H.size]? = some (arrV (G.2.1 4) n.toNatClampNeg (fun _ => .null)) := by rw [← hH1, Array.getElem?_push_size, ← arrV_new]
  have o1 : ∀ q : Nat, q < H.size → H1[q]? = H[q]? := fun q hq => by rw [← hH1, Array.getElem?_push, if_neg (Nat.ne_of_lt hq)]
  have hk : ∀ (k : Nat) (x : Nat × va_E), (am_w G o h Y)[k]? = some x → H1[x.1]? = H[x.1]? := fun k x hx => o1 x.1 (hP k x hx).lt
  rw [hz]
  refine am_Wpad (Nat.le_refl _) (show n2 + n.toNatClampNeg ≤ n2 + N by omega) (kk _ _ _ _ hq1 H1 locs ls (by rw [z1, hz, List.length_append]; rfl) ?_ ⟨Nat.le_trans hS.1 (by omega), fun q g1 g2 => (o1 q (by have := hS.1; omega)).trans (hS.2.1 q g1 g2), hS.2.2⟩ hl)
  rw [am_w_push (h := h) (fun j hj => am_zr_ne j (by omega))]
  refine (hP.kept hk).app (fun k x hx => ?_)
  have hz' : k < 1 := (List.getElem?_eq_some_iff.mp hx).1
  rw [show k = 0 by omega] at hx
  cases hx
  show H1[o + Y.length]? = some (vp_cell (G.2.1 4) (n.toNatClampNeg, .inr (.inr (.inr (.inr (am_rs o []))))))
  rw [← hz, vp_cell_q]
  exact e1
theorem a_aastT (F : am_Fx X d own cc nL) (hd : decode cc pc = .ok (.aastore, 1)) (kk : ∀ L S Y h, Qn L S Y h → am_At X Q nL n1 n2 (pc + 1) L S Y h) : ∀ L S Y h, tm_aastT Qn L S Y h → am_At X Q nL n1 n2 pc L S Y h := by
  obtain ⟨p, l, e, R, s, m, args, below, meth, c, G, o⟩ := X
  obtain ⟨hx, hb, hml, hown, hts, hE, ho, hd1, hd2, hlk⟩ := F
  intro L S Y h hq H locs ls hz hP hS hl
  obtain ⟨v, S1, rfl, hq1⟩ := am_pr_of hq
  obtain ⟨j, S2, rfl, hq2⟩ := am_pi_of hq1
  obtain ⟨i, S3, rfl, hq3⟩ := am_pr_of hq2
  obtain ⟨n, fs, hY, hin, hq4⟩ := am_ya_of hq3
  obtain ⟨vs, hv, hq5⟩ := am_yo_of hq4
  have hlt : j.toNatClampNeg < n := Nat.not_le.mp fun q => hin (Or.inr q)
  have h0 : ¬ j < 0 := fun q => hin (Or.inl q)
  have hD : va_D (am_A o) (am_w G o h Y) := am_D fun _ q => q
  have ha : (am_w G o h Y)[i]? = some (o + i, .inl (G.2.1 3, n, .inr (.inr (.inr (.inr (am_rs o fs)))))) := am_w_at hY
  obtain ⟨r', hr', cellV, g1, g2, g3, -⟩ := hP v _ (am_w_at hv)
  have hcls := (hE.1.1 1 _ rfl).2
  obtain ⟨kA, comp, k1, k2, k3, -⟩ := (hE.1.2 3 _ rfl).2
  have hcomp : comp = G.1.1 1 := Option.some.inj (k3.symm.trans hcls.1)
  subst hcomp
  obtain ⟨kC, hkC, -⟩ := hcls.2
  refine W.aast hx hb (hP i _ ha) (fun q h => by cases h) (fun h => by cases h) k1 k2 rfl hkC ⟨h0, by show _ < (arrV _ _ _).slots.size; rw [arrV_size]; exact hlt⟩ g1 (fun q h => by rw [g3] at h; cases h) (by rw [g2]; exact hkC) (by rw [g2]; exact va_assign hcls) rfl rfl hd fun H1 e z oq => ?_
  refine kk _ _ _ _ hq5 H1 _ ls (by rw [z, List.length_set]; exact hz) ?_ (hS.put z oq (hD.2 i _ ha)) hl
  rw [am_w_set (h := h) (fun j _ => rfl)]
  show va_P _ _ ((am_w G o h Y).set i (o + i, .inl (G.2.1 3, n, .inr (.inr (.inr (.inr (am_rs o (am_aset fs j.toNatClampNeg v)))))))) H1
  rw [am_aset_rs]
  refine hP.set hD ha ?_ oq
  show H1[o + i]? = some (vp_cell _ _)
  rw [e]
  rw [vp_cell_q, vp_cell_q, arrV_store]
  congr 2
  funext q
  by_cases hq : q = j.toNatClampNeg
  · subst hq
    simp [updV, va_up, va_rf]
  · simp [updV, va_up, hq]
theorem a_callIN {y : am_Y} {n idx : Nat} (F : am_Fx X d own cc nL) (hm : am_My y n) (hret : y.2.2.2 = none) (hi : y.1.name = "<init>" ∧ Cond.instanceMethod y.1 ∈ am_ws) (hw : (own, idx, y.1, RX5) ∈ am_nst) (hR : am_Rc X (n1 + mc) (n2 + ms)) (hd : decode cc pc = .ok (.invokespecial idx, 3)) (kk : ∀ L S Y h, Qn L S Y h → am_At X Q nL (n1 + mc) (n2 + ms) (pc + 3) L S Y h) : ∀ L S Y h, tm_callIg mc ms y n d Qn L S Y h → am_At X Q nL n1 n2 pc L S Y h := by
  obtain ⟨y, yb, yl, yr⟩ := y
  cases hret
  obtain ⟨p, l, e, R, s, m, args, below, meth, c, G, o⟩ := X
  obtain ⟨hx, hb, hml, hown, hts, hE, ho, hd1, hd2, hlk⟩ := F
  intro L S Y h hq H locs ls hz hP hS hl
  obtain ⟨i, S1, hSd, h1, hcs, hn, hM⟩ := am_pr_of hq
  rw [am_stk hSd]
  refine am_after (rest := S1.map (am_v G o)) (va_runIN (Ts := am_ws) (As := (S.take n).reverse.map (am_v G o)) (rest := S1.map (am_v G o)) ⟨hx, hb, hml, hown, hts⟩ (hM l G o) ⟨va_cnB n hts (am_goodT hm.1) rfl rfl rfl (hE.2.1 _ hw) (hts _ hm.2.1) hm.2.2.1 (am_room h1 hd1 hd2 hm.2.2.2 mc ms), hi.1, hts _ hi.2⟩ ⟨am_blind _ _ _ _ _, fun U hU hW => ⟨rfl, by rw [hU]; exact hz, by rw [hU]; exact hP, by rw [hU]; exact hE.to hW hS.2.1⟩⟩ rfl (by simp; omega) hl.1 rfl (lv_room (by rw [am_cs_map]; exact hcs)) hd ⟨hR.1, hR.2⟩) hS fun r Y1 h1 hK H1 locs1 z1 hP1 hS1 => ?_
  rw [← am_head]
  exact kk _ _ _ _ hK H1 locs1 ls z1 hP1 hS1 hl
end SND
abbrev am_fsX0 : List Value := [.null, .null, .null, .int 0, .int 0, .int 0, .int 0, .int 0, .int 0]
theorem am_fsX0_ok : ∀ o j, j < 9 → defaultValue (tyX0 j) = vp_V (am_fs o (fun _ => 0) am_fsX0) j := fun o j hj => match j, hj with
  | 0, _ => rfl
  | 1, _ => rfl
  | 2, _ => rfl
  | 3, _ => rfl
  | 4, _ => rfl
  | 5, _ => rfl
  | 6, _ => rfl
  | 7, _ => rfl
  | 8, _ => rfl
  | j + 9, hj => absurd hj (by omega)
abbrev am_fsX1 : List Value := [.null, .int 0, .int 0]
theorem am_fsX1_ok : ∀ o j, j < 3 → defaultValue (tyX1 j) = vp_V (am_fs o (fun _ => 0) am_fsX1) j := fun o j hj => match j, hj with
  | 0, _ => rfl
  | 1, _ => rfl
  | 2, _ => rfl
  | j + 3, hj => absurd hj (by omega)
abbrev am_fsX3 : List Value := [.null, .int 0]
theorem am_fsX3_ok : ∀ o j, j < 2 → defaultValue (tyX3 j) = vp_V (am_fs o (fun _ => 0) am_fsX3) j := fun o j hj => match j, hj with
  | 0, _ => rfl
  | 1, _ => rfl
  | j + 2, hj => absurd hj (by omega)
abbrev am_fsX4 : List Value := [.null, .null, .null, .null, .null, .null, .null, .null, .int 0, .int 0, .int 0, .int 0]
theorem am_fsX4_ok : ∀ o j, j < 12 → defaultValue (tyX4 j) = vp_V (am_fs o (fun _ => 0) am_fsX4) j := fun o j hj => match j, hj with
  | 0, _ => rfl
  | 1, _ => rfl
  | 2, _ => rfl
  | 3, _ => rfl
  | 4, _ => rfl
  | 5, _ => rfl
  | 6, _ => rfl
  | 7, _ => rfl
  | 8, _ => rfl
  | 9, _ => rfl
  | 10, _ => rfl
  | 11, _ => rfl
  | j + 12, hj => absurd hj (by omega)
abbrev am_fsX5 : List Value := [.null, .null, .null, .int 0, .null, .null, .null, .null, .int 0, .int 0, .int 0]
theorem am_fsX5_ok : ∀ o j, j < 11 → defaultValue (tyX5 j) = vp_V (am_fs o (fun _ => 0) am_fsX5) j := fun o j hj => match j, hj with
  | 0, _ => rfl
  | 1, _ => rfl
  | 2, _ => rfl
  | 3, _ => rfl
  | 4, _ => rfl
  | 5, _ => rfl
  | 6, _ => rfl
  | 7, _ => rfl
  | 8, _ => rfl
  | 9, _ => rfl
  | 10, _ => rfl
  | j + 11, hj => absurd hj (by omega)
abbrev am_fsX6 : List Value := [.int 0, .null, .null, .int 0, .int 0, .null, .null, .null, .int 0, .null, .int 0, .int 0, .int 0, .null, .null, .int 0, .int 0, .int 0, .int 0, .int 0, .int 0, .int 0, .int 0, .int 0, .int 0, .int 0, .int 0, .long 0, .int 0, .int 0, .int 0, .null, .null, .null, .int 0, .int 0, .null, .null, .int 0, .int 0, .int 0, .int 0, .null, .null, .null, .null]
theorem am_fsX6_ok : ∀ o j, j < 46 → defaultValue (tyX6 j) = vp_V (am_fs o (fun _ => 0) am_fsX6) j := fun o j hj => match j, hj with
  | 0, _ => rfl
  | 1, _ => rfl
  | 2, _ => rfl
  | 3, _ => rfl
  | 4, _ => rfl
  | 5, _ => rfl
  | 6, _ => rfl
  | 7, _ => rfl
  | 8, _ => rfl
  | 9, _ => rfl
  | 10, _ => rfl
  | 11, _ => rfl
  | 12, _ => rfl
  | 13, _ => rfl
  | 14, _ => rfl
  | 15, _ => rfl
  | 16, _ => rfl
  | 17, _ => rfl
  | 18, _ => rfl
  | 19, _ => rfl
  | 20, _ => rfl
  | 21, _ => rfl
  | 22, _ => rfl
  | 23, _ => rfl
  | 24, _ => rfl
  | 25, _ => rfl
  | 26, _ => rfl
  | 27, _ => rfl
  | 28, _ => rfl
  | 29, _ => rfl
  | 30, _ => rfl
  | 31, _ => rfl
  | 32, _ => rfl
  | 33, _ => rfl
  | 34, _ => rfl
  | 35, _ => rfl
  | 36, _ => rfl
  | 37, _ => rfl
  | 38, _ => rfl
  | 39, _ => rfl
  | 40, _ => rfl
  | 41, _ => rfl
  | 42, _ => rfl
  | 43, _ => rfl
  | 44, _ => rfl
  | 45, _ => rfl
  | j + 46, hj => absurd hj (by omega)
theorem ml_X4_40 : Cond.methodLink RX4 40 yJ7_fill_53178 ∈ am_ws := am_mem 29 (by decide +kernel) (by decide +kernel)
theorem ol_X4_3 : Cond.methodLink RX4 3 Lib.objectInit ∈ am_ws := am_mem 28 (by decide +kernel) (by decide +kernel)
theorem ol_X3_3 : Cond.methodLink RX3 3 Lib.objectInit ∈ am_ws := am_mem 86 (by decide +kernel) (by decide +kernel)
theorem ol_X0_3 : Cond.methodLink RX0 3 Lib.objectInit ∈ am_ws := am_mem 120 (by decide +kernel) (by decide +kernel)
theorem ol_X1_3 : Cond.methodLink RX1 3 Lib.objectInit ∈ am_ws := am_mem 158 (by decide +kernel) (by decide +kernel)
theorem kw_X5_36 : Cond.classLink RX5 36 RX1 ∈ am_ws := am_mem 152 (by decide +kernel) (by decide +kernel)
theorem ki_X1 : Cond.instantiable RX1 3 ∈ am_ws := am_mem 154 (by decide +kernel) (by decide +kernel)
theorem kn_X1 : Cond.initialized RX1 ∈ am_ws := am_mem 8 (by decide +kernel) (by decide +kernel)
theorem kw_X5_29 : Cond.classLink RX5 29 RX0 ∈ am_ws := am_mem 115 (by decide +kernel) (by decide +kernel)
theorem ki_X0 : Cond.instantiable RX0 9 ∈ am_ws := am_mem 116 (by decide +kernel) (by decide +kernel)
theorem kn_X0 : Cond.initialized RX0 ∈ am_ws := am_mem 7 (by decide +kernel) (by decide +kernel)
theorem ml_X5_24 : Cond.methodLink RX5 24 yX3_init ∈ am_ws := am_mem 83 (by decide +kernel) (by decide +kernel)
theorem kw_X5_22 : Cond.classLink RX5 22 RX3 ∈ am_ws := am_mem 81 (by decide +kernel) (by decide +kernel)
theorem ki_X3 : Cond.instantiable RX3 2 ∈ am_ws := am_mem 82 (by decide +kernel) (by decide +kernel)
theorem kn_X3 : Cond.initialized RX3 ∈ am_ws := am_mem 4 (by decide +kernel) (by decide +kernel)
theorem ml_X5_9 : Cond.methodLink RX5 9 yX4_init ∈ am_ws := am_mem 25 (by decide +kernel) (by decide +kernel)
theorem kw_X5_7 : Cond.classLink RX5 7 RX4 ∈ am_ws := am_mem 23 (by decide +kernel) (by decide +kernel)
theorem ki_X4 : Cond.instantiable RX4 12 ∈ am_ws := am_mem 24 (by decide +kernel) (by decide +kernel)
theorem kn_X4 : Cond.initialized RX4 ∈ am_ws := am_mem 2 (by decide +kernel) (by decide +kernel)
theorem ol_X5_1 : Cond.methodLink RX5 1 Lib.objectInit ∈ am_ws := am_mem 20 (by decide +kernel) (by decide +kernel)
theorem ol_X6_7 : Cond.methodLink RX6 7 Lib.objectInit ∈ am_ws := am_mem 701 (by decide +kernel) (by decide +kernel)
abbrev YX4_init : am_Y := (yX4_init, cX4_init, 1, none)
theorem my_X4_init : am_My YX4_init 0 := ⟨am_mem 27 (by decide +kernel) (by decide +kernel), am_mem 2 (by decide +kernel) (by decide +kernel), by decide +kernel, by decide +kernel⟩
theorem mi_X4_init : Cond.instanceMethod yX4_init ∈ am_ws := am_mem 26 (by decide +kernel) (by decide +kernel)
abbrev YX3_init : am_Y := (yX3_init, cX3_init, 1, none)
theorem my_X3_init : am_My YX3_init 0 := ⟨am_mem 85 (by decide +kernel) (by decide +kernel), am_mem 4 (by decide +kernel) (by decide +kernel), by decide +kernel, by decide +kernel⟩
theorem mi_X3_init : Cond.instanceMethod yX3_init ∈ am_ws := am_mem 84 (by decide +kernel) (by decide +kernel)
abbrev YX0_init : am_Y := (yX0_init, cX0_init, 1, none)
theorem my_X0_init : am_My YX0_init 0 := ⟨am_mem 119 (by decide +kernel) (by decide +kernel), am_mem 7 (by decide +kernel) (by decide +kernel), by decide +kernel, by decide +kernel⟩
theorem mi_X0_init : Cond.instanceMethod yX0_init ∈ am_ws := am_mem 118 (by decide +kernel) (by decide +kernel)
abbrev YX1_init : am_Y := (yX1_init, cX1_init, 1, none)
theorem my_X1_init : am_My YX1_init 0 := ⟨am_mem 157 (by decide +kernel) (by decide +kernel), am_mem 8 (by decide +kernel) (by decide +kernel), by decide +kernel, by decide +kernel⟩
theorem mi_X1_init : Cond.instanceMethod yX1_init ∈ am_ws := am_mem 156 (by decide +kernel) (by decide +kernel)
abbrev YX5_init : am_Y := (yX5_init, cX5_init, 2, none)
theorem my_X5_init : am_My YX5_init 0 := ⟨am_mem 19 (by decide +kernel) (by decide +kernel), am_mem 1 (by decide +kernel) (by decide +kernel), by decide +kernel, by decide +kernel⟩
theorem mi_X5_init : Cond.instanceMethod yX5_init ∈ am_ws := am_mem 18 (by decide +kernel) (by decide +kernel)
abbrev YX6_init : am_Y := (yX6_init, cX6_init, 2, none)
theorem my_X6_init : am_My YX6_init 0 := ⟨am_mem 700 (by decide +kernel) (by decide +kernel), am_mem 9 (by decide +kernel) (by decide +kernel), by decide +kernel, by decide +kernel⟩
theorem mi_X6_init : Cond.instanceMethod yX6_init ∈ am_ws := am_mem 699 (by decide +kernel) (by decide +kernel)
def tr_X4_init_0 (d : Nat) (J : Nat → am_P) (K : List Value → List am_C → am_H → Prop) : am_P := tm_aload 0 (tm_objI d (tm_aload 0 (tm_push (.int 32) (tm_newI 32 (tm_putr 4 0 (tm_aload 0 (tm_push (.int 5) (tm_newI 5 (tm_putr 4 1 (tm_aload 0 (tm_push (.int 5) (tm_newI 5 (tm_putr 4 2 (tm_aload 0 (tm_push (.int 5) (tm_newI 5 (tm_putr 4 3 (tm_aload 0 (tm_push (.int 5) (tm_newI 5 (tm_putr 4 4 (tm_aload 0 (tm_push (.int 5) (tm_newI 5 (tm_putr 4 5 (tm_aload 0 (tm_push (.int 5) (tm_newI 5 (tm_putr 4 6 (tm_aload 0 (tm_push (.int 6) (tm_newI 6 (tm_putr 4 7 (tm_aload 0 (tm_push (.int 10) (tm_puti 4 10 (tm_aload 0 (tm_getf 4 0 (tm_push (.int 30) (tm_callS YJ7_fill 2 d (tm_vret K)))))))))))))))))))))))))))))))))))))))))
theorem te_X4_init_0 (d : Nat) (J : Nat → am_P) (K : List Value → List am_C → am_H → Prop) (L S : List Value) (Y : List am_C) (h : am_H) : tr_X4_init_0 d J K L S Y h = (tm_aload 0 (tm_objI d (tm_aload 0 (tm_push (.int 32) (tm_newI 32 (tm_putr 4 0 (tm_aload 0 (tm_push (.int 5) (tm_newI 5 (tm_putr 4 1 (tm_aload 0 (tm_push (.int 5) (tm_newI 5 (tm_putr 4 2 (tm_aload 0 (tm_push (.int 5) (tm_newI 5 (tm_putr 4 3 (tm_aload 0 (tm_push (.int 5) (tm_newI 5 (tm_putr 4 4 (tm_aload 0 (tm_push (.int 5) (tm_newI 5 (tm_putr 4 5 (tm_aload 0 (tm_push (.int 5) (tm_newI 5 (tm_putr 4 6 (tm_aload 0 (tm_push (.int 6) (tm_newI 6 (tm_putr 4 7 (tm_aload 0 (tm_push (.int 10) (tm_puti 4 10 (tm_aload 0 (tm_getf 4 0 (tm_push (.int 30) (tm_callS YJ7_fill 2 d (tm_vret K)))))))))))))))))))))))))))))))))))))))))) L S Y h := of_eq_true (eq_self _)
theorem sd_X4_init_0 {X : am_X} {d n1 n2 : Nat} {J : Nat → am_P} {K : List Value → List am_C → am_H → Prop} (F : am_Fx X d RX4 cX4_init 1) (hr : am_Rt X none) (hN : am_Nm X yX4_init.name) (hR : am_Rc X 8 68) (h1 : n1 + 8 ≤ 8) (h2 : n2 + 68 ≤ 68) : ∀ L S Y h, tr_X4_init_0 d J K L S Y h → am_At X (am_MQ X K 8 68) 1 n1 n2 0 L S Y h := a_aload_n F dX4_init_0 rfl (a_objI F ol_X4_3 dX4_init_1 (a_aload_n F dX4_init_4 rfl (a_bipush F dX4_init_5 rfl (a_newI F (by decide) (am_Rcm hR (by omega) (by omega)) dX4_init_7 (a_putr tyX4 F rfl amX4 tyX4_ok nmX4 (by decide) fw_X4_9 (Or.inr ⟨rfl, hN, rfl⟩) (tyX4_ok 0 (by decide)) (fun _ => rfl) (fun _ => rfl) dX4_init_9 (a_aload_n F dX4_init_12 rfl (a_iconst F dX4_init_13 rfl (a_newI F (by decide) (am_Rcm hR (by omega) (by omega)) dX4_init_14 (a_putr tyX4 F rfl amX4 tyX4_ok nmX4 (by decide) fw_X4_15 (Or.inr ⟨rfl, hN, rfl⟩) (tyX4_ok 1 (by decide)) (fun _ => rfl) (fun _ => rfl) dX4_init_16 (a_aload_n F dX4_init_19 rfl (a_iconst F dX4_init_20 rfl (a_newI F (by decide) (am_Rcm hR (by omega) (by omega)) dX4_init_21 (a_putr tyX4 F rfl amX4 tyX4_ok nmX4 (by decide) fw_X4_18 (Or.inr ⟨rfl, hN, rfl⟩) (tyX4_ok 2 (by decide)) (fun _ => rfl) (fun _ => rfl) dX4_init_23 (a_aload_n F dX4_init_26 rfl (a_iconst F dX4_init_27 rfl (a_newI F (by decide) (am_Rcm hR (by omega) (by omega)) dX4_init_28 (a_putr tyX4 F rfl amX4 tyX4_ok nmX4 (by decide) fw_X4_21 (Or.inr ⟨rfl, hN, rfl⟩) (tyX4_ok 3 (by decide)) (fun _ => rfl) (fun _ => rfl) dX4_init_30 (a_aload_n F dX4_init_33 rfl (a_iconst F dX4_init_34 rfl (a_newI F (by decide) (am_Rcm hR (by omega) (by omega)) dX4_init_35 (a_putr tyX4 F rfl amX4 tyX4_ok nmX4 (by decide) fw_X4_24 (Or.inr ⟨rfl, hN, rfl⟩) (tyX4_ok 4 (by decide)) (fun _ => rfl) (fun _ => rfl) dX4_init_37 (a_aload_n F dX4_init_40 rfl (a_iconst F dX4_init_41 rfl (a_newI F (by decide) (am_Rcm hR (by omega) (by omega)) dX4_init_42 (a_putr tyX4 F rfl amX4 tyX4_ok nmX4 (by decide) fw_X4_27 (Or.inr ⟨rfl, hN, rfl⟩) (tyX4_ok 5 (by decide)) (fun _ => rfl) (fun _ => rfl) dX4_init_44 (a_aload_n F dX4_init_47 rfl (a_iconst F dX4_init_48 rfl (a_newI F (by decide) (am_Rcm hR (by omega) (by omega)) dX4_init_49 (a_putr tyX4 F rfl amX4 tyX4_ok nmX4 (by decide) fw_X4_30 (Or.inr ⟨rfl, hN, rfl⟩) (tyX4_ok 6 (by decide)) (fun _ => rfl) (fun _ => rfl) dX4_init_51 (a_aload_n F dX4_init_54 rfl (a_bipush F dX4_init_55 rfl (a_newI F (by decide) (am_Rcm hR (by omega) (by omega)) dX4_init_57 (a_putr tyX4 F rfl amX4 tyX4_ok nmX4 (by decide) fw_X4_33 (Or.inr ⟨rfl, hN, rfl⟩) (tyX4_ok 7 (by decide)) (fun _ => rfl) (fun _ => rfl) dX4_init_59 (a_aload_n F dX4_init_62 rfl (a_bipush F dX4_init_63 rfl (a_puti tyX4 F rfl amX4 tyX4_ok nmX4 (by decide) fw_X4_36 rfl rfl dX4_init_65 (a_aload_n F dX4_init_68 rfl (a_getf F rfl amX4 (by decide) fw_X4_9 dX4_init_69 (a_bipush F dX4_init_72 rfl (a_callS F my_J7_fill ms_J7_fill ml_X4_40 (am_Rcm hR (by omega) (by omega)) dX4_init_74 (am_padk (by omega) (by omega) (a_vret F hr dX4_init_77))))))))))))))))))))))))))))))))))))))))))
theorem en_X4_init {d : Nat} {b : Nat} {Y : List am_C} {h : am_H} {K : List Value → List am_C → am_H → Prop} (body : ∀ X : am_X, am_Fx X d RX4 cX4_init 1 → am_Rt X none → am_Nm X yX4_init.name → am_Rc X 8 68 → tr_X4_init_0 d (fun pc => am_At X (am_MQ X K 8 68) 1 0 0 pc) K [.ref b] [] Y h) : am_Met d 8 68 YX4_init [.ref b] Y h K := am_start (L := [.ref b]) (by decide +kernel) rfl (by simp [am_ents, Value.category]) fun X F hr hR hX => sd_X4_init_0 (n1 := 0) (n2 := 0) F hr (am_Nm_of hX) hR (by decide) (by decide) _ _ _ _ (body X F hr (am_Nm_of hX) hR)
def tr_X3_init_0 (d : Nat) (J : Nat → am_P) (K : List Value → List am_C → am_H → Prop) : am_P := tm_aload 0 (tm_objI d (tm_aload 0 (tm_push (.int 6) (tm_newA2 6 (tm_putr 3 0 (tm_aload 0 (tm_getf 3 0 (tm_push (.int 0) (tm_newO 2 am_fsX2 (tm_dup (tm_push (.int 3) (tm_newI 3 (tm_dup (tm_push (.int 0) (tm_push (.int 3) (tm_iast (tm_dup (tm_push (.int 1) (tm_push (.int 5) (tm_iast (tm_dup (tm_push (.int 2) (tm_push (.int 2) (tm_iast (tm_push (.int 3) (tm_newI 3 (tm_dup (tm_push (.int 0) (tm_push (.int 1) (tm_iast (tm_dup (tm_push (.int 1) (tm_push (.int 2) (tm_iast (tm_dup (tm_push (.int 2) (tm_push (.int 3) (tm_iast (tm_callIg 2 39 YX2_init 2 d (tm_aastS (tm_aload 0 (tm_push (.int 1) (tm_puti 3 1 (tm_vret K))))))))))))))))))))))))))))))))))))))))))))
theorem te_X3_init_0 (d : Nat) (J : Nat → am_P) (K : List Value → List am_C → am_H → Prop) (L S : List Value) (Y : List am_C) (h : am_H) : tr_X3_init_0 d J K L S Y h = (tm_aload 0 (tm_objI d (tm_aload 0 (tm_push (.int 6) (tm_newA2 6 (tm_putr 3 0 (tm_aload 0 (tm_getf 3 0 (tm_push (.int 0) (tm_newO 2 am_fsX2 (tm_dup (tm_push (.int 3) (tm_newI 3 (tm_dup (tm_push (.int 0) (tm_push (.int 3) (tm_iast (tm_dup (tm_push (.int 1) (tm_push (.int 5) (tm_iast (tm_dup (tm_push (.int 2) (tm_push (.int 2) (tm_iast (tm_push (.int 3) (tm_newI 3 (tm_dup (tm_push (.int 0) (tm_push (.int 1) (tm_iast (tm_dup (tm_push (.int 1) (tm_push (.int 2) (tm_iast (tm_dup (tm_push (.int 2) (tm_push (.int 3) (tm_iast (tm_callIg 2 39 YX2_init 2 d (tm_aastS (tm_aload 0 (tm_push (.int 1) (tm_puti 3 1 (tm_vret K))))))))))))))))))))))))))))))))))))))))))))) L S Y h := of_eq_true (eq_self _)
theorem sd_X3_init_0 {X : am_X} {d n1 n2 : Nat} {J : Nat → am_P} {K : List Value → List am_C → am_H → Prop} (F : am_Fx X d RX3 cX3_init 1) (hr : am_Rt X none) (hN : am_Nm X yX3_init.name) (hR : am_Rc X 6 54) (h1 : n1 + 6 ≤ 6) (h2 : n2 + 54 ≤ 54) : ∀ L S Y h, tr_X3_init_0 d J K L S Y h → am_At X (am_MQ X K 6 54) 1 n1 n2 0 L S Y h := a_aload_n F dX3_init_0 rfl (a_objI F ol_X3_3 dX3_init_1 (a_aload_n F dX3_init_4 rfl (a_bipush F dX3_init_5 rfl (a_newA2 F (by decide) kw_X3_9 (am_Rcm hR (by omega) (by omega)) dX3_init_7 (a_putr tyX3 F rfl amX3 tyX3_ok nmX3 (by decide) fw_X3_11 (Or.inr ⟨rfl, hN, rfl⟩) (tyX3_ok 0 (by decide)) (fun _ => rfl) (fun _ => rfl) dX3_init_10 (a_aload_n F dX3_init_13 rfl (a_getf F rfl amX3 (by decide) fw_X3_11 dX3_init_14 (a_iconst F dX3_init_17 rfl (a_newO tyX2 F rfl amX2 tyX2_ok kw_X3_9 ki_X2 kn_X2 am_fsX2_ok (am_Rcm hR (by omega) (by omega)) dX3_init_18 (a_dup F dX3_init_21 (a_iconst F dX3_init_22 rfl (a_newI F (by decide) (am_Rcm hR (by omega) (by omega)) dX3_init_23 (a_dup F dX3_init_25 (a_iconst F dX3_init_26 rfl (a_iconst F dX3_init_27 rfl (a_iast F dX3_init_28 (a_dup F dX3_init_29 (a_iconst F dX3_init_30 rfl (a_iconst F dX3_init_31 rfl (a_iast F dX3_init_32 (a_dup F dX3_init_33 (a_iconst F dX3_init_34 rfl (a_iconst F dX3_init_35 rfl (a_iast F dX3_init_36 (a_iconst F dX3_init_37 rfl (a_newI F (by decide) (am_Rcm hR (by omega) (by omega)) dX3_init_38 (a_dup F dX3_init_40 (a_iconst F dX3_init_41 rfl (a_iconst F dX3_init_42 rfl (a_iast F dX3_init_43 (a_dup F dX3_init_44 (a_iconst F dX3_init_45 rfl (a_iconst F dX3_init_46 rfl (a_iast F dX3_init_47 (a_dup F dX3_init_48 (a_iconst F dX3_init_49 rfl (a_iconst F dX3_init_50 rfl (a_iast F dX3_init_51 (a_callIg (mc := 2) (ms := 39) F my_X2_init rfl ⟨rfl, mi_X2_init⟩ ml_X3_17 (am_Rcm hR (by omega) (by omega)) dX3_init_52 (a_aastS F dX3_init_55 (a_aload_n F dX3_init_56 rfl (a_iconst F dX3_init_57 rfl (a_puti tyX3 F rfl amX3 tyX3_ok nmX3 (by decide) fw_X3_20 rfl rfl dX3_init_58 (am_padk (by omega) (by omega) (a_vret F hr dX3_init_61)))))))))))))))))))))))))))))))))))))))))))))
theorem en_X3_init {d : Nat} {b : Nat} {Y : List am_C} {h : am_H} {K : List Value → List am_C → am_H → Prop} (body : ∀ X : am_X, am_Fx X d RX3 cX3_init 1 → am_Rt X none → am_Nm X yX3_init.name → am_Rc X 6 54 → tr_X3_init_0 d (fun pc => am_At X (am_MQ X K 6 54) 1 0 0 pc) K [.ref b] [] Y h) : am_Met d 6 54 YX3_init [.ref b] Y h K := am_start (L := [.ref b]) (by decide +kernel) rfl (by simp [am_ents, Value.category]) fun X F hr hR hX => sd_X3_init_0 (n1 := 0) (n2 := 0) F hr (am_Nm_of hX) hR (by decide) (by decide) _ _ _ _ (body X F hr (am_Nm_of hX) hR)
def tr_X0_init_0 (d : Nat) (J : Nat → am_P) (K : List Value → List am_C → am_H → Prop) : am_P := tm_aload 0 (tm_objI d (tm_aload 0 (tm_push (.int 160) (tm_newI 160 (tm_putr 0 0 (tm_aload 0 (tm_push (.int 160) (tm_newI 160 (tm_putr 0 1 (tm_aload 0 (tm_push (.int 3) (tm_newI 3 (tm_putr 0 2 (tm_vret K))))))))))))))
theorem te_X0_init_0 (d : Nat) (J : Nat → am_P) (K : List Value → List am_C → am_H → Prop) (L S : List Value) (Y : List am_C) (h : am_H) : tr_X0_init_0 d J K L S Y h = (tm_aload 0 (tm_objI d (tm_aload 0 (tm_push (.int 160) (tm_newI 160 (tm_putr 0 0 (tm_aload 0 (tm_push (.int 160) (tm_newI 160 (tm_putr 0 1 (tm_aload 0 (tm_push (.int 3) (tm_newI 3 (tm_putr 0 2 (tm_vret K))))))))))))))) L S Y h := of_eq_true (eq_self _)
theorem sd_X0_init_0 {X : am_X} {d n1 n2 : Nat} {J : Nat → am_P} {K : List Value → List am_C → am_H → Prop} (F : am_Fx X d RX0 cX0_init 1) (hr : am_Rt X none) (hN : am_Nm X yX0_init.name) (hR : am_Rc X 3 323) (h1 : n1 + 3 ≤ 3) (h2 : n2 + 323 ≤ 323) : ∀ L S Y h, tr_X0_init_0 d J K L S Y h → am_At X (am_MQ X K 3 323) 1 n1 n2 0 L S Y h := a_aload_n F dX0_init_0 rfl (a_objI F ol_X0_3 dX0_init_1 (a_aload_n F dX0_init_4 rfl (a_sipush F dX0_init_5 rfl (a_newI F (by decide) (am_Rcm hR (by omega) (by omega)) dX0_init_8 (a_putr tyX0 F rfl amX0 tyX0_ok nmX0 (by decide) fw_X0_9 (Or.inr ⟨rfl, hN, rfl⟩) (tyX0_ok 0 (by decide)) (fun _ => rfl) (fun _ => rfl) dX0_init_10 (a_aload_n F dX0_init_13 rfl (a_sipush F dX0_init_14 rfl (a_newI F (by decide) (am_Rcm hR (by omega) (by omega)) dX0_init_17 (a_putr tyX0 F rfl amX0 tyX0_ok nmX0 (by decide) fw_X0_15 (Or.inr ⟨rfl, hN, rfl⟩) (tyX0_ok 1 (by decide)) (fun _ => rfl) (fun _ => rfl) dX0_init_19 (a_aload_n F dX0_init_22 rfl (a_iconst F dX0_init_23 rfl (a_newI F (by decide) (am_Rcm hR (by omega) (by omega)) dX0_init_24 (a_putr tyX0 F rfl amX0 tyX0_ok nmX0 (by decide) fw_X0_18 (Or.inr ⟨rfl, hN, rfl⟩) (tyX0_ok 2 (by decide)) (fun _ => rfl) (fun _ => rfl) dX0_init_26 (am_padk (by omega) (by omega) (a_vret F hr dX0_init_29)))))))))))))))
theorem en_X0_init {d : Nat} {b : Nat} {Y : List am_C} {h : am_H} {K : List Value → List am_C → am_H → Prop} (body : ∀ X : am_X, am_Fx X d RX0 cX0_init 1 → am_Rt X none → am_Nm X yX0_init.name → am_Rc X 3 323 → tr_X0_init_0 d (fun pc => am_At X (am_MQ X K 3 323) 1 0 0 pc) K [.ref b] [] Y h) : am_Met d 3 323 YX0_init [.ref b] Y h K := am_start (L := [.ref b]) (by decide +kernel) rfl (by simp [am_ents, Value.category]) fun X F hr hR hX => sd_X0_init_0 (n1 := 0) (n2 := 0) F hr (am_Nm_of hX) hR (by decide) (by decide) _ _ _ _ (body X F hr (am_Nm_of hX) hR)
def tr_X1_init_0 (d : Nat) (J : Nat → am_P) (K : List Value → List am_C → am_H → Prop) : am_P := tm_aload 0 (tm_objI d (tm_aload 0 (tm_push (.int 40) (tm_newI 40 (tm_putr 1 0 (tm_aload 0 (tm_push (.int (-1)) (tm_puti 1 1 (tm_vret K)))))))))
theorem te_X1_init_0 (d : Nat) (J : Nat → am_P) (K : List Value → List am_C → am_H → Prop) (L S : List Value) (Y : List am_C) (h : am_H) : tr_X1_init_0 d J K L S Y h = (tm_aload 0 (tm_objI d (tm_aload 0 (tm_push (.int 40) (tm_newI 40 (tm_putr 1 0 (tm_aload 0 (tm_push (.int (-1)) (tm_puti 1 1 (tm_vret K)))))))))) L S Y h := of_eq_true (eq_self _)
theorem sd_X1_init_0 {X : am_X} {d n1 n2 : Nat} {J : Nat → am_P} {K : List Value → List am_C → am_H → Prop} (F : am_Fx X d RX1 cX1_init 1) (hr : am_Rt X none) (hN : am_Nm X yX1_init.name) (hR : am_Rc X 1 40) (h1 : n1 + 1 ≤ 1) (h2 : n2 + 40 ≤ 40) : ∀ L S Y h, tr_X1_init_0 d J K L S Y h → am_At X (am_MQ X K 1 40) 1 n1 n2 0 L S Y h := a_aload_n F dX1_init_0 rfl (a_objI F ol_X1_3 dX1_init_1 (a_aload_n F dX1_init_4 rfl (a_bipush F dX1_init_5 rfl (a_newI F (by decide) (am_Rcm hR (by omega) (by omega)) dX1_init_7 (a_putr tyX1 F rfl amX1 tyX1_ok nmX1 (by decide) fw_X1_9 (Or.inr ⟨rfl, hN, rfl⟩) (tyX1_ok 0 (by decide)) (fun _ => rfl) (fun _ => rfl) dX1_init_9 (a_aload_n F dX1_init_12 rfl (a_iconst F dX1_init_13 rfl (a_puti tyX1 F rfl amX1 tyX1_ok nmX1 (by decide) fw_X1_15 rfl rfl dX1_init_14 (am_padk (by omega) (by omega) (a_vret F hr dX1_init_17))))))))))
theorem en_X1_init {d : Nat} {b : Nat} {Y : List am_C} {h : am_H} {K : List Value → List am_C → am_H → Prop} (body : ∀ X : am_X, am_Fx X d RX1 cX1_init 1 → am_Rt X none → am_Nm X yX1_init.name → am_Rc X 1 40 → tr_X1_init_0 d (fun pc => am_At X (am_MQ X K 1 40) 1 0 0 pc) K [.ref b] [] Y h) : am_Met d 1 40 YX1_init [.ref b] Y h K := am_start (L := [.ref b]) (by decide +kernel) rfl (by simp [am_ents, Value.category]) fun X F hr hR hX => sd_X1_init_0 (n1 := 0) (n2 := 0) F hr (am_Nm_of hX) hR (by decide) (by decide) _ _ _ _ (body X F hr (am_Nm_of hX) hR)
def tr_X5_init_100 (d : Nat) (J : Nat → am_P) (K : List Value → List am_C → am_H → Prop) : am_P := tm_vret K
theorem te_X5_init_100 (d : Nat) (J : Nat → am_P) (K : List Value → List am_C → am_H → Prop) (L S : List Value) (Y : List am_C) (h : am_H) : tr_X5_init_100 d J K L S Y h = (tm_vret K) L S Y h := of_eq_true (eq_self _)
theorem sd_X5_init_100 {X : am_X} {d n1 n2 : Nat} {J : Nat → am_P} {K : List Value → List am_C → am_H → Prop} (F : am_Fx X d RX5 cX5_init 2) (hr : am_Rt X none) (hN : am_Nm X yX5_init.name) (hR : am_Rc X 50 852) (h1 : n1 + 0 ≤ 50) (h2 : n2 + 0 ≤ 852) : ∀ L S Y h, tr_X5_init_100 d J K L S Y h → am_At X (am_MQ X K 50 852) 2 n1 n2 100 L S Y h := am_padk (by omega) (by omega) (a_vret F hr dX5_init_100)
def tr_X5_init_81 (d : Nat) (J : Nat → am_P) (K : List Value → List am_C → am_H → Prop) : am_P := tm_aload 0 (tm_getf 5 6 (tm_iload 1 (tm_newO 1 am_fsX1 (tm_dup (tm_callIg 1 40 YX1_init 0 d (tm_aastT (tm_iinc 1 1 (J 76))))))))
theorem te_X5_init_81 (d : Nat) (J : Nat → am_P) (K : List Value → List am_C → am_H → Prop) (L S : List Value) (Y : List am_C) (h : am_H) : tr_X5_init_81 d J K L S Y h = (tm_aload 0 (tm_getf 5 6 (tm_iload 1 (tm_newO 1 am_fsX1 (tm_dup (tm_callIg 1 40 YX1_init 0 d (tm_aastT (tm_iinc 1 1 (J 76))))))))) L S Y h := of_eq_true (eq_self _)
theorem sd_X5_init_81 {X : am_X} {d n1 n2 : Nat} {J : Nat → am_P} {K : List Value → List am_C → am_H → Prop} (F : am_Fx X d RX5 cX5_init 2) (hr : am_Rt X none) (hN : am_Nm X yX5_init.name) (hR : am_Rc X 50 852) (h1 : n1 + 2 ≤ 50) (h2 : n2 + 43 ≤ 852) (hJ_76_2_43 : ∀ L S Y h, J 76 L S Y h → am_At X (am_MQ X K 50 852) 2 (n1 + 2) (n2 + 43) 76 L S Y h) : ∀ L S Y h, tr_X5_init_81 d J K L S Y h → am_At X (am_MQ X K 50 852) 2 n1 n2 81 L S Y h := a_aload_n F dX5_init_81 rfl (a_getf F rfl amX5 (by decide) fw_X5_38 dX5_init_82 (a_iload_n F dX5_init_85 rfl (a_newO tyX1 F rfl amX1 tyX1_ok kw_X5_36 ki_X1 kn_X1 am_fsX1_ok (am_Rcm hR (by omega) (by omega)) dX5_init_86 (a_dup F dX5_init_89 (a_callIN (mc := 1) (ms := 40) F my_X1_init rfl ⟨rfl, mi_X1_init⟩ (List.mem_of_getElem? (i := 1) rfl) (am_Rcm hR (by omega) (by omega)) dX5_init_90 (a_aastT F dX5_init_93 (a_iinc F dX5_init_94 rfl (a_goto F dX5_init_97 (by decide) (hJ_76_2_43)))))))))
def tr_X5_init_76 (d : Nat) (J : Nat → am_P) (K : List Value → List am_C → am_H → Prop) : am_P := tm_iload 1 (tm_push (.int 4) (tm_cmp (fun x y => y ≤ x) (tr_X5_init_100 d J K) (tr_X5_init_81 d J K)))
theorem te_X5_init_76 (d : Nat) (J : Nat → am_P) (K : List Value → List am_C → am_H → Prop) (L S : List Value) (Y : List am_C) (h : am_H) : tr_X5_init_76 d J K L S Y h = (tm_iload 1 (tm_push (.int 4) (tm_cmp (fun x y => y ≤ x) (tr_X5_init_100 d J K) (tr_X5_init_81 d J K)))) L S Y h := of_eq_true (eq_self _)
theorem sd_X5_init_76 {X : am_X} {d n1 n2 : Nat} {J : Nat → am_P} {K : List Value → List am_C → am_H → Prop} (F : am_Fx X d RX5 cX5_init 2) (hr : am_Rt X none) (hN : am_Nm X yX5_init.name) (hR : am_Rc X 50 852) (h1 : n1 + 2 ≤ 50) (h2 : n2 + 43 ≤ 852) (hJ_76_2_43 : ∀ L S Y h, J 76 L S Y h → am_At X (am_MQ X K 50 852) 2 (n1 + 2) (n2 + 43) 76 L S Y h) : ∀ L S Y h, tr_X5_init_76 d J K L S Y h → am_At X (am_MQ X K 50 852) 2 n1 n2 76 L S Y h := a_iload_n F dX5_init_76 rfl (a_iconst F dX5_init_77 rfl (a_icmp_ge F dX5_init_78 (by decide) (sd_X5_init_100 F hr hN hR (by omega) (by omega)) (sd_X5_init_81 F hr hN hR (by omega) (by omega) (hJ_76_2_43))))
def tr_X5_init_0 (d : Nat) (J : Nat → am_P) (K : List Value → List am_C → am_H → Prop) : am_P := tm_aload 0 (tm_objI d (tm_aload 0 (tm_newO 4 am_fsX4 (tm_dup (tm_callIg 8 68 YX4_init 0 d (tm_putr 5 0 (tm_aload 0 (tm_newO 4 am_fsX4 (tm_dup (tm_callIg 8 68 YX4_init 0 d (tm_putr 5 1 (tm_aload 0 (tm_newO 4 am_fsX4 (tm_dup (tm_callIg 8 68 YX4_init 0 d (tm_putr 5 2 (tm_aload 0 (tm_newO 3 am_fsX3 (tm_dup (tm_callIg 6 54 YX3_init 0 d (tm_putr 5 4 (tm_aload 0 (tm_newO 0 am_fsX0 (tm_dup (tm_callIg 3 323 YX0_init 0 d (tm_putr 5 5 (tm_aload 0 (tm_push (.int 4) (tm_newA1 4 (tm_putr 5 6 (tm_aload 0 (tm_push (.int 5) (tm_newI 5 (tm_putr 5 7 (tm_push (.int 0) (tm_istore 1 (J 76)))))))))))))))))))))))))))))))))))))
theorem te_X5_init_0 (d : Nat) (J : Nat → am_P) (K : List Value → List am_C → am_H → Prop) (L S : List Value) (Y : List am_C) (h : am_H) : tr_X5_init_0 d J K L S Y h = (tm_aload 0 (tm_objI d (tm_aload 0 (tm_newO 4 am_fsX4 (tm_dup (tm_callIg 8 68 YX4_init 0 d (tm_putr 5 0 (tm_aload 0 (tm_newO 4 am_fsX4 (tm_dup (tm_callIg 8 68 YX4_init 0 d (tm_putr 5 1 (tm_aload 0 (tm_newO 4 am_fsX4 (tm_dup (tm_callIg 8 68 YX4_init 0 d (tm_putr 5 2 (tm_aload 0 (tm_newO 3 am_fsX3 (tm_dup (tm_callIg 6 54 YX3_init 0 d (tm_putr 5 4 (tm_aload 0 (tm_newO 0 am_fsX0 (tm_dup (tm_callIg 3 323 YX0_init 0 d (tm_putr 5 5 (tm_aload 0 (tm_push (.int 4) (tm_newA1 4 (tm_putr 5 6 (tm_aload 0 (tm_push (.int 5) (tm_newI 5 (tm_putr 5 7 (tm_push (.int 0) (tm_istore 1 (J 76)))))))))))))))))))))))))))))))))))))) L S Y h := of_eq_true (eq_self _)
theorem sd_X5_init_0 {X : am_X} {d n1 n2 : Nat} {J : Nat → am_P} {K : List Value → List am_C → am_H → Prop} (F : am_Fx X d RX5 cX5_init 2) (hr : am_Rt X none) (hN : am_Nm X yX5_init.name) (hR : am_Rc X 50 852) (h1 : n1 + 40 ≤ 50) (h2 : n2 + 637 ≤ 852) (hJ_76_40_637 : ∀ L S Y h, J 76 L S Y h → am_At X (am_MQ X K 50 852) 2 (n1 + 40) (n2 + 637) 76 L S Y h) : ∀ L S Y h, tr_X5_init_0 d J K L S Y h → am_At X (am_MQ X K 50 852) 2 n1 n2 0 L S Y h := a_aload_n F dX5_init_0 rfl (a_objI F ol_X5_1 dX5_init_1 (a_aload_n F dX5_init_4 rfl (a_newO tyX4 F rfl amX4 tyX4_ok kw_X5_7 ki_X4 kn_X4 am_fsX4_ok (am_Rcm hR (by omega) (by omega)) dX5_init_5 (a_dup F dX5_init_8 (a_callIg (mc := 8) (ms := 68) F my_X4_init rfl ⟨rfl, mi_X4_init⟩ ml_X5_9 (am_Rcm hR (by omega) (by omega)) dX5_init_9 (a_putr tyX5 F rfl amX5 tyX5_ok nmX5 (by decide) fw_X5_10 (Or.inr ⟨rfl, hN, rfl⟩) (tyX5_ok 0 (by decide)) (fun _ => rfl) (fun _ => rfl) dX5_init_12 (a_aload_n F dX5_init_15 rfl (a_newO tyX4 F rfl amX4 tyX4_ok kw_X5_7 ki_X4 kn_X4 am_fsX4_ok (am_Rcm hR (by omega) (by omega)) dX5_init_16 (a_dup F dX5_init_19 (a_callIg (mc := 8) (ms := 68) F my_X4_init rfl ⟨rfl, mi_X4_init⟩ ml_X5_9 (am_Rcm hR (by omega) (by omega)) dX5_init_20 (a_putr tyX5 F rfl amX5 tyX5_ok nmX5 (by decide) fw_X5_16 (Or.inr ⟨rfl, hN, rfl⟩) (tyX5_ok 1 (by decide)) (fun _ => rfl) (fun _ => rfl) dX5_init_23 (a_aload_n F dX5_init_26 rfl (a_newO tyX4 F rfl amX4 tyX4_ok kw_X5_7 ki_X4 kn_X4 am_fsX4_ok (am_Rcm hR (by omega) (by omega)) dX5_init_27 (a_dup F dX5_init_30 (a_callIg (mc := 8) (ms := 68) F my_X4_init rfl ⟨rfl, mi_X4_init⟩ ml_X5_9 (am_Rcm hR (by omega) (by omega)) dX5_init_31 (a_putr tyX5 F rfl amX5 tyX5_ok nmX5 (by decide) fw_X5_19 (Or.inr ⟨rfl, hN, rfl⟩) (tyX5_ok 2 (by decide)) (fun _ => rfl) (fun _ => rfl) dX5_init_34 (a_aload_n F dX5_init_37 rfl (a_newO tyX3 F rfl amX3 tyX3_ok kw_X5_22 ki_X3 kn_X3 am_fsX3_ok (am_Rcm hR (by omega) (by omega)) dX5_init_38 (a_dup F dX5_init_41 (a_callIg (mc := 6) (ms := 54) F my_X3_init rfl ⟨rfl, mi_X3_init⟩ ml_X5_24 (am_Rcm hR (by omega) (by omega)) dX5_init_42 (a_putr tyX5 F rfl amX5 tyX5_ok nmX5 (by decide) fw_X5_25 (Or.inr ⟨rfl, hN, rfl⟩) (tyX5_ok 4 (by decide)) (fun _ => rfl) (fun _ => rfl) dX5_init_45 (a_aload_n F dX5_init_48 rfl (a_newO tyX0 F rfl amX0 tyX0_ok kw_X5_29 ki_X0 kn_X0 am_fsX0_ok (am_Rcm hR (by omega) (by omega)) dX5_init_49 (a_dup F dX5_init_52 (a_callIN (mc := 3) (ms := 323) F my_X0_init rfl ⟨rfl, mi_X0_init⟩ (List.mem_of_getElem? (i := 0) rfl) (am_Rcm hR (by omega) (by omega)) dX5_init_53 (a_putr tyX5 F rfl amX5 tyX5_ok nmX5 (by decide) fw_X5_32 (Or.inr ⟨rfl, hN, rfl⟩) (tyX5_ok 5 (by decide)) (fun _ => rfl) (fun _ => rfl) dX5_init_56 (a_aload_n F dX5_init_59 rfl (a_iconst F dX5_init_60 rfl (a_newA1 F (by decide) kw_X5_36 (am_Rcm hR (by omega) (by omega)) dX5_init_61 (a_putr tyX5 F rfl amX5 tyX5_ok nmX5 (by decide) fw_X5_38 (Or.inr ⟨rfl, hN, rfl⟩) (tyX5_ok 6 (by decide)) (fun _ => rfl) (fun _ => rfl) dX5_init_64 (a_aload_n F dX5_init_67 rfl (a_iconst F dX5_init_68 rfl (a_newI F (by decide) (am_Rcm hR (by omega) (by omega)) dX5_init_69 (a_putr tyX5 F rfl amX5 tyX5_ok nmX5 (by decide) fw_X5_42 (Or.inr ⟨rfl, hN, rfl⟩) (tyX5_ok 7 (by decide)) (fun _ => rfl) (fun _ => rfl) dX5_init_71 (a_iconst F dX5_init_74 rfl (a_istore_n F dX5_init_75 rfl (hJ_76_40_637)))))))))))))))))))))))))))))))))))))
theorem en_X5_init {d : Nat} {b : Nat} {Y : List am_C} {h : am_H} {K : List Value → List am_C → am_H → Prop} (body : ∀ X : am_X, am_Fx X d RX5 cX5_init 2 → am_Rt X none → am_Nm X yX5_init.name → am_Rc X 50 852 → tr_X5_init_0 d (fun pc => am_At X (am_MQ X K 50 852) 2 40 637 pc) K [.ref b, .null] [] Y h) : am_Met d 50 852 YX5_init [.ref b] Y h K := am_start (L := [.ref b, .null]) (by decide +kernel) rfl (by simp [am_ents, Value.category]) fun X F hr hR hX => sd_X5_init_0 (n1 := 0) (n2 := 0) F hr (am_Nm_of hX) hR (by decide) (by decide) (by rw [Nat.zero_add, Nat.zero_add]; exact fun _ _ _ _ q => q) _ _ _ _ (body X F hr (am_Nm_of hX) hR)
def tr_X6_init_175 (d : Nat) (J : Nat → am_P) (K : List Value → List am_C → am_H → Prop) : am_P := tm_aload 0 (tm_push (.int 0) (tm_push (.int 112) (tm_push (.int 97) (tm_push (.int 99) (tm_push (.int 101) (tm_push (.int 115) (tm_push (.int 32) (tm_push (.int 51) (tm_push (.int 32) (tm_callV 6 YX6_spell 9 d (tm_aload 0 (tm_push (.int 8) (tm_push (.int 59) (tm_push (.int 32) (tm_push (.int 116) (tm_push (.int 114) (tm_push (.int 101) (tm_push (.int 97) (tm_push (.int 100) (tm_push (.int 115) (tm_callV 6 YX6_spell 9 d (tm_aload 0 (tm_push (.int 16) (tm_push (.int 32) (tm_push (.int 53) (tm_push (.int 32) (tm_push (.int 59) (tm_push (.int 32) (tm_push (.int 100) (tm_push (.int 111) (tm_push (.int 117) (tm_callV 6 YX6_spell 9 d (tm_aload 0 (tm_push (.int 24) (tm_push (.int 98) (tm_push (.int 116) (tm_push (.int 115) (tm_push (.int 32) (tm_push (.int 50) (tm_push (.int 32) (tm_push (.int 59) (tm_push (.int 32) (tm_callV 6 YX6_spell 9 d (tm_aload 0 (tm_getf 6 2 (tm_push (.int 0) (tm_push (.int 32) (tm_iast (tm_aload 0 (tm_push (.int 0) (tm_callV 6 YX6_read 1 d (tm_aload 0 (tm_push (.int 1) (tm_puti 6 3 (tm_vret K)))))))))))))))))))))))))))))))))))))))))))))))))))))))
theorem te_X6_init_175 (d : Nat) (J : Nat → am_P) (K : List Value → List am_C → am_H → Prop) (L S : List Value) (Y : List am_C) (h : am_H) : tr_X6_init_175 d J K L S Y h = (tm_aload 0 (tm_push (.int 0) (tm_push (.int 112) (tm_push (.int 97) (tm_push (.int 99) (tm_push (.int 101) (tm_push (.int 115) (tm_push (.int 32) (tm_push (.int 51) (tm_push (.int 32) (tm_callV 6 YX6_spell 9 d (tm_aload 0 (tm_push (.int 8) (tm_push (.int 59) (tm_push (.int 32) (tm_push (.int 116) (tm_push (.int 114) (tm_push (.int 101) (tm_push (.int 97) (tm_push (.int 100) (tm_push (.int 115) (tm_callV 6 YX6_spell 9 d (tm_aload 0 (tm_push (.int 16) (tm_push (.int 32) (tm_push (.int 53) (tm_push (.int 32) (tm_push (.int 59) (tm_push (.int 32) (tm_push (.int 100) (tm_push (.int 111) (tm_push (.int 117) (tm_callV 6 YX6_spell 9 d (tm_aload 0 (tm_push (.int 24) (tm_push (.int 98) (tm_push (.int 116) (tm_push (.int 115) (tm_push (.int 32) (tm_push (.int 50) (tm_push (.int 32) (tm_push (.int 59) (tm_push (.int 32) (tm_callV 6 YX6_spell 9 d (tm_aload 0 (tm_getf 6 2 (tm_push (.int 0) (tm_push (.int 32) (tm_iast (tm_aload 0 (tm_push (.int 0) (tm_callV 6 YX6_read 1 d (tm_aload 0 (tm_push (.int 1) (tm_puti 6 3 (tm_vret K)))))))))))))))))))))))))))))))))))))))))))))))))))))))) L S Y h := of_eq_true (eq_self _)
theorem sd_X6_init_175 {X : am_X} {d n1 n2 : Nat} {J : Nat → am_P} {K : List Value → List am_C → am_H → Prop} (F : am_Fx X d RX6 cX6_init 2) (hr : am_Rt X none) (hN : am_Nm X yX6_init.name) (hR : am_Rc X 17 3589) (h1 : n1 + 0 ≤ 17) (h2 : n2 + 0 ≤ 3589) : ∀ L S Y h, tr_X6_init_175 d J K L S Y h → am_At X (am_MQ X K 17 3589) 2 n1 n2 175 L S Y h := a_aload_n F dX6_init_175 rfl (a_iconst F dX6_init_176 rfl (a_bipush F dX6_init_177 rfl (a_bipush F dX6_init_179 rfl (a_bipush F dX6_init_181 rfl (a_bipush F dX6_init_183 rfl (a_bipush F dX6_init_185 rfl (a_bipush F dX6_init_187 rfl (a_bipush F dX6_init_189 rfl (a_bipush F dX6_init_191 rfl (a_callV F my_X6_spell mi_X6_spell ml_X6_72 rfl (am_Rcm hR (by omega) (by omega)) dX6_init_193 (a_aload_n F dX6_init_196 rfl (a_bipush F dX6_init_197 rfl (a_bipush F dX6_init_199 rfl (a_bipush F dX6_init_201 rfl (a_bipush F dX6_init_203 rfl (a_bipush F dX6_init_205 rfl (a_bipush F dX6_init_207 rfl (a_bipush F dX6_init_209 rfl (a_bipush F dX6_init_211 rfl (a_bipush F dX6_init_213 rfl (a_callV F my_X6_spell mi_X6_spell ml_X6_72 rfl (am_Rcm hR (by omega) (by omega)) dX6_init_215 (a_aload_n F dX6_init_218 rfl (a_bipush F dX6_init_219 rfl (a_bipush F dX6_init_221 rfl (a_bipush F dX6_init_223 rfl (a_bipush F dX6_init_225 rfl (a_bipush F dX6_init_227 rfl (a_bipush F dX6_init_229 rfl (a_bipush F dX6_init_231 rfl (a_bipush F dX6_init_233 rfl (a_bipush F dX6_init_235 rfl (a_callV F my_X6_spell mi_X6_spell ml_X6_72 rfl (am_Rcm hR (by omega) (by omega)) dX6_init_237 (a_aload_n F dX6_init_240 rfl (a_bipush F dX6_init_241 rfl (a_bipush F dX6_init_243 rfl (a_bipush F dX6_init_245 rfl (a_bipush F dX6_init_247 rfl (a_bipush F dX6_init_249 rfl (a_bipush F dX6_init_251 rfl (a_bipush F dX6_init_253 rfl (a_bipush F dX6_init_255 rfl (a_bipush F dX6_init_257 rfl (a_callV F my_X6_spell mi_X6_spell ml_X6_72 rfl (am_Rcm hR (by omega) (by omega)) dX6_init_259 (a_aload_n F dX6_init_262 rfl (a_getf F rfl amX6 (by decide) fw_X6_17 dX6_init_263 (a_iconst F dX6_init_266 rfl (a_bipush F dX6_init_267 rfl (a_iast F dX6_init_269 (a_aload_n F dX6_init_270 rfl (a_iconst F dX6_init_271 rfl (a_callV F my_X6_read mi_X6_read ml_X6_76 rfl (am_Rcm hR (by omega) (by omega)) dX6_init_272 (a_aload_n F dX6_init_275 rfl (a_iconst F dX6_init_276 rfl (a_puti tyX6 F rfl amX6 tyX6_ok nmX6 (by decide) fw_X6_80 rfl rfl dX6_init_277 (am_padk (by omega) (by omega) (a_vret F hr dX6_init_280))))))))))))))))))))))))))))))))))))))))))))))))))))))))
def tr_X6_init_161 (d : Nat) (J : Nat → am_P) (K : List Value → List am_C → am_H → Prop) : am_P := tm_aload 0 (tm_getf 6 13 (tm_iload 1 (tm_push (.int 30) (tm_iast (tm_iinc 1 1 (J 155))))))
theorem te_X6_init_161 (d : Nat) (J : Nat → am_P) (K : List Value → List am_C → am_H → Prop) (L S : List Value) (Y : List am_C) (h : am_H) : tr_X6_init_161 d J K L S Y h = (tm_aload 0 (tm_getf 6 13 (tm_iload 1 (tm_push (.int 30) (tm_iast (tm_iinc 1 1 (J 155))))))) L S Y h := of_eq_true (eq_self _)
theorem sd_X6_init_161 {X : am_X} {d n1 n2 : Nat} {J : Nat → am_P} {K : List Value → List am_C → am_H → Prop} (F : am_Fx X d RX6 cX6_init 2) (hr : am_Rt X none) (hN : am_Nm X yX6_init.name) (hR : am_Rc X 17 3589) (h1 : n1 + 0 ≤ 17) (h2 : n2 + 0 ≤ 3589) (hJ_155_0_0 : ∀ L S Y h, J 155 L S Y h → am_At X (am_MQ X K 17 3589) 2 (n1 + 0) (n2 + 0) 155 L S Y h) : ∀ L S Y h, tr_X6_init_161 d J K L S Y h → am_At X (am_MQ X K 17 3589) 2 n1 n2 161 L S Y h := a_aload_n F dX6_init_161 rfl (a_getf F rfl amX6 (by decide) fw_X6_35 dX6_init_162 (a_iload_n F dX6_init_165 rfl (a_bipush F dX6_init_166 rfl (a_iast F dX6_init_168 (a_iinc F dX6_init_169 rfl (a_goto F dX6_init_172 (by decide) (hJ_155_0_0)))))))
def tr_X6_init_155 (d : Nat) (J : Nat → am_P) (K : List Value → List am_C → am_H → Prop) : am_P := tm_iload 1 (tm_push (.int 32) (tm_cmp (fun x y => y ≤ x) (tr_X6_init_175 d J K) (tr_X6_init_161 d J K)))
theorem te_X6_init_155 (d : Nat) (J : Nat → am_P) (K : List Value → List am_C → am_H → Prop) (L S : List Value) (Y : List am_C) (h : am_H) : tr_X6_init_155 d J K L S Y h = (tm_iload 1 (tm_push (.int 32) (tm_cmp (fun x y => y ≤ x) (tr_X6_init_175 d J K) (tr_X6_init_161 d J K)))) L S Y h := of_eq_true (eq_self _)
theorem sd_X6_init_155 {X : am_X} {d n1 n2 : Nat} {J : Nat → am_P} {K : List Value → List am_C → am_H → Prop} (F : am_Fx X d RX6 cX6_init 2) (hr : am_Rt X none) (hN : am_Nm X yX6_init.name) (hR : am_Rc X 17 3589) (h1 : n1 + 0 ≤ 17) (h2 : n2 + 0 ≤ 3589) (hJ_155_0_0 : ∀ L S Y h, J 155 L S Y h → am_At X (am_MQ X K 17 3589) 2 (n1 + 0) (n2 + 0) 155 L S Y h) : ∀ L S Y h, tr_X6_init_155 d J K L S Y h → am_At X (am_MQ X K 17 3589) 2 n1 n2 155 L S Y h := a_iload_n F dX6_init_155 rfl (a_bipush F dX6_init_156 rfl (a_icmp_ge F dX6_init_158 (by decide) (sd_X6_init_175 F hr hN hR (by omega) (by omega)) (sd_X6_init_161 F hr hN hR (by omega) (by omega) (hJ_155_0_0))))
def tr_X6_init_0 (d : Nat) (J : Nat → am_P) (K : List Value → List am_C → am_H → Prop) : am_P := tm_aload 0 (tm_objI d (tm_aload 0 (tm_push (.int 960) (tm_newI 960 (tm_putr 6 1 (tm_aload 0 (tm_push (.int 6) (tm_newI 6 (tm_putr 6 2 (tm_aload 0 (tm_push (.int 960) (tm_newI 960 (tm_putr 6 5 (tm_aload 0 (tm_push (.int 960) (tm_newI 960 (tm_putr 6 6 (tm_aload 0 (tm_push (.int 18) (tm_newI 18 (tm_putr 6 7 (tm_aload 0 (tm_push (.int 160) (tm_newI 160 (tm_putr 6 9 (tm_aload 0 (tm_push (.int 10) (tm_puti 6 12 (tm_aload 0 (tm_push (.int 32) (tm_newI 32 (tm_putr 6 13 (tm_aload 0 (tm_push (.int 30) (tm_newI 30 (tm_putr 6 14 (tm_aload 0 (tm_push (.int 160) (tm_newI 160 (tm_putr 6 31 (tm_aload 0 (tm_push (.int 64) (tm_newI 64 (tm_putr 6 32 (tm_aload 0 (tm_push (.int 5) (tm_newI 5 (tm_putr 6 33 (tm_aload 0 (tm_push (.int 30) (tm_newI 30 (tm_putr 6 36 (tm_aload 0 (tm_push (.int 32) (tm_newI 32 (tm_putr 6 37 (tm_aload 0 (tm_push (.int (-1)) (tm_puti 6 38 (tm_aload 0 (tm_push (.int 4) (tm_newZ 4 (tm_putr 6 42 (tm_aload 0 (tm_push (.int 4) (tm_newI 4 (tm_putr 6 43 (tm_aload 0 (tm_push (.int 4) (tm_newI 4 (tm_putr 6 44 (tm_aload 0 (tm_push (.int 160) (tm_newI 160 (tm_putr 6 45 (tm_push (.int 0) (tm_istore 1 (J 155))))))))))))))))))))))))))))))))))))))))))))))))))))))))))))))))))))))))))))))
theorem te_X6_init_0 (d : Nat) (J : Nat → am_P) (K : List Value → List am_C → am_H → Prop) (L S : List Value) (Y : List am_C) (h : am_H) : tr_X6_init_0 d J K L S Y h = (tm_aload 0 (tm_objI d (tm_aload 0 (tm_push (.int 960) (tm_newI 960 (tm_putr 6 1 (tm_aload 0 (tm_push (.int 6) (tm_newI 6 (tm_putr 6 2 (tm_aload 0 (tm_push (.int 960) (tm_newI 960 (tm_putr 6 5 (tm_aload 0 (tm_push (.int 960) (tm_newI 960 (tm_putr 6 6 (tm_aload 0 (tm_push (.int 18) (tm_newI 18 (tm_putr 6 7 (tm_aload 0 (tm_push (.int 160) (tm_newI 160 (tm_putr 6 9 (tm_aload 0 (tm_push (.int 10) (tm_puti 6 12 (tm_aload 0 (tm_push (.int 32) (tm_newI 32 (tm_putr 6 13 (tm_aload 0 (tm_push (.int 30) (tm_newI 30 (tm_putr 6 14 (tm_aload 0 (tm_push (.int 160) (tm_newI 160 (tm_putr 6 31 (tm_aload 0 (tm_push (.int 64) (tm_newI 64 (tm_putr 6 32 (tm_aload 0 (tm_push (.int 5) (tm_newI 5 (tm_putr 6 33 (tm_aload 0 (tm_push (.int 30) (tm_newI 30 (tm_putr 6 36 (tm_aload 0 (tm_push (.int 32) (tm_newI 32 (tm_putr 6 37 (tm_aload 0 (tm_push (.int (-1)) (tm_puti 6 38 (tm_aload 0 (tm_push (.int 4) (tm_newZ 4 (tm_putr 6 42 (tm_aload 0 (tm_push (.int 4) (tm_newI 4 (tm_putr 6 43 (tm_aload 0 (tm_push (.int 4) (tm_newI 4 (tm_putr 6 44 (tm_aload 0 (tm_push (.int 160) (tm_newI 160 (tm_putr 6 45 (tm_push (.int 0) (tm_istore 1 (J 155))))))))))))))))))))))))))))))))))))))))))))))))))))))))))))))))))))))))))))))) L S Y h := of_eq_true (eq_self _)
theorem sd_X6_init_0 {X : am_X} {d n1 n2 : Nat} {J : Nat → am_P} {K : List Value → List am_C → am_H → Prop} (F : am_Fx X d RX6 cX6_init 2) (hr : am_Rt X none) (hN : am_Nm X yX6_init.name) (hR : am_Rc X 17 3589) (h1 : n1 + 17 ≤ 17) (h2 : n2 + 3589 ≤ 3589) (hJ_155_17_3589 : ∀ L S Y h, J 155 L S Y h → am_At X (am_MQ X K 17 3589) 2 (n1 + 17) (n2 + 3589) 155 L S Y h) : ∀ L S Y h, tr_X6_init_0 d J K L S Y h → am_At X (am_MQ X K 17 3589) 2 n1 n2 0 L S Y h := a_aload_n F dX6_init_0 rfl (a_objI F ol_X6_7 dX6_init_1 (a_aload_n F dX6_init_4 rfl (a_sipush F dX6_init_5 rfl (a_newI F (by decide) (am_Rcm hR (by omega) (by omega)) dX6_init_8 (a_putr tyX6 F rfl amX6 tyX6_ok nmX6 (by decide) fw_X6_13 (Or.inr ⟨rfl, hN, rfl⟩) (tyX6_ok 1 (by decide)) (fun _ => rfl) (fun _ => rfl) dX6_init_10 (a_aload_n F dX6_init_13 rfl (a_bipush F dX6_init_14 rfl (a_newI F (by decide) (am_Rcm hR (by omega) (by omega)) dX6_init_16 (a_putr tyX6 F rfl amX6 tyX6_ok nmX6 (by decide) fw_X6_17 (Or.inr ⟨rfl, hN, rfl⟩) (tyX6_ok 2 (by decide)) (fun _ => rfl) (fun _ => rfl) dX6_init_18 (a_aload_n F dX6_init_21 rfl (a_sipush F dX6_init_22 rfl (a_newI F (by decide) (am_Rcm hR (by omega) (by omega)) dX6_init_25 (a_putr tyX6 F rfl amX6 tyX6_ok nmX6 (by decide) fw_X6_20 (Or.inr ⟨rfl, hN, rfl⟩) (tyX6_ok 5 (by decide)) (fun _ => rfl) (fun _ => rfl) dX6_init_27 (a_aload_n F dX6_init_30 rfl (a_sipush F dX6_init_31 rfl (a_newI F (by decide) (am_Rcm hR (by omega) (by omega)) dX6_init_34 (a_putr tyX6 F rfl amX6 tyX6_ok nmX6 (by decide) fw_X6_23 (Or.inr ⟨rfl, hN, rfl⟩) (tyX6_ok 6 (by decide)) (fun _ => rfl) (fun _ => rfl) dX6_init_36 (a_aload_n F dX6_init_39 rfl (a_bipush F dX6_init_40 rfl (a_newI F (by decide) (am_Rcm hR (by omega) (by omega)) dX6_init_42 (a_putr tyX6 F rfl amX6 tyX6_ok nmX6 (by decide) fw_X6_26 (Or.inr ⟨rfl, hN, rfl⟩) (tyX6_ok 7 (by decide)) (fun _ => rfl) (fun _ => rfl) dX6_init_44 (a_aload_n F dX6_init_47 rfl (a_sipush F dX6_init_48 rfl (a_newI F (by decide) (am_Rcm hR (by omega) (by omega)) dX6_init_51 (a_putr tyX6 F rfl amX6 tyX6_ok nmX6 (by decide) fw_X6_29 (Or.inr ⟨rfl, hN, rfl⟩) (tyX6_ok 9 (by decide)) (fun _ => rfl) (fun _ => rfl) dX6_init_53 (a_aload_n F dX6_init_56 rfl (a_bipush F dX6_init_57 rfl (a_puti tyX6 F rfl amX6 tyX6_ok nmX6 (by decide) fw_X6_32 rfl rfl dX6_init_59 (a_aload_n F dX6_init_62 rfl (a_bipush F dX6_init_63 rfl (a_newI F (by decide) (am_Rcm hR (by omega) (by omega)) dX6_init_65 (a_putr tyX6 F rfl amX6 tyX6_ok nmX6 (by decide) fw_X6_35 (Or.inr ⟨rfl, hN, rfl⟩) (tyX6_ok 13 (by decide)) (fun _ => rfl) (fun _ => rfl) dX6_init_67 (a_aload_n F dX6_init_70 rfl (a_bipush F dX6_init_71 rfl (a_newI F (by decide) (am_Rcm hR (by omega) (by omega)) dX6_init_73 (a_putr tyX6 F rfl amX6 tyX6_ok nmX6 (by decide) fw_X6_38 (Or.inr ⟨rfl, hN, rfl⟩) (tyX6_ok 14 (by decide)) (fun _ => rfl) (fun _ => rfl) dX6_init_75 (a_aload_n F dX6_init_78 rfl (a_sipush F dX6_init_79 rfl (a_newI F (by decide) (am_Rcm hR (by omega) (by omega)) dX6_init_82 (a_putr tyX6 F rfl amX6 tyX6_ok nmX6 (by decide) fw_X6_41 (Or.inr ⟨rfl, hN, rfl⟩) (tyX6_ok 31 (by decide)) (fun _ => rfl) (fun _ => rfl) dX6_init_84 (a_aload_n F dX6_init_87 rfl (a_bipush F dX6_init_88 rfl (a_newI F (by decide) (am_Rcm hR (by omega) (by omega)) dX6_init_90 (a_putr tyX6 F rfl amX6 tyX6_ok nmX6 (by decide) fw_X6_44 (Or.inr ⟨rfl, hN, rfl⟩) (tyX6_ok 32 (by decide)) (fun _ => rfl) (fun _ => rfl) dX6_init_92 (a_aload_n F dX6_init_95 rfl (a_iconst F dX6_init_96 rfl (a_newI F (by decide) (am_Rcm hR (by omega) (by omega)) dX6_init_97 (a_putr tyX6 F rfl amX6 tyX6_ok nmX6 (by decide) fw_X6_47 (Or.inr ⟨rfl, hN, rfl⟩) (tyX6_ok 33 (by decide)) (fun _ => rfl) (fun _ => rfl) dX6_init_99 (a_aload_n F dX6_init_102 rfl (a_bipush F dX6_init_103 rfl (a_newI F (by decide) (am_Rcm hR (by omega) (by omega)) dX6_init_105 (a_putr tyX6 F rfl amX6 tyX6_ok nmX6 (by decide) fw_X6_50 (Or.inr ⟨rfl, hN, rfl⟩) (tyX6_ok 36 (by decide)) (fun _ => rfl) (fun _ => rfl) dX6_init_107 (a_aload_n F dX6_init_110 rfl (a_bipush F dX6_init_111 rfl (a_newI F (by decide) (am_Rcm hR (by omega) (by omega)) dX6_init_113 (a_putr tyX6 F rfl amX6 tyX6_ok nmX6 (by decide) fw_X6_53 (Or.inr ⟨rfl, hN, rfl⟩) (tyX6_ok 37 (by decide)) (fun _ => rfl) (fun _ => rfl) dX6_init_115 (a_aload_n F dX6_init_118 rfl (a_iconst F dX6_init_119 rfl (a_puti tyX6 F rfl amX6 tyX6_ok nmX6 (by decide) fw_X6_56 rfl rfl dX6_init_120 (a_aload_n F dX6_init_123 rfl (a_iconst F dX6_init_124 rfl (a_newZ F (by decide) (am_Rcm hR (by omega) (by omega)) dX6_init_125 (a_putr tyX6 F rfl amX6 tyX6_ok nmX6 (by decide) fw_X6_59 (Or.inr ⟨rfl, hN, rfl⟩) (tyX6_ok 42 (by decide)) (fun _ => rfl) (fun _ => rfl) dX6_init_127 (a_aload_n F dX6_init_130 rfl (a_iconst F dX6_init_131 rfl (a_newI F (by decide) (am_Rcm hR (by omega) (by omega)) dX6_init_132 (a_putr tyX6 F rfl amX6 tyX6_ok nmX6 (by decide) fw_X6_63 (Or.inr ⟨rfl, hN, rfl⟩) (tyX6_ok 43 (by decide)) (fun _ => rfl) (fun _ => rfl) dX6_init_134 (a_aload_n F dX6_init_137 rfl (a_iconst F dX6_init_138 rfl (a_newI F (by decide) (am_Rcm hR (by omega) (by omega)) dX6_init_139 (a_putr tyX6 F rfl amX6 tyX6_ok nmX6 (by decide) fw_X6_66 (Or.inr ⟨rfl, hN, rfl⟩) (tyX6_ok 44 (by decide)) (fun _ => rfl) (fun _ => rfl) dX6_init_141 (a_aload_n F dX6_init_144 rfl (a_sipush F dX6_init_145 rfl (a_newI F (by decide) (am_Rcm hR (by omega) (by omega)) dX6_init_148 (a_putr tyX6 F rfl amX6 tyX6_ok nmX6 (by decide) fw_X6_69 (Or.inr ⟨rfl, hN, rfl⟩) (tyX6_ok 45 (by decide)) (fun _ => rfl) (fun _ => rfl) dX6_init_150 (a_iconst F dX6_init_153 rfl (a_istore_n F dX6_init_154 rfl (hJ_155_17_3589))))))))))))))))))))))))))))))))))))))))))))))))))))))))))))))))))))))))))))))
theorem en_X6_init {d : Nat} {b : Nat} {Y : List am_C} {h : am_H} {K : List Value → List am_C → am_H → Prop} (body : ∀ X : am_X, am_Fx X d RX6 cX6_init 2 → am_Rt X none → am_Nm X yX6_init.name → am_Rc X 17 3589 → tr_X6_init_0 d (fun pc => am_At X (am_MQ X K 17 3589) 2 17 3589 pc) K [.ref b, .null] [] Y h) : am_Met d 17 3589 YX6_init [.ref b] Y h K := am_start (L := [.ref b, .null]) (by decide +kernel) rfl (by simp [am_ents, Value.category]) fun X F hr hR hX => sd_X6_init_0 (n1 := 0) (n2 := 0) F hr (am_Nm_of hX) hR (by decide) (by decide) (by rw [Nat.zero_add, Nat.zero_add]; exact fun _ _ _ _ q => q) _ _ _ _ (body X F hr (am_Nm_of hX) hR)
