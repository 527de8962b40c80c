/-! NEW CELLS: they are numbered on; rows for new, newarray, fields and components that are references, calls that make cells -/
def am_zr (h : am_H) (i : Nat) : am_H := fun a k => if a = i then 0 else h a k
theorem am_zr_ne {h : am_H} {i : Nat} : ∀ a, a ≠ i → am_zr h i a = h a := fun a q => by funext k; simp [am_zr, q]
theorem am_zr_at {h : am_H} {i k : Nat} : am_zr h i i k = 0 := by simp [am_zr]
theorem am_w_push {G : am_G} {o : Nat} {h h' : am_H} {Y : List am_C} {c : am_C} (hh : ∀ j, j < Y.length → h' j = h j) : am_w G o h' (Y ++ [c]) = am_w G o h Y ++ [(o + Y.length, am_e G o (h' Y.length) c)] := by
  apply List.ext_getElem?
  intro j
  rw [am_w_get]
  rcases Nat.lt_or_ge j Y.length with q | q
  · rw [List.getElem?_append_left q, List.getElem?_append_left (by rw [am_w_len]; exact q), am_w_get, hh j q]
  · rw [List.getElem?_append_right q, List.getElem?_append_right (by rw [am_w_len]; exact q), am_w_len]
    by_cases z : j = Y.length
    · subst z
      simp
    · have : ∃ m, j - Y.length = m + 1 := ⟨j - Y.length - 1, by omega⟩
      obtain ⟨m, hm⟩ := this
      rw [hm]
      rfl
section PAD
variable {p : Program} {l : Launch} {e : Env} {R : Room} {s : State} {m : MethodId} {args : Array Value} {below : List Frame} {meth : Method} {c : Code} {H : Heap} {locs : List Loc} {Q : State → Prop}
theorem am_Wpad {c1 c2 s1 s2 : Nat} {g : JFrame} (hc : c1 ≤ c2) (hs : s1 ≤ s2) (k : W p l e R s m args below meth c H locs c2 s2 Q g) : W p l e R s m args below meth c H locs c1 s1 Q g := fun T hT X => k T hT ⟨X.admits, X.cas, X.clock, X.frames, X.room, X.hears, X.method, X.code, X.here, X.tail, X.warmed, X.limits, X.bytes, by
  obtain ⟨a1, a2, a3, a4, a5, a6⟩ := X.same
  exact ⟨a1, a2, by omega, a4, by omega, a6⟩⟩
end PAD
theorem am_pad {X : am_X} {Q : State → Prop} {nL n1 n2 m1 m2 pc : Nat} {L S : List Value} {Y : List am_C} {h : am_H} (h1 : n1 ≤ m1) (h2 : n2 ≤ m2) (k : am_At X Q nL m1 m2 pc L S Y h) : am_At X Q nL n1 n2 pc L S Y h := by
  obtain ⟨p, l, e, R, s, m, args, below, meth, c, G, o⟩ := X
  exact fun H locs ls hz hP hS hl => am_Wpad h1 h2 (k H locs ls hz hP hS hl)
def am_Nm : am_X → String → Prop
  | (_, _, _, _, _, _, _, _, meth, _, _, _), n => meth.name = n
theorem am_Nm_of {X : am_X} {n : String} (hX : ∀ p l e R s m a b me c G o, X = (p, l, e, R, s, m, a, b, me, c, G, o) → me.name = n) : am_Nm X n := by
  obtain ⟨p, l, e, R, s, m, args, below, meth, c, G, o⟩ := X
  exact hX p l e R s m args below meth c G o rfl
def tm_newI (N : Nat) (Q : am_P) : am_P := fun L S Y h => am_pi S fun n S1 => ¬ n < 0 ∧ n.toNatClampNeg ≤ N ∧ Q L (.ref Y.length :: S1) (Y ++ [(0, n.toNatClampNeg, [])]) (am_zr h Y.length)
def tm_newO (ci : Nat) (fs : List Value) (Q : am_P) : am_P := fun L S Y h => Q L (.ref Y.length :: S) (Y ++ [(2, ci, fs)]) (am_zr h Y.length)
def tm_putr (ci k : Nat) (Q : am_P) : am_P := fun L S Y h => am_pr S fun r S1 => am_pr S1 fun i S2 => am_yo Y[i]? ci fun fs => k < fs.length ∧ Q L S2 (Y.set i (2, ci, fs.set k (.ref r))) h
def am_aset (fs : List Value) (j v : Nat) : List Value := (fs ++ List.replicate (j + 1 - fs.length) Value.null).set j (.ref v)
theorem am_aset_at {fs : List Value} {j v : Nat} : (am_aset fs j v)[j]? = some (.ref v) := by
  unfold am_aset
  rw [List.getElem?_set, if_pos rfl, if_pos (by rw [List.length_append, List.length_replicate]; omega)]
theorem am_aset_ne {fs : List Value} {j v k : Nat} (hk : k ≠ j) : am_ro 0 (am_aset fs j v)[k]? = am_ro 0 fs[k]? ∧ (k < fs.length → (am_aset fs j v)[k]? = fs[k]?) := by
  unfold am_aset
  rw [List.getElem?_set, if_neg (Ne.symm hk)]
  rcases Nat.lt_or_ge k fs.length with q | q
  · rw [List.getElem?_append_left q]
    exact ⟨rfl, fun _ => rfl⟩
  · rw [List.getElem?_append_right q, List.getElem?_eq_none q, List.getElem?_replicate]
    refine ⟨?_, fun z => absurd z (by omega)⟩
    split <;> rfl
theorem am_ro_shift {o : Nat} {a b : Option Value} (h : am_ro 0 a = am_ro 0 b) : am_ro o a = am_ro o b := by
  have key : ∀ x : Option Value, am_ro o x = (am_ro 0 x).map (fun i => o + i) := by
    intro x
    cases x with
    | none => rfl
    | some v => cases v <;> simp [am_ro]
  rw [key a, key b, h]
theorem am_aset_rs {o j v : Nat} {fs : List Value} : am_rs o (am_aset fs j v) = va_up (am_rs o fs) j (some (o + v)) := by
  funext k
  show am_ro o (am_aset fs j v)[k]? = va_up (am_rs o fs) j (some (o + v)) k
  unfold va_up
  by_cases q : k = j
  · rw [if_pos q, q, am_aset_at]
    rfl
  · rw [if_neg q]
    exact am_ro_shift (am_aset_ne q).1
def tm_aastS (Q : am_P) : am_P := fun L S Y h => am_pr S fun v S1 => am_pi S1 fun j S2 => am_pr S2 fun i S3 => am_ya Y[i]? 4 fun n fs => vp_in j n ∧ am_yo Y[v]? 2 fun _ => Q L S3 (Y.set i (4, n, am_aset fs j.toNatClampNeg v)) h
def tm_callVg (mc ms ci : Nat) (y : am_Y) (n d : Nat) (Q : am_P) : am_P := fun L S Y h => am_pr (S.drop n) fun i S1 => am_yo Y[i]? ci fun _ => 1 ≤ d ∧ am_cs S1 ≤ 8 ∧ n ≤ S.length ∧ am_Met (d - 1) mc ms y (.ref i :: (S.take n).reverse) Y h fun r Y1 h1 => Q L (r.take 1 ++ S1) Y1 h1
def tm_callIg (mc ms : Nat) (y : am_Y) (n d : Nat) (Q : am_P) : am_P := fun L S Y h => am_pr (S.drop n) fun i S1 => 1 ≤ d ∧ am_cs S1 ≤ 8 ∧ n ≤ S.length ∧ am_Met (d - 1) mc ms y (.ref i :: (S.take n).reverse) Y h fun r Y1 h1 => Q L (r.take 1 ++ S1) Y1 h1
def tm_callSg (mc ms : Nat) (y : am_Y) (n d : Nat) (Q : am_P) : am_P := fun L S Y h => 1 ≤ d ∧ am_cs (S.drop n) ≤ 8 ∧ n ≤ S.length ∧ am_Met (d - 1) mc ms y (S.take n).reverse Y h fun r Y1 h1 => Q L (r.take 1 ++ S.drop n) Y1 h1
def tm_objI (d : Nat) (Q : am_P) : am_P := fun L S Y h => am_pr S fun _ S1 => 1 ≤ d ∧ am_cs S1 ≤ 8 ∧ Q L S1 Y h
section SND
variable {X : am_X} {d : Nat} {own : String} {cc : ByteArray} {nL : Nat} {Q : State → Prop} {n1 n2 pc mc ms : Nat} {Qn Qt Qf : am_P} {K : List Value → List am_C → am_H → Prop}
theorem am_wa_int : Cond.arrayClass .int ∈ am_ws := am_mem 80 (by decide +kernel) (by decide +kernel)
theorem a_newI {N : Nat} (F : am_Fx X d own cc nL) (hN : N ≤ 1000) (hR : am_Rc X (n1 + 1) (n2 + N)) (hd : decode cc pc = .ok (.newarray .int, 2)) (kk : ∀ L S Y h, Qn L S Y h → am_At X Q nL (n1 + 1) (n2 + N) (pc + 2) L S Y h) : ∀ L S Y h, tm_newI N Qn L S Y h → am_At X Q nL n1 n2 pc L S Y h := by
  obtain ⟨p, l, e, R, s, m, args, below, meth, c, G, o⟩ := X
  obtain ⟨hx, hb, hml, hown, hts, hE, ho, hd1, hd2, hlk⟩ := F
  intro L S Y h hq H locs ls hz hP hS hl
  obtain ⟨n, S1, rfl, hn, hle, hq1⟩ := am_pi_of hq
  have hR2 : n2 + N ≤ R.slots := hR.2
  refine va_newaK (atype := .int) hx hb (hts _ am_wa_int) (g := F0 m pc ls ((Value.int n :: S1).map (am_v G o))) rfl hd rfl hn rfl (by show n.toNatClampNeg * 4 ≤ _; omega) hR.1 (by omega) hz fun H' cA e1 z1 o1 hAr hNm => ?_
  have hcA : cA = G.2.1 0 := Option.some.inj (hNm.symm.trans (hE.1.2 0 (G.2.1 0, .int) rfl).2)
  subst hcA
  have hk : ∀ (k : Nat) (x : Nat × va_E), (am_w G o h Y)[k]? = some x → H'[x.1]? = H[x.1]? := fun k x hx => o1 x.1 (by rw [← hz]; exact (hP k x hx).lt)
  refine am_Wpad (Nat.le_refl _) (show n2 + n.toNatClampNeg ≤ n2 + N by omega) (kk _ _ _ _ hq1 H' locs ls (by rw [z1, List.length_append]; rfl) ?_ ⟨Nat.le_trans hS.1 (by omega), fun q g1 g2 => (o1 q (by have := hS.1; omega)).trans (hS.2.1 q g1 g2), hS.2.2⟩ hl)
  rw [am_w_push (h := h) (fun j hj => am_zr_ne j (by omega))]
  refine (hP.kept hk).app (fun k x hx => ?_)
  have hz' : k < 1 := (List.getElem?_eq_some_iff.mp hx).1
  rw [show k = 0 by omega] at hx
  cases hx
  show H'[o + Y.length]? = some (vp_cell (G.2.1 0) (n.toNatClampNeg, .inl (am_zr h Y.length Y.length)))
  rw [e1, vp_cell_i]
  congr 2
  funext j
  rw [am_zr_at]
  rfl
theorem a_newO {C : String} {T : u_T} {N ci index : Nat} {fs : List Value} (ty : Nat → FieldType) (F : am_Fx X d own cc nL) (hc : vwCl[ci]? = some (C, T, N)) (hin : ∀ w ∈ u_ws C T N, w ∈ am_ws) (hty : ∀ k, k < N → parseFieldDescriptor (T k).2.2.1 = some (ty k)) (hcl : Cond.classLink own index C ∈ am_ws) (hinst : Cond.instantiable C N ∈ am_ws) (hini : Cond.initialized C ∈ am_ws) (hfs : ∀ o j, j < N → defaultValue (ty j) = vp_V (am_fs o (fun _ => 0) fs) j) (hR : am_Rc X (n1 + 1) (n2 + N)) (hd : decode cc pc = .ok (.new index, 3)) (kk : ∀ L S Y h, Qn L S Y h → am_At X Q nL (n1 + 1) (n2 + N) (pc + 3) L S Y h) : ∀ L S Y h, tm_newO ci fs Qn L S Y h → am_At X Q nL n1 n2 pc L S Y h := by
  obtain ⟨p, l, e, R, s, m, args, below, meth, c, G, o⟩ := X
  obtain ⟨hx, hb, hml, hown, hts, hE, ho, hd1, hd2, hlk⟩ := F
  intro L S Y h hq H locs ls hz hP hS hl
  have hKn := hE.1.1 ci _ hc
  refine W.newcK hx hb hown (hts _ hcl) (hts _ hinst) (hts _ hini) (g := F0 m pc ls (S.map (am_v G o))) rfl hd hR.1 hR.2 hKn.2.1 hz fun H' kC hkC e1 z1 o1 => ?_
  have hk : ∀ (k : Nat) (x : Nat × va_E), (am_w G o h Y)[k]? = some x → H'[x.1]? = H[x.1]? := fun k x hx => o1 x.1 (by rw [← hz]; exact (hP k x hx).lt)
  refine kk _ _ _ _ hq H' locs ls (by rw [z1, List.length_append]; rfl) ?_ ⟨Nat.le_trans hS.1 (by omega), fun q g1 g2 => (o1 q (by have := hS.1; omega)).trans (hS.2.1 q g1 g2), hS.2.2⟩ hl
  rw [am_w_push (h := h) (fun j hj => am_zr_ne j (by omega))]
  refine (hP.kept hk).app (fun k x hx => ?_)
  have hz' : k < 1 := (List.getElem?_eq_some_iff.mp hx).1
  rw [show k = 0 by omega] at hx
  cases hx
  have er : am_zr h Y.length Y.length = fun _ => 0 := by funext k; exact am_zr_at
  show va_at _ _ (o + Y.length, .inr (ci, am_fs o (am_zr h Y.length Y.length) fs)) H'
  rw [er]
  exact ⟨_, hc, (u_born ty hts hin hKn hkC e1 hty).to (hfs o)⟩
theorem a_putr {C : String} {T : u_T} {N ci k idx : Nat} {ty : FieldType} (ty0 : Nat → FieldType) (F : am_Fx X d own cc nL) (hc : vwCl[ci]? = some (C, T, N)) (hin : ∀ w ∈ u_ws C T N, w ∈ am_ws) (hty : ∀ k, k < N → parseFieldDescriptor (T k).2.2.1 = some (ty0 k)) (hnm : ∀ a, a < N → ∀ b, b < N → a ≠ b → (T a).2.1 ≠ (T b).2.1) (hk : k < N) (hw : Cond.fieldLink own idx (T k).1 (T k).2.1 (T k).2.2.1 ∈ am_ws) (hfin : (T k).2.2.2 = false ∨ ((T k).2.2.2 = true ∧ am_Nm X "<init>" ∧ (T k).1 = own)) (hd0 : parseFieldDescriptor (T k).2.2.1 = some ty) (hn : ∀ r, narrow ty (.ref r) = .ref r) (hfit : ∀ r, fits ty (.ref r) = true) (hd : decode cc pc = .ok (.putfield idx, 3)) (kk : ∀ L S Y h, Qn L S Y h → am_At X Q nL n1 n2 (pc + 3) L S Y h) : ∀ L S Y h, tm_putr ci k Qn L S Y h → am_At X Q nL n1 n2 pc L S Y h := by
  obtain ⟨p, l, e, R, s, m, args, below, meth, c, G, o⟩ := X
  obtain ⟨hx, hb, hml, hown, hts, hE, ho, hd1, hd2, hlk⟩ := F
  intro L S Y h hq H locs ls hz hP hS hl
  obtain ⟨r, S1, rfl, hq1⟩ := am_pr_of hq
  obtain ⟨i, S2, rfl, hq2⟩ := am_pr_of hq1
  obtain ⟨fs, hY, hkl, hq3⟩ := am_yo_of hq2
  refine am_putG ty0 hx hb hown hts hE hc hin hty hnm hk hw hfin hd0 (v := .ref (o + r)) (hn _) (hfit _) hY hkl hP hS hd fun H1 locs1 z1 hP1 hS1 => ?_
  refine kk _ _ _ _ hq3 H1 locs1 ls (by rw [z1, List.length_set]; exact hz) ?_ hS1 hl
  rw [am_w_set (h := h) (fun j _ => rfl)]
  show va_P _ _ ((am_w G o h Y).set i (o + i, .inr (ci, am_fs o (h i) (fs.set k (.ref r))))) H1
  rw [am_fs_set (row := h i) (row' := h i) (fun j _ => rfl)]
  exact hP1
theorem a_aastS (F : am_Fx X d own cc nL) (hd : decode cc pc = .ok (.aastore, 1)) (kk : ∀ L S Y h, Qn L S Y h → am_At X Q nL n1 n2 (pc + 1) L S Y h) : ∀ L S Y h, tm_aastS Qn L S Y h → am_At X Q nL n1 n2 pc L S Y h := by
  obtain ⟨p, l, e, R, s, m, args, below, meth, c, G, o⟩ := X
  obtain ⟨hx, hb, hml, hown, hts, hE, ho, hd1, hd2, hlk⟩ := F
  intro L S Y h hq H locs ls hz hP hS hl
  obtain ⟨v, S1, rfl, hq1⟩ := am_pr_of hq
  obtain ⟨j, S2, rfl, hq2⟩ := am_pi_of hq1
  obtain ⟨i, S3, rfl, hq3⟩ := am_pr_of hq2
  obtain ⟨n, fs, hY, hin, hq4⟩ := am_ya_of hq3
  obtain ⟨vs, hv, hq5⟩ := am_yo_of hq4
  have hlt : j.toNatClampNeg < n := Nat.not_le.mp fun q => hin (Or.inr q)
  have h0 : ¬ j < 0 := fun q => hin (Or.inl q)
  have hD : va_D (am_A o) (am_w G o h Y) := am_D fun _ q => q
  have ha : (am_w G o h Y)[i]? = some (o + i, .inl (G.2.1 4, n, .inr (.inr (.inr (.inr (am_rs o fs)))))) := am_w_at hY
  obtain ⟨r', hr', cellV, g1, g2, g3, -⟩ := hP v _ (am_w_at hv)
  have hcls := (hE.1.1 2 _ rfl).2
  obtain ⟨kA, comp, k1, k2, k3, -⟩ := (hE.1.2 4 _ rfl).2
  have hcomp : comp = G.1.1 2 := Option.some.inj (k3.symm.trans hcls.1)
  subst hcomp
  obtain ⟨kC, hkC, -⟩ := hcls.2
  refine W.aast hx hb (hP i _ ha) (fun q h => by cases h) (fun h => by cases h) k1 k2 rfl hkC ⟨h0, by show _ < (arrV _ _ _).slots.size; rw [arrV_size]; exact hlt⟩ g1 (fun q h => by rw [g3] at h; cases h) (by rw [g2]; exact hkC) (by rw [g2]; exact va_assign hcls) rfl rfl hd fun H1 e z oq => ?_
  refine kk _ _ _ _ hq5 H1 _ ls (by rw [z, List.length_set]; exact hz) ?_ (hS.put z oq (hD.2 i _ ha)) hl
  rw [am_w_set (h := h) (fun j _ => rfl)]
  show va_P _ _ ((am_w G o h Y).set i (o + i, .inl (G.2.1 4, n, .inr (.inr (.inr (.inr (am_rs o (am_aset fs j.toNatClampNeg v)))))))) H1
  rw [am_aset_rs]
  refine hP.set hD ha ?_ oq
  show H1[o + i]? = some (vp_cell _ _)
  rw [e]
  rw [vp_cell_q, vp_cell_q, arrV_store]
  congr 2
  funext q
  by_cases hq : q = j.toNatClampNeg
  · subst hq
    simp [updV, va_up, va_rf]
  · simp [updV, va_up, hq]
theorem a_callVg {y : am_Y} {n idx ci N : Nat} {T : u_T} (F : am_Fx X d own cc nL) (hm : am_My y n) (hi : am_Mi y) (hw : Cond.methodLink own idx y.1 ∈ am_ws) (hc : vwCl[ci]? = some (y.1.cls, T, N)) (hR : am_Rc X (n1 + mc) (n2 + ms)) (hd : decode cc pc = .ok (.invokevirtual idx, 3)) (kk : ∀ L S Y h, Qn L S Y h → am_At X Q nL (n1 + mc) (n2 + ms) (pc + 3) L S Y h) : ∀ L S Y h, tm_callVg mc ms ci y n d Qn L S Y h → am_At X Q nL n1 n2 pc L S Y h := by
  obtain ⟨p, l, e, R, s, m, args, below, meth, c, G, o⟩ := X
  obtain ⟨hx, hb, hml, hown, hts, hE, ho, hd1, hd2, hlk⟩ := F
  intro L S Y h hq H locs ls hz hP hS hl
  obtain ⟨i, S1, hSd, hq1⟩ := am_pr_of hq
  obtain ⟨fs, hY, h1, hcs, hn, hM⟩ := am_yo_of hq1
  rw [am_stk hSd]
  refine am_after (rest := S1.map (am_v G o)) (va_runV (Ts := am_ws) (As := (S.take n).reverse.map (am_v G o)) (rest := S1.map (am_v G o)) ⟨hx, hb, hml, hown, hts⟩ (hM l G o) ⟨callB_of n hts (am_goodT hm.1) rfl rfl rfl (hts _ hm.2.1) (hts _ hw) hm.2.2.1 (am_room h1 hd1 hd2 hm.2.2.2 mc ms), hts _ hi.1, hts _ hi.2⟩ ⟨am_blind _ _ _ _ _, va_recv hE.1 hP hc (am_w_at hY), fun U hU hW => ⟨rfl, by rw [hU]; exact hz, by rw [hU]; exact hP, by rw [hU]; exact hE.to hW hS.2.1⟩⟩ rfl (by simp; omega) hl.1 rfl (lv_room (by rw [am_cs_map]; exact hcs)) hd ⟨hR.1, hR.2⟩) hS fun r Y1 h1 hK H1 locs1 z1 hP1 hS1 => ?_
  rw [← am_head]
  exact kk _ _ _ _ hK H1 locs1 ls z1 hP1 hS1 hl
theorem a_callSg {y : am_Y} {n idx : Nat} (F : am_Fx X d own cc nL) (hm : am_My y n) (hst : Cond.static y.1 ∈ am_ws) (hw : Cond.methodLink own idx y.1 ∈ am_ws) (hR : am_Rc X (n1 + mc) (n2 + ms)) (hd : decode cc pc = .ok (.invokestatic idx, 3)) (kk : ∀ L S Y h, Qn L S Y h → am_At X Q nL (n1 + mc) (n2 + ms) (pc + 3) L S Y h) : ∀ L S Y h, tm_callSg mc ms y n d Qn L S Y h → am_At X Q nL n1 n2 pc L S Y h := by
  obtain ⟨p, l, e, R, s, m, args, below, meth, c, G, o⟩ := X
  obtain ⟨hx, hb, hml, hown, hts, hE, ho, hd1, hd2, hlk⟩ := F
  intro L S Y h hq H locs ls hz hP hS hl
  obtain ⟨h1, hcs, hn, hM⟩ := hq
  rw [am_stkS G o n S]
  refine am_after (rest := (S.drop n).map (am_v G o)) (va_runS (Ts := am_ws) (As := (S.take n).reverse.map (am_v G o)) (rest := (S.drop n).map (am_v G o)) ⟨hx, hb, hml, hown, hts⟩ (hM l G o) ⟨callB_of n hts (am_goodT hm.1) rfl rfl rfl (hts _ hm.2.1) (hts _ hw) hm.2.2.1 (am_room h1 hd1 hd2 hm.2.2.2 mc ms), hts _ hst⟩ ⟨am_blind _ _ _ _ _, fun U hU hW => ⟨rfl, by rw [hU]; exact hz, by rw [hU]; exact hP, by rw [hU]; exact hE.to hW hS.2.1⟩⟩ rfl (by simp; omega) hl.1 rfl (lv_room (by rw [am_cs_map]; exact hcs)) hd ⟨hR.1, hR.2⟩) hS fun r Y1 h1 hK H1 locs1 z1 hP1 hS1 => ?_
  rw [← am_head]
  exact kk _ _ _ _ hK H1 locs1 ls z1 hP1 hS1 hl
theorem a_callIg {y : am_Y} {n idx : Nat} (F : am_Fx X d own cc nL) (hm : am_My y n) (hret : y.2.2.2 = none) (hi : y.1.name = "<init>" ∧ Cond.instanceMethod y.1 ∈ am_ws) (hw : Cond.methodLink own idx y.1 ∈ am_ws) (hR : am_Rc X (n1 + mc) (n2 + ms)) (hd : decode cc pc = .ok (.invokespecial idx, 3)) (kk : ∀ L S Y h, Qn L S Y h → am_At X Q nL (n1 + mc) (n2 + ms) (pc + 3) L S Y h) : ∀ L S Y h, tm_callIg mc ms y n d Qn L S Y h → am_At X Q nL n1 n2 pc L S Y h := by
  obtain ⟨y, yb, yl, yr⟩ := y
  cases hret
  obtain ⟨p, l, e, R, s, m, args, below, meth, c, G, o⟩ := X
  obtain ⟨hx, hb, hml, hown, hts, hE, ho, hd1, hd2, hlk⟩ := F
  intro L S Y h hq H locs ls hz hP hS hl
  obtain ⟨i, S1, hSd, h1, hcs, hn, hM⟩ := am_pr_of hq
  rw [am_stk hSd]
  refine am_after (rest := S1.map (am_v G o)) (va_runI (Ts := am_ws) (As := (S.take n).reverse.map (am_v G o)) (rest := S1.map (am_v G o)) ⟨hx, hb, hml, hown, hts⟩ (hM l G o) ⟨callB_of n hts (am_goodT hm.1) rfl rfl rfl (hts _ hm.2.1) (hts _ hw) hm.2.2.1 (am_room h1 hd1 hd2 hm.2.2.2 mc ms), hi.1, hts _ hi.2⟩ ⟨am_blind _ _ _ _ _, fun U hU hW => ⟨rfl, by rw [hU]; exact hz, by rw [hU]; exact hP, by rw [hU]; exact hE.to hW hS.2.1⟩⟩ rfl (by simp; omega) hl.1 rfl (lv_room (by rw [am_cs_map]; exact hcs)) hd ⟨hR.1, hR.2⟩) hS fun r Y1 h1 hK H1 locs1 z1 hP1 hS1 => ?_
  rw [← am_head]
  exact kk _ _ _ _ hK H1 locs1 ls z1 hP1 hS1 hl
theorem am_w_obj : Cond.instanceMethod Lib.objectInit ∈ am_ws ∧ Cond.code Lib.objectInit ⟨#[0xb1]⟩ 1 none ∈ am_ws := ⟨am_mem 21 (by decide +kernel) (by decide +kernel), am_mem 22 (by decide +kernel) (by decide +kernel)⟩
theorem a_objI {idx : Nat} (F : am_Fx X d own cc nL) (hw : Cond.methodLink own idx Lib.objectInit ∈ am_ws) (hd : decode cc pc = .ok (.invokespecial idx, 3)) (kk : ∀ L S Y h, Qn L S Y h → am_At X Q nL n1 n2 (pc + 3) L S Y h) : ∀ L S Y h, tm_objI d Qn L S Y h → am_At X Q nL n1 n2 pc L S Y h := by
  obtain ⟨p, l, e, R, s, m, args, below, meth, c, G, o⟩ := X
  obtain ⟨hx, hb, hml, hown, hts, hE, ho, hd1, hd2, hlk⟩ := F
  intro L S Y h hq H locs ls hz hP hS hl
  obtain ⟨i, S1, rfl, h1, hcs, hq1⟩ := am_pr_of hq
  refine W.objInit hx hb hown (hts _ hw) (hts _ am_w_obj.1) (hts _ am_w_obj.2) (g := F0 m pc ls ((Value.ref i :: S1).map (am_v G o))) rfl (hl.1.trans hml.symm) (a := o + i) (rest := S1.map (am_v G o)) rfl hd (by omega) ?_ (kk _ _ _ _ hq1 H locs ls hz hP hS hl)
  rw [am_cs_map]
  show 2 * 0 + _ + 12 ≤ _
  omega
end SND
