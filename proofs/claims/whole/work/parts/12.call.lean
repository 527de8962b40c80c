/-! method facts; calls; a method's start; switches; Math -/
def am_Rc : am_X → Nat → Nat → Prop
  | (_, _, _, R, _, _, _, _, _, _, _, _), n1, n2 => n1 ≤ R.cells ∧ n2 ≤ R.slots
theorem am_Rc0 (X : am_X) : am_Rc X 0 0 := by
  obtain ⟨p, l, e, R, s, m, args, below, meth, c, G, o⟩ := X
  exact ⟨Nat.zero_le _, Nat.zero_le _⟩
/-- what a call needs of a method: its words; n arguments (the receiver apart) -/
def am_My (y : am_Y) (n : Nat) : Prop := am_cd y ∈ am_ws ∧ Cond.initialized y.1.cls ∈ am_ws ∧ (y.1.cls ≠ "java/lang/invoke/MethodHandle" ∧ y.1.cls ≠ "java/lang/invoke/VarHandle" ∧ (parseMethodDescriptor y.1.desc).map (fun d => d.parameters.length) = some n) ∧ y.2.2.1 ≤ 13
def am_Mi (y : am_Y) : Prop := Cond.instanceMethod y.1 ∈ am_ws ∧ Cond.selects y.1.cls y.1 y.1 ∈ am_ws
theorem am_head (G : am_G) (o : Nat) (r S : List Value) : (r.take 1 ++ S).map (am_v G o) = ((r.head?).map (am_v G o)).toList ++ S.map (am_v G o) := by
  cases r <;> simp
theorem am_after {G : am_G} {o : Nat} {p : Program} {l : Launch} {e : Env} {R : Room} {s : State} {m : MethodId} {args a : Array Value} {below : List Frame} {meth : Method} {c : Code} {H : Heap} {locs : List Loc} {n1 n2 mc ms pc : Nat} {ls : Array Slot} {st0 rest : List Value} {Q : State → Prop} {K : List Value → List am_C → am_H → Prop}
    (hr : va_Run p l e R s m args below meth c H locs n1 n2 mc ms (F0 m pc ls st0) rest (am_Qc G o K a) (am_A o)) (hS : va_S (am_A o) s.heap H locs)
    (kk : ∀ r Y1 h1, K r Y1 h1 → ∀ (H1 : Heap) (locs1 : List Loc), H1.size = o + Y1.length → va_P G.1 vwCl (am_w G o h1 Y1) H1 → va_S (am_A o) s.heap H1 locs1 → W p l e R s m args below meth c H1 locs1 (n1 + mc) (n2 + ms) Q (F0 m (pc + 3) ls (((r.head?).map (am_v G o)).toList ++ rest))) : W p l e R s m args below meth c H locs n1 n2 Q (F0 m pc ls st0) := by
  intro T hT X
  obtain ⟨v, st₀, t, T', L, h0, X', hL, e1, e2, ⟨⟨r, Y1, h1, hv, hK, hz1, hP1⟩, hz, hk⟩, st⟩ := hr T hT X
  cases hv
  rw [h0] at hz hk
  obtain ⟨t2, a1, b1⟩ := kk r Y1 h1 hK T'.heap (locs ++ L) (by rw [e1]; exact hz1) (by rw [e1]; exact hP1)
    ⟨Nat.le_trans hS.1 (by rw [e1]; exact hz), fun q g1 g2 => by rw [e1, hk q (Nat.lt_of_lt_of_le g1 hS.1) g2]; exact hS.2.1 q g1 g2, fun q hq => by
      rcases List.mem_append.mp hq with h | h
      · exact hS.2.2 q h
      · exact hL q h⟩ T' rfl X'
  exact ⟨t2, st t2 a1, b1⟩
section SND
variable {X : am_X} {d : Nat} {own : String} {cc : ByteArray} {nL : Nat} {Q : State → Prop} {n1 n2 pc : Nat} {Qn Qt Qf : am_P} {K : List Value → List am_C → am_H → Prop}
theorem am_room {d maxL : Nat} {R : Room} (h1 : 1 ≤ d) (h2 : d ≤ R.frames) (h3 : 32 * d ≤ R.locals) (h4 : maxL ≤ 13) (mc ms : Nat) : (am_rm (d - 1) mc ms).frames + 1 ≤ R.frames ∧ 8 + (maxL + 11) + (am_rm (d - 1) mc ms).locals ≤ R.locals := by
  simp only [am_rm]
  omega
theorem am_stk {G : am_G} {o n i : Nat} {S S1 : List Value} (h : S.drop n = .ref i :: S1) : S.map (am_v G o) = ((S.take n).reverse.map (am_v G o)).reverse ++ .ref (o + i) :: S1.map (am_v G o) := by
  have e : S = S.take n ++ .ref i :: S1 := by rw [← h, List.take_append_drop]
  rw [← List.map_reverse, List.reverse_reverse]
  exact (congrArg (List.map (am_v G o)) e).trans (by simp [am_v])
theorem am_stkS (G : am_G) (o n : Nat) (S : List Value) : S.map (am_v G o) = ((S.take n).reverse.map (am_v G o)).reverse ++ (S.drop n).map (am_v G o) := by
  rw [← List.map_reverse, List.reverse_reverse, ← List.map_append, List.take_append_drop]
theorem a_callV {y : am_Y} {n idx ci N : Nat} {T : u_T} (F : am_Fx X d own cc nL) (hm : am_My y n) (hi : am_Mi y) (hw : Cond.methodLink own idx y.1 ∈ am_ws) (hc : vwCl[ci]? = some (y.1.cls, T, N)) (hR : am_Rc X n1 n2) (hd : decode cc pc = .ok (.invokevirtual idx, 3)) (kk : ∀ L S Y h, Qn L S Y h → am_At X Q nL n1 n2 (pc + 3) L S Y h) : ∀ L S Y h, tm_callV ci y n d Qn L S Y h → am_At X Q nL n1 n2 pc L S Y h := by
  obtain ⟨p, l, e, R, s, m, args, below, meth, c, G, o⟩ := X
  obtain ⟨hx, hb, hml, hown, hts, hE, ho, hd1, hd2, hlk⟩ := F
  intro L S Y h hq H locs ls hz hP hS hl
  obtain ⟨i, S1, hSd, hq1⟩ := am_pr_of hq
  obtain ⟨fs, hY, h1, hcs, hn, hM⟩ := am_yo_of hq1
  rw [am_stk hSd]
  refine am_after (rest := S1.map (am_v G o)) (va_runV (Ts := am_ws) (As := (S.take n).reverse.map (am_v G o)) (rest := S1.map (am_v G o)) ⟨hx, hb, hml, hown, hts⟩ (hM l G o) ⟨callB_of n hts (am_goodT hm.1) rfl rfl rfl (hts _ hm.2.1) (hts _ hw) hm.2.2.1 (am_room h1 hd1 hd2 hm.2.2.2 0 0), hts _ hi.1, hts _ hi.2⟩ ⟨am_blind _ _ _ _ _, va_recv hE.1 hP hc (am_w_at hY), fun U hU hW => ⟨rfl, by rw [hU]; exact hz, by rw [hU]; exact hP, by rw [hU]; exact hE.to hW hS.2.1⟩⟩ rfl (by simp; omega) hl.1 rfl (lv_room (by rw [am_cs_map]; exact hcs)) hd ⟨hR.1, hR.2⟩) hS fun r Y1 h1 hK H1 locs1 z1 hP1 hS1 => ?_
  rw [← am_head]
  exact kk _ _ _ _ hK H1 locs1 ls z1 hP1 hS1 hl
theorem a_callS {y : am_Y} {n idx : Nat} (F : am_Fx X d own cc nL) (hm : am_My y n) (hst : Cond.static y.1 ∈ am_ws) (hw : Cond.methodLink own idx y.1 ∈ am_ws) (hR : am_Rc X n1 n2) (hd : decode cc pc = .ok (.invokestatic idx, 3)) (kk : ∀ L S Y h, Qn L S Y h → am_At X Q nL n1 n2 (pc + 3) L S Y h) : ∀ L S Y h, tm_callS y n d Qn L S Y h → am_At X Q nL n1 n2 pc L S Y h := by
  obtain ⟨p, l, e, R, s, m, args, below, meth, c, G, o⟩ := X
  obtain ⟨hx, hb, hml, hown, hts, hE, ho, hd1, hd2, hlk⟩ := F
  intro L S Y h hq H locs ls hz hP hS hl
  obtain ⟨h1, hcs, hn, hM⟩ := hq
  rw [am_stkS G o n S]
  refine am_after (rest := (S.drop n).map (am_v G o)) (va_runS (Ts := am_ws) (As := (S.take n).reverse.map (am_v G o)) (rest := (S.drop n).map (am_v G o)) ⟨hx, hb, hml, hown, hts⟩ (hM l G o) ⟨callB_of n hts (am_goodT hm.1) rfl rfl rfl (hts _ hm.2.1) (hts _ hw) hm.2.2.1 (am_room h1 hd1 hd2 hm.2.2.2 0 0), hts _ hst⟩ ⟨am_blind _ _ _ _ _, fun U hU hW => ⟨rfl, by rw [hU]; exact hz, by rw [hU]; exact hP, by rw [hU]; exact hE.to hW hS.2.1⟩⟩ rfl (by simp; omega) hl.1 rfl (lv_room (by rw [am_cs_map]; exact hcs)) hd ⟨hR.1, hR.2⟩) hS fun r Y1 h1 hK H1 locs1 z1 hP1 hS1 => ?_
  rw [← am_head]
  exact kk _ _ _ _ hK H1 locs1 ls z1 hP1 hS1 hl
theorem a_callN {y : am_Y} {n idx : Nat} (F : am_Fx X d own cc nL) (hm : am_My y n) (hst : Cond.static y.1 ∈ am_ws) (hw : (own, idx, y.1, RX5) ∈ am_nst) (hR : am_Rc X n1 n2) (hd : decode cc pc = .ok (.invokestatic idx, 3)) (kk : ∀ L S Y h, Qn L S Y h → am_At X Q nL n1 n2 (pc + 3) L S Y h) : ∀ L S Y h, tm_callS y n d Qn L S Y h → am_At X Q nL n1 n2 pc L S Y h := by
  obtain ⟨p, l, e, R, s, m, args, below, meth, c, G, o⟩ := X
  obtain ⟨hx, hb, hml, hown, hts, hE, ho, hd1, hd2, hlk⟩ := F
  intro L S Y h hq H locs ls hz hP hS hl
  obtain ⟨h1, hcs, hn, hM⟩ := hq
  rw [am_stkS G o n S]
  refine am_after (rest := (S.drop n).map (am_v G o)) (va_runSN (Ts := am_ws) (As := (S.take n).reverse.map (am_v G o)) (rest := (S.drop n).map (am_v G o)) ⟨hx, hb, hml, hown, hts⟩ (hM l G o) ⟨va_cnB n hts (am_goodT hm.1) rfl rfl rfl (hE.2.1 _ hw) (hts _ hm.2.1) hm.2.2.1 (am_room h1 hd1 hd2 hm.2.2.2 0 0), hts _ hst, trivial⟩ ⟨am_blind _ _ _ _ _, fun U hU hW => ⟨rfl, by rw [hU]; exact hz, by rw [hU]; exact hP, by rw [hU]; exact hE.to hW hS.2.1⟩⟩ rfl (by simp; omega) hl.1 rfl (lv_room (by rw [am_cs_map]; exact hcs)) hd ⟨hR.1, hR.2⟩) hS fun r Y1 h1 hK H1 locs1 z1 hP1 hS1 => ?_
  rw [← am_head]
  exact kk _ _ _ _ hK H1 locs1 ls z1 hP1 hS1 hl
theorem tm_swc_of {v : Int32} {L S : List Value} {Y : List am_C} {h : am_H} {Qd : am_P} : ∀ (qs : List am_P) (k0 : Int), -2147483648 ≤ k0 → k0 + qs.length ≤ 2147483648 → tm_swc v L S Y h Qd k0 qs → (∀ (k : Nat) (q : am_P), qs[k]? = some q → v.toInt = k0 + k → q L S Y h) ∧ ((v.toInt < k0 ∨ k0 + qs.length ≤ v.toInt) → Qd L S Y h)
  | [], k0, _, _, hq => ⟨fun k q hk => by simp at hk, fun _ => hq⟩
  | q :: qs, k0, b1, b2, hq => by
    simp only [List.length_cons, Int.natCast_add, Int.cast_ofNat_Int] at b2
    have e0 : (Int32.ofInt k0).toInt = k0 := Int32.toInt_ofInt_of_le (by omega) (by omega)
    obtain ⟨hq1, hq2⟩ := hq
    have ne : v.toInt ≠ k0 → ¬ v = Int32.ofInt k0 := fun h1 h2 => h1 (by rw [h2, e0])
    refine ⟨fun k q' hk hv => ?_, fun hv => ?_⟩
    · cases k with
      | zero =>
        simp only [List.getElem?_cons_zero, Option.some.injEq] at hk
        subst hk
        exact hq1 (Int32.toInt_inj.mp (by rw [e0]; simpa using hv))
      | succ k =>
        simp only [List.getElem?_cons_succ] at hk
        have h3 := tm_swc_of qs (k0 + 1) (by omega) (by omega) (hq2 (ne (by omega)))
        exact h3.1 k q' hk (by omega)
    · simp only [List.length_cons, Int.natCast_add, Int.cast_ofNat_Int] at hv
      have h3 := tm_swc_of qs (k0 + 1) (by omega) (by omega) (hq2 (ne (by omega)))
      exact h3.2 (by omega)
def am_all (P : Nat → am_P → Prop) : Nat → List am_P → Prop
  | _, [] => True
  | k, q :: qs => P k q ∧ am_all P (k + 1) qs
theorem am_all_of {P : Nat → am_P → Prop} : ∀ (qs : List am_P) (k0 : Nat), am_all P k0 qs → ∀ (k : Nat) (q : am_P), qs[k]? = some q → P (k0 + k) q
  | [], _, _, k, q, hk => by simp at hk
  | q0 :: qs, k0, h, k, q, hk => by
    cases k with
    | zero =>
      simp only [List.getElem?_cons_zero, Option.some.injEq] at hk
      subst hk
      exact h.1
    | succ k =>
      simp only [List.getElem?_cons_succ] at hk
      have := am_all_of qs (k0 + 1) h.2 k q hk
      rwa [show k0 + 1 + k = k0 + (k + 1) by omega] at this
theorem a_tsw {dflt lo hi : Int} {offs : Array Int} {len td : Nat} {qs : List am_P} {Qd : am_P} (F : am_Fx X d own cc nL) (hd : decode cc pc = .ok (.tableswitch dflt lo hi offs, len)) (b1 : -2147483648 ≤ lo) (b2 : lo + qs.length = hi + 1) (b3 : hi < 2147483647)
    (ht : am_all (fun k q => ∃ (off : Int) (tgt : Nat), offs[k]? = some off ∧ (pc : Int) + off = (tgt : Int) ∧ ∀ L S Y h, q L S Y h → am_At X Q nL n1 n2 tgt L S Y h) 0 qs) (hdt : (pc : Int) + dflt = (td : Int)) (kd : ∀ L S Y h, Qd L S Y h → am_At X Q nL n1 n2 td L S Y h) : ∀ L S Y h, tm_tsw lo qs Qd L S Y h → am_At X Q nL n1 n2 pc L S Y h := by
  obtain ⟨p, l, e, R, s, m, args, below, meth, c, G, o⟩ := X
  obtain ⟨hx, hb, hml, hown, hts, hE, ho, hd1, hd2, hlk⟩ := F
  intro L S Y h hq H locs ls hz hP hS hl
  obtain ⟨v, S1, rfl, hq1⟩ := am_pi_of hq
  obtain ⟨hA, hB⟩ := tm_swc_of qs lo b1 (by omega) hq1
  by_cases h1 : v.toInt < lo
  · exact lv_tableOut hx hb hd (Or.inl h1) hdt (kd _ _ _ _ (hB (Or.inl h1)) H locs ls hz hP hS hl)
  by_cases h2 : hi < v.toInt
  · exact lv_tableOut hx hb hd (Or.inr h2) hdt (kd _ _ _ _ (hB (Or.inr (by omega))) H locs ls hz hP hS hl)
  have hlt : (v.toInt - lo).toNat < qs.length := by omega
  have hq' : qs[(v.toInt - lo).toNat]? = some qs[(v.toInt - lo).toNat] := List.getElem?_eq_getElem hlt
  obtain ⟨off, tgt, g1, g2, g3⟩ := am_all_of qs 0 ht _ _ hq'
  rw [Nat.zero_add] at g1
  exact lv_tableIn hx hb hd h1 h2 g1 g2 (g3 _ _ _ _ (hA _ _ hq' (by omega)) H locs ls hz hP hS hl)
end SND
/-! a method's start -/
def am_ents : List Value → List Value
  | [] => []
  | v :: l => if v.category = 2 then v :: .null :: am_ents l else v :: am_ents l
def am_ent (n : Nat) (args : List Value) : List Value := am_ents args ++ List.replicate (n - (am_ents args).length) .null
theorem am_ents_len (G : am_G) (o : Nat) (args : List Value) : (lg_sl (args.map (am_v G o))).length = (am_ents args).length := by
  induction args with
  | nil => rfl
  | cons v l ih =>
    simp only [lg_sl, am_ents, List.map_cons, List.flatMap_cons, List.length_append, am_v_cat] at ih ⊢
    by_cases hc : v.category = 2
    · simp only [if_pos hc, List.length_cons, List.length_nil]
      omega
    · simp only [if_neg hc, List.length_cons, List.length_nil]
      omega
theorem am_ents_args (G : am_G) (o : Nat) : ∀ (args : List Value) (i k : Nat) (v : Value), (am_ents args)[k]? = some v → v ≠ .null → (i + k, am_v G o v) ∈ lv_args i (args.map (am_v G o))
  | [], i, k, v, h, _ => by simp [am_ents] at h
  | a :: l, i, k, v, h, hv => by
    simp only [List.map_cons, lv_args, am_v_cat]
    by_cases hc : a.category = 2
    · simp only [am_ents, if_pos hc] at h ⊢
      match k, h with
      | 0, h =>
        simp only [List.getElem?_cons_zero, Option.some.injEq] at h
        subst h
        exact List.mem_cons_self
      | 1, h =>
        simp only [List.getElem?_cons_succ, List.getElem?_cons_zero, Option.some.injEq] at h
        exact absurd h.symm hv
      | k + 2, h =>
        simp only [List.getElem?_cons_succ] at h
        have := am_ents_args G o l (i + 2) k v h hv
        rw [show i + 2 + k = i + (k + 2) by omega] at this
        exact List.mem_cons_of_mem _ this
    · simp only [am_ents, if_neg hc] at h ⊢
      match k, h with
      | 0, h =>
        simp only [List.getElem?_cons_zero, Option.some.injEq] at h
        subst h
        exact List.mem_cons_self
      | k + 1, h =>
        simp only [List.getElem?_cons_succ] at h
        have := am_ents_args G o l (i + 1) k v h hv
        rw [show i + 1 + k = i + (k + 1) by omega] at this
        exact List.mem_cons_of_mem _ this
theorem am_start {y : MethodName} {cc : ByteArray} {nL : Nat} {ret : Option FieldType} {d mc ms : Nat} {args L : List Value} {Y : List am_C} {h : am_H} {K : List Value → List am_C → am_H → Prop} (hy : plainName y.cls = true) (hL : am_ent nL args = L) (hn : (am_ents args).length ≤ nL)
    (body : ∀ X : am_X, am_Fx X d y.cls cc nL → am_Rt X ret → am_Rc X mc ms → (∀ p l e R s m a b me c G o, X = (p, l, e, R, s, m, a, b, me, c, G, o) → me.name = y.name) → am_At X (am_MQ X K mc ms) nL 0 0 0 L [] Y h) : am_Met d mc ms (y, cc, nL, ret) args Y h K := by
  intro l G o
  refine Met.ofW (cc := cc) (maxL := nL) (ret := ret) hy rfl ?_
  intro p e s m a below meth c s₁ B hml hv
  obtain ⟨rfl, hz, hP, hE⟩ := hv
  have hts := atoms_spec (ws := am_cd (y, cc, nL, ret) :: am_ws) B.pre
  have hname : meth.name = y.name := (name_of_methodNamed B.named B.method).1
  have hb := body (p, l, e, (headSpec (am_cd (y, cc, nL, ret) :: am_ws) (am_rm d mc ms)).room, s, m, (args.map (am_v G o)).toArray, below, meth, c, G, o)
    ⟨B.exec, B.bytes, hml, findClass_of_methodNamed B.named, fun w hw => hts w (List.mem_cons_of_mem _ hw), hE, by omega, Nat.le_refl _, Nat.le_refl _, B.notSynchronized⟩ B.returns ⟨Nat.le_refl _, Nat.le_refl _⟩ (by
      intro p' l' e' R' s' m' a' b' me' c' G' o' hX
      simp only [Prod.mk.injEq] at hX
      rw [← hX.2.2.2.2.2.2.2.2.1]
      exact hname) s.heap []
  have hlen : (lg_sl (args.map (am_v G o))).length ≤ nL := by rw [am_ents_len]; exact hn
  have hl := lv_entry (args.map (am_v G o)) (n := nL) hlen
  rw [lg_entry_eq]
  refine hb _ hz hP va_S.rf ⟨hl.1, ?_, hl.2.1, fun k v hk hv => ?_⟩
  · rw [← hL]
    simp only [am_ent, List.length_append, List.length_replicate]
    omega
  · rw [← hL] at hk
    simp only [am_ent] at hk
    rcases Nat.lt_or_ge k (am_ents args).length with q | q
    · rw [List.getElem?_append_left q] at hk
      have := am_ents_args G o args 0 k v hk hv
      rw [Nat.zero_add] at this
      exact hl.2.2 _ this
    · rw [List.getElem?_append_right q] at hk
      exact absurd (List.eq_of_mem_replicate (List.mem_of_getElem? hk)) hv
