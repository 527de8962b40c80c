section SND
variable {X : am_X} {d : Nat} {own : String} {cc : ByteArray} {nL : Nat} {Q : State → Prop} {n1 n2 pc : Nat} {Qn Qt Qf : am_P}
theorem a_iconst {n : Int} {v : Int32} (F : am_Fx X d own cc nL) (hd : decode cc pc = .ok (.iconst n, 1)) (hv : Int32.ofInt n = v) (kk : ∀ L S Y h, Qn L S Y h → am_At X Q nL n1 n2 (pc + 1) L S Y h) : ∀ L S Y h, tm_push (.int v) Qn L S Y h → am_At X Q nL n1 n2 pc L S Y h := by
  obtain ⟨p, l, e, R, s, m, args, below, meth, c, G, o⟩ := X
  obtain ⟨hx, hb, hml, hown, hts, hE, ho, hd1, hd2, hlk⟩ := F
  intro L S Y h hq H locs ls hz hP hS hl
  exact lv_iconst hx hb hd hv (kk _ _ _ _ hq H locs ls hz hP hS hl)
theorem a_bipush {n : Int} {v : Int32} (F : am_Fx X d own cc nL) (hd : decode cc pc = .ok (.bipush n, 2)) (hv : (Int8.ofInt n).toInt32 = v) (kk : ∀ L S Y h, Qn L S Y h → am_At X Q nL n1 n2 (pc + 2) L S Y h) : ∀ L S Y h, tm_push (.int v) Qn L S Y h → am_At X Q nL n1 n2 pc L S Y h := by
  obtain ⟨p, l, e, R, s, m, args, below, meth, c, G, o⟩ := X
  obtain ⟨hx, hb, hml, hown, hts, hE, ho, hd1, hd2, hlk⟩ := F
  intro L S Y h hq H locs ls hz hP hS hl
  exact lv_bipush hx hb hd hv (kk _ _ _ _ hq H locs ls hz hP hS hl)
theorem a_sipush {n : Int} {v : Int32} (F : am_Fx X d own cc nL) (hd : decode cc pc = .ok (.sipush n, 3)) (hv : (Int16.ofInt n).toInt32 = v) (kk : ∀ L S Y h, Qn L S Y h → am_At X Q nL n1 n2 (pc + 3) L S Y h) : ∀ L S Y h, tm_push (.int v) Qn L S Y h → am_At X Q nL n1 n2 pc L S Y h := by
  obtain ⟨p, l, e, R, s, m, args, below, meth, c, G, o⟩ := X
  obtain ⟨hx, hb, hml, hown, hts, hE, ho, hd1, hd2, hlk⟩ := F
  intro L S Y h hq H locs ls hz hP hS hl
  exact lv_sipush hx hb hd hv (kk _ _ _ _ hq H locs ls hz hP hS hl)
theorem a_lconst {n : Fin 2} {v : Int64} (F : am_Fx X d own cc nL) (hd : decode cc pc = .ok (.lconst n, 1)) (hv : Int64.ofNat (n : Nat) = v) (kk : ∀ L S Y h, Qn L S Y h → am_At X Q nL n1 n2 (pc + 1) L S Y h) : ∀ L S Y h, tm_push (.long v) Qn L S Y h → am_At X Q nL n1 n2 pc L S Y h := by
  obtain ⟨p, l, e, R, s, m, args, below, meth, c, G, o⟩ := X
  obtain ⟨hx, hb, hml, hown, hts, hE, ho, hd1, hd2, hlk⟩ := F
  intro L S Y h hq H locs ls hz hP hS hl
  exact lv_lconst hx hb hd hv (kk _ _ _ _ hq H locs ls hz hP hS hl)
theorem a_ldc {i : Nat} {v : Int32} (F : am_Fx X d own cc nL) (hd : decode cc pc = .ok (.ldc i, 2)) (hw : Cond.constant own i v ∈ am_ws) (kk : ∀ L S Y h, Qn L S Y h → am_At X Q nL n1 n2 (pc + 2) L S Y h) : ∀ L S Y h, tm_push (.int v) Qn L S Y h → am_At X Q nL n1 n2 pc L S Y h := by
  obtain ⟨p, l, e, R, s, m, args, below, meth, c, G, o⟩ := X
  obtain ⟨hx, hb, hml, hown, hts, hE, ho, hd1, hd2, hlk⟩ := F
  intro L S Y h hq H locs ls hz hP hS hl
  exact lv_ldc hx hb hown (hts _ hw) hd (kk _ _ _ _ hq H locs ls hz hP hS hl)
theorem a_ldc2 {i : Nat} {v : Int64} (F : am_Fx X d own cc nL) (hd : decode cc pc = .ok (.ldc2_w i, 3)) (hw : Cond.constantLong own i v ∈ am_ws) (kk : ∀ L S Y h, Qn L S Y h → am_At X Q nL n1 n2 (pc + 3) L S Y h) : ∀ L S Y h, tm_push (.long v) Qn L S Y h → am_At X Q nL n1 n2 pc L S Y h := by
  obtain ⟨p, l, e, R, s, m, args, below, meth, c, G, o⟩ := X
  obtain ⟨hx, hb, hml, hown, hts, hE, ho, hd1, hd2, hlk⟩ := F
  intro L S Y h hq H locs ls hz hP hS hl
  exact lv_ldc2 hx hb hown (hts _ hw) hd (kk _ _ _ _ hq H locs ls hz hP hS hl)
theorem a_iload_n {k : Fin 4} {i : Nat} (F : am_Fx X d own cc nL) (hd : decode cc pc = .ok (.iload_n k, 1)) (hi : (k : Nat) = i) (kk : ∀ L S Y h, Qn L S Y h → am_At X Q nL n1 n2 (pc + 1) L S Y h) : ∀ L S Y h, tm_iload i Qn L S Y h → am_At X Q nL n1 n2 pc L S Y h := by
  obtain ⟨p, l, e, R, s, m, args, below, meth, c, G, o⟩ := X
  obtain ⟨hx, hb, hml, hown, hts, hE, ho, hd1, hd2, hlk⟩ := F
  intro L S Y h hq H locs ls hz hP hS hl
  obtain ⟨x, hk, hq⟩ := am_oi_of hq
  exact lv_iload_n hx hb hd hi (hl.get hk (by simp)) (kk _ _ _ _ hq H locs ls hz hP hS hl)
theorem a_iload {i : Nat} (F : am_Fx X d own cc nL) (hd : decode cc pc = .ok (.iload i, 2)) (kk : ∀ L S Y h, Qn L S Y h → am_At X Q nL n1 n2 (pc + 2) L S Y h) : ∀ L S Y h, tm_iload i Qn L S Y h → am_At X Q nL n1 n2 pc L S Y h := by
  obtain ⟨p, l, e, R, s, m, args, below, meth, c, G, o⟩ := X
  obtain ⟨hx, hb, hml, hown, hts, hE, ho, hd1, hd2, hlk⟩ := F
  intro L S Y h hq H locs ls hz hP hS hl
  obtain ⟨x, hk, hq⟩ := am_oi_of hq
  exact lv_iload hx hb hd (hl.get hk (by simp)) (kk _ _ _ _ hq H locs ls hz hP hS hl)
theorem a_lload_n {k : Fin 4} {i : Nat} (F : am_Fx X d own cc nL) (hd : decode cc pc = .ok (.lload_n k, 1)) (hi : (k : Nat) = i) (kk : ∀ L S Y h, Qn L S Y h → am_At X Q nL n1 n2 (pc + 1) L S Y h) : ∀ L S Y h, tm_lload i Qn L S Y h → am_At X Q nL n1 n2 pc L S Y h := by
  obtain ⟨p, l, e, R, s, m, args, below, meth, c, G, o⟩ := X
  obtain ⟨hx, hb, hml, hown, hts, hE, ho, hd1, hd2, hlk⟩ := F
  intro L S Y h hq H locs ls hz hP hS hl
  obtain ⟨x, hk, hq⟩ := am_ol_of hq
  exact lv_lload_n hx hb hd hi (hl.get hk (by simp)) (kk _ _ _ _ hq H locs ls hz hP hS hl)
theorem a_lload {i : Nat} (F : am_Fx X d own cc nL) (hd : decode cc pc = .ok (.lload i, 2)) (kk : ∀ L S Y h, Qn L S Y h → am_At X Q nL n1 n2 (pc + 2) L S Y h) : ∀ L S Y h, tm_lload i Qn L S Y h → am_At X Q nL n1 n2 pc L S Y h := by
  obtain ⟨p, l, e, R, s, m, args, below, meth, c, G, o⟩ := X
  obtain ⟨hx, hb, hml, hown, hts, hE, ho, hd1, hd2, hlk⟩ := F
  intro L S Y h hq H locs ls hz hP hS hl
  obtain ⟨x, hk, hq⟩ := am_ol_of hq
  exact lv_lload hx hb hd (hl.get hk (by simp)) (kk _ _ _ _ hq H locs ls hz hP hS hl)
theorem a_aload_n {k : Fin 4} {i : Nat} (F : am_Fx X d own cc nL) (hd : decode cc pc = .ok (.aload_n k, 1)) (hi : (k : Nat) = i) (kk : ∀ L S Y h, Qn L S Y h → am_At X Q nL n1 n2 (pc + 1) L S Y h) : ∀ L S Y h, tm_aload i Qn L S Y h → am_At X Q nL n1 n2 pc L S Y h := by
  obtain ⟨p, l, e, R, s, m, args, below, meth, c, G, o⟩ := X
  obtain ⟨hx, hb, hml, hown, hts, hE, ho, hd1, hd2, hlk⟩ := F
  intro L S Y h hq H locs ls hz hP hS hl
  obtain ⟨x, hk, ⟨j, rfl⟩ | ⟨j, rfl⟩, hq⟩ := am_or_of hq
  · exact lv_aload_n hx hb hd hi (hl.get hk (by simp)) (kk _ _ _ _ hq H locs ls hz hP hS hl)
  · exact lv_aload_n hx hb hd hi (hl.get hk (by simp)) (kk _ _ _ _ hq H locs ls hz hP hS hl)
theorem a_aload {i : Nat} (F : am_Fx X d own cc nL) (hd : decode cc pc = .ok (.aload i, 2)) (kk : ∀ L S Y h, Qn L S Y h → am_At X Q nL n1 n2 (pc + 2) L S Y h) : ∀ L S Y h, tm_aload i Qn L S Y h → am_At X Q nL n1 n2 pc L S Y h := by
  obtain ⟨p, l, e, R, s, m, args, below, meth, c, G, o⟩ := X
  obtain ⟨hx, hb, hml, hown, hts, hE, ho, hd1, hd2, hlk⟩ := F
  intro L S Y h hq H locs ls hz hP hS hl
  obtain ⟨x, hk, ⟨j, rfl⟩ | ⟨j, rfl⟩, hq⟩ := am_or_of hq
  · exact lv_aload hx hb hd (hl.get hk (by simp)) (kk _ _ _ _ hq H locs ls hz hP hS hl)
  · exact lv_aload hx hb hd (hl.get hk (by simp)) (kk _ _ _ _ hq H locs ls hz hP hS hl)
theorem a_istore_n {k : Fin 4} {i : Nat} (F : am_Fx X d own cc nL) (hd : decode cc pc = .ok (.istore_n k, 1)) (hi : (k : Nat) = i) (kk : ∀ L S Y h, Qn L S Y h → am_At X Q nL n1 n2 (pc + 1) L S Y h) : ∀ L S Y h, tm_istore i Qn L S Y h → am_At X Q nL n1 n2 pc L S Y h := by
  obtain ⟨p, l, e, R, s, m, args, below, meth, c, G, o⟩ := X
  obtain ⟨hx, hb, hml, hown, hts, hE, ho, hd1, hd2, hlk⟩ := F
  intro L S Y h hq H locs ls hz hP hS hl
  obtain ⟨x, S1, rfl, h1, h2, hq⟩ := am_pi_of hq
  rw [hl.2.1] at h1
  exact lv_istore_n hx hb hd hi hl.has h1 rfl (fun ls' hl' => kk _ _ _ _ hq H locs ls' hz hP hS (hl.set1 (v := .int x) h1 h2 hl'))
theorem a_istore {i : Nat} (F : am_Fx X d own cc nL) (hd : decode cc pc = .ok (.istore i, 2)) (kk : ∀ L S Y h, Qn L S Y h → am_At X Q nL n1 n2 (pc + 2) L S Y h) : ∀ L S Y h, tm_istore i Qn L S Y h → am_At X Q nL n1 n2 pc L S Y h := by
  obtain ⟨p, l, e, R, s, m, args, below, meth, c, G, o⟩ := X
  obtain ⟨hx, hb, hml, hown, hts, hE, ho, hd1, hd2, hlk⟩ := F
  intro L S Y h hq H locs ls hz hP hS hl
  obtain ⟨x, S1, rfl, h1, h2, hq⟩ := am_pi_of hq
  rw [hl.2.1] at h1
  exact lv_istore hx hb hd hl.has h1 rfl (fun ls' hl' => kk _ _ _ _ hq H locs ls' hz hP hS (hl.set1 (v := .int x) h1 h2 hl'))
theorem a_lstore_n {k : Fin 4} {i : Nat} (F : am_Fx X d own cc nL) (hd : decode cc pc = .ok (.lstore_n k, 1)) (hi : (k : Nat) = i) (kk : ∀ L S Y h, Qn L S Y h → am_At X Q nL n1 n2 (pc + 1) L S Y h) : ∀ L S Y h, tm_lstore i Qn L S Y h → am_At X Q nL n1 n2 pc L S Y h := by
  obtain ⟨p, l, e, R, s, m, args, below, meth, c, G, o⟩ := X
  obtain ⟨hx, hb, hml, hown, hts, hE, ho, hd1, hd2, hlk⟩ := F
  intro L S Y h hq H locs ls hz hP hS hl
  obtain ⟨x, S1, rfl, h1, h2, hq⟩ := am_pj_of hq
  rw [hl.2.1] at h1
  exact lv_lstore_n hx hb hd hi hl.has h1 rfl (fun ls' hl' => kk _ _ _ _ hq H locs ls' hz hP hS (hl.set2 (v := .long x) h1 h2 hl'))
theorem a_lstore {i : Nat} (F : am_Fx X d own cc nL) (hd : decode cc pc = .ok (.lstore i, 2)) (kk : ∀ L S Y h, Qn L S Y h → am_At X Q nL n1 n2 (pc + 2) L S Y h) : ∀ L S Y h, tm_lstore i Qn L S Y h → am_At X Q nL n1 n2 pc L S Y h := by
  obtain ⟨p, l, e, R, s, m, args, below, meth, c, G, o⟩ := X
  obtain ⟨hx, hb, hml, hown, hts, hE, ho, hd1, hd2, hlk⟩ := F
  intro L S Y h hq H locs ls hz hP hS hl
  obtain ⟨x, S1, rfl, h1, h2, hq⟩ := am_pj_of hq
  rw [hl.2.1] at h1
  exact lv_lstore hx hb hd hl.has h1 rfl (fun ls' hl' => kk _ _ _ _ hq H locs ls' hz hP hS (hl.set2 (v := .long x) h1 h2 hl'))
theorem a_astore_n {k : Fin 4} {i : Nat} (F : am_Fx X d own cc nL) (hd : decode cc pc = .ok (.astore_n k, 1)) (hi : (k : Nat) = i) (kk : ∀ L S Y h, Qn L S Y h → am_At X Q nL n1 n2 (pc + 1) L S Y h) : ∀ L S Y h, tm_astore i Qn L S Y h → am_At X Q nL n1 n2 pc L S Y h := by
  obtain ⟨p, l, e, R, s, m, args, below, meth, c, G, o⟩ := X
  obtain ⟨hx, hb, hml, hown, hts, hE, ho, hd1, hd2, hlk⟩ := F
  intro L S Y h hq H locs ls hz hP hS hl
  obtain ⟨x, S1, rfl, ⟨j, rfl⟩ | ⟨j, rfl⟩, h1, h2, hq⟩ := am_pa_of hq
  · rw [hl.2.1] at h1
    exact lv_astore_n hx hb hd hi hl.has h1 rfl (fun ls' hl' => kk _ _ _ _ hq H locs ls' hz hP hS (hl.set1 (v := .ref j) h1 h2 hl'))
  · rw [hl.2.1] at h1
    exact lv_astore_n hx hb hd hi hl.has h1 rfl (fun ls' hl' => kk _ _ _ _ hq H locs ls' hz hP hS (hl.set1 (v := .float j) h1 h2 hl'))
theorem a_astore {i : Nat} (F : am_Fx X d own cc nL) (hd : decode cc pc = .ok (.astore i, 2)) (kk : ∀ L S Y h, Qn L S Y h → am_At X Q nL n1 n2 (pc + 2) L S Y h) : ∀ L S Y h, tm_astore i Qn L S Y h → am_At X Q nL n1 n2 pc L S Y h := by
  obtain ⟨p, l, e, R, s, m, args, below, meth, c, G, o⟩ := X
  obtain ⟨hx, hb, hml, hown, hts, hE, ho, hd1, hd2, hlk⟩ := F
  intro L S Y h hq H locs ls hz hP hS hl
  obtain ⟨x, S1, rfl, ⟨j, rfl⟩ | ⟨j, rfl⟩, h1, h2, hq⟩ := am_pa_of hq
  · rw [hl.2.1] at h1
    exact lv_astore hx hb hd hl.has h1 rfl (fun ls' hl' => kk _ _ _ _ hq H locs ls' hz hP hS (hl.set1 (v := .ref j) h1 h2 hl'))
  · rw [hl.2.1] at h1
    exact lv_astore hx hb hd hl.has h1 rfl (fun ls' hl' => kk _ _ _ _ hq H locs ls' hz hP hS (hl.set1 (v := .float j) h1 h2 hl'))
theorem a_iinc {i : Nat} {n : Int} {v : Int32} (F : am_Fx X d own cc nL) (hd : decode cc pc = .ok (.iinc i n, 3)) (hv : Int32.ofInt n = v) (kk : ∀ L S Y h, Qn L S Y h → am_At X Q nL n1 n2 (pc + 3) L S Y h) : ∀ L S Y h, tm_iinc i v Qn L S Y h → am_At X Q nL n1 n2 pc L S Y h := by
  obtain ⟨p, l, e, R, s, m, args, below, meth, c, G, o⟩ := X
  obtain ⟨hx, hb, hml, hown, hts, hE, ho, hd1, hd2, hlk⟩ := F
  intro L S Y h hq H locs ls hz hP hS hl
  obtain ⟨x, hk, h1, h2, hq⟩ := am_oi_of hq
  rw [hl.2.1] at h1
  have hmem : (i, Value.int x) ∈ am_pl G o L := am_pl_mem.mpr ⟨.int x, hk, by simp, rfl⟩
  obtain ⟨k, hk2⟩ := List.getElem?_of_mem hmem
  exact lv_iinc hx hb hd hl.has (k := k) hk2 (v := x + v) (by rw [hv]) h1 rfl (fun ls' hl' => kk _ _ _ _ hq H locs ls' hz hP hS (hl.set1 (v := .int (x + v)) h1 h2 hl'))
-- BY mksnd.py
theorem a_iadd (F : am_Fx X d own cc nL) (hd : decode cc pc = .ok (.iadd, 1)) (kk : ∀ L S Y h, Qn L S Y h → am_At X Q nL n1 n2 (pc + 1) L S Y h) : ∀ L S Y h, tm_bin (fun x y => x + y) Qn L S Y h → am_At X Q nL n1 n2 pc L S Y h := by
  obtain ⟨p, l, e, R, s, m, args, below, meth, c, G, o⟩ := X
  obtain ⟨hx, hb, hml, hown, hts, hE, ho, hd1, hd2, hlk⟩ := F
  intro L S Y h hq H locs ls hz hP hS hl
  obtain ⟨y, S1, rfl, hq1⟩ := am_pi_of hq
  obtain ⟨x, S2, rfl, hq2⟩ := am_pi_of hq1
  exact lv_iadd hx hb hd (kk _ _ _ _ hq2 H locs ls hz hP hS hl)
theorem a_isub (F : am_Fx X d own cc nL) (hd : decode cc pc = .ok (.isub, 1)) (kk : ∀ L S Y h, Qn L S Y h → am_At X Q nL n1 n2 (pc + 1) L S Y h) : ∀ L S Y h, tm_bin (fun x y => x - y) Qn L S Y h → am_At X Q nL n1 n2 pc L S Y h := by
  obtain ⟨p, l, e, R, s, m, args, below, meth, c, G, o⟩ := X
  obtain ⟨hx, hb, hml, hown, hts, hE, ho, hd1, hd2, hlk⟩ := F
  intro L S Y h hq H locs ls hz hP hS hl
  obtain ⟨y, S1, rfl, hq1⟩ := am_pi_of hq
  obtain ⟨x, S2, rfl, hq2⟩ := am_pi_of hq1
  exact lv_isub hx hb hd (kk _ _ _ _ hq2 H locs ls hz hP hS hl)
theorem a_imul (F : am_Fx X d own cc nL) (hd : decode cc pc = .ok (.imul, 1)) (kk : ∀ L S Y h, Qn L S Y h → am_At X Q nL n1 n2 (pc + 1) L S Y h) : ∀ L S Y h, tm_bin (fun x y => x * y) Qn L S Y h → am_At X Q nL n1 n2 pc L S Y h := by
  obtain ⟨p, l, e, R, s, m, args, below, meth, c, G, o⟩ := X
  obtain ⟨hx, hb, hml, hown, hts, hE, ho, hd1, hd2, hlk⟩ := F
  intro L S Y h hq H locs ls hz hP hS hl
  obtain ⟨y, S1, rfl, hq1⟩ := am_pi_of hq
  obtain ⟨x, S2, rfl, hq2⟩ := am_pi_of hq1
  exact lv_imul hx hb hd (kk _ _ _ _ hq2 H locs ls hz hP hS hl)
theorem a_iand (F : am_Fx X d own cc nL) (hd : decode cc pc = .ok (.iand, 1)) (kk : ∀ L S Y h, Qn L S Y h → am_At X Q nL n1 n2 (pc + 1) L S Y h) : ∀ L S Y h, tm_bin (fun x y => x &&& y) Qn L S Y h → am_At X Q nL n1 n2 pc L S Y h := by
  obtain ⟨p, l, e, R, s, m, args, below, meth, c, G, o⟩ := X
  obtain ⟨hx, hb, hml, hown, hts, hE, ho, hd1, hd2, hlk⟩ := F
  intro L S Y h hq H locs ls hz hP hS hl
  obtain ⟨y, S1, rfl, hq1⟩ := am_pi_of hq
  obtain ⟨x, S2, rfl, hq2⟩ := am_pi_of hq1
  exact lv_iand hx hb hd (kk _ _ _ _ hq2 H locs ls hz hP hS hl)
theorem a_ior (F : am_Fx X d own cc nL) (hd : decode cc pc = .ok (.ior, 1)) (kk : ∀ L S Y h, Qn L S Y h → am_At X Q nL n1 n2 (pc + 1) L S Y h) : ∀ L S Y h, tm_bin (fun x y => x ||| y) Qn L S Y h → am_At X Q nL n1 n2 pc L S Y h := by
  obtain ⟨p, l, e, R, s, m, args, below, meth, c, G, o⟩ := X
  obtain ⟨hx, hb, hml, hown, hts, hE, ho, hd1, hd2, hlk⟩ := F
  intro L S Y h hq H locs ls hz hP hS hl
  obtain ⟨y, S1, rfl, hq1⟩ := am_pi_of hq
  obtain ⟨x, S2, rfl, hq2⟩ := am_pi_of hq1
  exact lv_ior hx hb hd (kk _ _ _ _ hq2 H locs ls hz hP hS hl)
theorem a_ixor (F : am_Fx X d own cc nL) (hd : decode cc pc = .ok (.ixor, 1)) (kk : ∀ L S Y h, Qn L S Y h → am_At X Q nL n1 n2 (pc + 1) L S Y h) : ∀ L S Y h, tm_bin (fun x y => x ^^^ y) Qn L S Y h → am_At X Q nL n1 n2 pc L S Y h := by
  obtain ⟨p, l, e, R, s, m, args, below, meth, c, G, o⟩ := X
  obtain ⟨hx, hb, hml, hown, hts, hE, ho, hd1, hd2, hlk⟩ := F
  intro L S Y h hq H locs ls hz hP hS hl
  obtain ⟨y, S1, rfl, hq1⟩ := am_pi_of hq
  obtain ⟨x, S2, rfl, hq2⟩ := am_pi_of hq1
  exact lv_ixor hx hb hd (kk _ _ _ _ hq2 H locs ls hz hP hS hl)
theorem a_ishl (F : am_Fx X d own cc nL) (hd : decode cc pc = .ok (.ishl, 1)) (kk : ∀ L S Y h, Qn L S Y h → am_At X Q nL n1 n2 (pc + 1) L S Y h) : ∀ L S Y h, tm_bin (fun x y => x <<< (y &&& 31)) Qn L S Y h → am_At X Q nL n1 n2 pc L S Y h := by
  obtain ⟨p, l, e, R, s, m, args, below, meth, c, G, o⟩ := X
  obtain ⟨hx, hb, hml, hown, hts, hE, ho, hd1, hd2, hlk⟩ := F
  intro L S Y h hq H locs ls hz hP hS hl
  obtain ⟨y, S1, rfl, hq1⟩ := am_pi_of hq
  obtain ⟨x, S2, rfl, hq2⟩ := am_pi_of hq1
  exact lv_ishl hx hb hd (kk _ _ _ _ hq2 H locs ls hz hP hS hl)
theorem a_ishr (F : am_Fx X d own cc nL) (hd : decode cc pc = .ok (.ishr, 1)) (kk : ∀ L S Y h, Qn L S Y h → am_At X Q nL n1 n2 (pc + 1) L S Y h) : ∀ L S Y h, tm_bin (fun x y => x >>> (y &&& 31)) Qn L S Y h → am_At X Q nL n1 n2 pc L S Y h := by
  obtain ⟨p, l, e, R, s, m, args, below, meth, c, G, o⟩ := X
  obtain ⟨hx, hb, hml, hown, hts, hE, ho, hd1, hd2, hlk⟩ := F
  intro L S Y h hq H locs ls hz hP hS hl
  obtain ⟨y, S1, rfl, hq1⟩ := am_pi_of hq
  obtain ⟨x, S2, rfl, hq2⟩ := am_pi_of hq1
  exact lv_ishr hx hb hd (kk _ _ _ _ hq2 H locs ls hz hP hS hl)
theorem a_iushr (F : am_Fx X d own cc nL) (hd : decode cc pc = .ok (.iushr, 1)) (kk : ∀ L S Y h, Qn L S Y h → am_At X Q nL n1 n2 (pc + 1) L S Y h) : ∀ L S Y h, tm_bin (fun x y => (x.toUInt32 >>> (y.toUInt32 &&& Int32.toUInt32 31)).toInt32) Qn L S Y h → am_At X Q nL n1 n2 pc L S Y h := by
  obtain ⟨p, l, e, R, s, m, args, below, meth, c, G, o⟩ := X
  obtain ⟨hx, hb, hml, hown, hts, hE, ho, hd1, hd2, hlk⟩ := F
  intro L S Y h hq H locs ls hz hP hS hl
  obtain ⟨y, S1, rfl, hq1⟩ := am_pi_of hq
  obtain ⟨x, S2, rfl, hq2⟩ := am_pi_of hq1
  exact lv_iushr hx hb hd rfl (kk _ _ _ _ hq2 H locs ls hz hP hS hl)
theorem a_idiv (F : am_Fx X d own cc nL) (hd : decode cc pc = .ok (.idiv, 1)) (kk : ∀ L S Y h, Qn L S Y h → am_At X Q nL n1 n2 (pc + 1) L S Y h) : ∀ L S Y h, tm_div (fun x y => x / y) Qn L S Y h → am_At X Q nL n1 n2 pc L S Y h := by
  obtain ⟨p, l, e, R, s, m, args, below, meth, c, G, o⟩ := X
  obtain ⟨hx, hb, hml, hown, hts, hE, ho, hd1, hd2, hlk⟩ := F
  intro L S Y h hq H locs ls hz hP hS hl
  obtain ⟨y, S1, rfl, hq1⟩ := am_pi_of hq
  obtain ⟨x, S2, rfl, hne, hq2⟩ := am_pi_of hq1
  exact lv_idiv hx hb hd hne (kk _ _ _ _ hq2 H locs ls hz hP hS hl)
theorem a_irem (F : am_Fx X d own cc nL) (hd : decode cc pc = .ok (.irem, 1)) (kk : ∀ L S Y h, Qn L S Y h → am_At X Q nL n1 n2 (pc + 1) L S Y h) : ∀ L S Y h, tm_div (fun x y => x - x / y * y) Qn L S Y h → am_At X Q nL n1 n2 pc L S Y h := by
  obtain ⟨p, l, e, R, s, m, args, below, meth, c, G, o⟩ := X
  obtain ⟨hx, hb, hml, hown, hts, hE, ho, hd1, hd2, hlk⟩ := F
  intro L S Y h hq H locs ls hz hP hS hl
  obtain ⟨y, S1, rfl, hq1⟩ := am_pi_of hq
  obtain ⟨x, S2, rfl, hne, hq2⟩ := am_pi_of hq1
  exact lv_irem hx hb hd hne (kk _ _ _ _ hq2 H locs ls hz hP hS hl)
theorem a_ineg (F : am_Fx X d own cc nL) (hd : decode cc pc = .ok (.ineg, 1)) (kk : ∀ L S Y h, Qn L S Y h → am_At X Q nL n1 n2 (pc + 1) L S Y h) : ∀ L S Y h, tm_un (fun x => -x) Qn L S Y h → am_At X Q nL n1 n2 pc L S Y h := by
  obtain ⟨p, l, e, R, s, m, args, below, meth, c, G, o⟩ := X
  obtain ⟨hx, hb, hml, hown, hts, hE, ho, hd1, hd2, hlk⟩ := F
  intro L S Y h hq H locs ls hz hP hS hl
  obtain ⟨x, S1, rfl, hq2⟩ := am_pi_of hq
  exact lv_ineg hx hb hd (kk _ _ _ _ hq H locs ls hz hP hS hl)
theorem a_i2b (F : am_Fx X d own cc nL) (hd : decode cc pc = .ok (.i2b, 1)) (kk : ∀ L S Y h, Qn L S Y h → am_At X Q nL n1 n2 (pc + 1) L S Y h) : ∀ L S Y h, tm_un (fun x => x.toInt8.toInt32) Qn L S Y h → am_At X Q nL n1 n2 pc L S Y h := by
  obtain ⟨p, l, e, R, s, m, args, below, meth, c, G, o⟩ := X
  obtain ⟨hx, hb, hml, hown, hts, hE, ho, hd1, hd2, hlk⟩ := F
  intro L S Y h hq H locs ls hz hP hS hl
  obtain ⟨x, S1, rfl, hq2⟩ := am_pi_of hq
  exact lv_i2b hx hb hd rfl (kk _ _ _ _ hq H locs ls hz hP hS hl)
theorem a_i2s (F : am_Fx X d own cc nL) (hd : decode cc pc = .ok (.i2s, 1)) (kk : ∀ L S Y h, Qn L S Y h → am_At X Q nL n1 n2 (pc + 1) L S Y h) : ∀ L S Y h, tm_un (fun x => x.toInt16.toInt32) Qn L S Y h → am_At X Q nL n1 n2 pc L S Y h := by
  obtain ⟨p, l, e, R, s, m, args, below, meth, c, G, o⟩ := X
  obtain ⟨hx, hb, hml, hown, hts, hE, ho, hd1, hd2, hlk⟩ := F
  intro L S Y h hq H locs ls hz hP hS hl
  obtain ⟨x, S1, rfl, hq2⟩ := am_pi_of hq
  exact lv_i2s hx hb hd rfl (kk _ _ _ _ hq H locs ls hz hP hS hl)
theorem a_ladd (F : am_Fx X d own cc nL) (hd : decode cc pc = .ok (.ladd, 1)) (kk : ∀ L S Y h, Qn L S Y h → am_At X Q nL n1 n2 (pc + 1) L S Y h) : ∀ L S Y h, tm_lbin (fun x y => x + y) Qn L S Y h → am_At X Q nL n1 n2 pc L S Y h := by
  obtain ⟨p, l, e, R, s, m, args, below, meth, c, G, o⟩ := X
  obtain ⟨hx, hb, hml, hown, hts, hE, ho, hd1, hd2, hlk⟩ := F
  intro L S Y h hq H locs ls hz hP hS hl
  obtain ⟨y, S1, rfl, hq1⟩ := am_pj_of hq
  obtain ⟨x, S2, rfl, hq2⟩ := am_pj_of hq1
  exact lv_ladd hx hb hd (kk _ _ _ _ hq2 H locs ls hz hP hS hl)
theorem a_lsub (F : am_Fx X d own cc nL) (hd : decode cc pc = .ok (.lsub, 1)) (kk : ∀ L S Y h, Qn L S Y h → am_At X Q nL n1 n2 (pc + 1) L S Y h) : ∀ L S Y h, tm_lbin (fun x y => x - y) Qn L S Y h → am_At X Q nL n1 n2 pc L S Y h := by
  obtain ⟨p, l, e, R, s, m, args, below, meth, c, G, o⟩ := X
  obtain ⟨hx, hb, hml, hown, hts, hE, ho, hd1, hd2, hlk⟩ := F
  intro L S Y h hq H locs ls hz hP hS hl
  obtain ⟨y, S1, rfl, hq1⟩ := am_pj_of hq
  obtain ⟨x, S2, rfl, hq2⟩ := am_pj_of hq1
  exact lv_lsub hx hb hd (kk _ _ _ _ hq2 H locs ls hz hP hS hl)
theorem a_lmul (F : am_Fx X d own cc nL) (hd : decode cc pc = .ok (.lmul, 1)) (kk : ∀ L S Y h, Qn L S Y h → am_At X Q nL n1 n2 (pc + 1) L S Y h) : ∀ L S Y h, tm_lbin (fun x y => x * y) Qn L S Y h → am_At X Q nL n1 n2 pc L S Y h := by
  obtain ⟨p, l, e, R, s, m, args, below, meth, c, G, o⟩ := X
  obtain ⟨hx, hb, hml, hown, hts, hE, ho, hd1, hd2, hlk⟩ := F
  intro L S Y h hq H locs ls hz hP hS hl
  obtain ⟨y, S1, rfl, hq1⟩ := am_pj_of hq
  obtain ⟨x, S2, rfl, hq2⟩ := am_pj_of hq1
  exact lv_lmul hx hb hd (kk _ _ _ _ hq2 H locs ls hz hP hS hl)
theorem a_lor (F : am_Fx X d own cc nL) (hd : decode cc pc = .ok (.lor, 1)) (kk : ∀ L S Y h, Qn L S Y h → am_At X Q nL n1 n2 (pc + 1) L S Y h) : ∀ L S Y h, tm_lbin (fun x y => x ||| y) Qn L S Y h → am_At X Q nL n1 n2 pc L S Y h := by
  obtain ⟨p, l, e, R, s, m, args, below, meth, c, G, o⟩ := X
  obtain ⟨hx, hb, hml, hown, hts, hE, ho, hd1, hd2, hlk⟩ := F
  intro L S Y h hq H locs ls hz hP hS hl
  obtain ⟨y, S1, rfl, hq1⟩ := am_pj_of hq
  obtain ⟨x, S2, rfl, hq2⟩ := am_pj_of hq1
  exact lv_lor hx hb hd (kk _ _ _ _ hq2 H locs ls hz hP hS hl)
theorem a_ldiv (F : am_Fx X d own cc nL) (hd : decode cc pc = .ok (.ldiv, 1)) (kk : ∀ L S Y h, Qn L S Y h → am_At X Q nL n1 n2 (pc + 1) L S Y h) : ∀ L S Y h, tm_ldiv (fun x y => x / y) Qn L S Y h → am_At X Q nL n1 n2 pc L S Y h := by
  obtain ⟨p, l, e, R, s, m, args, below, meth, c, G, o⟩ := X
  obtain ⟨hx, hb, hml, hown, hts, hE, ho, hd1, hd2, hlk⟩ := F
  intro L S Y h hq H locs ls hz hP hS hl
  obtain ⟨y, S1, rfl, hq1⟩ := am_pj_of hq
  obtain ⟨x, S2, rfl, hne, hq2⟩ := am_pj_of hq1
  exact lv_ldiv hx hb hd hne (kk _ _ _ _ hq2 H locs ls hz hP hS hl)
theorem a_lrem (F : am_Fx X d own cc nL) (hd : decode cc pc = .ok (.lrem, 1)) (kk : ∀ L S Y h, Qn L S Y h → am_At X Q nL n1 n2 (pc + 1) L S Y h) : ∀ L S Y h, tm_ldiv (fun x y => x - x / y * y) Qn L S Y h → am_At X Q nL n1 n2 pc L S Y h := by
  obtain ⟨p, l, e, R, s, m, args, below, meth, c, G, o⟩ := X
  obtain ⟨hx, hb, hml, hown, hts, hE, ho, hd1, hd2, hlk⟩ := F
  intro L S Y h hq H locs ls hz hP hS hl
  obtain ⟨y, S1, rfl, hq1⟩ := am_pj_of hq
  obtain ⟨x, S2, rfl, hne, hq2⟩ := am_pj_of hq1
  exact lv_lrem hx hb hd hne (kk _ _ _ _ hq2 H locs ls hz hP hS hl)
theorem a_lshl (F : am_Fx X d own cc nL) (hd : decode cc pc = .ok (.lshl, 1)) (kk : ∀ L S Y h, Qn L S Y h → am_At X Q nL n1 n2 (pc + 1) L S Y h) : ∀ L S Y h, tm_lsh Qn L S Y h → am_At X Q nL n1 n2 pc L S Y h := by
  obtain ⟨p, l, e, R, s, m, args, below, meth, c, G, o⟩ := X
  obtain ⟨hx, hb, hml, hown, hts, hE, ho, hd1, hd2, hlk⟩ := F
  intro L S Y h hq H locs ls hz hP hS hl
  obtain ⟨y, S1, rfl, hq1⟩ := am_pi_of hq
  obtain ⟨x, S2, rfl, hq2⟩ := am_pj_of hq1
  exact lv_lshl hx hb hd rfl (kk _ _ _ _ hq2 H locs ls hz hP hS hl)
theorem a_lcmp (F : am_Fx X d own cc nL) (hd : decode cc pc = .ok (.lcmp, 1)) (kk : ∀ L S Y h, Qn L S Y h → am_At X Q nL n1 n2 (pc + 1) L S Y h) : ∀ L S Y h, tm_lcmp Qn L S Y h → am_At X Q nL n1 n2 pc L S Y h := by
  obtain ⟨p, l, e, R, s, m, args, below, meth, c, G, o⟩ := X
  obtain ⟨hx, hb, hml, hown, hts, hE, ho, hd1, hd2, hlk⟩ := F
  intro L S Y h hq H locs ls hz hP hS hl
  obtain ⟨y, S1, rfl, hq1⟩ := am_pj_of hq
  obtain ⟨x, S2, rfl, hq2⟩ := am_pj_of hq1
  exact W.lcmp hx hb hd (kk _ _ _ _ hq2 H locs ls hz hP hS hl)
theorem a_i2l (F : am_Fx X d own cc nL) (hd : decode cc pc = .ok (.i2l, 1)) (kk : ∀ L S Y h, Qn L S Y h → am_At X Q nL n1 n2 (pc + 1) L S Y h) : ∀ L S Y h, tm_i2l Qn L S Y h → am_At X Q nL n1 n2 pc L S Y h := by
  obtain ⟨p, l, e, R, s, m, args, below, meth, c, G, o⟩ := X
  obtain ⟨hx, hb, hml, hown, hts, hE, ho, hd1, hd2, hlk⟩ := F
  intro L S Y h hq H locs ls hz hP hS hl
  obtain ⟨x, S1, rfl, hq2⟩ := am_pi_of hq
  exact lv_i2l hx hb hd rfl (kk _ _ _ _ hq2 H locs ls hz hP hS hl)
theorem a_l2i (F : am_Fx X d own cc nL) (hd : decode cc pc = .ok (.l2i, 1)) (kk : ∀ L S Y h, Qn L S Y h → am_At X Q nL n1 n2 (pc + 1) L S Y h) : ∀ L S Y h, tm_l2i Qn L S Y h → am_At X Q nL n1 n2 pc L S Y h := by
  obtain ⟨p, l, e, R, s, m, args, below, meth, c, G, o⟩ := X
  obtain ⟨hx, hb, hml, hown, hts, hE, ho, hd1, hd2, hlk⟩ := F
  intro L S Y h hq H locs ls hz hP hS hl
  obtain ⟨x, S1, rfl, hq2⟩ := am_pj_of hq
  exact lv_l2i hx hb hd rfl (kk _ _ _ _ hq2 H locs ls hz hP hS hl)
theorem a_dup (F : am_Fx X d own cc nL) (hd : decode cc pc = .ok (.dup, 1)) (kk : ∀ L S Y h, Qn L S Y h → am_At X Q nL n1 n2 (pc + 1) L S Y h) : ∀ L S Y h, tm_dup Qn L S Y h → am_At X Q nL n1 n2 pc L S Y h := by
  obtain ⟨p, l, e, R, s, m, args, below, meth, c, G, o⟩ := X
  obtain ⟨hx, hb, hml, hown, hts, hE, ho, hd1, hd2, hlk⟩ := F
  intro L S Y h hq H locs ls hz hP hS hl
  cases S with
  | nil => exact hq.elim
  | cons v S1 =>
    obtain ⟨hc, hq2⟩ := hq
    exact lv_dup hx hb hd (by rw [am_v_cat]; exact hc) (kk _ _ _ _ hq2 H locs ls hz hP hS hl)
theorem a_pop (F : am_Fx X d own cc nL) (hd : decode cc pc = .ok (.pop, 1)) (kk : ∀ L S Y h, Qn L S Y h → am_At X Q nL n1 n2 (pc + 1) L S Y h) : ∀ L S Y h, tm_pop Qn L S Y h → am_At X Q nL n1 n2 pc L S Y h := by
  obtain ⟨p, l, e, R, s, m, args, below, meth, c, G, o⟩ := X
  obtain ⟨hx, hb, hml, hown, hts, hE, ho, hd1, hd2, hlk⟩ := F
  intro L S Y h hq H locs ls hz hP hS hl
  cases S with
  | nil => exact hq.elim
  | cons v S1 =>
    obtain ⟨hc, hq2⟩ := hq
    exact lv_pop hx hb hd (by rw [am_v_cat]; exact hc) (kk _ _ _ _ hq2 H locs ls hz hP hS hl)
theorem a_if_eq {off : Int} {tgt : Nat} (F : am_Fx X d own cc nL) (hd : decode cc pc = .ok (.ifCond .eq off, 3)) (ht : (pc : Int) + off = (tgt : Int)) (kt : ∀ L S Y h, Qt L S Y h → am_At X Q nL n1 n2 tgt L S Y h) (kf : ∀ L S Y h, Qf L S Y h → am_At X Q nL n1 n2 (pc + 3) L S Y h) : ∀ L S Y h, tm_if (fun x => x = 0) Qt Qf L S Y h → am_At X Q nL n1 n2 pc L S Y h := by
  obtain ⟨p, l, e, R, s, m, args, below, meth, c, G, o⟩ := X
  obtain ⟨hx, hb, hml, hown, hts, hE, ho, hd1, hd2, hlk⟩ := F
  intro L S Y h hq H locs ls hz hP hS hl
  obtain ⟨x, S1, rfl, hq1, hq2⟩ := am_pi_of hq
  exact lv_if_eq hx hb hd ht (fun q => kt _ _ _ _ (hq1 q) H locs ls hz hP hS hl) (fun q => kf _ _ _ _ (hq2 q) H locs ls hz hP hS hl)
theorem a_if_lt {off : Int} {tgt : Nat} (F : am_Fx X d own cc nL) (hd : decode cc pc = .ok (.ifCond .lt off, 3)) (ht : (pc : Int) + off = (tgt : Int)) (kt : ∀ L S Y h, Qt L S Y h → am_At X Q nL n1 n2 tgt L S Y h) (kf : ∀ L S Y h, Qf L S Y h → am_At X Q nL n1 n2 (pc + 3) L S Y h) : ∀ L S Y h, tm_if (fun x => x < 0) Qt Qf L S Y h → am_At X Q nL n1 n2 pc L S Y h := by
  obtain ⟨p, l, e, R, s, m, args, below, meth, c, G, o⟩ := X
  obtain ⟨hx, hb, hml, hown, hts, hE, ho, hd1, hd2, hlk⟩ := F
  intro L S Y h hq H locs ls hz hP hS hl
  obtain ⟨x, S1, rfl, hq1, hq2⟩ := am_pi_of hq
  exact lv_if_lt hx hb hd ht (fun q => kt _ _ _ _ (hq1 q) H locs ls hz hP hS hl) (fun q => kf _ _ _ _ (hq2 q) H locs ls hz hP hS hl)
theorem a_if_ge {off : Int} {tgt : Nat} (F : am_Fx X d own cc nL) (hd : decode cc pc = .ok (.ifCond .ge off, 3)) (ht : (pc : Int) + off = (tgt : Int)) (kt : ∀ L S Y h, Qt L S Y h → am_At X Q nL n1 n2 tgt L S Y h) (kf : ∀ L S Y h, Qf L S Y h → am_At X Q nL n1 n2 (pc + 3) L S Y h) : ∀ L S Y h, tm_if (fun x => 0 ≤ x) Qt Qf L S Y h → am_At X Q nL n1 n2 pc L S Y h := by
  obtain ⟨p, l, e, R, s, m, args, below, meth, c, G, o⟩ := X
  obtain ⟨hx, hb, hml, hown, hts, hE, ho, hd1, hd2, hlk⟩ := F
  intro L S Y h hq H locs ls hz hP hS hl
  obtain ⟨x, S1, rfl, hq1, hq2⟩ := am_pi_of hq
  exact lv_if_ge hx hb hd ht (fun q => kt _ _ _ _ (hq1 q) H locs ls hz hP hS hl) (fun q => kf _ _ _ _ (hq2 q) H locs ls hz hP hS hl)
theorem a_if_gt {off : Int} {tgt : Nat} (F : am_Fx X d own cc nL) (hd : decode cc pc = .ok (.ifCond .gt off, 3)) (ht : (pc : Int) + off = (tgt : Int)) (kt : ∀ L S Y h, Qt L S Y h → am_At X Q nL n1 n2 tgt L S Y h) (kf : ∀ L S Y h, Qf L S Y h → am_At X Q nL n1 n2 (pc + 3) L S Y h) : ∀ L S Y h, tm_if (fun x => 0 < x) Qt Qf L S Y h → am_At X Q nL n1 n2 pc L S Y h := by
  obtain ⟨p, l, e, R, s, m, args, below, meth, c, G, o⟩ := X
  obtain ⟨hx, hb, hml, hown, hts, hE, ho, hd1, hd2, hlk⟩ := F
  intro L S Y h hq H locs ls hz hP hS hl
  obtain ⟨x, S1, rfl, hq1, hq2⟩ := am_pi_of hq
  exact lv_if_gt hx hb hd ht (fun q => kt _ _ _ _ (hq1 q) H locs ls hz hP hS hl) (fun q => kf _ _ _ _ (hq2 q) H locs ls hz hP hS hl)
theorem a_if_le {off : Int} {tgt : Nat} (F : am_Fx X d own cc nL) (hd : decode cc pc = .ok (.ifCond .le off, 3)) (ht : (pc : Int) + off = (tgt : Int)) (kt : ∀ L S Y h, Qt L S Y h → am_At X Q nL n1 n2 tgt L S Y h) (kf : ∀ L S Y h, Qf L S Y h → am_At X Q nL n1 n2 (pc + 3) L S Y h) : ∀ L S Y h, tm_if (fun x => x ≤ 0) Qt Qf L S Y h → am_At X Q nL n1 n2 pc L S Y h := by
  obtain ⟨p, l, e, R, s, m, args, below, meth, c, G, o⟩ := X
  obtain ⟨hx, hb, hml, hown, hts, hE, ho, hd1, hd2, hlk⟩ := F
  intro L S Y h hq H locs ls hz hP hS hl
  obtain ⟨x, S1, rfl, hq1, hq2⟩ := am_pi_of hq
  exact lv_if_le hx hb hd ht (fun q => kt _ _ _ _ (hq1 q) H locs ls hz hP hS hl) (fun q => kf _ _ _ _ (hq2 q) H locs ls hz hP hS hl)
theorem a_icmp_eq {off : Int} {tgt : Nat} (F : am_Fx X d own cc nL) (hd : decode cc pc = .ok (.if_icmp .eq off, 3)) (ht : (pc : Int) + off = (tgt : Int)) (kt : ∀ L S Y h, Qt L S Y h → am_At X Q nL n1 n2 tgt L S Y h) (kf : ∀ L S Y h, Qf L S Y h → am_At X Q nL n1 n2 (pc + 3) L S Y h) : ∀ L S Y h, tm_cmp (fun x y => x = y) Qt Qf L S Y h → am_At X Q nL n1 n2 pc L S Y h := by
  obtain ⟨p, l, e, R, s, m, args, below, meth, c, G, o⟩ := X
  obtain ⟨hx, hb, hml, hown, hts, hE, ho, hd1, hd2, hlk⟩ := F
  intro L S Y h hq H locs ls hz hP hS hl
  obtain ⟨y, S1, rfl, hq3⟩ := am_pi_of hq
  obtain ⟨x, S2, rfl, hq1, hq2⟩ := am_pi_of hq3
  exact lv_icmp_eq hx hb hd ht (fun q => kt _ _ _ _ (hq1 q) H locs ls hz hP hS hl) (fun q => kf _ _ _ _ (hq2 q) H locs ls hz hP hS hl)
theorem a_icmp_lt {off : Int} {tgt : Nat} (F : am_Fx X d own cc nL) (hd : decode cc pc = .ok (.if_icmp .lt off, 3)) (ht : (pc : Int) + off = (tgt : Int)) (kt : ∀ L S Y h, Qt L S Y h → am_At X Q nL n1 n2 tgt L S Y h) (kf : ∀ L S Y h, Qf L S Y h → am_At X Q nL n1 n2 (pc + 3) L S Y h) : ∀ L S Y h, tm_cmp (fun x y => x < y) Qt Qf L S Y h → am_At X Q nL n1 n2 pc L S Y h := by
  obtain ⟨p, l, e, R, s, m, args, below, meth, c, G, o⟩ := X
  obtain ⟨hx, hb, hml, hown, hts, hE, ho, hd1, hd2, hlk⟩ := F
  intro L S Y h hq H locs ls hz hP hS hl
  obtain ⟨y, S1, rfl, hq3⟩ := am_pi_of hq
  obtain ⟨x, S2, rfl, hq1, hq2⟩ := am_pi_of hq3
  exact lv_icmp_lt hx hb hd ht (fun q => kt _ _ _ _ (hq1 q) H locs ls hz hP hS hl) (fun q => kf _ _ _ _ (hq2 q) H locs ls hz hP hS hl)
theorem a_icmp_ge {off : Int} {tgt : Nat} (F : am_Fx X d own cc nL) (hd : decode cc pc = .ok (.if_icmp .ge off, 3)) (ht : (pc : Int) + off = (tgt : Int)) (kt : ∀ L S Y h, Qt L S Y h → am_At X Q nL n1 n2 tgt L S Y h) (kf : ∀ L S Y h, Qf L S Y h → am_At X Q nL n1 n2 (pc + 3) L S Y h) : ∀ L S Y h, tm_cmp (fun x y => y ≤ x) Qt Qf L S Y h → am_At X Q nL n1 n2 pc L S Y h := by
  obtain ⟨p, l, e, R, s, m, args, below, meth, c, G, o⟩ := X
  obtain ⟨hx, hb, hml, hown, hts, hE, ho, hd1, hd2, hlk⟩ := F
  intro L S Y h hq H locs ls hz hP hS hl
  obtain ⟨y, S1, rfl, hq3⟩ := am_pi_of hq
  obtain ⟨x, S2, rfl, hq1, hq2⟩ := am_pi_of hq3
  exact lv_icmp_ge hx hb hd ht (fun q => kt _ _ _ _ (hq1 q) H locs ls hz hP hS hl) (fun q => kf _ _ _ _ (hq2 q) H locs ls hz hP hS hl)
theorem a_icmp_gt {off : Int} {tgt : Nat} (F : am_Fx X d own cc nL) (hd : decode cc pc = .ok (.if_icmp .gt off, 3)) (ht : (pc : Int) + off = (tgt : Int)) (kt : ∀ L S Y h, Qt L S Y h → am_At X Q nL n1 n2 tgt L S Y h) (kf : ∀ L S Y h, Qf L S Y h → am_At X Q nL n1 n2 (pc + 3) L S Y h) : ∀ L S Y h, tm_cmp (fun x y => y < x) Qt Qf L S Y h → am_At X Q nL n1 n2 pc L S Y h := by
  obtain ⟨p, l, e, R, s, m, args, below, meth, c, G, o⟩ := X
  obtain ⟨hx, hb, hml, hown, hts, hE, ho, hd1, hd2, hlk⟩ := F
  intro L S Y h hq H locs ls hz hP hS hl
  obtain ⟨y, S1, rfl, hq3⟩ := am_pi_of hq
  obtain ⟨x, S2, rfl, hq1, hq2⟩ := am_pi_of hq3
  exact lv_icmp_gt hx hb hd ht (fun q => kt _ _ _ _ (hq1 q) H locs ls hz hP hS hl) (fun q => kf _ _ _ _ (hq2 q) H locs ls hz hP hS hl)
theorem a_icmp_le {off : Int} {tgt : Nat} (F : am_Fx X d own cc nL) (hd : decode cc pc = .ok (.if_icmp .le off, 3)) (ht : (pc : Int) + off = (tgt : Int)) (kt : ∀ L S Y h, Qt L S Y h → am_At X Q nL n1 n2 tgt L S Y h) (kf : ∀ L S Y h, Qf L S Y h → am_At X Q nL n1 n2 (pc + 3) L S Y h) : ∀ L S Y h, tm_cmp (fun x y => x ≤ y) Qt Qf L S Y h → am_At X Q nL n1 n2 pc L S Y h := by
  obtain ⟨p, l, e, R, s, m, args, below, meth, c, G, o⟩ := X
  obtain ⟨hx, hb, hml, hown, hts, hE, ho, hd1, hd2, hlk⟩ := F
  intro L S Y h hq H locs ls hz hP hS hl
  obtain ⟨y, S1, rfl, hq3⟩ := am_pi_of hq
  obtain ⟨x, S2, rfl, hq1, hq2⟩ := am_pi_of hq3
  exact lv_icmp_le hx hb hd ht (fun q => kt _ _ _ _ (hq1 q) H locs ls hz hP hS hl) (fun q => kf _ _ _ _ (hq2 q) H locs ls hz hP hS hl)
theorem a_if_ne {off : Int} {tgt : Nat} (F : am_Fx X d own cc nL) (hd : decode cc pc = .ok (.ifCond .ne off, 3)) (ht : (pc : Int) + off = (tgt : Int)) (kt : ∀ L S Y h, Qt L S Y h → am_At X Q nL n1 n2 tgt L S Y h) (kf : ∀ L S Y h, Qf L S Y h → am_At X Q nL n1 n2 (pc + 3) L S Y h) : ∀ L S Y h, tm_if (fun x => x = 0) Qf Qt L S Y h → am_At X Q nL n1 n2 pc L S Y h := by
  obtain ⟨p, l, e, R, s, m, args, below, meth, c, G, o⟩ := X
  obtain ⟨hx, hb, hml, hown, hts, hE, ho, hd1, hd2, hlk⟩ := F
  intro L S Y h hq H locs ls hz hP hS hl
  obtain ⟨x, S1, rfl, hq1, hq2⟩ := am_pi_of hq
  exact lv_if_ne hx hb hd ht (fun q => kt _ _ _ _ (hq2 q) H locs ls hz hP hS hl) (fun q => kf _ _ _ _ (hq1 q) H locs ls hz hP hS hl)
theorem a_icmp_ne {off : Int} {tgt : Nat} (F : am_Fx X d own cc nL) (hd : decode cc pc = .ok (.if_icmp .ne off, 3)) (ht : (pc : Int) + off = (tgt : Int)) (kt : ∀ L S Y h, Qt L S Y h → am_At X Q nL n1 n2 tgt L S Y h) (kf : ∀ L S Y h, Qf L S Y h → am_At X Q nL n1 n2 (pc + 3) L S Y h) : ∀ L S Y h, tm_cmp (fun x y => x = y) Qf Qt L S Y h → am_At X Q nL n1 n2 pc L S Y h := by
  obtain ⟨p, l, e, R, s, m, args, below, meth, c, G, o⟩ := X
  obtain ⟨hx, hb, hml, hown, hts, hE, ho, hd1, hd2, hlk⟩ := F
  intro L S Y h hq H locs ls hz hP hS hl
  obtain ⟨y, S1, rfl, hq3⟩ := am_pi_of hq
  obtain ⟨x, S2, rfl, hq1, hq2⟩ := am_pi_of hq3
  exact lv_icmp_ne hx hb hd ht (fun q => kt _ _ _ _ (hq2 q) H locs ls hz hP hS hl) (fun q => kf _ _ _ _ (hq1 q) H locs ls hz hP hS hl)
theorem a_goto {off : Int} {tgt : Nat} (F : am_Fx X d own cc nL) (hd : decode cc pc = .ok (.goto off, 3)) (ht : (pc : Int) + off = (tgt : Int)) (kk : ∀ L S Y h, Qn L S Y h → am_At X Q nL n1 n2 tgt L S Y h) : ∀ L S Y h, Qn L S Y h → am_At X Q nL n1 n2 pc L S Y h := by
  obtain ⟨p, l, e, R, s, m, args, below, meth, c, G, o⟩ := X
  obtain ⟨hx, hb, hml, hown, hts, hE, ho, hd1, hd2, hlk⟩ := F
  intro L S Y h hq H locs ls hz hP hS hl
  exact lv_goto hx hb hd ht (kk _ _ _ _ hq H locs ls hz hP hS hl)
end SND
