/-! the state of both sides, and what each keeps of it -/
def am_S : Type := (am_H) × (Nat) × (Nat → am_F) × (Nat) × (Bool) × (am_H) × (Nat) × (Nat → Int32) × (Nat) × (Nat → Int32) × (Nat → Nat) × (Nat → Nat → Int32)
def am_mk (w : am_H) (n : Nat) (T : Nat → am_F) (nT : Nat) (im : Bool) (wk : am_H) (nk : Nat) (tp : Nat → Int32) (tz : Nat) (so : Nat → Int32) (sz : Nat → Nat) (it : Nat → Nat → Int32) : am_S := (w, n, T, nT, im, wk, nk, tp, tz, so, sz, it)
def am_S.w (s : am_S) : am_H := s.1
def am_S.n (s : am_S) : Nat := s.2.1
def am_S.T (s : am_S) : Nat → am_F := s.2.2.1
def am_S.nT (s : am_S) : Nat := s.2.2.2.1
def am_S.im (s : am_S) : Bool := s.2.2.2.2.1
def am_S.wk (s : am_S) : am_H := s.2.2.2.2.2.1
def am_S.nk (s : am_S) : Nat := s.2.2.2.2.2.2.1
def am_S.tp (s : am_S) : Nat → Int32 := s.2.2.2.2.2.2.2.1
def am_S.tz (s : am_S) : Nat := s.2.2.2.2.2.2.2.2.1
def am_S.so (s : am_S) : Nat → Int32 := s.2.2.2.2.2.2.2.2.2.1
def am_S.sz (s : am_S) : Nat → Nat := s.2.2.2.2.2.2.2.2.2.2.1
def am_S.it (s : am_S) : Nat → Nat → Int32 := s.2.2.2.2.2.2.2.2.2.2.2
def am_S.sw (s : am_S) (w : am_H) (n : Nat) : am_S := am_mk w n s.T s.nT s.im s.wk s.nk s.tp s.tz s.so s.sz s.it
def am_S.sk (s : am_S) (im : Bool) (wk : am_H) (nk : Nat) : am_S := am_mk s.w s.n s.T s.nT im wk nk s.tp s.tz s.so s.sz s.it
def am_S.sT (s : am_S) (T : Nat → am_F) (nT : Nat) : am_S := am_mk s.w s.n T nT s.im s.wk s.nk s.tp s.tz s.so s.sz s.it
def am_S.st (s : am_S) (tp : Nat → Int32) (tz : Nat) : am_S := am_mk s.w s.n s.T s.nT s.im s.wk s.nk tp tz s.so s.sz s.it
def am_S.ss (s : am_S) (so : Nat → Int32) (sz : Nat → Nat) (it : Nat → Nat → Int32) : am_S := am_mk s.w s.n s.T s.nT s.im s.wk s.nk s.tp s.tz so sz it
/-- one walk's invariant -/
def am_J (w : am_H) (n nT : Nat) : Prop := am_WI w n ∧ (∃ r, r < nT ∧ w 0 11 = nI r) ∧ ∃ u, u ≤ 999 ∧ w 0 9 = nI u
def am_I (s : am_S) : Prop := am_J s.w s.n s.nT ∧ (s.im = true → am_J s.wk s.nk s.nT) ∧ 1 ≤ s.nT ∧ s.nT ≤ 6 ∧ s.tz ≤ 160 ∧ (∀ i, i < s.tz → vp_in (s.tp i) 256) ∧ ∀ i, i < 4 → s.sz i ≤ 40 ∧ (s.so i = -1 ∨ s.so i = 0 ∨ s.so i = 1 ∨ s.so i = 2)
def am_St (a : Nat) : Prop := a = 34 ∨ (67 ≤ a ∧ a % 4 = 2)
def am_x0 : am_C := (2, 5, [.ref 1, .ref 10, .ref 19, .int 0, .ref 28, .ref 35, .ref 39, .ref 40, .int 0, .int 0, .int 0])
/-- the class's cells that do not change their layout -/
def am_own (Y : List am_C) : Prop := Y[0]? = some (2, 5, [.ref 1, .ref 10, .ref 19, .int 0, .ref 28, .ref 35, .ref 39, .ref 40, .int 0, .int 0, .int 0]) ∧ am_walk Y 1 ∧ am_walk Y 10 ∧ am_walk Y 19 ∧ Y[35]? = some (2, 0, [.ref 36, .ref 37, .ref 38, .int 0, .int 0, .int 0, .int 0, .int 0, .int 0]) ∧ Y[36]? = some (0, 160, []) ∧ Y[37]? = some (0, 160, []) ∧ Y[38]? = some (0, 3, []) ∧ Y[39]? = some (3, 4, [.ref 41, .ref 43, .ref 45, .ref 47]) ∧ Y[40]? = some (0, 5, []) ∧ ∀ i, i < 4 → Y[41 + 2 * i]? = some (2, 1, [.ref (42 + 2 * i), .int 0, .int 0]) ∧ Y[42 + 2 * i]? = some (0, 40, [])
/-- what the class keeps beside walks and texts -/
def am_Cr (h : am_H) (s : am_S) : Prop := h 0 3 = (if s.im = true then 1 else 0) ∧ h 35 3 = nI s.tz ∧ (∀ i, i < s.tz → h 36 i = s.tp i) ∧ ∀ i, i < 4 → h (41 + 2 * i) 1 = s.so i ∧ h (41 + 2 * i) 2 = nI (if s.so i = -1 then 0 else s.sz i) ∧ (s.so i ≠ -1 → ∀ k, k < s.sz i → h (42 + 2 * i) k = s.it i k)
def am_Cl (Y : List am_C) (h : am_H) (s : am_S) : Prop := am_own Y ∧ am_RW h 1 s.w ∧ (s.im = true → am_RW h 19 s.wk) ∧ am_txs Y h am_St s.T s.nT ∧ am_Cr h s
theorem am_tx.far {Y : List am_C} {h h' : am_H} {q : Nat} {f : am_F} (ht : am_tx Y h am_St q f) (hh : ∀ a, (a < 49 ∨ 66 < a) → h' a = h a) : am_tx Y h' am_St q f := by
  obtain ⟨c, e, s, len, h1, h2, h3, h4, h5, h6, h7, h8, h9, h10, h11, h12⟩ := ht
  refine ⟨c, e, s, len, h1, h2, h3, h4, h5, h6, h7, h8, h9, h10, h11, ?_⟩
  rw [hh c h11.2.1, hh e h11.2.2]
  exact h12
/-- the kept walk of the reference, as if it were there -/
def am_kb (h : am_H) : am_H := fun a k => if a = 57 then h 61 k else if a = 56 then h 62 k else if a = 49 then (if k = 11 then h 49 39 else if k = 12 then h 49 40 else if k = 15 then h 49 38 else if k = 4 then h 49 41 else h 49 k) else h a k
def am_Mr (h : am_H) (s : am_S) : Prop := (if s.im = true then am_RM (am_kb h) s.wk else h 49 38 = -1) ∧ h 49 10 = nI s.tz ∧ (∀ i, i < s.tz → h 55 i = s.tp i) ∧ ∀ i, i < 4 → h 63 i = (if s.so i = -1 then 0 else 1) ∧ (s.so i ≠ -1 → h 64 i = s.so i ∧ h 65 i = nI (s.sz i) ∧ ∀ k, k < s.sz i → h 66 (40 * i + k) = s.it i k)
def am_Md (Y : List am_C) (h : am_H) (s : am_S) : Prop := am_mod Y ∧ am_RM h s.w ∧ h 49 3 = nI s.nT ∧ (∀ t, t < s.nT → am_txM h t (s.T t)) ∧ am_Mr h s
theorem am_Md.keep {Y : List am_C} {h h1 : am_H} {s : am_S} (hM : am_Md Y h s) (hh : ∀ a, 49 ≤ a → a ≤ 66 → h1 a = h a) : am_Md Y h1 s := by
  obtain ⟨g1, g2, g3, g4, g5⟩ := hM
  refine ⟨g1, ?_, ?_, ?_, ?_⟩
  · unfold am_RM
    rw [hh 57 (by decide) (by decide), hh 56 (by decide) (by decide), hh 49 (by decide) (by decide)]
    exact g2
  · rw [hh 49 (by decide) (by decide)]; exact g3
  · exact fun t ht => (g4 t ht).keep (hh 52 (by decide) (by decide)) (hh 53 (by decide) (by decide)) (hh 54 (by decide) (by decide))
  · unfold am_Mr am_RM am_kb at *
    simp only [hh 49 (by decide) (by decide), hh 55 (by decide) (by decide), hh 61 (by decide) (by decide), hh 62 (by decide) (by decide), hh 63 (by decide) (by decide), hh 64 (by decide) (by decide), hh 65 (by decide) (by decide), hh 66 (by decide) (by decide), hh 57 (by decide) (by decide), hh 56 (by decide) (by decide), if_true, if_false, show ¬ (56 : Nat) = 57 by decide, show ¬ (49 : Nat) = 57 by decide, show ¬ (49 : Nat) = 56 by decide] at g5 ⊢
    exact g5
theorem am_Cr.keep {h h1 : am_H} {s : am_S} (hC : am_Cr h s) (h0 : h1 0 3 = h 0 3) (h35 : h1 35 3 = h 35 3) (hh : ∀ a, (a = 36 ∨ (41 ≤ a ∧ a ≤ 48)) → h1 a = h a) : am_Cr h1 s := by
  obtain ⟨g1, g2, g3, g4⟩ := hC
  refine ⟨h0.trans g1, h35.trans g2, fun i hi => ?_, fun i hi => ?_⟩
  · rw [hh 36 (by decide)]; exact g3 i hi
  · rw [hh (41 + 2 * i) (by omega), hh (42 + 2 * i) (by omega)]; exact g4 i hi
theorem am_Cl.keep {Y : List am_C} {h h1 : am_H} {s : am_S} (hC : am_Cl Y h s) (hh : ∀ a, (a < 49 ∨ 66 < a) → h1 a = h a) : am_Cl Y h1 s := by
  obtain ⟨g1, g2, g3, g4, g5⟩ := hC
  refine ⟨g1, g2.keep fun c c1 c2 => hh c (by omega), fun hi => (g3 hi).keep fun c c1 c2 => hh c (by omega), ?_, g5.keep (by rw [hh 0 (by decide)]) (by rw [hh 35 (by decide)]) fun a ha => hh a (by omega)⟩
  obtain ⟨h1', h2, h3, h4, h5, h6, fs, h7, h8⟩ := g4
  refine ⟨h1', h2, h3, by rw [hh 28 (by decide)]; exact h4, h5, h6, fs, h7, fun k hk => ?_⟩
  obtain ⟨q, q1, q2⟩ := h8 k hk
  exact ⟨q, q1, q2.far hh⟩
