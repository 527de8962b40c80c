/-! the state of both sides, and what each keeps of it -/
def am_S : Type := (am_H) × (Nat) × (Nat → am_F) × (Nat) × (Bool) × (am_H) × (Nat) × (Nat → Int32) × (Nat) × (Nat → Int32) × (Nat → Nat) × (Nat → Nat → Int32)
def am_mk (w : am_H) (n : Nat) (T : Nat → am_F) (nT : Nat) (im : Bool) (wk : am_H) (nk : Nat) (tp : Nat → Int32) (tz : Nat) (so : Nat → Int32) (sz : Nat → Nat) (it : Nat → Nat → Int32) : am_S := (w, n, T, nT, im, wk, nk, tp, tz, so, sz, it)
def am_S.w (s : am_S) : am_H := s.1
def am_S.n (s : am_S) : Nat := s.2.1
def am_S.T (s : am_S) : Nat → am_F := s.2.2.1
def am_S.nT (s : am_S) : Nat := s.2.2.2.1
def am_S.im (s : am_S) : Bool := s.2.2.2.2.1
def am_S.wk (s : am_S) : am_H := s.2.2.2.2.2.1
def am_S.nk (s : am_S) : Nat := s.2.2.2.2.2.2.1
def am_S.tp (s : am_S) : Nat → Int32 := s.2.2.2.2.2.2.2.1
def am_S.tz (s : am_S) : Nat := s.2.2.2.2.2.2.2.2.1
def am_S.so (s : am_S) : Nat → Int32 := s.2.2.2.2.2.2.2.2.2.1
def am_S.sz (s : am_S) : Nat → Nat := s.2.2.2.2.2.2.2.2.2.2.1
def am_S.it (s : am_S) : Nat → Nat → Int32 := s.2.2.2.2.2.2.2.2.2.2.2
def am_S.sw (s : am_S) (w : am_H) (n : Nat) : am_S := am_mk w n s.T s.nT s.im s.wk s.nk s.tp s.tz s.so s.sz s.it
def am_S.sk (s : am_S) (im : Bool) (wk : am_H) (nk : Nat) : am_S := am_mk s.w s.n s.T s.nT im wk nk s.tp s.tz s.so s.sz s.it
def am_S.sT (s : am_S) (T : Nat → am_F) (nT : Nat) : am_S := am_mk s.w s.n T nT s.im s.wk s.nk s.tp s.tz s.so s.sz s.it
def am_S.st (s : am_S) (tp : Nat → Int32) (tz : Nat) : am_S := am_mk s.w s.n s.T s.nT s.im s.wk s.nk tp tz s.so s.sz s.it
def am_S.ss (s : am_S) (so : Nat → Int32) (sz : Nat → Nat) (it : Nat → Nat → Int32) : am_S := am_mk s.w s.n s.T s.nT s.im s.wk s.nk s.tp s.tz so sz it
/-- one walk's invariant -/
def am_J (w : am_H) (n nT : Nat) : Prop := am_WI w n ∧ (∃ r, r < nT ∧ w 0 11 = nI r) ∧ ∃ u, u ≤ 999 ∧ w 0 9 = nI u
def am_I (s : am_S) : Prop := am_J s.w s.n s.nT ∧ (s.im = true → am_J s.wk s.nk s.nT) ∧ 1 ≤ s.nT ∧ s.nT ≤ 6 ∧ s.tz ≤ 160 ∧ (∀ i, i < s.tz → vp_in (s.tp i) 256) ∧ (∀ i, i < 4 → s.sz i ≤ 40 ∧ (s.so i = -1 ∨ s.so i = 0 ∨ s.so i = 1 ∨ s.so i = 2)) ∧ (∀ p, p < s.n → vp_in (s.w 2 p) 6) ∧ (s.im = true → ∀ p, p < s.nk → vp_in (s.wk 2 p) 6)
def am_St (a : Nat) : Prop := a = 34 ∨ (67 ≤ a ∧ a % 4 = 2)
theorem am_nSt {a : Nat} (h : a ≤ 66) (h2 : a ≠ 34) : ¬ am_St a := fun z => by unfold am_St at z; omega
/-- the class's cells that do not change their layout -/
def am_own (Y : List am_C) : Prop := Y[0]? = some (2, 5, [.ref 1, .ref 10, .ref 19, .int 0, .ref 28, .ref 35, .ref 39, .ref 40, .int 0, .int 0, .int 0]) ∧ am_walk Y 1 ∧ am_walk Y 10 ∧ am_walk Y 19 ∧ Y[35]? = some (2, 0, [.ref 36, .ref 37, .ref 38, .int 0, .int 0, .int 0, .int 0, .int 0, .int 0]) ∧ Y[36]? = some (0, 160, []) ∧ Y[37]? = some (0, 160, []) ∧ Y[38]? = some (0, 3, []) ∧ Y[39]? = some (3, 4, [.ref 41, .ref 43, .ref 45, .ref 47]) ∧ Y[40]? = some (0, 5, []) ∧ ∀ i, i < 4 → Y[41 + 2 * i]? = some (2, 1, [.ref (42 + 2 * i), .int 0, .int 0]) ∧ Y[42 + 2 * i]? = some (0, 40, [])
def am_Ck (h : am_H) (im : Bool) (wk : am_H) : Prop := h 0 3 = (if im = true then 1 else 0) ∧ (im = true → am_RW h 19 wk)
def am_Ct (h : am_H) (tp : Nat → Int32) (tz : Nat) : Prop := h 35 3 = nI tz ∧ ∀ i, i < tz → h 36 i = tp i
def am_Cs (h : am_H) (so : Nat → Int32) (sz : Nat → Nat) (it : Nat → Nat → Int32) : Prop := ∀ i, i < 4 → h (41 + 2 * i) 1 = so i ∧ h (41 + 2 * i) 2 = nI (if so i = -1 then 0 else sz i) ∧ (so i ≠ -1 → ∀ k, k < sz i → h (42 + 2 * i) k = it i k)
/-- the class holds the state s -/
def am_Cl (Y : List am_C) (h : am_H) (s : am_S) : Prop := am_own Y ∧ am_RW h 1 s.w ∧ am_Ck h s.im s.wk ∧ am_txs Y h am_St s.T s.nT ∧ am_Ct h s.tp s.tz ∧ am_Cs h s.so s.sz s.it
theorem am_tx.far {Y : List am_C} {h h' : am_H} {q : Nat} {f : am_F} (ht : am_tx Y h am_St q f) (hh : ∀ a, (a < 35 ∨ 66 < a) → h' a = h a) : am_tx Y h' am_St q f := by
  obtain ⟨c, e, s, len, h1, h2, h3, h4, h5, h6, h7, h8, h9, h10, h11, h12⟩ := ht
  refine ⟨c, e, s, len, h1, h2, h3, h4, h5, h6, h7, h8, h9, h10, h11, ?_⟩
  rw [hh c (by omega), hh e (by omega)]
  exact h12
theorem am_txs.far {Y : List am_C} {h h' : am_H} {T : Nat → am_F} {nT : Nat} (ht : am_txs Y h am_St T nT) (hh : ∀ a, (a < 35 ∨ 66 < a) → h' a = h a) : am_txs Y h' am_St T nT := by
  obtain ⟨h1', h2, h3, h4, h5, h6, fs, h7, h8⟩ := ht
  refine ⟨h1', h2, h3, by rw [hh 28 (by decide)]; exact h4, h5, h6, fs, h7, fun k hk => ?_⟩
  obtain ⟨q, q1, q2⟩ := h8 k hk
  exact ⟨q, q1, q2.far hh⟩
/-- the kept walk of the reference, as if it were there -/
def am_kb (h : am_H) : am_H := fun a k => if a = 57 then h 61 k else if a = 56 then h 62 k else if a = 49 then (if k = 11 then h 49 39 else if k = 12 then h 49 40 else if k = 15 then h 49 38 else if k = 4 then h 49 41 else h 49 k) else h a k
def am_MT (h : am_H) (T : Nat → am_F) (nT : Nat) : Prop := h 49 3 = nI nT ∧ ∀ t, t < nT → am_txM h t (T t)
def am_Mk (h : am_H) (im : Bool) (wk : am_H) : Prop := if im = true then am_RM (am_kb h) wk else h 49 38 = -1
def am_Mt (h : am_H) (tp : Nat → Int32) (tz : Nat) : Prop := h 49 10 = nI tz ∧ ∀ i, i < tz → h 55 i = tp i
def am_Ms (h : am_H) (so : Nat → Int32) (sz : Nat → Nat) (it : Nat → Nat → Int32) : Prop := ∀ i, i < 4 → h 63 i = (if so i = -1 then 0 else 1) ∧ (so i ≠ -1 → h 64 i = so i ∧ h 65 i = nI (sz i) ∧ ∀ k, k < sz i → h 66 (40 * i + k) = it i k)
/-- the reference holds the state s -/
def am_Md (Y : List am_C) (h : am_H) (s : am_S) : Prop := am_mod Y ∧ am_RM h s.w ∧ am_MT h s.T s.nT ∧ am_Mk h s.im s.wk ∧ am_Mt h s.tp s.tz ∧ am_Ms h s.so s.sz s.it
theorem am_Ck.cong {h h1 : am_H} {im : Bool} {wk : am_H} (g : am_Ck h im wk) (h0 : h1 0 3 = h 0 3) (hh : ∀ a, 19 ≤ a → a ≤ 26 → h1 a = h a) : am_Ck h1 im wk := ⟨h0.trans g.1, fun q => (g.2 q).keep fun c c1 c2 => hh c (by omega) (by omega)⟩
theorem am_Ct.cong {h h1 : am_H} {tp : Nat → Int32} {tz : Nat} (g : am_Ct h tp tz) (h0 : h1 35 3 = h 35 3) (hh : h1 36 = h 36) : am_Ct h1 tp tz := ⟨h0.trans g.1, fun i hi => by rw [hh]; exact g.2 i hi⟩
theorem am_Cs.cong {h h1 : am_H} {so : Nat → Int32} {sz : Nat → Nat} {it : Nat → Nat → Int32} (g : am_Cs h so sz it) (hh : ∀ a, 41 ≤ a → a ≤ 48 → h1 a = h a) : am_Cs h1 so sz it := fun i hi => by
  rw [hh (41 + 2 * i) (by omega) (by omega), hh (42 + 2 * i) (by omega) (by omega)]
  exact g i hi
theorem am_MT.cong {h h1 : am_H} {T : Nat → am_F} {nT : Nat} (g : am_MT h T nT) (h0 : h1 49 3 = h 49 3) (hh : ∀ a, 52 ≤ a → a ≤ 54 → h1 a = h a) : am_MT h1 T nT := ⟨h0.trans g.1, fun t ht => (g.2 t ht).keep (hh 52 (by decide) (by decide)) (hh 53 (by decide) (by decide)) (hh 54 (by decide) (by decide))⟩
theorem am_Mk.cong {h h1 : am_H} {im : Bool} {wk : am_H} (g : am_Mk h im wk) (h0 : ∀ k, 38 ≤ k → k ≤ 41 → h1 49 k = h 49 k) (hh : ∀ a, 61 ≤ a → a ≤ 62 → h1 a = h a) : am_Mk h1 im wk := by
  unfold am_Mk at *
  by_cases q : im = true
  · rw [if_pos q] at g ⊢
    refine am_RM.cong g (fun k _ => ?_) (fun k _ => ?_) (fun k hk => ?_)
    · simp only [am_kb, if_true, hh 61 (by decide) (by decide)]
    · simp only [am_kb, if_true, show ¬ (56 : Nat) = 57 by decide, if_false, hh 62 (by decide) (by decide)]
    · rcases hk with rfl | rfl | rfl | rfl <;> simp [am_kb, h0 38 (by decide) (by decide), h0 39 (by decide) (by decide), h0 40 (by decide) (by decide), h0 41 (by decide) (by decide)]
  · rw [if_neg q] at g ⊢
    rw [h0 38 (by decide) (by decide)]
    exact g
theorem am_Mt.cong {h h1 : am_H} {tp : Nat → Int32} {tz : Nat} (g : am_Mt h tp tz) (h0 : h1 49 10 = h 49 10) (hh : h1 55 = h 55) : am_Mt h1 tp tz := ⟨h0.trans g.1, fun i hi => by rw [hh]; exact g.2 i hi⟩
theorem am_Ms.cong {h h1 : am_H} {so : Nat → Int32} {sz : Nat → Nat} {it : Nat → Nat → Int32} (g : am_Ms h so sz it) (hh : ∀ a, 63 ≤ a → a ≤ 66 → h1 a = h a) : am_Ms h1 so sz it := fun i hi => by
  rw [hh 63 (by omega) (by omega), hh 64 (by omega) (by omega), hh 65 (by omega) (by omega), hh 66 (by omega) (by omega)]
  exact g i hi
theorem am_Md.keep {Y : List am_C} {h h1 : am_H} {s : am_S} (hM : am_Md Y h s) (hh : ∀ a, 49 ≤ a → a ≤ 66 → h1 a = h a) : am_Md Y h1 s := by
  obtain ⟨g1, g2, g3, g4, g5, g6⟩ := hM
  refine ⟨g1, ?_, g3.cong (by rw [hh 49 (by decide) (by decide)]) fun a _ _ => hh a (by omega) (by omega), g4.cong (fun k _ _ => by rw [hh 49 (by decide) (by decide)]) fun a _ _ => hh a (by omega) (by omega), g5.cong (by rw [hh 49 (by decide) (by decide)]) (hh 55 (by decide) (by decide)), g6.cong fun a _ _ => hh a (by omega) (by omega)⟩
  unfold am_RM
  rw [hh 57 (by decide) (by decide), hh 56 (by decide) (by decide), hh 49 (by decide) (by decide)]
  exact g2
theorem am_Cl.keep {Y : List am_C} {h h1 : am_H} {s : am_S} (hC : am_Cl Y h s) (hh : ∀ a, (a < 49 ∨ 66 < a) → h1 a = h a) : am_Cl Y h1 s := by
  obtain ⟨g1, g2, g3, g4, g5, g6⟩ := hC
  refine ⟨g1, g2.keep fun c c1 c2 => hh c (by omega), g3.cong (by rw [hh 0 (by decide)]) fun a _ _ => hh a (by omega), g4.far fun a _ => hh a (by omega), g5.cong (by rw [hh 35 (by decide)]) (hh 36 (by decide)), g6.cong fun a _ _ => hh a (by omega)⟩
/-- what an operation that walks may change: in the reference, in the class -/
def am_q4 (h h1 : am_H) : Prop := (∀ a, (a < 56 ∨ 60 < a) → a ≠ 49 → h1 a = h a) ∧ ∀ k, (k ≠ 4 ∧ k ≠ 11 ∧ k ≠ 12 ∧ k ≠ 15 ∧ (k < 16 ∨ 21 < k) ∧ k ≠ 34 ∧ k ≠ 35) → h1 49 k = h 49 k
def am_p4 (h h1 : am_H) : Prop := (∀ a, 18 < a → a ≠ 40 → ¬ am_St a → h1 a = h a) ∧ h1 0 3 = h 0 3
theorem am_q4.rf (h : am_H) : am_q4 h h := ⟨fun _ _ _ => rfl, fun _ _ => rfl⟩
theorem am_p4.rf (h : am_H) : am_p4 h h := ⟨fun _ _ _ _ => rfl, rfl⟩
theorem am_q4.tr {a b c : am_H} (h1 : am_q4 a b) (h2 : am_q4 b c) : am_q4 a c := ⟨fun x g1 g2 => (h2.1 x g1 g2).trans (h1.1 x g1 g2), fun k g => (h2.2 k g).trans (h1.2 k g)⟩
theorem am_p4.tr {a b c : am_H} (h1 : am_p4 a b) (h2 : am_p4 b c) : am_p4 a c := ⟨fun x g1 g2 g3 => (h2.1 x g1 g2 g3).trans (h1.1 x g1 g2 g3), h2.2.trans h1.2⟩
theorem am_q3.q4 {a b : am_H} (h : am_q3 a b) : am_q4 a b := ⟨fun x g1 g2 => h.1 x (by omega) g2, fun k g => h.2 k (by omega) (by omega) (by omega)⟩
theorem am_q4.up {a b : am_H} (h : am_q4 a b) (c k : Nat) (v : Int32) (hc : 56 ≤ c ∧ c ≤ 60) : am_q4 a (am_up b c k v) := ⟨fun x g1 g2 => (am_up_ne x (by omega)).trans (h.1 x g1 g2), fun k g => by rw [am_up_ne 49 (by omega)]; exact h.2 k g⟩
theorem am_q4.uo {a b : am_H} (h : am_q4 a b) (k : Nat) (v : Int32) (hk : k = 4 ∨ k = 11 ∨ k = 12 ∨ k = 15 ∨ k = 34 ∨ k = 35) : am_q4 a (am_up b 49 k v) := ⟨fun x g1 g2 => (am_up_ne x g2).trans (h.1 x g1 g2), fun j g => by rw [am_up_ap, if_pos rfl, if_neg (by omega)]; exact h.2 j g⟩
theorem am_p4.up {a b : am_H} (h : am_p4 a b) (c k : Nat) (v : Int32) (hc : (1 ≤ c ∧ c ≤ 18) ∨ c = 40) : am_p4 a (am_up b c k v) := ⟨fun x g1 g2 g3 => (am_up_ne x (by omega)).trans (h.1 x g1 g2 g3), by rw [am_up_ne 0 (by omega)]; exact h.2⟩
theorem am_p4.uo {a b : am_H} (h : am_p4 a b) (k : Nat) (v : Int32) (hk : k ≠ 3) : am_p4 a (am_up b 0 k v) := ⟨fun x g1 g2 g3 => (am_up_ne x (by omega)).trans (h.1 x g1 g2 g3), by rw [am_up_ap, if_pos rfl, if_neg (Ne.symm hk)]; exact h.2⟩
theorem am_p4.fr {h h1 : am_H} {b : Nat} (hb : b = 1 ∨ b = 10) (hh : ∀ a, a < b ∨ b + 8 < a → ¬ am_St a → h1 a = h a) : am_p4 h h1 := ⟨fun a g1 g2 g3 => hh a (by omega) g3, by rw [hh 0 (by omega) (am_nSt (by decide) (by decide))]⟩
def am_fM (h h1 : am_H) : Prop := ∀ a, (a < 49 ∨ 66 < a) → h1 a = h a
def am_fC (h h1 : am_H) : Prop := ∀ a, 49 ≤ a → a ≤ 66 → h1 a = h a
theorem am_fM.rf (h : am_H) : am_fM h h := fun _ _ => rfl
theorem am_fC.rf (h : am_H) : am_fC h h := fun _ _ _ => rfl
theorem am_fM.up {h h1 : am_H} (hf : am_fM h h1) (c k : Nat) (v : Int32) (hc : 49 ≤ c ∧ c ≤ 66) : am_fM h (am_up h1 c k v) := fun a ha => (am_up_ne a (by omega)).trans (hf a ha)
theorem am_fC.up {h h1 : am_H} (hf : am_fC h h1) (c k : Nat) (v : Int32) (hc : c < 49 ∨ 66 < c) : am_fC h (am_up h1 c k v) := fun a g1 g2 => (am_up_ne a (by omega)).trans (hf a g1 g2)
theorem am_q4.fM {h h1 : am_H} (hq : am_q4 h h1) : am_fM h h1 := fun a ha => hq.1 a (by omega) (by omega)
theorem am_p4.fC {h h1 : am_H} (hq : am_p4 h h1) : am_fC h h1 := fun a g1 g2 => hq.1 a (by omega) (by omega) (fun z => by unfold am_St at z; omega)
theorem am_Md.sw {Y : List am_C} {h h1 w : am_H} {s : am_S} {n : Nat} (hM : am_Md Y h s) (hq : am_q4 h h1) (hR : am_RM h1 w) : am_Md Y h1 (s.sw w n) := by
  obtain ⟨g1, g2, g3, g4, g5, g6⟩ := hM
  exact ⟨g1, hR, g3.cong (hq.2 3 (by decide)) fun a _ _ => hq.1 a (by omega) (by omega), g4.cong (fun k _ _ => hq.2 k (by omega)) fun a _ _ => hq.1 a (by omega) (by omega), g5.cong (hq.2 10 (by decide)) (hq.1 55 (by decide) (by decide)), g6.cong fun a _ _ => hq.1 a (by omega) (by omega)⟩
theorem am_Cl.sw {Y : List am_C} {h h1 w : am_H} {s : am_S} {n : Nat} (hC : am_Cl Y h s) (hq : am_p4 h h1) (hR : am_RW h1 1 w) : am_Cl Y h1 (s.sw w n) := by
  obtain ⟨g1, g2, g3, g4, g5, g6⟩ := hC
  have hs : ∀ a, 18 < a → a ≠ 34 → a ≤ 66 → ¬ am_St a := fun a _ _ _ z => by unfold am_St at z; omega
  refine ⟨g1, hR, g3.cong hq.2 fun a _ _ => hq.1 a (by omega) (by omega) (hs a (by omega) (by omega) (by omega)), ?_, g5.cong (by rw [hq.1 35 (by decide) (by decide) (hs 35 (by decide) (by decide) (by decide))]) (hq.1 36 (by decide) (by decide) (hs 36 (by decide) (by decide) (by decide))), g6.cong fun a _ _ => hq.1 a (by omega) (by omega) (hs a (by omega) (by omega) (by omega))⟩
  obtain ⟨h1', h2, h3, h4, h5, h6, fs, h7, h8⟩ := g4
  refine ⟨h1', h2, h3, by rw [hq.1 28 (by decide) (by decide) h5]; exact h4, h5, h6, fs, h7, fun k hk => ?_⟩
  obtain ⟨q, q1, q2⟩ := h8 k hk
  refine ⟨q, q1, ?_⟩
  obtain ⟨c, e, st, len, t1, t2, t3, t4, t5, t6, t7, t8, t9, t10, t11, t12⟩ := q2
  refine ⟨c, e, st, len, t1, t2, t3, t4, t5, t6, t7, t8, t9, t10, t11, ?_⟩
  rw [hq.1 c (by omega) (by omega) t6, hq.1 e (by omega) (by omega) t7]
  exact t12
