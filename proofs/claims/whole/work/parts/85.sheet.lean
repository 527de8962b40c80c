def sp_sheet (s : am_S) (c so1 m : Int32) : am_S × Int32 := if am_is 4 c = true then (if so1 = -1 then (s.ss (fun i => if i = c.toNatClampNeg then -1 else s.so i) (fun i => if i = c.toNatClampNeg then 0 else s.sz i) (fun i j => if i = c.toNatClampNeg then 0 else s.it i j), 1) else if am_is 3 so1 = true then (if 40 < m then (s, -2) else if m < 0 then (s, -14) else (s.ss (fun i => if i = c.toNatClampNeg then so1 else s.so i) (fun i => if i = c.toNatClampNeg then m.toNatClampNeg else s.sz i) (fun i j => if i = c.toNatClampNeg then 0 else s.it i j), 1)) else (s, -2)) else (s, -2)
theorem am_Ms.sheet {h : am_H} {so : Nat → Int32} {sz : Nat → Nat} {it : Nat → Nat → Int32} (g : am_Ms h so sz it) {h1 : am_H} {k : Nat} {v : Int32} {z : Nat} (h63 : ∀ i, i < 4 → h1 63 i = if i = k then (if v = -1 then 0 else 1) else h 63 i) (h64 : ∀ i, i < 4 → h1 64 i = if i = k then v else h 64 i) (h65 : ∀ i, i < 4 → i ≠ k → h1 65 i = h 65 i) (hk65 : v ≠ -1 → h1 65 k = nI z) (h66 : ∀ i j, i < 4 → i ≠ k → j < 40 → h1 66 (40 * i + j) = h 66 (40 * i + j)) (hk66 : v ≠ -1 → ∀ j, j < z → h1 66 (40 * k + j) = 0) (hz : ∀ i, i < 4 → sz i ≤ 40) : am_Ms h1 (fun i => if i = k then v else so i) (fun i => if i = k then z else sz i) (fun i j => if i = k then 0 else it i j) := by
  intro i hi
  obtain ⟨g1, g2⟩ := g i hi
  by_cases q : i = k
  · subst q
    simp only [if_true]
    refine ⟨by rw [h63 i hi, if_pos rfl], fun hs => ⟨by rw [h64 i hi, if_pos rfl], hk65 hs, fun j hj => hk66 hs j hj⟩⟩
  · simp only [if_neg q]
    refine ⟨by rw [h63 i hi, if_neg q]; exact g1, fun hs => ?_⟩
    obtain ⟨g3, g4, g5⟩ := g2 hs
    have := hz i hi
    exact ⟨by rw [h64 i hi, if_neg q]; exact g3, by rw [h65 i hi q]; exact g4, fun j hj => by rw [h66 i j hi q (by omega)]; exact g5 j hj⟩
