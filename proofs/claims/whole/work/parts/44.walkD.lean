theorem am_in_of {c m : Int32} {n : Nat} (hm : m.toInt = n) (h1 : 0 ≤ c) (h2 : c < m) : vp_in c n := by
  rw [am_in]
  rw [am_le] at h1
  rw [am_lt] at h2
  have : (0 : Int32).toInt = 0 := rfl
  omega
theorem am_in_tn {c : Int32} {n : Nat} (h : vp_in c n) : c.toNatClampNeg < n := Nat.not_le.mp fun q => h (Or.inr q)
theorem am_in_nI {c : Int32} {n : Nat} (h : vp_in c n) : c = nI c.toNatClampNeg := (am_of (am_in.mp h).1).symm
def sp_free (w : am_H) (c : Int32) : Nat → am_H
  | 0 => w
  | q + 1 => if (sp_free w c q) 6 q = c ∧ (sp_free w c q) 7 q = 2 then am_up (sp_free w c q) 7 q 1 else sp_free w c q
def sp_come (w : am_H) (n p : Nat) (tr : Int32) : am_H :=
  if 0 ≤ w 6 p + w 4 p ∧ w 6 p + w 4 p < 32 then sp_free (am_up (am_up w 6 p (w 6 p + w 4 p)) 1 (w 6 p + w 4 p).toNatClampNeg (sp_bd (w 1 (w 6 p + w 4 p).toNatClampNeg + tr) 0 99)) (w 6 p + w 4 p) n else am_up w 7 p 3
def sp_steps (n p : Nat) (tr : Int32) : Nat → am_H → am_H
  | 0, w => w
  | k + 1, w => if w 7 p = 1 then sp_steps n p tr k (sp_come w n p tr) else w
def sp_sink (w : am_H) (p : Nat) : am_H := if w 7 p = 1 ∧ ¬ w 5 p ≤ w 1 (w 6 p).toNatClampNeg then am_up w 7 p 2 else w
def sp_go (f : am_F) (w : am_H) (n p : Nat) : am_H := sp_sink (sp_steps n p (sp_treads f w n p) (sp_pace f w n p).toNatClampNeg (am_up w 5 p (sp_bd (w 5 p + sp_doubts f w n p) 0 99))) p
def sp_pass (f : am_F) (w : am_H) (n : Nat) : Nat → am_H
  | 0 => w
  | p + 1 => if (sp_pass f w n p) 7 p = 1 then sp_go f (sp_pass f w n p) n p else sp_pass f w n p
def sp_wash (w : am_H) : am_H := fun j i => if j = 1 then (if i < 32 then sp_bd (w 1 i - w 0 10 / 10) 0 99 else w 1 i) else w j i
def sp_hour (f : am_F) (w : am_H) (n : Nat) : am_H := am_up (sp_wash (sp_pass f w n n)) 0 9 ((sp_pass f w n n) 0 9 + 1)
/-- what a walk keeps to: n people; places in range; firmness and sea 0 .. 99 -/
def am_WI (w : am_H) (n : Nat) : Prop := w 0 8 = nI n ∧ n ≤ 5 ∧ (∀ p, p < n → vp_in (w 6 p) 32) ∧ (∀ i, i < 32 → vp_in (w 1 i) 100) ∧ vp_in (w 0 10) 100
theorem sp_bd_100 (v : Int32) : vp_in (sp_bd v 0 99) 100 := by
  have h := sp_bd_in (v := v) (lo := 0) (hi := 99) (by decide)
  rw [am_le, am_le] at h
  rw [am_in]
  have h1 : (0 : Int32).toInt = 0 := rfl
  have h2 : (99 : Int32).toInt = 99 := rfl
  omega
theorem sp_free_row (w : am_H) (c : Int32) : ∀ n j, j ≠ 7 → sp_free w c n j = w j
  | 0, _, _ => rfl
  | n + 1, j, hj => by
    simp only [sp_free]
    split
    · rw [am_up_ne j hj, sp_free_row w c n j hj]
    · exact sp_free_row w c n j hj
theorem sp_come_WI {w : am_H} {n p : Nat} {tr : Int32} (h : am_WI w n) (hp : p < n) : am_WI (sp_come w n p tr) n := by
  obtain ⟨h1, h2, h3, h4, h5⟩ := h
  unfold sp_come
  split
  · rename_i hc
    have hin : vp_in (w 6 p + w 4 p) 32 := am_in_of (m := 32) rfl hc.1 hc.2
    refine ⟨?_, h2, fun q hq => ?_, fun i hi => ?_, ?_⟩
    · rw [sp_free_row _ _ _ 0 (by decide)]
      exact h1
    · rw [sp_free_row _ _ _ 6 (by decide)]
      simp only [am_up_ap, show ¬ (6 : Nat) = 1 by decide, if_false, if_true]
      split
      · exact hin
      · exact h3 q hq
    · rw [sp_free_row _ _ _ 1 (by decide)]
      simp only [am_up_ap, show ¬ (1 : Nat) = 6 by decide, if_false, if_true]
      split
      · exact sp_bd_100 _
      · exact h4 i hi
    · rw [sp_free_row _ _ _ 0 (by decide)]
      exact h5
  · refine ⟨h1, h2, fun q hq => ?_, fun i hi => ?_, h5⟩
    · rw [am_up_ne 6 (by decide)]
      exact h3 q hq
    · rw [am_up_ne 1 (by decide)]
      exact h4 i hi
theorem am_WI.up {w : am_H} {n j i : Nat} {v : Int32} (h : am_WI w n) (hj : j ≠ 0) (h1 : j ≠ 1) (h6 : j ≠ 6) : am_WI (am_up w j i v) n := by
  obtain ⟨g1, g2, g3, g4, g5⟩ := h
  refine ⟨?_, g2, ?_, ?_, ?_⟩
  · rw [am_up_ne 0 (Ne.symm hj)]
    exact g1
  · rw [am_up_ne 6 (Ne.symm h6)]
    exact g3
  · rw [am_up_ne 1 (Ne.symm h1)]
    exact g4
  · rw [am_up_ne 0 (Ne.symm hj)]
    exact g5
theorem sp_steps_WI {n p : Nat} {tr : Int32} (hp : p < n) : ∀ k (w : am_H), am_WI w n → am_WI (sp_steps n p tr k w) n
  | 0, _, h => h
  | k + 1, w, h => by
    simp only [sp_steps]
    split
    · exact sp_steps_WI hp k _ (sp_come_WI h hp)
    · exact h
theorem sp_sink_WI {w : am_H} {n p : Nat} (h : am_WI w n) : am_WI (sp_sink w p) n := by
  unfold sp_sink
  split
  · exact h.up (by decide) (by decide) (by decide)
  · exact h
theorem sp_go_WI {f : am_F} {w : am_H} {n p : Nat} (h : am_WI w n) (hp : p < n) : am_WI (sp_go f w n p) n := sp_sink_WI (sp_steps_WI hp _ _ (h.up (by decide) (by decide) (by decide)))
theorem sp_pass_WI {f : am_F} {w : am_H} {n : Nat} (h : am_WI w n) : ∀ k, k ≤ n → am_WI (sp_pass f w n k) n
  | 0, _ => h
  | k + 1, hk => by
    simp only [sp_pass]
    split
    · exact sp_go_WI (sp_pass_WI h k (by omega)) (by omega)
    · exact sp_pass_WI h k (by omega)
theorem sp_wash_WI {w : am_H} {n : Nat} (h : am_WI w n) : am_WI (sp_wash w) n := by
  obtain ⟨g1, g2, g3, g4, g5⟩ := h
  refine ⟨g1, g2, g3, fun i hi => ?_, g5⟩
  simp only [sp_wash, if_pos hi, if_true]
  exact sp_bd_100 _
theorem sp_hour_WI {f : am_F} {w : am_H} {n : Nat} (h : am_WI w n) : am_WI (sp_hour f w n) n := by
  obtain ⟨g1, g2, g3, g4, g5⟩ := sp_wash_WI (sp_pass_WI (f := f) h n (Nat.le_refl n))
  refine ⟨?_, g2, ?_, ?_, ?_⟩
  · simpa [sp_hour, am_up] using g1
  · simpa [sp_hour, am_up] using g3
  · simpa [sp_hour, am_up] using g4
  · simpa [sp_hour, am_up] using g5
