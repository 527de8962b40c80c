/-- kinds of all who are there -/
def am_K (w : am_H) (n : Nat) : Prop := ∀ p, p < n → vp_in (w 2 p) 6
theorem am_I.sw {s : am_S} {w : am_H} {n : Nat} (hI : am_I s) (hJ : am_J w n s.nT) (hK : am_K w n) : am_I (s.sw w n) := ⟨hJ, hI.2.1, hI.2.2.1, hI.2.2.2.1, hI.2.2.2.2.1, hI.2.2.2.2.2.1, hI.2.2.2.2.2.2.1, hK, hI.2.2.2.2.2.2.2.2⟩
theorem am_J.row {w : am_H} {n nT j i : Nat} {v : Int32} (h : am_J w n nT) (h0 : j ≠ 0) (h1 : j ≠ 1) (h6 : j ≠ 6) : am_J (am_up w j i v) n nT := by
  obtain ⟨g1, ⟨r, g2, g3⟩, ⟨u, g4, g5⟩⟩ := h
  exact ⟨g1.up h0 h1 h6, ⟨r, g2, by rw [am_up_ne 0 (Ne.symm h0)]; exact g3⟩, ⟨u, g4, by rw [am_up_ne 0 (Ne.symm h0)]; exact g5⟩⟩
theorem sp_free_2 (w : am_H) (c : Int32) (n : Nat) : (sp_free w c n) 2 = w 2 := sp_free_row w c n 2 (by decide)
theorem sp_come_2 (w : am_H) (n p : Nat) (tr : Int32) : (sp_come w n p tr) 2 = w 2 := by
  unfold sp_come
  split
  · rw [sp_free_2, am_up_ne 2 (by decide), am_up_ne 2 (by decide)]
  · rw [am_up_ne 2 (by decide)]
theorem sp_steps_2 (n p : Nat) (tr : Int32) : ∀ k (w : am_H), (sp_steps n p tr k w) 2 = w 2
  | 0, _ => rfl
  | k + 1, w => by
    simp only [sp_steps]
    split
    · rw [sp_steps_2 n p tr k, sp_come_2]
    · rfl
theorem sp_sink_2 (w : am_H) (p : Nat) : (sp_sink w p) 2 = w 2 := by
  unfold sp_sink
  split
  · rw [am_up_ne 2 (by decide)]
  · rfl
theorem sp_go_2 (f : am_F) (w : am_H) (n p : Nat) : (sp_go f w n p) 2 = w 2 := by
  unfold sp_go
  rw [sp_sink_2, sp_steps_2, am_up_ne 2 (by decide)]
theorem sp_pass_2 (f : am_F) (w : am_H) (n : Nat) : ∀ k, (sp_pass f w n k) 2 = w 2
  | 0 => rfl
  | k + 1 => by
    simp only [sp_pass]
    split
    · rw [sp_go_2, sp_pass_2 f w n k]
    · exact sp_pass_2 f w n k
theorem sp_hour_2 (f : am_F) (w : am_H) (n : Nat) : (sp_hour f w n) 2 = w 2 := by
  funext i
  simp only [sp_hour]
  rw [am_up_ne 2 (by decide)]
  simp only [sp_wash, show ¬ (2 : Nat) = 1 by decide, if_false]
  rw [sp_pass_2]
theorem sp_feed_I {s : am_S} {c : Int32} (hI : am_I s) : am_I (sp_feed s c).1 := by
  unfold sp_feed
  split
  · rename_i hc
    split
    · exact hI
    · rename_i hz
      obtain ⟨g1, g2, g3, g4, g5, g6, g7, g8⟩ := hI
      refine ⟨g1, g2, g3, g4, (show s.tz + 1 ≤ 160 by omega), fun i hi => ?_, g7, g8⟩
      show vp_in (if i = s.tz then c else s.tp i) 256
      split
      · exact am_is_in (by decide) hc
      · exact g6 i (by have : i < s.tz + 1 := hi; omega)
  · exact hI
theorem sp_force_I {s : am_S} {c : Int32} (hI : am_I s) : am_I (sp_force s c).1 := by
  unfold sp_force
  split
  · rename_i hc
    obtain ⟨r, hr, rfl⟩ := am_is_o (by have := hI.2.2.2.1; omega) hc
    obtain ⟨⟨g1, g2, g3, g4, g5⟩, ⟨r0, g6, g7⟩, ⟨u, g8, g9⟩⟩ := hI.1
    refine hI.sw ⟨⟨?_, g2, ?_, ?_, ?_⟩, ⟨r, hr, ?_⟩, ⟨u, g8, ?_⟩⟩ ?_
    · rw [am_up_ap, if_pos rfl, if_neg (by decide)]; exact g1
    · rw [am_up_ne 6 (by decide)]; exact g3
    · rw [am_up_ne 1 (by decide)]; exact g4
    · rw [am_up_ap, if_pos rfl, if_neg (by decide)]; exact g5
    · rw [am_up_ap, if_pos rfl, if_pos rfl]
    · rw [am_up_ap, if_pos rfl, if_neg (by decide)]; exact g9
    · intro p hp
      rw [am_up_ne 2 (by decide)]
      exact hI.2.2.2.2.2.2.2.1 p hp
  · exact hI
theorem sp_starts_I {s : am_S} {c : Int32} (hI : am_I s) : am_I (sp_starts s c).1 := by
  unfold sp_starts
  split
  · split
    · refine hI.sw (hI.1.row (by decide) (by decide) (by decide)) fun p hp => ?_
      rw [am_up_ne 2 (by decide)]
      exact hI.2.2.2.2.2.2.2.1 p hp
    · exact hI
  · exact hI
theorem sp_hourO_I {s : am_S} (hI : am_I s) : am_I (sp_hourO s).1 := by
  unfold sp_hourO
  obtain ⟨g1, ⟨r, g2, g3⟩, ⟨u, g4, g5⟩⟩ := hI.1
  split
  · exact hI
  · rename_i hz
    refine hI.sw ⟨sp_hour_WI g1, ⟨r, g2, (sp_hour_0 _ _ _ 11 (by decide)).trans g3⟩, ⟨u + 1, ?_, sp_hour_9 _ _ _ u g5⟩⟩ fun p hp => ?_
    · rw [g5] at hz
      have : u ≠ 999 := fun e => hz (by rw [e]; rfl)
      omega
    · rw [sp_hour_2]
      exact hI.2.2.2.2.2.2.2.1 p hp
theorem sp_image_I {s : am_S} (hI : am_I s) : am_I (sp_image s).1 := ⟨hI.1, fun _ => hI.1, hI.2.2.1, hI.2.2.2.1, hI.2.2.2.2.1, hI.2.2.2.2.2.1, hI.2.2.2.2.2.2.1, hI.2.2.2.2.2.2.2.1, fun _ => hI.2.2.2.2.2.2.2.1⟩
theorem sp_back_I {s : am_S} (hI : am_I s) : am_I (sp_back s).1 := by
  unfold sp_back
  split
  · rename_i h
    exact hI.sw (hI.2.1 h) (hI.2.2.2.2.2.2.2.2 h)
  · exact hI
theorem am_I.ss {s : am_S} {so : Nat → Int32} {sz : Nat → Nat} {it : Nat → Nat → Int32} (hI : am_I s) (h : ∀ i, i < 4 → sz i ≤ 40 ∧ (so i = -1 ∨ so i = 0 ∨ so i = 1 ∨ so i = 2)) : am_I (s.ss so sz it) := ⟨hI.1, hI.2.1, hI.2.2.1, hI.2.2.2.1, hI.2.2.2.2.1, hI.2.2.2.2.2.1, h, hI.2.2.2.2.2.2.2.1, hI.2.2.2.2.2.2.2.2⟩
theorem sp_cell_I {s : am_S} {c i v : Int32} (hI : am_I s) : am_I (sp_cell s c i v).1 := by
  unfold sp_cell
  split
  · split
    · exact hI
    · split
      · exact hI.ss hI.2.2.2.2.2.2.1
      · exact hI
  · exact hI
theorem sp_copy_I {s : am_S} {a i b j m : Int32} (hI : am_I s) : am_I (sp_copy s a i b j m).1 := by
  unfold sp_copy
  repeat' split
  all_goals first | exact hI | exact hI.ss hI.2.2.2.2.2.2.1
