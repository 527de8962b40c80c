theorem sp_person_I {s : am_S} {k m y : Int32} (hI : am_I s) : am_I (sp_person s k m y).1 := by
  unfold sp_person
  split
  · rename_i hk
    split
    · split
      · split
        · exact hI
        · rename_i h5
          obtain ⟨⟨g1, g2, g3, g4, g5⟩, ⟨r, g6, g7⟩, ⟨u, g8, g9⟩⟩ := hI.1
          have e0 : ∀ i, i ≠ 8 → (sp_add s.w s.n k m y) 0 i = s.w 0 i := fun i hi => by
            unfold sp_add
            rw [am_up_ap, if_pos rfl, if_neg hi, am_up_ne 0 (by decide), am_up_ne 0 (by decide), am_up_ne 0 (by decide), am_up_ne 0 (by decide), am_up_ne 0 (by decide), am_up_ne 0 (by decide)]
          refine hI.sw ⟨⟨?_, (show s.n + 1 ≤ 5 by omega), fun p hp => ?_, fun i hi => ?_, ?_⟩, ⟨r, g6, ?_⟩, ⟨u, g8, ?_⟩⟩ fun p hp => ?_
          · unfold sp_add
            rw [am_up_ap, if_pos rfl, if_pos rfl]
          · unfold sp_add
            rw [am_up_ne 6 (by decide), am_up_ne 6 (by decide), am_up_ap, if_pos rfl]
            split
            · split
              · exact vp_in_nI (n := 31) (by decide) (by decide)
              · exact vp_in_nI (n := 0) (by decide) (by decide)
            · rw [am_up_ne 6 (by decide), am_up_ne 6 (by decide), am_up_ne 6 (by decide), am_up_ne 6 (by decide)]
              exact g3 p (by omega)
          · unfold sp_add
            rw [am_up_ne 1 (by decide), am_up_ne 1 (by decide), am_up_ne 1 (by decide), am_up_ne 1 (by decide), am_up_ne 1 (by decide), am_up_ne 1 (by decide), am_up_ne 1 (by decide)]
            exact g4 i hi
          · rw [e0 10 (by decide)]; exact g5
          · rw [e0 11 (by decide)]; exact g7
          · rw [e0 9 (by decide)]; exact g9
          · unfold sp_add
            rw [am_up_ne 2 (by decide), am_up_ne 2 (by decide), am_up_ne 2 (by decide), am_up_ne 2 (by decide), am_up_ne 2 (by decide), am_up_ne 2 (by decide), am_up_ap, if_pos rfl]
            split
            · exact am_is_in (by decide) hk
            · exact hI.2.2.2.2.2.2.2.1 p (by omega)
      · exact hI
    · exact hI
  · exact hI
theorem sp_set_I {s : am_S} {what of v : Int32} (hI : am_I s) : am_I (sp_set s what of v).1 := by
  unfold sp_set
  split
  · rename_i hw
    split
    · rename_i ho
      split
      · rename_i hv
        obtain ⟨k, hk, rfl⟩ := am_is_o (by decide) hw
        rw [nI_clamp (by omega)] at hv ⊢
        have hki := hI.2.2.2.2.2.2.2.1
        obtain ⟨⟨g1, g2, g3, g4, g5⟩, ⟨r, g6, g7⟩, ⟨u, g8, g9⟩⟩ := id hI.1
        rcases (show k = 0 ∨ k = 1 ∨ k = 2 ∨ k = 3 ∨ k = 4 ∨ k = 5 ∨ k = 6 by omega) with rfl | rfl | rfl | rfl | rfl | rfl | rfl
        · obtain ⟨x, hx, rfl⟩ := am_is_o (by decide) hv
          have hx' : x < 1000 := hx
          refine hI.sw ⟨⟨?_, g2, ?_, ?_, ?_⟩, ⟨r, g6, ?_⟩, ⟨x, by omega, ?_⟩⟩ ?_
          · rw [sp_lay, am_up_ap, if_pos rfl, if_neg (by decide)]; exact g1
          · rw [sp_lay, am_up_ne 6 (by decide)]; exact g3
          · rw [sp_lay, am_up_ne 1 (by decide)]; exact g4
          · rw [sp_lay, am_up_ap, if_pos rfl, if_neg (by decide)]; exact g5
          · rw [sp_lay, am_up_ap, if_pos rfl, if_neg (by decide)]; exact g7
          · rw [sp_lay, am_up_ap, if_pos rfl, if_pos rfl]
          · intro p hp; rw [sp_lay, am_up_ne 2 (by decide)]; exact hki p hp
        · have hx := am_is_in (by decide) hv
          refine hI.sw ⟨⟨?_, g2, ?_, ?_, ?_⟩, ⟨r, g6, ?_⟩, ⟨u, g8, ?_⟩⟩ ?_
          · rw [sp_lay, am_up_ap, if_pos rfl, if_neg (by decide)]; exact g1
          · rw [sp_lay, am_up_ne 6 (by decide)]; exact g3
          · rw [sp_lay, am_up_ne 1 (by decide)]; exact g4
          · rw [sp_lay, am_up_ap, if_pos rfl, if_pos rfl]; exact hx
          · rw [sp_lay, am_up_ap, if_pos rfl, if_neg (by decide)]; exact g7
          · rw [sp_lay, am_up_ap, if_pos rfl, if_neg (by decide)]; exact g9
          · intro p hp; rw [sp_lay, am_up_ne 2 (by decide)]; exact hki p hp
        · have hx := am_is_in (by decide) hv
          refine hI.sw ⟨⟨?_, g2, ?_, fun i hi => ?_, ?_⟩, ⟨r, g6, ?_⟩, ⟨u, g8, ?_⟩⟩ ?_
          · rw [sp_lay, am_up_ne 0 (by decide)]; exact g1
          · rw [sp_lay, am_up_ne 6 (by decide)]; exact g3
          · rw [sp_lay, am_up_ap, if_pos rfl]
            split
            · exact hx
            · exact g4 i hi
          · rw [sp_lay, am_up_ne 0 (by decide)]; exact g5
          · rw [sp_lay, am_up_ne 0 (by decide)]; exact g7
          · rw [sp_lay, am_up_ne 0 (by decide)]; exact g9
          · intro p hp; rw [sp_lay, am_up_ne 2 (by decide)]; exact hki p hp
        · exact hI.sw (hI.1.row (by decide) (by decide) (by decide)) fun p hp => by rw [sp_lay, am_up_ne 2 (by decide)]; exact hki p hp
        · exact hI.sw (hI.1.row (by decide) (by decide) (by decide)) fun p hp => by rw [sp_lay, am_up_ne 2 (by decide)]; exact hki p hp
        · have hx := am_is_in (by decide) hv
          refine hI.sw ⟨⟨?_, g2, fun p hp => ?_, ?_, ?_⟩, ⟨r, g6, ?_⟩, ⟨u, g8, ?_⟩⟩ ?_
          · rw [sp_lay, am_up_ne 0 (by decide)]; exact g1
          · rw [sp_lay, am_up_ap, if_pos rfl]
            split
            · exact hx
            · exact g3 p hp
          · rw [sp_lay, am_up_ne 1 (by decide)]; exact g4
          · rw [sp_lay, am_up_ne 0 (by decide)]; exact g5
          · rw [sp_lay, am_up_ne 0 (by decide)]; exact g7
          · rw [sp_lay, am_up_ne 0 (by decide)]; exact g9
          · intro p hp; rw [sp_lay, am_up_ne 2 (by decide)]; exact hki p hp
        · exact hI.sw (hI.1.row (by decide) (by decide) (by decide)) fun p hp => by rw [sp_lay, am_up_ne 2 (by decide)]; exact hki p hp
      · exact hI
    · exact hI
  · exact hI
