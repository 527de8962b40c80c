theorem sp_text_I {s : am_S} (hI : am_I s) : am_I (sp_textO s).1 := by
  unfold sp_textO
  by_cases e : s.nT = 6
  · rw [if_pos e]
    exact hI
  · rw [if_neg e]
    obtain ⟨⟨j1, ⟨r, r1, r2⟩, j3⟩, k, g1, g2, g3, g4, g5⟩ := hI
    by_cases q : s.rd.1 = true
    · rw [if_pos q]
      exact ⟨⟨j1, ⟨r, Nat.lt_succ_of_lt r1, r2⟩, j3⟩, fun z => (by
        obtain ⟨a1, ⟨b, b1, b2⟩, a3⟩ := k z
        exact ⟨a1, ⟨b, Nat.lt_succ_of_lt b1, b2⟩, a3⟩), Nat.le_succ_of_le g1, (by show s.nT + 1 ≤ 6; omega), Nat.zero_le _, fun i hi => absurd hi (Nat.not_lt_zero i), g5⟩
    · rw [if_neg q]
      exact ⟨⟨j1, ⟨r, r1, r2⟩, j3⟩, k, g1, g2, Nat.zero_le _, fun i hi => absurd hi (Nat.not_lt_zero i), g5⟩
