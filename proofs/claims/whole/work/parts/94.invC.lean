theorem sp_sheet_I {s : am_S} {c so1 m : Int32} (hI : am_I s) : am_I (sp_sheet s c so1 m).1 := by
  unfold sp_sheet
  have hz := hI.2.2.2.2.2.2.1
  split
  · split
    · refine hI.ss fun i hi => ⟨?_, ?_⟩
      · split
        · omega
        · exact (hz i hi).1
      · split
        · exact Or.inl rfl
        · exact (hz i hi).2
    · split
      · rename_i h3
        split
        · exact hI
        · rename_i h40
          split
          · exact hI
          · rename_i h0
            refine hI.ss fun i hi => ⟨?_, ?_⟩
            · split
              · have n40 : m < nI 41 := (am_lt_le (n := 40) (by decide)).mp (Int32.not_lt.mp h40)
                obtain ⟨M, hM1, rfl⟩ := am_is_o (n := 41) (by decide) (am_is_of h0 n40)
                rw [nI_clamp (by omega)]
                omega
              · exact (hz i hi).1
            · split
              · obtain ⟨v, hv, rfl⟩ := am_is_o (by decide) h3
                rcases (show v = 0 ∨ v = 1 ∨ v = 2 by omega) with rfl | rfl | rfl
                · exact Or.inr (Or.inl rfl)
                · exact Or.inr (Or.inr (Or.inl rfl))
                · exact Or.inr (Or.inr (Or.inr rfl))
              · exact (hz i hi).2
      · exact hI
  · exact hI
theorem sp_famN_I {k : Nat} {a : Int32} : ∀ e q came (s : am_S), am_I s → am_I (sp_famN k a e q came s).1
  | 0, _, _, _, hI => hI
  | e + 1, q, came, s, hI => by
    rw [sp_famN]
    split
    · split
      · exact sp_famN_I e _ _ _ (sp_person_I hI)
      · exact sp_famN_I e _ _ _ (sp_person_I hI)
    · exact hI
theorem sp_family_I {s : am_S} {c so1 a m : Int32} (hI : am_I s) : am_I (sp_family s c so1 a m).1 := by
  unfold sp_family
  split
  · split
    · exact hI
    · split
      · exact sp_famN_I _ _ _ _ hI
      · exact hI
  · exact hI
theorem sp_film_I {s : am_S} {c one m : Int32} (hI : am_I s) : am_I (sp_film s c one m).1 := by
  unfold sp_film
  have hz := hI.2.2.2.2.2.2.1
  split
  · rename_i hc
    obtain ⟨M, hM, rfl⟩ := am_is_o (by decide) hc.2.2
    refine hI.ss fun i hi => ⟨?_, ?_⟩
    · split
      · rw [nI_clamp (by omega)]; omega
      · exact (hz i hi).1
    · split
      · exact Or.inr (Or.inl rfl)
      · exact (hz i hi).2
  · exact hI
