/-! a text, read: tokens are looked at by the places where they start (kind, worth, the next one's start); a part of it becomes steps (sort, number) -/
abbrev sp_K : Type := (Nat → Nat) × (Nat → Nat) × (Nat → Nat)
abbrev sp_R : Type := Bool × Nat × List (Nat × Nat)
abbrev sp_G : Type := (Nat → sp_R) × (Nat → sp_R) × (Nat → sp_R)
def sp_no (s : Nat) : sp_R := (false, s, [])
def sp_bn (r : sp_R) (f : Nat → List (Nat × Nat) → sp_R) : sp_R := if r.1 = true then f r.2.1 r.2.2 else sp_no r.2.1
def sp_lp (t : sp_K) (ops : Nat → Nat) (P : Nat → sp_R) : Nat → Nat → List (Nat × Nat) → sp_R
  | 0, s, l => (true, s, l)
  | e + 1, s, l => if ops (t.1 s) = 0 then (true, s, l) else sp_bn (P (t.2.2 s)) fun s2 l2 => sp_lp t ops P e s2 (l ++ l2 ++ [(ops (t.1 s), 0)])
def sp_opT (k : Nat) : Nat := if k = 42 then 6 else 0
def sp_opS (k : Nat) : Nat := if k = 43 then 4 else if k = 45 then 5 else 0
def sp_opA (k : Nat) : Nat := if k = 8 then 9 else 0
def sp_opO (k : Nat) : Nat := if k = 7 then 10 else 0
def sp_bare (t : sp_K) (q : Option sp_G) (s : Nat) : sp_R :=
  if t.1 s = 2 then (true, t.2.2 s, [(0, t.2.1 s)]) else if t.1 s = 3 then (true, t.2.2 s, [(1, t.2.1 s)])
  else if t.1 s = 40 then (match q with
    | none => sp_no s
    | some g => sp_bn (g.1 (t.2.2 s)) fun s2 l2 => if t.1 s2 = 41 then (true, t.2.2 s2, l2) else sp_no s2)
  else sp_no s
def sp_one (t : sp_K) (q : Option sp_G) (s : Nat) : sp_R :=
  if t.1 s = 45 then (match q with
    | none => sp_no s
    | some g => sp_bn (g.2.2 (t.2.2 s)) fun s2 l2 => (true, s2, l2 ++ [(2, 0)]))
  else sp_bare t q s
def sp_term (t : sp_K) (q : Option sp_G) (s : Nat) : sp_R := sp_bn (sp_one t q s) (sp_lp t sp_opT (sp_one t q) 160)
def sp_summ (t : sp_K) (q : Option sp_G) (s : Nat) : sp_R := sp_bn (sp_term t q s) (sp_lp t sp_opS (sp_term t q) 160)
def sp_cmp (t : sp_K) (q : Option sp_G) (s : Nat) : sp_R := sp_bn (sp_summ t q s) fun s2 l2 => if t.1 s2 = 60 ∨ t.1 s2 = 61 then sp_bn (sp_summ t q (t.2.2 s2)) fun s3 l3 => (true, s3, l2 ++ l3 ++ [(if t.1 s2 = 60 then 7 else 8, 0)]) else (true, s2, l2)
def sp_nt (t : sp_K) (q : Option sp_G) (s : Nat) : sp_R :=
  if t.1 s = 9 then (match q with
    | none => sp_no s
    | some g => sp_bn (g.2.1 (t.2.2 s)) fun s2 l2 => (true, s2, l2 ++ [(3, 0)]))
  else sp_cmp t q s
def sp_an (t : sp_K) (q : Option sp_G) (s : Nat) : sp_R := sp_bn (sp_nt t q s) (sp_lp t sp_opA (sp_nt t q) 160)
def sp_or (t : sp_K) (q : Option sp_G) (s : Nat) : sp_R := sp_bn (sp_an t q s) (sp_lp t sp_opO (sp_an t q) 160)
def sp_lev (t : sp_K) : Nat → Option sp_G
  | 0 => none
  | k + 1 => some (sp_or t (sp_lev t k), sp_nt t (sp_lev t k), sp_one t (sp_lev t k))
def sp_part (t : sp_K) (key s : Nat) : sp_R := if t.1 s = key then sp_bn (sp_or t (sp_lev t 5) (t.2.2 s)) fun s2 l2 => if t.1 s2 = 59 then (true, t.2.2 s2, l2) else sp_no s2 else sp_no s
/-- sound, the end or the fault, the three parts -/
def sp_text (t : sp_K) (s0 : Nat) : Bool × Nat × List (Nat × Nat) × List (Nat × Nat) × List (Nat × Nat) :=
  let a := sp_part t 4 s0
  if a.1 = true then
    let b := sp_part t 5 a.2.1
    if b.1 = true then
      let c := sp_part t 6 b.2.1
      if c.1 = true then (if t.1 c.2.1 = 0 then (true, c.2.1, a.2.2, b.2.2, c.2.2) else (false, c.2.1, [], [], []))
      else (false, c.2.1, [], [], [])
    else (false, b.2.1, [], [], [])
  else (false, a.2.1, [], [], [])
theorem sp_bn_t {r : sp_R} {f : Nat → List (Nat × Nat) → sp_R} (h : r.1 = true) : sp_bn r f = f r.2.1 r.2.2 := if_pos h
theorem sp_bn_f {r : sp_R} {f : Nat → List (Nat × Nat) → sp_R} (h : r.1 = false) : sp_bn r f = sp_no r.2.1 := if_neg (by rw [h]; decide)
/-! what is known of tokens: behind the end there is none; a token that can stand goes on; numbers and names are small -/
def sp_tk (t : sp_K) (tz : Nat) : Prop := tz ≤ 160 ∧ (∀ s, tz ≤ s → t.1 s = 0) ∧ (∀ s, s < tz → t.1 s ≠ 1 → s < t.2.2 s ∧ t.2.2 s ≤ tz) ∧ (∀ s, t.1 s = 2 → t.2.1 s < 16384) ∧ (∀ s, t.1 s = 3 → t.2.1 s < 6)
theorem sp_tk.lt {t : sp_K} {tz s : Nat} (h : sp_tk t tz) (h0 : t.1 s ≠ 0) : s < tz := by
  rcases Nat.lt_or_ge s tz with q | q
  · exact q
  · exact absurd (h.2.1 s q) h0
/-- a reader of tokens: it goes forward by as many places as it gives steps, more than that; what it gives leaves one number more on a pile of at most b -/
def sp_gd (t : sp_K) (tz b : Nat) (P : Nat → sp_R) : Prop := ∀ s, s ≤ tz → s ≤ (P s).2.1 ∧ (P s).2.1 ≤ tz ∧ ((P s).1 = true → s + (P s).2.2.length ≤ (P s).2.1 ∧ s < (P s).2.1 ∧ ∀ m, m ≤ b → ∀ rest, sp_wf rest (m + 1) → sp_wf ((P s).2.2 ++ rest) m)
def sp_gl (tz b s : Nat) (l : List (Nat × Nat)) (r : sp_R) : Prop := s ≤ r.2.1 ∧ r.2.1 ≤ tz ∧ (r.1 = true → s + r.2.2.length ≤ r.2.1 + l.length ∧ ∀ m, m ≤ b → ∀ rest, sp_wf rest (m + 1) → sp_wf (r.2.2 ++ rest) m)
theorem sp_wf_c {k v n : Nat} {l : List (Nat × Nat)} : sp_wf ((k, v) :: l) n = (if k ≤ 1 then n < 36 ∧ v < 16384 ∧ (k = 1 → v < 6) ∧ sp_wf l (n + 1) else if k ≤ 3 then 1 ≤ n ∧ v = 0 ∧ sp_wf l n else k ≤ 10 ∧ v = 0 ∧ 2 ≤ n ∧ sp_wf l (n - 1)) := rfl
theorem sp_lp_g {t : sp_K} {tz b : Nat} {ops : Nat → Nat} {P : Nat → sp_R} (ht : sp_tk t tz) (hP : sp_gd t tz (b + 1) P) (ho : ∀ k, ops k ≠ 0 → 4 ≤ ops k ∧ ops k ≤ 10 ∧ k ≠ 0 ∧ k ≠ 1) : ∀ e s l, s ≤ tz → (∀ m, m ≤ b → ∀ rest, sp_wf rest (m + 1) → sp_wf (l ++ rest) m) → sp_gl tz b s l (sp_lp t ops P e s l)
  | 0, s, l, hs, hl => ⟨Nat.le_refl s, hs, fun _ => ⟨Nat.le_refl _, hl⟩⟩
  | e + 1, s, l, hs, hl => by
    simp only [sp_lp]
    by_cases h0 : ops (t.1 s) = 0
    · rw [if_pos h0]
      exact ⟨Nat.le_refl s, hs, fun _ => ⟨Nat.le_refl _, hl⟩⟩
    · rw [if_neg h0]
      obtain ⟨o1, o2, o3, o4⟩ := ho _ h0
      have hlt := ht.lt o3
      obtain ⟨n1, n2⟩ := ht.2.2.1 s hlt o4
      obtain ⟨p1, p2, p3⟩ := hP (t.2.2 s) n2
      by_cases hr : (P (t.2.2 s)).1 = true
      · rw [sp_bn_t hr]
        obtain ⟨q1, q2, q3⟩ := p3 hr
        have ih := sp_lp_g ht hP ho e (P (t.2.2 s)).2.1 (l ++ (P (t.2.2 s)).2.2 ++ [(ops (t.1 s), 0)]) p2 (fun m hm rest hw => by
          rw [List.append_assoc, List.append_assoc]
          refine hl m hm _ ?_
          refine q3 (m + 1) (by omega) _ ?_
          rw [List.singleton_append, sp_wf_c, if_neg (by omega), if_neg (by omega)]
          exact ⟨o2, rfl, by omega, hw⟩)
        obtain ⟨i1, i2, i3⟩ := ih
        refine ⟨by omega, i2, fun z => ?_⟩
        obtain ⟨i4, i5⟩ := i3 z
        refine ⟨?_, i5⟩
        simp only [List.length_append, List.length_cons, List.length_nil] at i4
        omega
      · rw [sp_bn_f (by simpa using hr)]
        exact ⟨by show s ≤ (P (t.2.2 s)).2.1; omega, p2, fun z => absurd z (by simp [sp_no])⟩
theorem sp_bl_g {t : sp_K} {tz b : Nat} {ops : Nat → Nat} {P : Nat → sp_R} (ht : sp_tk t tz) (hP : sp_gd t tz (b + 1) P) (ho : ∀ k, ops k ≠ 0 → 4 ≤ ops k ∧ ops k ≤ 10 ∧ k ≠ 0 ∧ k ≠ 1) (e : Nat) : sp_gd t tz b (fun s => sp_bn (P s) (sp_lp t ops P e)) := by
  intro s hs
  obtain ⟨p1, p2, p3⟩ := hP s hs
  show s ≤ (sp_bn (P s) (sp_lp t ops P e)).2.1 ∧ _
  by_cases hr : (P s).1 = true
  · obtain ⟨q1, q2, q3⟩ := p3 hr
    have ih := sp_lp_g (b := b) ht hP ho e (P s).2.1 (P s).2.2 p2 (fun m hm rest hw => q3 m (by omega) rest hw)
    simp only [sp_bn_t hr]
    obtain ⟨i1, i2, i3⟩ := ih
    exact ⟨by omega, i2, fun z => ⟨by have := (i3 z).1; omega, by omega, (i3 z).2⟩⟩
  · simp only [sp_bn_f (show (P s).1 = false by simpa using hr)]
    exact ⟨p1, p2, fun z => absurd z (by simp [sp_no])⟩
theorem sp_opT_o : ∀ k, sp_opT k ≠ 0 → 4 ≤ sp_opT k ∧ sp_opT k ≤ 10 ∧ k ≠ 0 ∧ k ≠ 1 := by
  intro k h
  unfold sp_opT at h ⊢
  split at h
  · rw [if_pos (by assumption)]; omega
  · exact absurd rfl h
theorem sp_opS_o : ∀ k, sp_opS k ≠ 0 → 4 ≤ sp_opS k ∧ sp_opS k ≤ 10 ∧ k ≠ 0 ∧ k ≠ 1 := by
  intro k h
  unfold sp_opS at h ⊢
  split at h
  · rw [if_pos (by assumption)]; omega
  · split at h
    · rw [if_neg (by assumption), if_pos (by assumption)]; omega
    · exact absurd rfl h
theorem sp_opA_o : ∀ k, sp_opA k ≠ 0 → 4 ≤ sp_opA k ∧ sp_opA k ≤ 10 ∧ k ≠ 0 ∧ k ≠ 1 := by
  intro k h
  unfold sp_opA at h ⊢
  split at h
  · rw [if_pos (by assumption)]; omega
  · exact absurd rfl h
theorem sp_opO_o : ∀ k, sp_opO k ≠ 0 → 4 ≤ sp_opO k ∧ sp_opO k ≤ 10 ∧ k ≠ 0 ∧ k ≠ 1 := by
  intro k h
  unfold sp_opO at h ⊢
  split at h
  · rw [if_pos (by assumption)]; omega
  · exact absurd rfl h
/-- what a level's readers are known for -/
def sp_gq (t : sp_K) (tz b : Nat) (q : Option sp_G) : Prop := ∀ g, q = some g → sp_gd t tz b g.1 ∧ sp_gd t tz b g.2.1 ∧ sp_gd t tz b g.2.2
theorem sp_no_g {tz s : Nat} (hs : s ≤ tz) : s ≤ (sp_no s).2.1 ∧ (sp_no s).2.1 ≤ tz := ⟨Nat.le_refl s, hs⟩
theorem sp_no_f {s : Nat} {A : Prop} (h : (sp_no s).1 = true) : A := absurd h (by simp [sp_no])
theorem sp_gd.mono {t : sp_K} {tz b c : Nat} {P : Nat → sp_R} (h : sp_gd t tz b P) (hc : c ≤ b) : sp_gd t tz c P := fun s hs => ⟨(h s hs).1, (h s hs).2.1, fun z => ⟨((h s hs).2.2 z).1, ((h s hs).2.2 z).2.1, fun m hm => ((h s hs).2.2 z).2.2 m (by omega)⟩⟩
/-- one more is open: a reader with a step behind it -/
theorem sp_pre_g {t : sp_K} {tz b s k : Nat} {P : Nat → sp_R} (ht : sp_tk t tz) (hs : s ≤ tz) (h0 : t.1 s ≠ 0) (h1 : t.1 s ≠ 1) (hP : sp_gd t tz b P) (hk : k = 2 ∨ k = 3) {r : sp_R} (hr : r = sp_bn (P (t.2.2 s)) fun s2 l2 => (true, s2, l2 ++ [(k, 0)])) : s ≤ r.2.1 ∧ r.2.1 ≤ tz ∧ (r.1 = true → s + r.2.2.length ≤ r.2.1 ∧ s < r.2.1 ∧ ∀ m, m ≤ b → ∀ rest, sp_wf rest (m + 1) → sp_wf (r.2.2 ++ rest) m) := by
  subst hr
  obtain ⟨n1, n2⟩ := ht.2.2.1 s (ht.lt h0) h1
  obtain ⟨p1, p2, p3⟩ := hP (t.2.2 s) n2
  by_cases hr : (P (t.2.2 s)).1 = true
  · rw [sp_bn_t hr]
    obtain ⟨q1, q2, q3⟩ := p3 hr
    refine ⟨by show s ≤ (P (t.2.2 s)).2.1; omega, p2, fun _ => ⟨?_, by show s < (P (t.2.2 s)).2.1; omega, fun m hm rest hw => ?_⟩⟩
    · show s + ((P (t.2.2 s)).2.2 ++ [(k, 0)]).length ≤ (P (t.2.2 s)).2.1
      simp only [List.length_append, List.length_cons, List.length_nil]
      omega
    · show sp_wf ((P (t.2.2 s)).2.2 ++ [(k, 0)] ++ rest) m
      rw [List.append_assoc]
      refine q3 m hm _ ?_
      rw [List.singleton_append, sp_wf_c, if_neg (by omega), if_pos (by omega)]
      exact ⟨by omega, rfl, hw⟩
  · rw [sp_bn_f (show (P (t.2.2 s)).1 = false by simpa using hr)]
    exact ⟨by show s ≤ (P (t.2.2 s)).2.1; omega, p2, fun z => sp_no_f z⟩
theorem sp_bare_g {t : sp_K} {tz b : Nat} {q : Option sp_G} (ht : sp_tk t tz) (hb : b < 36) (hq : sp_gq t tz b q) : sp_gd t tz b (sp_bare t q) := by
  intro s hs
  unfold sp_bare
  by_cases h2 : t.1 s = 2
  · rw [if_pos h2]
    obtain ⟨n1, n2⟩ := ht.2.2.1 s (ht.lt (by rw [h2]; decide)) (by rw [h2]; decide)
    refine ⟨by show s ≤ t.2.2 s; omega, n2, fun _ => ⟨by show s + 1 ≤ t.2.2 s; omega, n1, fun m hm rest hw => ?_⟩⟩
    show sp_wf ((0, t.2.1 s) :: rest) m
    rw [sp_wf_c, if_pos (by decide)]
    exact ⟨by omega, ht.2.2.2.1 s h2, fun z => absurd z (by decide), hw⟩
  rw [if_neg h2]
  by_cases h3 : t.1 s = 3
  · rw [if_pos h3]
    obtain ⟨n1, n2⟩ := ht.2.2.1 s (ht.lt (by rw [h3]; decide)) (by rw [h3]; decide)
    refine ⟨by show s ≤ t.2.2 s; omega, n2, fun _ => ⟨by show s + 1 ≤ t.2.2 s; omega, n1, fun m hm rest hw => ?_⟩⟩
    show sp_wf ((1, t.2.1 s) :: rest) m
    rw [sp_wf_c, if_pos (by decide)]
    have := ht.2.2.2.2 s h3
    exact ⟨by omega, by omega, fun _ => this, hw⟩
  rw [if_neg h3]
  by_cases h4 : t.1 s = 40
  · rw [if_pos h4]
    obtain ⟨n1, n2⟩ := ht.2.2.1 s (ht.lt (by rw [h4]; decide)) (by rw [h4]; decide)
    cases q with
    | none => exact ⟨Nat.le_refl s, hs, fun z => sp_no_f z⟩
    | some g =>
      obtain ⟨p1, p2, p3⟩ := (hq g rfl).1 (t.2.2 s) n2
      show s ≤ (sp_bn (g.1 (t.2.2 s)) _).2.1 ∧ (sp_bn (g.1 (t.2.2 s)) _).2.1 ≤ tz ∧ ((sp_bn (g.1 (t.2.2 s)) _).1 = true → _)
      by_cases hr : (g.1 (t.2.2 s)).1 = true
      · obtain ⟨q1, q2, q3⟩ := p3 hr
        by_cases h5 : t.1 (g.1 (t.2.2 s)).2.1 = 41
        · obtain ⟨k1, k2⟩ := ht.2.2.1 _ (ht.lt (by rw [h5]; decide)) (by rw [h5]; decide)
          simp only [sp_bn_t hr, if_pos h5]
          exact ⟨by omega, k2, fun _ => ⟨by omega, by omega, q3⟩⟩
        · simp only [sp_bn_t hr, if_neg h5]
          exact ⟨by show s ≤ (g.1 (t.2.2 s)).2.1; omega, p2, fun z => sp_no_f z⟩
      · simp only [sp_bn_f (show (g.1 (t.2.2 s)).1 = false by simpa using hr)]
        exact ⟨by show s ≤ (g.1 (t.2.2 s)).2.1; omega, p2, fun z => sp_no_f z⟩
  · rw [if_neg h4]
    exact ⟨Nat.le_refl s, hs, fun z => sp_no_f z⟩
theorem sp_one_g {t : sp_K} {tz b : Nat} {q : Option sp_G} (ht : sp_tk t tz) (hb : b < 36) (hq : sp_gq t tz b q) : sp_gd t tz b (sp_one t q) := by
  intro s hs
  unfold sp_one
  by_cases h : t.1 s = 45
  · rw [if_pos h]
    cases q with
    | none => exact ⟨Nat.le_refl s, hs, fun z => sp_no_f z⟩
    | some g => exact sp_pre_g ht hs (by rw [h]; decide) (by rw [h]; decide) (hq g rfl).2.2 (Or.inl rfl) rfl
  · rw [if_neg h]
    exact sp_bare_g ht hb hq s hs
theorem sp_term_g {t : sp_K} {tz b : Nat} {q : Option sp_G} (ht : sp_tk t tz) (hb : b + 1 < 36) (hq : sp_gq t tz (b + 1) q) : sp_gd t tz b (sp_term t q) := sp_bl_g ht (sp_one_g ht hb hq) sp_opT_o 160
theorem sp_summ_g {t : sp_K} {tz b : Nat} {q : Option sp_G} (ht : sp_tk t tz) (hb : b + 2 < 36) (hq : sp_gq t tz (b + 2) q) : sp_gd t tz b (sp_summ t q) := sp_bl_g ht (sp_term_g ht hb hq) sp_opS_o 160
theorem sp_cmp_g {t : sp_K} {tz b : Nat} {q : Option sp_G} (ht : sp_tk t tz) (hb : b + 3 < 36) (hq : sp_gq t tz (b + 3) q) : sp_gd t tz b (sp_cmp t q) := by
  have hP : sp_gd t tz (b + 1) (sp_summ t q) := sp_summ_g ht hb hq
  intro s hs
  unfold sp_cmp
  obtain ⟨p1, p2, p3⟩ := hP s hs
  by_cases hr : (sp_summ t q s).1 = true
  · obtain ⟨q1, q2, q3⟩ := p3 hr
    rw [sp_bn_t hr]
    by_cases h : t.1 (sp_summ t q s).2.1 = 60 ∨ t.1 (sp_summ t q s).2.1 = 61
    · rw [if_pos h]
      have h0 : t.1 (sp_summ t q s).2.1 ≠ 0 := by omega
      have h1 : t.1 (sp_summ t q s).2.1 ≠ 1 := by omega
      obtain ⟨n1, n2⟩ := ht.2.2.1 _ (ht.lt h0) h1
      obtain ⟨u1, u2, u3⟩ := hP _ n2
      by_cases hr2 : (sp_summ t q (t.2.2 (sp_summ t q s).2.1)).1 = true
      · rw [sp_bn_t hr2]
        obtain ⟨v1, v2, v3⟩ := u3 hr2
        refine ⟨by show s ≤ (sp_summ t q (t.2.2 (sp_summ t q s).2.1)).2.1; omega, u2, fun _ => ⟨?_, by show s < (sp_summ t q (t.2.2 (sp_summ t q s).2.1)).2.1; omega, fun m hm rest hw => ?_⟩⟩
        · show s + (_ ++ _ ++ [_]).length ≤ (sp_summ t q (t.2.2 (sp_summ t q s).2.1)).2.1
          simp only [List.length_append, List.length_cons, List.length_nil]
          omega
        · show sp_wf (_ ++ _ ++ [_] ++ rest) m
          rw [List.append_assoc, List.append_assoc]
          refine q3 m (by omega) _ (v3 (m + 1) (by omega) _ ?_)
          rw [List.singleton_append, sp_wf_c, if_neg (by split <;> decide), if_neg (by split <;> decide)]
          exact ⟨by split <;> decide, rfl, by omega, hw⟩
      · rw [sp_bn_f (show _ = false by simpa using hr2)]
        exact ⟨by show s ≤ (sp_summ t q (t.2.2 (sp_summ t q s).2.1)).2.1; omega, u2, fun z => sp_no_f z⟩
    · rw [if_neg h]
      exact ⟨p1, p2, fun _ => ⟨q1, q2, fun m hm => q3 m (by omega)⟩⟩
  · rw [sp_bn_f (show _ = false by simpa using hr)]
    exact ⟨p1, p2, fun z => sp_no_f z⟩
theorem sp_nt_g {t : sp_K} {tz b : Nat} {q : Option sp_G} (ht : sp_tk t tz) (hb : b + 3 < 36) (hq : sp_gq t tz (b + 3) q) : sp_gd t tz b (sp_nt t q) := by
  intro s hs
  unfold sp_nt
  by_cases h : t.1 s = 9
  · rw [if_pos h]
    cases q with
    | none => exact ⟨Nat.le_refl s, hs, fun z => sp_no_f z⟩
    | some g => exact sp_pre_g ht hs (by rw [h]; decide) (by rw [h]; decide) ((hq g rfl).2.1.mono (by omega)) (Or.inr rfl) rfl
  · rw [if_neg h]
    exact sp_cmp_g ht hb hq s hs
theorem sp_an_g {t : sp_K} {tz b : Nat} {q : Option sp_G} (ht : sp_tk t tz) (hb : b + 4 < 36) (hq : sp_gq t tz (b + 4) q) : sp_gd t tz b (sp_an t q) := sp_bl_g ht (sp_nt_g ht hb hq) sp_opA_o 160
theorem sp_or_g {t : sp_K} {tz b : Nat} {q : Option sp_G} (ht : sp_tk t tz) (hb : b + 5 < 36) (hq : sp_gq t tz (b + 5) q) : sp_gd t tz b (sp_or t q) := sp_bl_g ht (sp_an_g ht hb hq) sp_opO_o 160
theorem sp_lev_g {t : sp_K} {tz : Nat} (ht : sp_tk t tz) : ∀ k, k ≤ 5 → sp_gq t tz (30 - 5 * k) (sp_lev t k)
  | 0, _ => fun g hg => absurd hg (by simp [sp_lev])
  | k + 1, hk => by
    have ih := sp_lev_g ht k (by omega)
    have e : 30 - 5 * (k + 1) + 5 = 30 - 5 * k := by omega
    intro g hg
    simp only [sp_lev, Option.some.injEq] at hg
    subst hg
    exact ⟨sp_or_g ht (by omega) (by rw [e]; exact ih), (sp_nt_g (b := 27 - 5 * k) ht (by omega) (by rw [show 27 - 5 * k + 3 = 30 - 5 * k by omega]; exact ih)).mono (by omega), (sp_one_g (b := 30 - 5 * k) ht (by omega) ih).mono (by omega)⟩
