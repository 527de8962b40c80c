/-! tokens of a tape -/
def sp_D (c : Int32) : Bool := decide (48 ≤ c ∧ c ≤ 57)
def sp_S (c : Int32) : Bool := decide (97 ≤ c ∧ c ≤ 122)
def sp_B (c : Int32) : Bool := decide (c = 32 ∨ c = 10)
def sp_Gn (c : Int32) : Bool := decide (c = 40 ∨ c = 41 ∨ c = 59 ∨ c = 43 ∨ c = 45 ∨ c = 42 ∨ c = 60 ∨ c = 61)
def sp_wl (P : Nat → Bool) : Nat → Nat → Nat
  | 0, i => i
  | e + 1, i => if P i = true then sp_wl P e (i + 1) else i
def sp_to (P : Nat → Bool) (tz s : Nat) : Nat := sp_wl P (tz - s) s
theorem sp_to_in {P : Nat → Bool} {tz s : Nat} (h1 : s < tz) (h2 : P s = true) : sp_to P tz s = sp_to P tz (s + 1) := by
  unfold sp_to
  rw [show tz - s = (tz - (s + 1)) + 1 by omega, sp_wl, if_pos h2]
theorem sp_to_no {P : Nat → Bool} {tz s : Nat} (h2 : P s = false) : sp_to P tz s = s := by
  unfold sp_to
  cases tz - s with
  | zero => rfl
  | succ e => rw [sp_wl, if_neg (by rw [h2]; decide)]
theorem sp_to_end {P : Nat → Bool} {tz s : Nat} (h : tz ≤ s) : sp_to P tz s = s := by
  unfold sp_to
  rw [show tz - s = 0 by omega]
  rfl
theorem sp_wl_le (P : Nat → Bool) : ∀ e i, i ≤ sp_wl P e i ∧ sp_wl P e i ≤ i + e
  | 0, i => ⟨Nat.le_refl i, Nat.le_refl i⟩
  | e + 1, i => by
    have := sp_wl_le P e (i + 1)
    rw [sp_wl]
    split <;> omega
theorem sp_to_le {P : Nat → Bool} {tz s : Nat} (h : s ≤ tz) : s ≤ sp_to P tz s ∧ sp_to P tz s ≤ tz := by
  have := sp_wl_le P (tz - s) s
  unfold sp_to
  omega
/-- going on from s to the end of what is such: by the places left -/
theorem sp_to_ind {P : Nat → Bool} {tz : Nat} {C : Nat → Prop} (s0 : Nat) (h : ∀ s, s0 ≤ s → s ≤ tz → (s < tz → P s = true → C (s + 1)) → C s) : ∀ s, s0 ≤ s → s ≤ tz → C s := by
  have key : ∀ k s, s0 ≤ s → s ≤ tz → tz - s = k → C s := by
    intro k
    induction k with
    | zero => intro s h0 h1 h2; exact h s h0 h1 (fun z _ => absurd z (by omega))
    | succ k ih => intro s h0 h1 h2; exact h s h0 h1 (fun z _ => ih (s + 1) (by omega) (by omega) (by omega))
  intro s h0 h1
  exact key _ s h0 h1 rfl
def sp_sk (tp : Nat → Int32) (tz s : Nat) : Nat := sp_to (fun i => sp_B (tp i)) tz s
def sp_we (tp : Nat → Int32) (tz s : Nat) : Nat := sp_to (fun i => sp_S (tp i)) tz s
def sp_ne (tp : Nat → Int32) (tz s : Nat) : Nat := sp_to (fun i => sp_D (tp i)) tz s
def sp_en (tp : Nat → Int32) (tz s : Nat) : Nat := if tz ≤ s then s else if sp_D (tp s) = true then sp_ne tp tz s else if sp_S (tp s) = true then sp_we tp tz s else s + 1
/-- the word from s on to e -/
def sp_wd (tp : Nat → Int32) : List Int32 → Nat → Nat → Bool
  | [], s, e => decide (s = e)
  | c :: l, s, e => decide (s < e) && (decide (tp s = c) && sp_wd tp l (s + 1) e)
def sp_w (tp : Nat → Int32) (k s e : Nat) : Bool := sp_wd tp (am_sbyt.getD k []) s e
/-- which word it is; 12: none of them -/
def sp_wi (tp : Nat → Int32) (s e : Nat) : Nat := if sp_w tp 0 s e = true then 0 else if sp_w tp 1 s e = true then 1 else if sp_w tp 2 s e = true then 2 else if sp_w tp 3 s e = true then 3 else if sp_w tp 4 s e = true then 4 else if sp_w tp 5 s e = true then 5 else if sp_w tp 6 s e = true then 6 else if sp_w tp 7 s e = true then 7 else if sp_w tp 8 s e = true then 8 else if sp_w tp 9 s e = true then 9 else if sp_w tp 10 s e = true then 10 else if sp_w tp 11 s e = true then 11 else 12
def sp_nv (tp : Nat → Int32) (s : Nat) : Nat → Nat
  | 0 => 0
  | k + 1 => sp_nv tp s k * 10 + ((tp (s + k)).toNatClampNeg - 48)
def sp_kw (k : Nat) : Nat := if k < 6 then 3 else if k < 12 then k - 2 else 1
def sp_kd (tp : Nat → Int32) (tz s : Nat) : Nat := if tz ≤ s then 0 else if sp_D (tp s) = true then (if sp_ne tp tz s - s ≤ 4 then 2 else 1) else if sp_S (tp s) = true then sp_kw (sp_wi tp s (sp_we tp tz s)) else if sp_Gn (tp s) = true then (tp s).toNatClampNeg else 1
def sp_vl (tp : Nat → Int32) (tz s : Nat) : Nat := if sp_D (tp s) = true then sp_nv tp s (min 4 (sp_ne tp tz s - s)) else sp_wi tp s (sp_we tp tz s)
def sp_tkn (tp : Nat → Int32) (tz : Nat) : sp_K := (sp_kd tp tz, sp_vl tp tz, fun s => sp_sk tp tz (sp_en tp tz s))
theorem sp_wi_le (tp : Nat → Int32) (s e : Nat) : sp_wi tp s e ≤ 12 := by
  unfold sp_wi
  repeat' split
  all_goals omega
theorem sp_D_in {c : Int32} (h : sp_D c = true) : ∃ v, v < 10 ∧ c = nI (48 + v) ∧ c.toNatClampNeg - 48 = v := by
  have h1 := of_decide_eq_true h
  rw [am_le, am_le] at h1
  have t1 : (48 : Int32).toInt = 48 := rfl
  have t2 : (57 : Int32).toInt = 57 := rfl
  have t3 : c.toInt = (c.toNatClampNeg : Int) := (am_tn (by omega)).symm
  refine ⟨c.toNatClampNeg - 48, by omega, ?_, rfl⟩
  rw [show 48 + (c.toNatClampNeg - 48) = c.toNatClampNeg by omega, am_of (by omega)]
theorem sp_nv_lt {tp : Nat → Int32} {s : Nat} : ∀ k, (∀ j, j < k → sp_D (tp (s + j)) = true) → sp_nv tp s k < 10 ^ k
  | 0, _ => by rw [sp_nv]; decide
  | k + 1, h => by
    have ih := sp_nv_lt k (fun j hj => h j (by omega))
    obtain ⟨v, v1, v2, v3⟩ := sp_D_in (h k (by omega))
    rw [sp_nv, v3, Nat.pow_succ]
    omega
theorem sp_wl_all {P : Nat → Bool} : ∀ e i j, i ≤ j → j < sp_wl P e i → P j = true
  | 0, i, j, h1, h2 => by rw [sp_wl] at h2; omega
  | e + 1, i, j, h1, h2 => by
    rw [sp_wl] at h2
    by_cases q : P i = true
    · rw [if_pos q] at h2
      rcases Nat.eq_or_lt_of_le h1 with z | z
      · rw [← z]; exact q
      · exact sp_wl_all e (i + 1) j z h2
    · rw [if_neg q] at h2; omega
theorem sp_to_all {P : Nat → Bool} {tz s j : Nat} (h1 : s ≤ j) (h2 : j < sp_to P tz s) : P j = true := sp_wl_all _ _ _ h1 h2
theorem sp_en_le {tp : Nat → Int32} {tz s : Nat} (h : s ≤ tz) : s ≤ sp_en tp tz s ∧ sp_en tp tz s ≤ tz ∧ (s < tz → s < sp_en tp tz s) := by
  unfold sp_en
  by_cases h0 : tz ≤ s
  · rw [if_pos h0]; omega
  rw [if_neg h0]
  by_cases h1 : sp_D (tp s) = true
  · rw [if_pos h1]
    have e := sp_to_in (P := fun i => sp_D (tp i)) (show s < tz by omega) h1
    have := sp_to_le (P := fun i => sp_D (tp i)) (show s + 1 ≤ tz by omega)
    unfold sp_ne
    omega
  rw [if_neg h1]
  by_cases h2 : sp_S (tp s) = true
  · rw [if_pos h2]
    have e := sp_to_in (P := fun i => sp_S (tp i)) (show s < tz by omega) h2
    have := sp_to_le (P := fun i => sp_S (tp i)) (show s + 1 ≤ tz by omega)
    unfold sp_we
    omega
  · rw [if_neg h2]; omega
theorem sp_Gn_in {c : Int32} (h : sp_Gn c = true) : c = nI c.toNatClampNeg ∧ 40 ≤ c.toNatClampNeg ∧ c.toNatClampNeg ≤ 61 := by
  rcases of_decide_eq_true h with rfl | rfl | rfl | rfl | rfl | rfl | rfl | rfl <;> decide
theorem sp_tkn_ok {tp : Nat → Int32} {tz : Nat} (h : tz ≤ 160) : sp_tk (sp_tkn tp tz) tz := by
  refine ⟨h, fun s hs => if_pos hs, fun s hs _ => ?_, fun s hs => ?_, fun s hs => ?_⟩
  · obtain ⟨e1, e2, e3⟩ := sp_en_le (tp := tp) (show s ≤ tz by omega)
    have := sp_to_le (P := fun i => sp_B (tp i)) e2
    show s < sp_sk tp tz (sp_en tp tz s) ∧ sp_sk tp tz (sp_en tp tz s) ≤ tz
    unfold sp_sk
    have := e3 hs
    omega
  · show sp_vl tp tz s < 16384
    have hs : sp_kd tp tz s = 2 := hs
    unfold sp_kd at hs
    unfold sp_vl
    split at hs
    · exact absurd hs (by decide)
    · split at hs
      · rename_i hD
        rw [if_pos hD]
        have hm : min 4 (sp_ne tp tz s - s) ≤ 4 := Nat.min_le_left _ _
        have := sp_nv_lt (tp := tp) (s := s) (min 4 (sp_ne tp tz s - s)) (fun j hj => sp_to_all (P := fun i => sp_D (tp i)) (tz := tz) (s := s) (by omega) (by
          have : min 4 (sp_ne tp tz s - s) ≤ sp_ne tp tz s - s := Nat.min_le_right _ _
          unfold sp_ne at this hj
          omega))
        exact Nat.lt_of_lt_of_le this (Nat.le_trans (Nat.pow_le_pow_right (by decide) hm) (by decide))
      · rename_i hD
        rw [if_neg hD]
        have := sp_wi_le tp s (sp_we tp tz s)
        omega
  · show sp_vl tp tz s < 6
    have hs : sp_kd tp tz s = 3 := hs
    unfold sp_kd at hs
    unfold sp_vl
    split at hs
    · exact absurd hs (by decide)
    · split at hs
      · split at hs <;> exact absurd hs (by decide)
      · rename_i hD
        rw [if_neg hD]
        split at hs
        · unfold sp_kw at hs
          split at hs
          · assumption
          · split at hs
            · omega
            · exact absurd hs (by decide)
        · split at hs
          · rename_i hG
            have := sp_Gn_in hG
            omega
          · exact absurd hs (by decide)
/-! two words are not one -/
theorem sp_wd_inj {tp : Nat → Int32} : ∀ {a b : List Int32} {s e : Nat}, sp_wd tp a s e = true → sp_wd tp b s e = true → a = b
  | [], [], _, _, _, _ => rfl
  | [], c :: l, s, e, h1, h2 => by
    simp only [sp_wd, Bool.and_eq_true, decide_eq_true_eq] at h1 h2
    omega
  | c :: l, [], s, e, h1, h2 => by
    simp only [sp_wd, Bool.and_eq_true, decide_eq_true_eq] at h1 h2
    omega
  | c :: l, c' :: l', s, e, h1, h2 => by
    simp only [sp_wd, Bool.and_eq_true, decide_eq_true_eq] at h1 h2
    rw [sp_wd_inj h1.2.2 h2.2.2, ← h1.2.1, ← h2.2.1]
theorem sp_w_inj {tp : Nat → Int32} {i j s e : Nat} (hi : i < 12) (hj : j < 12) (h1 : sp_w tp i s e = true) (h2 : sp_w tp j s e = true) : i = j := by
  have h := sp_wd_inj h1 h2
  have key : ∀ i, i < 12 → ∀ j, j < 12 → am_sbyt.getD i [] = am_sbyt.getD j [] → i = j := by decide +kernel
  exact key i hi j hj h
theorem sp_wi_w {tp : Nat → Int32} {k s e : Nat} (hk : k < 12) : sp_wi tp s e = k ↔ sp_w tp k s e = true := by
  constructor
  · intro h
    unfold sp_wi at h
    repeat' split at h
    all_goals first | (subst h; assumption) | omega
  · intro h
    have key : ∀ j, j < 12 → j ≠ k → ¬ sp_w tp j s e = true := fun j hj hne z => hne (sp_w_inj hj hk z h)
    unfold sp_wi
    rcases (show k = 0 ∨ k = 1 ∨ k = 2 ∨ k = 3 ∨ k = 4 ∨ k = 5 ∨ k = 6 ∨ k = 7 ∨ k = 8 ∨ k = 9 ∨ k = 10 ∨ k = 11 by omega) with rfl | rfl | rfl | rfl | rfl | rfl | rfl | rfl | rfl | rfl | rfl | rfl
    all_goals simp only [h, if_true]
    all_goals simp [key]
