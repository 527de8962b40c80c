/-! WHAT AN INSTRUCTION ASKS: tm_xx Q L S Y h is what must hold ahead of it so that Q holds behind it; a_xx says so of the machine. -/
def am_oi : Option Value → (Int32 → Prop) → Prop
  | some (.int x), f => f x
  | _, _ => False
def am_ol : Option Value → (Int64 → Prop) → Prop
  | some (.long x), f => f x
  | _, _ => False
def am_or : Option Value → (Value → Prop) → Prop
  | some (.ref i), f => f (.ref i)
  | some (.float k), f => f (.float k)
  | _, _ => False
def am_pi : List Value → (Int32 → List Value → Prop) → Prop
  | .int x :: S, f => f x S
  | _, _ => False
def am_pj : List Value → (Int64 → List Value → Prop) → Prop
  | .long x :: S, f => f x S
  | _, _ => False
def am_pr : List Value → (Nat → List Value → Prop) → Prop
  | .ref i :: S, f => f i S
  | _, _ => False
def am_pa : List Value → (Value → List Value → Prop) → Prop
  | .ref i :: S, f => f (.ref i) S
  | .float i :: S, f => f (.float i) S
  | _, _ => False
def am_yo : Option am_C → Nat → (List Value → Prop) → Prop
  | some (2, cj, fs), ci, f => cj = ci ∧ f fs
  | _, _, _ => False
def am_ya : Option am_C → Nat → (Nat → List Value → Prop) → Prop
  | some (t, n, fs), u, f => t = u ∧ f n fs
  | none, _, _ => False
def am_fv : Option Value → Int32 → (Value → Prop) → Prop
  | some (.int _), x, f => f (.int x)
  | some (.long _), x, f => f (.long x.toInt64)
  | some (.ref j), _, f => f (.ref j)
  | _, _, _ => False
def am_fi : Option Value → Prop → Prop
  | some (.int _), f => f
  | _, _ => False
def am_fl : Option Value → Prop → Prop
  | some (.long _), f => f
  | _, _ => False
def am_rv : Option Value → (Value → Prop) → Prop
  | some (.ref j), f => f (.ref j)
  | _, _ => False
def am_n2 : Option Value → Prop
  | some v => v.category = 1
  | none => True
def am_pv : Nat → List Value → Prop
  | 0, _ => True
  | k + 1, L => am_n2 L[k]?
def am_cs : List Value → Nat
  | [] => 0
  | v :: l => v.category + am_cs l
theorem am_oi_of {v : Option Value} {f : Int32 → Prop} (h : am_oi v f) : ∃ x, v = some (.int x) ∧ f x := by
  unfold am_oi at h
  split at h
  · exact ⟨_, rfl, h⟩
  · exact h.elim
theorem am_ol_of {v : Option Value} {f : Int64 → Prop} (h : am_ol v f) : ∃ x, v = some (.long x) ∧ f x := by
  unfold am_ol at h
  split at h
  · exact ⟨_, rfl, h⟩
  · exact h.elim
theorem am_or_of {v : Option Value} {f : Value → Prop} (h : am_or v f) : ∃ x, v = some x ∧ ((∃ i, x = .ref i) ∨ ∃ i, x = .float i) ∧ f x := by
  unfold am_or at h
  split at h
  · exact ⟨_, rfl, Or.inl ⟨_, rfl⟩, h⟩
  · exact ⟨_, rfl, Or.inr ⟨_, rfl⟩, h⟩
  · exact h.elim
theorem am_pi_of {S : List Value} {f : Int32 → List Value → Prop} (h : am_pi S f) : ∃ x S1, S = .int x :: S1 ∧ f x S1 := by
  unfold am_pi at h
  split at h
  · exact ⟨_, _, rfl, h⟩
  · exact h.elim
theorem am_pj_of {S : List Value} {f : Int64 → List Value → Prop} (h : am_pj S f) : ∃ x S1, S = .long x :: S1 ∧ f x S1 := by
  unfold am_pj at h
  split at h
  · exact ⟨_, _, rfl, h⟩
  · exact h.elim
theorem am_pr_of {S : List Value} {f : Nat → List Value → Prop} (h : am_pr S f) : ∃ x S1, S = .ref x :: S1 ∧ f x S1 := by
  unfold am_pr at h
  split at h
  · exact ⟨_, _, rfl, h⟩
  · exact h.elim
theorem am_pa_of {S : List Value} {f : Value → List Value → Prop} (h : am_pa S f) : ∃ x S1, S = x :: S1 ∧ ((∃ i, x = .ref i) ∨ ∃ i, x = .float i) ∧ f x S1 := by
  unfold am_pa at h
  split at h
  · exact ⟨_, _, rfl, Or.inl ⟨_, rfl⟩, h⟩
  · exact ⟨_, _, rfl, Or.inr ⟨_, rfl⟩, h⟩
  · exact h.elim
theorem am_yo_of {c : Option am_C} {ci : Nat} {f : List Value → Prop} (h : am_yo c ci f) : ∃ fs, c = some (2, ci, fs) ∧ f fs := by
  unfold am_yo at h
  split at h
  · obtain ⟨rfl, h⟩ := h
    exact ⟨_, rfl, h⟩
  · exact h.elim
theorem am_ya_of {c : Option am_C} {t : Nat} {f : Nat → List Value → Prop} (h : am_ya c t f) : ∃ n fs, c = some (t, n, fs) ∧ f n fs := by
  unfold am_ya at h
  split at h
  · obtain ⟨rfl, h⟩ := h
    exact ⟨_, _, rfl, h⟩
  · exact h.elim
theorem am_fv_of {v : Option Value} {x : Int32} {f : Value → Prop} (h : am_fv v x f) : ∃ z w, v = some z ∧ f w ∧ ∀ G o, am_f o x z = am_v G o w := by
  unfold am_fv at h
  split at h
  · exact ⟨_, _, rfl, h, fun _ _ => rfl⟩
  · exact ⟨_, _, rfl, h, fun _ _ => rfl⟩
  · exact ⟨_, _, rfl, h, fun _ _ => rfl⟩
  · exact h.elim
theorem am_fi_of {v : Option Value} {f : Prop} (h : am_fi v f) : ∃ z, v = some (.int z) ∧ f := by
  unfold am_fi at h
  split at h
  · exact ⟨_, rfl, h⟩
  · exact h.elim
theorem am_fl_of {v : Option Value} {f : Prop} (h : am_fl v f) : ∃ z, v = some (.long z) ∧ f := by
  unfold am_fl at h
  split at h
  · exact ⟨_, rfl, h⟩
  · exact h.elim
theorem am_rv_of {v : Option Value} {f : Value → Prop} (h : am_rv v f) : ∃ j, v = some (.ref j) ∧ f (.ref j) := by
  unfold am_rv at h
  split at h
  · exact ⟨_, rfl, h⟩
  · exact h.elim
theorem am_cs_map (G : am_G) (o : Nat) (S : List Value) : ((S.map (am_v G o)).map fun v => v.category).sum = am_cs S := by
  induction S with
  | nil => rfl
  | cons v l ih => simp only [List.map_cons, List.sum_cons, am_v_cat, am_cs, ih]
/-! locals -/
def am_pl (G : am_G) (o : Nat) (L : List Value) : List (Nat × Value) := (L.mapIdx (fun k v => (k, v))).filterMap (fun q => if q.2 = .null then none else some (q.1, am_v G o q.2))
theorem am_pl_mem {G : am_G} {o : Nat} {L : List Value} {q : Nat × Value} : q ∈ am_pl G o L ↔ ∃ v, L[q.1]? = some v ∧ v ≠ .null ∧ q.2 = am_v G o v := by
  simp only [am_pl, List.mem_filterMap, List.mem_mapIdx]
  constructor
  · rintro ⟨q0, ⟨i, hi, rfl⟩, h⟩
    by_cases hn : L[i] = .null
    · simp [hn] at h
    · simp only [if_neg hn, Option.some.injEq] at h
      subst h
      exact ⟨L[i], List.getElem?_eq_getElem hi, hn, rfl⟩
  · rintro ⟨v, h1, h2, h3⟩
    obtain ⟨hi, he⟩ := List.getElem?_eq_some_iff.mp h1
    refine ⟨(q.1, L[q.1]), ⟨q.1, hi, rfl⟩, ?_⟩
    rw [he]
    simp only [if_neg h2, ← h3]
theorem am_L.has {G : am_G} {o : Nat} {ls : Array Slot} {nL : Nat} {L : List Value} (h : am_L G o ls nL L) : lv_has ls nL (am_pl G o L) := by
  refine ⟨h.1, h.2.2.1, fun q hq => ?_⟩
  obtain ⟨v, h1, h2, h3⟩ := am_pl_mem.mp hq
  rw [h3]
  exact h.2.2.2 _ _ h1 h2
theorem am_L.get {G : am_G} {o : Nat} {ls : Array Slot} {nL : Nat} {L : List Value} (h : am_L G o ls nL L) {k : Nat} {v : Value} (hk : L[k]? = some v) (hv : v ≠ .null) : ls[k]? = some (.val (am_v G o v)) := h.2.2.2 k v hk hv
theorem am_L.set1 {G : am_G} {o : Nat} {ls ls' : Array Slot} {nL i : Nat} {L : List Value} {v : Value} (h : am_L G o ls nL L) (hi : i < nL) (hp : am_pv i L) (h' : lv_has ls' nL ((i, am_v G o v) :: (am_pl G o L).filter (fun q => !(q.1 == i) && !(q.1 + 1 == i && q.2.category == 2)))) : am_L G o ls' nL (L.set i v) := by
  refine ⟨h'.1, by rw [List.length_set]; exact h.2.1, h'.2.1, fun k w hk hw => ?_⟩
  rw [List.getElem?_set] at hk
  by_cases hik : i = k
  · subst hik
    rw [if_pos rfl, if_pos (by rw [h.2.1]; exact hi)] at hk
    cases hk
    exact h'.2.2 _ List.mem_cons_self
  · rw [if_neg hik] at hk
    refine h'.2.2 (k, am_v G o w) (List.mem_cons_of_mem _ (List.mem_filter.mpr ⟨am_pl_mem.mpr ⟨w, hk, hw, rfl⟩, ?_⟩))
    have h1 : (k == i) = false := by simp; exact fun q => hik q.symm
    simp only [h1, Bool.not_false, Bool.true_and, Bool.not_eq_true', Bool.and_eq_false_iff]
    by_cases hk1 : k + 1 = i
    · right
      subst hk1
      simp only [am_pv, hk, am_n2] at hp
      simp [am_v_cat, hp]
    · left
      simpa using hk1
theorem am_L.set2 {G : am_G} {o : Nat} {ls ls' : Array Slot} {nL i : Nat} {L : List Value} {v : Value} (h : am_L G o ls nL L) (hi : i + 1 < nL) (hp : am_pv i L) (h' : lv_has ls' nL ((i, am_v G o v) :: (am_pl G o L).filter (fun q => !(q.1 == i) && (!(q.1 == i + 1) && !(q.1 + 1 == i && q.2.category == 2))))) : am_L G o ls' nL ((L.set i v).set (i + 1) .null) := by
  refine ⟨h'.1, by rw [List.length_set, List.length_set]; exact h.2.1, h'.2.1, fun k w hk hw => ?_⟩
  rw [List.getElem?_set] at hk
  by_cases hik1 : i + 1 = k
  · subst hik1
    rw [if_pos rfl, if_pos (by rw [List.length_set, h.2.1]; exact hi)] at hk
    cases hk
    exact absurd rfl hw
  rw [if_neg hik1, List.getElem?_set] at hk
  by_cases hik : i = k
  · subst hik
    rw [if_pos rfl, if_pos (by rw [h.2.1]; omega)] at hk
    cases hk
    exact h'.2.2 _ List.mem_cons_self
  · rw [if_neg hik] at hk
    refine h'.2.2 (k, am_v G o w) (List.mem_cons_of_mem _ (List.mem_filter.mpr ⟨am_pl_mem.mpr ⟨w, hk, hw, rfl⟩, ?_⟩))
    have h1 : (k == i) = false := by simp; exact fun q => hik q.symm
    have h2 : (k == i + 1) = false := by simp; exact fun q => hik1 q.symm
    simp only [h1, h2, Bool.not_false, Bool.true_and, Bool.not_eq_true', Bool.and_eq_false_iff]
    by_cases hk1 : k + 1 = i
    · right
      subst hk1
      simp only [am_pv, hk, am_n2] at hp
      simp [am_v_cat, hp]
    · left
      simpa using hk1
/-! the transformers -/
def tm_push (v : Value) (Q : am_P) : am_P := fun L S Y h => Q L (v :: S) Y h
def tm_iload (k : Nat) (Q : am_P) : am_P := fun L S Y h => am_oi L[k]? fun x => Q L (.int x :: S) Y h
def tm_lload (k : Nat) (Q : am_P) : am_P := fun L S Y h => am_ol L[k]? fun x => Q L (.long x :: S) Y h
def tm_aload (k : Nat) (Q : am_P) : am_P := fun L S Y h => am_or L[k]? fun x => Q L (x :: S) Y h
def tm_istore (k : Nat) (Q : am_P) : am_P := fun L S Y h => am_pi S fun x S1 => k < L.length ∧ am_pv k L ∧ Q (L.set k (.int x)) S1 Y h
def tm_lstore (k : Nat) (Q : am_P) : am_P := fun L S Y h => am_pj S fun x S1 => k + 1 < L.length ∧ am_pv k L ∧ Q ((L.set k (.long x)).set (k + 1) .null) S1 Y h
def tm_astore (k : Nat) (Q : am_P) : am_P := fun L S Y h => am_pa S fun x S1 => k < L.length ∧ am_pv k L ∧ Q (L.set k x) S1 Y h
def tm_iinc (k : Nat) (n : Int32) (Q : am_P) : am_P := fun L S Y h => am_oi L[k]? fun x => k < L.length ∧ am_pv k L ∧ Q (L.set k (.int (x + n))) S Y h
def tm_un (f : Int32 → Int32) (Q : am_P) : am_P := fun L S Y h => am_pi S fun x S1 => Q L (.int (f x) :: S1) Y h
def tm_bin (f : Int32 → Int32 → Int32) (Q : am_P) : am_P := fun L S Y h => am_pi S fun y S1 => am_pi S1 fun x S2 => Q L (.int (f x y) :: S2) Y h
def tm_div (f : Int32 → Int32 → Int32) (Q : am_P) : am_P := fun L S Y h => am_pi S fun y S1 => am_pi S1 fun x S2 => ¬ y = 0 ∧ Q L (.int (f x y) :: S2) Y h
def tm_lbin (f : Int64 → Int64 → Int64) (Q : am_P) : am_P := fun L S Y h => am_pj S fun y S1 => am_pj S1 fun x S2 => Q L (.long (f x y) :: S2) Y h
def tm_ldiv (f : Int64 → Int64 → Int64) (Q : am_P) : am_P := fun L S Y h => am_pj S fun y S1 => am_pj S1 fun x S2 => ¬ y = 0 ∧ Q L (.long (f x y) :: S2) Y h
def tm_lsh (Q : am_P) : am_P := fun L S Y h => am_pi S fun y S1 => am_pj S1 fun x S2 => Q L (.long (x <<< (y.toInt64 &&& 63)) :: S2) Y h
def tm_lcmp (Q : am_P) : am_P := fun L S Y h => am_pj S fun y S1 => am_pj S1 fun x S2 => Q L (.int (lg_cmp x y) :: S2) Y h
def tm_i2l (Q : am_P) : am_P := fun L S Y h => am_pi S fun x S1 => Q L (.long x.toInt64 :: S1) Y h
def tm_l2i (Q : am_P) : am_P := fun L S Y h => am_pj S fun x S1 => Q L (.int x.toInt32 :: S1) Y h
def tm_dup : am_P → am_P
  | Q => fun L S Y h => match S with
    | v :: S1 => v.category = 1 ∧ Q L (v :: v :: S1) Y h
    | [] => False
def tm_pop : am_P → am_P
  | Q => fun L S Y h => match S with
    | v :: S1 => v.category = 1 ∧ Q L S1 Y h
    | [] => False
def tm_if (P : Int32 → Prop) (Qt Qf : am_P) : am_P := fun L S Y h => am_pi S fun x S1 => (P x → Qt L S1 Y h) ∧ (¬ P x → Qf L S1 Y h)
def tm_cmp (P : Int32 → Int32 → Prop) (Qt Qf : am_P) : am_P := fun L S Y h => am_pi S fun y S1 => am_pi S1 fun x S2 => (P x y → Qt L S2 Y h) ∧ (¬ P x y → Qf L S2 Y h)
def tm_getf (ci k : Nat) (Q : am_P) : am_P := fun L S Y h => am_pr S fun i S1 => am_yo Y[i]? ci fun fs => am_fv fs[k]? (h i k) fun v => Q L (v :: S1) Y h
def tm_puti (ci k : Nat) (Q : am_P) : am_P := fun L S Y h => am_pi S fun x S1 => am_pr S1 fun i S2 => am_yo Y[i]? ci fun fs => am_fi fs[k]? (Q L S2 Y (am_up h i k x))
def tm_putz (ci k : Nat) (Q : am_P) : am_P := fun L S Y h => am_pi S fun x S1 => am_pr S1 fun i S2 => am_yo Y[i]? ci fun fs => am_fi fs[k]? ((x = 0 ∨ x = 1) ∧ Q L S2 Y (am_up h i k x))
def tm_putl (ci k : Nat) (Q : am_P) : am_P := fun L S Y h => am_pj S fun x S1 => am_pr S1 fun i S2 => am_yo Y[i]? ci fun fs => am_fl fs[k]? (∃ y : Int32, x = y.toInt64 ∧ Q L S2 Y (am_up h i k y))
def tm_iald (Q : am_P) : am_P := fun L S Y h => am_pi S fun j S1 => am_pr S1 fun i S2 => am_ya Y[i]? 0 fun n _ => vp_in j n ∧ Q L (.int (h i j.toNatClampNeg) :: S2) Y h
def tm_iast (Q : am_P) : am_P := fun L S Y h => am_pi S fun x S1 => am_pi S1 fun j S2 => am_pr S2 fun i S3 => am_ya Y[i]? 0 fun n _ => vp_in j n ∧ Q L S3 Y (am_up h i j.toNatClampNeg x)
def tm_zald (Q : am_P) : am_P := fun L S Y h => am_pi S fun j S1 => am_pr S1 fun i S2 => am_ya Y[i]? 1 fun n _ => vp_in j n ∧ Q L (.int (h i j.toNatClampNeg) :: S2) Y h
def tm_zast (Q : am_P) : am_P := fun L S Y h => am_pi S fun x S1 => am_pi S1 fun j S2 => am_pr S2 fun i S3 => am_ya Y[i]? 1 fun n _ => vp_in j n ∧ (x = 0 ∨ x = 1) ∧ Q L S3 Y (am_up h i j.toNatClampNeg x)
def tm_aald (t : Nat) (Q : am_P) : am_P := fun L S Y h => am_pi S fun j S1 => am_pr S1 fun i S2 => am_ya Y[i]? t fun n fs => vp_in j n ∧ am_rv fs[j.toNatClampNeg]? fun v => Q L (v :: S2) Y h
def tm_iret (K : List Value → List am_C → am_H → Prop) : am_P := fun _ S Y h => am_pi S fun x S1 => S1 = [] ∧ K [.int x] Y h
def tm_zret (K : List Value → List am_C → am_H → Prop) : am_P := fun _ S Y h => am_pi S fun x S1 => S1 = [] ∧ (x = 0 ∨ x = 1) ∧ K [.int x] Y h
def tm_lret (K : List Value → List am_C → am_H → Prop) : am_P := fun _ S Y h => am_pj S fun x S1 => S1 = [] ∧ K [.long x] Y h
def tm_aret (K : List Value → List am_C → am_H → Prop) : am_P := fun _ S Y h => am_pr S fun x S1 => S1 = [] ∧ K [.ref x] Y h
def tm_vret (K : List Value → List am_C → am_H → Prop) : am_P := fun _ S Y h => S = [] ∧ K [] Y h
def tm_swc (v : Int32) (L S : List Value) (Y : List am_C) (h : am_H) (Qd : am_P) : Int → List am_P → Prop
  | _, [] => Qd L S Y h
  | k, q :: qs => (v = Int32.ofInt k → q L S Y h) ∧ (¬ v = Int32.ofInt k → tm_swc v L S Y h Qd (k + 1) qs)
def tm_tsw (lo : Int) (qs : List am_P) (Qd : am_P) : am_P := fun L S Y h => am_pi S fun v S1 => tm_swc v L S1 Y h Qd lo qs
/-- a call of a method of an object of class ci, with n arguments behind it -/
def tm_callV (ci : Nat) (y : am_Y) (n d : Nat) (Q : am_P) : am_P := fun L S Y h => am_pr (S.drop n) fun i S1 => am_yo Y[i]? ci fun _ => 1 ≤ d ∧ am_cs S1 ≤ 8 ∧ n ≤ S.length ∧ am_Met (d - 1) 0 0 y (.ref i :: (S.take n).reverse) Y h fun r Y1 h1 => Q L (r.take 1 ++ S1) Y1 h1
def tm_callS (y : am_Y) (n d : Nat) (Q : am_P) : am_P := fun L S Y h => 1 ≤ d ∧ am_cs (S.drop n) ≤ 8 ∧ n ≤ S.length ∧ am_Met (d - 1) 0 0 y (S.take n).reverse Y h fun r Y1 h1 => Q L (r.take 1 ++ S.drop n) Y1 h1
