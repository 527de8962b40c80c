/-! THE ABSTRACT WORLD: cells by their number from the origin o on (cell i lies at address o + i); a layout Y (kinds, sizes, fixed references), and a heap h of ints (cell, place). -/
abbrev am_H : Type := Nat → Nat → Int32
abbrev am_C : Type := Nat × Nat × List Value
abbrev am_G : Type := va_G × (Nat → ClassId) × (Nat → Nat)
abbrev am_P : Type := List Value → List Value → List am_C → am_H → Prop
def am_up (h : am_H) (i k : Nat) (v : Int32) : am_H := fun a b => if a = i then (if b = k then v else h a b) else h a b
/-- a value of the abstract world: .ref i is cell i; .float k is String constant k -/
def am_v (G : am_G) (o : Nat) : Value → Value
  | .ref i => .ref (o + i)
  | .float k => .ref (G.2.2 k.toNat)
  | v => v
/-- what a field holds: the int of the heap, the long of that int, or the layout's reference -/
def am_f (o : Nat) (x : Int32) : Value → Value
  | .int _ => .int x
  | .long _ => .long x.toInt64
  | .ref i => .ref (o + i)
  | v => v
def am_fs (o : Nat) (row : Nat → Int32) (fs : List Value) : List Value := fs.mapIdx (fun k v => am_f o (row k) v)
def am_ro (o : Nat) : Option Value → Option Nat
  | some (.ref i) => some (o + i)
  | _ => none
def am_rs (o : Nat) (fs : List Value) : Nat → Option Nat := fun k => am_ro o fs[k]?
def am_e (G : am_G) (o : Nat) (row : Nat → Int32) : am_C → va_E
  | (0, n, _) => .inl (G.2.1 0, n, .inl row)
  | (1, n, _) => .inl (G.2.1 1, n, .inl row)
  | (2, ci, fs) => .inr (ci, am_fs o row fs)
  | (t + 3, n, fs) => .inl (G.2.1 (t + 3), n, .inr (.inr (.inr (.inr (am_rs o fs)))))
def am_w (G : am_G) (o : Nat) (h : am_H) (Y : List am_C) : va_W := Y.mapIdx (fun i c => (o + i, am_e G o (h i) c))
theorem am_w_get (G : am_G) (o : Nat) (h : am_H) (Y : List am_C) (i : Nat) : (am_w G o h Y)[i]? = (Y[i]?).map (fun c => (o + i, am_e G o (h i) c)) := by simp [am_w, List.getElem?_mapIdx]
theorem am_w_at {G : am_G} {o : Nat} {h : am_H} {Y : List am_C} {i : Nat} {c : am_C} (hc : Y[i]? = some c) : (am_w G o h Y)[i]? = some (o + i, am_e G o (h i) c) := by rw [am_w_get, hc]; rfl
theorem am_w_len (G : am_G) (o : Nat) (h : am_H) (Y : List am_C) : (am_w G o h Y).length = Y.length := by simp [am_w]
theorem am_w_set {G : am_G} {o : Nat} {h h' : am_H} {Y : List am_C} {i : Nat} {c : am_C} (hh : ∀ j, j ≠ i → h' j = h j) : am_w G o h' (Y.set i c) = (am_w G o h Y).set i (o + i, am_e G o (h' i) c) := by
  apply List.ext_getElem?
  intro j
  rw [am_w_get, List.getElem?_set, List.getElem?_set, am_w_len]
  by_cases hj : i = j
  · subst hj
    by_cases hl : i < Y.length <;> simp [hl]
  · simp only [if_neg hj]
    rw [am_w_get, hh j (fun q => hj q.symm)]
theorem am_set_self {α : Type} {Y : List α} {i : Nat} {c : α} (hc : Y[i]? = some c) : Y.set i c = Y := by
  apply List.ext_getElem?
  intro j
  rw [List.getElem?_set]
  by_cases hj : i = j
  · subst hj
    rw [if_pos rfl, if_pos (List.getElem?_eq_some_iff.mp hc).1, hc]
  · rw [if_neg hj]
theorem am_up_ne {h : am_H} {i k : Nat} {v : Int32} : ∀ j, j ≠ i → am_up h i k v j = h j := fun j hj => by funext b; simp [am_up, hj]
theorem am_w_up {G : am_G} {o : Nat} {h : am_H} {Y : List am_C} {i k : Nat} {v : Int32} {c : am_C} (hc : Y[i]? = some c) : am_w G o (am_up h i k v) Y = (am_w G o h Y).set i (o + i, am_e G o (am_up h i k v i) c) := by
  have h1 := am_w_set (G := G) (o := o) (h := h) (h' := am_up h i k v) (Y := Y) (i := i) (c := c) am_up_ne
  rw [am_set_self hc] at h1
  exact h1
theorem am_D {G : am_G} {o : Nat} {h : am_H} {Y : List am_C} {A : Nat → Prop} (hA : ∀ q, o ≤ q → A q) : va_D A (am_w G o h Y) := by
  have key : ∀ (i : Nat) (p : Nat × va_E), (am_w G o h Y)[i]? = some p → p.1 = o + i := by
    intro i p hp
    rw [am_w_get] at hp
    cases hc : Y[i]? with
    | none => rw [hc] at hp; cases hp
    | some c => rw [hc] at hp; cases hp; rfl
  refine ⟨fun i j p q hi hj e => ?_, fun k q hk => hA _ (by rw [key k q hk]; omega)⟩
  rw [key i p hi, key j q hj] at e
  omega
-- the places of fields
theorem am_fs_at {o : Nat} {row : Nat → Int32} {fs : List Value} {k : Nat} {v : Value} (h : fs[k]? = some v) : (am_fs o row fs)[k]? = some (am_f o (row k) v) := by
  simp [am_fs, List.getElem?_mapIdx, h]
theorem am_fs_len (o : Nat) (row : Nat → Int32) (fs : List Value) : (am_fs o row fs).length = fs.length := by simp [am_fs]
theorem am_fs_set {o : Nat} {row row' : Nat → Int32} {fs : List Value} {k : Nat} {v : Value} (hh : ∀ j, j ≠ k → row' j = row j) : am_fs o row' (fs.set k v) = (am_fs o row fs).set k (am_f o (row' k) v) := by
  apply List.ext_getElem?
  intro j
  rw [List.getElem?_set, am_fs_len]
  simp only [am_fs, List.getElem?_mapIdx, List.getElem?_set]
  by_cases hj : k = j
  · subst hj
    by_cases hl : k < fs.length <;> simp [hl]
  · simp only [if_neg hj]
    rw [hh j (fun q => hj q.symm)]
theorem am_fs_up {o : Nat} {h : am_H} {i : Nat} {fs : List Value} {k : Nat} {x : Int32} {v : Value} (hf : fs[k]? = some v) : am_fs o (am_up h i k x i) fs = (am_fs o (h i) fs).set k (am_f o x v) := by
  have h1 := am_fs_set (o := o) (row := h i) (row' := am_up h i k x i) (fs := fs) (k := k) (v := v) (fun j hj => by simp [am_up, hj])
  rw [am_set_self hf] at h1
  rw [h1]
  simp [am_up]
theorem am_row_up (h : am_H) (i k : Nat) (x : Int32) : am_up h i k x i = upd (h i) k x := by funext b; simp [am_up, upd]
theorem am_v_cat (G : am_G) (o : Nat) (v : Value) : (am_v G o v).category = v.category := by cases v <;> rfl
/-! what is given of the machine: classes, nest mates, String constants, two statics of the JDK -/
def am_A (o : Nat) : Nat → Prop := fun q => o ≤ q
def am_t (G : am_G) : List (ClassId × FieldType) := [(G.2.1 0, .int), (G.2.1 1, .boolean), (G.2.1 0, .int), (G.2.1 3, .object RX1), (G.2.1 4, .object RX2)]
def am_slen : List Nat := [5, 4, 6, 4, 3, 3, 5, 6, 6, 2, 3, 3]
def am_sbyt : List (List Int32) := [[100, 111, 117, 98, 116], [102, 105, 114, 109], [110, 117, 109, 98, 101, 114], [104, 111, 117, 114], [115, 101, 97], [109, 101, 116], [112, 97, 99, 101, 115], [116, 114, 101, 97, 100, 115], [100, 111, 117, 98, 116, 115], [111, 114], [97, 110, 100], [110, 111, 116]]
def am_sidx : List Nat := [109, 115, 117, 119, 121, 123, 125, 127, 129, 131, 133, 135]
def am_stx : List String := ["doubt", "firm", "number", "hour", "sea", "met", "paces", "treads", "doubts", "or", "and", "not"]
def am_Z (G : am_G) (o : Nat) (U : State) (H : Heap) : Prop := (vk_S 12 am_slen am_sbyt G.2.2 (fun k => G.2.2 (100 + k)) (am_A o) U H ∧ va_AO RX1 U ∧ va_AO RX2 U) ∧ va_Z "java/lang/String" "COMPACT_STRINGS" "Z" (.int 1) (am_A o) U H ∧ va_Zq "jdk/internal/util/Preconditions" "SIOOBE_FORMATTER" "Ljava/util/function/BiFunction;" (am_A o) U H ∧ ∀ k, k < 12 → vk_R RX0 (am_sidx.getD k 0) (am_stx.getD k "") (G.2.2 k) U
def am_nst : List (String × Nat × MethodName × String) := [(RX5, 31, yX0_init, RX5), (RX5, 46, yX1_init, RX5), (RX4, 75, yX5_bounded, RX5), (RX0, 28, yX5_bounded, RX5), (RX4, 117, yX5_isPlace, RX5), (RX1, 19, yX5_bounded, RX5)]
def am_E (G : am_G) (o : Nat) (U : State) (H : Heap) : Prop := va_K G.1 vwCl (am_t G) U ∧ (∀ q ∈ am_nst, va_Nw (.methodLinkNest q.1 q.2.1 q.2.2.1 q.2.2.2) U) ∧ am_Z G o U H
theorem am_E.to {G : am_G} {o : Nat} {s U : State} {H H1 : Heap} (h : am_E G o s H) (hW : s.WarmedH U.vm) (hq : ∀ a : Nat, a < H.size → ¬ am_A o a → H1[a]? = H[a]?) : am_E G o U H1 := by
  obtain ⟨h0, hn, ⟨h1, a1, a2⟩, h2, h3, h4⟩ := h
  exact ⟨va_K.moved hW.alike h0, fun q hq => va_Nw.warmM hW (hn q hq), ⟨vk_S.moved hW.alike (vk_S.kept h1 hq), va_AO.moved hW.alike a1, va_AO.moved hW.alike a2⟩, va_Z.moved hW.alike (va_Z.kept h2 hq), va_Zq.moved hW.alike (va_Zq.kept h3 hq), fun k hk => vk_R.warm hW (h4 k hk)⟩
theorem am_E.same {G : am_G} {o : Nat} {u U : State} {H : Heap} (hv : u.vm = U.vm) (h : am_E G o u H) : am_E G o U H := by
  obtain ⟨h0, hn, ⟨h1, a1, a2⟩, h2, h3, h4⟩ := h
  have ha : u.vm.Alike U.vm := by rw [hv]; exact Vm.Alike.refl _
  exact ⟨va_K.moved ha h0, fun q hq => va_Nw.same rfl hv (hn q hq), ⟨vk_S.moved ha h1, va_AO.moved ha a1, va_AO.moved ha a2⟩, va_Z.moved ha h2, va_Zq.moved ha h3, fun k hk => vk_R.same hv.symm (h4 k hk)⟩
/-! words -/
def am_ws : List Cond := lw_tbl.filter goodWord
theorem am_mem {w : Cond} (i : Nat) (h : tables_1[i]? = some w) (g : goodWord w = true) : w ∈ am_ws := List.mem_filter.mpr ⟨List.mem_append_right _ (List.mem_of_getElem? h), g⟩
theorem am_memP {w : Cond} (i : Nat) (h : (k2_sels lw_privs)[i]? = some w) (g : goodWord w = true) : w ∈ am_ws := List.mem_filter.mpr ⟨List.mem_append_left _ (List.mem_of_getElem? h), g⟩
theorem am_good {w : Cond} (h : w ∈ am_ws) : (w.onTables && w.keeps) = true ∨ ∃ ty, w = .arrayClass ty := good_of_word (List.mem_filter.mp h).2
theorem am_goodIn {c c2 : Cond} (h : c ∈ am_ws) : GoodIn (c2 :: am_ws) (c :: am_ws) := by
  intro w hw
  rcases List.mem_cons.mp hw with rfl | hw
  · exact ⟨List.mem_cons_of_mem _ h, am_good h⟩
  · exact ⟨List.mem_cons_of_mem _ hw, am_good hw⟩
theorem am_goodT {c : Cond} (h : c ∈ am_ws) : GoodIn am_ws (c :: am_ws) := by
  intro w hw
  rcases List.mem_cons.mp hw with rfl | hw
  · exact ⟨h, am_good h⟩
  · exact ⟨hw, am_good hw⟩
/-! contracts -/
abbrev am_Y : Type := MethodName × ByteArray × Nat × Option FieldType
def am_rm (d mc ms : Nat) : Room := { frames := d, cells := mc, slots := ms, locals := 32 * d }
abbrev am_cd (y : am_Y) : Cond := Cond.code y.1 y.2.1 y.2.2.1 y.2.2.2
def am_Pc (G : am_G) (o : Nat) (args : List Value) (Y : List am_C) (h : am_H) : Array Value → State → Prop := va_Pc (args.map (am_v G o)) (fun U => U.heap.size = o + Y.length ∧ va_P G.1 vwCl (am_w G o h Y) U.heap ∧ am_E G o U U.heap)
def am_Qc (G : am_G) (o : Nat) (K : List Value → List am_C → am_H → Prop) : Array Value → State → Outcome → State → Prop := fun _ st oc t => (∃ (r : List Value) (Y1 : List am_C) (h1 : am_H), oc = .returned ((r.head?).map (am_v G o)) ∧ K r Y1 h1 ∧ t.heap.size = o + Y1.length ∧ va_P G.1 vwCl (am_w G o h1 Y1) t.heap) ∧ va_F (am_A o) st t
/-- method y, called with args over (Y, h): returns, and K holds of its answer and of the world behind it -/
def am_Met (d mc ms : Nat) (y : am_Y) (args : List Value) (Y : List am_C) (h : am_H) (K : List Value → List am_C → am_H → Prop) : Prop :=
  ∀ (l : Launch) (G : am_G) (o : Nat), Met l y.1 (am_cd y :: am_ws) (am_rm d mc ms) (am_Pc G o args Y h) (am_Qc G o K) mc ms (am_A o)
theorem am_Met.mono {d mc ms : Nat} {y : am_Y} {args : List Value} {Y : List am_C} {h : am_H} {K K' : List Value → List am_C → am_H → Prop} (hM : am_Met d mc ms y args Y h K) (hK : ∀ r Y1 h1, K r Y1 h1 → K' r Y1 h1) : am_Met d mc ms y args Y h K' := by
  intro l G o p e ha hc hk s m args' below hf hs hP hT
  obtain ⟨n, oc, h1, h2, h3, ⟨⟨⟨r, Y1, h', e1, e2, e3, e4⟩, hF⟩, L, hL⟩⟩ := hM l G o p e ha hc hk s m args' below hf hs hP hT
  exact ⟨n, oc, h1, h2, h3, ⟨⟨⟨r, Y1, h', e1, hK r Y1 h' e2, e3, e4⟩, hF⟩, L, hL⟩⟩
theorem am_blind (G : am_G) (o : Nat) (args : List Value) (Y : List am_C) (h : am_H) : FrameBlind (am_Pc G o args Y h) := fun a U g mk q => by
  obtain ⟨q1, q2, q3, q4⟩ := q
  exact ⟨q1, q2, q3, am_E.same (u := U) (U := U.calling g mk a) rfl q4⟩
/-! the judgement -/
abbrev am_X : Type := Program × Launch × Env × Room × State × MethodId × Array Value × List Frame × Method × Code × am_G × Nat
def am_L (G : am_G) (o : Nat) (ls : Array Slot) (nL : Nat) (L : List Value) : Prop := ls.size = nL ∧ L.length = nL ∧ lv_wf ls ∧ ∀ (k : Nat) (v : Value), L[k]? = some v → v ≠ .null → ls[k]? = some (.val (am_v G o v))
def am_At : am_X → (State → Prop) → Nat → Nat → Nat → Nat → am_P
  | (p, l, e, R, s, m, args, below, meth, c, G, o), Q, nL, n1, n2, pc => fun L S Y h =>
    ∀ (H : Heap) (locs : List Loc) (ls : Array Slot), H.size = o + Y.length → va_P G.1 vwCl (am_w G o h Y) H → va_S (am_A o) s.heap H locs → am_L G o ls nL L → W p l e R s m args below meth c H locs n1 n2 Q (F0 m pc ls (S.map (am_v G o)))
def am_Fx : am_X → Nat → String → ByteArray → Nat → Prop
  | (p, _, _, R, s, m, args, _, meth, c, G, o), d, own, cc, nL => p.tables.exec = Jvm.exec ∧ c.code = cc ∧ c.maxLocals = nL ∧ s.vm.findClass own = some m.cls ∧ (∀ w ∈ am_ws, w.before args s = true) ∧ am_E G o s s.heap ∧ o ≤ s.heap.size ∧ d ≤ R.frames ∧ 32 * d ≤ R.locals ∧ meth.locks = false
def am_Rt : am_X → Option FieldType → Prop
  | (_, _, _, _, _, _, _, _, meth, _, _, _), r => meth.sig.returnType = r
def am_MQ : am_X → (List Value → List am_C → am_H → Prop) → Nat → Nat → State → Prop
  | (_, _, _, _, s, _, args, below, _, _, G, o), K, mc, ms => MQ below (am_Qc G o K) args s mc ms (am_A o)
