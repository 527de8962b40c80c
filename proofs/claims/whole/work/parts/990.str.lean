/-! String constants: length() and charAt(int) -/
def am_pf : List Value → (Nat → List Value → Prop) → Prop
  | .float k :: S, f => f k.toNat S
  | _, _ => False
theorem am_pf_c (k : UInt32) (S : List Value) (f : Nat → List Value → Prop) : am_pf (.float k :: S) f = f k.toNat S := of_eq_true (eq_self _)
def tm_slen (d : Nat) (Q : am_P) : am_P := fun L S Y h => am_pf S fun k S1 => k < 12 ∧ 5 ≤ d ∧ am_cs S1 ≤ 8 ∧ Q L (.int (nI (am_slen.getD k 0)) :: S1) Y h
def tm_sch (d : Nat) (Q : am_P) : am_P := fun L S Y h => am_pi S fun j S1 => am_pf S1 fun k S2 => k < 12 ∧ 5 ≤ d ∧ am_cs S2 ≤ 8 ∧ vp_in j (am_slen.getD k 0) ∧ Q L (.int ((am_sbyt.getD k []).getD j.toNatClampNeg 0) :: S2) Y h
theorem qtm_slen (d : Nat) (Q : am_P) (L S : List Value) (Y : List am_C) (h : am_H) : tm_slen d Q L S Y h = (am_pf S fun k S1 => k < 12 ∧ 5 ≤ d ∧ am_cs S1 ≤ 8 ∧ Q L (.int (nI (am_slen.getD k 0)) :: S1) Y h) := of_eq_true (eq_self _)
theorem qtm_sch (d : Nat) (Q : am_P) (L S : List Value) (Y : List am_C) (h : am_H) : tm_sch d Q L S Y h = (am_pi S fun j S1 => am_pf S1 fun k S2 => k < 12 ∧ 5 ≤ d ∧ am_cs S2 ≤ 8 ∧ vp_in j (am_slen.getD k 0) ∧ Q L (.int ((am_sbyt.getD k []).getD j.toNatClampNeg 0) :: S2) Y h) := of_eq_true (eq_self _)
section SND
variable {X : am_X} {d : Nat} {own : String} {cc : ByteArray} {nL : Nat} {Q : State → Prop} {n1 n2 pc : Nat} {Qn Qt Qf : am_P} {K : List Value → List am_C → am_H → Prop}
theorem a_slen {idx : Nat} (F : am_Fx X d own cc nL) (hw : Cond.methodLink own idx yJ0_length_8abf5 ∈ am_ws) (hR : am_Rc X n1 n2) (hd : decode cc pc = .ok (.invokevirtual idx, 3)) (kk : ∀ L S Y h, Qn L S Y h → am_At X Q nL n1 n2 (pc + 3) L S Y h) : ∀ L S Y h, tm_slen d Qn L S Y h → am_At X Q nL n1 n2 pc L S Y h := sorry
theorem a_sch {idx : Nat} (F : am_Fx X d own cc nL) (hw : Cond.methodLink own idx yJ0_charAt_5068e ∈ am_ws) (hR : am_Rc X n1 n2) (hd : decode cc pc = .ok (.invokevirtual idx, 3)) (kk : ∀ L S Y h, Qn L S Y h → am_At X Q nL n1 n2 (pc + 3) L S Y h) : ∀ L S Y h, tm_sch d Qn L S Y h → am_At X Q nL n1 n2 pc L S Y h := sorry
end SND
