/-! String constants: length() and charAt(int) -/
def am_pf : List Value → (Nat → List Value → Prop) → Prop
  | .float k :: S, f => f k.toNat S
  | _, _ => False
theorem am_pf_c (k : UInt32) (S : List Value) (f : Nat → List Value → Prop) : am_pf (.float k :: S) f = f k.toNat S := of_eq_true (eq_self _)
def tm_slen (d : Nat) (Q : am_P) : am_P := fun L S Y h => am_pf S fun k S1 => k < 12 ∧ 5 ≤ d ∧ am_cs S1 ≤ 8 ∧ Q L (.int (nI (am_slen.getD k 0)) :: S1) Y h
def tm_sch (d : Nat) (Q : am_P) : am_P := fun L S Y h => am_pi S fun j S1 => am_pf S1 fun k S2 => k < 12 ∧ 5 ≤ d ∧ am_cs S2 ≤ 8 ∧ vp_in j (am_slen.getD k 0) ∧ Q L (.int ((am_sbyt.getD k []).getD j.toNatClampNeg 0) :: S2) Y h
theorem qtm_slen (d : Nat) (Q : am_P) (L S : List Value) (Y : List am_C) (h : am_H) : tm_slen d Q L S Y h = (am_pf S fun k S1 => k < 12 ∧ 5 ≤ d ∧ am_cs S1 ≤ 8 ∧ Q L (.int (nI (am_slen.getD k 0)) :: S1) Y h) := of_eq_true (eq_self _)
theorem qtm_sch (d : Nat) (Q : am_P) (L S : List Value) (Y : List am_C) (h : am_H) : tm_sch d Q L S Y h = (am_pi S fun j S1 => am_pf S1 fun k S2 => k < 12 ∧ 5 ≤ d ∧ am_cs S2 ≤ 8 ∧ vp_in j (am_slen.getD k 0) ∧ Q L (.int ((am_sbyt.getD k []).getD j.toNatClampNeg 0) :: S2) Y h) := of_eq_true (eq_self _)
theorem dJ0_length_8abf5_0 : decode cJ0_length_8abf5 0 = .ok (.aload_n 0, 1) := by decide +kernel
theorem dJ0_length_8abf5_1 : decode cJ0_length_8abf5 1 = .ok (.getfield 9, 3) := by decide +kernel
theorem dJ0_length_8abf5_4 : decode cJ0_length_8abf5 4 = .ok (.arraylength, 1) := by decide +kernel
theorem dJ0_length_8abf5_5 : decode cJ0_length_8abf5 5 = .ok (.aload_n 0, 1) := by decide +kernel
theorem dJ0_length_8abf5_6 : decode cJ0_length_8abf5 6 = .ok (.invokevirtual 335, 3) := by decide +kernel
theorem dJ0_length_8abf5_9 : decode cJ0_length_8abf5 9 = .ok (.ishr, 1) := by decide +kernel
theorem dJ0_length_8abf5_10 : decode cJ0_length_8abf5 10 = .ok (.ireturn, 1) := by decide +kernel
theorem dJ0_charAt_5068e_0 : decode cJ0_charAt_5068e 0 = .ok (.aload_n 0, 1) := by decide +kernel
theorem dJ0_charAt_5068e_1 : decode cJ0_charAt_5068e 1 = .ok (.invokevirtual 492, 3) := by decide +kernel
theorem dJ0_charAt_5068e_4 : decode cJ0_charAt_5068e 4 = .ok (.ifCond .eq 12, 3) := by decide +kernel
theorem dJ0_charAt_5068e_7 : decode cJ0_charAt_5068e 7 = .ok (.aload_n 0, 1) := by decide +kernel
theorem dJ0_charAt_5068e_8 : decode cJ0_charAt_5068e 8 = .ok (.getfield 9, 3) := by decide +kernel
theorem dJ0_charAt_5068e_11 : decode cJ0_charAt_5068e 11 = .ok (.iload_n 1, 1) := by decide +kernel
theorem dJ0_charAt_5068e_12 : decode cJ0_charAt_5068e 12 = .ok (.invokestatic 495, 3) := by decide +kernel
theorem dJ0_charAt_5068e_15 : decode cJ0_charAt_5068e 15 = .ok (.ireturn, 1) := by decide +kernel
theorem dJ0_charAt_5068e_16 : decode cJ0_charAt_5068e 16 = .ok (.aload_n 0, 1) := by decide +kernel
theorem dJ0_charAt_5068e_17 : decode cJ0_charAt_5068e 17 = .ok (.getfield 9, 3) := by decide +kernel
theorem dJ0_charAt_5068e_20 : decode cJ0_charAt_5068e 20 = .ok (.iload_n 1, 1) := by decide +kernel
theorem dJ0_charAt_5068e_21 : decode cJ0_charAt_5068e 21 = .ok (.invokestatic 498, 3) := by decide +kernel
theorem dJ0_charAt_5068e_24 : decode cJ0_charAt_5068e 24 = .ok (.ireturn, 1) := by decide +kernel
theorem dJ0_coder_7d493_0 : decode cJ0_coder_7d493 0 = .ok (.getstatic 38, 3) := by decide +kernel
theorem dJ0_coder_7d493_3 : decode cJ0_coder_7d493 3 = .ok (.ifCond .eq 10, 3) := by decide +kernel
theorem dJ0_coder_7d493_6 : decode cJ0_coder_7d493 6 = .ok (.aload_n 0, 1) := by decide +kernel
theorem dJ0_coder_7d493_7 : decode cJ0_coder_7d493 7 = .ok (.getfield 15, 3) := by decide +kernel
theorem dJ0_coder_7d493_10 : decode cJ0_coder_7d493 10 = .ok (.goto 4, 3) := by decide +kernel
theorem dJ0_coder_7d493_13 : decode cJ0_coder_7d493 13 = .ok (.iconst 1, 1) := by decide +kernel
theorem dJ0_coder_7d493_14 : decode cJ0_coder_7d493 14 = .ok (.ireturn, 1) := by decide +kernel
theorem dJ0_isLatin1_aae02_0 : decode cJ0_isLatin1_aae02 0 = .ok (.getstatic 38, 3) := by decide +kernel
theorem dJ0_isLatin1_aae02_3 : decode cJ0_isLatin1_aae02 3 = .ok (.ifCond .eq 14, 3) := by decide +kernel
theorem dJ0_isLatin1_aae02_6 : decode cJ0_isLatin1_aae02 6 = .ok (.aload_n 0, 1) := by decide +kernel
theorem dJ0_isLatin1_aae02_7 : decode cJ0_isLatin1_aae02 7 = .ok (.getfield 15, 3) := by decide +kernel
theorem dJ0_isLatin1_aae02_10 : decode cJ0_isLatin1_aae02 10 = .ok (.ifCond .ne 7, 3) := by decide +kernel
theorem dJ0_isLatin1_aae02_13 : decode cJ0_isLatin1_aae02 13 = .ok (.iconst 1, 1) := by decide +kernel
theorem dJ0_isLatin1_aae02_14 : decode cJ0_isLatin1_aae02 14 = .ok (.goto 4, 3) := by decide +kernel
theorem dJ0_isLatin1_aae02_17 : decode cJ0_isLatin1_aae02 17 = .ok (.iconst 0, 1) := by decide +kernel
theorem dJ0_isLatin1_aae02_18 : decode cJ0_isLatin1_aae02 18 = .ok (.ireturn, 1) := by decide +kernel
theorem dJ0_checkIndex_df160_0 : decode cJ0_checkIndex_df160 0 = .ok (.iload_n 0, 1) := by decide +kernel
theorem dJ0_checkIndex_df160_1 : decode cJ0_checkIndex_df160 1 = .ok (.iload_n 1, 1) := by decide +kernel
theorem dJ0_checkIndex_df160_2 : decode cJ0_checkIndex_df160 2 = .ok (.getstatic 1053, 3) := by decide +kernel
theorem dJ0_checkIndex_df160_5 : decode cJ0_checkIndex_df160 5 = .ok (.invokestatic 1059, 3) := by decide +kernel
theorem dJ0_checkIndex_df160_8 : decode cJ0_checkIndex_df160 8 = .ok (.pop, 1) := by decide +kernel
theorem dJ0_checkIndex_df160_9 : decode cJ0_checkIndex_df160 9 = .ok (.return_, 1) := by decide +kernel
theorem dJ1_charAt_3b067_0 : decode cJ1_charAt_3b067 0 = .ok (.iload_n 1, 1) := by decide +kernel
theorem dJ1_charAt_3b067_1 : decode cJ1_charAt_3b067 1 = .ok (.aload_n 0, 1) := by decide +kernel
theorem dJ1_charAt_3b067_2 : decode cJ1_charAt_3b067 2 = .ok (.arraylength, 1) := by decide +kernel
theorem dJ1_charAt_3b067_3 : decode cJ1_charAt_3b067 3 = .ok (.invokestatic 9, 3) := by decide +kernel
theorem dJ1_charAt_3b067_6 : decode cJ1_charAt_3b067 6 = .ok (.aload_n 0, 1) := by decide +kernel
theorem dJ1_charAt_3b067_7 : decode cJ1_charAt_3b067 7 = .ok (.iload_n 1, 1) := by decide +kernel
theorem dJ1_charAt_3b067_8 : decode cJ1_charAt_3b067 8 = .ok (.baload, 1) := by decide +kernel
theorem dJ1_charAt_3b067_9 : decode cJ1_charAt_3b067 9 = .ok (.sipush 255, 3) := by decide +kernel
theorem dJ1_charAt_3b067_12 : decode cJ1_charAt_3b067 12 = .ok (.iand, 1) := by decide +kernel
theorem dJ1_charAt_3b067_13 : decode cJ1_charAt_3b067 13 = .ok (.i2c, 1) := by decide +kernel
theorem dJ1_charAt_3b067_14 : decode cJ1_charAt_3b067 14 = .ok (.ireturn, 1) := by decide +kernel
theorem dJ3_checkIndex_8e157_0 : decode cJ3_checkIndex_8e157 0 = .ok (.iload_n 0, 1) := by decide +kernel
theorem dJ3_checkIndex_8e157_1 : decode cJ3_checkIndex_8e157 1 = .ok (.ifCond .lt 8, 3) := by decide +kernel
theorem dJ3_checkIndex_8e157_4 : decode cJ3_checkIndex_8e157 4 = .ok (.iload_n 0, 1) := by decide +kernel
theorem dJ3_checkIndex_8e157_5 : decode cJ3_checkIndex_8e157 5 = .ok (.iload_n 1, 1) := by decide +kernel
theorem dJ3_checkIndex_8e157_6 : decode cJ3_checkIndex_8e157 6 = .ok (.if_icmp .lt 10, 3) := by decide +kernel
theorem dJ3_checkIndex_8e157_9 : decode cJ3_checkIndex_8e157 9 = .ok (.aload_n 2, 1) := by decide +kernel
theorem dJ3_checkIndex_8e157_10 : decode cJ3_checkIndex_8e157 10 = .ok (.iload_n 0, 1) := by decide +kernel
theorem dJ3_checkIndex_8e157_11 : decode cJ3_checkIndex_8e157 11 = .ok (.iload_n 1, 1) := by decide +kernel
theorem dJ3_checkIndex_8e157_12 : decode cJ3_checkIndex_8e157 12 = .ok (.invokestatic 95, 3) := by decide +kernel
theorem dJ3_checkIndex_8e157_15 : decode cJ3_checkIndex_8e157 15 = .ok (.athrow, 1) := by decide +kernel
theorem dJ3_checkIndex_8e157_16 : decode cJ3_checkIndex_8e157 16 = .ok (.iload_n 0, 1) := by decide +kernel
theorem dJ3_checkIndex_8e157_17 : decode cJ3_checkIndex_8e157 17 = .ok (.ireturn, 1) := by decide +kernel
def am_pu : List Value → (UInt32 → List Value → Prop) → Prop
  | .float k :: S, f => f k S
  | _, _ => False
theorem am_pu_c (k : UInt32) (S : List Value) (f : UInt32 → List Value → Prop) : am_pu (.float k :: S) f = f k S := of_eq_true (eq_self _)
theorem am_pu_of {S : List Value} {f : UInt32 → List Value → Prop} (h : am_pu S f) : ∃ x S1, S = .float x :: S1 ∧ f x S1 := by
  unfold am_pu at h
  split at h
  · exact ⟨_, _, rfl, h⟩
  · exact h.elim
theorem am_pf_of {S : List Value} {f : Nat → List Value → Prop} (h : am_pf S f) : ∃ (x : UInt32) (S1 : List Value), S = .float x :: S1 ∧ f x.toNat S1 := by
  unfold am_pf at h
  split at h
  · exact ⟨_, _, rfl, h⟩
  · exact h.elim
abbrev YJ0_length : am_Y := (yJ0_length_8abf5, cJ0_length_8abf5, 1, some .int)
abbrev YJ0_charAt : am_Y := (yJ0_charAt_5068e, cJ0_charAt_5068e, 2, some .char)
abbrev YJ0_coder : am_Y := (yJ0_coder_7d493, cJ0_coder_7d493, 1, some .byte)
abbrev YJ0_isLatin1 : am_Y := (yJ0_isLatin1_aae02, cJ0_isLatin1_aae02, 1, some .boolean)
abbrev YJ0_checkIndex : am_Y := (yJ0_checkIndex_df160, cJ0_checkIndex_df160, 2, none)
abbrev YJ1_charAt : am_Y := (yJ1_charAt_3b067, cJ1_charAt_3b067, 2, some .char)
abbrev YJ3_checkIndex : am_Y := (yJ3_checkIndex_8e157, cJ3_checkIndex_8e157, 3, some .int)
theorem my_J0_length : am_My YJ0_length 0 := ⟨am_mem 336 (by decide +kernel) (by decide +kernel), am_mem 10 (by decide +kernel) (by decide +kernel), by decide +kernel, by decide +kernel⟩
theorem my_J0_charAt : am_My YJ0_charAt 1 := ⟨am_mem 346 (by decide +kernel) (by decide +kernel), am_mem 10 (by decide +kernel) (by decide +kernel), by decide +kernel, by decide +kernel⟩
theorem my_J0_coder : am_My YJ0_coder 0 := ⟨am_mem 340 (by decide +kernel) (by decide +kernel), am_mem 10 (by decide +kernel) (by decide +kernel), by decide +kernel, by decide +kernel⟩
theorem my_J0_isLatin1 : am_My YJ0_isLatin1 0 := ⟨am_mem 350 (by decide +kernel) (by decide +kernel), am_mem 10 (by decide +kernel) (by decide +kernel), by decide +kernel, by decide +kernel⟩
theorem my_J0_checkIndex : am_My YJ0_checkIndex 2 := ⟨am_mem 356 (by decide +kernel) (by decide +kernel), am_mem 10 (by decide +kernel) (by decide +kernel), by decide +kernel, by decide +kernel⟩
theorem my_J1_charAt : am_My YJ1_charAt 2 := ⟨am_mem 353 (by decide +kernel) (by decide +kernel), am_mem 11 (by decide +kernel) (by decide +kernel), by decide +kernel, by decide +kernel⟩
theorem my_J3_checkIndex : am_My YJ3_checkIndex 3 := ⟨am_mem 361 (by decide +kernel) (by decide +kernel), am_mem 12 (by decide +kernel) (by decide +kernel), by decide +kernel, by decide +kernel⟩
theorem mi_J0_length : am_Mi YJ0_length := ⟨am_mem 334 (by decide +kernel) (by decide +kernel), am_mem 335 (by decide +kernel) (by decide +kernel)⟩
theorem mi_J0_charAt : am_Mi YJ0_charAt := ⟨am_mem 344 (by decide +kernel) (by decide +kernel), am_mem 345 (by decide +kernel) (by decide +kernel)⟩
theorem mi_J0_coder : am_Mi YJ0_coder := ⟨am_mem 338 (by decide +kernel) (by decide +kernel), am_mem 339 (by decide +kernel) (by decide +kernel)⟩
theorem mi_J0_isLatin1 : am_Mi YJ0_isLatin1 := ⟨am_mem 348 (by decide +kernel) (by decide +kernel), am_mem 349 (by decide +kernel) (by decide +kernel)⟩
theorem ms_J0_checkIndex : Cond.static yJ0_checkIndex_df160 ∈ am_ws := am_mem 355 (by decide +kernel) (by decide +kernel)
theorem ms_J1_charAt : Cond.static yJ1_charAt_3b067 ∈ am_ws := am_mem 352 (by decide +kernel) (by decide +kernel)
theorem ms_J3_checkIndex : Cond.static yJ3_checkIndex_8e157 ∈ am_ws := am_mem 360 (by decide +kernel) (by decide +kernel)
theorem ml_J0_335 : Cond.methodLink RJ0 335 yJ0_coder_7d493 ∈ am_ws := am_mem 337 (by decide +kernel) (by decide +kernel)
theorem ml_J0_492 : Cond.methodLink RJ0 492 yJ0_isLatin1_aae02 ∈ am_ws := am_mem 347 (by decide +kernel) (by decide +kernel)
theorem ml_J0_495 : Cond.methodLink RJ0 495 yJ1_charAt_3b067 ∈ am_ws := am_mem 351 (by decide +kernel) (by decide +kernel)
theorem ml_J1_9 : Cond.methodLink RJ1 9 yJ0_checkIndex_df160 ∈ am_ws := am_mem 354 (by decide +kernel) (by decide +kernel)
theorem ml_J0_1059 : Cond.methodLink RJ0 1059 yJ3_checkIndex_8e157 ∈ am_ws := am_mem 359 (by decide +kernel) (by decide +kernel)
theorem fw_J0_38 : Cond.fieldLink RJ0 38 "java/lang/String" "COMPACT_STRINGS" "Z" ∈ am_ws := am_mem 341 (by decide +kernel) (by decide +kernel)
theorem fw_J0_9 : Cond.fieldLink RJ0 9 "java/lang/String" "value" "[B" ∈ am_ws := am_mem 1187 (by decide +kernel) (by decide +kernel)
theorem fw_J0_15 : Cond.fieldLink RJ0 15 "java/lang/String" "coder" "B" ∈ am_ws := am_mem 1188 (by decide +kernel) (by decide +kernel)
theorem fw_J0_1053 : Cond.fieldLink RJ0 1053 "jdk/internal/util/Preconditions" "SIOOBE_FORMATTER" "Ljava/util/function/BiFunction;" ∈ am_ws := am_mem 357 (by decide +kernel) (by decide +kernel)
theorem am_u100 {k : Nat} (h : k < 12) : (UInt32.ofNat (100 + k)).toNat = 100 + k := by
  rw [UInt32.toNat_ofNat']
  omega
def tm_fco (Q : am_P) : am_P := fun L S Y h => am_pf S fun k S1 => k < 12 ∧ Q L (.int 0 :: S1) Y h
def tm_fva (Q : am_P) : am_P := fun L S Y h => am_pf S fun k S1 => k < 12 ∧ Q L (.float (UInt32.ofNat (100 + k)) :: S1) Y h
def tm_fln (Q : am_P) : am_P := fun L S Y h => am_pf S fun k S1 => (100 ≤ k ∧ k < 112) ∧ Q L (.int (nI (am_slen.getD (k - 100) 0)) :: S1) Y h
def tm_fbl (Q : am_P) : am_P := fun L S Y h => am_pi S fun j S1 => am_pf S1 fun k S2 => (100 ≤ k ∧ k < 112) ∧ vp_in j (am_slen.getD (k - 100) 0) ∧ Q L (.int ((am_sbyt.getD (k - 100) []).getD j.toNatClampNeg 0) :: S2) Y h
def tm_callF (y : am_Y) (n d : Nat) (Q : am_P) : am_P := fun L S Y h => am_pu (S.drop n) fun u S1 => u.toNat < 12 ∧ 1 ≤ d ∧ am_cs S1 ≤ 8 ∧ n ≤ S.length ∧ am_Met (d - 1) 0 0 y (.float u :: (S.take n).reverse) Y h fun r Y1 h1 => Q L (r.take 1 ++ S1) Y1 h1
def tm_nret (ty : FieldType) (K : List Value → List am_C → am_H → Prop) : am_P := fun _ S Y h => am_pi S fun x S1 => S1 = [] ∧ narrow ty (.int x) = .int x ∧ K [.int x] Y h
def tm_gq (d : Nat) (Q : am_P) : am_P := fun L S Y h => am_pi S fun n S1 => am_pi S1 fun i S2 => 1 ≤ d ∧ am_cs S2 ≤ 8 ∧ ∀ v : Value, (v = .null ∨ v = .float 50) → am_Met (d - 1) 0 0 YJ3_checkIndex [.int i, .int n, v] Y h fun r Y1 h1 => ∃ x : Int32, r = [.int x] ∧ Q L (.int x :: S2) Y1 h1
theorem qtm_fco (Q : am_P) (L S : List Value) (Y : List am_C) (h : am_H) : tm_fco Q L S Y h = (am_pf S fun k S1 => k < 12 ∧ Q L (.int 0 :: S1) Y h) := of_eq_true (eq_self _)
theorem qtm_fva (Q : am_P) (L S : List Value) (Y : List am_C) (h : am_H) : tm_fva Q L S Y h = (am_pf S fun k S1 => k < 12 ∧ Q L (.float (UInt32.ofNat (100 + k)) :: S1) Y h) := of_eq_true (eq_self _)
theorem qtm_fln (Q : am_P) (L S : List Value) (Y : List am_C) (h : am_H) : tm_fln Q L S Y h = (am_pf S fun k S1 => (100 ≤ k ∧ k < 112) ∧ Q L (.int (nI (am_slen.getD (k - 100) 0)) :: S1) Y h) := of_eq_true (eq_self _)
theorem qtm_fbl (Q : am_P) (L S : List Value) (Y : List am_C) (h : am_H) : tm_fbl Q L S Y h = (am_pi S fun j S1 => am_pf S1 fun k S2 => (100 ≤ k ∧ k < 112) ∧ vp_in j (am_slen.getD (k - 100) 0) ∧ Q L (.int ((am_sbyt.getD (k - 100) []).getD j.toNatClampNeg 0) :: S2) Y h) := of_eq_true (eq_self _)
theorem qtm_callF (y : am_Y) (n d : Nat) (Q : am_P) (L S : List Value) (Y : List am_C) (h : am_H) : tm_callF y n d Q L S Y h = (am_pu (S.drop n) fun u S1 => u.toNat < 12 ∧ 1 ≤ d ∧ am_cs S1 ≤ 8 ∧ n ≤ S.length ∧ am_Met (d - 1) 0 0 y (.float u :: (S.take n).reverse) Y h fun r Y1 h1 => Q L (r.take 1 ++ S1) Y1 h1) := of_eq_true (eq_self _)
theorem qtm_nret (ty : FieldType) (K : List Value → List am_C → am_H → Prop) (L S : List Value) (Y : List am_C) (h : am_H) : tm_nret ty K L S Y h = (am_pi S fun x S1 => S1 = [] ∧ narrow ty (.int x) = .int x ∧ K [.int x] Y h) := of_eq_true (eq_self _)
theorem qtm_gq (d : Nat) (Q : am_P) (L S : List Value) (Y : List am_C) (h : am_H) : tm_gq d Q L S Y h = (am_pi S fun n S1 => am_pi S1 fun i S2 => 1 ≤ d ∧ am_cs S2 ≤ 8 ∧ ∀ v : Value, (v = .null ∨ v = .float 50) → am_Met (d - 1) 0 0 YJ3_checkIndex [.int i, .int n, v] Y h fun r Y1 h1 => ∃ x : Int32, r = [.int x] ∧ Q L (.int x :: S2) Y1 h1) := of_eq_true (eq_self _)
/-- the same world with another address for the constant 50, which no string is -/
def am_Gq (G : am_G) (t : Nat) : am_G := (G.1, G.2.1, fun k => if k = 50 then t else G.2.2 k)
theorem am_Gq_E {G : am_G} {o t : Nat} {U : State} {H : Heap} (h : am_E G o U H) : am_E (am_Gq G t) o U H := by
  obtain ⟨h0, hn, ⟨⟨h1, h1b⟩, a1, a2⟩, h2, h3, h4⟩ := h
  have e1 : ∀ i, i < 12 → (am_Gq G t).2.2 i = G.2.2 i := fun i hi => if_neg (by omega)
  have e2 : ∀ i, i < 12 → (am_Gq G t).2.2 (100 + i) = G.2.2 (100 + i) := fun i hi => if_neg (by omega)
  refine ⟨h0, hn, ⟨⟨fun i hi => ?_, fun i j hi hj e => ?_⟩, a1, a2⟩, h2, h3, fun k hk => ?_⟩
  · rw [e1 i hi]
    show va_O _ _ _ _ _ ∧ va_OF _ _ _ _ _ _ _ _ ∧ va_OF _ _ _ (.ref ((am_Gq G t).2.2 (100 + i))) _ _ _ _ ∧ va_T _ ((am_Gq G t).2.2 (100 + i)) _ _ _ _ _
    rw [e2 i hi]
    exact h1 i hi
  · rw [e1 i hi, e1 j hj] at e
    exact h1b i j hi hj e
  · rw [e1 k hk]
    exact h4 k hk
section SND
variable {X : am_X} {d : Nat} {own : String} {cc : ByteArray} {nL : Nat} {Q : State → Prop} {n1 n2 pc : Nat} {Qn Qt Qf : am_P} {K : List Value → List am_C → am_H → Prop}
theorem a_gsC (F : am_Fx X d RJ0 cc nL) (hd : decode cc pc = .ok (.getstatic 38, 3)) (kk : ∀ L S Y h, Qn L S Y h → am_At X Q nL n1 n2 (pc + 3) L S Y h) : ∀ L S Y h, tm_push (.int 1) Qn L S Y h → am_At X Q nL n1 n2 pc L S Y h := by
  obtain ⟨p, l, e, R, s, m, args, below, meth, c, G, o⟩ := X
  obtain ⟨hx, hb, hml, hown, hts, hE, ho, hd1, hd2, hlk⟩ := F
  intro L S Y h hq H locs ls hz hP hS hl
  exact va_gets hx hb hE.2.2.2.1 hS hown (hts _ fw_J0_38) (fun _ q => q) hd (kk _ _ _ _ hq H locs ls hz hP hS hl)
theorem a_fco (F : am_Fx X d RJ0 cc nL) (hd : decode cc pc = .ok (.getfield 15, 3)) (kk : ∀ L S Y h, Qn L S Y h → am_At X Q nL n1 n2 (pc + 3) L S Y h) : ∀ L S Y h, tm_fco Qn L S Y h → am_At X Q nL n1 n2 pc L S Y h := by
  obtain ⟨p, l, e, R, s, m, args, below, meth, c, G, o⟩ := X
  obtain ⟨hx, hb, hml, hown, hts, hE, ho, hd1, hd2, hlk⟩ := F
  intro L S Y h hq H locs ls hz hP hS hl
  obtain ⟨u, S1, rfl, hk, hq1⟩ := am_pf_of hq
  exact vk_getf hx hb (hE.2.2.1.1.1 _ hk).2.1 hS hown (hts _ fw_J0_15) (fun _ q => q) hd (kk _ _ _ _ hq1 H locs ls hz hP hS hl)
theorem a_fva (F : am_Fx X d RJ0 cc nL) (hd : decode cc pc = .ok (.getfield 9, 3)) (kk : ∀ L S Y h, Qn L S Y h → am_At X Q nL n1 n2 (pc + 3) L S Y h) : ∀ L S Y h, tm_fva Qn L S Y h → am_At X Q nL n1 n2 pc L S Y h := by
  obtain ⟨p, l, e, R, s, m, args, below, meth, c, G, o⟩ := X
  obtain ⟨hx, hb, hml, hown, hts, hE, ho, hd1, hd2, hlk⟩ := F
  intro L S Y h hq H locs ls hz hP hS hl
  obtain ⟨u, S1, rfl, hk, hq1⟩ := am_pf_of hq
  have k1 := kk _ _ _ _ hq1 H locs ls hz hP hS hl
  rw [List.map_cons] at k1
  have e : am_v G o (.float (UInt32.ofNat (100 + u.toNat))) = .ref (G.2.2 (100 + u.toNat)) := congrArg (fun k => Value.ref (G.2.2 k)) (am_u100 hk)
  rw [e] at k1
  exact vk_getf hx hb (hE.2.2.1.1.1 _ hk).2.2.1 hS hown (hts _ fw_J0_9) (fun _ q => q) hd k1
theorem a_fln (F : am_Fx X d own cc nL) (hd : decode cc pc = .ok (.arraylength, 1)) (kk : ∀ L S Y h, Qn L S Y h → am_At X Q nL n1 n2 (pc + 1) L S Y h) : ∀ L S Y h, tm_fln Qn L S Y h → am_At X Q nL n1 n2 pc L S Y h := by
  obtain ⟨p, l, e, R, s, m, args, below, meth, c, G, o⟩ := X
  obtain ⟨hx, hb, hml, hown, hts, hE, ho, hd1, hd2, hlk⟩ := F
  intro L S Y h hq H locs ls hz hP hS hl
  obtain ⟨u, S1, rfl, ⟨k1, k2⟩, hq1⟩ := am_pf_of hq
  have hT := (hE.2.2.1.1.1 (u.toNat - 100) (by omega)).2.2.2
  have e : 100 + (u.toNat - 100) = u.toNat := by omega
  dsimp only at hT
  rw [e] at hT
  exact va_tlen hx hb hT hS rfl hd (kk _ _ _ _ hq1 H locs ls hz hP hS hl)
theorem a_fbl (F : am_Fx X d own cc nL) (hd : decode cc pc = .ok (.baload, 1)) (kk : ∀ L S Y h, Qn L S Y h → am_At X Q nL n1 n2 (pc + 1) L S Y h) : ∀ L S Y h, tm_fbl Qn L S Y h → am_At X Q nL n1 n2 pc L S Y h := by
  obtain ⟨p, l, e, R, s, m, args, below, meth, c, G, o⟩ := X
  obtain ⟨hx, hb, hml, hown, hts, hE, ho, hd1, hd2, hlk⟩ := F
  intro L S Y h hq H locs ls hz hP hS hl
  obtain ⟨j, S1, rfl, hq0⟩ := am_pi_of hq
  obtain ⟨u, S2, rfl, ⟨k1, k2⟩, hin, hq1⟩ := am_pf_of hq0
  have hT := (hE.2.2.1.1.1 (u.toNat - 100) (by omega)).2.2.2
  have e : 100 + (u.toNat - 100) = u.toNat := by omega
  dsimp only at hT
  rw [e] at hT
  exact va_tb hx hb hT hS hin rfl hd (kk _ _ _ _ hq1 H locs ls hz hP hS hl)
theorem a_nret {ty : FieldType} (F : am_Fx X d own cc nL) (hr : am_Rt X (some ty)) (hd : decode cc pc = .ok (.ireturn, 1)) : ∀ L S Y h, tm_nret ty K L S Y h → am_At X (am_MQ X K n1 n2) nL n1 n2 pc L S Y h := by
  obtain ⟨p, l, e, R, s, m, args, below, meth, c, G, o⟩ := X
  obtain ⟨hx, hb, hml, hown, hts, hE, ho, hd1, hd2, hlk⟩ := F
  intro L S Y h hq H locs ls hz hP hS hl
  obtain ⟨x, S1, rfl, rfl, hn, hk⟩ := am_pi_of hq
  exact W.zret (v := x) (ty := ty) hx hb hr hn (fun t ht hW => ⟨⟨[.int x], Y, h, rfl, hk, by rw [ht]; exact hz, by rw [ht]; exact hP⟩, hS.F ht⟩) hS.2.2 hd hlk
theorem a_i2c (F : am_Fx X d own cc nL) (hd : decode cc pc = .ok (.i2c, 1)) (kk : ∀ L S Y h, Qn L S Y h → am_At X Q nL n1 n2 (pc + 1) L S Y h) : ∀ L S Y h, tm_un (fun x => (x.toUInt32 % 65536).toInt32) Qn L S Y h → am_At X Q nL n1 n2 pc L S Y h := by
  obtain ⟨p, l, e, R, s, m, args, below, meth, c, G, o⟩ := X
  obtain ⟨hx, hb, hml, hown, hts, hE, ho, hd1, hd2, hlk⟩ := F
  intro L S Y h hq H locs ls hz hP hS hl
  obtain ⟨x, S1, rfl, hq1⟩ := am_pi_of hq
  exact lv_i2c hx hb hd rfl (kk _ _ _ _ hq1 H locs ls hz hP hS hl)
theorem am_stkF {G : am_G} {o n : Nat} {u : UInt32} {S S1 : List Value} (h : S.drop n = .float u :: S1) : S.map (am_v G o) = ((S.take n).reverse.map (am_v G o)).reverse ++ .ref (G.2.2 u.toNat) :: S1.map (am_v G o) := by
  rw [← List.map_reverse, List.reverse_reverse]
  have e : S = S.take n ++ .float u :: S1 := by rw [← h, List.take_append_drop]
  exact (congrArg (List.map (am_v G o)) e).trans (by simp [am_v])
theorem a_callF {y : am_Y} {n idx : Nat} (F : am_Fx X d own cc nL) (hm : am_My y n) (hcls : y.1.cls = "java/lang/String") (hi : am_Mi y) (hw : Cond.methodLink own idx y.1 ∈ am_ws) (hR : am_Rc X n1 n2) (hd : decode cc pc = .ok (.invokevirtual idx, 3)) (kk : ∀ L S Y h, Qn L S Y h → am_At X Q nL n1 n2 (pc + 3) L S Y h) : ∀ L S Y h, tm_callF y n d Qn L S Y h → am_At X Q nL n1 n2 pc L S Y h := by
  obtain ⟨p, l, e, R, s, m, args, below, meth, c, G, o⟩ := X
  obtain ⟨hx, hb, hml, hown, hts, hE, ho, hd1, hd2, hlk⟩ := F
  intro L S Y h hq H locs ls hz hP hS hl
  obtain ⟨u, S1, hSd, hk, h1, hcs, hn, hM⟩ := am_pu_of hq
  rw [am_stkF hSd]
  refine am_after (rest := S1.map (am_v G o)) (va_runV (Ts := am_ws) (As := (S.take n).reverse.map (am_v G o)) (rest := S1.map (am_v G o)) ⟨hx, hb, hml, hown, hts⟩ (hM l G o) ⟨callB_of n hts (am_goodT hm.1) rfl rfl rfl (hts _ hm.2.1) (hts _ hw) hm.2.2.1 (am_room h1 hd1 hd2 hm.2.2.2 0 0), hts _ hi.1, hts _ hi.2⟩ ⟨am_blind _ _ _ _ _, by rw [hcls]; exact vk_recv hE.2.2.1.1 hk hS, fun U hU hW => ⟨rfl, by rw [hU]; exact hz, by rw [hU]; exact hP, by rw [hU]; exact hE.to hW hS.2.1⟩⟩ rfl (by simp; omega) hl.1 rfl (lv_room (by rw [am_cs_map]; exact hcs)) hd ⟨hR.1, hR.2⟩) hS fun r Y1 h1 hK H1 locs1 z1 hP1 hS1 => ?_
  rw [← am_head]
  exact kk _ _ _ _ hK H1 locs1 ls z1 hP1 hS1 hl
theorem am_gq_run {n i : Int32} {S2 : List Value} {v w : Value} {t : Nat} {L : List Value} {Y : List am_C} {h : am_H} {p : Program} {l : Launch} {e : Env} {R : Room} {s : State} {m : MethodId} {args : Array Value} {below : List Frame} {meth : Method} {c : Code} {G : am_G} {o : Nat} (F : am_Fx (p, l, e, R, s, m, args, below, meth, c, G, o) d RJ0 cc nL) (hR : n1 ≤ R.cells ∧ n2 ≤ R.slots) (hd : decode cc pc = .ok (.invokestatic 1059, 3)) (hv : am_v (am_Gq G t) o v = w) (h1 : 1 ≤ d) (hcs : am_cs S2 ≤ 8) (hM : am_Met (d - 1) 0 0 YJ3_checkIndex [.int i, .int n, v] Y h fun r Y1 h1 => ∃ x : Int32, r = [.int x] ∧ am_At (p, l, e, R, s, m, args, below, meth, c, G, o) Q nL n1 n2 (pc + 3) L (.int x :: S2) Y1 h1) {H : Heap} {locs : List Loc} {ls : Array Slot} (hz : H.size = o + Y.length) (hP : va_P G.1 vwCl (am_w G o h Y) H) (hS : va_S (am_A o) s.heap H locs) (hl : am_L G o ls nL L) : W p l e R s m args below meth c H locs n1 n2 Q (F0 m pc ls (w :: .int n :: .int i :: S2.map (am_v G o))) := by
  obtain ⟨hx, hb, hml, hown, hts, hE, ho, hd1, hd2, hlk⟩ := F
  subst hv
  refine am_after (G := am_Gq G t) (rest := S2.map (am_v G o)) (va_runS (Ts := am_ws) (As := [.int i, .int n, am_v (am_Gq G t) o v]) (rest := S2.map (am_v G o)) ⟨hx, hb, hml, hown, hts⟩ (hM l (am_Gq G t) o) ⟨callB_of 3 hts (am_goodT my_J3_checkIndex.1) rfl rfl rfl (hts _ my_J3_checkIndex.2.1) (hts _ ml_J0_1059) my_J3_checkIndex.2.2.1 (am_room h1 hd1 hd2 my_J3_checkIndex.2.2.2 0 0), hts _ ms_J3_checkIndex⟩ ⟨am_blind _ _ _ _ _, fun U hU hW => ⟨rfl, by rw [hU]; exact hz, by rw [hU]; exact hP, by rw [hU]; exact am_Gq_E (hE.to hW hS.2.1)⟩⟩ rfl rfl hl.1 rfl (lv_room (by rw [am_cs_map]; exact hcs)) hd ⟨hR.1, hR.2⟩) hS fun r Y1 h1 hK H1 locs1 z1 hP1 hS1 => ?_
  obtain ⟨x, rfl, hx2⟩ := hK
  exact hx2 H1 locs1 ls z1 hP1 hS1 hl
theorem a_gq (F : am_Fx X d RJ0 cc nL) (hR : am_Rc X n1 n2) (hd0 : decode cc pc = .ok (.getstatic 1053, 3)) (hd : decode cc (pc + 3) = .ok (.invokestatic 1059, 3)) (kk : ∀ L S Y h, Qn L S Y h → am_At X Q nL n1 n2 (pc + 3 + 3) L S Y h) : ∀ L S Y h, tm_gq d Qn L S Y h → am_At X Q nL n1 n2 pc L S Y h := by
  obtain ⟨p, l, e, R, s, m, args, below, meth, c, G, o⟩ := X
  have F' := F
  obtain ⟨hx, hb, hml, hown, hts, hE, ho, hd1, hd2, hlk⟩ := F
  intro L S Y h hq H locs ls hz hP hS hl
  obtain ⟨n, S1, rfl, hq1⟩ := am_pi_of hq
  obtain ⟨i, S2, rfl, h1, hcs, hM⟩ := am_pi_of hq1
  have hM' : ∀ v : Value, (v = .null ∨ v = .float 50) → am_Met (d - 1) 0 0 YJ3_checkIndex [.int i, .int n, v] Y h fun r Y1 h1 => ∃ x : Int32, r = [.int x] ∧ am_At (p, l, e, R, s, m, args, below, meth, c, G, o) Q nL n1 n2 (pc + 3 + 3) L (.int x :: S2) Y1 h1 := fun v hv => (hM v hv).mono fun r Y1 h1 ⟨x, hr, hx⟩ => ⟨x, hr, kk _ _ _ _ hx⟩
  rcases hE.2.2.2.2.1 with hZ | ⟨t, hZ⟩
  · exact va_gets hx hb hZ hS hown (hts _ fw_J0_1053) (fun _ q => q) hd0 (am_gq_run (t := 0) F' ⟨hR.1, hR.2⟩ hd (v := .null) rfl h1 hcs (hM' _ (Or.inl rfl)) hz hP hS hl)
  · exact va_gets hx hb hZ hS hown (hts _ fw_J0_1053) (fun _ q => q) hd0 (am_gq_run (t := t) F' ⟨hR.1, hR.2⟩ hd (v := .float 50) rfl h1 hcs (hM' _ (Or.inr rfl)) hz hP hS hl)
end SND
section CON
variable {d : Nat} {Y : List am_C} {h : am_H} {K : List Value → List am_C → am_H → Prop}
set_option maxHeartbeats 4000000 in
set_option maxRecDepth 100000 in
theorem c_J0_coder {u : UInt32} (hu : u.toNat < 12) (hK : K [.int 0] Y h) : am_Met d 0 0 YJ0_coder [.float u] Y h K := by
  refine am_start (L := [.float u]) (by decide +kernel) rfl (by simp [am_ents, Value.category]) fun X F hr hR _ => ?_
  refine a_gsC F dJ0_coder_7d493_0 (a_if_eq (tgt := 13) F dJ0_coder_7d493_3 (by decide) (fun (L S : List Value) (Y : List am_C) (h : am_H) (q : False) => q.elim) (a_aload_n (i := 0) F dJ0_coder_7d493_6 rfl (a_fco F dJ0_coder_7d493_7 (a_goto F dJ0_coder_7d493_10 (by decide) (a_nret F hr dJ0_coder_7d493_14))))) _ _ _ _ ?_
  simp only [qtm_fco, qtm_fva, qtm_fln, qtm_fbl, qtm_callF, qtm_nret, qtm_gq, am_pf_c, am_pu_c, hu, Int32.reduceLT, Int32.reduceLE, eq_self, am_10, am_00, am_01, am_11, true_implies, false_implies, not_true_eq_false, not_false_eq_true, or_true, true_or, and_self, implies_true, qtm_push, qtm_iload, qtm_lload, qtm_aload, qtm_istore, qtm_lstore, qtm_astore, qtm_iinc, qtm_un, qtm_bin, qtm_div, qtm_lbin, qtm_ldiv, qtm_lsh, qtm_lcmp, qtm_i2l, qtm_l2i, qtm_if, qtm_cmp, qtm_getf, qtm_puti, qtm_putz, qtm_putl, qtm_iald, qtm_iast, qtm_zald, qtm_zast, qtm_aald, qtm_tsw, qtm_callV, qtm_callS, qtm_acp, qtm_alen, qtm_max, qtm_min, qtm_dup, qtm_pop, qtm_iret, qtm_zret, qtm_lret, qtm_aret, qtm_vret, qtm_swn, qtm_swc, am_oi_c, am_ol_c, am_or_r, am_or_f, am_pi_c, am_pj_c, am_pr_c, am_pa_r, am_pa_f, am_yo_c, am_ya_c, am_fv_i, am_fv_l, am_fv_r, am_fi_c, am_fl_c, am_rv_c, am_n2_s, am_n2_n, am_pv_0, am_pv_s, am_cs_n, am_cs_c, Value.category, List.getElem?_cons_zero, List.getElem?_cons_succ, List.set_cons_zero, List.set_cons_succ, List.length_cons, List.length_nil, List.drop_succ_cons, List.drop_zero, List.take_succ_cons, List.take_zero, List.take_nil, List.reverse_cons, List.reverse_nil, List.nil_append, List.cons_append, List.append_nil, true_and, and_true, Int.reduceAdd, am_o0, am_o1, am_o2, am_o3, am_o4, am_o5, am_o6, am_o7, am_o8, am_o9, am_o10, am_o11, am_o12, am_o13, am_o14, am_o15, am_o16, am_o17, am_o18, am_o19, am_o20, am_o21, am_o22, am_o23, am_o24, am_o25, am_o26, am_o27, Nat.reduceAdd, Nat.reduceLeDiff, Nat.reduceLT, Nat.zero_le, qtm_slen, qtm_sch, am_pf_c]
  exact ⟨rfl, hK⟩
set_option maxHeartbeats 4000000 in
set_option maxRecDepth 100000 in
theorem c_J0_length {u : UInt32} (hd : 2 ≤ d) (hu : u.toNat < 12) (hK : K [.int (nI (am_slen.getD u.toNat 0))] Y h) : am_Met d 0 0 YJ0_length [.float u] Y h K := by
  refine am_start (L := [.float u]) (by decide +kernel) rfl (by simp [am_ents, Value.category]) fun X F hr hR _ => ?_
  refine a_aload_n (i := 0) F dJ0_length_8abf5_0 rfl (a_fva F dJ0_length_8abf5_1 (a_fln F dJ0_length_8abf5_4 (a_aload_n (i := 0) F dJ0_length_8abf5_5 rfl (a_callF F my_J0_coder rfl mi_J0_coder ml_J0_335 hR dJ0_length_8abf5_6 (a_ishr F dJ0_length_8abf5_9 (a_iret F hr dJ0_length_8abf5_10)))))) _ _ _ _ ?_
  simp only [qtm_fco, qtm_fva, qtm_fln, qtm_fbl, qtm_callF, qtm_nret, qtm_gq, am_pf_c, am_pu_c, hu, am_u100 hu, Nat.add_sub_cancel_left, Int32.reduceLT, Int32.reduceLE, eq_self, am_10, am_00, am_01, am_11, true_implies, false_implies, not_true_eq_false, not_false_eq_true, or_true, true_or, and_self, implies_true, qtm_push, qtm_iload, qtm_lload, qtm_aload, qtm_istore, qtm_lstore, qtm_astore, qtm_iinc, qtm_un, qtm_bin, qtm_div, qtm_lbin, qtm_ldiv, qtm_lsh, qtm_lcmp, qtm_i2l, qtm_l2i, qtm_if, qtm_cmp, qtm_getf, qtm_puti, qtm_putz, qtm_putl, qtm_iald, qtm_iast, qtm_zald, qtm_zast, qtm_aald, qtm_tsw, qtm_callV, qtm_callS, qtm_acp, qtm_alen, qtm_max, qtm_min, qtm_dup, qtm_pop, qtm_iret, qtm_zret, qtm_lret, qtm_aret, qtm_vret, qtm_swn, qtm_swc, am_oi_c, am_ol_c, am_or_r, am_or_f, am_pi_c, am_pj_c, am_pr_c, am_pa_r, am_pa_f, am_yo_c, am_ya_c, am_fv_i, am_fv_l, am_fv_r, am_fi_c, am_fl_c, am_rv_c, am_n2_s, am_n2_n, am_pv_0, am_pv_s, am_cs_n, am_cs_c, Value.category, List.getElem?_cons_zero, List.getElem?_cons_succ, List.set_cons_zero, List.set_cons_succ, List.length_cons, List.length_nil, List.drop_succ_cons, List.drop_zero, List.take_succ_cons, List.take_zero, List.take_nil, List.reverse_cons, List.reverse_nil, List.nil_append, List.cons_append, List.append_nil, true_and, and_true, Int.reduceAdd, am_o0, am_o1, am_o2, am_o3, am_o4, am_o5, am_o6, am_o7, am_o8, am_o9, am_o10, am_o11, am_o12, am_o13, am_o14, am_o15, am_o16, am_o17, am_o18, am_o19, am_o20, am_o21, am_o22, am_o23, am_o24, am_o25, am_o26, am_o27, Nat.reduceAdd, Nat.reduceLeDiff, Nat.reduceLT, Nat.zero_le, qtm_slen, qtm_sch, am_pf_c]
  have e0 : ∀ x : Int32, x >>> ((0 : Int32) &&& 31) = x := fun x => by rw [show ((0 : Int32) &&& 31) = 0 by decide]; exact Int32.shiftRight_zero
  refine ⟨by omega, by omega, c_J0_coder hu ?_⟩
  simp only [qtm_fco, qtm_fva, qtm_fln, qtm_fbl, qtm_callF, qtm_nret, qtm_gq, am_pf_c, am_pu_c, e0, Int32.reduceLT, Int32.reduceLE, eq_self, am_10, am_00, am_01, am_11, true_implies, false_implies, not_true_eq_false, not_false_eq_true, or_true, true_or, and_self, implies_true, qtm_push, qtm_iload, qtm_lload, qtm_aload, qtm_istore, qtm_lstore, qtm_astore, qtm_iinc, qtm_un, qtm_bin, qtm_div, qtm_lbin, qtm_ldiv, qtm_lsh, qtm_lcmp, qtm_i2l, qtm_l2i, qtm_if, qtm_cmp, qtm_getf, qtm_puti, qtm_putz, qtm_putl, qtm_iald, qtm_iast, qtm_zald, qtm_zast, qtm_aald, qtm_tsw, qtm_callV, qtm_callS, qtm_acp, qtm_alen, qtm_max, qtm_min, qtm_dup, qtm_pop, qtm_iret, qtm_zret, qtm_lret, qtm_aret, qtm_vret, qtm_swn, qtm_swc, am_oi_c, am_ol_c, am_or_r, am_or_f, am_pi_c, am_pj_c, am_pr_c, am_pa_r, am_pa_f, am_yo_c, am_ya_c, am_fv_i, am_fv_l, am_fv_r, am_fi_c, am_fl_c, am_rv_c, am_n2_s, am_n2_n, am_pv_0, am_pv_s, am_cs_n, am_cs_c, Value.category, List.getElem?_cons_zero, List.getElem?_cons_succ, List.set_cons_zero, List.set_cons_succ, List.length_cons, List.length_nil, List.drop_succ_cons, List.drop_zero, List.take_succ_cons, List.take_zero, List.take_nil, List.reverse_cons, List.reverse_nil, List.nil_append, List.cons_append, List.append_nil, true_and, and_true, Int.reduceAdd, am_o0, am_o1, am_o2, am_o3, am_o4, am_o5, am_o6, am_o7, am_o8, am_o9, am_o10, am_o11, am_o12, am_o13, am_o14, am_o15, am_o16, am_o17, am_o18, am_o19, am_o20, am_o21, am_o22, am_o23, am_o24, am_o25, am_o26, am_o27, Nat.reduceAdd, Nat.reduceLeDiff, Nat.reduceLT, Nat.zero_le, qtm_slen, qtm_sch, am_pf_c]
  exact hK
set_option maxHeartbeats 4000000 in
set_option maxRecDepth 100000 in
theorem c_J0_isLatin1 {u : UInt32} (hu : u.toNat < 12) (hK : K [.int 1] Y h) : am_Met d 0 0 YJ0_isLatin1 [.float u] Y h K := by
  refine am_start (L := [.float u]) (by decide +kernel) rfl (by simp [am_ents, Value.category]) fun X F hr hR _ => ?_
  refine a_gsC F dJ0_isLatin1_aae02_0 (a_if_eq (tgt := 17) F dJ0_isLatin1_aae02_3 (by decide) (fun (L S : List Value) (Y : List am_C) (h : am_H) (q : False) => q.elim) (a_aload_n (i := 0) F dJ0_isLatin1_aae02_6 rfl (a_fco F dJ0_isLatin1_aae02_7 (a_if_ne (tgt := 17) F dJ0_isLatin1_aae02_10 (by decide) (fun (L S : List Value) (Y : List am_C) (h : am_H) (q : False) => q.elim) (a_iconst F dJ0_isLatin1_aae02_13 rfl (a_goto F dJ0_isLatin1_aae02_14 (by decide) (a_zret F hr dJ0_isLatin1_aae02_18))))))) _ _ _ _ ?_
  simp only [qtm_fco, qtm_fva, qtm_fln, qtm_fbl, qtm_callF, qtm_nret, qtm_gq, am_pf_c, am_pu_c, hu, Int32.reduceLT, Int32.reduceLE, eq_self, am_10, am_00, am_01, am_11, true_implies, false_implies, not_true_eq_false, not_false_eq_true, or_true, true_or, and_self, implies_true, qtm_push, qtm_iload, qtm_lload, qtm_aload, qtm_istore, qtm_lstore, qtm_astore, qtm_iinc, qtm_un, qtm_bin, qtm_div, qtm_lbin, qtm_ldiv, qtm_lsh, qtm_lcmp, qtm_i2l, qtm_l2i, qtm_if, qtm_cmp, qtm_getf, qtm_puti, qtm_putz, qtm_putl, qtm_iald, qtm_iast, qtm_zald, qtm_zast, qtm_aald, qtm_tsw, qtm_callV, qtm_callS, qtm_acp, qtm_alen, qtm_max, qtm_min, qtm_dup, qtm_pop, qtm_iret, qtm_zret, qtm_lret, qtm_aret, qtm_vret, qtm_swn, qtm_swc, am_oi_c, am_ol_c, am_or_r, am_or_f, am_pi_c, am_pj_c, am_pr_c, am_pa_r, am_pa_f, am_yo_c, am_ya_c, am_fv_i, am_fv_l, am_fv_r, am_fi_c, am_fl_c, am_rv_c, am_n2_s, am_n2_n, am_pv_0, am_pv_s, am_cs_n, am_cs_c, Value.category, List.getElem?_cons_zero, List.getElem?_cons_succ, List.set_cons_zero, List.set_cons_succ, List.length_cons, List.length_nil, List.drop_succ_cons, List.drop_zero, List.take_succ_cons, List.take_zero, List.take_nil, List.reverse_cons, List.reverse_nil, List.nil_append, List.cons_append, List.append_nil, true_and, and_true, Int.reduceAdd, am_o0, am_o1, am_o2, am_o3, am_o4, am_o5, am_o6, am_o7, am_o8, am_o9, am_o10, am_o11, am_o12, am_o13, am_o14, am_o15, am_o16, am_o17, am_o18, am_o19, am_o20, am_o21, am_o22, am_o23, am_o24, am_o25, am_o26, am_o27, Nat.reduceAdd, Nat.reduceLeDiff, Nat.reduceLT, Nat.zero_le, qtm_slen, qtm_sch, am_pf_c]
  exact hK
set_option maxHeartbeats 4000000 in
set_option maxRecDepth 100000 in
theorem c_J3_checkIndex {i n : Int32} {v : Value} (hv : v = .null ∨ v = .float 50) (h0 : ¬ i < 0) (hn : i < n) (hK : K [.int i] Y h) : am_Met d 0 0 YJ3_checkIndex [.int i, .int n, v] Y h K := by
  rcases hv with rfl | rfl
  · refine am_start (L := [.int i, .int n, .null]) (by decide +kernel) rfl (by simp [am_ents, Value.category]) fun X F hr hR _ => ?_
    refine a_iload_n (i := 0) F dJ3_checkIndex_8e157_0 rfl (a_if_lt (tgt := 9) F dJ3_checkIndex_8e157_1 (by decide) (fun (L S : List Value) (Y : List am_C) (h : am_H) (q : False) => q.elim) (a_iload_n (i := 0) F dJ3_checkIndex_8e157_4 rfl (a_iload_n (i := 1) F dJ3_checkIndex_8e157_5 rfl (a_icmp_lt F dJ3_checkIndex_8e157_6 (by decide) (a_iload_n (i := 0) F dJ3_checkIndex_8e157_16 rfl (a_iret F hr dJ3_checkIndex_8e157_17)) (fun (L S : List Value) (Y : List am_C) (h : am_H) (q : False) => q.elim))))) _ _ _ _ ?_
    simp only [h0, hn, Int32.reduceLT, Int32.reduceLE, eq_self, am_10, am_00, am_01, am_11, true_implies, false_implies, not_true_eq_false, not_false_eq_true, or_true, true_or, and_self, implies_true, qtm_push, qtm_iload, qtm_lload, qtm_aload, qtm_istore, qtm_lstore, qtm_astore, qtm_iinc, qtm_un, qtm_bin, qtm_div, qtm_lbin, qtm_ldiv, qtm_lsh, qtm_lcmp, qtm_i2l, qtm_l2i, qtm_if, qtm_cmp, qtm_getf, qtm_puti, qtm_putz, qtm_putl, qtm_iald, qtm_iast, qtm_zald, qtm_zast, qtm_aald, qtm_tsw, qtm_callV, qtm_callS, qtm_acp, qtm_alen, qtm_max, qtm_min, qtm_dup, qtm_pop, qtm_iret, qtm_zret, qtm_lret, qtm_aret, qtm_vret, qtm_swn, qtm_swc, am_oi_c, am_ol_c, am_or_r, am_or_f, am_pi_c, am_pj_c, am_pr_c, am_pa_r, am_pa_f, am_yo_c, am_ya_c, am_fv_i, am_fv_l, am_fv_r, am_fi_c, am_fl_c, am_rv_c, am_n2_s, am_n2_n, am_pv_0, am_pv_s, am_cs_n, am_cs_c, Value.category, List.getElem?_cons_zero, List.getElem?_cons_succ, List.set_cons_zero, List.set_cons_succ, List.length_cons, List.length_nil, List.drop_succ_cons, List.drop_zero, List.take_succ_cons, List.take_zero, List.take_nil, List.reverse_cons, List.reverse_nil, List.nil_append, List.cons_append, List.append_nil, true_and, and_true, Int.reduceAdd, am_o0, am_o1, am_o2, am_o3, am_o4, am_o5, am_o6, am_o7, am_o8, am_o9, am_o10, am_o11, am_o12, am_o13, am_o14, am_o15, am_o16, am_o17, am_o18, am_o19, am_o20, am_o21, am_o22, am_o23, am_o24, am_o25, am_o26, am_o27, Nat.reduceAdd, Nat.reduceLeDiff, Nat.reduceLT, Nat.zero_le, qtm_slen, qtm_sch, am_pf_c]
    exact hK
  · refine am_start (L := [.int i, .int n, .float 50]) (by decide +kernel) rfl (by simp [am_ents, Value.category]) fun X F hr hR _ => ?_
    refine a_iload_n (i := 0) F dJ3_checkIndex_8e157_0 rfl (a_if_lt (tgt := 9) F dJ3_checkIndex_8e157_1 (by decide) (fun (L S : List Value) (Y : List am_C) (h : am_H) (q : False) => q.elim) (a_iload_n (i := 0) F dJ3_checkIndex_8e157_4 rfl (a_iload_n (i := 1) F dJ3_checkIndex_8e157_5 rfl (a_icmp_lt F dJ3_checkIndex_8e157_6 (by decide) (a_iload_n (i := 0) F dJ3_checkIndex_8e157_16 rfl (a_iret F hr dJ3_checkIndex_8e157_17)) (fun (L S : List Value) (Y : List am_C) (h : am_H) (q : False) => q.elim))))) _ _ _ _ ?_
    simp only [h0, hn, Int32.reduceLT, Int32.reduceLE, eq_self, am_10, am_00, am_01, am_11, true_implies, false_implies, not_true_eq_false, not_false_eq_true, or_true, true_or, and_self, implies_true, qtm_push, qtm_iload, qtm_lload, qtm_aload, qtm_istore, qtm_lstore, qtm_astore, qtm_iinc, qtm_un, qtm_bin, qtm_div, qtm_lbin, qtm_ldiv, qtm_lsh, qtm_lcmp, qtm_i2l, qtm_l2i, qtm_if, qtm_cmp, qtm_getf, qtm_puti, qtm_putz, qtm_putl, qtm_iald, qtm_iast, qtm_zald, qtm_zast, qtm_aald, qtm_tsw, qtm_callV, qtm_callS, qtm_acp, qtm_alen, qtm_max, qtm_min, qtm_dup, qtm_pop, qtm_iret, qtm_zret, qtm_lret, qtm_aret, qtm_vret, qtm_swn, qtm_swc, am_oi_c, am_ol_c, am_or_r, am_or_f, am_pi_c, am_pj_c, am_pr_c, am_pa_r, am_pa_f, am_yo_c, am_ya_c, am_fv_i, am_fv_l, am_fv_r, am_fi_c, am_fl_c, am_rv_c, am_n2_s, am_n2_n, am_pv_0, am_pv_s, am_cs_n, am_cs_c, Value.category, List.getElem?_cons_zero, List.getElem?_cons_succ, List.set_cons_zero, List.set_cons_succ, List.length_cons, List.length_nil, List.drop_succ_cons, List.drop_zero, List.take_succ_cons, List.take_zero, List.take_nil, List.reverse_cons, List.reverse_nil, List.nil_append, List.cons_append, List.append_nil, true_and, and_true, Int.reduceAdd, am_o0, am_o1, am_o2, am_o3, am_o4, am_o5, am_o6, am_o7, am_o8, am_o9, am_o10, am_o11, am_o12, am_o13, am_o14, am_o15, am_o16, am_o17, am_o18, am_o19, am_o20, am_o21, am_o22, am_o23, am_o24, am_o25, am_o26, am_o27, Nat.reduceAdd, Nat.reduceLeDiff, Nat.reduceLT, Nat.zero_le, qtm_slen, qtm_sch, am_pf_c]
    exact hK
set_option maxHeartbeats 4000000 in
set_option maxRecDepth 100000 in
theorem c_J0_checkIndex {i n : Int32} (hd : 2 ≤ d) (h0 : ¬ i < 0) (hn : i < n) (hK : K [] Y h) : am_Met d 0 0 YJ0_checkIndex [.int i, .int n] Y h K := by
  refine am_start (L := [.int i, .int n]) (by decide +kernel) rfl (by simp [am_ents, Value.category]) fun X F hr hR _ => ?_
  refine a_iload_n (i := 0) F dJ0_checkIndex_df160_0 rfl (a_iload_n (i := 1) F dJ0_checkIndex_df160_1 rfl (a_gq F hR dJ0_checkIndex_df160_2 dJ0_checkIndex_df160_5 (a_pop F dJ0_checkIndex_df160_8 (a_vret F hr dJ0_checkIndex_df160_9)))) _ _ _ _ ?_
  simp only [qtm_fco, qtm_fva, qtm_fln, qtm_fbl, qtm_callF, qtm_nret, qtm_gq, am_pf_c, am_pu_c, Int32.reduceLT, Int32.reduceLE, eq_self, am_10, am_00, am_01, am_11, true_implies, false_implies, not_true_eq_false, not_false_eq_true, or_true, true_or, and_self, implies_true, qtm_push, qtm_iload, qtm_lload, qtm_aload, qtm_istore, qtm_lstore, qtm_astore, qtm_iinc, qtm_un, qtm_bin, qtm_div, qtm_lbin, qtm_ldiv, qtm_lsh, qtm_lcmp, qtm_i2l, qtm_l2i, qtm_if, qtm_cmp, qtm_getf, qtm_puti, qtm_putz, qtm_putl, qtm_iald, qtm_iast, qtm_zald, qtm_zast, qtm_aald, qtm_tsw, qtm_callV, qtm_callS, qtm_acp, qtm_alen, qtm_max, qtm_min, qtm_dup, qtm_pop, qtm_iret, qtm_zret, qtm_lret, qtm_aret, qtm_vret, qtm_swn, qtm_swc, am_oi_c, am_ol_c, am_or_r, am_or_f, am_pi_c, am_pj_c, am_pr_c, am_pa_r, am_pa_f, am_yo_c, am_ya_c, am_fv_i, am_fv_l, am_fv_r, am_fi_c, am_fl_c, am_rv_c, am_n2_s, am_n2_n, am_pv_0, am_pv_s, am_cs_n, am_cs_c, Value.category, List.getElem?_cons_zero, List.getElem?_cons_succ, List.set_cons_zero, List.set_cons_succ, List.length_cons, List.length_nil, List.drop_succ_cons, List.drop_zero, List.take_succ_cons, List.take_zero, List.take_nil, List.reverse_cons, List.reverse_nil, List.nil_append, List.cons_append, List.append_nil, true_and, and_true, Int.reduceAdd, am_o0, am_o1, am_o2, am_o3, am_o4, am_o5, am_o6, am_o7, am_o8, am_o9, am_o10, am_o11, am_o12, am_o13, am_o14, am_o15, am_o16, am_o17, am_o18, am_o19, am_o20, am_o21, am_o22, am_o23, am_o24, am_o25, am_o26, am_o27, Nat.reduceAdd, Nat.reduceLeDiff, Nat.reduceLT, Nat.zero_le, qtm_slen, qtm_sch, am_pf_c]
  refine ⟨by omega, fun v hv => c_J3_checkIndex hv h0 hn ⟨i, rfl, ?_⟩⟩
  exact hK
set_option maxHeartbeats 4000000 in
set_option maxRecDepth 100000 in
theorem c_J1_charAt {u : UInt32} {j : Nat} (hd : 3 ≤ d) (hu : u.toNat < 12) (hj : j < am_slen.getD u.toNat 0) (hK : K [.int ((am_sbyt.getD u.toNat []).getD j 0)] Y h) : am_Met d 0 0 YJ1_charAt [.float (UInt32.ofNat (100 + u.toNat)), .int (nI j)] Y h K := by
  refine am_start (L := [.float (UInt32.ofNat (100 + u.toNat)), .int (nI j)]) (by decide +kernel) rfl (by simp [am_ents, Value.category]) fun X F hr hR _ => ?_
  refine a_iload_n (i := 1) F dJ1_charAt_3b067_0 rfl (a_aload_n (i := 0) F dJ1_charAt_3b067_1 rfl (a_fln F dJ1_charAt_3b067_2 (a_callS F my_J0_checkIndex ms_J0_checkIndex ml_J1_9 hR dJ1_charAt_3b067_3 (a_aload_n (i := 0) F dJ1_charAt_3b067_6 rfl (a_iload_n (i := 1) F dJ1_charAt_3b067_7 rfl (a_fbl F dJ1_charAt_3b067_8 (a_sipush F dJ1_charAt_3b067_9 rfl (a_iand F dJ1_charAt_3b067_12 (a_i2c F dJ1_charAt_3b067_13 (a_nret F hr dJ1_charAt_3b067_14)))))))))) _ _ _ _ ?_
  have hl : am_slen.getD u.toNat 0 ≤ 6 := (by decide : ∀ k : Nat, k < 12 → am_slen.getD k 0 ≤ 6) _ hu
  have hc : ∀ k : Nat, k < 12 → ∀ j : Nat, j < am_slen.getD k 0 → (((am_sbyt.getD k []).getD j 0 &&& (Int16.ofInt 255).toInt32).toUInt32 % 65536).toInt32 = (am_sbyt.getD k []).getD j 0 ∧ narrow .char (.int ((am_sbyt.getD k []).getD j 0)) = .int ((am_sbyt.getD k []).getD j 0) := by decide +kernel
  simp only [qtm_fco, qtm_fva, qtm_fln, qtm_fbl, qtm_callF, qtm_nret, qtm_gq, am_pf_c, am_pu_c, hu, am_u100 hu, Nat.add_sub_cancel_left, nI_clamp (show j < 2 ^ 31 by omega), (hc _ hu j hj).1, Int32.reduceLT, Int32.reduceLE, eq_self, am_10, am_00, am_01, am_11, true_implies, false_implies, not_true_eq_false, not_false_eq_true, or_true, true_or, and_self, implies_true, qtm_push, qtm_iload, qtm_lload, qtm_aload, qtm_istore, qtm_lstore, qtm_astore, qtm_iinc, qtm_un, qtm_bin, qtm_div, qtm_lbin, qtm_ldiv, qtm_lsh, qtm_lcmp, qtm_i2l, qtm_l2i, qtm_if, qtm_cmp, qtm_getf, qtm_puti, qtm_putz, qtm_putl, qtm_iald, qtm_iast, qtm_zald, qtm_zast, qtm_aald, qtm_tsw, qtm_callV, qtm_callS, qtm_acp, qtm_alen, qtm_max, qtm_min, qtm_dup, qtm_pop, qtm_iret, qtm_zret, qtm_lret, qtm_aret, qtm_vret, qtm_swn, qtm_swc, am_oi_c, am_ol_c, am_or_r, am_or_f, am_pi_c, am_pj_c, am_pr_c, am_pa_r, am_pa_f, am_yo_c, am_ya_c, am_fv_i, am_fv_l, am_fv_r, am_fi_c, am_fl_c, am_rv_c, am_n2_s, am_n2_n, am_pv_0, am_pv_s, am_cs_n, am_cs_c, Value.category, List.getElem?_cons_zero, List.getElem?_cons_succ, List.set_cons_zero, List.set_cons_succ, List.length_cons, List.length_nil, List.drop_succ_cons, List.drop_zero, List.take_succ_cons, List.take_zero, List.take_nil, List.reverse_cons, List.reverse_nil, List.nil_append, List.cons_append, List.append_nil, true_and, and_true, Int.reduceAdd, am_o0, am_o1, am_o2, am_o3, am_o4, am_o5, am_o6, am_o7, am_o8, am_o9, am_o10, am_o11, am_o12, am_o13, am_o14, am_o15, am_o16, am_o17, am_o18, am_o19, am_o20, am_o21, am_o22, am_o23, am_o24, am_o25, am_o26, am_o27, Nat.reduceAdd, Nat.reduceLeDiff, Nat.reduceLT, Nat.zero_le, qtm_slen, qtm_sch, am_pf_c]
  refine ⟨by omega, by omega, c_J0_checkIndex (by omega) (nI_pos (by omega)) ((nI_ltI (by omega) (by omega)).mpr hj) ?_⟩
  simp only [qtm_fco, qtm_fva, qtm_fln, qtm_fbl, qtm_callF, qtm_nret, qtm_gq, am_pf_c, am_pu_c, hu, am_u100 hu, Nat.add_sub_cancel_left, nI_clamp (show j < 2 ^ 31 by omega), (hc _ hu j hj).1, Int32.reduceLT, Int32.reduceLE, eq_self, am_10, am_00, am_01, am_11, true_implies, false_implies, not_true_eq_false, not_false_eq_true, or_true, true_or, and_self, implies_true, qtm_push, qtm_iload, qtm_lload, qtm_aload, qtm_istore, qtm_lstore, qtm_astore, qtm_iinc, qtm_un, qtm_bin, qtm_div, qtm_lbin, qtm_ldiv, qtm_lsh, qtm_lcmp, qtm_i2l, qtm_l2i, qtm_if, qtm_cmp, qtm_getf, qtm_puti, qtm_putz, qtm_putl, qtm_iald, qtm_iast, qtm_zald, qtm_zast, qtm_aald, qtm_tsw, qtm_callV, qtm_callS, qtm_acp, qtm_alen, qtm_max, qtm_min, qtm_dup, qtm_pop, qtm_iret, qtm_zret, qtm_lret, qtm_aret, qtm_vret, qtm_swn, qtm_swc, am_oi_c, am_ol_c, am_or_r, am_or_f, am_pi_c, am_pj_c, am_pr_c, am_pa_r, am_pa_f, am_yo_c, am_ya_c, am_fv_i, am_fv_l, am_fv_r, am_fi_c, am_fl_c, am_rv_c, am_n2_s, am_n2_n, am_pv_0, am_pv_s, am_cs_n, am_cs_c, Value.category, List.getElem?_cons_zero, List.getElem?_cons_succ, List.set_cons_zero, List.set_cons_succ, List.length_cons, List.length_nil, List.drop_succ_cons, List.drop_zero, List.take_succ_cons, List.take_zero, List.take_nil, List.reverse_cons, List.reverse_nil, List.nil_append, List.cons_append, List.append_nil, true_and, and_true, Int.reduceAdd, am_o0, am_o1, am_o2, am_o3, am_o4, am_o5, am_o6, am_o7, am_o8, am_o9, am_o10, am_o11, am_o12, am_o13, am_o14, am_o15, am_o16, am_o17, am_o18, am_o19, am_o20, am_o21, am_o22, am_o23, am_o24, am_o25, am_o26, am_o27, Nat.reduceAdd, Nat.reduceLeDiff, Nat.reduceLT, Nat.zero_le, qtm_slen, qtm_sch, am_pf_c]
  exact ⟨by omega, vp_in_nI hj (by omega), (hc _ hu j hj).2, hK⟩
set_option maxHeartbeats 4000000 in
set_option maxRecDepth 100000 in
theorem c_J0_charAt {u : UInt32} {j : Nat} (hd : 4 ≤ d) (hu : u.toNat < 12) (hj : j < am_slen.getD u.toNat 0) (hK : K [.int ((am_sbyt.getD u.toNat []).getD j 0)] Y h) : am_Met d 0 0 YJ0_charAt [.float u, .int (nI j)] Y h K := by
  refine am_start (L := [.float u, .int (nI j)]) (by decide +kernel) rfl (by simp [am_ents, Value.category]) fun X F hr hR _ => ?_
  refine a_aload_n (i := 0) F dJ0_charAt_5068e_0 rfl (a_callF F my_J0_isLatin1 rfl mi_J0_isLatin1 ml_J0_492 hR dJ0_charAt_5068e_1 (a_if_eq (tgt := 16) F dJ0_charAt_5068e_4 (by decide) (fun (L S : List Value) (Y : List am_C) (h : am_H) (q : False) => q.elim) (a_aload_n (i := 0) F dJ0_charAt_5068e_7 rfl (a_fva F dJ0_charAt_5068e_8 (a_iload_n (i := 1) F dJ0_charAt_5068e_11 rfl (a_callS F my_J1_charAt ms_J1_charAt ml_J0_495 hR dJ0_charAt_5068e_12 (a_nret F hr dJ0_charAt_5068e_15))))))) _ _ _ _ ?_
  have hc : ∀ k : Nat, k < 12 → ∀ j : Nat, j < am_slen.getD k 0 → narrow .char (.int ((am_sbyt.getD k []).getD j 0)) = .int ((am_sbyt.getD k []).getD j 0) := by decide +kernel
  simp only [qtm_fco, qtm_fva, qtm_fln, qtm_fbl, qtm_callF, qtm_nret, qtm_gq, am_pf_c, am_pu_c, hu, Int32.reduceLT, Int32.reduceLE, eq_self, am_10, am_00, am_01, am_11, true_implies, false_implies, not_true_eq_false, not_false_eq_true, or_true, true_or, and_self, implies_true, qtm_push, qtm_iload, qtm_lload, qtm_aload, qtm_istore, qtm_lstore, qtm_astore, qtm_iinc, qtm_un, qtm_bin, qtm_div, qtm_lbin, qtm_ldiv, qtm_lsh, qtm_lcmp, qtm_i2l, qtm_l2i, qtm_if, qtm_cmp, qtm_getf, qtm_puti, qtm_putz, qtm_putl, qtm_iald, qtm_iast, qtm_zald, qtm_zast, qtm_aald, qtm_tsw, qtm_callV, qtm_callS, qtm_acp, qtm_alen, qtm_max, qtm_min, qtm_dup, qtm_pop, qtm_iret, qtm_zret, qtm_lret, qtm_aret, qtm_vret, qtm_swn, qtm_swc, am_oi_c, am_ol_c, am_or_r, am_or_f, am_pi_c, am_pj_c, am_pr_c, am_pa_r, am_pa_f, am_yo_c, am_ya_c, am_fv_i, am_fv_l, am_fv_r, am_fi_c, am_fl_c, am_rv_c, am_n2_s, am_n2_n, am_pv_0, am_pv_s, am_cs_n, am_cs_c, Value.category, List.getElem?_cons_zero, List.getElem?_cons_succ, List.set_cons_zero, List.set_cons_succ, List.length_cons, List.length_nil, List.drop_succ_cons, List.drop_zero, List.take_succ_cons, List.take_zero, List.take_nil, List.reverse_cons, List.reverse_nil, List.nil_append, List.cons_append, List.append_nil, true_and, and_true, Int.reduceAdd, am_o0, am_o1, am_o2, am_o3, am_o4, am_o5, am_o6, am_o7, am_o8, am_o9, am_o10, am_o11, am_o12, am_o13, am_o14, am_o15, am_o16, am_o17, am_o18, am_o19, am_o20, am_o21, am_o22, am_o23, am_o24, am_o25, am_o26, am_o27, Nat.reduceAdd, Nat.reduceLeDiff, Nat.reduceLT, Nat.zero_le, qtm_slen, qtm_sch, am_pf_c]
  refine ⟨by omega, c_J0_isLatin1 hu ?_⟩
  simp only [qtm_fco, qtm_fva, qtm_fln, qtm_fbl, qtm_callF, qtm_nret, qtm_gq, am_pf_c, am_pu_c, hu, Int32.reduceLT, Int32.reduceLE, eq_self, am_10, am_00, am_01, am_11, true_implies, false_implies, not_true_eq_false, not_false_eq_true, or_true, true_or, and_self, implies_true, qtm_push, qtm_iload, qtm_lload, qtm_aload, qtm_istore, qtm_lstore, qtm_astore, qtm_iinc, qtm_un, qtm_bin, qtm_div, qtm_lbin, qtm_ldiv, qtm_lsh, qtm_lcmp, qtm_i2l, qtm_l2i, qtm_if, qtm_cmp, qtm_getf, qtm_puti, qtm_putz, qtm_putl, qtm_iald, qtm_iast, qtm_zald, qtm_zast, qtm_aald, qtm_tsw, qtm_callV, qtm_callS, qtm_acp, qtm_alen, qtm_max, qtm_min, qtm_dup, qtm_pop, qtm_iret, qtm_zret, qtm_lret, qtm_aret, qtm_vret, qtm_swn, qtm_swc, am_oi_c, am_ol_c, am_or_r, am_or_f, am_pi_c, am_pj_c, am_pr_c, am_pa_r, am_pa_f, am_yo_c, am_ya_c, am_fv_i, am_fv_l, am_fv_r, am_fi_c, am_fl_c, am_rv_c, am_n2_s, am_n2_n, am_pv_0, am_pv_s, am_cs_n, am_cs_c, Value.category, List.getElem?_cons_zero, List.getElem?_cons_succ, List.set_cons_zero, List.set_cons_succ, List.length_cons, List.length_nil, List.drop_succ_cons, List.drop_zero, List.take_succ_cons, List.take_zero, List.take_nil, List.reverse_cons, List.reverse_nil, List.nil_append, List.cons_append, List.append_nil, true_and, and_true, Int.reduceAdd, am_o0, am_o1, am_o2, am_o3, am_o4, am_o5, am_o6, am_o7, am_o8, am_o9, am_o10, am_o11, am_o12, am_o13, am_o14, am_o15, am_o16, am_o17, am_o18, am_o19, am_o20, am_o21, am_o22, am_o23, am_o24, am_o25, am_o26, am_o27, Nat.reduceAdd, Nat.reduceLeDiff, Nat.reduceLT, Nat.zero_le, qtm_slen, qtm_sch, am_pf_c]
  refine ⟨by omega, c_J1_charAt (by omega) hu hj ?_⟩
  simp only [qtm_fco, qtm_fva, qtm_fln, qtm_fbl, qtm_callF, qtm_nret, qtm_gq, am_pf_c, am_pu_c, Int32.reduceLT, Int32.reduceLE, eq_self, am_10, am_00, am_01, am_11, true_implies, false_implies, not_true_eq_false, not_false_eq_true, or_true, true_or, and_self, implies_true, qtm_push, qtm_iload, qtm_lload, qtm_aload, qtm_istore, qtm_lstore, qtm_astore, qtm_iinc, qtm_un, qtm_bin, qtm_div, qtm_lbin, qtm_ldiv, qtm_lsh, qtm_lcmp, qtm_i2l, qtm_l2i, qtm_if, qtm_cmp, qtm_getf, qtm_puti, qtm_putz, qtm_putl, qtm_iald, qtm_iast, qtm_zald, qtm_zast, qtm_aald, qtm_tsw, qtm_callV, qtm_callS, qtm_acp, qtm_alen, qtm_max, qtm_min, qtm_dup, qtm_pop, qtm_iret, qtm_zret, qtm_lret, qtm_aret, qtm_vret, qtm_swn, qtm_swc, am_oi_c, am_ol_c, am_or_r, am_or_f, am_pi_c, am_pj_c, am_pr_c, am_pa_r, am_pa_f, am_yo_c, am_ya_c, am_fv_i, am_fv_l, am_fv_r, am_fi_c, am_fl_c, am_rv_c, am_n2_s, am_n2_n, am_pv_0, am_pv_s, am_cs_n, am_cs_c, Value.category, List.getElem?_cons_zero, List.getElem?_cons_succ, List.set_cons_zero, List.set_cons_succ, List.length_cons, List.length_nil, List.drop_succ_cons, List.drop_zero, List.take_succ_cons, List.take_zero, List.take_nil, List.reverse_cons, List.reverse_nil, List.nil_append, List.cons_append, List.append_nil, true_and, and_true, Int.reduceAdd, am_o0, am_o1, am_o2, am_o3, am_o4, am_o5, am_o6, am_o7, am_o8, am_o9, am_o10, am_o11, am_o12, am_o13, am_o14, am_o15, am_o16, am_o17, am_o18, am_o19, am_o20, am_o21, am_o22, am_o23, am_o24, am_o25, am_o26, am_o27, Nat.reduceAdd, Nat.reduceLeDiff, Nat.reduceLT, Nat.zero_le, qtm_slen, qtm_sch, am_pf_c]
  exact ⟨hc _ hu j hj, hK⟩
end CON
section SND
variable {X : am_X} {d : Nat} {own : String} {cc : ByteArray} {nL : Nat} {Q : State → Prop} {n1 n2 pc : Nat} {Qn : am_P}
theorem a_slen {idx : Nat} (F : am_Fx X d own cc nL) (hw : Cond.methodLink own idx yJ0_length_8abf5 ∈ am_ws) (hR : am_Rc X n1 n2) (hd : decode cc pc = .ok (.invokevirtual idx, 3)) (kk : ∀ L S Y h, Qn L S Y h → am_At X Q nL n1 n2 (pc + 3) L S Y h) : ∀ L S Y h, tm_slen d Qn L S Y h → am_At X Q nL n1 n2 pc L S Y h := by
  intro L S Y h hq
  obtain ⟨u, S1, rfl, hu, h5, hcs, hq1⟩ := am_pf_of hq
  refine a_callF (y := YJ0_length) F my_J0_length rfl mi_J0_length hw hR hd kk _ _ _ _ ?_
  simp only [qtm_fco, qtm_fva, qtm_fln, qtm_fbl, qtm_callF, qtm_nret, qtm_gq, am_pf_c, am_pu_c, hu, qtm_push, qtm_iload, qtm_lload, qtm_aload, qtm_istore, qtm_lstore, qtm_astore, qtm_iinc, qtm_un, qtm_bin, qtm_div, qtm_lbin, qtm_ldiv, qtm_lsh, qtm_lcmp, qtm_i2l, qtm_l2i, qtm_if, qtm_cmp, qtm_getf, qtm_puti, qtm_putz, qtm_putl, qtm_iald, qtm_iast, qtm_zald, qtm_zast, qtm_aald, qtm_tsw, qtm_callV, qtm_callS, qtm_acp, qtm_alen, qtm_max, qtm_min, qtm_dup, qtm_pop, qtm_iret, qtm_zret, qtm_lret, qtm_aret, qtm_vret, qtm_swn, qtm_swc, am_oi_c, am_ol_c, am_or_r, am_or_f, am_pi_c, am_pj_c, am_pr_c, am_pa_r, am_pa_f, am_yo_c, am_ya_c, am_fv_i, am_fv_l, am_fv_r, am_fi_c, am_fl_c, am_rv_c, am_n2_s, am_n2_n, am_pv_0, am_pv_s, am_cs_n, am_cs_c, Value.category, List.getElem?_cons_zero, List.getElem?_cons_succ, List.set_cons_zero, List.set_cons_succ, List.length_cons, List.length_nil, List.drop_succ_cons, List.drop_zero, List.take_succ_cons, List.take_zero, List.take_nil, List.reverse_cons, List.reverse_nil, List.nil_append, List.cons_append, List.append_nil, true_and, and_true, Int.reduceAdd, am_o0, am_o1, am_o2, am_o3, am_o4, am_o5, am_o6, am_o7, am_o8, am_o9, am_o10, am_o11, am_o12, am_o13, am_o14, am_o15, am_o16, am_o17, am_o18, am_o19, am_o20, am_o21, am_o22, am_o23, am_o24, am_o25, am_o26, am_o27, Nat.reduceAdd, Nat.reduceLeDiff, Nat.reduceLT, Nat.zero_le, qtm_slen, qtm_sch, am_pf_c]
  exact ⟨by omega, hcs, c_J0_length (by omega) hu hq1⟩
theorem a_sch {idx : Nat} (F : am_Fx X d own cc nL) (hw : Cond.methodLink own idx yJ0_charAt_5068e ∈ am_ws) (hR : am_Rc X n1 n2) (hd : decode cc pc = .ok (.invokevirtual idx, 3)) (kk : ∀ L S Y h, Qn L S Y h → am_At X Q nL n1 n2 (pc + 3) L S Y h) : ∀ L S Y h, tm_sch d Qn L S Y h → am_At X Q nL n1 n2 pc L S Y h := by
  intro L S Y h hq
  obtain ⟨j, S0, rfl, hq0⟩ := am_pi_of hq
  obtain ⟨u, S1, rfl, hu, h5, hcs, hin, hq1⟩ := am_pf_of hq0
  have hj : j.toNatClampNeg < am_slen.getD u.toNat 0 := Nat.not_le.mp fun q => hin (Or.inr q)
  have ej : nI j.toNatClampNeg = j := (am_in_nI hin).symm
  refine a_callF (y := YJ0_charAt) F my_J0_charAt rfl mi_J0_charAt hw hR hd kk _ _ _ _ ?_
  simp only [qtm_fco, qtm_fva, qtm_fln, qtm_fbl, qtm_callF, qtm_nret, qtm_gq, am_pf_c, am_pu_c, hu, qtm_push, qtm_iload, qtm_lload, qtm_aload, qtm_istore, qtm_lstore, qtm_astore, qtm_iinc, qtm_un, qtm_bin, qtm_div, qtm_lbin, qtm_ldiv, qtm_lsh, qtm_lcmp, qtm_i2l, qtm_l2i, qtm_if, qtm_cmp, qtm_getf, qtm_puti, qtm_putz, qtm_putl, qtm_iald, qtm_iast, qtm_zald, qtm_zast, qtm_aald, qtm_tsw, qtm_callV, qtm_callS, qtm_acp, qtm_alen, qtm_max, qtm_min, qtm_dup, qtm_pop, qtm_iret, qtm_zret, qtm_lret, qtm_aret, qtm_vret, qtm_swn, qtm_swc, am_oi_c, am_ol_c, am_or_r, am_or_f, am_pi_c, am_pj_c, am_pr_c, am_pa_r, am_pa_f, am_yo_c, am_ya_c, am_fv_i, am_fv_l, am_fv_r, am_fi_c, am_fl_c, am_rv_c, am_n2_s, am_n2_n, am_pv_0, am_pv_s, am_cs_n, am_cs_c, Value.category, List.getElem?_cons_zero, List.getElem?_cons_succ, List.set_cons_zero, List.set_cons_succ, List.length_cons, List.length_nil, List.drop_succ_cons, List.drop_zero, List.take_succ_cons, List.take_zero, List.take_nil, List.reverse_cons, List.reverse_nil, List.nil_append, List.cons_append, List.append_nil, true_and, and_true, Int.reduceAdd, am_o0, am_o1, am_o2, am_o3, am_o4, am_o5, am_o6, am_o7, am_o8, am_o9, am_o10, am_o11, am_o12, am_o13, am_o14, am_o15, am_o16, am_o17, am_o18, am_o19, am_o20, am_o21, am_o22, am_o23, am_o24, am_o25, am_o26, am_o27, Nat.reduceAdd, Nat.reduceLeDiff, Nat.reduceLT, Nat.zero_le, qtm_slen, qtm_sch, am_pf_c]
  refine ⟨by omega, hcs, ?_⟩
  rw [← ej]
  exact c_J0_charAt (by omega) hu hj hq1
end SND
