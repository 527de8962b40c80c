/-! the reference: its cells -/
def am_mc : List Value := [.int 0, .ref 50, .ref 51, .int 0, .int 0, .ref 52, .ref 53, .ref 54, .int 0, .ref 55, .int 0, .int 0, .int 0, .ref 56, .ref 57, .int 0, .int 0, .int 0, .int 0, .int 0, .int 0, .int 0, .int 0, .int 0, .int 0, .int 0, .int 0, .long 0, .int 0, .int 0, .int 0, .ref 58, .ref 59, .ref 60, .int 0, .int 0, .ref 61, .ref 62, .int 0, .int 0, .int 0, .int 0, .ref 63, .ref 64, .ref 65, .ref 66]
theorem mc_0 : am_mc[0]? = some (.int 0) := rfl
theorem mc_1 : am_mc[1]? = some (.ref 50) := rfl
theorem mc_2 : am_mc[2]? = some (.ref 51) := rfl
theorem mc_3 : am_mc[3]? = some (.int 0) := rfl
theorem mc_4 : am_mc[4]? = some (.int 0) := rfl
theorem mc_5 : am_mc[5]? = some (.ref 52) := rfl
theorem mc_6 : am_mc[6]? = some (.ref 53) := rfl
theorem mc_7 : am_mc[7]? = some (.ref 54) := rfl
theorem mc_8 : am_mc[8]? = some (.int 0) := rfl
theorem mc_9 : am_mc[9]? = some (.ref 55) := rfl
theorem mc_10 : am_mc[10]? = some (.int 0) := rfl
theorem mc_11 : am_mc[11]? = some (.int 0) := rfl
theorem mc_12 : am_mc[12]? = some (.int 0) := rfl
theorem mc_13 : am_mc[13]? = some (.ref 56) := rfl
theorem mc_14 : am_mc[14]? = some (.ref 57) := rfl
theorem mc_15 : am_mc[15]? = some (.int 0) := rfl
theorem mc_16 : am_mc[16]? = some (.int 0) := rfl
theorem mc_17 : am_mc[17]? = some (.int 0) := rfl
theorem mc_18 : am_mc[18]? = some (.int 0) := rfl
theorem mc_19 : am_mc[19]? = some (.int 0) := rfl
theorem mc_20 : am_mc[20]? = some (.int 0) := rfl
theorem mc_21 : am_mc[21]? = some (.int 0) := rfl
theorem mc_22 : am_mc[22]? = some (.int 0) := rfl
theorem mc_23 : am_mc[23]? = some (.int 0) := rfl
theorem mc_24 : am_mc[24]? = some (.int 0) := rfl
theorem mc_25 : am_mc[25]? = some (.int 0) := rfl
theorem mc_26 : am_mc[26]? = some (.int 0) := rfl
theorem mc_27 : am_mc[27]? = some (.long 0) := rfl
theorem mc_28 : am_mc[28]? = some (.int 0) := rfl
theorem mc_29 : am_mc[29]? = some (.int 0) := rfl
theorem mc_30 : am_mc[30]? = some (.int 0) := rfl
theorem mc_31 : am_mc[31]? = some (.ref 58) := rfl
theorem mc_32 : am_mc[32]? = some (.ref 59) := rfl
theorem mc_33 : am_mc[33]? = some (.ref 60) := rfl
theorem mc_34 : am_mc[34]? = some (.int 0) := rfl
theorem mc_35 : am_mc[35]? = some (.int 0) := rfl
theorem mc_36 : am_mc[36]? = some (.ref 61) := rfl
theorem mc_37 : am_mc[37]? = some (.ref 62) := rfl
theorem mc_38 : am_mc[38]? = some (.int 0) := rfl
theorem mc_39 : am_mc[39]? = some (.int 0) := rfl
theorem mc_40 : am_mc[40]? = some (.int 0) := rfl
theorem mc_41 : am_mc[41]? = some (.int 0) := rfl
theorem mc_42 : am_mc[42]? = some (.ref 63) := rfl
theorem mc_43 : am_mc[43]? = some (.ref 64) := rfl
theorem mc_44 : am_mc[44]? = some (.ref 65) := rfl
theorem mc_45 : am_mc[45]? = some (.ref 66) := rfl
def am_mod (Y : List am_C) : Prop := Y[49]? = some (2, 6, am_mc) ∧ Y[50]? = some (0, 960, []) ∧ Y[51]? = some (0, 6, []) ∧ Y[52]? = some (0, 960, []) ∧ Y[53]? = some (0, 960, []) ∧ Y[54]? = some (0, 18, []) ∧ Y[55]? = some (0, 160, []) ∧ Y[56]? = some (0, 32, []) ∧ Y[57]? = some (0, 30, []) ∧ Y[58]? = some (0, 160, []) ∧ Y[59]? = some (0, 64, []) ∧ Y[60]? = some (0, 5, []) ∧ Y[61]? = some (0, 30, []) ∧ Y[62]? = some (0, 32, []) ∧ Y[63]? = some (1, 4, []) ∧ Y[64]? = some (0, 4, []) ∧ Y[65]? = some (0, 4, []) ∧ Y[66]? = some (0, 160, [])
/-- the reference holds the walk w -/
def am_RM (h : am_H) (w : am_H) : Prop := (∀ p, p < 5 → h 57 (6 * p) = w 3 p ∧ h 57 (6 * p + 1) = w 5 p ∧ h 57 (6 * p + 2) = w 6 p ∧ h 57 (6 * p + 3) = w 7 p ∧ h 57 (6 * p + 4) = w 2 p ∧ h 57 (6 * p + 5) = w 4 p) ∧ (∀ i, i < 32 → h 56 i = w 1 i) ∧ h 49 15 = w 0 8 ∧ h 49 11 = w 0 9 ∧ h 49 12 = w 0 10 ∧ h 49 4 = w 0 11
theorem am_m6 (p : Nat) : (6 : Int32) * nI p = nI (6 * p) := pk_mul 6 p
theorem am_a2 (a : Nat) : nI a + 2 = nI (a + 2) := nI_add a 2
theorem am_a3 (a : Nat) : nI a + 3 = nI (a + 3) := nI_add a 3
theorem am_a4 (a : Nat) : nI a + 4 = nI (a + 4) := nI_add a 4
theorem am_a5 (a : Nat) : nI a + 5 = nI (a + 5) := nI_add a 5
