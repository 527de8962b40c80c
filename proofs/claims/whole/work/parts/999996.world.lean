/-- what the tables and the Statement give at the law's entry -/
def am_fl1 : List Cond := flatC (Jvm.Cond.and given_1 narrow_1)
abbrev am_tm (i : Nat) : Term := .string RX0 (am_sidx.getD i 0)
theorem am_g_len : ∀ i : Nat, i < 12 → am_slen.getD i 0 < 2 ^ 31 := by decide +kernel
theorem am_g_ex : ∀ i : Nat, i < 12 → Cond.exactly (am_tm i) "java/lang/String" ∈ am_fl1 := by decide +kernel
theorem am_g_co : ∀ i : Nat, i < 12 → Cond.eq (.field (am_tm i) "java/lang/String" "coder" "B") (.int 0) ∈ am_fl1 := by decide +kernel
theorem am_g_ar : ∀ i : Nat, i < 12 → Cond.arrayOf (.field (am_tm i) "java/lang/String" "value" "[B") .byte ∈ am_fl1 := by decide +kernel
theorem am_g_le : ∀ i : Nat, i < 12 → Cond.eq (.length (.field (am_tm i) "java/lang/String" "value" "[B")) (.int (Int32.ofNat (am_slen.getD i 0))) ∈ am_fl1 := by decide +kernel
theorem am_g_el : ∀ i : Nat, i < 12 → ∀ j : Nat, j < am_slen.getD i 0 → Cond.eq (.elem (.field (am_tm i) "java/lang/String" "value" "[B") (.int (Int32.ofNat j))) (.int ((am_sbyt.getD i []).getD j 0)) ∈ am_fl1 := by decide +kernel
theorem am_g_ne : ∀ i : Nat, i < 12 → ∀ j : Nat, j < 12 → i ≠ j → (Cond.not (Cond.eq (am_tm i) (am_tm j)) ∈ am_fl1 ∨ Cond.not (Cond.eq (am_tm j) (am_tm i)) ∈ am_fl1) := by decide +kernel
theorem am_g_cs : Cond.eq (.static "java/lang/String" "COMPACT_STRINGS" "Z") (.int 1) ∈ am_fl1 := by decide +kernel
theorem am_g_sf : Cond.isRef (.static "jdk/internal/util/Preconditions" "SIOOBE_FORMATTER" "Ljava/util/function/BiFunction;") ∈ am_fl1 := by decide +kernel
theorem am_t_sr : ∀ i : Nat, i < 12 → Cond.stringRef RX0 (am_sidx.getD i 0) (am_stx.getD i "") ∈ tables_1 := by decide +kernel
theorem am_t_nst : ∀ q ∈ am_nst, Cond.methodLinkNest q.1 q.2.1 q.2.2.1 q.2.2.2 ∈ tables_1 := by decide +kernel
theorem am_t_ot : Cond.arrayOver (.object RX1) ∈ tables_1 ∧ Cond.arrayOver (.object RX2) ∈ tables_1 ∧ Cond.laysStatic "java/lang/String" "COMPACT_STRINGS" "Z" ∈ tables_1 ∧ Cond.laysStatic "jdk/internal/util/Preconditions" "SIOOBE_FORMATTER" "Ljava/util/function/BiFunction;" ∈ tables_1 ∧ Cond.initialized "java/lang/String" ∈ tables_1 ∧ Cond.initialized "jdk/internal/util/Preconditions" ∈ tables_1 := by decide +kernel
theorem am_u12 {f : Nat → Nat} {b : Nat} {g : Nat → Nat} : ∀ k, k < 12 → (if k = 12 then b else if k < 100 then f k else g (k - 100)) = f k := fun k hk => by rw [if_neg (by omega), if_pos (by omega)]
theorem am_entry {s : State} {b : Nat} (hts : ∀ w ∈ lw_tbl, w.before #[Value.ref b] s = true) (hgv : (Jvm.Cond.and given_1 narrow_1).before #[Value.ref b] s = true) : ∃ G : am_G, am_E G s.heap.size s s.heap ∧ G.2.2 12 = b := by
  have hs : ∀ c ∈ am_fl1, c.before #[Value.ref b] s = true := flat_of_before _ hgv
  have htb : ∀ w ∈ tables_1, w.before #[Value.ref b] s = true := fun w hw => hts w (List.mem_append_right _ hw)
  have ht : ∀ w ∈ am_ws, w.before #[Value.ref b] s = true := fun w hw => hts w (List.mem_filter.mp hw).1
  have hA : ∀ a : Nat, a < s.heap.size → ¬ am_A s.heap.size a := fun a ha q => by unfold am_A at q; omega
  obtain ⟨adK, adV, hS, hKe⟩ := vk_Sof (N := 12) (tm := am_tm) (len := am_slen) (byt := am_sbyt) (A := am_A s.heap.size) am_g_len (fun i hi => hs _ (am_g_ex i hi)) (fun i hi => hs _ (am_g_co i hi)) (fun i hi => hs _ (am_g_ar i hi)) (fun i hi => hs _ (am_g_le i hi)) (fun i hi j hj => hs _ (am_g_el i hi j hj)) (fun i j hi hj hij => (am_g_ne i hi j hj hij).imp (hs _) (hs _)) hA
  obtain ⟨c0, i0, k0⟩ := u_known (C := RX0) (T := TX0) (N := 9) (n := 9) ht amX0 (ht _ ki_X0)
  obtain ⟨c1, i1, k1⟩ := u_known (C := RX1) (T := TX1) (N := 3) (n := 3) ht amX1 (ht _ ki_X1)
  obtain ⟨c2, i2, k2⟩ := u_known (C := RX2) (T := TX2) (N := 3) (n := 3) ht amX2 (ht _ ki_X2)
  obtain ⟨c3, i3, k3⟩ := u_known (C := RX3) (T := TX3) (N := 2) (n := 2) ht amX3 (ht _ ki_X3)
  obtain ⟨c4, i4, k4⟩ := u_known (C := RX4) (T := TX4) (N := 12) (n := 12) ht amX4 (ht _ ki_X4)
  obtain ⟨c5, i5, k5⟩ := u_known (C := RX5) (T := TX5) (N := 11) (n := 11) ht amX5 (ht _ kiL_X5)
  obtain ⟨c6, i6, k6⟩ := u_known (C := RX6) (T := TX6) (N := 46) (n := 46) ht amX6 (ht _ kiL_X6)
  obtain ⟨aI, kI, mI, x1, x2, x3⟩ := Cond.arrayClass_spec (ht _ am_wa_int)
  obtain ⟨aZ, kZ, mZ, z1, z2, z3⟩ := Cond.arrayClass_spec (ht _ am_wa_bool)
  obtain ⟨mS, aS, kS, s1, s2, s3, s4, s5⟩ := Cond.arrayOver_spec (htb _ am_t_ot.1)
  obtain ⟨mT, aT, kT, t1, t2, t3, t4, t5⟩ := Cond.arrayOver_spec (htb _ am_t_ot.2.1)
  have ofI : ArrOfT s aI .int ∧ va_RA s aI .int := ⟨fun N z => ⟨fun k h => (by cases h), kI, x2, mI, x3⟩, x1⟩
  have ofZ : ArrOfT s aZ .boolean ∧ va_RA s aZ .boolean := ⟨fun N z => ⟨fun k h => (by cases h), kZ, z2, mZ, z3⟩, z1⟩
  have ofS : ArrOfT s aS (.object RX1) ∧ va_RA s aS (.object RX1) := ⟨fun N z => ⟨fun k h => (by cases h), kS, s3, mS, s4⟩, ⟨kS, mS, s3, s4, s1, s5⟩⟩
  have ofT : ArrOfT s aT (.object RX2) ∧ va_RA s aT (.object RX2) := ⟨fun N z => ⟨fun k h => (by cases h), kT, t3, mT, t4⟩, ⟨kT, mT, t3, t4, t1, t5⟩⟩
  refine ⟨((fun c => match c with | 0 => c0 | 1 => c1 | 2 => c2 | 3 => c3 | 4 => c4 | 5 => c5 | _ => c6, fun c => match c with | 0 => i0 | 1 => i1 | 2 => i2 | 3 => i3 | 4 => i4 | 5 => i5 | _ => i6), (fun k => match k with | 0 => aI | 1 => aZ | 3 => aS | _ => aT), fun k => if k = 12 then b else if k < 100 then adK k else adV (k - 100)), ⟨⟨fun c q hq => ?_, fun k q hq => ?_⟩, fun q hq => va_Nw.of rfl (htb _ (am_t_nst q hq)), ⟨⟨fun i hi => ?_, fun i j hi hj e => ?_⟩, va_AO.of (htb _ am_t_ot.1), va_AO.of (htb _ am_t_ot.2.1)⟩, va_Zof (htb _ am_t_ot.2.2.1) (htb _ am_t_ot.2.2.2.2.1) (va_eqt (hs _ am_g_cs)) hA, va_Zqof (htb _ am_t_ot.2.2.2.1) (htb _ am_t_ot.2.2.2.2.2) (hs _ am_g_sf) hA, fun k hk => ?_⟩, rfl⟩
  · match c, hq with
    | 0, hq => cases hq; exact k0
    | 1, hq => cases hq; exact k1
    | 2, hq => cases hq; exact k2
    | 3, hq => cases hq; exact k3
    | 4, hq => cases hq; exact k4
    | 5, hq => cases hq; exact k5
    | 6, hq => cases hq; exact k6
    | c + 7, hq => cases hq
  · match k, hq with
    | 0, hq => cases hq; exact ofI
    | 1, hq => cases hq; exact ofZ
    | 2, hq => cases hq; exact ofI
    | 3, hq => cases hq; exact ofS
    | 4, hq => cases hq; exact ofT
    | k + 5, hq => cases hq
  · show va_O _ (if i = 12 then b else if i < 100 then adK i else adV (i - 100)) _ _ _ ∧ va_OF _ _ _ _ (if i = 12 then b else if i < 100 then adK i else adV (i - 100)) _ _ _ ∧ va_OF _ _ _ (.ref (if 100 + i = 12 then b else if 100 + i < 100 then adK (100 + i) else adV (100 + i - 100))) (if i = 12 then b else if i < 100 then adK i else adV (i - 100)) _ _ _ ∧ va_T _ (if 100 + i = 12 then b else if 100 + i < 100 then adK (100 + i) else adV (100 + i - 100)) _ _ _ _ _
    rw [am_u12 i hi, if_neg (show ¬ 100 + i = 12 by omega), if_neg (show ¬ 100 + i < 100 by omega), Nat.add_sub_cancel_left]
    exact hS.1 i hi
  · have e' : (if i = 12 then b else if i < 100 then adK i else adV (i - 100)) = (if j = 12 then b else if j < 100 then adK j else adV (j - 100)) := e
    rw [am_u12 i hi, am_u12 j hj] at e'
    exact hS.2 i j hi hj e'
  · show vk_R RX0 (am_sidx.getD k 0) (am_stx.getD k "") (if k = 12 then b else if k < 100 then adK k else adV (k - 100)) s
    rw [am_u12 k hk]
    exact vk_R.of (htb _ (am_t_sr k hk)) (hKe k hk)
