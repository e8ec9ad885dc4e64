variable {l : Launch} {E : Ev} {h : Hp}
/-! ===== the class: the library's three, the hall's readings ===== -/
def tzF (n : Nat) : Nat := if n.testBit 0 then 0 else if n.testBit 1 then 1 else if n.testBit 2 then 2 else if n.testBit 3 then 3 else if n.testBit 4 then 4 else 5
set_option maxHeartbeats 4000000 in
theorem sJ6_bitCount {n : Nat} (hn : n < 64) : Sp l E SHP 0 MJ6_bitCount [.int (nI n)] h (PD (some (.int (nI (pc n 6)))) h) := by
  refine Sp.of (by decide) (Nat.le_of_ble_eq_true rfl) (fun X C F => ?_)
  have C : Ok X E RJ6 cJ6_bitCount_0f7a4 1 := C
  have F : Fn X l E SHP 0 (some FieldType.int) (PD (some (.int (nI (pc n 6)))) h) := F
  show G X E SHP (0, 0) 0 [(0, .int (nI n))] [] h
  refine r_iload_n C dJ6_bitCount_0f7a4_0 rfl ?_
  refine r_iload_n C dJ6_bitCount_0f7a4_1 rfl ?_
  refine r_iconst (1) C dJ6_bitCount_0f7a4_2 rfl ?_
  refine r_iushr C dJ6_bitCount_0f7a4_3 ?_
  refine r_ldcw C dJ6_bitCount_0f7a4_4 tw_374 ?_
  refine r_iand C dJ6_bitCount_0f7a4_7 ?_
  refine r_isub C dJ6_bitCount_0f7a4_8 ?_
  refine r_istore_n C dJ6_bitCount_0f7a4_9 (by decide) rfl ?_
  refine r_iload_n C dJ6_bitCount_0f7a4_10 rfl ?_
  refine r_ldcw C dJ6_bitCount_0f7a4_11 tw_375 ?_
  refine r_iand C dJ6_bitCount_0f7a4_14 ?_
  refine r_iload_n C dJ6_bitCount_0f7a4_15 rfl ?_
  refine r_iconst (2) C dJ6_bitCount_0f7a4_16 rfl ?_
  refine r_iushr C dJ6_bitCount_0f7a4_17 ?_
  refine r_ldcw C dJ6_bitCount_0f7a4_18 tw_375 ?_
  refine r_iand C dJ6_bitCount_0f7a4_21 ?_
  refine r_iadd C dJ6_bitCount_0f7a4_22 ?_
  refine r_istore_n C dJ6_bitCount_0f7a4_23 (by decide) rfl ?_
  refine r_iload_n C dJ6_bitCount_0f7a4_24 rfl ?_
  refine r_iload_n C dJ6_bitCount_0f7a4_25 rfl ?_
  refine r_iconst (4) C dJ6_bitCount_0f7a4_26 rfl ?_
  refine r_iushr C dJ6_bitCount_0f7a4_27 ?_
  refine r_iadd C dJ6_bitCount_0f7a4_28 ?_
  refine r_ldcw C dJ6_bitCount_0f7a4_29 tw_376 ?_
  refine r_iand C dJ6_bitCount_0f7a4_32 ?_
  refine r_istore_n C dJ6_bitCount_0f7a4_33 (by decide) rfl ?_
  refine r_iload_n C dJ6_bitCount_0f7a4_34 rfl ?_
  refine r_iload_n C dJ6_bitCount_0f7a4_35 rfl ?_
  refine r_bipush (8) C dJ6_bitCount_0f7a4_36 rfl ?_
  refine r_iushr C dJ6_bitCount_0f7a4_38 ?_
  refine r_iadd C dJ6_bitCount_0f7a4_39 ?_
  refine r_istore_n C dJ6_bitCount_0f7a4_40 (by decide) rfl ?_
  refine r_iload_n C dJ6_bitCount_0f7a4_41 rfl ?_
  refine r_iload_n C dJ6_bitCount_0f7a4_42 rfl ?_
  refine r_bipush (16) C dJ6_bitCount_0f7a4_43 rfl ?_
  refine r_iushr C dJ6_bitCount_0f7a4_45 ?_
  refine r_iadd C dJ6_bitCount_0f7a4_46 ?_
  refine r_istore_n C dJ6_bitCount_0f7a4_47 (by decide) rfl ?_
  refine r_iload_n C dJ6_bitCount_0f7a4_48 rfl ?_
  refine r_bipush (63) C dJ6_bitCount_0f7a4_49 rfl ?_
  refine r_iand C dJ6_bitCount_0f7a4_51 ?_
  refine r_iret C F dJ6_bitCount_0f7a4_52 (pd_i ?_ rfl)
  clear C F
  clear F
  revert n
  decide +kernel
/-- the hall at o holds D -/
def CHl (h : Hp) (o : Nat) (D : HDt) : Prop := okD D ∧ h o 1 = nI (dU D) ∧ h o 2 = nI (dN D) ∧ h o 3 = nI (dL D) ∧ h o 4 = nI (dJ D) ∧ (∀ i, i < dL D → h (o + 1) i = nI (dB D i) ∧ h (o + 2) i = nI (dS D i) ∧ h (o + 3) i = nI (dT D i)) ∧ (∀ j, j < dJ D → h (o + 4) j = nI (dK D j) ∧ h (o + 5) j = nI (dF D j)) ∧ (∀ b, b < 3 → h (o + 6) b = nI (lset (fun i => dB D i == b) (dL D))) ∧ ∀ k, k < 4 → h (o + 7) k = nI (lset (fun i => (dT D i).testBit k) (dL D))
theorem inP_m1 : ∀ n, n < 7 → (nI n - 1).toInt = (n : Int) - 1 ∧ (nI n).toInt = (n : Int) := by decide +kernel
theorem inP_lt {x : Int32} {n : Nat} (hn : n < 7) : inP x 0 (nI n - 1) ↔ ¬ x < 0 ∧ ¬ nI n ≤ x := by
  obtain ⟨e1, e2⟩ := inP_m1 n hn
  show 0 ≤ x ∧ x ≤ nI n - 1 ↔ ¬ x < 0 ∧ ¬ nI n ≤ x
  rw [Int32.le_iff_toInt_le, Int32.le_iff_toInt_le, Int32.lt_iff_toInt_lt, Int32.le_iff_toInt_le, e1, e2]
  show (0 : Int) ≤ x.toInt ∧ x.toInt ≤ (n : Int) - 1 ↔ ¬ x.toInt < 0 ∧ ¬ (n : Int) ≤ x.toInt
  omega
set_option maxHeartbeats 4000000 in
theorem s0_everyone {o : Nat} {D : HDt} (hO : isH o) (hH : CHl h o D) : Sp l E SHP 0 M0_everyone [.ref (E.1 + o)] h (PD (some (.int (nI (2 ^ dL D - 1)))) h) := by
  refine Sp.of (by decide) (Nat.le_of_ble_eq_true rfl) (fun X C F => ?_)
  have C : Ok X E RX0 cX0_everyone 1 := C
  have F : Fn X l E SHP 0 (some FieldType.int) (PD (some (.int (nI (2 ^ dL D - 1)))) h) := F
  show G X E SHP (0, 0) 0 [(0, .ref (E.1 + o))] [] h
  obtain ⟨okd, e1, e2, e3, e4, eL, eJ, eB, eF⟩ := id hH
  obtain ⟨o1, o2, o3, o4, o5, o6⟩ := id okd
  refine r_iconst (1) C dX0_everyone_0 rfl ?_
  refine r_aload_n C dX0_everyone_1 rfl ?_
  refine r_getI C dX0_everyone_2 flX0_44 (hO.1) rfl ?_
  refine r_ishl C dX0_everyone_5 ?_
  refine r_iconst (1) C dX0_everyone_6 rfl ?_
  refine r_isub C dX0_everyone_7 ?_
  exact r_iret C F dX0_everyone_8 (pd_i (every_nI o1 e3) rfl)
set_option maxHeartbeats 4000000 in
theorem s0_hasLord {o : Nat} {D : HDt} (hO : isH o) (hH : CHl h o D) {x : Int32} : Sp l E SHP 0 M0_hasLord [.ref (E.1 + o), .int x] h (PD (some (.int (bz (inP x 0 (nI (dL D) - 1))))) h) := by
  refine Sp.of (by decide) (Nat.le_of_ble_eq_true rfl) (fun X C F => ?_)
  have C : Ok X E RX0 cX0_hasLord 2 := C
  have F : Fn X l E SHP 0 (some FieldType.boolean) (PD (some (.int (bz (inP x 0 (nI (dL D) - 1))))) h) := F
  show G X E SHP (0, 0) 0 [(0, .ref (E.1 + o)), (1, .int x)] [] h
  obtain ⟨okd, e1, e2, e3, e4, eL, eJ, eB, eF⟩ := id hH
  obtain ⟨o1, o2, o3, o4, o5, o6⟩ := id okd
  refine r_iload_n C dX0_hasLord_0 rfl ?_
  refine r_if_lt 16 C dX0_hasLord_1 (by decide) (fun c_1 => ?_) (fun c_1 => ?_)
  · refine r_iconst (0) C dX0_hasLord_16 rfl ?_
    exact r_zret C F dX0_hasLord_17 rfl (pd_i (bz_f (fun z => ((inP_lt (n := dL D) (by omega)).mp z).1 c_1)).symm rfl)
  · refine r_iload_n C dX0_hasLord_4 rfl ?_
    refine r_aload_n C dX0_hasLord_5 rfl ?_
    refine r_getI C dX0_hasLord_6 flX0_44 (hO.1) rfl ?_
    refine r_icmp_ge 16 C dX0_hasLord_9 (by decide) (fun c_9 => ?_) (fun c_9 => ?_)
    · refine r_iconst (0) C dX0_hasLord_16 rfl ?_
      exact r_zret C F dX0_hasLord_17 rfl (pd_i (bz_f (fun z => ((inP_lt (n := dL D) (by omega)).mp z).2 (e3 ▸ c_9))).symm rfl)
    · refine r_iconst (1) C dX0_hasLord_12 rfl ?_
      refine r_goto 17 C dX0_hasLord_13 (by decide) ?_
      exact r_zret C F dX0_hasLord_17 rfl (pd_i (bz_t ((inP_lt (n := dL D) (by omega)).mpr ⟨c_1, e3 ▸ c_9⟩)).symm rfl)
set_option maxHeartbeats 4000000 in
theorem s0_hasJoke {o : Nat} {D : HDt} (hO : isH o) (hH : CHl h o D) {x : Int32} : Sp l E SHP 0 M0_hasJoke [.ref (E.1 + o), .int x] h (PD (some (.int (bz (inP x 0 (nI (dJ D) - 1))))) h) := by
  refine Sp.of (by decide) (Nat.le_of_ble_eq_true rfl) (fun X C F => ?_)
  have C : Ok X E RX0 cX0_hasJoke 2 := C
  have F : Fn X l E SHP 0 (some FieldType.boolean) (PD (some (.int (bz (inP x 0 (nI (dJ D) - 1))))) h) := F
  show G X E SHP (0, 0) 0 [(0, .ref (E.1 + o)), (1, .int x)] [] h
  obtain ⟨okd, e1, e2, e3, e4, eL, eJ, eB, eF⟩ := id hH
  obtain ⟨o1, o2, o3, o4, o5, o6⟩ := id okd
  refine r_iload_n C dX0_hasJoke_0 rfl ?_
  refine r_if_lt 16 C dX0_hasJoke_1 (by decide) (fun c_1 => ?_) (fun c_1 => ?_)
  · refine r_iconst (0) C dX0_hasJoke_16 rfl ?_
    exact r_zret C F dX0_hasJoke_17 rfl (pd_i (bz_f (fun z => ((inP_lt (n := dJ D) (by omega)).mp z).1 c_1)).symm rfl)
  · refine r_iload_n C dX0_hasJoke_4 rfl ?_
    refine r_aload_n C dX0_hasJoke_5 rfl ?_
    refine r_getI C dX0_hasJoke_6 flX0_47 (hO.1) rfl ?_
    refine r_icmp_ge 16 C dX0_hasJoke_9 (by decide) (fun c_9 => ?_) (fun c_9 => ?_)
    · refine r_iconst (0) C dX0_hasJoke_16 rfl ?_
      exact r_zret C F dX0_hasJoke_17 rfl (pd_i (bz_f (fun z => ((inP_lt (n := dJ D) (by omega)).mp z).2 (e4 ▸ c_9))).symm rfl)
    · refine r_iconst (1) C dX0_hasJoke_12 rfl ?_
      refine r_goto 17 C dX0_hasJoke_13 (by decide) ?_
      exact r_zret C F dX0_hasJoke_17 rfl (pd_i (bz_t ((inP_lt (n := dJ D) (by omega)).mpr ⟨c_1, e4 ▸ c_9⟩)).symm rfl)
set_option maxHeartbeats 4000000 in
theorem s0_wornFun {o : Nat} {D : HDt} (hO : isH o) (hH : CHl h o D) {j t : Nat} (hj : j < dJ D) (ht : t < 2147483648) : Sp l E SHP 0 M0_wornFun [.ref (E.1 + o), .int (nI j), .int (nI t)] h (PD (some (.int (nI (dF D j / 2 ^ t)))) h) := by
  refine Sp.of (by decide) (Nat.le_of_ble_eq_true rfl) (fun X C F => ?_)
  have C : Ok X E RX0 cX0_wornFun 3 := C
  have F : Fn X l E SHP 0 (some FieldType.int) (PD (some (.int (nI (dF D j / 2 ^ t)))) h) := F
  show G X E SHP (0, 0) 0 [(0, .ref (E.1 + o)), (1, .int (nI j)), (2, .int (nI t))] [] h
  obtain ⟨okd, e1, e2, e3, e4, eL, eJ, eB, eF⟩ := id hH
  obtain ⟨o1, o2, o3, o4, o5, o6⟩ := id okd
  refine r_iload_n C dX0_wornFun_0 rfl ?_
  refine r_bipush (31) C dX0_wornFun_1 rfl ?_
  refine r_icmp_lt 10 C dX0_wornFun_3 (by decide) (fun c_3 => ?_) (fun c_3 => ?_)
  · rw [cLt (x := nI t) (c := 31) (i := t) (n := 31) (rfl) (rfl) (by omega) (by omega)] at c_3
    refine r_aload_n C dX0_wornFun_10 rfl ?_
    refine r_getR C dX0_wornFun_11 flX0_24 (hO.1) rfl ?_
    refine r_iload_n C dX0_wornFun_14 rfl ?_
    refine r_iald (j) C dX0_wornFun_15 (hO.2.2.2.2.2.1) (rfl) (by omega) (by decide) ?_
    rw [(eJ j hj).2]
    refine r_iload_n C dX0_wornFun_16 rfl ?_
    refine r_ishr C dX0_wornFun_17 ?_
    exact r_iret C F dX0_wornFun_18 (pd_i (shr_nI (by have := o6 j hj; omega) (by omega)) rfl)
  · rw [cLt (x := nI t) (c := 31) (i := t) (n := 31) (rfl) (rfl) (by omega) (by omega)] at c_3
    refine r_iconst (0) C dX0_wornFun_6 rfl ?_
    refine r_goto 18 C dX0_wornFun_7 (by decide) ?_
    exact r_iret C F dX0_wornFun_18 (pd_i (by rw [Nat.div_eq_of_lt (Nat.lt_of_lt_of_le (show dF D j < 2 ^ 31 by have := o6 j hj; omega) (Nat.pow_le_pow_right (by decide) (by omega)))]; rfl) rfl)
