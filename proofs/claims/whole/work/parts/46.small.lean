variable {l : Launch} {E : Ev} {h : Hp}
set_option maxHeartbeats 4000000 in
theorem s7_fault  : Sp l E SHP 0 M7_fault [.ref (E.1 + 0)] h (PD (some (.int (h 0 9))) h) := by
  refine Sp.of (by decide) (Nat.le_of_ble_eq_true rfl) (fun X C F => ?_)
  have C : Ok X E RX7 cX7_fault 1 := C
  have F : Fn X l E SHP 0 (some FieldType.int) (PD (some (.int (h 0 9))) h) := F
  show G X E SHP (0, 0) 0 [(0, .ref (E.1 + 0))] [] h
  refine r_aload_n C dX7_fault_0 rfl ?_
  refine r_getI C dX7_fault_1 flX7_65 (rfl) rfl ?_
  exact r_iret C F dX7_fault_4 (pd_i (rfl) (rfl))
set_option maxHeartbeats 4000000 in
theorem s7_isImage {x : Int32} : Sp l E SHP 0 M7_isImage [.int x] h (PD (some (.int (bz (inP x 0 1)))) h) := by
  refine Sp.of (by decide) (Nat.le_of_ble_eq_true rfl) (fun X C F => ?_)
  have C : Ok X E RX7 cX7_isImage 1 := C
  have F : Fn X l E SHP 0 (some FieldType.boolean) (PD (some (.int (bz (inP x 0 1)))) h) := F
  show G X E SHP (0, 0) 0 [(0, .int x)] [] h
  refine r_iload_n C dX7_isImage_0 rfl ?_
  refine r_if_lt 13 C dX7_isImage_1 (by decide) (fun c_1 => ?_) (fun c_1 => ?_)
  · refine r_iconst (0) C dX7_isImage_13 rfl ?_
    exact r_zret C F dX7_isImage_14 rfl (pd_i (bz_f (fun z => absurd c_1 (Int32.not_lt.mpr z.1))).symm rfl)
  · refine r_iload_n C dX7_isImage_4 rfl ?_
    refine r_iconst (2) C dX7_isImage_5 rfl ?_
    refine r_icmp_ge 13 C dX7_isImage_6 (by decide) (fun c_6 => ?_) (fun c_6 => ?_)
    · refine r_iconst (0) C dX7_isImage_13 rfl ?_
      exact r_zret C F dX7_isImage_14 rfl (pd_i (bz_f (fun z => ((inP_lt (n := 2) (by decide)).mp z).2 c_6)).symm rfl)
    · refine r_iconst (1) C dX7_isImage_9 rfl ?_
      refine r_goto 14 C dX7_isImage_10 (by decide) ?_
      exact r_zret C F dX7_isImage_14 rfl (pd_i (bz_t ((inP_lt (n := 2) (by decide)).mpr ⟨c_1, c_6⟩)).symm rfl)
set_option maxHeartbeats 4000000 in
theorem s7_seed {v : Int32} : Sp l E SHP 0 M7_seed [.ref (E.1 + 0), .int v] h (PD (some (.int (if v < 0 then -1000000002 else h 0 8))) (if v < 0 then h else up h 0 8 v)) := by
  refine Sp.of (by decide) (Nat.le_of_ble_eq_true rfl) (fun X C F => ?_)
  have C : Ok X E RX7 cX7_seed 3 := C
  have F : Fn X l E SHP 0 (some FieldType.int) (PD (some (.int (if v < 0 then -1000000002 else h 0 8))) (if v < 0 then h else up h 0 8 v)) := F
  show G X E SHP (0, 0) 0 [(0, .ref (E.1 + 0)), (1, .int v)] [] h
  refine r_iload_n C dX7_seed_0 rfl ?_
  refine r_if_ge 7 C dX7_seed_1 (by decide) (fun c_1 => ?_) (fun c_1 => ?_)
  · refine r_aload_n C dX7_seed_7 rfl ?_
    refine r_getI C dX7_seed_8 flX7_61 (rfl) rfl ?_
    refine r_istore_n C dX7_seed_11 (by decide) rfl ?_
    refine r_aload_n C dX7_seed_12 rfl ?_
    refine r_iload_n C dX7_seed_13 rfl ?_
    refine r_putI C dX7_seed_14 fwX7_61 (rfl) rfl ?_
    refine r_iload_n C dX7_seed_17 rfl ?_
    exact r_iret C F dX7_seed_18 (pd_i (if_neg (Int32.not_lt.mpr c_1)).symm (if_neg (Int32.not_lt.mpr c_1)).symm)
  · refine r_ldc C dX7_seed_4 tw_274 ?_
    exact r_iret C F dX7_seed_6 (pd_i (if_pos (Int32.not_le.mp c_1)).symm (if_pos (Int32.not_le.mp c_1)).symm)
