variable {l : Launch} {E : Ev} {h : Hp}
theorem maxC : prog_12_method_65_code = Lib.Math.max.code := by decide +kernel
theorem r_max {X : Cx} {S : List dsc} {pc : Nat} {ls : LSt} {own : String} {cc : ByteArray} {nL : Nat} {l0 : Launch} {d : Nat} {ret : Option FieldType} {Q0 : Pst} {idx : Nat} {x y : Int32} {rest : List Value} (C : Ok X E own cc nL) (F : Fn X l0 E S d ret Q0) (hd : decode cc pc = .ok (.invokestatic idx, 3)) (w : Cond.methodLink own idx yJ9_max_7cf53 ∈ lw_tbl) (hdd : 1 ≤ d) (hcat : (rest.map fun v => v.category).sum ≤ 8) (k : G X E S (0, 0) (pc + 3) ls (.int (if x < y then y else x) :: rest) h) : G X E S (0, 0) pc ls (.int y :: .int x :: rest) h := by
  obtain ⟨p, l, e, R, s, m, args, below, meth, c, Q⟩ := X
  obtain ⟨hx, hb, hml, hown, hts, hK, hSZ, hlk⟩ := C
  intro H locs lsA hP hS hl
  obtain ⟨hl0, hR, hr, hQ⟩ := F
  subst hl0; subst hR
  have hc := hts _ (gw tw_396 rfl)
  rw [maxC] at hc
  exact va_mmax hx hb hl.1.symm hown (hts _ (gw w rfl)) (hts _ (gw tw_395 rfl)) (hts _ (gw tw_11 rfl)) hc hdd (by show _ + 13 ≤ 40 * d; omega) (Nat.zero_le _) (Nat.zero_le _) hd (k H locs lsA hP hS hl)
set_option maxHeartbeats 4000000 in
theorem s0_holdOf {o : Nat} {D : HDt} (hO : isH o) (hH : CHl h o D) {i t : Nat} (hi : i < dL D) (ht : t ≤ 100000) : Sp l E SHP 1 M0_holdOf [.ref (E.1 + o), .int (nI i), .int (nI t)] h (PD (some (.int (nI (hdF D t i)))) h) := by
  refine Sp.of (by decide) (Nat.le_of_ble_eq_true rfl) (fun X C F => ?_)
  have C : Ok X E RX0 cX0_holdOf 3 := C
  have F : Fn X l E SHP 1 (some FieldType.int) (PD (some (.int (nI (hdF D t i)))) h) := F
  show G X E SHP (0, 0) 0 [(0, .ref (E.1 + o)), (1, .int (nI i)), (2, .int (nI t))] [] h
  obtain ⟨okd, e1, e2, e3, e4, eL, eJ, eB, eF⟩ := id hH
  obtain ⟨o1, o2, o3, o4, o5, o6⟩ := id okd
  refine r_iconst (1) C dX0_holdOf_0 rfl ?_
  refine r_aload_n C dX0_holdOf_1 rfl ?_
  refine r_getR C dX0_holdOf_2 flX0_15 (hO.1) rfl ?_
  refine r_iload_n C dX0_holdOf_5 rfl ?_
  refine r_iald (i) C dX0_holdOf_6 (hO.2.2.1) (rfl) (by omega) (by decide) ?_
  rw [(eL i hi).2.1]
  refine r_aload_n C dX0_holdOf_7 rfl ?_
  refine r_getI C dX0_holdOf_8 flX0_41 (hO.1) rfl ?_
  rw [e2]
  refine r_iload_n C dX0_holdOf_11 rfl ?_
  refine r_imul C dX0_holdOf_12 ?_
  refine r_isub C dX0_holdOf_13 ?_
  refine r_max C F dX0_holdOf_14 tw_394 (by decide) (Nat.le_of_ble_eq_true rfl) ?_
  refine r_iret C F dX0_holdOf_17 (pd_i ?_ rfl)
  have hv := hold_v (s := dS D i) (N := dN D) (t := t) (by have := o5 i hi; omega) (by omega) ht
  by_cases c : 1 ≤ nI (dS D i) - nI (dN D) * nI t
  · by_cases c2 : (1 : Int32) < nI (dS D i) - nI (dN D) * nI t
    · rw [if_pos c2]; exact hv.1 c
    · rw [if_neg c2]; exact (Int32.le_antisymm c (Int32.not_lt.mp c2)).trans (hv.1 c)
  · rw [if_neg (fun z => c (Int32.le_of_lt z))]; exact hv.2 c
