variable {l : Launch} {E : Ev} {h : Hp}
set_option maxHeartbeats 4000000 in
theorem s4_isFigure {x : Int32} : Sp l E SHP 0 M4_isFigure [.int x] h (PD (some (.int (bz (isDg x)))) h) := by
  refine Sp.of (by decide) (Nat.le_of_ble_eq_true rfl) (fun X C F => ?_)
  have C : Ok X E RX4 cX4_isFigure 1 := C
  have F : Fn X l E SHP 0 (some FieldType.boolean) (PD (some (.int (bz (isDg x)))) h) := F
  show G X E SHP (0, 0) 0 [(0, .int x)] [] h
  refine r_iload_n C dX4_isFigure_0 rfl ?_
  refine r_bipush (48) C dX4_isFigure_1 rfl ?_
  refine r_icmp_lt 16 C dX4_isFigure_3 (by decide) (fun c_3 => ?_) (fun c_3 => ?_)
  · refine r_iconst (0) C dX4_isFigure_16 rfl ?_
    exact r_zret C F dX4_isFigure_17 rfl (pd_i (bz_f (fun z => absurd c_3 (Int32.not_lt.mpr z.1))).symm rfl)
  · refine r_iload_n C dX4_isFigure_6 rfl ?_
    refine r_bipush (57) C dX4_isFigure_7 rfl ?_
    refine r_icmp_gt 16 C dX4_isFigure_9 (by decide) (fun c_9 => ?_) (fun c_9 => ?_)
    · refine r_iconst (0) C dX4_isFigure_16 rfl ?_
      exact r_zret C F dX4_isFigure_17 rfl (pd_i (bz_f (fun z => absurd c_9 (Int32.not_lt.mpr z.2))).symm rfl)
    · refine r_iconst (1) C dX4_isFigure_12 rfl ?_
      refine r_goto 17 C dX4_isFigure_13 (by decide) ?_
      exact r_zret C F dX4_isFigure_17 rfl (pd_i (bz_t ⟨Int32.not_lt.mp c_3, Int32.not_lt.mp c_9⟩).symm rfl)
set_option maxHeartbeats 4000000 in
theorem s4_noteFault {k p : Int32} : Sp l E SHP 0 M4_noteFault [.ref (E.1 + 1), .int k, .int p] h (PD none (if h 1 3 = 0 then up (up h 1 3 k) 1 4 p else h)) := by
  refine Sp.of (by decide) (Nat.le_of_ble_eq_true rfl) (fun X C F => ?_)
  have C : Ok X E RX4 cX4_noteFault 3 := C
  have F : Fn X l E SHP 0 none (PD none (if h 1 3 = 0 then up (up h 1 3 k) 1 4 p else h)) := F
  show G X E SHP (0, 0) 0 [(0, .ref (E.1 + 1)), (1, .int k), (2, .int p)] [] h
  refine r_aload_n C dX4_noteFault_0 rfl ?_
  refine r_getI C dX4_noteFault_1 flX4_27 (rfl) rfl ?_
  refine r_if_eq 8 C dX4_noteFault_4 (by decide) (fun c_4 => ?_) (fun c_4 => ?_)
  · refine r_aload_n C dX4_noteFault_8 rfl ?_
    refine r_iload_n C dX4_noteFault_9 rfl ?_
    refine r_putI C dX4_noteFault_10 fwX4_27 (rfl) rfl ?_
    refine r_aload_n C dX4_noteFault_13 rfl ?_
    refine r_iload_n C dX4_noteFault_14 rfl ?_
    refine r_putI C dX4_noteFault_15 fwX4_30 (rfl) rfl ?_
    exact r_vret C F dX4_noteFault_18 (pd_v (if_pos c_4).symm)
  · exact r_vret C F dX4_noteFault_7 (pd_v (if_neg c_4).symm)
set_option maxHeartbeats 4000000 in
theorem s4_add {n : Nat} {x : Int32} (hn : h 1 2 = nI n) (hl : n < 200) : Sp l E SHP 0 M4_add [.ref (E.1 + 1), .int x] h (PD none (up (up h 2 n x) 1 2 (nI (n + 1)))) := by
  refine Sp.of (by decide) (Nat.le_of_ble_eq_true rfl) (fun X C F => ?_)
  have C : Ok X E RX4 cX4_add 2 := C
  have F : Fn X l E SHP 0 none (PD none (up (up h 2 n x) 1 2 (nI (n + 1)))) := F
  show G X E SHP (0, 0) 0 [(0, .ref (E.1 + 1)), (1, .int x)] [] h
  refine r_aload_n C dX4_add_0 rfl ?_
  refine r_getI C dX4_add_1 flX4_18 (rfl) rfl ?_
  refine r_sipush (200) C dX4_add_4 rfl ?_
  refine r_icmp_lt 11 C dX4_add_7 (by decide) (fun c_7 => ?_) (fun c_7 => ?_)
  · rw [cLt (x := h 1 2) (c := 200) (i := n) (n := 200) (hn) (rfl) (by omega) (by omega)] at c_7
    refine r_aload_n C dX4_add_11 rfl ?_
    refine r_getR C dX4_add_12 flX4_9 (rfl) rfl ?_
    refine r_aload_n C dX4_add_15 rfl ?_
    refine r_getI C dX4_add_16 flX4_18 (rfl) rfl ?_
    refine r_iload_n C dX4_add_19 rfl ?_
    refine r_iast (n) C dX4_add_20 (rfl) (hn) (by omega) (by decide) ?_
    refine r_aload_n C dX4_add_21 rfl ?_
    refine r_dup C dX4_add_22 rfl ?_
    refine r_getI C dX4_add_23 flX4_18 (rfl) rfl ?_
    refine r_iconst (1) C dX4_add_26 rfl ?_
    refine r_iadd C dX4_add_27 ?_
    refine r_putI C dX4_add_28 fwX4_18 (rfl) rfl ?_
    exact r_vret C F dX4_add_31 (pd_v (by rw [nI_succ, ← hn]; rfl))
  · rw [cLt (x := h 1 2) (c := 200) (i := n) (n := 200) (hn) (rfl) (by omega) (by omega)] at c_7
    omega
set_option maxHeartbeats 4000000 in
theorem s4_skipBlanks {t : Nat → Int32} {n p : Nat} (ht : h 2 = t) (hn : h 1 2 = nI n) (hl : n ≤ 200) (hx : h 1 5 = nI p) (hp : p ≤ n) : Sp l E SHP 0 M4_skipBlanks [.ref (E.1 + 1)] h (PD none (up h 1 5 (nI (sk t n p)))) := by
  refine Sp.of (by decide) (Nat.le_of_ble_eq_true rfl) (fun X C F => ?_)
  have C : Ok X E RX4 cX4_skipBlanks 1 := C
  have F : Fn X l E SHP 0 none (PD none (up h 1 5 (nI (sk t n p)))) := F
  show G X E SHP (0, 0) 0 [(0, .ref (E.1 + 1))] [] h
  have L : ∀ k p', n - p' = k → p' ≤ n → sk t n p' = sk t n p → G X E SHP (0, 0) 0 [(0, .ref (E.1 + 1))] [] (up h 1 5 (nI p')) := by
    intro k
    induction k with
    | zero =>
      intro p' hk hp' he
      have e0 : sk t n p' = p' := by unfold sk; rw [hk]; rfl
      refine r_aload_n C dX4_skipBlanks_0 rfl ?_
      refine r_getI C dX4_skipBlanks_1 flX4_33 (rfl) rfl ?_
      refine r_aload_n C dX4_skipBlanks_4 rfl ?_
      refine r_getI C dX4_skipBlanks_5 flX4_18 (rfl) rfl ?_
      refine r_icmp_ge 38 C dX4_skipBlanks_8 (by decide) (fun c_8 => ?_) (fun c_8 => ?_)
      · exact r_vret C F dX4_skipBlanks_38 (pd_v (by rw [← he, e0]))
      · exact absurd (show h 1 2 ≤ nI p' from (cLe (x := h 1 2) (c := nI p') (i := n) (n := p') hn rfl (by omega) (by omega)).mpr (by omega)) c_8
    | succ k ih =>
      intro p' hk hp' he
      have e1 : sk t n p' = if p' < n ∧ t p' = 32 then skp t n k (p' + 1) else p' := by unfold sk; rw [hk]; rfl
      refine r_aload_n C dX4_skipBlanks_0 rfl ?_
      refine r_getI C dX4_skipBlanks_1 flX4_33 (rfl) rfl ?_
      refine r_aload_n C dX4_skipBlanks_4 rfl ?_
      refine r_getI C dX4_skipBlanks_5 flX4_18 (rfl) rfl ?_
      refine r_icmp_ge 38 C dX4_skipBlanks_8 (by decide) (fun c_8 => ?_) (fun c_8 => ?_)
      · exact absurd ((cLe (x := h 1 2) (c := nI p') (i := n) (n := p') hn rfl (by omega) (by omega)).mp c_8) (by omega)
      · refine r_aload_n C dX4_skipBlanks_11 rfl ?_
        refine r_getR C dX4_skipBlanks_12 flX4_9 (rfl) rfl ?_
        refine r_aload_n C dX4_skipBlanks_15 rfl ?_
        refine r_getI C dX4_skipBlanks_16 flX4_33 (rfl) rfl ?_
        refine r_iald (p') C dX4_skipBlanks_19 (rfl) (rfl) (by omega) (by decide) ?_
        refine r_bipush (32) C dX4_skipBlanks_20 rfl ?_
        refine r_icmp_ne 38 C dX4_skipBlanks_22 (by decide) (fun c_22 => ?_) (fun c_22 => ?_)
        · have c32 : ¬ t p' = 32 := by rw [← ht]; exact c_22
          rw [if_neg (fun z => c32 z.2)] at e1
          exact r_vret C F dX4_skipBlanks_38 (pd_v (by rw [← he, e1]))
        · refine r_aload_n C dX4_skipBlanks_25 rfl ?_
          refine r_dup C dX4_skipBlanks_26 rfl ?_
          refine r_getI C dX4_skipBlanks_27 flX4_33 (rfl) rfl ?_
          refine r_iconst (1) C dX4_skipBlanks_30 rfl ?_
          refine r_iadd C dX4_skipBlanks_31 ?_
          refine r_putI C dX4_skipBlanks_32 fwX4_33 (rfl) rfl ?_
          refine r_goto 0 C dX4_skipBlanks_35 (by decide) ?_
          have c32 : t p' = 32 := by rw [← ht]; exact c_22
          rw [if_pos ⟨by omega, c32⟩] at e1
          have e2 : sk t n (p' + 1) = skp t n k (p' + 1) := by unfold sk; rw [show n - (p' + 1) = k by omega]
          refine G.eq (ih (p' + 1) (by omega) (by omega) (by rw [e2, ← e1]; exact he)) rfl rfl ?_
          rw [up_up, nI_succ, up_self]
  exact G.eq (L (n - p) p rfl hp rfl) rfl rfl (up_id hx).symm
