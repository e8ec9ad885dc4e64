variable {l : Launch} {E : Ev} {h : Hp}
theorem cnt_0 {p : Nat → Bool} : ∀ n, (∀ k, k < n → p k = false) → cnt p n = 0
  | 0, _ => rfl
  | n + 1, e => by
    show cnt p n + (if p n then 1 else 0) = 0
    rw [cnt_0 n (fun k hk => e k (by omega)), e n (by omega)]
    rfl
/-- the benches below b are done -/
def CI (D : HDt) (t my x b Z : Nat) : Prop := Z < 64 ∧ sub x Z ∧ (∀ Y, sub x Y → Closed D t my Y → sub Z Y) ∧ (∀ i, i < dL D → dB D i < b → my.testBit i = true → Z.testBit i = false → ¬ hdF D t i ≤ 3 * besN D Z i) ∧ ∀ i, i < dL D → b ≤ dB D i → Z.testBit i = x.testBit i
theorem hdF_1 (D : HDt) (t i : Nat) : 1 ≤ hdF D t i := Nat.le_max_left _ _
theorem CI_no {D : HDt} {t my x b Z : Nat} (q : CI D t my x b Z) (e : x &&& bn D b = 0) : CI D t my x (b + 1) Z := by
  obtain ⟨q1, q2, q3, q4, q5⟩ := q
  refine ⟨q1, q2, q3, fun i hi hb hm hz => ?_, fun i hi hb => q5 i hi (by omega)⟩
  by_cases c : dB D i = b
  · have : besN D Z i = 0 := cnt_0 _ (fun k hk => by
      by_cases ck : dB D k = b
      · have h1 := q5 k hk (by omega)
        have h2 := bit_0 e k
        rw [Nat.testBit_and, bn_bit.mpr ⟨hk, ck⟩, Bool.and_true] at h2
        rw [h1, h2, Bool.false_and]
      · rw [show (dB D k == dB D i) = false from beq_eq_false_iff_ne.mpr (by omega), Bool.and_false])
    rw [this]
    have := hdF_1 D t i
    omega
  · exact q4 i hi (by omega) hm hz
theorem CI_yes {D : HDt} {t my x b Z r : Nat} (o1 : dL D ≤ 6) (q : CI D t my x b Z) (c : CO D t my b x r) : CI D t my x (b + 1) (Z ||| r) := by
  obtain ⟨q1, q2, q3, q4, q5⟩ := q
  obtain ⟨c1, c2, c3, c4, c5⟩ := c
  have rb : ∀ k, dB D k ≠ b → r.testBit k = false := fun k hk => by
    cases hr : r.testBit k with
    | false => rfl
    | true => exact absurd (bn_bit.mp (c3 k hr)).2 hk
  refine ⟨Nat.or_lt_two_pow (n := 6) q1 c1, fun k hk => by rw [Nat.testBit_or, q2 k hk, Bool.true_or], fun Y y1 y2 k hk => ?_, fun i hi hb hm hz => ?_, fun i hi hb => ?_⟩
  · rw [Nat.testBit_or, Bool.or_eq_true] at hk
    rcases hk with z | z
    · exact q3 Y y1 y2 k z
    · exact c5 Y (fun k hk => y1 k (by rw [Nat.testBit_and, Bool.and_eq_true] at hk; exact hk.1)) y2 k z
  · rw [Nat.testBit_or, Bool.or_eq_false_iff] at hz
    by_cases e : dB D i = b
    · have : besN D (Z ||| r) i = pc r 6 := by
        rw [pc_bes o1 c3 e]
        refine cnt_congr _ (fun k hk => ?_)
        by_cases ck : dB D k = b
        · have h1 := q5 k hk (by omega)
          rw [Nat.testBit_or, h1]
          cases hx : x.testBit k with
          | false => rw [Bool.false_or]
          | true => rw [c2 k (by rw [Nat.testBit_and, hx, bn_bit.mpr ⟨hk, ck⟩]; rfl), Bool.true_or]
        · rw [show (dB D k == dB D i) = false from beq_eq_false_iff_ne.mpr (by omega), Bool.and_false, Bool.and_false]
      rw [this]
      exact c4 i hi e hm hz.2
    · have : besN D (Z ||| r) i = besN D Z i := cnt_congr _ (fun k hk => by
        by_cases ck : dB D k = dB D i
        · rw [Nat.testBit_or, rb k (by omega), Bool.or_false]
        · rw [show (dB D k == dB D i) = false from beq_eq_false_iff_ne.mpr ck, Bool.and_false, Bool.and_false])
      rw [this]
      exact q4 i hi (by omega) hm hz.1
  · rw [Nat.testBit_or, rb i (by omega), Bool.or_false]
    exact q5 i hi (by omega)
theorem CI_end {D : HDt} {t my x Z : Nat} (okd : okD D) (q : CI D t my x 3 Z) : clF D t my x = Z := by
  obtain ⟨q1, q2, q3, q4, q5⟩ := q
  exact IsCl.eq ⟨q2, fun i hi h1 h2 => q4 i hi (by have := (okd.2.2.2.2.1 i hi).1; omega) h1 h2, q3⟩
set_option maxHeartbeats 4000000 in
theorem s5_caught {o t : Nat} {D : HDt} {tm : Nat → Nat} (hO : isH o) (ho : o ≤ 12) (hT : CT h o D t tm) {my x : Nat} (hmy : my < 64) (hx : x < 64) : Sp l E SHP 2 M5_caught [.ref (E.1 + 36), .int (nI x), .int (nI my)] h (PD (some (.int (nI (clF D t my x)))) h) := by
  refine Sp.of (by decide) (Nat.le_of_ble_eq_true rfl) (fun X C F => ?_)
  have C : Ok X E RX5 cX5_caught 5 := C
  have F : Fn X l E SHP 2 (some FieldType.int) (PD (some (.int (nI (clF D t my x)))) h) := F
  show G X E SHP (0, 0) 0 [(0, .ref (E.1 + 36)), (1, .int (nI x)), (2, .int (nI my))] [] h
  obtain ⟨q1, hH, q3, q4⟩ := id hT
  obtain ⟨okd, e1, e2, e3, e4, eL, eJ, eB, eF⟩ := id hH
  obtain ⟨o1, o2, o3, o4, o5, o6⟩ := id okd
  have Lp : ∀ b, b ≤ 3 → ∀ Z, CI D t my x b Z → G X E SHP (0, 0) 5 [(0, .ref (E.1 + 36)), (1, .int (nI x)), (2, .int (nI my)), (3, .int (nI Z)), (4, .int (nI b))] [] h := by
    refine loopN 3 _ (fun b hb ih Z hZ => ?_)
    refine r_iload C dX5_caught_5 rfl ?_
    refine r_iconst (3) C dX5_caught_7 rfl ?_
    refine r_icmp_ge 51 C dX5_caught_8 (by decide) (fun c_8 => ?_) (fun c_8 => ?_)
    · rw [cLe (x := 3) (c := nI b) (i := 3) (n := b) (rfl) (rfl) (by omega) (by omega)] at c_8
      refine r_iload_n C dX5_caught_51 rfl ?_
      exact r_iret C F dX5_caught_52 (pd_i (by rw [show b = 3 by omega] at hZ; rw [CI_end okd hZ]) rfl)
    · rw [cLe (x := 3) (c := nI b) (i := 3) (n := b) (rfl) (rfl) (by omega) (by omega)] at c_8
      refine r_iload_n C dX5_caught_11 rfl ?_
      refine r_aload_n C dX5_caught_12 rfl ?_
      refine r_getV (o) C dX5_caught_13 flX5_12 (rfl) rfl (q1) (by first | decide | omega) ?_
      refine r_getR C dX5_caught_16 flX5_73 (hO.1) rfl ?_
      refine r_iload C dX5_caught_19 rfl ?_
      refine r_iald (b) C dX5_caught_21 (hO.2.2.2.2.2.2.1) (rfl) (by omega) (by first | decide | omega) ?_
      rw [show h (o + 6) b = nI (bn D b) from eB b (by omega)]
      refine r_iand C dX5_caught_22 ?_
      rw [nx_and]
      refine r_if_eq 45 C dX5_caught_23 (by decide) (fun c_23 => ?_) (fun c_23 => ?_)
      · have c_23 := nI_z (Nat.lt_of_le_of_lt Nat.and_le_left (by omega)) c_23
        refine r_inc (1) C dX5_caught_45 rfl (by decide) rfl rfl ?_
        refine r_goto 5 C dX5_caught_48 (by decide) ?_
        exact (ih (by omega) Z (CI_no hZ c_23)).sub ⟨rfl, rfl, rfl, rfl, by rw [nI_succ]; rfl, trivial⟩
      · have c_23 : ¬ x &&& bn D b = 0 := fun z => c_23 (by rw [z]; rfl)
        refine r_iload_n C dX5_caught_26 rfl ?_
        refine r_aload_n C dX5_caught_27 rfl ?_
        refine r_aload_n C dX5_caught_28 rfl ?_
        refine r_getV (o) C dX5_caught_29 flX5_12 (rfl) rfl (q1) (by first | decide | omega) ?_
        refine r_getR C dX5_caught_32 flX5_73 (hO.1) rfl ?_
        refine r_iload C dX5_caught_35 rfl ?_
        refine r_iald (b) C dX5_caught_37 (hO.2.2.2.2.2.2.1) (rfl) (by omega) (by first | decide | omega) ?_
        rw [show h (o + 6) b = nI (bn D b) from eB b (by omega)]
        refine r_iload_n C dX5_caught_38 rfl ?_
        refine r_iload_n C dX5_caught_39 rfl ?_
        refine r_callV C F dX5_caught_40 (s5_caughtOn hO ho hT (b := b) hmy hx c_23) tw_445 m5_caughtOn (rfl) rfl (by decide) rfl (Nat.le_of_ble_eq_true rfl) (fun v g q => ?_)
        obtain ⟨rfl, r, rfl, hr⟩ := q
        show G X E SHP (0, 0) 43 _ [.int (nI r), .int (nI Z)] g
        refine r_ior C dX5_caught_43 ?_
        refine r_istore_n C dX5_caught_44 (by decide) rfl ?_
        refine r_inc (1) C dX5_caught_45 rfl (by decide) rfl rfl ?_
        refine r_goto 5 C dX5_caught_48 (by decide) ?_
        exact (ih (by omega) (Z ||| r) (CI_yes o1 hZ hr)).sub ⟨rfl, rfl, rfl, by rw [← nx_or]; rfl, by rw [nI_succ]; rfl, trivial⟩
  refine r_iload_n C dX5_caught_0 rfl ?_
  refine r_istore_n C dX5_caught_1 (by decide) rfl ?_
  refine r_iconst (0) C dX5_caught_2 rfl ?_
  refine r_istore C dX5_caught_3 (by decide) rfl ?_
  exact (Lp 0 (by decide) x ⟨hx, sub_rfl _, fun Y y _ => y, fun i _ z => absurd z (Nat.not_lt_zero _), fun i _ _ => rfl⟩).sub ⟨rfl, rfl, rfl, rfl, rfl, trivial⟩
set_option maxHeartbeats 4000000 in
theorem s5_outBy {o t : Nat} {D : HDt} {tm : Nat → Nat} (hO : isH o) (ho : o ≤ 12) (hT : CT h o D t tm) {m i j a : Nat} (hm : m < 64) (hi : i < 6) (hj : j < dJ D) (ha : a < 64) (htm : tm j < 2147483648) : Sp l E SHP 3 M5_outBy [.ref (E.1 + 36), .int (nI m), .int (nI i), .int (nI j), .int (nI a)] h (PD (some (.int (nI (falF D m t tm i j a)))) h) := by
  refine Sp.of (by decide) (Nat.le_of_ble_eq_true rfl) (fun X C F => ?_)
  have C : Ok X E RX5 cX5_outBy 7 := C
  have F : Fn X l E SHP 3 (some FieldType.int) (PD (some (.int (nI (falF D m t tm i j a)))) h) := F
  show G X E SHP (0, 0) 0 [(0, .ref (E.1 + 36)), (1, .int (nI m)), (2, .int (nI i)), (3, .int (nI j)), (4, .int (nI a))] [] h
  obtain ⟨q1, hH, q3, q4⟩ := id hT
  obtain ⟨okd, e1, e2, e3, e4, eL, eJ, eB, eF⟩ := id hH
  obtain ⟨o1, o2, o3, o4, o5, o6⟩ := id okd
  have hol := oth_lt (i := i) hm
  have hfl : lset (fun i => (dT D i).testBit (dK D j)) (dL D) < 64 := Nat.lt_of_lt_of_le (lset_lt _ _) (Nat.pow_le_pow_right (n := 2) (by decide) o1)
  refine r_iload_n C dX5_outBy_0 rfl ?_
  refine r_iconst (1) C dX5_outBy_1 rfl ?_
  refine r_iload_n C dX5_outBy_2 rfl ?_
  refine r_ishl C dX5_outBy_3 ?_
  refine r_iconst (-1) C dX5_outBy_4 rfl ?_
  refine r_ixor C dX5_outBy_5 ?_
  refine r_iand C dX5_outBy_6 ?_
  rw [shl1_nI (by omega), nx_nd, show nd m (2 ^ i) = othF m i from rfl]
  refine r_istore C dX5_outBy_7 (by decide) rfl ?_
  refine r_iload C dX5_outBy_9 rfl ?_
  refine r_aload_n C dX5_outBy_11 rfl ?_
  refine r_getV (o) C dX5_outBy_12 flX5_12 (rfl) rfl (q1) (by first | decide | omega) ?_
  refine r_getR C dX5_outBy_15 flX5_48 (hO.1) rfl ?_
  refine r_aload_n C dX5_outBy_18 rfl ?_
  refine r_getV (o) C dX5_outBy_19 flX5_12 (rfl) rfl (q1) (by first | decide | omega) ?_
  refine r_getR C dX5_outBy_22 flX5_51 (hO.1) rfl ?_
  refine r_iload_n C dX5_outBy_25 rfl ?_
  refine r_iald (j) C dX5_outBy_26 (hO.2.2.2.2.1) (rfl) (by omega) (by first | decide | omega) ?_
  rw [(eJ j hj).1]
  refine r_iald (dK D j) C dX5_outBy_27 (hO.2.2.2.2.2.2.2) (rfl) (by have := (o6 j hj).1; omega) (by first | decide | omega) ?_
  rw [eF (dK D j) (by have := (o6 j hj).1; omega)]
  refine r_iand C dX5_outBy_28 ?_
  rw [nx_and]
  refine r_istore C dX5_outBy_29 (by decide) rfl ?_
  refine r_iload C dX5_outBy_31 rfl ?_
  refine r_cSi C F dX5_outBy_33 (sJ6_bitCount (n := othF m i &&& lset (fun i => (dT D i).testBit (dK D j)) (dL D)) (Nat.and_lt_two_pow (n := 6) _ hfl)) tw_435 mJ6_bitCount (by decide) rfl (Nat.le_of_ble_eq_true rfl) ?_
  rw [pc_and o1, show cnt (fun o => (othF m i).testBit o && (dT D o).testBit (dK D j)) (dL D) = undF D m i j from rfl]
  have hud : undF D m i j ≤ dL D := cnt_le _ _
  refine r_aload_n C dX5_outBy_36 rfl ?_
  refine r_getV (o) C dX5_outBy_37 flX5_12 (rfl) rfl (q1) (by first | decide | omega) ?_
  refine r_getI C dX5_outBy_40 flX5_60 (hO.1) rfl ?_
  refine r_icmp_ge 48 C dX5_outBy_43 (by decide) (fun c_43 => ?_) (fun c_43 => ?_)
  · rw [cLe (x := h o 1) (c := nI (undF D m i j)) (i := dU D) (n := undF D m i j) (e1) (rfl) (by omega) (by omega)] at c_43
    refine r_aload_n C dX5_outBy_48 rfl ?_
    refine r_aload_n C dX5_outBy_49 rfl ?_
    refine r_iload C dX5_outBy_50 rfl ?_
    refine r_iload_n C dX5_outBy_52 rfl ?_
    refine r_iload C dX5_outBy_53 rfl ?_
    refine r_cVi C F dX5_outBy_55 (s5_amused hO ho hT (my := othF m i) (a := a) hol hj ha htm) tw_436 m5_amused (rfl) rfl (by decide) rfl (Nat.le_of_ble_eq_true rfl) ?_
    refine r_iload C dX5_outBy_58 rfl ?_
    refine r_cVi C F dX5_outBy_60 (s5_caught hO ho hT (my := othF m i) hol (Nat.lt_of_lt_of_le (lset_lt _ _) (Nat.pow_le_pow_right (n := 2) (by decide) o1))) tw_441 m5_caught (rfl) rfl (by decide) rfl (Nat.le_of_ble_eq_true rfl) ?_
    exact r_iret C F dX5_outBy_63 (pd_i (by unfold falF; rw [if_neg (by omega)]; rfl) rfl)
  · rw [cLe (x := h o 1) (c := nI (undF D m i j)) (i := dU D) (n := undF D m i j) (e1) (rfl) (by omega) (by omega)] at c_43
    refine r_iconst (0) C dX5_outBy_46 rfl ?_
    exact r_iret C F dX5_outBy_47 (pd_i (by unfold falF; rw [if_pos (by omega)]; rfl) rfl)
