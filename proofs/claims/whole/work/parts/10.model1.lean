variable {l : Launch} {E : Ev} {h : Hp}
theorem cEq {x c : Int32} {i n : Nat} (hx : x = nI i) (hc : c = nI n) (hi : i < 2147483648) (hn : n < 2147483648) : x = c ↔ i = n := by subst hx; subst hc; exact nI_eq hi hn
theorem cLt {x c : Int32} {i n : Nat} (hx : x = nI i) (hc : c = nI n) (hi : i < 2147483648) (hn : n < 2147483648) : x < c ↔ i < n := by subst hx; subst hc; exact nI_ltI hi hn
theorem cLe {x c : Int32} {i n : Nat} (hx : x = nI i) (hc : c = nI n) (hi : i < 2147483648) (hn : n < 2147483648) : x ≤ c ↔ i ≤ n := by subst hx; subst hc; exact nI_leI hi hn
/-- a number within bounds -/
theorem inP_of {x : Int32} {n : Nat} {c : Int32} (hc : c = nI n) (hn : n < 2147483648) (q : inP x 0 c) : ∃ i, i ≤ n ∧ x = nI i := by
  obtain ⟨i, hi, rfl⟩ := nI_of (Int32.not_lt.mpr q.1)
  exact ⟨i, (cLe rfl hc hi hn).mp q.2, rfl⟩
theorem inP_lord {x y : Int32} {n : Nat} (hy : y = nI n) (hn : n ≤ 6) : inP x 0 (y - 1) ↔ ∃ i, i < n ∧ x = nI i := by
  subst hy
  cases n with
  | zero =>
    refine ⟨fun q => ?_, fun ⟨i, hi, _⟩ => absurd hi (Nat.not_lt_zero i)⟩
    have h1 := Int32.le_iff_toInt_le.mp q.1
    have h2 := Int32.le_iff_toInt_le.mp q.2
    rw [show (nI 0 - 1 : Int32).toInt = -1 by decide] at h2
    rw [show (0 : Int32).toInt = 0 by decide] at h1
    omega
  | succ k =>
    rw [nI_pred]
    refine ⟨fun q => ?_, fun ⟨i, hi, e⟩ => ?_⟩
    · obtain ⟨i, hi, e⟩ := inP_of rfl (by omega) q
      exact ⟨i, by omega, e⟩
    · subst e
      exact ⟨nI_pos' (by omega), nI_le (by omega) (by omega)⟩
def bitsN (set : Int32) : Nat → Int32
  | 0 => 0
  | k + 1 => bitsN set k + (set >>> (nI k &&& 31) &&& 1)
theorem bitsN_nI {m : Nat} (hm : m < 2147483648) : ∀ n, n ≤ 32 → bitsN (nI m) n = nI (pc m n)
  | 0, _ => rfl
  | k + 1, q => by
    show bitsN (nI m) k + (nI m >>> (nI k &&& 31) &&& 1) = nI (pc m k + (m.testBit k).toNat)
    rw [bitsN_nI hm k (by omega), bit_nI hm (by omega), nI_add]
set_option maxHeartbeats 4000000 in
theorem s8_in {v a b : Int32} : Sp l E SHP 0 M8_in [.int v, .int a, .int b] h (PD (some (.int (bz (inP v a b)))) h) := by
  refine Sp.of (by decide) (Nat.le_of_ble_eq_true rfl) (fun X C F => ?_)
  have C : Ok X E RX8 cX8_in 3 := C
  have F : Fn X l E SHP 0 (some FieldType.boolean) (PD (some (.int (bz (inP v a b)))) h) := F
  show G X E SHP (0, 0) 0 [(0, .int v), (1, .int a), (2, .int b)] [] h
  refine r_iload_n C dX8_in_0 rfl ?_
  refine r_iload_n C dX8_in_1 rfl ?_
  refine r_icmp_lt 14 C dX8_in_2 (by decide) (fun c_2 => ?_) (fun c_2 => ?_)
  · refine r_iconst (0) C dX8_in_14 rfl ?_
    exact r_zret C F dX8_in_15 (by first | rfl | exact narrow_bz _) (pd_i (by first | exact (bz_t ⟨Int32.not_lt.mp c_2, Int32.not_lt.mp c_7⟩).symm | exact (bz_f (fun q => Int32.not_lt.mpr q.1 c_2)).symm | exact (bz_f (fun q => Int32.not_lt.mpr q.2 c_7)).symm) (rfl))
  · refine r_iload_n C dX8_in_5 rfl ?_
    refine r_iload_n C dX8_in_6 rfl ?_
    refine r_icmp_gt 14 C dX8_in_7 (by decide) (fun c_7 => ?_) (fun c_7 => ?_)
    · refine r_iconst (0) C dX8_in_14 rfl ?_
      exact r_zret C F dX8_in_15 (by first | rfl | exact narrow_bz _) (pd_i (by first | exact (bz_t ⟨Int32.not_lt.mp c_2, Int32.not_lt.mp c_7⟩).symm | exact (bz_f (fun q => Int32.not_lt.mpr q.1 c_2)).symm | exact (bz_f (fun q => Int32.not_lt.mpr q.2 c_7)).symm) (rfl))
    · refine r_iconst (1) C dX8_in_10 rfl ?_
      refine r_goto 15 C dX8_in_11 (by decide) ?_
      exact r_zret C F dX8_in_15 (by first | rfl | exact narrow_bz _) (pd_i (by first | exact (bz_t ⟨Int32.not_lt.mp c_2, Int32.not_lt.mp c_7⟩).symm | exact (bz_f (fun q => Int32.not_lt.mpr q.1 c_2)).symm | exact (bz_f (fun q => Int32.not_lt.mpr q.2 c_7)).symm) (rfl))
set_option maxHeartbeats 4000000 in
theorem s8_has {set k : Int32} : Sp l E SHP 0 M8_has [.int set, .int k] h (PD (some (.int (bz (hasP set k)))) h) := by
  refine Sp.of (by decide) (Nat.le_of_ble_eq_true rfl) (fun X C F => ?_)
  have C : Ok X E RX8 cX8_has 2 := C
  have F : Fn X l E SHP 0 (some FieldType.boolean) (PD (some (.int (bz (hasP set k)))) h) := F
  show G X E SHP (0, 0) 0 [(0, .int set), (1, .int k)] [] h
  refine r_iload_n C dX8_has_0 rfl ?_
  refine r_iload_n C dX8_has_1 rfl ?_
  refine r_ishr C dX8_has_2 ?_
  refine r_iconst (1) C dX8_has_3 rfl ?_
  refine r_iand C dX8_has_4 ?_
  refine r_iconst (1) C dX8_has_5 rfl ?_
  refine r_icmp_ne 13 C dX8_has_6 (by decide) (fun c_6 => ?_) (fun c_6 => ?_)
  · refine r_iconst (0) C dX8_has_13 rfl ?_
    exact r_zret C F dX8_has_14 (by first | rfl | exact narrow_bz _) (pd_i (by simp_all [bz]) (rfl))
  · refine r_iconst (1) C dX8_has_9 rfl ?_
    refine r_goto 14 C dX8_has_10 (by decide) ?_
    exact r_zret C F dX8_has_14 (by first | rfl | exact narrow_bz _) (pd_i (by simp_all [bz]) (rfl))
set_option maxHeartbeats 4000000 in
theorem s8_bits {set : Int32} : Sp l E SHP 0 M8_bits [.int set] h (PD (some (.int (bitsN set 6))) h) := by
  refine Sp.of (by decide) (Nat.le_of_ble_eq_true rfl) (fun X C F => ?_)
  have C : Ok X E RX8 cX8_bits 3 := C
  have F : Fn X l E SHP 0 (some FieldType.int) (PD (some (.int (bitsN set 6))) h) := F
  show G X E SHP (0, 0) 0 [(0, .int set)] [] h
  have L : ∀ i, i ≤ 6 → G X E SHP (0, 0) 4 [(0, .int set), (1, .int (bitsN set i)), (2, .int (nI i))] [] h := by
    refine loopN 6 _ (fun i hi ih => ?_)
    refine r_iload_n C dX8_bits_4 rfl ?_
    refine r_bipush (6) C dX8_bits_5 rfl ?_
    refine r_icmp_ge 24 C dX8_bits_7 (by decide) (fun c_7 => ?_) (fun c_7 => ?_)
    · rw [cLe (x := 6) (c := nI i) (i := 6) (n := i) (rfl) (rfl) (by omega) (by omega)] at c_7
      refine r_iload_n C dX8_bits_24 rfl ?_
      exact r_iret C F dX8_bits_25 (pd_i (by rw [show i = 6 by omega]) (rfl))
    · rw [cLe (x := 6) (c := nI i) (i := 6) (n := i) (rfl) (rfl) (by omega) (by omega)] at c_7
      refine r_iload_n C dX8_bits_10 rfl ?_
      refine r_iload_n C dX8_bits_11 rfl ?_
      refine r_iload_n C dX8_bits_12 rfl ?_
      refine r_ishr C dX8_bits_13 ?_
      refine r_iconst (1) C dX8_bits_14 rfl ?_
      refine r_iand C dX8_bits_15 ?_
      refine r_iadd C dX8_bits_16 ?_
      refine r_istore_n C dX8_bits_17 (by decide) rfl ?_
      refine r_inc (1) C dX8_bits_18 rfl (by decide) rfl rfl ?_
      refine r_goto 4 C dX8_bits_21 (by decide) ?_
      exact (ih (by omega)).sub ⟨rfl, rfl, by rw [nI_succ]; rfl, trivial⟩
  refine r_iconst (0) C dX8_bits_0 rfl ?_
  refine r_istore_n C dX8_bits_1 (by decide) rfl ?_
  refine r_iconst (0) C dX8_bits_2 rfl ?_
  refine r_istore_n C dX8_bits_3 (by decide) rfl ?_
  exact (L 0 (by decide)).sub ⟨rfl, rfl, rfl, trivial⟩
set_option maxHeartbeats 4000000 in
theorem s8_isLord {i : Int32} : Sp l E SHP 1 M8_isLord [.ref (E.1 + 49), .int i] h (PD (some (.int (bz (inP i 0 (h 49 16 - 1))))) h) := by
  refine Sp.of (by decide) (Nat.le_of_ble_eq_true rfl) (fun X C F => ?_)
  have C : Ok X E RX8 cX8_isLord 2 := C
  have F : Fn X l E SHP 1 (some FieldType.boolean) (PD (some (.int (bz (inP i 0 (h 49 16 - 1))))) h) := F
  show G X E SHP (0, 0) 0 [(0, .ref (E.1 + 49)), (1, .int i)] [] h
  refine r_iload_n C dX8_isLord_0 rfl ?_
  refine r_iconst (0) C dX8_isLord_1 rfl ?_
  refine r_aload_n C dX8_isLord_2 rfl ?_
  refine r_getI C dX8_isLord_3 flX8_72 (rfl) rfl ?_
  refine r_iconst (1) C dX8_isLord_6 rfl ?_
  refine r_isub C dX8_isLord_7 ?_
  refine r_cSi C F dX8_isLord_8 (s8_in) tw_790 m8_in (by decide) rfl (by decide) ?_
  exact r_zret C F dX8_isLord_11 (by first | rfl | exact narrow_bz _) (pd_i (rfl) (rfl))
set_option maxHeartbeats 4000000 in
theorem s8_isJoke {i : Int32} : Sp l E SHP 1 M8_isJoke [.ref (E.1 + 49), .int i] h (PD (some (.int (bz (inP i 0 (h 49 17 - 1))))) h) := by
  refine Sp.of (by decide) (Nat.le_of_ble_eq_true rfl) (fun X C F => ?_)
  have C : Ok X E RX8 cX8_isJoke 2 := C
  have F : Fn X l E SHP 1 (some FieldType.boolean) (PD (some (.int (bz (inP i 0 (h 49 17 - 1))))) h) := F
  show G X E SHP (0, 0) 0 [(0, .ref (E.1 + 49)), (1, .int i)] [] h
  refine r_iload_n C dX8_isJoke_0 rfl ?_
  refine r_iconst (0) C dX8_isJoke_1 rfl ?_
  refine r_aload_n C dX8_isJoke_2 rfl ?_
  refine r_getI C dX8_isJoke_3 flX8_79 (rfl) rfl ?_
  refine r_iconst (1) C dX8_isJoke_6 rfl ?_
  refine r_isub C dX8_isJoke_7 ?_
  refine r_cSi C F dX8_isJoke_8 (s8_in) tw_790 m8_in (by decide) rfl (by decide) ?_
  exact r_zret C F dX8_isJoke_11 (by first | rfl | exact narrow_bz _) (pd_i (rfl) (rfl))
set_option maxHeartbeats 4000000 in
theorem s8_isSet {i : Int32} : Sp l E SHP 1 M8_isSet [.ref (E.1 + 49), .int i] h (PD (some (.int (bz (inP i 0 (1 <<< (h 49 16 &&& 31) - 1))))) h) := by
  refine Sp.of (by decide) (Nat.le_of_ble_eq_true rfl) (fun X C F => ?_)
  have C : Ok X E RX8 cX8_isSet 2 := C
  have F : Fn X l E SHP 1 (some FieldType.boolean) (PD (some (.int (bz (inP i 0 (1 <<< (h 49 16 &&& 31) - 1))))) h) := F
  show G X E SHP (0, 0) 0 [(0, .ref (E.1 + 49)), (1, .int i)] [] h
  refine r_iload_n C dX8_isSet_0 rfl ?_
  refine r_iconst (0) C dX8_isSet_1 rfl ?_
  refine r_iconst (1) C dX8_isSet_2 rfl ?_
  refine r_aload_n C dX8_isSet_3 rfl ?_
  refine r_getI C dX8_isSet_4 flX8_72 (rfl) rfl ?_
  refine r_ishl C dX8_isSet_7 ?_
  refine r_iconst (1) C dX8_isSet_8 rfl ?_
  refine r_isub C dX8_isSet_9 ?_
  refine r_cSi C F dX8_isSet_10 (s8_in) tw_790 m8_in (by decide) rfl (by decide) ?_
  exact r_zret C F dX8_isSet_13 (by first | rfl | exact narrow_bz _) (pd_i (rfl) (rfl))
set_option maxHeartbeats 4000000 in
theorem s8_isIn {i : Int32} : Sp l E SHP 1 M8_isIn [.ref (E.1 + 49), .int i] h (PD (some (.int (bz (hasP (h 57 0) i)))) h) := by
  refine Sp.of (by decide) (Nat.le_of_ble_eq_true rfl) (fun X C F => ?_)
  have C : Ok X E RX8 cX8_isIn 2 := C
  have F : Fn X l E SHP 1 (some FieldType.boolean) (PD (some (.int (bz (hasP (h 57 0) i)))) h) := F
  show G X E SHP (0, 0) 0 [(0, .ref (E.1 + 49)), (1, .int i)] [] h
  refine r_aload_n C dX8_isIn_0 rfl ?_
  refine r_getR C dX8_isIn_1 flX8_35 (rfl) rfl ?_
  refine r_iconst (0) C dX8_isIn_4 rfl ?_
  refine r_iald (0) C dX8_isIn_5 (rfl) (rfl) (by decide) (by decide) ?_
  refine r_iload_n C dX8_isIn_6 rfl ?_
  refine r_cSi C F dX8_isIn_7 (s8_has) tw_879 m8_has (by decide) rfl (by decide) ?_
  exact r_zret C F dX8_isIn_10 (by first | rfl | exact narrow_bz _) (pd_i (rfl) (rfl))
set_option maxHeartbeats 4000000 in
theorem s8_fault  : Sp l E SHP 0 M8_fault [.ref (E.1 + 49)] h (PD (some (.int (h 49 7))) h) := by
  refine Sp.of (by decide) (Nat.le_of_ble_eq_true rfl) (fun X C F => ?_)
  have C : Ok X E RX8 cX8_fault 1 := C
  have F : Fn X l E SHP 0 (some FieldType.int) (PD (some (.int (h 49 7))) h) := F
  show G X E SHP (0, 0) 0 [(0, .ref (E.1 + 49))] [] h
  refine r_aload_n C dX8_fault_0 rfl ?_
  refine r_getI C dX8_fault_1 flX8_13 (rfl) rfl ?_
  exact r_iret C F dX8_fault_4 (pd_i (rfl) (rfl))
def feedM (h : Hp) (n : Nat) (x : Int32) : Int32 × Hp := if ¬ inP x 0 255 then (-1000000002, h) else if n = 200 then (-1000000004, h) else (nI (n + 1), up (up h 50 n x) 49 0 (nI (n + 1)))
set_option maxHeartbeats 4000000 in
theorem s8_feed {n : Nat} {x : Int32} (hn : h 49 0 = nI n) (hle : n ≤ 200) : Sp l E SHP 1 M8_feed [.ref (E.1 + 49), .int x] h (PR (feedM h n x)) := by
  refine Sp.of (by decide) (Nat.le_of_ble_eq_true rfl) (fun X C F => ?_)
  have C : Ok X E RX8 cX8_feed 2 := C
  have F : Fn X l E SHP 1 (some FieldType.int) (PR (feedM h n x)) := F
  show G X E SHP (0, 0) 0 [(0, .ref (E.1 + 49)), (1, .int x)] [] h
  refine r_iload_n C dX8_feed_0 rfl ?_
  refine r_iconst (0) C dX8_feed_1 rfl ?_
  refine r_sipush (255) C dX8_feed_2 rfl ?_
  refine r_cSi C F dX8_feed_5 (s8_in) tw_790 m8_in (by decide) rfl (by decide) ?_
  refine r_if_ne 14 C dX8_feed_8 (by decide) (fun c_8 => ?_) (fun c_8 => ?_)
  · rw [bz_ne0] at c_8
    refine r_aload_n C dX8_feed_14 rfl ?_
    refine r_getI C dX8_feed_15 flX8_87 (rfl) rfl ?_
    refine r_sipush (200) C dX8_feed_18 rfl ?_
    refine r_icmp_ne 27 C dX8_feed_21 (by decide) (fun c_21 => ?_) (fun c_21 => ?_)
    · rw [cEq (x := h 49 0) (c := 200) (i := n) (n := 200) (hn) (rfl) (by omega) (by omega)] at c_21
      refine r_aload_n C dX8_feed_27 rfl ?_
      refine r_getR C dX8_feed_28 flX8_7 (rfl) rfl ?_
      refine r_aload_n C dX8_feed_31 rfl ?_
      refine r_getI C dX8_feed_32 flX8_87 (rfl) rfl ?_
      refine r_iload_n C dX8_feed_35 rfl ?_
      refine r_iast (n) C dX8_feed_36 (rfl) (hn) (by omega) (by decide) ?_
      have e1 : up h 50 n x 49 0 = nI n := by rw [up_at, if_neg (by simp)]; exact hn
      refine r_aload_n C dX8_feed_37 rfl ?_
      refine r_dup C dX8_feed_38 rfl ?_
      refine r_getI C dX8_feed_39 flX8_87 (rfl) rfl ?_
      refine r_iconst (1) C dX8_feed_42 rfl ?_
      refine r_iadd C dX8_feed_43 ?_
      refine r_putI C dX8_feed_44 fwX8_87 (rfl) rfl ?_
      refine r_aload_n C dX8_feed_47 rfl ?_
      refine r_getI C dX8_feed_48 flX8_87 (rfl) rfl ?_
      exact r_iret C F dX8_feed_51 (by unfold PR feedM; rw [if_neg (not_not_intro c_8), if_neg c_21, up_self, e1, nI_1]; exact ⟨rfl, rfl⟩)
    · rw [cEq (x := h 49 0) (c := 200) (i := n) (n := 200) (hn) (rfl) (by omega) (by omega)] at c_21
      refine r_ldc C dX8_feed_24 tw_794 ?_
      exact r_iret C F dX8_feed_26 (by unfold PR feedM; rw [if_neg (not_not_intro c_8), if_pos c_21]; exact ⟨rfl, rfl⟩)
  · rw [bz_eq0] at c_8
    refine r_ldc C dX8_feed_11 tw_793 ?_
    exact r_iret C F dX8_feed_13 (by unfold PR feedM; rw [if_pos c_8]; exact ⟨rfl, rfl⟩)
def aloF (set : Int32) : Nat → Int32
  | 0 => -1
  | k + 1 => if set = 1 <<< (nI k &&& 31) then nI k else aloF set k
set_option maxHeartbeats 4000000 in
theorem s8_aloneOf {set : Int32} : Sp l E SHP 0 M8_aloneOf [.int set] h (PD (some (.int (aloF set 6))) h) := by
  refine Sp.of (by decide) (Nat.le_of_ble_eq_true rfl) (fun X C F => ?_)
  have C : Ok X E RX8 cX8_aloneOf 3 := C
  have F : Fn X l E SHP 0 (some FieldType.int) (PD (some (.int (aloF set 6))) h) := F
  show G X E SHP (0, 0) 0 [(0, .int set)] [] h
  have L : ∀ i, i ≤ 6 → G X E SHP (0, 0) 4 [(0, .int set), (1, .int (aloF set i)), (2, .int (nI i))] [] h := by
    refine loopN 6 _ (fun i hi ih => ?_)
    refine r_iload_n C dX8_aloneOf_4 rfl ?_
    refine r_bipush (6) C dX8_aloneOf_5 rfl ?_
    refine r_icmp_ge 29 C dX8_aloneOf_7 (by decide) (fun c_7 => ?_) (fun c_7 => ?_)
    · rw [cLe (x := 6) (c := nI i) (i := 6) (n := i) (rfl) (rfl) (by omega) (by omega)] at c_7
      refine r_iload_n C dX8_aloneOf_29 rfl ?_
      exact r_iret C F dX8_aloneOf_30 (pd_i (by rw [show i = 6 by omega]) (rfl))
    · rw [cLe (x := 6) (c := nI i) (i := 6) (n := i) (rfl) (rfl) (by omega) (by omega)] at c_7
      refine r_iload_n C dX8_aloneOf_10 rfl ?_
      refine r_iconst (1) C dX8_aloneOf_11 rfl ?_
      refine r_iload_n C dX8_aloneOf_12 rfl ?_
      refine r_ishl C dX8_aloneOf_13 ?_
      refine r_icmp_ne 21 C dX8_aloneOf_14 (by decide) (fun c_14 => ?_) (fun c_14 => ?_)
      · refine r_iload_n C dX8_aloneOf_21 rfl ?_
        refine r_istore_n C dX8_aloneOf_22 (by decide) rfl ?_
        refine r_inc (1) C dX8_aloneOf_23 rfl (by decide) rfl rfl ?_
        refine r_goto 4 C dX8_aloneOf_26 (by decide) ?_
        exact (ih (by omega)).sub ⟨rfl, by simp [aloF, c_14]; rfl, by rw [nI_succ]; rfl, trivial⟩
      · refine r_iload_n C dX8_aloneOf_17 rfl ?_
        refine r_goto 22 C dX8_aloneOf_18 (by decide) ?_
        refine r_istore_n C dX8_aloneOf_22 (by decide) rfl ?_
        refine r_inc (1) C dX8_aloneOf_23 rfl (by decide) rfl rfl ?_
        refine r_goto 4 C dX8_aloneOf_26 (by decide) ?_
        exact (ih (by omega)).sub ⟨rfl, by simp [aloF, c_14]; rfl, by rw [nI_succ]; rfl, trivial⟩
  refine r_iconst (-1) C dX8_aloneOf_0 rfl ?_
  refine r_istore_n C dX8_aloneOf_1 (by decide) rfl ?_
  refine r_iconst (0) C dX8_aloneOf_2 rfl ?_
  refine r_istore_n C dX8_aloneOf_3 (by decide) rfl ?_
  exact (L 0 (by decide)).sub ⟨rfl, rfl, rfl, trivial⟩
def toldM (h : Hp) : Nat → Int32
  | 0 => bz (¬ h 49 15 = 0) | 1 => h 54 0 | 2 => h 54 1 | 3 => h 49 16 | 4 => h 49 17 | 5 => h 49 0 | 6 => h 57 8 | 7 => h 57 9 | 8 => h 57 0 | 9 => aloF (h 57 0) 6 | 10 => h 57 7 | 11 => h 49 31 | 12 => h 49 33 | _ => h 49 26
def toldV (h : Hp) (w : Int32) : Int32 := if w < 0 ∨ nI 14 ≤ w then -1000000002 else toldM h w.toNatClampNeg
set_option maxHeartbeats 4000000 in
theorem s8_told {w : Int32} : Sp l E SHP 1 M8_told [.ref (E.1 + 49), .int w] h (PD (some (.int (toldV h w))) h) := by
  refine Sp.of (by decide) (Nat.le_of_ble_eq_true rfl) (fun X C F => ?_)
  have C : Ok X E RX8 cX8_told 2 := C
  have F : Fn X l E SHP 1 (some FieldType.int) (PD (some (.int (toldV h w))) h) := F
  show G X E SHP (0, 0) 0 [(0, .ref (E.1 + 49)), (1, .int w)] [] h
  refine r_iload_n C dX8_told_0 rfl ?_
  rcases pk_ix w (n := 14) (by decide) with q | q | ⟨j, hj, hq⟩
  · refine r_tsw_out 165 C dX8_told_1 (Or.inl (by have := Int32.lt_iff_toInt_lt.mp q; simpa using this)) (by decide) ?_
    refine r_ldc C dX8_told_165 tw_793 ?_
    exact r_iret C F dX8_told_167 (pd_i (by unfold toldV; rw [if_pos (Or.inl q)]) (rfl))
  · refine r_tsw_out 165 C dX8_told_1 (Or.inr (by have := Int32.le_iff_toInt_le.mp q; rw [nI_toInt (by decide)] at this; omega)) (by decide) ?_
    refine r_ldc C dX8_told_165 tw_793 ?_
    exact r_iret C F dX8_told_167 (pd_i (by unfold toldV; rw [if_pos (Or.inr q)]) (rfl))
  · subst hq
    match j, hj with
    | 0, _ =>
      refine r_tsw_in 72 C dX8_told_1 (by decide) (by decide) rfl (by decide) ?_
      refine r_aload_n C dX8_told_72 rfl ?_
      refine r_getI C dX8_told_73 flX8_148 (rfl) rfl ?_
      refine r_if_eq 83 C dX8_told_76 (by decide) (fun c_76 => ?_) (fun c_76 => ?_)
      · refine r_iconst (0) C dX8_told_83 rfl ?_
        exact r_iret C F dX8_told_84 (pd_i (by first | exact (bz_t c_76).symm | exact (bz_f (not_not_intro c_76)).symm) (rfl))
      · refine r_iconst (1) C dX8_told_79 rfl ?_
        refine r_goto 84 C dX8_told_80 (by decide) ?_
        exact r_iret C F dX8_told_84 (pd_i (by first | exact (bz_t c_76).symm | exact (bz_f (not_not_intro c_76)).symm) (rfl))
    | 1, _ =>
      refine r_tsw_in 85 C dX8_told_1 (by decide) (by decide) rfl (by decide) ?_
      refine r_aload_n C dX8_told_85 rfl ?_
      refine r_getR C dX8_told_86 flX8_26 (rfl) rfl ?_
      refine r_iload_n C dX8_told_89 rfl ?_
      refine r_iconst (1) C dX8_told_90 rfl ?_
      refine r_isub C dX8_told_91 ?_
      refine r_iald (0) C dX8_told_92 (rfl) (rfl) (by decide) (by decide) ?_
      exact r_iret C F dX8_told_93 (pd_i (rfl) (rfl))
    | 2, _ =>
      refine r_tsw_in 85 C dX8_told_1 (by decide) (by decide) rfl (by decide) ?_
      refine r_aload_n C dX8_told_85 rfl ?_
      refine r_getR C dX8_told_86 flX8_26 (rfl) rfl ?_
      refine r_iload_n C dX8_told_89 rfl ?_
      refine r_iconst (1) C dX8_told_90 rfl ?_
      refine r_isub C dX8_told_91 ?_
      refine r_iald (1) C dX8_told_92 (rfl) (rfl) (by decide) (by decide) ?_
      exact r_iret C F dX8_told_93 (pd_i (rfl) (rfl))
    | 3, _ =>
      refine r_tsw_in 94 C dX8_told_1 (by decide) (by decide) rfl (by decide) ?_
      refine r_aload_n C dX8_told_94 rfl ?_
      refine r_getI C dX8_told_95 flX8_72 (rfl) rfl ?_
      exact r_iret C F dX8_told_98 (pd_i (rfl) (rfl))
    | 4, _ =>
      refine r_tsw_in 99 C dX8_told_1 (by decide) (by decide) rfl (by decide) ?_
      refine r_aload_n C dX8_told_99 rfl ?_
      refine r_getI C dX8_told_100 flX8_79 (rfl) rfl ?_
      exact r_iret C F dX8_told_103 (pd_i (rfl) (rfl))
    | 5, _ =>
      refine r_tsw_in 104 C dX8_told_1 (by decide) (by decide) rfl (by decide) ?_
      refine r_aload_n C dX8_told_104 rfl ?_
      refine r_getI C dX8_told_105 flX8_87 (rfl) rfl ?_
      exact r_iret C F dX8_told_108 (pd_i (rfl) (rfl))
    | 6, _ =>
      refine r_tsw_in 109 C dX8_told_1 (by decide) (by decide) rfl (by decide) ?_
      refine r_aload_n C dX8_told_109 rfl ?_
      refine r_getR C dX8_told_110 flX8_35 (rfl) rfl ?_
      refine r_bipush (8) C dX8_told_113 rfl ?_
      refine r_iald (8) C dX8_told_115 (rfl) (rfl) (by decide) (by decide) ?_
      exact r_iret C F dX8_told_116 (pd_i (rfl) (rfl))
    | 7, _ =>
      refine r_tsw_in 117 C dX8_told_1 (by decide) (by decide) rfl (by decide) ?_
      refine r_aload_n C dX8_told_117 rfl ?_
      refine r_getR C dX8_told_118 flX8_35 (rfl) rfl ?_
      refine r_bipush (9) C dX8_told_121 rfl ?_
      refine r_iald (9) C dX8_told_123 (rfl) (rfl) (by decide) (by decide) ?_
      exact r_iret C F dX8_told_124 (pd_i (rfl) (rfl))
    | 8, _ =>
      refine r_tsw_in 125 C dX8_told_1 (by decide) (by decide) rfl (by decide) ?_
      refine r_aload_n C dX8_told_125 rfl ?_
      refine r_getR C dX8_told_126 flX8_35 (rfl) rfl ?_
      refine r_iconst (0) C dX8_told_129 rfl ?_
      refine r_iald (0) C dX8_told_130 (rfl) (rfl) (by decide) (by decide) ?_
      exact r_iret C F dX8_told_131 (pd_i (rfl) (rfl))
    | 9, _ =>
      refine r_tsw_in 132 C dX8_told_1 (by decide) (by decide) rfl (by decide) ?_
      refine r_aload_n C dX8_told_132 rfl ?_
      refine r_getR C dX8_told_133 flX8_35 (rfl) rfl ?_
      refine r_iconst (0) C dX8_told_136 rfl ?_
      refine r_iald (0) C dX8_told_137 (rfl) (rfl) (by decide) (by decide) ?_
      refine r_cSi C F dX8_told_138 (s8_aloneOf) tw_843 m8_aloneOf (by decide) rfl (by decide) ?_
      exact r_iret C F dX8_told_141 (pd_i (rfl) (rfl))
    | 10, _ =>
      refine r_tsw_in 142 C dX8_told_1 (by decide) (by decide) rfl (by decide) ?_
      refine r_aload_n C dX8_told_142 rfl ?_
      refine r_getR C dX8_told_143 flX8_35 (rfl) rfl ?_
      refine r_bipush (7) C dX8_told_146 rfl ?_
      refine r_iald (7) C dX8_told_148 (rfl) (rfl) (by decide) (by decide) ?_
      exact r_iret C F dX8_told_149 (pd_i (rfl) (rfl))
    | 11, _ =>
      refine r_tsw_in 150 C dX8_told_1 (by decide) (by decide) rfl (by decide) ?_
      refine r_aload_n C dX8_told_150 rfl ?_
      refine r_getI C dX8_told_151 flX8_151 (rfl) rfl ?_
      exact r_iret C F dX8_told_154 (pd_i (rfl) (rfl))
    | 12, _ =>
      refine r_tsw_in 155 C dX8_told_1 (by decide) (by decide) rfl (by decide) ?_
      refine r_aload_n C dX8_told_155 rfl ?_
      refine r_getI C dX8_told_156 flX8_154 (rfl) rfl ?_
      exact r_iret C F dX8_told_159 (pd_i (rfl) (rfl))
    | 13, _ =>
      refine r_tsw_in 160 C dX8_told_1 (by decide) (by decide) rfl (by decide) ?_
      refine r_aload_n C dX8_told_160 rfl ?_
      refine r_getI C dX8_told_161 flX8_157 (rfl) rfl ?_
      exact r_iret C F dX8_told_164 (pd_i (rfl) (rfl))
def seedM (h : Hp) (v : Int32) : Int32 × Hp := if v < 0 then (-1000000002, h) else (h 49 30, up h 49 30 v)
set_option maxHeartbeats 4000000 in
theorem s8_seed {v : Int32} : Sp l E SHP 0 M8_seed [.ref (E.1 + 49), .int v] h (PR (seedM h v)) := by
  refine Sp.of (by decide) (Nat.le_of_ble_eq_true rfl) (fun X C F => ?_)
  have C : Ok X E RX8 cX8_seed 3 := C
  have F : Fn X l E SHP 0 (some FieldType.int) (PR (seedM h v)) := F
  show G X E SHP (0, 0) 0 [(0, .ref (E.1 + 49)), (1, .int v)] [] h
  refine r_iload_n C dX8_seed_0 rfl ?_
  refine r_if_ge 7 C dX8_seed_1 (by decide) (fun c_1 => ?_) (fun c_1 => ?_)
  · refine r_aload_n C dX8_seed_7 rfl ?_
    refine r_getI C dX8_seed_8 flX8_207 (rfl) rfl ?_
    refine r_istore_n C dX8_seed_11 (by decide) rfl ?_
    refine r_aload_n C dX8_seed_12 rfl ?_
    refine r_iload_n C dX8_seed_13 rfl ?_
    refine r_putI C dX8_seed_14 fwX8_207 (rfl) rfl ?_
    refine r_iload_n C dX8_seed_17 rfl ?_
    exact r_iret C F dX8_seed_18 (by unfold PR seedM; rw [if_neg (Int32.not_lt.mpr c_1)]; exact ⟨rfl, rfl⟩)
  · refine r_ldc C dX8_seed_4 tw_793 ?_
    exact r_iret C F dX8_seed_6 (by unfold PR seedM; rw [if_pos (Int32.not_le.mp c_1)]; exact ⟨rfl, rfl⟩)
set_option maxHeartbeats 4000000 in
theorem s8_tear  : Sp l E SHP 0 M8_tear [.ref (E.1 + 49)] h (PR (h 49 31 + h 49 33, up (up h 49 31 0) 49 33 0)) := by
  refine Sp.of (by decide) (Nat.le_of_ble_eq_true rfl) (fun X C F => ?_)
  have C : Ok X E RX8 cX8_tear 2 := C
  have F : Fn X l E SHP 0 (some FieldType.int) (PR (h 49 31 + h 49 33, up (up h 49 31 0) 49 33 0)) := F
  show G X E SHP (0, 0) 0 [(0, .ref (E.1 + 49))] [] h
  refine r_aload_n C dX8_tear_0 rfl ?_
  refine r_getI C dX8_tear_1 flX8_151 (rfl) rfl ?_
  refine r_aload_n C dX8_tear_4 rfl ?_
  refine r_getI C dX8_tear_5 flX8_154 (rfl) rfl ?_
  refine r_iadd C dX8_tear_8 ?_
  refine r_istore_n C dX8_tear_9 (by decide) rfl ?_
  refine r_aload_n C dX8_tear_10 rfl ?_
  refine r_iconst (0) C dX8_tear_11 rfl ?_
  refine r_putI C dX8_tear_12 fwX8_151 (rfl) rfl ?_
  refine r_aload_n C dX8_tear_15 rfl ?_
  refine r_iconst (0) C dX8_tear_16 rfl ?_
  refine r_putI C dX8_tear_17 fwX8_154 (rfl) rfl ?_
  refine r_iload_n C dX8_tear_20 rfl ?_
  exact r_iret C F dX8_tear_21 ⟨rfl, rfl⟩
def judF (h : Hp) : Nat → Nat → Int32
  | 0, _ => -1
  | f + 1, k => if h 66 (2 * k) = h 57 9 ∧ ¬ h 66 (2 * k + 1) = h 57 0 then nI k else judF h f (k + 1)
set_option maxHeartbeats 4000000 in
theorem s8_judge {n : Nat} (hn : h 49 33 = nI n) (hle : n ≤ 20) : Sp l E SHP 0 M8_judge [.ref (E.1 + 49)] h (PD (some (.int (judF h n 0))) h) := by
  refine Sp.of (by decide) (Nat.le_of_ble_eq_true rfl) (fun X C F => ?_)
  have C : Ok X E RX8 cX8_judge 2 := C
  have F : Fn X l E SHP 0 (some FieldType.int) (PD (some (.int (judF h n 0))) h) := F
  show G X E SHP (0, 0) 0 [(0, .ref (E.1 + 49))] [] h
  have L : ∀ i, i ≤ n → judF h (n - i) i = judF h n 0 → G X E SHP (0, 0) 2 [(0, .ref (E.1 + 49)), (1, .int (nI i))] [] h := by
    refine loopN n _ (fun i hi ih e => ?_)
    refine r_iload_n C dX8_judge_2 rfl ?_
    refine r_aload_n C dX8_judge_3 rfl ?_
    refine r_getI C dX8_judge_4 flX8_154 (rfl) rfl ?_
    refine r_icmp_ge 55 C dX8_judge_7 (by decide) (fun c_7 => ?_) (fun c_7 => ?_)
    · rw [cLe (x := h 49 33) (c := nI i) (i := n) (n := i) (hn) (rfl) (by omega) (by omega)] at c_7
      refine r_iconst (-1) C dX8_judge_55 rfl ?_
      exact r_iret C F dX8_judge_56 (pd_i (by rw [← e, show n - i = 0 by omega]; rfl) rfl)
    · rw [cLe (x := h 49 33) (c := nI i) (i := n) (n := i) (hn) (rfl) (by omega) (by omega)] at c_7
      refine r_aload_n C dX8_judge_10 rfl ?_
      refine r_getR C dX8_judge_11 flX8_63 (rfl) rfl ?_
      refine r_iconst (2) C dX8_judge_14 rfl ?_
      refine r_iload_n C dX8_judge_15 rfl ?_
      refine r_imul C dX8_judge_16 ?_
      refine r_iald (2 * i) C dX8_judge_17 (rfl) (nI_lit2 i) (by omega) (by decide) ?_
      refine r_aload_n C dX8_judge_18 rfl ?_
      refine r_getR C dX8_judge_19 flX8_35 (rfl) rfl ?_
      refine r_bipush (9) C dX8_judge_22 rfl ?_
      refine r_iald (9) C dX8_judge_24 (rfl) (rfl) (by decide) (by decide) ?_
      refine r_icmp_ne 49 C dX8_judge_25 (by decide) (fun c_25 => ?_) (fun c_25 => ?_)
      · refine r_inc (1) C dX8_judge_49 rfl (by decide) rfl rfl ?_
        refine r_goto 2 C dX8_judge_52 (by decide) ?_
        exact (ih (by omega) (by rw [← e, show n - i = (n - (i + 1)) + 1 by omega]; exact (if_neg (by simp [c_25, *])).symm)).sub ⟨rfl, by rw [nI_succ]; rfl, trivial⟩
      · refine r_aload_n C dX8_judge_28 rfl ?_
        refine r_getR C dX8_judge_29 flX8_63 (rfl) rfl ?_
        refine r_iconst (2) C dX8_judge_32 rfl ?_
        refine r_iload_n C dX8_judge_33 rfl ?_
        refine r_imul C dX8_judge_34 ?_
        refine r_iconst (1) C dX8_judge_35 rfl ?_
        refine r_iadd C dX8_judge_36 ?_
        refine r_iald (2 * i + 1) C dX8_judge_37 (rfl) (ix21 i) (by omega) (by decide) ?_
        refine r_aload_n C dX8_judge_38 rfl ?_
        refine r_getR C dX8_judge_39 flX8_35 (rfl) rfl ?_
        refine r_iconst (0) C dX8_judge_42 rfl ?_
        refine r_iald (0) C dX8_judge_43 (rfl) (rfl) (by decide) (by decide) ?_
        refine r_icmp_eq 49 C dX8_judge_44 (by decide) (fun c_44 => ?_) (fun c_44 => ?_)
        · refine r_inc (1) C dX8_judge_49 rfl (by decide) rfl rfl ?_
          refine r_goto 2 C dX8_judge_52 (by decide) ?_
          exact (ih (by omega) (by rw [← e, show n - i = (n - (i + 1)) + 1 by omega]; exact (if_neg (by simp [c_25, *])).symm)).sub ⟨rfl, by rw [nI_succ]; rfl, trivial⟩
        · refine r_iload_n C dX8_judge_47 rfl ?_
          exact r_iret C F dX8_judge_48 (pd_i (by rw [← e, show n - i = (n - (i + 1)) + 1 by omega]; exact (if_pos ⟨c_25, c_44⟩).symm) rfl)
  refine r_iconst (0) C dX8_judge_0 rfl ?_
  refine r_istore_n C dX8_judge_1 (by decide) rfl ?_
  exact (L 0 (by omega) rfl).sub ⟨rfl, rfl, trivial⟩
theorem cpy_0 (f g : Nat → Int32) (sp dp : Nat) : va_cpy f g sp dp 0 = g := funext fun k => if_neg (by omega)
theorem cpy_s (f g : Nat → Int32) (sp dp n : Nat) : upd (va_cpy f g sp dp n) (dp + n) (f (sp + n)) = va_cpy f g sp dp (n + 1) := funext fun k => by
  unfold upd va_cpy
  by_cases e : k = dp + n
  · subst e
    rw [if_pos rfl, if_pos (by omega), show sp + (dp + n - dp) = sp + n by omega]
  · rw [if_neg e]
    by_cases q : dp ≤ k ∧ k < dp + n
    · rw [if_pos q, if_pos (by omega)]
    · rw [if_neg q, if_neg (by omega)]
set_option maxHeartbeats 4000000 in
theorem s8_copy {i j n m a b : Nat} (hi : SHP[i]? = some (.inr (0, n))) (hj : SHP[j]? = some (.inr (0, m))) (hij : i ≠ j) (ha : a + 16 ≤ n) (hb : b + 16 ≤ m) (hn : n < 1000) (hm : m < 1000) : Sp l E SHP 0 M8_copy [.ref (E.1 + i), .int (nI a), .ref (E.1 + j), .int (nI b)] h (PD none (upr h j (va_cpy (h i) (h j) a b 16))) := by
  refine Sp.of (by decide) (Nat.le_of_ble_eq_true rfl) (fun X C F => ?_)
  have C : Ok X E RX8 cX8_copy 5 := C
  have F : Fn X l E SHP 0 none (PD none (upr h j (va_cpy (h i) (h j) a b 16))) := F
  show G X E SHP (0, 0) 0 [(0, .ref (E.1 + i)), (1, .int (nI a)), (2, .ref (E.1 + j)), (3, .int (nI b))] [] h
  have L : ∀ k, k ≤ 16 → G X E SHP (0, 0) 3 [(0, .ref (E.1 + i)), (1, .int (nI a)), (2, .ref (E.1 + j)), (3, .int (nI b)), (4, .int (nI k))] [] (upr h j (va_cpy (h i) (h j) a b k)) := by
    refine loopN 16 _ (fun k hk ih => ?_)
    refine r_iload C dX8_copy_3 rfl ?_
    refine r_bipush (16) C dX8_copy_5 rfl ?_
    refine r_icmp_ge 28 C dX8_copy_7 (by decide) (fun c_7 => ?_) (fun c_7 => ?_)
    · rw [cLe (x := 16) (c := nI k) (i := 16) (n := k) (rfl) (rfl) (by omega) (by omega)] at c_7
      exact r_vret C F dX8_copy_28 (pd_v (by rw [show k = 16 by omega]))
    · rw [cLe (x := 16) (c := nI k) (i := 16) (n := k) (rfl) (rfl) (by omega) (by omega)] at c_7
      refine r_aload_n C dX8_copy_10 rfl ?_
      refine r_iload_n C dX8_copy_11 rfl ?_
      refine r_iload C dX8_copy_12 rfl ?_
      refine r_iadd C dX8_copy_14 ?_
      refine r_aload_n C dX8_copy_15 rfl ?_
      refine r_iload_n C dX8_copy_16 rfl ?_
      refine r_iload C dX8_copy_17 rfl ?_
      refine r_iadd C dX8_copy_19 ?_
      refine r_iald (a + k) C dX8_copy_20 (hi) (nI_add a k) (by omega) (by omega) ?_
      refine r_iast (b + k) C dX8_copy_21 (hj) (nI_add b k) (by omega) (by omega) ?_
      refine r_inc (1) C dX8_copy_22 rfl (by decide) rfl rfl ?_
      refine r_goto 3 C dX8_copy_25 (by omega) ?_
      refine (G.eq (ih (by omega)) rfl rfl ?_).sub ⟨rfl, rfl, rfl, rfl, by rw [nI_succ]; rfl, trivial⟩
      rw [upr_row _ _ _ hij, up_upr, cpy_s]
  refine r_iconst (0) C dX8_copy_0 rfl ?_
  refine r_istore C dX8_copy_1 (by decide) rfl ?_
  refine (G.eq (L 0 (by decide)) rfl rfl ?_).sub ⟨rfl, rfl, rfl, rfl, rfl, trivial⟩
  rw [cpy_0, upr_id rfl]
