variable {l : Launch} {E : Ev} {h : Hp}
theorem QM_same {A : At} {v : Int32} (hA : MA h A) : QM h (v, A) (some (.int v)) h := ⟨rfl, hA, fun _ _ => rfl⟩
noncomputable def fal (A : At) (i j b : Nat) : Nat := falF (aD A) (mI (aU A)) (mN (aU A)) (mM (aU A)) i j b
noncomputable def vFalls (A : At) (x y z : Int32) : Int32 := if ¬ thingA (aD A) x y z then -1000000001 else if ¬ (hasP (nI (mI (aU A))) x ∧ hasP (nI (mI (aU A))) z) then -1000000003 else nI (fal A (cl x) (cl y) (cl z))
abbrev lordP (A : At) (x : Int32) : Prop := inP x 0 (nI (dL (aD A)) - 1)
noncomputable def vDraws (A : At) (x : Int32) : Int32 := if ¬ lordP A x then -1000000001 else if ¬ hasP (nI (mI (aU A))) x then -1000000003 else nI (clF (aD A) (mN (aU A)) (mI (aU A)) (2 ^ cl x))
/-- can it be, and falls just that set, at what is written so -/
noncomputable def just (A : At) (i set c : Nat) : Bool := decide (c / 10 < dJ (aD A)) && (decide (c % 10 < dL (aD A)) && (decide (¬ c % 10 = i) && ((mI (aU A)).testBit (c % 10) && decide (fal A i (c / 10) (c % 10) = set))))
def whF (p : Nat → Bool) (x : Int32) : Nat → Int32
  | 0 => -1
  | k + 1 => if p k = true ∧ nI (cnt p k) = x then nI k else whF p x k
def orN (p : Nat → Nat) : Nat → Nat
  | 0 => 0
  | k + 1 => orN p k ||| p k
theorem orN_bit (p : Nat → Nat) (b : Nat) : ∀ n, (orN p n).testBit b = true ↔ ∃ k, k < n ∧ (p k).testBit b = true
  | 0 => by simp [orN]
  | n + 1 => by
    show (orN p n ||| p n).testBit b = true ↔ _
    rw [Nat.testBit_or, Bool.or_eq_true, orN_bit p b n]
    constructor
    · rintro (⟨k, h1, h2⟩ | h2)
      · exact ⟨k, by omega, h2⟩
      · exact ⟨n, by omega, h2⟩
    · rintro ⟨k, h1, h2⟩
      by_cases e : k = n
      · subst e; exact Or.inr h2
      · exact Or.inl ⟨k, by omega, h2⟩
theorem orN_lt (p : Nat → Nat) (N : Nat) : ∀ n, (∀ k, k < n → p k < 2 ^ N) → orN p n < 2 ^ N
  | 0, _ => Nat.two_pow_pos N
  | n + 1, q => Nat.or_lt_two_pow (orN_lt p N n (fun k hk => q k (by omega))) (q n (by omega))
noncomputable def sureF (A : At) (i set : Nat) : Nat := orN (fun c => if just A i set c then 2 ^ (c / 10) else 0) 60
noncomputable def vToldBy (A : At) (x y z : Int32) : Int32 := if ¬ (lordP A x ∧ setA (aD A) y) then -1000000001 else if ¬ hasP (nI (mI (aU A))) x then -1000000003 else if z = -1 then nI (cnt (just A (cl x) (cl y)) 60) else whF (just A (cl x) (cl y)) z 60
noncomputable def vSure (A : At) (x y : Int32) : Int32 := if ¬ (lordP A x ∧ setA (aD A) y) then -1000000001 else if ¬ hasP (nI (mI (aU A))) x then -1000000003 else nI (sureF A (cl x) (cl y))
noncomputable def wirF (A : At) (set : Nat) : Nat := orN (fun i => if (mI (aU A)).testBit i && !decide (sureF A i set = 0) then 2 ^ i else 0) (dL (aD A))
noncomputable def vWired (A : At) (y : Int32) : Int32 := if ¬ setA (aD A) y then -1000000001 else nI (wirF A (cl y))
theorem fal_lt {A : At} (q : okD (aD A)) (i j b : Nat) : fal A i j b < 64 := Nat.lt_of_lt_of_le (falF_lt q _ _ _ _ _ _) (Nat.pow_le_pow_right (n := 2) (by decide) q.1)
theorem RW_A {A : At} (hA : MA h A) : RW h 57 (mI (aU A)) (mN (aU A)) (mM (aU A)) := RW_of rfl hA.2.2.2.2.2.2.1 hA.1.2.2.2.2.1 hA.1.2.1
theorem sureF_lt {A : At} {i set : Nat} : sureF A i set < 64 := orN_lt _ 6 60 (fun k hk => by
  split
  · exact Nat.pow_lt_pow_right (by decide) (by omega)
  · decide)
set_option maxHeartbeats 4000000 in
theorem s8_falls {A : At} {x y z : Int32} (hA : MA h A) : Sp l E SHP 3 M8_falls [.ref (E.1 + 49), .int x, .int y, .int z] h (QM h (vFalls A x y z, A)) := by
  refine Sp.of (by decide) (Nat.le_of_ble_eq_true rfl) (fun X C F => ?_)
  have C : Ok X E RX8 cX8_falls 4 := C
  have F : Fn X l E SHP 3 (some FieldType.int) (QM h (vFalls A x y z, A)) := F
  show G X E SHP (0, 0) 0 [(0, .ref (E.1 + 49)), (1, .int x), (2, .int y), (3, .int z)] [] h
  obtain ⟨⟨a1, a2, a3, a4, a5, a6, a7, a8, a9, a10, a11, a12⟩, ⟨b1, b2⟩, b3, b4, b5, b6, b7, ⟨b8, b9⟩, b10, ⟨b11, b12⟩, b13, b14⟩ := id hA
  obtain ⟨okd, e16, e17, e540, e541, eL, eJ⟩ := id b5
  obtain ⟨o1, o2, o3, o4, o5, o6⟩ := id okd
  have p6 : 2 ^ dL (aD A) ≤ 64 := Nat.pow_le_pow_right (n := 2) (by decide) o1
  obtain ⟨k0, k1, k2, k3, k4, k5⟩ := id a5
  refine r_aload_n C dX8_falls_0 rfl ?_
  refine r_iload_n C dX8_falls_1 rfl ?_
  refine r_cVi C F dX8_falls_2 (s8_isLord) tw_850 m8_isLord (rfl) rfl (by decide) rfl (Nat.le_of_ble_eq_true rfl) ?_
  refine r_if_eq 29 C dX8_falls_5 (by decide) (fun c_5 => ?_) (fun c_5 => ?_)
  · rw [bz_eq0, e16] at c_5
    refine r_ldc C dX8_falls_29 tw_854 ?_
    exact r_iret C F dX8_falls_31 (by unfold vFalls; rw [if_pos (fun q => c_5 q.1)]; exact QM_same hA)
  · rw [bz_ne0, e16] at c_5
    refine r_aload_n C dX8_falls_8 rfl ?_
    refine r_iload_n C dX8_falls_9 rfl ?_
    refine r_cVi C F dX8_falls_10 (s8_isJoke) tw_863 m8_isJoke (rfl) rfl (by decide) rfl (Nat.le_of_ble_eq_true rfl) ?_
    refine r_if_eq 29 C dX8_falls_13 (by decide) (fun c_13 => ?_) (fun c_13 => ?_)
    · rw [bz_eq0, e17] at c_13
      refine r_ldc C dX8_falls_29 tw_854 ?_
      exact r_iret C F dX8_falls_31 (by unfold vFalls; rw [if_pos (fun q => c_13 q.2.1)]; exact QM_same hA)
    · rw [bz_ne0, e17] at c_13
      refine r_aload_n C dX8_falls_16 rfl ?_
      refine r_iload_n C dX8_falls_17 rfl ?_
      refine r_cVi C F dX8_falls_18 (s8_isLord) tw_850 m8_isLord (rfl) rfl (by decide) rfl (Nat.le_of_ble_eq_true rfl) ?_
      refine r_if_eq 29 C dX8_falls_21 (by decide) (fun c_21 => ?_) (fun c_21 => ?_)
      · rw [bz_eq0, e16] at c_21
        refine r_ldc C dX8_falls_29 tw_854 ?_
        exact r_iret C F dX8_falls_31 (by unfold vFalls; rw [if_pos (fun q => c_21 q.2.2.1)]; exact QM_same hA)
      · rw [bz_ne0, e16] at c_21
        refine r_iload_n C dX8_falls_24 rfl ?_
        refine r_iload_n C dX8_falls_25 rfl ?_
        refine r_icmp_ne 32 C dX8_falls_26 (by decide) (fun c_26 => ?_) (fun c_26 => ?_)
        · have ht : thingA (aD A) x y z := ⟨c_5, c_13, c_21, c_26⟩
          have ht0 := ht
          obtain ⟨i, hi, rfl⟩ := (inP_lord rfl o1).mp c_5
          obtain ⟨j, hj, rfl⟩ := (inP_lord rfl o2).mp c_13
          obtain ⟨k, hk, rfl⟩ := (inP_lord rfl o1).mp c_21
          refine r_aload_n C dX8_falls_32 rfl ?_
          refine r_iload_n C dX8_falls_33 rfl ?_
          refine r_cVi C F dX8_falls_34 (s8_isIn) tw_875 m8_isIn (rfl) rfl (by decide) rfl (Nat.le_of_ble_eq_true rfl) ?_
          refine r_if_eq 62 C dX8_falls_37 (by decide) (fun c_37 => ?_) (fun c_37 => ?_)
          · rw [bz_eq0, b7.1] at c_37
            refine r_ldc C dX8_falls_62 tw_882 ?_
            exact r_iret C F dX8_falls_64 (by unfold vFalls; rw [if_neg (not_not_intro ht0), if_pos (fun q => c_37 q.1)]; exact QM_same hA)
          · rw [bz_ne0, b7.1] at c_37
            refine r_aload_n C dX8_falls_40 rfl ?_
            refine r_iload_n C dX8_falls_41 rfl ?_
            refine r_cVi C F dX8_falls_42 (s8_isIn) tw_875 m8_isIn (rfl) rfl (by decide) rfl (Nat.le_of_ble_eq_true rfl) ?_
            refine r_if_eq 62 C dX8_falls_45 (by decide) (fun c_45 => ?_) (fun c_45 => ?_)
            · rw [bz_eq0, b7.1] at c_45
              refine r_ldc C dX8_falls_62 tw_882 ?_
              exact r_iret C F dX8_falls_64 (by unfold vFalls; rw [if_neg (not_not_intro ht0), if_pos (fun q => c_45 q.2)]; exact QM_same hA)
            · rw [bz_ne0, b7.1] at c_45
              refine r_aload_n C dX8_falls_48 rfl ?_
              refine r_aload_n C dX8_falls_49 rfl ?_
              refine r_getR C dX8_falls_50 flX8_35 (rfl) rfl ?_
              refine r_iload_n C dX8_falls_53 rfl ?_
              refine r_iload_n C dX8_falls_54 rfl ?_
              refine r_iload_n C dX8_falls_55 rfl ?_
              refine r_cVi C F dX8_falls_56 (s8_fallsBy (i := i) (j := j) (b := k) b5 (RW_A hA) (by omega) hj (by omega)) tw_894 m8_fallsBy (rfl) rfl (by decide) rfl (Nat.le_of_ble_eq_true rfl) ?_
              refine r_goto 64 C dX8_falls_59 (by decide) ?_
              exact r_iret C F dX8_falls_64 (by unfold vFalls; rw [if_neg (not_not_intro ht0), if_neg (not_not_intro ⟨c_37, c_45⟩), cl_nI (by omega), cl_nI (by omega), cl_nI (by omega)]; exact QM_same hA)
        · refine r_ldc C dX8_falls_29 tw_854 ?_
          exact r_iret C F dX8_falls_31 (by unfold vFalls; rw [if_pos (fun q => q.2.2.2 c_26)]; exact QM_same hA)
set_option maxHeartbeats 4000000 in
theorem s8_draws {A : At} {x : Int32} (hA : MA h A) : Sp l E SHP 2 M8_draws [.ref (E.1 + 49), .int x] h (QM h (vDraws A x, A)) := by
  refine Sp.of (by decide) (Nat.le_of_ble_eq_true rfl) (fun X C F => ?_)
  have C : Ok X E RX8 cX8_draws 2 := C
  have F : Fn X l E SHP 2 (some FieldType.int) (QM h (vDraws A x, A)) := F
  show G X E SHP (0, 0) 0 [(0, .ref (E.1 + 49)), (1, .int x)] [] h
  obtain ⟨⟨a1, a2, a3, a4, a5, a6, a7, a8, a9, a10, a11, a12⟩, ⟨b1, b2⟩, b3, b4, b5, b6, b7, ⟨b8, b9⟩, b10, ⟨b11, b12⟩, b13, b14⟩ := id hA
  obtain ⟨okd, e16, e17, e540, e541, eL, eJ⟩ := id b5
  obtain ⟨o1, o2, o3, o4, o5, o6⟩ := id okd
  have p6 : 2 ^ dL (aD A) ≤ 64 := Nat.pow_le_pow_right (n := 2) (by decide) o1
  obtain ⟨k0, k1, k2, k3, k4, k5⟩ := id a5
  refine r_aload_n C dX8_draws_0 rfl ?_
  refine r_iload_n C dX8_draws_1 rfl ?_
  refine r_cVi C F dX8_draws_2 (s8_isLord) tw_850 m8_isLord (rfl) rfl (by decide) rfl (Nat.le_of_ble_eq_true rfl) ?_
  refine r_if_ne 11 C dX8_draws_5 (by decide) (fun c_5 => ?_) (fun c_5 => ?_)
  · rw [bz_ne0, e16] at c_5
    have c_5b : lordP A x := c_5
    obtain ⟨i, hi, rfl⟩ := (inP_lord rfl o1).mp c_5
    refine r_aload_n C dX8_draws_11 rfl ?_
    refine r_iload_n C dX8_draws_12 rfl ?_
    refine r_cVi C F dX8_draws_13 (s8_isIn) tw_875 m8_isIn (rfl) rfl (by decide) rfl (Nat.le_of_ble_eq_true rfl) ?_
    refine r_if_eq 39 C dX8_draws_16 (by decide) (fun c_16 => ?_) (fun c_16 => ?_)
    · rw [bz_eq0, b7.1] at c_16
      refine r_ldc C dX8_draws_39 tw_882 ?_
      exact r_iret C F dX8_draws_41 (by unfold vDraws; rw [if_neg (not_not_intro c_5b), if_pos c_16]; exact QM_same hA)
    · rw [bz_ne0, b7.1] at c_16
      refine r_aload_n C dX8_draws_19 rfl ?_
      refine r_aload_n C dX8_draws_20 rfl ?_
      refine r_getR C dX8_draws_21 flX8_35 (rfl) rfl ?_
      refine r_iconst (1) C dX8_draws_24 rfl ?_
      refine r_iload_n C dX8_draws_25 rfl ?_
      refine r_ishl C dX8_draws_26 ?_
      refine r_aload_n C dX8_draws_27 rfl ?_
      refine r_getR C dX8_draws_28 flX8_35 (rfl) rfl ?_
      refine r_iconst (0) C dX8_draws_31 rfl ?_
      refine r_iald (0) C dX8_draws_32 (rfl) (rfl) (by decide) (by decide) ?_
      rw [b7.1, shl1_nI (by omega)]
      refine r_cVi C F dX8_draws_33 (s8_caught (t := mN (aU A)) (m0 := 2 ^ i) (my := mI (aU A)) b5 rfl b7.2.2.1 (by omega) (Nat.pow_lt_pow_right (by decide) hi) (by omega)) tw_902 m8_caught (rfl) rfl (by decide) rfl (Nat.le_of_ble_eq_true rfl) ?_
      refine r_goto 41 C dX8_draws_36 (by decide) ?_
      exact r_iret C F dX8_draws_41 (by unfold vDraws; rw [if_neg (not_not_intro c_5b), if_neg (not_not_intro c_16), cl_nI (by omega)]; exact QM_same hA)
  · rw [bz_eq0, e16] at c_5
    refine r_ldc C dX8_draws_8 tw_854 ?_
    exact r_iret C F dX8_draws_10 (by unfold vDraws; rw [if_pos c_5]; exact QM_same hA)
set_option maxHeartbeats 4000000 in
theorem s8_isJust {A : At} {i c s : Nat} (hA : MA h A) (hi : i < 6) (hc : c < 60) (hs : s < 64) : Sp l E SHP 3 M8_isJust [.ref (E.1 + 49), .int (nI i), .int (nI c), .int (nI s)] h (PD (some (.int (bz (just A i s c = true)))) h) := by
  refine Sp.of (by decide) (Nat.le_of_ble_eq_true rfl) (fun X C F => ?_)
  have C : Ok X E RX8 cX8_isJust 6 := C
  have F : Fn X l E SHP 3 (some FieldType.boolean) (PD (some (.int (bz (just A i s c = true)))) h) := F
  show G X E SHP (0, 0) 0 [(0, .ref (E.1 + 49)), (1, .int (nI i)), (2, .int (nI c)), (3, .int (nI s))] [] h
  obtain ⟨⟨a1, a2, a3, a4, a5, a6, a7, a8, a9, a10, a11, a12⟩, ⟨b1, b2⟩, b3, b4, b5, b6, b7, ⟨b8, b9⟩, b10, ⟨b11, b12⟩, b13, b14⟩ := id hA
  obtain ⟨okd, e16, e17, e540, e541, eL, eJ⟩ := id b5
  obtain ⟨o1, o2, o3, o4, o5, o6⟩ := id okd
  have p6 : 2 ^ dL (aD A) ≤ 64 := Nat.pow_le_pow_right (n := 2) (by decide) o1
  obtain ⟨k0, k1, k2, k3, k4, k5⟩ := id a5
  refine r_iload_n C dX8_isJust_0 rfl ?_
  refine r_bipush (10) C dX8_isJust_1 rfl ?_
  refine r_idiv C dX8_isJust_3 (by decide) ?_
  rw [show nI c / 10 = nI (c / 10) from pk_div (by omega) (by decide) (by decide)]
  refine r_istore C dX8_isJust_4 (by decide) rfl ?_
  refine r_iload_n C dX8_isJust_6 rfl ?_
  refine r_bipush (10) C dX8_isJust_7 rfl ?_
  refine r_irem C dX8_isJust_9 (by decide) ?_
  rw [show nI c - nI c / 10 * 10 = nI (c % 10) from pk_rem (by omega) (by decide) (by decide)]
  refine r_istore C dX8_isJust_10 (by decide) rfl ?_
  refine r_iload C dX8_isJust_12 rfl ?_
  refine r_aload_n C dX8_isJust_14 rfl ?_
  refine r_getI C dX8_isJust_15 flX8_79 (rfl) rfl ?_
  refine r_icmp_ge 66 C dX8_isJust_18 (by decide) (fun c_18 => ?_) (fun c_18 => ?_)
  · rw [cLe (x := h 49 17) (c := nI (c / 10)) (i := dJ (aD A)) (n := c / 10) (e17) (rfl) (by omega) (by omega)] at c_18
    have hjj : just A i s c = false := by unfold just; rw [decide_eq_false (by omega)]; rfl
    refine r_iconst (0) C dX8_isJust_66 rfl ?_
    exact r_zret C F dX8_isJust_67 (by first | rfl | exact narrow_bz _) (pd_i (by rw [hjj]; rfl) (rfl))
  · rw [cLe (x := h 49 17) (c := nI (c / 10)) (i := dJ (aD A)) (n := c / 10) (e17) (rfl) (by omega) (by omega)] at c_18
    refine r_iload C dX8_isJust_21 rfl ?_
    refine r_aload_n C dX8_isJust_23 rfl ?_
    refine r_getI C dX8_isJust_24 flX8_72 (rfl) rfl ?_
    refine r_icmp_ge 66 C dX8_isJust_27 (by decide) (fun c_27 => ?_) (fun c_27 => ?_)
    · rw [cLe (x := h 49 16) (c := nI (c % 10)) (i := dL (aD A)) (n := c % 10) (e16) (rfl) (by omega) (by omega)] at c_27
      have hjj : just A i s c = false := by unfold just; rw [decide_eq_false (by omega : ¬ c % 10 < dL (aD A)), Bool.false_and, Bool.and_false]
      refine r_iconst (0) C dX8_isJust_66 rfl ?_
      exact r_zret C F dX8_isJust_67 (by first | rfl | exact narrow_bz _) (pd_i (by rw [hjj]; rfl) (rfl))
    · rw [cLe (x := h 49 16) (c := nI (c % 10)) (i := dL (aD A)) (n := c % 10) (e16) (rfl) (by omega) (by omega)] at c_27
      refine r_iload C dX8_isJust_30 rfl ?_
      refine r_iload_n C dX8_isJust_32 rfl ?_
      refine r_icmp_eq 66 C dX8_isJust_33 (by decide) (fun c_33 => ?_) (fun c_33 => ?_)
      · rw [cEq (x := nI (c % 10)) (c := nI i) (i := c % 10) (n := i) (rfl) (rfl) (by omega) (by omega)] at c_33
        have hjj : just A i s c = false := by unfold just; rw [decide_eq_false (not_not_intro c_33), Bool.false_and, Bool.and_false, Bool.and_false]
        refine r_iconst (0) C dX8_isJust_66 rfl ?_
        exact r_zret C F dX8_isJust_67 (by first | rfl | exact narrow_bz _) (pd_i (by rw [hjj]; rfl) (rfl))
      · rw [cEq (x := nI (c % 10)) (c := nI i) (i := c % 10) (n := i) (rfl) (rfl) (by omega) (by omega)] at c_33
        refine r_aload_n C dX8_isJust_36 rfl ?_
        refine r_iload C dX8_isJust_37 rfl ?_
        refine r_cVi C F dX8_isJust_39 (s8_isIn) tw_875 m8_isIn (rfl) rfl (by decide) rfl (Nat.le_of_ble_eq_true rfl) ?_
        refine r_if_eq 66 C dX8_isJust_42 (by decide) (fun c_42 => ?_) (fun c_42 => ?_)
        · rw [bz_eq0, b7.1, hasP_nI (by omega) (by omega), Bool.not_eq_true] at c_42
          have hjj : just A i s c = false := by unfold just; rw [c_42, Bool.false_and, Bool.and_false, Bool.and_false, Bool.and_false]
          refine r_iconst (0) C dX8_isJust_66 rfl ?_
          exact r_zret C F dX8_isJust_67 (by first | rfl | exact narrow_bz _) (pd_i (by rw [hjj]; rfl) (rfl))
        · rw [bz_ne0, b7.1, hasP_nI (by omega) (by omega)] at c_42
          have hfl := fal_lt (A := A) okd i (c / 10) (c % 10)
          refine r_aload_n C dX8_isJust_45 rfl ?_
          refine r_aload_n C dX8_isJust_46 rfl ?_
          refine r_getR C dX8_isJust_47 flX8_35 (rfl) rfl ?_
          refine r_iload_n C dX8_isJust_50 rfl ?_
          refine r_iload C dX8_isJust_51 rfl ?_
          refine r_iload C dX8_isJust_53 rfl ?_
          refine r_cVi C F dX8_isJust_55 (s8_fallsBy (i := i) (j := c / 10) (b := c % 10) b5 (RW_A hA) (by omega) (by omega) (by omega)) tw_894 m8_fallsBy (rfl) rfl (by decide) rfl (Nat.le_of_ble_eq_true rfl) ?_
          rw [show falF (aD A) (mI (aU A)) (mN (aU A)) (mM (aU A)) i (c / 10) (c % 10) = fal A i (c / 10) (c % 10) from rfl]
          refine r_iload_n C dX8_isJust_58 rfl ?_
          refine r_icmp_ne 66 C dX8_isJust_59 (by decide) (fun c_59 => ?_) (fun c_59 => ?_)
          · rw [cEq (x := nI (fal A i (c / 10) (c % 10))) (c := nI s) (i := fal A i (c / 10) (c % 10)) (n := s) (rfl) (rfl) (by omega) (by omega)] at c_59
            have hjj : just A i s c = false := by unfold just; rw [decide_eq_false c_59, Bool.and_false, Bool.and_false, Bool.and_false, Bool.and_false]
            refine r_iconst (0) C dX8_isJust_66 rfl ?_
            exact r_zret C F dX8_isJust_67 (by first | rfl | exact narrow_bz _) (pd_i (by rw [hjj]; rfl) (rfl))
          · rw [cEq (x := nI (fal A i (c / 10) (c % 10))) (c := nI s) (i := fal A i (c / 10) (c % 10)) (n := s) (rfl) (rfl) (by omega) (by omega)] at c_59
            have hjj : just A i s c = true := by unfold just; rw [decide_eq_true (show c / 10 < dJ (aD A) by omega), decide_eq_true (show c % 10 < dL (aD A) by omega), decide_eq_true c_33, c_42, decide_eq_true c_59]; rfl
            refine r_iconst (1) C dX8_isJust_62 rfl ?_
            refine r_goto 67 C dX8_isJust_63 (by decide) ?_
            exact r_zret C F dX8_isJust_67 (by first | rfl | exact narrow_bz _) (pd_i (by rw [hjj]; rfl) (rfl))
set_option maxHeartbeats 4000000 in
theorem s8_toldBy {A : At} {x y z : Int32} (hA : MA h A) : Sp l E SHP 4 M8_toldBy [.ref (E.1 + 49), .int x, .int y, .int z] h (QM h (vToldBy A x y z, A)) := by
  refine Sp.of (by decide) (Nat.le_of_ble_eq_true rfl) (fun X C F => ?_)
  have C : Ok X E RX8 cX8_toldBy 7 := C
  have F : Fn X l E SHP 4 (some FieldType.int) (QM h (vToldBy A x y z, A)) := F
  show G X E SHP (0, 0) 0 [(0, .ref (E.1 + 49)), (1, .int x), (2, .int y), (3, .int z)] [] h
  obtain ⟨⟨a1, a2, a3, a4, a5, a6, a7, a8, a9, a10, a11, a12⟩, ⟨b1, b2⟩, b3, b4, b5, b6, b7, ⟨b8, b9⟩, b10, ⟨b11, b12⟩, b13, b14⟩ := id hA
  obtain ⟨okd, e16, e17, e540, e541, eL, eJ⟩ := id b5
  obtain ⟨o1, o2, o3, o4, o5, o6⟩ := id okd
  have p6 : 2 ^ dL (aD A) ≤ 64 := Nat.pow_le_pow_right (n := 2) (by decide) o1
  obtain ⟨k0, k1, k2, k3, k4, k5⟩ := id a5
  have L : ∀ i s, i < 6 → s < 64 → ∀ k, k ≤ 60 → (lordP A x ∧ setA (aD A) y) → hasP (nI (mI (aU A))) x → x = nI i → y = nI s → G X E SHP (0, 0) 39 [(0, .ref (E.1 + 49)), (1, .int (nI i)), (2, .int (nI s)), (3, .int z), (4, .int (nI (cnt (just A i s) k))), (5, .int (whF (just A i s) z k)), (6, .int (nI k))] [] h := by
    intro i s hi6 hs6
    refine loopN 60 _ (fun k hk ih hxy hin hxi hys => ?_)
    refine r_iload C dX8_toldBy_39 rfl ?_
    refine r_bipush (60) C dX8_toldBy_41 rfl ?_
    refine r_icmp_ge 81 C dX8_toldBy_43 (by decide) (fun c_43 => ?_) (fun c_43 => ?_)
    · rw [cLe (x := 60) (c := nI k) (i := 60) (n := k) (rfl) (rfl) (by omega) (by omega)] at c_43
      refine r_iload_n C dX8_toldBy_81 rfl ?_
      refine r_iconst (-1) C dX8_toldBy_82 rfl ?_
      refine r_icmp_ne 91 C dX8_toldBy_83 (by decide) (fun c_83 => ?_) (fun c_83 => ?_)
      · refine r_iload C dX8_toldBy_91 rfl ?_
        refine r_iret C F dX8_toldBy_93 ?_
        unfold vToldBy
        rw [if_neg (not_not_intro hxy), if_neg (not_not_intro hin), if_neg c_83, hxi, hys, cl_nI (by omega), cl_nI (by omega), show 60 = k by omega]
        exact QM_same hA
      · refine r_iload C dX8_toldBy_86 rfl ?_
        refine r_goto 93 C dX8_toldBy_88 (by decide) ?_
        refine r_iret C F dX8_toldBy_93 ?_
        unfold vToldBy
        rw [if_neg (not_not_intro hxy), if_neg (not_not_intro hin), if_pos c_83, hxi, hys, cl_nI (by omega), cl_nI (by omega), show 60 = k by omega]
        exact QM_same hA
    · rw [cLe (x := 60) (c := nI k) (i := 60) (n := k) (rfl) (rfl) (by omega) (by omega)] at c_43
      refine r_aload_n C dX8_toldBy_46 rfl ?_
      refine r_iload_n C dX8_toldBy_47 rfl ?_
      refine r_iload C dX8_toldBy_48 rfl ?_
      refine r_iload_n C dX8_toldBy_50 rfl ?_
      refine r_cVi C F dX8_toldBy_51 (s8_isJust hA hi6 (by omega) hs6) tw_984 m8_isJust (rfl) rfl (by decide) rfl (Nat.le_of_ble_eq_true rfl) ?_
      refine r_if_eq 75 C dX8_toldBy_54 (by decide) (fun c_54 => ?_) (fun c_54 => ?_)
      · rw [bz_eq0] at c_54
        refine r_inc (1) C dX8_toldBy_75 rfl (by decide) rfl rfl ?_
        refine r_goto 39 C dX8_toldBy_78 (by decide) ?_
        exact (ih (by omega) hxy hin hxi hys).sub ⟨rfl, rfl, rfl, rfl, (by rw [show cnt (just A i s) (k + 1) = cnt (just A i s) k by simp [cnt, c_54]]; rfl), (by rw [show whF (just A i s) z (k + 1) = whF (just A i s) z k by simp [whF, c_54]]; rfl), by rw [nI_succ]; rfl, trivial⟩
      · rw [bz_ne0] at c_54
        refine r_iload C dX8_toldBy_57 rfl ?_
        refine r_iload_n C dX8_toldBy_59 rfl ?_
        refine r_icmp_ne 68 C dX8_toldBy_60 (by decide) (fun c_60 => ?_) (fun c_60 => ?_)
        · refine r_iload C dX8_toldBy_68 rfl ?_
          refine r_istore C dX8_toldBy_70 (by decide) rfl ?_
          refine r_inc (1) C dX8_toldBy_72 rfl (by decide) rfl rfl ?_
          refine r_inc (1) C dX8_toldBy_75 rfl (by decide) rfl rfl ?_
          refine r_goto 39 C dX8_toldBy_78 (by decide) ?_
          exact (ih (by omega) hxy hin hxi hys).sub ⟨rfl, rfl, rfl, rfl, (by rw [show cnt (just A i s) (k + 1) = cnt (just A i s) k + 1 by simp [cnt, c_54], ← nI_add]; rfl), (by rw [show whF (just A i s) z (k + 1) = whF (just A i s) z k by simp [whF, c_54, c_60]]; rfl), by rw [nI_succ]; rfl, trivial⟩
        · refine r_iload C dX8_toldBy_63 rfl ?_
          refine r_goto 70 C dX8_toldBy_65 (by decide) ?_
          refine r_istore C dX8_toldBy_70 (by decide) rfl ?_
          refine r_inc (1) C dX8_toldBy_72 rfl (by decide) rfl rfl ?_
          refine r_inc (1) C dX8_toldBy_75 rfl (by decide) rfl rfl ?_
          refine r_goto 39 C dX8_toldBy_78 (by decide) ?_
          exact (ih (by omega) hxy hin hxi hys).sub ⟨rfl, rfl, rfl, rfl, (by rw [show cnt (just A i s) (k + 1) = cnt (just A i s) k + 1 by simp [cnt, c_54], ← nI_add]; rfl), (by rw [show whF (just A i s) z (k + 1) = nI k by simp [whF, c_54, c_60]]; rfl), by rw [nI_succ]; rfl, trivial⟩
  refine r_aload_n C dX8_toldBy_0 rfl ?_
  refine r_iload_n C dX8_toldBy_1 rfl ?_
  refine r_cVi C F dX8_toldBy_2 (s8_isLord) tw_850 m8_isLord (rfl) rfl (by decide) rfl (Nat.le_of_ble_eq_true rfl) ?_
  refine r_if_eq 16 C dX8_toldBy_5 (by decide) (fun c_5 => ?_) (fun c_5 => ?_)
  · rw [bz_eq0, e16] at c_5
    refine r_ldc C dX8_toldBy_16 tw_854 ?_
    exact r_iret C F dX8_toldBy_18 (by unfold vToldBy; rw [if_pos (fun q => c_5 q.1)]; exact QM_same hA)
  · rw [bz_ne0, e16] at c_5
    refine r_aload_n C dX8_toldBy_8 rfl ?_
    refine r_iload_n C dX8_toldBy_9 rfl ?_
    refine r_cVi C F dX8_toldBy_10 (s8_isSet) tw_980 m8_isSet (rfl) rfl (by decide) rfl (Nat.le_of_ble_eq_true rfl) ?_
    refine r_if_ne 19 C dX8_toldBy_13 (by decide) (fun c_13 => ?_) (fun c_13 => ?_)
    · rw [bz_ne0, every_nI o1 e16] at c_13
      have hxy : lordP A x ∧ setA (aD A) y := ⟨c_5, c_13⟩
      refine r_aload_n C dX8_toldBy_19 rfl ?_
      refine r_iload_n C dX8_toldBy_20 rfl ?_
      refine r_cVi C F dX8_toldBy_21 (s8_isIn) tw_875 m8_isIn (rfl) rfl (by decide) rfl (Nat.le_of_ble_eq_true rfl) ?_
      refine r_if_ne 30 C dX8_toldBy_24 (by decide) (fun c_24 => ?_) (fun c_24 => ?_)
      · rw [bz_ne0, b7.1] at c_24
        refine r_iconst (0) C dX8_toldBy_30 rfl ?_
        refine r_istore C dX8_toldBy_31 (by decide) rfl ?_
        refine r_iconst (-1) C dX8_toldBy_33 rfl ?_
        refine r_istore C dX8_toldBy_34 (by decide) rfl ?_
        refine r_iconst (0) C dX8_toldBy_36 rfl ?_
        refine r_istore C dX8_toldBy_37 (by decide) rfl ?_
        obtain ⟨i, hi, hxi⟩ := (inP_lord rfl o1).mp c_5
        obtain ⟨s, hs, hys⟩ := inP_of rfl (by omega) c_13
        exact (L i s (by omega) (by omega) 0 (by omega) hxy c_24 hxi hys).sub ⟨rfl, by rw [← hxi]; rfl, by rw [← hys]; rfl, rfl, rfl, rfl, rfl, trivial⟩
      · rw [bz_eq0, b7.1] at c_24
        refine r_ldc C dX8_toldBy_27 tw_882 ?_
        exact r_iret C F dX8_toldBy_29 (by unfold vToldBy; rw [if_neg (not_not_intro hxy), if_pos c_24]; exact QM_same hA)
    · rw [bz_eq0, every_nI o1 e16] at c_13
      refine r_ldc C dX8_toldBy_16 tw_854 ?_
      exact r_iret C F dX8_toldBy_18 (by unfold vToldBy; rw [if_pos (fun q => c_13 q.2)]; exact QM_same hA)
set_option maxHeartbeats 4000000 in
theorem s8_sureBy {A : At} {i s : Nat} (hA : MA h A) (hi : i < 6) (hs : s < 64) : Sp l E SHP 4 M8_sureBy [.ref (E.1 + 49), .int (nI i), .int (nI s)] h (PD (some (.int (nI (sureF A i s)))) h) := by
  refine Sp.of (by decide) (Nat.le_of_ble_eq_true rfl) (fun X C F => ?_)
  have C : Ok X E RX8 cX8_sureBy 5 := C
  have F : Fn X l E SHP 4 (some FieldType.int) (PD (some (.int (nI (sureF A i s)))) h) := F
  show G X E SHP (0, 0) 0 [(0, .ref (E.1 + 49)), (1, .int (nI i)), (2, .int (nI s))] [] h
  have L : ∀ k, k ≤ 60 → G X E SHP (0, 0) 5 [(0, .ref (E.1 + 49)), (1, .int (nI i)), (2, .int (nI s)), (3, .int (nI (orN (fun c => if just A i s c then 2 ^ (c / 10) else 0) k))), (4, .int (nI k))] [] h := by
    refine loopN 60 _ (fun k hk ih => ?_)
    refine r_iload C dX8_sureBy_5 rfl ?_
    refine r_bipush (60) C dX8_sureBy_7 rfl ?_
    refine r_icmp_ge 43 C dX8_sureBy_9 (by decide) (fun c_9 => ?_) (fun c_9 => ?_)
    · rw [cLe (x := 60) (c := nI k) (i := 60) (n := k) (rfl) (rfl) (by omega) (by omega)] at c_9
      refine r_iload_n C dX8_sureBy_43 rfl ?_
      exact r_iret C F dX8_sureBy_44 (pd_i (by rw [show k = 60 by omega]; rfl) (rfl))
    · rw [cLe (x := 60) (c := nI k) (i := 60) (n := k) (rfl) (rfl) (by omega) (by omega)] at c_9
      refine r_iload_n C dX8_sureBy_12 rfl ?_
      refine r_aload_n C dX8_sureBy_13 rfl ?_
      refine r_iload_n C dX8_sureBy_14 rfl ?_
      refine r_iload C dX8_sureBy_15 rfl ?_
      refine r_iload_n C dX8_sureBy_17 rfl ?_
      refine r_cVi C F dX8_sureBy_18 (s8_isJust hA hi (by omega) hs) tw_984 m8_isJust (rfl) rfl (by decide) rfl (Nat.le_of_ble_eq_true rfl) ?_
      refine r_if_eq 34 C dX8_sureBy_21 (by decide) (fun c_21 => ?_) (fun c_21 => ?_)
      · rw [bz_eq0] at c_21
        refine r_iconst (0) C dX8_sureBy_34 rfl ?_
        refine r_ior C dX8_sureBy_35 ?_
        refine r_istore_n C dX8_sureBy_36 (by decide) rfl ?_
        refine r_inc (1) C dX8_sureBy_37 rfl (by decide) rfl rfl ?_
        refine r_goto 5 C dX8_sureBy_40 (by decide) ?_
        exact (ih (by omega)).sub ⟨rfl, rfl, rfl, (by rw [show orN (fun c => if just A i s c then 2 ^ (c / 10) else 0) (k + 1) = orN (fun c => if just A i s c then 2 ^ (c / 10) else 0) k ||| 0 by simp [orN, c_21], ← nx_or]; rfl), by rw [nI_succ]; rfl, trivial⟩
      · rw [bz_ne0] at c_21
        refine r_iconst (1) C dX8_sureBy_24 rfl ?_
        refine r_iload C dX8_sureBy_25 rfl ?_
        refine r_bipush (10) C dX8_sureBy_27 rfl ?_
        refine r_idiv C dX8_sureBy_29 (by decide) ?_
        rw [show nI k / 10 = nI (k / 10) from pk_div (by omega) (by decide) (by decide)]
        refine r_ishl C dX8_sureBy_30 ?_
        refine r_goto 35 C dX8_sureBy_31 (by decide) ?_
        refine r_ior C dX8_sureBy_35 ?_
        refine r_istore_n C dX8_sureBy_36 (by decide) rfl ?_
        refine r_inc (1) C dX8_sureBy_37 rfl (by decide) rfl rfl ?_
        refine r_goto 5 C dX8_sureBy_40 (by decide) ?_
        exact (ih (by omega)).sub ⟨rfl, rfl, rfl, (by rw [show orN (fun c => if just A i s c then 2 ^ (c / 10) else 0) (k + 1) = orN (fun c => if just A i s c then 2 ^ (c / 10) else 0) k ||| 2 ^ (k / 10) by simp [orN, c_21], ← nx_or, ← shl1_nI (by omega)]; rfl), by rw [nI_succ]; rfl, trivial⟩
  refine r_iconst (0) C dX8_sureBy_0 rfl ?_
  refine r_istore_n C dX8_sureBy_1 (by decide) rfl ?_
  refine r_iconst (0) C dX8_sureBy_2 rfl ?_
  refine r_istore C dX8_sureBy_3 (by decide) rfl ?_
  exact (L 0 (by omega)).sub ⟨rfl, rfl, rfl, rfl, rfl, trivial⟩
set_option maxHeartbeats 4000000 in
theorem s8_sure {A : At} {x y : Int32} (hA : MA h A) : Sp l E SHP 5 M8_sure [.ref (E.1 + 49), .int x, .int y] h (QM h (vSure A x y, A)) := by
  refine Sp.of (by decide) (Nat.le_of_ble_eq_true rfl) (fun X C F => ?_)
  have C : Ok X E RX8 cX8_sure 3 := C
  have F : Fn X l E SHP 5 (some FieldType.int) (QM h (vSure A x y, A)) := F
  show G X E SHP (0, 0) 0 [(0, .ref (E.1 + 49)), (1, .int x), (2, .int y)] [] h
  obtain ⟨⟨a1, a2, a3, a4, a5, a6, a7, a8, a9, a10, a11, a12⟩, ⟨b1, b2⟩, b3, b4, b5, b6, b7, ⟨b8, b9⟩, b10, ⟨b11, b12⟩, b13, b14⟩ := id hA
  obtain ⟨okd, e16, e17, e540, e541, eL, eJ⟩ := id b5
  obtain ⟨o1, o2, o3, o4, o5, o6⟩ := id okd
  have p6 : 2 ^ dL (aD A) ≤ 64 := Nat.pow_le_pow_right (n := 2) (by decide) o1
  obtain ⟨k0, k1, k2, k3, k4, k5⟩ := id a5
  refine r_aload_n C dX8_sure_0 rfl ?_
  refine r_iload_n C dX8_sure_1 rfl ?_
  refine r_cVi C F dX8_sure_2 (s8_isLord) tw_850 m8_isLord (rfl) rfl (by decide) rfl (Nat.le_of_ble_eq_true rfl) ?_
  refine r_if_eq 16 C dX8_sure_5 (by decide) (fun c_5 => ?_) (fun c_5 => ?_)
  · rw [bz_eq0, e16] at c_5
    refine r_ldc C dX8_sure_16 tw_854 ?_
    exact r_iret C F dX8_sure_18 (by unfold vSure; rw [if_pos (fun q => c_5 q.1)]; exact QM_same hA)
  · rw [bz_ne0, e16] at c_5
    refine r_aload_n C dX8_sure_8 rfl ?_
    refine r_iload_n C dX8_sure_9 rfl ?_
    refine r_cVi C F dX8_sure_10 (s8_isSet) tw_980 m8_isSet (rfl) rfl (by decide) rfl (Nat.le_of_ble_eq_true rfl) ?_
    refine r_if_ne 19 C dX8_sure_13 (by decide) (fun c_13 => ?_) (fun c_13 => ?_)
    · rw [bz_ne0, every_nI o1 e16] at c_13
      have hxy : lordP A x ∧ setA (aD A) y := ⟨c_5, c_13⟩
      have hxy0 := hxy
      obtain ⟨i, hi, rfl⟩ := (inP_lord rfl o1).mp c_5
      obtain ⟨s, hs, rfl⟩ := inP_of rfl (by omega) c_13
      refine r_aload_n C dX8_sure_19 rfl ?_
      refine r_iload_n C dX8_sure_20 rfl ?_
      refine r_cVi C F dX8_sure_21 (s8_isIn) tw_875 m8_isIn (rfl) rfl (by decide) rfl (Nat.le_of_ble_eq_true rfl) ?_
      refine r_if_eq 36 C dX8_sure_24 (by decide) (fun c_24 => ?_) (fun c_24 => ?_)
      · rw [bz_eq0, b7.1] at c_24
        refine r_ldc C dX8_sure_36 tw_882 ?_
        exact r_iret C F dX8_sure_38 (by unfold vSure; rw [if_neg (not_not_intro hxy0), if_pos c_24]; exact QM_same hA)
      · rw [bz_ne0, b7.1] at c_24
        refine r_aload_n C dX8_sure_27 rfl ?_
        refine r_iload_n C dX8_sure_28 rfl ?_
        refine r_iload_n C dX8_sure_29 rfl ?_
        refine r_cVi C F dX8_sure_30 (s8_sureBy hA (by omega) (by omega)) tw_992 m8_sureBy (rfl) rfl (by decide) rfl (Nat.le_of_ble_eq_true rfl) ?_
        refine r_goto 38 C dX8_sure_33 (by decide) ?_
        exact r_iret C F dX8_sure_38 (by unfold vSure; rw [if_neg (not_not_intro hxy0), if_neg (not_not_intro c_24), cl_nI (by omega), cl_nI (by omega)]; exact QM_same hA)
    · rw [bz_eq0, every_nI o1 e16] at c_13
      refine r_ldc C dX8_sure_16 tw_854 ?_
      exact r_iret C F dX8_sure_18 (by unfold vSure; rw [if_pos (fun q => c_13 q.2)]; exact QM_same hA)
set_option maxHeartbeats 4000000 in
theorem s8_wired {A : At} {y : Int32} (hA : MA h A) : Sp l E SHP 5 M8_wired [.ref (E.1 + 49), .int y] h (QM h (vWired A y, A)) := by
  refine Sp.of (by decide) (Nat.le_of_ble_eq_true rfl) (fun X C F => ?_)
  have C : Ok X E RX8 cX8_wired 4 := C
  have F : Fn X l E SHP 5 (some FieldType.int) (QM h (vWired A y, A)) := F
  show G X E SHP (0, 0) 0 [(0, .ref (E.1 + 49)), (1, .int y)] [] h
  obtain ⟨⟨a1, a2, a3, a4, a5, a6, a7, a8, a9, a10, a11, a12⟩, ⟨b1, b2⟩, b3, b4, b5, b6, b7, ⟨b8, b9⟩, b10, ⟨b11, b12⟩, b13, b14⟩ := id hA
  obtain ⟨okd, e16, e17, e540, e541, eL, eJ⟩ := id b5
  obtain ⟨o1, o2, o3, o4, o5, o6⟩ := id okd
  have p6 : 2 ^ dL (aD A) ≤ 64 := Nat.pow_le_pow_right (n := 2) (by decide) o1
  obtain ⟨k0, k1, k2, k3, k4, k5⟩ := id a5
  have L : ∀ s, s < 64 → ∀ k, k ≤ dL (aD A) → setA (aD A) y → y = nI s → G X E SHP (0, 0) 15 [(0, .ref (E.1 + 49)), (1, .int (nI s)), (2, .int (nI (orN (fun i => if (mI (aU A)).testBit i && !decide (sureF A i s = 0) then 2 ^ i else 0) k))), (3, .int (nI k))] [] h := by
    intro s hs
    refine loopN (dL (aD A)) _ (fun k hk ih hst hys => ?_)
    refine r_iload_n C dX8_wired_15 rfl ?_
    refine r_aload_n C dX8_wired_16 rfl ?_
    refine r_getI C dX8_wired_17 flX8_72 (rfl) rfl ?_
    refine r_icmp_ge 56 C dX8_wired_20 (by decide) (fun c_20 => ?_) (fun c_20 => ?_)
    · rw [cLe (x := h 49 16) (c := nI k) (i := dL (aD A)) (n := k) (e16) (rfl) (by omega) (by omega)] at c_20
      refine r_iload_n C dX8_wired_56 rfl ?_
      refine r_iret C F dX8_wired_57 ?_
      unfold vWired
      rw [if_neg (not_not_intro hst), hys, cl_nI (by omega), wirF, show dL (aD A) = k by omega]
      exact QM_same hA
    · rw [cLe (x := h 49 16) (c := nI k) (i := dL (aD A)) (n := k) (e16) (rfl) (by omega) (by omega)] at c_20
      refine r_iload_n C dX8_wired_23 rfl ?_
      refine r_aload_n C dX8_wired_24 rfl ?_
      refine r_iload_n C dX8_wired_25 rfl ?_
      refine r_cVi C F dX8_wired_26 (s8_isIn) tw_875 m8_isIn (rfl) rfl (by decide) rfl (Nat.le_of_ble_eq_true rfl) ?_
      refine r_if_eq 47 C dX8_wired_29 (by decide) (fun c_29 => ?_) (fun c_29 => ?_)
      · rw [bz_eq0, b7.1, hasP_nI (by omega) (by omega), Bool.not_eq_true] at c_29
        refine r_iconst (0) C dX8_wired_47 rfl ?_
        refine r_ior C dX8_wired_48 ?_
        refine r_istore_n C dX8_wired_49 (by decide) rfl ?_
        refine r_inc (1) C dX8_wired_50 rfl (by decide) rfl rfl ?_
        refine r_goto 15 C dX8_wired_53 (by decide) ?_
        exact (ih (by omega) hst hys).sub ⟨rfl, rfl, (by rw [show orN (fun i => if (mI (aU A)).testBit i && !decide (sureF A i s = 0) then 2 ^ i else 0) (k + 1) = orN (fun i => if (mI (aU A)).testBit i && !decide (sureF A i s = 0) then 2 ^ i else 0) k ||| 0 by simp [orN, c_29], ← nx_or]; rfl), by rw [nI_succ]; rfl, trivial⟩
      · rw [bz_ne0, b7.1, hasP_nI (by omega) (by omega)] at c_29
        refine r_aload_n C dX8_wired_32 rfl ?_
        refine r_iload_n C dX8_wired_33 rfl ?_
        refine r_iload_n C dX8_wired_34 rfl ?_
        refine r_cVi C F dX8_wired_35 (s8_sureBy hA (by omega) hs) tw_992 m8_sureBy (rfl) rfl (by decide) rfl (Nat.le_of_ble_eq_true rfl) ?_
        refine r_if_eq 47 C dX8_wired_38 (by decide) (fun c_38 => ?_) (fun c_38 => ?_)
        · have hsl := sureF_lt (A := A) (i := k) (set := s)
          rw [cEq (x := nI (sureF A k s)) (c := 0) (i := sureF A k s) (n := 0) (rfl) (rfl) (by omega) (by omega)] at c_38
          refine r_iconst (0) C dX8_wired_47 rfl ?_
          refine r_ior C dX8_wired_48 ?_
          refine r_istore_n C dX8_wired_49 (by decide) rfl ?_
          refine r_inc (1) C dX8_wired_50 rfl (by decide) rfl rfl ?_
          refine r_goto 15 C dX8_wired_53 (by decide) ?_
          exact (ih (by omega) hst hys).sub ⟨rfl, rfl, (by rw [show orN (fun i => if (mI (aU A)).testBit i && !decide (sureF A i s = 0) then 2 ^ i else 0) (k + 1) = orN (fun i => if (mI (aU A)).testBit i && !decide (sureF A i s = 0) then 2 ^ i else 0) k ||| 0 by simp [orN, c_29, c_38], ← nx_or]; rfl), by rw [nI_succ]; rfl, trivial⟩
        · have hsl := sureF_lt (A := A) (i := k) (set := s)
          rw [cEq (x := nI (sureF A k s)) (c := 0) (i := sureF A k s) (n := 0) (rfl) (rfl) (by omega) (by omega)] at c_38
          refine r_iconst (1) C dX8_wired_41 rfl ?_
          refine r_iload_n C dX8_wired_42 rfl ?_
          refine r_ishl C dX8_wired_43 ?_
          refine r_goto 48 C dX8_wired_44 (by decide) ?_
          refine r_ior C dX8_wired_48 ?_
          refine r_istore_n C dX8_wired_49 (by decide) rfl ?_
          refine r_inc (1) C dX8_wired_50 rfl (by decide) rfl rfl ?_
          refine r_goto 15 C dX8_wired_53 (by decide) ?_
          exact (ih (by omega) hst hys).sub ⟨rfl, rfl, (by rw [show orN (fun i => if (mI (aU A)).testBit i && !decide (sureF A i s = 0) then 2 ^ i else 0) (k + 1) = orN (fun i => if (mI (aU A)).testBit i && !decide (sureF A i s = 0) then 2 ^ i else 0) k ||| 2 ^ k by simp [orN, c_29, c_38], ← nx_or, ← shl1_nI (by omega)]; rfl), by rw [nI_succ]; rfl, trivial⟩
  refine r_aload_n C dX8_wired_0 rfl ?_
  refine r_iload_n C dX8_wired_1 rfl ?_
  refine r_cVi C F dX8_wired_2 (s8_isSet) tw_980 m8_isSet (rfl) rfl (by decide) rfl (Nat.le_of_ble_eq_true rfl) ?_
  refine r_if_ne 11 C dX8_wired_5 (by decide) (fun c_5 => ?_) (fun c_5 => ?_)
  · rw [bz_ne0, every_nI o1 e16] at c_5
    refine r_iconst (0) C dX8_wired_11 rfl ?_
    refine r_istore_n C dX8_wired_12 (by decide) rfl ?_
    refine r_iconst (0) C dX8_wired_13 rfl ?_
    refine r_istore_n C dX8_wired_14 (by decide) rfl ?_
    obtain ⟨s, hs, hys⟩ := inP_of rfl (by omega) c_5
    exact (L s (by omega) 0 (by omega) c_5 hys).sub ⟨rfl, by rw [← hys]; rfl, rfl, rfl, trivial⟩
  · rw [bz_eq0, every_nI o1 e16] at c_5
    refine r_ldc C dX8_wired_8 tw_854 ?_
    exact r_iret C F dX8_wired_10 (by unfold vWired; rw [if_pos c_5]; exact QM_same hA)
