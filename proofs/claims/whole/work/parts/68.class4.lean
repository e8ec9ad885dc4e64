variable {l : Launch} {E : Ev} {h : Hp}
set_option maxHeartbeats 4000000 in
theorem s7_falls {A : At} (hA : CA h A) {x y z : Int32} : Sp l E SHP 4 M7_falls [.ref (E.1 + 0), .int x, .int y, .int z] h (QK h (vFalls A x y z, A)) := by
  refine Sp.of (by decide) (Nat.le_of_ble_eq_true rfl) (fun X C F => ?_)
  have C : Ok X E RX7 cX7_falls 4 := C
  have F : Fn X l E SHP 4 (some FieldType.int) (QK h (vFalls A x y z, A)) := F
  show G X E SHP (0, 0) 0 [(0, .ref (E.1 + 0)), (1, .int x), (2, .int y), (3, .int z)] [] h
  obtain ⟨o, hA0⟩ := id hA
  obtain ⟨⟨a1, a2, a3, a4, a5, a6, a7, a8, a9, a10, a11, a12⟩, ⟨b1, b2⟩, b3, ⟨b4, b5, b6⟩, ⟨b7, b8⟩, b9, b10, b11, b12, b13, b14⟩ := id hA0
  have hO : isH o := isH_o b6
  have ho : o ≤ 12 := by omega
  have ho4 : 4 ≤ o := by omega
  obtain ⟨okd, e1, e2, e3, e4, eL, eJ, eB, eF⟩ := id b8
  obtain ⟨o1, o2, o3, o4, o5, o6⟩ := id okd
  have p6 : 2 ^ dL (aD A) ≤ 64 := Nat.pow_le_pow_right (n := 2) (by decide) o1
  obtain ⟨k0, k1, k2, k3, k4, k5⟩ := id a5
  obtain ⟨u0, u1, u2, u3, uO, uM⟩ := id b10
  have hm64 : mI (aU A) < 64 := by omega
  refine r_aload_n C dX7_falls_0 rfl ?_
  refine r_iload_n C dX7_falls_1 rfl ?_
  refine r_iload_n C dX7_falls_2 rfl ?_
  refine r_iload_n C dX7_falls_3 rfl ?_
  refine r_cVi C F dX7_falls_4 (s7_isThing hA) tw_413 m7_isThing (rfl) rfl (by decide) rfl (Nat.le_of_ble_eq_true rfl) ?_
  refine r_if_ne 13 C dX7_falls_7 (by decide) (fun c_7 => ?_) (fun c_7 => ?_)
  · rw [bz_ne0] at c_7
    have ht0 := c_7
    obtain ⟨i, hi, rfl⟩ := (inP_lord rfl o1).mp c_7.1
    obtain ⟨j, hj, rfl⟩ := (inP_lord rfl o2).mp c_7.2.1
    obtain ⟨k, hk, rfl⟩ := (inP_lord rfl o1).mp c_7.2.2.1
    refine r_aload_n C dX7_falls_13 rfl ?_
    refine r_getR C dX7_falls_14 flX7_29 (rfl) rfl ?_
    refine r_iload_n C dX7_falls_17 rfl ?_
    refine r_cVi C F dX7_falls_18 (s2_isIn b10 (i := i) hm64 (by omega)) tw_417 m2_isIn (rfl) rfl (by decide) rfl (Nat.le_of_ble_eq_true rfl) ?_
    refine r_if_eq 35 C dX7_falls_21 (by decide) (fun c_21 => ?_) (fun c_21 => ?_)
    · refine r_ldc C dX7_falls_35 tw_421 ?_
      rw [bz_eq0] at c_21
      exact r_iret C F dX7_falls_37 (by unfold vFalls; rw [if_neg (not_not_intro ht0), if_pos (fun z => c_21 ((hasP_nI (by omega) (by omega)).mp z.1))]; exact QK_same hA)
    · refine r_aload_n C dX7_falls_24 rfl ?_
      refine r_getR C dX7_falls_25 flX7_29 (rfl) rfl ?_
      refine r_iload_n C dX7_falls_28 rfl ?_
      refine r_cVi C F dX7_falls_29 (s2_isIn b10 (i := k) hm64 (by omega)) tw_417 m2_isIn (rfl) rfl (by decide) rfl (Nat.le_of_ble_eq_true rfl) ?_
      refine r_if_ne 38 C dX7_falls_32 (by decide) (fun c_32 => ?_) (fun c_32 => ?_)
      · rw [bz_ne0] at c_21 c_32
        refine r_aload_n C dX7_falls_38 rfl ?_
        refine r_getR C dX7_falls_39 flX7_57 (rfl) rfl ?_
        refine r_aload_n C dX7_falls_42 rfl ?_
        refine r_getV (o) C dX7_falls_43 flX7_19 (rfl) rfl (b4) (by first | decide | omega) ?_
        refine r_aload_n C dX7_falls_46 rfl ?_
        refine r_getR C dX7_falls_47 flX7_29 (rfl) rfl ?_
        refine r_callV C F dX7_falls_50 (s5_startFrom hO b8 ho b10 (by omega)) tw_426 m5_startFrom (rfl) rfl (by decide) rfl (Nat.le_of_ble_eq_true rfl) (fun v g q => ?_)
        obtain ⟨rfl, z1, z2⟩ := q
        have hA2 : CAo g A o := CAo_tr hA0 (fun a ha => z2 a (by omega) (by omega) (by omega))
        have u02 : g 20 0 = nI (mI (aU A)) := by rw [z2 20 (by decide) (by decide) (by decide)]; exact u0
        have b42 : g 0 1 = nI o := by rw [z2 0 (by decide) (by decide) (by decide)]; exact b4
        have hhi : ∀ a, 49 ≤ a → g a = h a := fun a ha => z2 a (by omega) (by omega) (by omega)
        show G X E SHP (0, 0) 53 _ [] g
        refine r_aload_n C dX7_falls_53 rfl ?_
        refine r_getR C dX7_falls_54 flX7_57 (rfl) rfl ?_
        refine r_aload_n C dX7_falls_57 rfl ?_
        refine r_getR C dX7_falls_58 flX7_29 (rfl) rfl ?_
        refine r_getI C dX7_falls_61 flX7_121 (rfl) rfl ?_
        rw [u02]
        refine r_iload_n C dX7_falls_64 rfl ?_
        refine r_iload_n C dX7_falls_65 rfl ?_
        refine r_iload_n C dX7_falls_66 rfl ?_
        refine r_cVi C F dX7_falls_67 (s5_outBy hO ho z1 (m := mI (aU A)) (i := i) (j := j) (a := k) hm64 (by omega) hj (by omega) (by have := k4 j; omega)) tw_431 m5_outBy (rfl) rfl (by decide) rfl (Nat.le_of_ble_eq_true rfl) ?_
        refine r_iret C F dX7_falls_70 ?_
        unfold vFalls
        rw [if_neg (not_not_intro ht0), if_neg (not_not_intro ⟨(hasP_nI (by omega) (by omega)).mpr c_21, (hasP_nI (by omega) (by omega)).mpr c_32⟩), cl_nI (by omega), cl_nI (by omega), cl_nI (by omega)]
        exact ⟨rfl, ⟨o, hA2⟩, hhi⟩
      · refine r_ldc C dX7_falls_35 tw_421 ?_
        rw [bz_eq0] at c_32
        exact r_iret C F dX7_falls_37 (by unfold vFalls; rw [if_neg (not_not_intro ht0), if_pos (fun z => c_32 ((hasP_nI (by omega) (by omega)).mp z.2))]; exact QK_same hA)
  · refine r_ldc C dX7_falls_10 tw_389 ?_
    rw [bz_eq0] at c_7
    exact r_iret C F dX7_falls_12 (by unfold vFalls; rw [if_pos c_7]; exact QK_same hA)
set_option maxHeartbeats 4000000 in
theorem s7_draws {A : At} (hA : CA h A) {x : Int32} : Sp l E SHP 3 M7_draws [.ref (E.1 + 0), .int x] h (QK h (vDraws A x, A)) := by
  refine Sp.of (by decide) (Nat.le_of_ble_eq_true rfl) (fun X C F => ?_)
  have C : Ok X E RX7 cX7_draws 2 := C
  have F : Fn X l E SHP 3 (some FieldType.int) (QK h (vDraws A x, A)) := F
  show G X E SHP (0, 0) 0 [(0, .ref (E.1 + 0)), (1, .int x)] [] h
  obtain ⟨o, hA0⟩ := id hA
  obtain ⟨⟨a1, a2, a3, a4, a5, a6, a7, a8, a9, a10, a11, a12⟩, ⟨b1, b2⟩, b3, ⟨b4, b5, b6⟩, ⟨b7, b8⟩, b9, b10, b11, b12, b13, b14⟩ := id hA0
  have hO : isH o := isH_o b6
  have ho : o ≤ 12 := by omega
  have ho4 : 4 ≤ o := by omega
  obtain ⟨okd, e1, e2, e3, e4, eL, eJ, eB, eF⟩ := id b8
  obtain ⟨o1, o2, o3, o4, o5, o6⟩ := id okd
  have p6 : 2 ^ dL (aD A) ≤ 64 := Nat.pow_le_pow_right (n := 2) (by decide) o1
  obtain ⟨k0, k1, k2, k3, k4, k5⟩ := id a5
  obtain ⟨u0, u1, u2, u3, uO, uM⟩ := id b10
  have hm64 : mI (aU A) < 64 := by omega
  refine r_aload_n C dX7_draws_0 rfl ?_
  refine r_getV (o) C dX7_draws_1 flX7_19 (rfl) rfl (b4) (by first | decide | omega) ?_
  refine r_iload_n C dX7_draws_4 rfl ?_
  refine r_cVi C F dX7_draws_5 (s0_hasLord hO b8) tw_385 m0_hasLord (hO.1) rfl (by decide) rfl (Nat.le_of_ble_eq_true rfl) ?_
  refine r_if_ne 14 C dX7_draws_8 (by decide) (fun c_8 => ?_) (fun c_8 => ?_)
  · rw [bz_ne0] at c_8
    have c_8b := c_8
    obtain ⟨i, hi, rfl⟩ := (inP_lord rfl o1).mp c_8
    refine r_aload_n C dX7_draws_14 rfl ?_
    refine r_getR C dX7_draws_15 flX7_29 (rfl) rfl ?_
    refine r_iload_n C dX7_draws_18 rfl ?_
    refine r_cVi C F dX7_draws_19 (s2_isIn b10 (i := i) hm64 (by omega)) tw_417 m2_isIn (rfl) rfl (by decide) rfl (Nat.le_of_ble_eq_true rfl) ?_
    refine r_if_ne 28 C dX7_draws_22 (by decide) (fun c_22 => ?_) (fun c_22 => ?_)
    · rw [bz_ne0] at c_22
      have hi5 : 2 ^ i ≤ 32 := Nat.pow_le_pow_right (n := 2) (i := i) (j := 5) (by decide) (by omega)
      refine r_aload_n C dX7_draws_28 rfl ?_
      refine r_getR C dX7_draws_29 flX7_57 (rfl) rfl ?_
      refine r_aload_n C dX7_draws_32 rfl ?_
      refine r_getV (o) C dX7_draws_33 flX7_19 (rfl) rfl (b4) (by first | decide | omega) ?_
      refine r_aload_n C dX7_draws_36 rfl ?_
      refine r_getR C dX7_draws_37 flX7_29 (rfl) rfl ?_
      refine r_callV C F dX7_draws_40 (s5_startFrom hO b8 ho b10 (by omega)) tw_426 m5_startFrom (rfl) rfl (by decide) rfl (Nat.le_of_ble_eq_true rfl) (fun v g q => ?_)
      obtain ⟨rfl, z1, z2⟩ := q
      have hA2 : CAo g A o := CAo_tr hA0 (fun a ha => z2 a (by omega) (by omega) (by omega))
      have u02 : g 20 0 = nI (mI (aU A)) := by rw [z2 20 (by decide) (by decide) (by decide)]; exact u0
      have b42 : g 0 1 = nI o := by rw [z2 0 (by decide) (by decide) (by decide)]; exact b4
      have hhi : ∀ a, 49 ≤ a → g a = h a := fun a ha => z2 a (by omega) (by omega) (by omega)
      show G X E SHP (0, 0) 43 _ [] g
      refine r_aload_n C dX7_draws_43 rfl ?_
      refine r_getR C dX7_draws_44 flX7_57 (rfl) rfl ?_
      refine r_iconst (1) C dX7_draws_47 rfl ?_
      refine r_iload_n C dX7_draws_48 rfl ?_
      refine r_ishl C dX7_draws_49 ?_
      rw [shl1_nI (by omega)]
      refine r_aload_n C dX7_draws_50 rfl ?_
      refine r_getR C dX7_draws_51 flX7_29 (rfl) rfl ?_
      refine r_getI C dX7_draws_54 flX7_121 (rfl) rfl ?_
      rw [u02]
      refine r_cVi C F dX7_draws_57 (s5_caught hO ho z1 (my := mI (aU A)) (x := 2 ^ i) hm64 (by omega)) tw_560 m5_caught (rfl) rfl (by decide) rfl (Nat.le_of_ble_eq_true rfl) ?_
      refine r_iret C F dX7_draws_60 ?_
      unfold vDraws
      rw [if_neg (not_not_intro c_8b), if_neg (not_not_intro ((hasP_nI (by omega) (by omega)).mpr c_22)), cl_nI (by omega)]
      exact ⟨rfl, ⟨o, hA2⟩, hhi⟩
    · refine r_ldc C dX7_draws_25 tw_421 ?_
      rw [bz_eq0] at c_22
      exact r_iret C F dX7_draws_27 (by unfold vDraws; rw [if_neg (not_not_intro c_8b), if_pos (fun z => c_22 ((hasP_nI (by omega) (by omega)).mp z))]; exact QK_same hA)
  · refine r_ldc C dX7_draws_11 tw_389 ?_
    rw [bz_eq0] at c_8
    exact r_iret C F dX7_draws_13 (by unfold vDraws; rw [if_pos c_8]; exact QK_same hA)
theorem bit_lt {m n k : Nat} (hm : m < 2 ^ n) (q : m.testBit k = true) : k < n := by
  rcases Nat.lt_or_ge k n with c | c
  · exact c
  · rw [Nat.testBit_lt_two_pow (Nat.lt_of_lt_of_le hm (Nat.pow_le_pow_right (by decide) c))] at q; cases q
theorem bit_ext {a b : Nat} (e : ∀ k, a.testBit k = true ↔ b.testBit k = true) : a = b := sub_eq (fun k q => (e k).mp q) (fun k q => (e k).mpr q)
theorem ifb {p : Prop} [Decidable p] {a k : Nat} : (if p then a else 0).testBit k = true ↔ p ∧ a.testBit k = true := by
  by_cases c : p
  · rw [if_pos c]; exact ⟨fun z => ⟨c, z⟩, fun z => z.2⟩
  · rw [if_neg c, Nat.zero_testBit]; exact ⟨(fun z => by cases z), fun z => absurd z.1 c⟩
theorem ra_f2 {A : At} (hm : mI (aU A) < 2 ^ dL (aD A)) (o1 : dL (aD A) ≤ 6) {i s : Nat} : raF (aD A) (mI (aU A)) (mN (aU A)) (mM (aU A)) i s = orN (f2 A i s) (dJ (aD A)) := by
  refine bit_ext (fun b => ?_)
  unfold raF
  rw [orN_bit, orN_bit]
  constructor
  · rintro ⟨j, hj, q⟩
    obtain ⟨q1, q2⟩ := ifb.mp q
    obtain ⟨a, ha, q3⟩ := (orN_bit _ _ _).mp q2
    unfold rF at q3
    obtain ⟨⟨q4, q5, q6⟩, q7⟩ := ifb.mp q3
    refine ⟨j, hj, (orN_bit _ _ _).mpr ⟨a, bit_lt hm q6, ifb.mpr ⟨⟨q1, ?_⟩, q7⟩⟩⟩
    unfold othF
    rw [nd_bit, q6, Nat.testBit_two_pow_of_ne (fun z => q5 z.symm)]; rfl
  · rintro ⟨j, hj, q⟩
    obtain ⟨a, ha, q3⟩ := (orN_bit _ _ _).mp q
    unfold fP at q3
    obtain ⟨⟨q4, q5⟩, q6⟩ := ifb.mp q3
    unfold othF at q5
    rw [nd_bit, Bool.and_eq_true, Bool.not_eq_true'] at q5
    refine ⟨j, hj, ifb.mpr ⟨q4, (orN_bit _ _ _).mpr ⟨a, by omega, ifb.mpr ⟨⟨hj, fun z => ?_, q5.1⟩, q6⟩⟩⟩⟩
    rw [z, Nat.testBit_two_pow_self] at q5
    exact absurd q5.2 (by decide)
theorem okC_S {A : At} (hm : mI (aU A) < 2 ^ dL (aD A)) (o1 : dL (aD A) ≤ 6) {i : Nat} : okC (aD A) (mI (aU A)) (mN (aU A)) (mM (aU A)) i (othF (mI (aU A)) i) = okS A i := funext fun s => by
  unfold okC okS
  rw [ra_f2 hm o1]
  have hs : sub (orN (f2 A i s) (dJ (aD A))) (othF (mI (aU A)) i) := fun b q => by
    obtain ⟨j, hj, q1⟩ := (orN_bit _ _ _).mp q
    obtain ⟨a, ha, q3⟩ := (orN_bit _ _ _).mp q1
    unfold fP at q3
    exact fal_sub _ _ _ _ _ _ _ b (ifb.mp q3).2
  have hiff : nd (othF (mI (aU A)) i) (orN (f2 A i s) (dJ (aD A))) = 0 ↔ orN (f2 A i s) (dJ (aD A)) = othF (mI (aU A)) i := by
    constructor
    · intro z
      refine sub_eq hs (fun k hk => ?_)
      have := bit_0 z k
      rw [nd_bit, hk, Bool.true_and, Bool.not_eq_false'] at this
      exact this
    · intro z
      rw [z]
      exact bit_ext (fun k => by rw [nd_bit, Nat.zero_testBit]; cases (othF (mI (aU A)) i).testBit k <;> simp)
  exact decide_eq_decide.mpr hiff
theorem just_T {A : At} (okd : okD (aD A)) (hm : mI (aU A) < 2 ^ dL (aD A)) {i s c : Nat} (hs : s < 64) : decide (thT (aD A) (mI (aU A)) (mN (aU A)) (mM (aU A)) i c = nI s) = just A i s c := by
  unfold thT just
  have hf := falF_64 okd (mI (aU A)) (mN (aU A)) (mM (aU A)) i (c / 10) (c % 10)
  unfold canT
  by_cases c1 : c / 10 < dJ (aD A)
  · by_cases c2 : c % 10 = i
    · have e1 : (decide (c / 10 < dJ (aD A)) && (decide (¬ c % 10 = i) && (mI (aU A)).testBit (c % 10))) = false := by rw [decide_eq_false (not_not_intro c2)]; simp
      rw [e1, if_neg (by decide), decide_eq_false (not_not_intro c2), decide_eq_false (fun z => nI_nm1 s hs z.symm)]
      simp
    · cases c3 : (mI (aU A)).testBit (c % 10) with
      | false =>
        rw [if_neg (by simp), decide_eq_false (fun z => nI_nm1 s hs z.symm)]
        simp
      | true =>
        have c4 := bit_lt hm c3
        rw [if_pos (by simp [c1, c2]), decide_eq_true c1, decide_eq_true c4, decide_eq_true c2]
        unfold fal
        exact decide_eq_decide.mpr (cEq (i := falF (aD A) (mI (aU A)) (mN (aU A)) (mM (aU A)) i (c / 10) (c % 10)) (n := s) rfl rfl (by omega) (by omega))
  · have e1 : (decide (c / 10 < dJ (aD A)) && (decide (¬ c % 10 = i) && (mI (aU A)).testBit (c % 10))) = false := by rw [decide_eq_false c1]; rfl
    rw [e1, if_neg (by decide), decide_eq_false c1, decide_eq_false (fun z => nI_nm1 s hs z.symm)]
    rfl
theorem wh_congr {p q : Nat → Bool} {x : Int32} : ∀ n, (∀ k, k < n → p k = q k) → whF p x n = whF q x n
  | 0, _ => rfl
  | n + 1, e => by
    show (if p n = true ∧ nI (cnt p n) = x then nI n else whF p x n) = (if q n = true ∧ nI (cnt q n) = x then nI n else whF q x n)
    rw [e n (by omega), cnt_congr n (fun k hk => e k (by omega)), wh_congr n (fun k hk => e k (by omega))]
theorem or_congr2 {p q : Nat → Nat} : ∀ n, (∀ k, k < n → p k = q k) → orN p n = orN q n
  | 0, _ => rfl
  | n + 1, e => by
    show orN p n ||| p n = orN q n ||| q n
    rw [e n (by omega), or_congr2 n (fun k hk => e k (by omega))]
set_option maxHeartbeats 4000000 in
theorem s7_cover {A : At} (hA : CA h A) {x : Int32} : Sp l E SHP 5 M7_cover [.ref (E.1 + 0), .int x] h (QK h (vCover A x, A)) := by
  refine Sp.of (by decide) (Nat.le_of_ble_eq_true rfl) (fun X C F => ?_)
  have C : Ok X E RX7 cX7_cover 2 := C
  have F : Fn X l E SHP 5 (some FieldType.int) (QK h (vCover A x, A)) := F
  show G X E SHP (0, 0) 0 [(0, .ref (E.1 + 0)), (1, .int x)] [] h
  obtain ⟨o, hA0⟩ := id hA
  obtain ⟨⟨a1, a2, a3, a4, a5, a6, a7, a8, a9, a10, a11, a12⟩, ⟨b1, b2⟩, b3, ⟨b4, b5, b6⟩, ⟨b7, b8⟩, b9, b10, b11, b12, b13, b14⟩ := id hA0
  have hO : isH o := isH_o b6
  have ho : o ≤ 12 := by omega
  have ho4 : 4 ≤ o := by omega
  obtain ⟨okd, e1, e2, e3, e4, eL, eJ, eB, eF⟩ := id b8
  obtain ⟨o1, o2, o3, o4, o5, o6⟩ := id okd
  have p6 : 2 ^ dL (aD A) ≤ 64 := Nat.pow_le_pow_right (n := 2) (by decide) o1
  obtain ⟨k0, k1, k2, k3, k4, k5⟩ := id a5
  obtain ⟨u0, u1, u2, u3, uO, uM⟩ := id b10
  have hm64 : mI (aU A) < 64 := by omega
  refine r_aload_n C dX7_cover_0 rfl ?_
  refine r_getV (o) C dX7_cover_1 flX7_19 (rfl) rfl (b4) (by first | decide | omega) ?_
  refine r_iload_n C dX7_cover_4 rfl ?_
  refine r_cVi C F dX7_cover_5 (s0_hasLord hO b8) tw_385 m0_hasLord (hO.1) rfl (by decide) rfl (Nat.le_of_ble_eq_true rfl) ?_
  refine r_if_ne 14 C dX7_cover_8 (by decide) (fun c_8 => ?_) (fun c_8 => ?_)
  · rw [bz_ne0] at c_8
    have c_8b := c_8
    obtain ⟨i, hi, rfl⟩ := (inP_lord rfl o1).mp c_8
    refine r_aload_n C dX7_cover_14 rfl ?_
    refine r_getR C dX7_cover_15 flX7_29 (rfl) rfl ?_
    refine r_iload_n C dX7_cover_18 rfl ?_
    refine r_cVi C F dX7_cover_19 (s2_isIn b10 (i := i) hm64 (by omega)) tw_417 m2_isIn (rfl) rfl (by decide) rfl (Nat.le_of_ble_eq_true rfl) ?_
    refine r_if_ne 28 C dX7_cover_22 (by decide) (fun c_22 => ?_) (fun c_22 => ?_)
    · rw [bz_ne0] at c_22
      refine r_aload_n C dX7_cover_28 rfl ?_
      refine r_getR C dX7_cover_29 flX7_57 (rfl) rfl ?_
      refine r_aload_n C dX7_cover_32 rfl ?_
      refine r_getV (o) C dX7_cover_33 flX7_19 (rfl) rfl (b4) (by first | decide | omega) ?_
      refine r_aload_n C dX7_cover_36 rfl ?_
      refine r_getR C dX7_cover_37 flX7_29 (rfl) rfl ?_
      refine r_callV C F dX7_cover_40 (s5_startFrom hO b8 ho b10 (by omega)) tw_426 m5_startFrom (rfl) rfl (by decide) rfl (Nat.le_of_ble_eq_true rfl) (fun v g q => ?_)
      obtain ⟨rfl, z1, z2⟩ := q
      have hA2 : CAo g A o := CAo_tr hA0 (fun a ha => z2 a (by omega) (by omega) (by omega))
      have u02 : g 20 0 = nI (mI (aU A)) := by rw [z2 20 (by decide) (by decide) (by decide)]; exact u0
      have b42 : g 0 1 = nI o := by rw [z2 0 (by decide) (by decide) (by decide)]; exact b4
      have hhi : ∀ a, 49 ≤ a → g a = h a := fun a ha => z2 a (by omega) (by omega) (by omega)
      show G X E SHP (0, 0) 43 _ [] g
      refine r_aload_n C dX7_cover_43 rfl ?_
      refine r_getR C dX7_cover_44 flX7_57 (rfl) rfl ?_
      refine r_aload_n C dX7_cover_47 rfl ?_
      refine r_getR C dX7_cover_48 flX7_29 (rfl) rfl ?_
      refine r_getI C dX7_cover_51 flX7_121 (rfl) rfl ?_
      rw [u02]
      refine r_iload_n C dX7_cover_54 rfl ?_
      refine r_callV C F dX7_cover_55 (s5_tryAll hO ho z1 (m := mI (aU A)) (i := i) hm64 (by omega) (fun j => by have := k4 j; omega)) tw_548 m5_tryAll (rfl) rfl (by decide) rfl (Nat.le_of_ble_eq_true rfl) (fun v g1 q => ?_)
      obtain ⟨rfl, rfl⟩ := q
      have hV : ∀ c, c < 60 → upr g 47 (fil (g 47) (thT (aD A) (mI (aU A)) (mN (aU A)) (mM (aU A)) i) 60) 47 c = thT (aD A) (mI (aU A)) (mN (aU A)) (mM (aU A)) i c := fun c hc => by rw [upr_self]; exact fil_lt hc
      have r1 : ∀ a, a ≠ 47 → upr g 47 (fil (g 47) (thT (aD A) (mI (aU A)) (mN (aU A)) (mM (aU A)) i) 60) a = g a := fun a ha => upr_row _ _ _ ha
      generalize upr g 47 (fil (g 47) (thT (aD A) (mI (aU A)) (mN (aU A)) (mM (aU A)) i) 60) = g1 at hV r1 ⊢
      have u03 : g1 20 0 = nI (mI (aU A)) := by rw [r1 20 (by decide)]; exact u02
      have hA3 : CAo g1 A o := CAo_tr hA2 (fun a ha => r1 a (by omega))
      have hhi3 : ∀ a, 49 ≤ a → g1 a = h a := fun a ha => by rw [r1 a (by omega)]; exact hhi a ha
      have hT1 : CT g1 o (aD A) (mN (aU A)) (mM (aU A)) := CT_cg z1 ho (fun a ha => r1 a (by omega))
      show G X E SHP (0, 0) 58 _ [] g1
      refine r_aload_n C dX7_cover_58 rfl ?_
      refine r_getR C dX7_cover_59 flX7_57 (rfl) rfl ?_
      refine r_aload_n C dX7_cover_62 rfl ?_
      refine r_getR C dX7_cover_63 flX7_29 (rfl) rfl ?_
      refine r_getI C dX7_cover_66 flX7_121 (rfl) rfl ?_
      refine r_iconst (1) C dX7_cover_69 rfl ?_
      refine r_iload_n C dX7_cover_70 rfl ?_
      refine r_ishl C dX7_cover_71 ?_
      refine r_iconst (-1) C dX7_cover_72 rfl ?_
      refine r_ixor C dX7_cover_73 ?_
      refine r_iand C dX7_cover_74 ?_
      rw [u03, shl1_nI (by omega), nx_nd, show nd (mI (aU A)) (2 ^ i) = othF (mI (aU A)) i from rfl]
      refine r_cVi C F dX7_cover_75 (s5_fewestJokesFor hO hT1.2.1 ho hT1.1 hV (M := othF (mI (aU A)) i) (oth_lt hm64)) tw_565 m5_fewestJokesFor (rfl) rfl (by decide) rfl (Nat.le_of_ble_eq_true rfl) ?_
      refine r_iret C F dX7_cover_78 ?_
      unfold vCover
      rw [if_neg (not_not_intro c_8b), if_neg (not_not_intro ((hasP_nI (by omega) (by omega)).mpr c_22)), cl_nI (by omega), okC_S k0 o1]
      exact ⟨rfl, ⟨o, hA3⟩, hhi3⟩
    · refine r_ldc C dX7_cover_25 tw_421 ?_
      rw [bz_eq0] at c_22
      exact r_iret C F dX7_cover_27 (by unfold vCover; rw [if_neg (not_not_intro c_8b), if_pos (fun z => c_22 ((hasP_nI (by omega) (by omega)).mp z))]; exact QK_same hA)
  · refine r_ldc C dX7_cover_11 tw_389 ?_
    rw [bz_eq0] at c_8
    exact r_iret C F dX7_cover_13 (by unfold vCover; rw [if_pos c_8]; exact QK_same hA)
set_option maxHeartbeats 4000000 in
theorem s7_toldBy {A : At} (hA : CA h A) {x y z : Int32} : Sp l E SHP 5 M7_toldBy [.ref (E.1 + 0), .int x, .int y, .int z] h (QK h (vToldBy A x y z, A)) := by
  refine Sp.of (by decide) (Nat.le_of_ble_eq_true rfl) (fun X C F => ?_)
  have C : Ok X E RX7 cX7_toldBy 4 := C
  have F : Fn X l E SHP 5 (some FieldType.int) (QK h (vToldBy A x y z, A)) := F
  show G X E SHP (0, 0) 0 [(0, .ref (E.1 + 0)), (1, .int x), (2, .int y), (3, .int z)] [] h
  obtain ⟨o, hA0⟩ := id hA
  obtain ⟨⟨a1, a2, a3, a4, a5, a6, a7, a8, a9, a10, a11, a12⟩, ⟨b1, b2⟩, b3, ⟨b4, b5, b6⟩, ⟨b7, b8⟩, b9, b10, b11, b12, b13, b14⟩ := id hA0
  have hO : isH o := isH_o b6
  have ho : o ≤ 12 := by omega
  have ho4 : 4 ≤ o := by omega
  obtain ⟨okd, e1, e2, e3, e4, eL, eJ, eB, eF⟩ := id b8
  obtain ⟨o1, o2, o3, o4, o5, o6⟩ := id okd
  have p6 : 2 ^ dL (aD A) ≤ 64 := Nat.pow_le_pow_right (n := 2) (by decide) o1
  obtain ⟨k0, k1, k2, k3, k4, k5⟩ := id a5
  obtain ⟨u0, u1, u2, u3, uO, uM⟩ := id b10
  have hm64 : mI (aU A) < 64 := by omega
  refine r_aload_n C dX7_toldBy_0 rfl ?_
  refine r_getV (o) C dX7_toldBy_1 flX7_19 (rfl) rfl (b4) (by first | decide | omega) ?_
  refine r_iload_n C dX7_toldBy_4 rfl ?_
  refine r_cVi C F dX7_toldBy_5 (s0_hasLord hO b8) tw_385 m0_hasLord (hO.1) rfl (by decide) rfl (Nat.le_of_ble_eq_true rfl) ?_
  refine r_if_eq 22 C dX7_toldBy_8 (by decide) (fun c_8 => ?_) (fun c_8 => ?_)
  · refine r_ldc C dX7_toldBy_22 tw_389 ?_
    rw [bz_eq0] at c_8
    exact r_iret C F dX7_toldBy_24 (by unfold vToldBy; rw [if_pos (fun z => c_8 z.1)]; exact QK_same hA)
  · refine r_aload_n C dX7_toldBy_11 rfl ?_
    refine r_getV (o) C dX7_toldBy_12 flX7_19 (rfl) rfl (b4) (by first | decide | omega) ?_
    refine r_iload_n C dX7_toldBy_15 rfl ?_
    refine r_cVi C F dX7_toldBy_16 (s0_hasAll hO b8) tw_578 m0_hasAll (hO.1) rfl (by decide) rfl (Nat.le_of_ble_eq_true rfl) ?_
    refine r_if_ne 25 C dX7_toldBy_19 (by decide) (fun c_19 => ?_) (fun c_19 => ?_)
    · rw [bz_ne0] at c_8 c_19
      have c_8b := c_8
      obtain ⟨i, hi, rfl⟩ := (inP_lord rfl o1).mp c_8
      have c_19b := c_19
      obtain ⟨s, hs, rfl⟩ := inP_of (n := 2 ^ dL (aD A) - 1) rfl (by omega) c_19
      have hs64 : s < 64 := by omega
      have hds : s < 2147483648 := by omega
      refine r_aload_n C dX7_toldBy_25 rfl ?_
      refine r_getR C dX7_toldBy_26 flX7_29 (rfl) rfl ?_
      refine r_iload_n C dX7_toldBy_29 rfl ?_
      refine r_cVi C F dX7_toldBy_30 (s2_isIn b10 (i := i) hm64 (by omega)) tw_417 m2_isIn (rfl) rfl (by decide) rfl (Nat.le_of_ble_eq_true rfl) ?_
      refine r_if_ne 39 C dX7_toldBy_33 (by decide) (fun c_33 => ?_) (fun c_33 => ?_)
      · rw [bz_ne0] at c_33
        refine r_aload_n C dX7_toldBy_39 rfl ?_
        refine r_getR C dX7_toldBy_40 flX7_57 (rfl) rfl ?_
        refine r_aload_n C dX7_toldBy_43 rfl ?_
        refine r_getV (o) C dX7_toldBy_44 flX7_19 (rfl) rfl (b4) (by first | decide | omega) ?_
        refine r_aload_n C dX7_toldBy_47 rfl ?_
        refine r_getR C dX7_toldBy_48 flX7_29 (rfl) rfl ?_
        refine r_callV C F dX7_toldBy_51 (s5_startFrom hO b8 ho b10 (by omega)) tw_426 m5_startFrom (rfl) rfl (by decide) rfl (Nat.le_of_ble_eq_true rfl) (fun v g q => ?_)
        obtain ⟨rfl, z1, z2⟩ := q
        have hA2 : CAo g A o := CAo_tr hA0 (fun a ha => z2 a (by omega) (by omega) (by omega))
        have u02 : g 20 0 = nI (mI (aU A)) := by rw [z2 20 (by decide) (by decide) (by decide)]; exact u0
        have b42 : g 0 1 = nI o := by rw [z2 0 (by decide) (by decide) (by decide)]; exact b4
        have hhi : ∀ a, 49 ≤ a → g a = h a := fun a ha => z2 a (by omega) (by omega) (by omega)
        show G X E SHP (0, 0) 54 _ [] g
        refine r_aload_n C dX7_toldBy_54 rfl ?_
        refine r_getR C dX7_toldBy_55 flX7_57 (rfl) rfl ?_
        refine r_aload_n C dX7_toldBy_58 rfl ?_
        refine r_getR C dX7_toldBy_59 flX7_29 (rfl) rfl ?_
        refine r_getI C dX7_toldBy_62 flX7_121 (rfl) rfl ?_
        rw [u02]
        refine r_iload_n C dX7_toldBy_65 rfl ?_
        refine r_callV C F dX7_toldBy_66 (s5_tryAll hO ho z1 (m := mI (aU A)) (i := i) hm64 (by omega) (fun j => by have := k4 j; omega)) tw_548 m5_tryAll (rfl) rfl (by decide) rfl (Nat.le_of_ble_eq_true rfl) (fun v g1 q => ?_)
        obtain ⟨rfl, rfl⟩ := q
        have hV : ∀ c, c < 60 → upr g 47 (fil (g 47) (thT (aD A) (mI (aU A)) (mN (aU A)) (mM (aU A)) i) 60) 47 c = thT (aD A) (mI (aU A)) (mN (aU A)) (mM (aU A)) i c := fun c hc => by rw [upr_self]; exact fil_lt hc
        have r1 : ∀ a, a ≠ 47 → upr g 47 (fil (g 47) (thT (aD A) (mI (aU A)) (mN (aU A)) (mM (aU A)) i) 60) a = g a := fun a ha => upr_row _ _ _ ha
        generalize upr g 47 (fil (g 47) (thT (aD A) (mI (aU A)) (mN (aU A)) (mM (aU A)) i) 60) = g1 at hV r1 ⊢
        have u03 : g1 20 0 = nI (mI (aU A)) := by rw [r1 20 (by decide)]; exact u02
        have hA3 : CAo g1 A o := CAo_tr hA2 (fun a ha => r1 a (by omega))
        have hhi3 : ∀ a, 49 ≤ a → g1 a = h a := fun a ha => by rw [r1 a (by omega)]; exact hhi a ha
        have hT1 : CT g1 o (aD A) (mN (aU A)) (mM (aU A)) := CT_cg z1 ho (fun a ha => r1 a (by omega))
        show G X E SHP (0, 0) 69 _ [] g1
        refine r_iload_n C dX7_toldBy_69 rfl ?_
        refine r_iconst (-1) C dX7_toldBy_70 rfl ?_
        refine r_icmp_ne 85 C dX7_toldBy_71 (by decide) (fun c_71 => ?_) (fun c_71 => ?_)
        · refine r_aload_n C dX7_toldBy_85 rfl ?_
          refine r_getR C dX7_toldBy_86 flX7_57 (rfl) rfl ?_
          refine r_iload_n C dX7_toldBy_89 rfl ?_
          refine r_iload_n C dX7_toldBy_90 rfl ?_
          refine r_cVi C F dX7_toldBy_91 (s5_fittingThing (x := nI s) (y := z)) tw_587 m5_fittingThing (rfl) rfl (by decide) rfl (Nat.le_of_ble_eq_true rfl) ?_
          refine r_iret C F dX7_toldBy_94 ?_
          unfold vToldBy
          rw [if_neg (not_not_intro ⟨c_8b, c_19b⟩), if_neg (not_not_intro ((hasP_nI (by omega) (by omega)).mpr c_33)), cl_nI (by omega), cl_nI hds]
          have hj : ∀ c, c < 60 → (fun c => decide (g1 47 c = nI s)) c = just A i s c := fun c hc => by show decide (g1 47 c = nI s) = _; rw [hV c hc]; exact just_T okd k0 hs64
          rw [if_neg c_71, wh_congr 60 hj]
          exact ⟨rfl, ⟨o, hA3⟩, hhi3⟩
        · refine r_aload_n C dX7_toldBy_74 rfl ?_
          refine r_getR C dX7_toldBy_75 flX7_57 (rfl) rfl ?_
          refine r_iload_n C dX7_toldBy_78 rfl ?_
          refine r_cVi C F dX7_toldBy_79 (s5_howManyFit (x := nI s)) tw_583 m5_howManyFit (rfl) rfl (by decide) rfl (Nat.le_of_ble_eq_true rfl) ?_
          refine r_goto 94 C dX7_toldBy_82 (by decide) ?_
          refine r_iret C F dX7_toldBy_94 ?_
          unfold vToldBy
          rw [if_neg (not_not_intro ⟨c_8b, c_19b⟩), if_neg (not_not_intro ((hasP_nI (by omega) (by omega)).mpr c_33)), cl_nI (by omega), cl_nI hds]
          have hj : ∀ c, c < 60 → (fun c => decide (g1 47 c = nI s)) c = just A i s c := fun c hc => by show decide (g1 47 c = nI s) = _; rw [hV c hc]; exact just_T okd k0 hs64
          rw [if_pos c_71, cnt_congr 60 hj]
          exact ⟨rfl, ⟨o, hA3⟩, hhi3⟩
      · refine r_ldc C dX7_toldBy_36 tw_421 ?_
        rw [bz_eq0] at c_33
        exact r_iret C F dX7_toldBy_38 (by unfold vToldBy; rw [if_neg (not_not_intro ⟨c_8b, c_19b⟩), if_pos (fun z => c_33 ((hasP_nI (by omega) (by omega)).mp z))]; exact QK_same hA)
    · refine r_ldc C dX7_toldBy_22 tw_389 ?_
      rw [bz_eq0] at c_19
      exact r_iret C F dX7_toldBy_24 (by unfold vToldBy; rw [if_pos (fun z => c_19 z.2)]; exact QK_same hA)
set_option maxHeartbeats 4000000 in
theorem s7_sure {A : At} (hA : CA h A) {x y : Int32} : Sp l E SHP 5 M7_sure [.ref (E.1 + 0), .int x, .int y] h (QK h (vSure A x y, A)) := by
  refine Sp.of (by decide) (Nat.le_of_ble_eq_true rfl) (fun X C F => ?_)
  have C : Ok X E RX7 cX7_sure 3 := C
  have F : Fn X l E SHP 5 (some FieldType.int) (QK h (vSure A x y, A)) := F
  show G X E SHP (0, 0) 0 [(0, .ref (E.1 + 0)), (1, .int x), (2, .int y)] [] h
  obtain ⟨o, hA0⟩ := id hA
  obtain ⟨⟨a1, a2, a3, a4, a5, a6, a7, a8, a9, a10, a11, a12⟩, ⟨b1, b2⟩, b3, ⟨b4, b5, b6⟩, ⟨b7, b8⟩, b9, b10, b11, b12, b13, b14⟩ := id hA0
  have hO : isH o := isH_o b6
  have ho : o ≤ 12 := by omega
  have ho4 : 4 ≤ o := by omega
  obtain ⟨okd, e1, e2, e3, e4, eL, eJ, eB, eF⟩ := id b8
  obtain ⟨o1, o2, o3, o4, o5, o6⟩ := id okd
  have p6 : 2 ^ dL (aD A) ≤ 64 := Nat.pow_le_pow_right (n := 2) (by decide) o1
  obtain ⟨k0, k1, k2, k3, k4, k5⟩ := id a5
  obtain ⟨u0, u1, u2, u3, uO, uM⟩ := id b10
  have hm64 : mI (aU A) < 64 := by omega
  refine r_aload_n C dX7_sure_0 rfl ?_
  refine r_getV (o) C dX7_sure_1 flX7_19 (rfl) rfl (b4) (by first | decide | omega) ?_
  refine r_iload_n C dX7_sure_4 rfl ?_
  refine r_cVi C F dX7_sure_5 (s0_hasLord hO b8) tw_385 m0_hasLord (hO.1) rfl (by decide) rfl (Nat.le_of_ble_eq_true rfl) ?_
  refine r_if_eq 22 C dX7_sure_8 (by decide) (fun c_8 => ?_) (fun c_8 => ?_)
  · refine r_ldc C dX7_sure_22 tw_389 ?_
    rw [bz_eq0] at c_8
    exact r_iret C F dX7_sure_24 (by unfold vSure; rw [if_pos (fun z => c_8 z.1)]; exact QK_same hA)
  · refine r_aload_n C dX7_sure_11 rfl ?_
    refine r_getV (o) C dX7_sure_12 flX7_19 (rfl) rfl (b4) (by first | decide | omega) ?_
    refine r_iload_n C dX7_sure_15 rfl ?_
    refine r_cVi C F dX7_sure_16 (s0_hasAll hO b8) tw_578 m0_hasAll (hO.1) rfl (by decide) rfl (Nat.le_of_ble_eq_true rfl) ?_
    refine r_if_ne 25 C dX7_sure_19 (by decide) (fun c_19 => ?_) (fun c_19 => ?_)
    · rw [bz_ne0] at c_8 c_19
      have c_8b := c_8
      obtain ⟨i, hi, rfl⟩ := (inP_lord rfl o1).mp c_8
      have c_19b := c_19
      obtain ⟨s, hs, rfl⟩ := inP_of (n := 2 ^ dL (aD A) - 1) rfl (by omega) c_19
      have hs64 : s < 64 := by omega
      have hds : s < 2147483648 := by omega
      refine r_aload_n C dX7_sure_25 rfl ?_
      refine r_getR C dX7_sure_26 flX7_29 (rfl) rfl ?_
      refine r_iload_n C dX7_sure_29 rfl ?_
      refine r_cVi C F dX7_sure_30 (s2_isIn b10 (i := i) hm64 (by omega)) tw_417 m2_isIn (rfl) rfl (by decide) rfl (Nat.le_of_ble_eq_true rfl) ?_
      refine r_if_ne 39 C dX7_sure_33 (by decide) (fun c_33 => ?_) (fun c_33 => ?_)
      · rw [bz_ne0] at c_33
        refine r_aload_n C dX7_sure_39 rfl ?_
        refine r_getR C dX7_sure_40 flX7_57 (rfl) rfl ?_
        refine r_aload_n C dX7_sure_43 rfl ?_
        refine r_getV (o) C dX7_sure_44 flX7_19 (rfl) rfl (b4) (by first | decide | omega) ?_
        refine r_aload_n C dX7_sure_47 rfl ?_
        refine r_getR C dX7_sure_48 flX7_29 (rfl) rfl ?_
        refine r_callV C F dX7_sure_51 (s5_startFrom hO b8 ho b10 (by omega)) tw_426 m5_startFrom (rfl) rfl (by decide) rfl (Nat.le_of_ble_eq_true rfl) (fun v g q => ?_)
        obtain ⟨rfl, z1, z2⟩ := q
        have hA2 : CAo g A o := CAo_tr hA0 (fun a ha => z2 a (by omega) (by omega) (by omega))
        have u02 : g 20 0 = nI (mI (aU A)) := by rw [z2 20 (by decide) (by decide) (by decide)]; exact u0
        have b42 : g 0 1 = nI o := by rw [z2 0 (by decide) (by decide) (by decide)]; exact b4
        have hhi : ∀ a, 49 ≤ a → g a = h a := fun a ha => z2 a (by omega) (by omega) (by omega)
        show G X E SHP (0, 0) 54 _ [] g
        refine r_aload_n C dX7_sure_54 rfl ?_
        refine r_getR C dX7_sure_55 flX7_57 (rfl) rfl ?_
        refine r_aload_n C dX7_sure_58 rfl ?_
        refine r_getR C dX7_sure_59 flX7_29 (rfl) rfl ?_
        refine r_getI C dX7_sure_62 flX7_121 (rfl) rfl ?_
        rw [u02]
        refine r_iload_n C dX7_sure_65 rfl ?_
        refine r_callV C F dX7_sure_66 (s5_tryAll hO ho z1 (m := mI (aU A)) (i := i) hm64 (by omega) (fun j => by have := k4 j; omega)) tw_548 m5_tryAll (rfl) rfl (by decide) rfl (Nat.le_of_ble_eq_true rfl) (fun v g1 q => ?_)
        obtain ⟨rfl, rfl⟩ := q
        have hV : ∀ c, c < 60 → upr g 47 (fil (g 47) (thT (aD A) (mI (aU A)) (mN (aU A)) (mM (aU A)) i) 60) 47 c = thT (aD A) (mI (aU A)) (mN (aU A)) (mM (aU A)) i c := fun c hc => by rw [upr_self]; exact fil_lt hc
        have r1 : ∀ a, a ≠ 47 → upr g 47 (fil (g 47) (thT (aD A) (mI (aU A)) (mN (aU A)) (mM (aU A)) i) 60) a = g a := fun a ha => upr_row _ _ _ ha
        generalize upr g 47 (fil (g 47) (thT (aD A) (mI (aU A)) (mN (aU A)) (mM (aU A)) i) 60) = g1 at hV r1 ⊢
        have u03 : g1 20 0 = nI (mI (aU A)) := by rw [r1 20 (by decide)]; exact u02
        have hA3 : CAo g1 A o := CAo_tr hA2 (fun a ha => r1 a (by omega))
        have hhi3 : ∀ a, 49 ≤ a → g1 a = h a := fun a ha => by rw [r1 a (by omega)]; exact hhi a ha
        have hT1 : CT g1 o (aD A) (mN (aU A)) (mM (aU A)) := CT_cg z1 ho (fun a ha => r1 a (by omega))
        show G X E SHP (0, 0) 69 _ [] g1
        refine r_aload_n C dX7_sure_69 rfl ?_
        refine r_getR C dX7_sure_70 flX7_57 (rfl) rfl ?_
        refine r_iload_n C dX7_sure_73 rfl ?_
        refine r_cVi C F dX7_sure_74 (s5_fittingJokes (x := nI s)) tw_595 m5_fittingJokes (rfl) rfl (by decide) rfl (Nat.le_of_ble_eq_true rfl) ?_
        refine r_iret C F dX7_sure_77 ?_
        unfold vSure
        rw [if_neg (not_not_intro ⟨c_8b, c_19b⟩), if_neg (not_not_intro ((hasP_nI (by omega) (by omega)).mpr c_33)), cl_nI (by omega), cl_nI hds]
        unfold sureF
        rw [or_congr2 (p := fun c => if decide (g1 47 c = nI s) = true then 2 ^ (c / 10) else 0) (q := fun c => if just A i s c = true then 2 ^ (c / 10) else 0) 60 (fun c hc => by
          show (if decide (g1 47 c = nI s) = true then 2 ^ (c / 10) else 0) = _
          rw [hV c hc, just_T okd k0 hs64])]
        exact ⟨rfl, ⟨o, hA3⟩, hhi3⟩
      · refine r_ldc C dX7_sure_36 tw_421 ?_
        rw [bz_eq0] at c_33
        exact r_iret C F dX7_sure_38 (by unfold vSure; rw [if_neg (not_not_intro ⟨c_8b, c_19b⟩), if_pos (fun z => c_33 ((hasP_nI (by omega) (by omega)).mp z))]; exact QK_same hA)
    · refine r_ldc C dX7_sure_22 tw_389 ?_
      rw [bz_eq0] at c_19
      exact r_iret C F dX7_sure_24 (by unfold vSure; rw [if_pos (fun z => c_19 z.2)]; exact QK_same hA)
