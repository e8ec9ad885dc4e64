variable {l : Launch} {E : Ev} {h : Hp}
theorem okA_push {A : At} {u : Mom} (q : okA A) (ok : okM (aD A) u) : okA (withU A u (pushA (aB A) (aU A))) := by
  obtain ⟨a1, a2, a3, a4, a5, a6, a7, a8, a9, a10, a11, a12⟩ := q
  refine ⟨a1, a2, a3, a4, ok, ?_, fun v hv => ?_, a8, a9, a10, a11, a12⟩
  · show (pushA (aB A) (aU A)).length ≤ 30
    rw [push_len a6]; split <;> omega
  · rcases push_mem hv with z | rfl
    · exact a7 v z
    · exact a5
theorem CAo_mom {g : Hp} {A : At} {o : Nat} {u : Mom} {B : List Mom} (q : CAo h A o) (ok : okA (withU A u B)) (fr : ∀ a, a < 20 ∨ (24 < a ∧ a < 36) → g a = h a) (c1 : CM g u) (c2 : CB g B) : CAo g (withU A u B) o := by
  obtain ⟨a, ⟨b1, b2⟩, b3, ⟨b4, b5, b6⟩, ⟨b7, b8⟩, b9, b10, b11, b12, b13, b14⟩ := id q
  exact CAo_of q ok ⟨by rw [fr 1 (by omega)]; exact b1, by rw [fr 2 (by omega)]; exact b2⟩ (by rw [fr 0 (by omega)]; exact b3) (by rw [fr 0 (by omega)]) (by rw [fr 0 (by omega)]) rfl rfl (fun a h1 h2 => fr a (by omega)) (by rw [fr 0 (by omega)]; exact b9) c1 c2 (CIm_cg b12 (fun a h1 h2 => fr a (by omega))) (CG_cg b13 (fun a h1 h2 => fr a (by omega))) (CE_cg b14 (fun a h1 h2 => fr a (by omega)))
theorem CAo_seed {A : At} {o s : Nat} (q : CAo h A o) (hs : s < 2147483648) : CAo (up h 0 8 (nI s)) (withS A s) o := by
  obtain ⟨⟨a1, a2, a3, a4, a5, a6, a7, a8, a9, a10, a11, a12⟩, ⟨b1, b2⟩, b3, ⟨b4, b5, b6⟩, ⟨b7, b8⟩, b9, b10, b11, b12, b13, b14⟩ := id q
  exact CAo_of q ⟨a1, a2, a3, hs, a5, a6, a7, a8, a9, a10, a11, a12⟩ ⟨b1, b2⟩ b3 rfl rfl rfl rfl (fun a h1 h2 => up_row _ _ _ _ (by omega)) (up_self _ _ _ _) (CM_cg b10 (fun a h1 h2 => up_row _ _ _ _ (by omega))) (CB_cg b11 (fun a h1 => up_row _ _ _ _ (by omega))) (CIm_cg b12 (fun a h1 h2 => up_row _ _ _ _ (by omega))) (CG_cg b13 (fun a h1 h2 => up_row _ _ _ _ (by omega))) (CE_cg b14 (fun a h1 h2 => up_row _ _ _ _ (by omega)))
def QV (h : Hp) (A : At) : Pst := fun v g => v = none ∧ CA g A ∧ ∀ a, 49 ≤ a → g a = h a
set_option maxHeartbeats 4000000 in
theorem s7_passNight {A : At} (hA : CA h A) (hN : mN (aU A) < 920 + mT (aU A)) : Sp l E SHP 4 M7_passNight [.ref (E.1 + 0)] h (QV h (nightOp A)) := by
  refine Sp.of (by decide) (Nat.le_of_ble_eq_true rfl) (fun X C F => ?_)
  have C : Ok X E RX7 cX7_passNight 1 := C
  have F : Fn X l E SHP 4 none (QV h (nightOp A)) := F
  show G X E SHP (0, 0) 0 [(0, .ref (E.1 + 0))] [] h
  obtain ⟨o, hA0⟩ := id hA
  obtain ⟨⟨a1, a2, a3, a4, a5, a6, a7, a8, a9, a10, a11, a12⟩, ⟨b1, b2⟩, b3, ⟨b4, b5, b6⟩, ⟨b7, b8⟩, b9, b10, b11, b12, b13, b14⟩ := id hA0
  have hO : isH o := isH_o b6
  have ho : o ≤ 12 := by omega
  have ho4 : 4 ≤ o := by omega
  obtain ⟨okd, e1, e2, e3, e4, eL, eJ, eB, eF⟩ := id b8
  obtain ⟨o1, o2, o3, o4, o5, o6⟩ := id okd
  have p6 : 2 ^ dL (aD A) ≤ 64 := Nat.pow_le_pow_right (n := 2) (by decide) o1
  obtain ⟨k0, k1, k2, k3, k4, k5⟩ := id a5
  obtain ⟨u0, u1, u2, u3, uO, uM⟩ := id b10
  have hm64 : mI (aU A) < 64 := by omega
  refine r_aload_n C dX7_passNight_0 rfl ?_
  refine r_getR C dX7_passNight_1 flX7_36 (rfl) rfl ?_
  refine r_aload_n C dX7_passNight_4 rfl ?_
  refine r_getR C dX7_passNight_5 flX7_29 (rfl) rfl ?_
  refine r_callV C F dX7_passNight_8 (s3_push b10 b11) tw_449 m3_push (rfl) rfl (by decide) rfl (Nat.le_of_ble_eq_true rfl) (fun v g q => ?_)
  obtain ⟨rfl, z1, z2⟩ := q
  show G X E SHP (0, 0) 11 _ [] g
  refine r_aload_n C dX7_passNight_11 rfl ?_
  refine r_getR C dX7_passNight_12 flX7_29 (rfl) rfl ?_
  refine r_callV C F dX7_passNight_15 (s2_letNightPass (CM_cg b10 (fun a h1 h2 => z2 a (by omega) (by omega))) (fun j => by have := k4 j; omega)) tw_472 m2_letNightPass (rfl) rfl (by decide) rfl (Nat.le_of_ble_eq_true rfl) (fun v g2 q => ?_)
  obtain ⟨rfl, y1, y2⟩ := q
  show G X E SHP (0, 0) 18 _ [] g2
  have fr : ∀ a, a < 20 ∨ 24 < a → g2 a = h a := fun a ha => by rw [y2 a (by omega)]; exact z2 a (by omega) (by omega)
  exact r_vret C F dX7_passNight_18 ⟨rfl, ⟨o, CAo_mom hA0 (okA_push hA0.1 (okM_night a5 hN)) (fun a ha => fr a (by omega)) y1 (CB_cg z1 (fun a ha => y2 a (by omega)))⟩, fun a ha => fr a (by omega)⟩
set_option maxHeartbeats 4000000 in
theorem s7_tellNow {A : At} (hA : CA h A) {i j k : Nat} (hi : i < dL (aD A)) (hj : j < dJ (aD A)) (hk : k < dL (aD A)) (hT : mT (aU A) ≤ 9040) : Sp l E SHP 4 M7_tellNow [.ref (E.1 + 0), .int (nI i), .int (nI j), .int (nI k)] h (QV h (withU A (tellA (aD A) (aU A) i j k) (pushA (aB A) (aU A)))) := by
  refine Sp.of (by decide) (Nat.le_of_ble_eq_true rfl) (fun X C F => ?_)
  have C : Ok X E RX7 cX7_tellNow 5 := C
  have F : Fn X l E SHP 4 none (QV h (withU A (tellA (aD A) (aU A) i j k) (pushA (aB A) (aU A)))) := F
  show G X E SHP (0, 0) 0 [(0, .ref (E.1 + 0)), (1, .int (nI i)), (2, .int (nI j)), (3, .int (nI k))] [] h
  obtain ⟨o, hA0⟩ := id hA
  obtain ⟨⟨a1, a2, a3, a4, a5, a6, a7, a8, a9, a10, a11, a12⟩, ⟨b1, b2⟩, b3, ⟨b4, b5, b6⟩, ⟨b7, b8⟩, b9, b10, b11, b12, b13, b14⟩ := id hA0
  have hO : isH o := isH_o b6
  have ho : o ≤ 12 := by omega
  have ho4 : 4 ≤ o := by omega
  obtain ⟨okd, e1, e2, e3, e4, eL, eJ, eB, eF⟩ := id b8
  obtain ⟨o1, o2, o3, o4, o5, o6⟩ := id okd
  have p6 : 2 ^ dL (aD A) ≤ 64 := Nat.pow_le_pow_right (n := 2) (by decide) o1
  obtain ⟨k0, k1, k2, k3, k4, k5⟩ := id a5
  obtain ⟨u0, u1, u2, u3, uO, uM⟩ := id b10
  have hm64 : mI (aU A) < 64 := by omega
  refine r_aload_n C dX7_tellNow_0 rfl ?_
  refine r_getR C dX7_tellNow_1 flX7_57 (rfl) rfl ?_
  refine r_aload_n C dX7_tellNow_4 rfl ?_
  refine r_getV (o) C dX7_tellNow_5 flX7_19 (rfl) rfl (b4) (by first | decide | omega) ?_
  refine r_aload_n C dX7_tellNow_8 rfl ?_
  refine r_getR C dX7_tellNow_9 flX7_29 (rfl) rfl ?_
  refine r_callV C F dX7_tellNow_12 (s5_startFrom hO b8 ho b10 (by omega)) tw_426 m5_startFrom (rfl) rfl (by decide) rfl (Nat.le_of_ble_eq_true rfl) (fun v g q => ?_)
  obtain ⟨rfl, z1, z2⟩ := q
  have hA2 : CAo g A o := CAo_tr hA0 (fun a ha => z2 a (by omega) (by omega) (by omega))
  have u02 : g 20 0 = nI (mI (aU A)) := by rw [z2 20 (by decide) (by decide) (by decide)]; exact u0
  have b42 : g 0 1 = nI o := by rw [z2 0 (by decide) (by decide) (by decide)]; exact b4
  have hhi : ∀ a, 49 ≤ a → g a = h a := fun a ha => z2 a (by omega) (by omega) (by omega)
  show G X E SHP (0, 0) 15 _ [] g
  refine r_aload_n C dX7_tellNow_15 rfl ?_
  refine r_getR C dX7_tellNow_16 flX7_57 (rfl) rfl ?_
  refine r_aload_n C dX7_tellNow_19 rfl ?_
  refine r_getR C dX7_tellNow_20 flX7_29 (rfl) rfl ?_
  refine r_getI C dX7_tellNow_23 flX7_121 (rfl) rfl ?_
  rw [u02]
  refine r_iload_n C dX7_tellNow_26 rfl ?_
  refine r_iload_n C dX7_tellNow_27 rfl ?_
  refine r_iload_n C dX7_tellNow_28 rfl ?_
  refine r_cVi C F dX7_tellNow_29 (s5_outBy hO ho z1 (m := mI (aU A)) (i := i) (j := j) (a := k) hm64 (by omega) hj (by omega) (by have := k4 j; omega)) tw_431 m5_outBy (rfl) rfl (by decide) rfl (Nat.le_of_ble_eq_true rfl) ?_
  refine r_istore C dX7_tellNow_32 (by decide) rfl ?_
  refine r_aload_n C dX7_tellNow_34 rfl ?_
  refine r_getR C dX7_tellNow_35 flX7_36 (rfl) rfl ?_
  refine r_aload_n C dX7_tellNow_38 rfl ?_
  refine r_getR C dX7_tellNow_39 flX7_29 (rfl) rfl ?_
  refine r_callV C F dX7_tellNow_42 (s3_push (u := aU A) (B := aB A) hA2.2.2.2.2.2.2.1 hA2.2.2.2.2.2.2.2.1) tw_449 m3_push (rfl) rfl (by decide) rfl (Nat.le_of_ble_eq_true rfl) (fun v g2 q => ?_)
  obtain ⟨rfl, y1, y2⟩ := q
  show G X E SHP (0, 0) 45 _ [] g2
  refine r_aload_n C dX7_tellNow_45 rfl ?_
  refine r_getR C dX7_tellNow_46 flX7_29 (rfl) rfl ?_
  refine r_iload_n C dX7_tellNow_49 rfl ?_
  refine r_iload C dX7_tellNow_50 rfl ?_
  refine r_callV C F dX7_tellNow_52 (s2_letLaugh (u := aU A) (CM_cg hA2.2.2.2.2.2.2.1 (fun a h1 h2 => y2 a (by omega) (by omega))) (j := j) (S := falF (aD A) (mI (aU A)) (mN (aU A)) (mM (aU A)) i j k) (by omega) (falF_64 okd _ _ _ _ _ _)) tw_460 m2_letLaugh (rfl) rfl (by decide) rfl (Nat.le_of_ble_eq_true rfl) (fun v g3 q => ?_)
  obtain ⟨rfl, x1, x2⟩ := q
  show G X E SHP (0, 0) 55 _ [] g3
  have fr : ∀ a, a < 20 ∨ 24 < a → g3 a = g a := fun a ha => by rw [x2 a (by omega)]; exact y2 a (by omega) (by omega)
  exact r_vret C F dX7_tellNow_55 ⟨rfl, ⟨o, CAo_mom hA2 (okA_push hA0.1 (okM_tell okd a5 (by omega) i j k hj)) (fun a ha => fr a (by omega)) x1 (CB_cg y1 (fun a ha => x2 a (by omega)))⟩, fun a ha => by rw [fr a (by omega)]; exact hhi a ha⟩
set_option maxHeartbeats 4000000 in
theorem s7_tell {A : At} (hA : CA h A) {x y z : Int32} : Sp l E SHP 5 M7_tell [.ref (E.1 + 0), .int x, .int y, .int z] h (QK h (opTell A x y z)) := by
  refine Sp.of (by decide) (Nat.le_of_ble_eq_true rfl) (fun X C F => ?_)
  have C : Ok X E RX7 cX7_tell 4 := C
  have F : Fn X l E SHP 5 (some FieldType.int) (QK h (opTell A x y z)) := F
  show G X E SHP (0, 0) 0 [(0, .ref (E.1 + 0)), (1, .int x), (2, .int y), (3, .int z)] [] h
  obtain ⟨o, hA0⟩ := id hA
  obtain ⟨⟨a1, a2, a3, a4, a5, a6, a7, a8, a9, a10, a11, a12⟩, ⟨b1, b2⟩, b3, ⟨b4, b5, b6⟩, ⟨b7, b8⟩, b9, b10, b11, b12, b13, b14⟩ := id hA0
  have hO : isH o := isH_o b6
  have ho : o ≤ 12 := by omega
  have ho4 : 4 ≤ o := by omega
  obtain ⟨okd, e1, e2, e3, e4, eL, eJ, eB, eF⟩ := id b8
  obtain ⟨o1, o2, o3, o4, o5, o6⟩ := id okd
  have p6 : 2 ^ dL (aD A) ≤ 64 := Nat.pow_le_pow_right (n := 2) (by decide) o1
  obtain ⟨k0, k1, k2, k3, k4, k5⟩ := id a5
  obtain ⟨u0, u1, u2, u3, uO, uM⟩ := id b10
  have hm64 : mI (aU A) < 64 := by omega
  refine r_aload_n C dX7_tell_0 rfl ?_
  refine r_iload_n C dX7_tell_1 rfl ?_
  refine r_iload_n C dX7_tell_2 rfl ?_
  refine r_iload_n C dX7_tell_3 rfl ?_
  refine r_cVi C F dX7_tell_4 (s7_isThing hA) tw_413 m7_isThing (rfl) rfl (by decide) rfl (Nat.le_of_ble_eq_true rfl) ?_
  refine r_if_ne 13 C dX7_tell_7 (by decide) (fun c_7 => ?_) (fun c_7 => ?_)
  · rw [bz_ne0] at c_7
    have ht0 := c_7
    obtain ⟨i, hi, rfl⟩ := (inP_lord rfl o1).mp c_7.1
    obtain ⟨j, hj, rfl⟩ := (inP_lord rfl o2).mp c_7.2.1
    obtain ⟨k, hk, rfl⟩ := (inP_lord rfl o1).mp c_7.2.2.1
    refine r_aload_n C dX7_tell_13 rfl ?_
    refine r_getR C dX7_tell_14 flX7_29 (rfl) rfl ?_
    refine r_iload_n C dX7_tell_17 rfl ?_
    refine r_cVi C F dX7_tell_18 (s2_isIn b10 (i := i) hm64 (by omega)) tw_417 m2_isIn (rfl) rfl (by decide) rfl (Nat.le_of_ble_eq_true rfl) ?_
    refine r_if_eq 35 C dX7_tell_21 (by decide) (fun c_21 => ?_) (fun c_21 => ?_)
    · refine r_ldc C dX7_tell_35 tw_421 ?_
      rw [bz_eq0] at c_21
      exact r_iret C F dX7_tell_37 (by unfold opTell; rw [if_neg (not_not_intro ht0), if_pos (fun z => c_21 ((hasP_nI (by omega) (by omega)).mp z.1))]; exact QK_same hA)
    · refine r_aload_n C dX7_tell_24 rfl ?_
      refine r_getR C dX7_tell_25 flX7_29 (rfl) rfl ?_
      refine r_iload_n C dX7_tell_28 rfl ?_
      refine r_cVi C F dX7_tell_29 (s2_isIn b10 (i := k) hm64 (by omega)) tw_417 m2_isIn (rfl) rfl (by decide) rfl (Nat.le_of_ble_eq_true rfl) ?_
      refine r_if_ne 38 C dX7_tell_32 (by decide) (fun c_32 => ?_) (fun c_32 => ?_)
      · rw [bz_ne0] at c_21 c_32
        refine r_aload_n C dX7_tell_38 rfl ?_
        refine r_getR C dX7_tell_39 flX7_29 (rfl) rfl ?_
        refine r_getI C dX7_tell_42 flX7_118 (rfl) rfl ?_
        refine r_sipush (9000) C dX7_tell_45 rfl ?_
        refine r_icmp_le 54 C dX7_tell_48 (by decide) (fun c_48 => ?_) (fun c_48 => ?_)
        · rw [cLe (x := h 20 2) (c := 9000) (i := mT (aU A)) (n := 9000) (u2) (rfl) (by omega) (by omega)] at c_48
          refine r_aload_n C dX7_tell_54 rfl ?_
          refine r_iload_n C dX7_tell_55 rfl ?_
          refine r_iload_n C dX7_tell_56 rfl ?_
          refine r_iload_n C dX7_tell_57 rfl ?_
          refine r_callV C F dX7_tell_58 (s7_tellNow hA hi hj hk (by omega)) tw_422 m7_tellNow (rfl) rfl (by decide) rfl (Nat.le_of_ble_eq_true rfl) (fun v g q => ?_)
          obtain ⟨rfl, z1, z2⟩ := q
          show G X E SHP (0, 0) 61 _ [] g
          refine r_aload_n C dX7_tell_61 rfl ?_
          refine r_getR C dX7_tell_62 flX7_29 (rfl) rfl ?_
          refine r_getI C dX7_tell_65 flX7_127 (rfl) rfl ?_
          refine r_iret C F dX7_tell_68 ?_
          unfold opTell
          rw [if_neg (not_not_intro ht0), if_neg (not_not_intro ⟨(hasP_nI (by omega) (by omega)).mpr c_21, (hasP_nI (by omega) (by omega)).mpr c_32⟩), if_neg (by omega), cl_nI (by omega), cl_nI (by omega), cl_nI (by omega)]
          obtain ⟨o', w⟩ := id z1
          exact ⟨congrArg (fun z => some (Value.int z)) w.2.2.2.2.2.2.1.2.2.2.1, z1, z2⟩
        · rw [cLe (x := h 20 2) (c := 9000) (i := mT (aU A)) (n := 9000) (u2) (rfl) (by omega) (by omega)] at c_48
          refine r_ldc C dX7_tell_51 tw_275 ?_
          exact r_iret C F dX7_tell_53 (by unfold opTell; rw [if_neg (not_not_intro ht0), if_neg (not_not_intro ⟨(hasP_nI (by omega) (by omega)).mpr c_21, (hasP_nI (by omega) (by omega)).mpr c_32⟩), if_pos (by omega)]; exact QK_same hA)
      · refine r_ldc C dX7_tell_35 tw_421 ?_
        rw [bz_eq0] at c_32
        exact r_iret C F dX7_tell_37 (by unfold opTell; rw [if_neg (not_not_intro ht0), if_pos (fun z => c_32 ((hasP_nI (by omega) (by omega)).mp z.2))]; exact QK_same hA)
  · refine r_ldc C dX7_tell_10 tw_389 ?_
    rw [bz_eq0] at c_7
    exact r_iret C F dX7_tell_12 (by unfold opTell; rw [if_pos c_7]; exact QK_same hA)
set_option maxHeartbeats 4000000 in
theorem s7_night {A : At} (hA : CA h A) {x : Int32} : Sp l E SHP 5 M7_night [.ref (E.1 + 0), .int x] h (QK h (opNight A x)) := by
  refine Sp.of (by decide) (Nat.le_of_ble_eq_true rfl) (fun X C F => ?_)
  have C : Ok X E RX7 cX7_night 3 := C
  have F : Fn X l E SHP 5 (some FieldType.int) (QK h (opNight A x)) := F
  show G X E SHP (0, 0) 0 [(0, .ref (E.1 + 0)), (1, .int x)] [] h
  obtain ⟨o, hA0⟩ := id hA
  obtain ⟨⟨a1, a2, a3, a4, a5, a6, a7, a8, a9, a10, a11, a12⟩, ⟨b1, b2⟩, b3, ⟨b4, b5, b6⟩, ⟨b7, b8⟩, b9, b10, b11, b12, b13, b14⟩ := id hA0
  have hO : isH o := isH_o b6
  have ho : o ≤ 12 := by omega
  have ho4 : 4 ≤ o := by omega
  obtain ⟨okd, e1, e2, e3, e4, eL, eJ, eB, eF⟩ := id b8
  obtain ⟨o1, o2, o3, o4, o5, o6⟩ := id okd
  have p6 : 2 ^ dL (aD A) ≤ 64 := Nat.pow_le_pow_right (n := 2) (by decide) o1
  obtain ⟨k0, k1, k2, k3, k4, k5⟩ := id a5
  obtain ⟨u0, u1, u2, u3, uO, uM⟩ := id b10
  have hm64 : mI (aU A) < 64 := by omega
  refine r_iload_n C dX7_night_0 rfl ?_
  refine r_iconst (1) C dX7_night_1 rfl ?_
  refine r_icmp_lt 11 C dX7_night_2 (by decide) (fun c_2 => ?_) (fun c_2 => ?_)
  · refine r_ldc C dX7_night_11 tw_274 ?_
    exact r_iret C F dX7_night_13 (by unfold opNight; rw [if_pos (fun z => absurd c_2 (Int32.not_lt.mpr z.1))]; exact QK_same hA)
  · refine r_iload_n C dX7_night_5 rfl ?_
    refine r_bipush (20) C dX7_night_6 rfl ?_
    refine r_icmp_le 14 C dX7_night_8 (by decide) (fun c_8 => ?_) (fun c_8 => ?_)
    · refine r_aload_n C dX7_night_14 rfl ?_
      refine r_getV (o) C dX7_night_15 flX7_19 (rfl) rfl (b4) (by first | decide | omega) ?_
      refine r_getI C dX7_night_18 flX7_103 (hO.1) rfl ?_
      refine r_if_ne 27 C dX7_night_21 (by decide) (fun c_21 => ?_) (fun c_21 => ?_)
      · refine r_aload_n C dX7_night_27 rfl ?_
        refine r_getR C dX7_night_28 flX7_29 (rfl) rfl ?_
        refine r_getI C dX7_night_31 flX7_115 (rfl) rfl ?_
        refine r_sipush (900) C dX7_night_34 rfl ?_
        refine r_icmp_le 43 C dX7_night_37 (by decide) (fun c_37 => ?_) (fun c_37 => ?_)
        · rw [cLe (x := h 20 1) (c := 900) (i := mN (aU A)) (n := 900) (u1) (rfl) (by omega) (by omega)] at c_37
          have c_x : inP x 1 20 := ⟨Int32.not_lt.mp c_2, c_8⟩
          obtain ⟨n, hn, rfl⟩ := inP_of (n := 20) rfl (by decide) ⟨Int32.le_trans (by decide) c_x.1, c_x.2⟩
          have hth : aH A = true := b01_n (b7 ▸ c_21)
          have L : ∀ k, k ≤ n → ∀ g : Hp, CA g (nightsA A k) → (∀ a, 49 ≤ a → g a = h a) → G X E SHP (0, 0) 45 [(0, .ref (E.1 + 0)), (1, .int (nI n)), (2, .int (nI k))] [] g := by
            refine loopN n _ (fun k hk ih g hg fr => ?_)
            obtain ⟨m1, m2⟩ := nightsA_mN A k
            refine r_iload_n C dX7_night_45 rfl ?_
            refine r_iload_n C dX7_night_46 rfl ?_
            refine r_icmp_ge 60 C dX7_night_47 (by decide) (fun c_47 => ?_) (fun c_47 => ?_)
            · rw [cLe (x := nI n) (c := nI k) (i := n) (n := k) (rfl) (rfl) (by omega) (by omega)] at c_47
              refine r_aload_n C dX7_night_60 rfl ?_
              refine r_getR C dX7_night_61 flX7_29 (rfl) rfl ?_
              refine r_getI C dX7_night_64 flX7_115 (rfl) rfl ?_
              have hk2 : k = n := by omega
              subst hk2
              refine r_iret C F dX7_night_67 ?_
              unfold opNight
              rw [if_neg (not_not_intro c_x), if_neg (by rw [hth]; decide), if_neg (by omega), cl_nI (by omega)]
              obtain ⟨o', w⟩ := id hg
              exact ⟨congrArg (fun z => some (Value.int z)) (w.2.2.2.2.2.2.1.2.1.trans (by rw [m1])), hg, fr⟩
            · rw [cLe (x := nI n) (c := nI k) (i := n) (n := k) (rfl) (rfl) (by omega) (by omega)] at c_47
              refine r_aload_n C dX7_night_50 rfl ?_
              refine r_callV C F dX7_night_51 (s7_passNight hg (by rw [m1, m2]; omega)) tw_468 m7_passNight (rfl) rfl (by decide) rfl (Nat.le_of_ble_eq_true rfl) (fun v g2 q => ?_)
              obtain ⟨rfl, y1, y2⟩ := q
              show G X E SHP (0, 0) 54 _ [] g2
              refine r_inc (1) C dX7_night_54 rfl (by decide) rfl rfl ?_
              refine r_goto 45 C dX7_night_57 (by decide) ?_
              exact (ih (by omega) g2 y1 (fun a ha => (y2 a ha).trans (fr a ha))).sub ⟨rfl, rfl, by rw [nI_succ]; rfl, trivial⟩
          refine r_iconst (0) C dX7_night_43 rfl ?_
          refine r_istore_n C dX7_night_44 (by decide) rfl ?_
          exact (L 0 (Nat.zero_le _) h hA (fun _ _ => rfl)).sub ⟨rfl, rfl, rfl, trivial⟩
        · rw [cLe (x := h 20 1) (c := 900) (i := mN (aU A)) (n := 900) (u1) (rfl) (by omega) (by omega)] at c_37
          refine r_ldc C dX7_night_40 tw_275 ?_
          have hth : aH A = true := b01_n (b7 ▸ c_21)
          exact r_iret C F dX7_night_42 (by unfold opNight; rw [if_neg (not_not_intro ⟨Int32.not_lt.mp c_2, c_8⟩), if_neg (by rw [hth]; decide), if_pos (by omega)]; exact QK_same hA)
      · refine r_ldc C dX7_night_24 tw_421 ?_
        have hth : aH A = false := b01_f (b7 ▸ c_21)
        exact r_iret C F dX7_night_26 (by unfold opNight; rw [if_neg (not_not_intro ⟨Int32.not_lt.mp c_2, c_8⟩), if_pos hth]; exact QK_same hA)
    · refine r_ldc C dX7_night_11 tw_274 ?_
      exact r_iret C F dX7_night_13 (by unfold opNight; rw [if_pos (fun z => c_8 z.2)]; exact QK_same hA)
