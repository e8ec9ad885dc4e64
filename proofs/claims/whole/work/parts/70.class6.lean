variable {l : Launch} {E : Ev} {h : Hp}
set_option maxHeartbeats 4000000 in
theorem s7_alone {A : At} (hA : CA h A) {x z : Int32} : Sp l E SHP 12 M7_alone [.ref (E.1 + 0), .int x, .int z] h (QK h (vAlone A x z, A)) := by
  refine Sp.of (by decide) (Nat.le_of_ble_eq_true rfl) (fun X C F => ?_)
  have C : Ok X E RX7 cX7_alone 4 := C
  have F : Fn X l E SHP 12 (some FieldType.int) (QK h (vAlone A x z, A)) := F
  show G X E SHP (0, 0) 0 [(0, .ref (E.1 + 0)), (1, .int x), (2, .int z)] [] h
  obtain ⟨o, hA0⟩ := id hA
  obtain ⟨⟨a1, a2, a3, a4, a5, a6, a7, a8, a9, a10, a11, a12⟩, ⟨b1, b2⟩, b3, ⟨b4, b5, b6⟩, ⟨b7, b8⟩, b9, b10, b11, b12, b13, b14⟩ := id hA0
  have hO : isH o := isH_o b6
  have ho : o ≤ 12 := by omega
  have ho4 : 4 ≤ o := by omega
  obtain ⟨okd, e1, e2, e3, e4, eL, eJ, eB, eF⟩ := id b8
  obtain ⟨o1, o2, o3, o4, o5, o6⟩ := id okd
  have p6 : 2 ^ dL (aD A) ≤ 64 := Nat.pow_le_pow_right (n := 2) (by decide) o1
  obtain ⟨k0, k1, k2, k3, k4, k5⟩ := id a5
  obtain ⟨u0, u1, u2, u3, uO, uM⟩ := id b10
  have hm64 : mI (aU A) < 64 := by omega
  refine r_aload_n C dX7_alone_0 rfl ?_
  refine r_getV (o) C dX7_alone_1 flX7_19 (rfl) rfl (b4) (by first | decide | omega) ?_
  refine r_iload_n C dX7_alone_4 rfl ?_
  refine r_cVi C F dX7_alone_5 (s0_hasLord hO b8) tw_385 m0_hasLord (hO.1) rfl (by decide) rfl (Nat.le_of_ble_eq_true rfl) ?_
  refine r_if_ne 14 C dX7_alone_8 (by decide) (fun c_8 => ?_) (fun c_8 => ?_)
  · rw [bz_ne0] at c_8
    have c_8b := c_8
    obtain ⟨i, hi, rfl⟩ := (inP_lord rfl o1).mp c_8
    refine r_aload_n C dX7_alone_14 rfl ?_
    refine r_getR C dX7_alone_15 flX7_29 (rfl) rfl ?_
    refine r_iload_n C dX7_alone_18 rfl ?_
    refine r_cVi C F dX7_alone_19 (s2_isIn b10 (i := i) hm64 (by omega)) tw_417 m2_isIn (rfl) rfl (by decide) rfl (Nat.le_of_ble_eq_true rfl) ?_
    refine r_if_ne 28 C dX7_alone_22 (by decide) (fun c_22 => ?_) (fun c_22 => ?_)
    · rw [bz_ne0] at c_22
      refine r_aload_n C dX7_alone_28 rfl ?_
      refine r_getR C dX7_alone_29 flX7_57 (rfl) rfl ?_
      refine r_aload_n C dX7_alone_32 rfl ?_
      refine r_getV (o) C dX7_alone_33 flX7_19 (rfl) rfl (b4) (by first | decide | omega) ?_
      refine r_aload_n C dX7_alone_36 rfl ?_
      refine r_getR C dX7_alone_37 flX7_29 (rfl) rfl ?_
      refine r_callV C F dX7_alone_40 (s5_startFrom hO b8 ho b10 (by omega)) tw_426 m5_startFrom (rfl) rfl (by decide) rfl (Nat.le_of_ble_eq_true rfl) (fun v g q => ?_)
      obtain ⟨rfl, z1, z2⟩ := q
      have hA2 : CAo g A o := CAo_tr hA0 (fun a ha => z2 a (by omega) (by omega) (by omega))
      have u02 : g 20 0 = nI (mI (aU A)) := by rw [z2 20 (by decide) (by decide) (by decide)]; exact u0
      have b42 : g 0 1 = nI o := by rw [z2 0 (by decide) (by decide) (by decide)]; exact b4
      have hhi : ∀ a, 49 ≤ a → g a = h a := fun a ha => z2 a (by omega) (by omega) (by omega)
      show G X E SHP (0, 0) 43 _ [] g
      refine r_aload_n C dX7_alone_43 rfl ?_
      refine r_getR C dX7_alone_44 flX7_57 (rfl) rfl ?_
      refine r_aload_n C dX7_alone_47 rfl ?_
      refine r_getR C dX7_alone_48 flX7_29 (rfl) rfl ?_
      refine r_getI C dX7_alone_51 flX7_121 (rfl) rfl ?_
      rw [u02]
      refine r_iload_n C dX7_alone_54 rfl ?_
      refine r_callV C F dX7_alone_55 (s5_shortestRow hO ho (i := i) (v := aU A) (by omega) z1 (okW_of a5)) tw_519 m5_shortestRow (rfl) rfl (by decide) rfl (Nat.le_of_ble_eq_true rfl) (fun v g1 q => ?_)
      obtain ⟨rfl, y1, y3⟩ := q
      have hA3 : CAo g1 A o := CAo_tr hA2 (fun a ha => y1 a (by omega))
      have hhi3 : ∀ a, 49 ≤ a → g1 a = h a := fun a ha => by rw [y1 a (by omega)]; exact hhi a ha
      show G X E SHP (0, 0) 58 _ [.int (lnI (alF (aD A) (aU A) i))] g1
      refine r_istore_n C dX7_alone_58 (by decide) rfl ?_
      refine r_iload_n C dX7_alone_59 rfl ?_
      refine r_iconst (-1) C dX7_alone_60 rfl ?_
      refine r_icmp_ne 66 C dX7_alone_61 (by decide) (fun c_61 => ?_) (fun c_61 => ?_)
      · refine r_iload_n C dX7_alone_66 rfl ?_
        refine r_if_lt 86 C dX7_alone_67 (by decide) (fun c_67 => ?_) (fun c_67 => ?_)
        · refine r_iconst (-1) C dX7_alone_86 rfl ?_
          refine r_iret C F dX7_alone_87 ?_
          unfold vAlone
          rw [if_neg (not_not_intro c_8b), if_neg (not_not_intro ((hasP_nI (by omega) (by omega)).mpr c_22)), cl_nI (by omega), if_neg c_61]
          cases hR : alF (aD A) (aU A) i with
          | none => exact ⟨rfl, ⟨o, hA3⟩, hhi3⟩
          | some L =>
            show QK h ((if z < 0 then -1 else _), A) _ _
            rw [if_pos c_67]
            exact ⟨rfl, ⟨o, hA3⟩, hhi3⟩
        · refine r_iload_n C dX7_alone_70 rfl ?_
          refine r_iload_n C dX7_alone_71 rfl ?_
          refine r_icmp_ge 86 C dX7_alone_72 (by decide) (fun c_72 => ?_) (fun c_72 => ?_)
          · refine r_iconst (-1) C dX7_alone_86 rfl ?_
            refine r_iret C F dX7_alone_87 ?_
            unfold vAlone
            rw [if_neg (not_not_intro c_8b), if_neg (not_not_intro ((hasP_nI (by omega) (by omega)).mpr c_22)), cl_nI (by omega), if_neg c_61]
            cases hR : alF (aD A) (aU A) i with
            | none => exact ⟨rfl, ⟨o, hA3⟩, hhi3⟩
            | some L =>
              rw [hR] at c_72
              obtain ⟨k, hk, rfl⟩ := nI_of c_67
              have hl := alF_len hR
              have c_72 : nI L.length ≤ nI k := c_72
              rw [cLe (x := nI L.length) (c := nI k) (i := L.length) (n := k) rfl rfl (by omega) (by omega)] at c_72
              show QK h ((if nI k < 0 then -1 else match L[cl (nI k)]? with
                | none => -1
                | some c => nI c), A) _ _
              rw [if_neg c_67, cl_nI (by omega), List.getElem?_eq_none (by omega)]
              exact ⟨rfl, ⟨o, hA3⟩, hhi3⟩
          · refine r_aload_n C dX7_alone_75 rfl ?_
            refine r_getR C dX7_alone_76 flX7_57 (rfl) rfl ?_
            refine r_iload_n C dX7_alone_79 rfl ?_
            refine r_cVi C F dX7_alone_80 (s5_thingAt) tw_528 m5_thingAt (rfl) rfl (by decide) rfl (Nat.le_of_ble_eq_true rfl) ?_
            refine r_goto 87 C dX7_alone_83 (by decide) ?_
            refine r_iret C F dX7_alone_87 ?_
            unfold vAlone
            rw [if_neg (not_not_intro c_8b), if_neg (not_not_intro ((hasP_nI (by omega) (by omega)).mpr c_22)), cl_nI (by omega), if_neg c_61]
            cases hR : alF (aD A) (aU A) i with
            | none => rw [hR] at c_72; exact absurd (Int32.le_trans (show (-1 : Int32) ≤ 0 by decide) (Int32.not_lt.mp c_67)) c_72
            | some L =>
              rw [hR] at c_72
              obtain ⟨k, hk, rfl⟩ := nI_of c_67
              have hl := alF_len hR
              have c_72 : ¬ nI L.length ≤ nI k := c_72
              rw [cLe (x := nI L.length) (c := nI k) (i := L.length) (n := k) rfl rfl (by omega) (by omega)] at c_72
              show QK h ((if nI k < 0 then -1 else match L[cl (nI k)]? with
                | none => -1
                | some c => nI c), A) _ _
              rw [if_neg c_67, cl_nI (by omega), List.getElem?_eq_getElem (show k < L.length by omega), if_pos ⟨Int32.not_lt.mp c_67, (nI_leI (b := 2) (by omega) (by decide)).mpr (by omega)⟩, y3 L k _ hR (List.getElem?_eq_getElem (show k < L.length by omega))]
              exact ⟨rfl, ⟨o, hA3⟩, hhi3⟩
      · refine r_iload_n C dX7_alone_64 rfl ?_
        refine r_iret C F dX7_alone_65 ?_
        unfold vAlone
        rw [if_neg (not_not_intro c_8b), if_neg (not_not_intro ((hasP_nI (by omega) (by omega)).mpr c_22)), cl_nI (by omega), if_pos c_61]
        exact ⟨rfl, ⟨o, hA3⟩, hhi3⟩
    · refine r_ldc C dX7_alone_25 tw_421 ?_
      rw [bz_eq0] at c_22
      exact r_iret C F dX7_alone_27 (by unfold vAlone; rw [if_neg (not_not_intro c_8b), if_pos (fun z => c_22 ((hasP_nI (by omega) (by omega)).mp z))]; exact QK_same hA)
  · refine r_ldc C dX7_alone_11 tw_389 ?_
    rw [bz_eq0] at c_8
    exact r_iret C F dX7_alone_13 (by unfold vAlone; rw [if_pos c_8]; exact QK_same hA)
set_option maxHeartbeats 4000000 in
theorem s5_outcomeOfDuel {o x y n : Nat} {D : HDt} {v : Mom} (hO : isH o) (ho : o ≤ 12) (hT : CT h o D (mN v) (mM v)) (ok : okW D v 0) (hn : n ≤ 3) (hx : x < 6) (hy : y < 6) (hb : 0 < dJ D → bth D v x y) : Sp l E SHP 11 M5_outcomeOfDuel [.ref (E.1 + 36), .int (nI (mI v)), .int (nI x), .int (nI y), .int (nI n)] h (QD h 0 (bV D n v x y) (bR D n v x y)) := by
  refine Sp.of (by decide) (Nat.le_of_ble_eq_true rfl) (fun X C F => ?_)
  have C : Ok X E RX5 cX5_outcomeOfDuel 5 := C
  have F : Fn X l E SHP 11 (some FieldType.int) (QD h 0 (bV D n v x y) (bR D n v x y)) := F
  show G X E SHP (0, 0) 0 [(0, .ref (E.1 + 36)), (1, .int (nI (mI v))), (2, .int (nI x)), (3, .int (nI y)), (4, .int (nI n))] [] h
  refine r_aload_n C dX5_outcomeOfDuel_0 rfl ?_
  refine r_iload_n C dX5_outcomeOfDuel_1 rfl ?_
  refine r_iload_n C dX5_outcomeOfDuel_2 rfl ?_
  refine r_iload_n C dX5_outcomeOfDuel_3 rfl ?_
  refine r_iconst (0) C dX5_outcomeOfDuel_4 rfl ?_
  refine r_iload C dX5_outcomeOfDuel_5 rfl ?_
  refine r_callV C F dX5_outcomeOfDuel_7 (s5_bestInDuel hO ho hT.2.1.1 n h v x y 0 n 0 hT ok (by omega) (by omega) hn hx hy hb) tw_540 m5_bestInDuel (rfl) rfl (by omega) rfl (Nat.le_of_ble_eq_true rfl) (fun w2 g2 q => ?_)
  obtain ⟨rfl, q2⟩ := q
  show G X E SHP (0, 0) 10 _ [.int (nI (bV D n v x y))] g2
  exact r_iret C F dX5_outcomeOfDuel_10 ⟨rfl, q2⟩
set_option maxHeartbeats 4000000 in
theorem s7_duel {A : At} (hA : CA h A) {x y n w : Int32} : Sp l E SHP 12 M7_duel [.ref (E.1 + 0), .int x, .int y, .int n, .int w] h (QK h (vDuel A x y n w, A)) := by
  refine Sp.of (by decide) (Nat.le_of_ble_eq_true rfl) (fun X C F => ?_)
  have C : Ok X E RX7 cX7_duel 6 := C
  have F : Fn X l E SHP 12 (some FieldType.int) (QK h (vDuel A x y n w, A)) := F
  show G X E SHP (0, 0) 0 [(0, .ref (E.1 + 0)), (1, .int x), (2, .int y), (3, .int n), (4, .int w)] [] h
  obtain ⟨o, hA0⟩ := id hA
  obtain ⟨⟨a1, a2, a3, a4, a5, a6, a7, a8, a9, a10, a11, a12⟩, ⟨b1, b2⟩, b3, ⟨b4, b5, b6⟩, ⟨b7, b8⟩, b9, b10, b11, b12, b13, b14⟩ := id hA0
  have hO : isH o := isH_o b6
  have ho : o ≤ 12 := by omega
  have ho4 : 4 ≤ o := by omega
  obtain ⟨okd, e1, e2, e3, e4, eL, eJ, eB, eF⟩ := id b8
  obtain ⟨o1, o2, o3, o4, o5, o6⟩ := id okd
  have p6 : 2 ^ dL (aD A) ≤ 64 := Nat.pow_le_pow_right (n := 2) (by decide) o1
  obtain ⟨k0, k1, k2, k3, k4, k5⟩ := id a5
  obtain ⟨u0, u1, u2, u3, uO, uM⟩ := id b10
  have hm64 : mI (aU A) < 64 := by omega
  refine r_aload_n C dX7_duel_0 rfl ?_
  refine r_getV (o) C dX7_duel_1 flX7_19 (rfl) rfl (b4) (by first | decide | omega) ?_
  refine r_iload_n C dX7_duel_4 rfl ?_
  refine r_cVi C F dX7_duel_5 (s0_hasLord hO b8) tw_385 m0_hasLord (hO.1) rfl (by decide) rfl (Nat.le_of_ble_eq_true rfl) ?_
  refine r_if_eq 27 C dX7_duel_8 (by decide) (fun c_8 => ?_) (fun c_8 => ?_)
  · refine r_ldc C dX7_duel_27 tw_389 ?_
    rw [bz_eq0] at c_8
    exact r_iret C F dX7_duel_29 (by unfold vDuel; rw [if_pos (fun z => c_8 z.1)]; exact QK_same hA)
  · refine r_aload_n C dX7_duel_11 rfl ?_
    refine r_getV (o) C dX7_duel_12 flX7_19 (rfl) rfl (b4) (by first | decide | omega) ?_
    refine r_iload_n C dX7_duel_15 rfl ?_
    refine r_cVi C F dX7_duel_16 (s0_hasLord hO b8) tw_385 m0_hasLord (hO.1) rfl (by decide) rfl (Nat.le_of_ble_eq_true rfl) ?_
    refine r_if_eq 27 C dX7_duel_19 (by decide) (fun c_19 => ?_) (fun c_19 => ?_)
    · refine r_ldc C dX7_duel_27 tw_389 ?_
      rw [bz_eq0] at c_19
      exact r_iret C F dX7_duel_29 (by unfold vDuel; rw [if_pos (fun z => c_19 z.2.1)]; exact QK_same hA)
    · refine r_iload_n C dX7_duel_22 rfl ?_
      refine r_iload_n C dX7_duel_23 rfl ?_
      refine r_icmp_ne 30 C dX7_duel_24 (by decide) (fun c_24 => ?_) (fun c_24 => ?_)
      · have hdu : duP A x y := ⟨bz_ne0.mp c_8, bz_ne0.mp c_19, c_24⟩
        rw [bz_ne0] at c_8 c_19
        obtain ⟨i, hi, rfl⟩ := (inP_lord rfl o1).mp c_8
        obtain ⟨k, hk, rfl⟩ := (inP_lord rfl o1).mp c_19
        have hik : ¬ i = k := fun z => c_24 (by rw [z])
        refine r_iload_n C dX7_duel_30 rfl ?_
        refine r_iconst (1) C dX7_duel_31 rfl ?_
        refine r_icmp_lt 51 C dX7_duel_32 (by decide) (fun c_32 => ?_) (fun c_32 => ?_)
        · refine r_ldc C dX7_duel_51 tw_274 ?_
          exact r_iret C F dX7_duel_53 (by unfold vDuel; rw [if_neg (not_not_intro hdu), if_pos (fun z => absurd c_32 (Int32.not_lt.mpr z.1.1))]; exact QK_same hA)
        · refine r_iload_n C dX7_duel_35 rfl ?_
          refine r_iconst (3) C dX7_duel_36 rfl ?_
          refine r_icmp_gt 51 C dX7_duel_37 (by decide) (fun c_37 => ?_) (fun c_37 => ?_)
          · refine r_ldc C dX7_duel_51 tw_274 ?_
            exact r_iret C F dX7_duel_53 (by unfold vDuel; rw [if_neg (not_not_intro hdu), if_pos (fun z => absurd c_37 (Int32.not_lt.mpr z.1.2))]; exact QK_same hA)
          · refine r_iload C dX7_duel_40 rfl ?_
            refine r_if_lt 51 C dX7_duel_42 (by decide) (fun c_42 => ?_) (fun c_42 => ?_)
            · refine r_ldc C dX7_duel_51 tw_274 ?_
              exact r_iret C F dX7_duel_53 (by unfold vDuel; rw [if_neg (not_not_intro hdu), if_pos (fun z => absurd c_42 (Int32.not_lt.mpr z.2.1))]; exact QK_same hA)
            · refine r_iload C dX7_duel_45 rfl ?_
              refine r_iconst (1) C dX7_duel_47 rfl ?_
              refine r_icmp_le 54 C dX7_duel_48 (by decide) (fun c_48 => ?_) (fun c_48 => ?_)
              · have hbd : inP n 1 3 ∧ inP w 0 1 := ⟨⟨Int32.not_lt.mp c_32, Int32.not_lt.mp c_37⟩, ⟨Int32.not_lt.mp c_42, c_48⟩⟩
                obtain ⟨r, hr, rfl⟩ := inP_of (n := 3) rfl (by decide) ⟨Int32.le_trans (by decide) hbd.1.1, hbd.1.2⟩
                have hr1 : 1 ≤ r := (cLe (x := 1) (i := 1) rfl rfl (by omega) (by omega)).mp hbd.1.1
                refine r_aload_n C dX7_duel_54 rfl ?_
                refine r_getR C dX7_duel_55 flX7_29 (rfl) rfl ?_
                refine r_iload_n C dX7_duel_58 rfl ?_
                refine r_cVi C F dX7_duel_59 (s2_isIn b10 (i := i) hm64 (by omega)) tw_417 m2_isIn (rfl) rfl (by decide) rfl (Nat.le_of_ble_eq_true rfl) ?_
                refine r_if_eq 76 C dX7_duel_62 (by decide) (fun c_62 => ?_) (fun c_62 => ?_)
                · refine r_ldc C dX7_duel_76 tw_421 ?_
                  rw [bz_eq0] at c_62
                  exact r_iret C F dX7_duel_78 (by unfold vDuel; rw [if_neg (not_not_intro hdu), if_neg (not_not_intro hbd), if_pos (fun z => c_62 ((hasP_nI (by omega) (by omega)).mp z.1))]; exact QK_same hA)
                · refine r_aload_n C dX7_duel_65 rfl ?_
                  refine r_getR C dX7_duel_66 flX7_29 (rfl) rfl ?_
                  refine r_iload_n C dX7_duel_69 rfl ?_
                  refine r_cVi C F dX7_duel_70 (s2_isIn b10 (i := k) hm64 (by omega)) tw_417 m2_isIn (rfl) rfl (by decide) rfl (Nat.le_of_ble_eq_true rfl) ?_
                  refine r_if_ne 79 C dX7_duel_73 (by decide) (fun c_73 => ?_) (fun c_73 => ?_)
                  · rw [bz_ne0] at c_62 c_73
                    have hb : 0 < dJ (aD A) → bth (aD A) (aU A) i k := fun z => ⟨hi, hk, hik, c_62, c_73, z, o1⟩
                    refine r_aload_n C dX7_duel_79 rfl ?_
                    refine r_getR C dX7_duel_80 flX7_57 (rfl) rfl ?_
                    refine r_aload_n C dX7_duel_83 rfl ?_
                    refine r_getV (o) C dX7_duel_84 flX7_19 (rfl) rfl (b4) (by first | decide | omega) ?_
                    refine r_aload_n C dX7_duel_87 rfl ?_
                    refine r_getR C dX7_duel_88 flX7_29 (rfl) rfl ?_
                    refine r_callV C F dX7_duel_91 (s5_startFrom hO b8 ho b10 (by omega)) tw_426 m5_startFrom (rfl) rfl (by decide) rfl (Nat.le_of_ble_eq_true rfl) (fun v g q => ?_)
                    obtain ⟨rfl, z1, z2⟩ := q
                    have hA2 : CAo g A o := CAo_tr hA0 (fun a ha => z2 a (by omega) (by omega) (by omega))
                    have u02 : g 20 0 = nI (mI (aU A)) := by rw [z2 20 (by decide) (by decide) (by decide)]; exact u0
                    have b42 : g 0 1 = nI o := by rw [z2 0 (by decide) (by decide) (by decide)]; exact b4
                    have hhi : ∀ a, 49 ≤ a → g a = h a := fun a ha => z2 a (by omega) (by omega) (by omega)
                    show G X E SHP (0, 0) 94 _ [] g
                    refine r_aload_n C dX7_duel_94 rfl ?_
                    refine r_getR C dX7_duel_95 flX7_57 (rfl) rfl ?_
                    refine r_aload_n C dX7_duel_98 rfl ?_
                    refine r_getR C dX7_duel_99 flX7_29 (rfl) rfl ?_
                    refine r_getI C dX7_duel_102 flX7_121 (rfl) rfl ?_
                    rw [u02]
                    refine r_iload_n C dX7_duel_105 rfl ?_
                    refine r_iload_n C dX7_duel_106 rfl ?_
                    refine r_iload_n C dX7_duel_107 rfl ?_
                    refine r_callV C F dX7_duel_108 (s5_outcomeOfDuel hO ho (x := i) (y := k) (n := r) (v := aU A) z1 (okW_of a5) (by omega) (by omega) (by omega) hb) tw_536 m5_outcomeOfDuel (rfl) rfl (by decide) rfl (Nat.le_of_ble_eq_true rfl) (fun v g1 q => ?_)
                    obtain ⟨rfl, y1, -, y3⟩ := q
                    have hA3 : CAo g1 A o := CAo_tr hA2 (fun a ha => y1 a (by omega))
                    have hhi3 : ∀ a, 49 ≤ a → g1 a = h a := fun a ha => by rw [y1 a (by omega)]; exact hhi a ha
                    have e43 : g1 o 4 = nI (dJ (aD A)) := hA3.2.2.2.2.1.2.2.2.2.2.1
                    show G X E SHP (0, 0) 111 _ [.int (nI (bV (aD A) r (aU A) i k))] g1
                    refine r_istore C dX7_duel_111 (by decide) rfl ?_
                    refine r_iload C dX7_duel_113 rfl ?_
                    refine r_if_ne 121 C dX7_duel_115 (by decide) (fun c_115 => ?_) (fun c_115 => ?_)
                    · refine r_aload_n C dX7_duel_121 rfl ?_
                      refine r_getV (o) C dX7_duel_122 flX7_19 (rfl) rfl (hA3.2.2.2.1.1) (by first | decide | omega) ?_
                      refine r_getI C dX7_duel_125 flX7_112 (hO.1) rfl ?_
                      refine r_if_ne 135 C dX7_duel_128 (by decide) (fun c_128 => ?_) (fun c_128 => ?_)
                      · refine r_aload_n C dX7_duel_135 rfl ?_
                        refine r_getR C dX7_duel_136 flX7_57 (rfl) rfl ?_
                        refine r_iconst (0) C dX7_duel_139 rfl ?_
                        refine r_cVi C F dX7_duel_140 (s5_thingAt (x := 0)) tw_528 m5_thingAt (rfl) rfl (by decide) rfl (Nat.le_of_ble_eq_true rfl) ?_
                        have hw : w = 1 := by
                          obtain ⟨j, hj, rfl⟩ := inP_of (n := 1) rfl (by decide) hbd.2
                          rcases (show j = 0 ∨ j = 1 by omega) with rfl | rfl
                          · exact absurd rfl c_115
                          · rfl
                        refine r_iret C F dX7_duel_143 ?_
                        unfold vDuel
                        rw [if_neg (not_not_intro hdu), if_neg (not_not_intro hbd), if_neg (not_not_intro ⟨(hasP_nI (by omega) (by omega)).mpr c_62, (hasP_nI (by omega) (by omega)).mpr c_73⟩), cl_nI (by omega), cl_nI (by omega), cl_nI (by omega), if_pos hw]
                        have z : 0 < dJ (aD A) := Nat.pos_of_ne_zero (fun z => c_128 (by rw [e43, z]; rfl))
                        obtain ⟨r', rfl⟩ : ∃ r', r = r' + 1 := ⟨r - 1, by omega⟩
                        rw [due_bV (hb z) hr1 hr, Nat.add_sub_cancel]
                        obtain ⟨q, hq⟩ := (hb z).ex (bF (aD A) r' (aU A) i k)
                        rw [hq, if_pos (show inP 0 0 2 by decide)]
                        refine ⟨?_, ⟨o, hA3⟩, hhi3⟩
                        have := y3 q hq
                        rw [show cl 0 = 0 from rfl, this]
                        rfl
                      · refine r_iconst (-1) C dX7_duel_131 rfl ?_
                        refine r_goto 143 C dX7_duel_132 (by decide) ?_
                        have hw : w = 1 := by
                          obtain ⟨j, hj, rfl⟩ := inP_of (n := 1) rfl (by decide) hbd.2
                          rcases (show j = 0 ∨ j = 1 by omega) with rfl | rfl
                          · exact absurd rfl c_115
                          · rfl
                        refine r_iret C F dX7_duel_143 ?_
                        unfold vDuel
                        rw [if_neg (not_not_intro hdu), if_neg (not_not_intro hbd), if_neg (not_not_intro ⟨(hasP_nI (by omega) (by omega)).mpr c_62, (hasP_nI (by omega) (by omega)).mpr c_73⟩), cl_nI (by omega), cl_nI (by omega), cl_nI (by omega), if_pos hw]
                        have z : dJ (aD A) = 0 := nI_z (by omega) (e43.symm.trans c_128)
                        have e0 : dueK (aD A) (aU A) i k r 60 = none := by rw [due_bs]; exact bs_skip 60 (Nat.zero_le _) (fun c h1 h2 => by unfold canB; rw [decide_eq_false (show ¬ c / 10 < dJ (aD A) by omega)]; simp)
                        rw [e0]
                        exact ⟨rfl, ⟨o, hA3⟩, hhi3⟩
                    · refine r_iload C dX7_duel_118 rfl ?_
                      refine r_iret C F dX7_duel_120 ?_
                      unfold vDuel
                      rw [if_neg (not_not_intro hdu), if_neg (not_not_intro hbd), if_neg (not_not_intro ⟨(hasP_nI (by omega) (by omega)).mpr c_62, (hasP_nI (by omega) (by omega)).mpr c_73⟩), cl_nI (by omega), cl_nI (by omega), cl_nI (by omega), if_neg (by rw [c_115]; decide)]
                      obtain ⟨r', rfl⟩ : ∃ r', r = r' + 1 := ⟨r - 1, by omega⟩
                      rcases Nat.eq_zero_or_pos (dJ (aD A)) with z | z
                      · have e0 : dueK (aD A) (aU A) i k (r' + 1) 60 = none := by rw [due_bs]; exact bs_skip 60 (Nat.zero_le _) (fun c h1 h2 => by unfold canB; rw [decide_eq_false (show ¬ c / 10 < dJ (aD A) by omega)]; simp)
                        have e1 : bsK (aD A) (bF (aD A) r' (aU A) i k) (aU A) i 60 = none := bs_skip 60 (Nat.zero_le _) (fun c h1 h2 => by unfold canB; rw [decide_eq_false (show ¬ c / 10 < dJ (aD A) by omega)]; simp)
                        rw [e0, bV_s, e1]
                        exact ⟨rfl, ⟨o, hA3⟩, hhi3⟩
                      · rw [due_bV (hb z) hr1 hr, bV_s, Nat.add_sub_cancel]
                        obtain ⟨q, hq⟩ := (hb z).ex (bF (aD A) r' (aU A) i k)
                        rw [hq]
                        exact ⟨rfl, ⟨o, hA3⟩, hhi3⟩
                  · refine r_ldc C dX7_duel_76 tw_421 ?_
                    rw [bz_eq0] at c_73
                    exact r_iret C F dX7_duel_78 (by unfold vDuel; rw [if_neg (not_not_intro hdu), if_neg (not_not_intro hbd), if_pos (fun z => c_73 ((hasP_nI (by omega) (by omega)).mp z.2))]; exact QK_same hA)
              · refine r_ldc C dX7_duel_51 tw_274 ?_
                exact r_iret C F dX7_duel_53 (by unfold vDuel; rw [if_neg (not_not_intro hdu), if_pos (fun z => c_48 z.2.2)]; exact QK_same hA)
      · refine r_ldc C dX7_duel_27 tw_389 ?_
        exact r_iret C F dX7_duel_29 (by unfold vDuel; rw [if_pos (fun z => z.2.2 c_24)]; exact QK_same hA)
