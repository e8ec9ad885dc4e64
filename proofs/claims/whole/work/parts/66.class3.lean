variable {l : Launch} {E : Ev} {h : Hp}
theorem lsK_c (p : Nat → Bool) : ∀ k, k ≤ 20 → lsK p k = -1 ∨ ∃ n, n ≤ 20 ∧ lsK p k = nI n
  | 0, _ => Or.inl rfl
  | k + 1, hk => by
    have hs : lsK p (k + 1) = if p (k + 1) = true ∧ lsK p k < 0 then nI (k + 1) else lsK p k := rfl
    rw [hs]
    split
    · exact Or.inr ⟨k + 1, hk, rfl⟩
    · exact lsK_c p k (by omega)
theorem lsK_neg {p : Nat → Bool} {k : Nat} (hk : k ≤ 20) : lsK p k < 0 ↔ lsK p k = -1 := by
  rcases lsK_c p k hk with e | ⟨n, hn, e⟩
  · rw [e]; exact ⟨fun _ => rfl, fun _ => by decide⟩
  · rw [e]
    exact ⟨fun z => absurd z (Int32.not_lt.mpr ((nI_leI (a := 0) (by decide) (by omega)).mpr (Nat.zero_le _))), fun z => absurd z (nI_nm1 n (by omega))⟩
set_option maxHeartbeats 4000000 in
theorem s7_tastes {A : At} (hA : CA h A) {x : Int32} : Sp l E SHP 1 M7_tastes [.ref (E.1 + 0), .int x] h (QK h (vTastes A x, A)) := by
  refine Sp.of (by decide) (Nat.le_of_ble_eq_true rfl) (fun X C F => ?_)
  have C : Ok X E RX7 cX7_tastes 4 := C
  have F : Fn X l E SHP 1 (some FieldType.int) (QK h (vTastes A x, A)) := F
  show G X E SHP (0, 0) 0 [(0, .ref (E.1 + 0)), (1, .int x)] [] h
  obtain ⟨o, hA0⟩ := id hA
  obtain ⟨⟨a1, a2, a3, a4, a5, a6, a7, a8, a9, a10, a11, a12⟩, ⟨b1, b2⟩, b3, ⟨b4, b5, b6⟩, ⟨b7, b8⟩, b9, b10, b11, b12, b13, b14⟩ := id hA0
  have hO : isH o := isH_o b6
  have ho : o ≤ 12 := by omega
  have ho4 : 4 ≤ o := by omega
  obtain ⟨okd, e1, e2, e3, e4, eL, eJ, eB, eF⟩ := id b8
  obtain ⟨o1, o2, o3, o4, o5, o6⟩ := id okd
  have p6 : 2 ^ dL (aD A) ≤ 64 := Nat.pow_le_pow_right (n := 2) (by decide) o1
  obtain ⟨k0, k1, k2, k3, k4, k5⟩ := id a5
  obtain ⟨u0, u1, u2, u3, uO, uM⟩ := id b10
  have hm64 : mI (aU A) < 64 := by omega
  refine r_aload_n C dX7_tastes_0 rfl ?_
  refine r_getV (o) C dX7_tastes_1 flX7_19 (rfl) rfl (b4) (by first | decide | omega) ?_
  refine r_iload_n C dX7_tastes_4 rfl ?_
  refine r_cVi C F dX7_tastes_5 (s0_hasLord hO b8) tw_385 m0_hasLord (hO.1) rfl (by decide) rfl (Nat.le_of_ble_eq_true rfl) ?_
  refine r_if_ne 14 C dX7_tastes_8 (by decide) (fun c_8 => ?_) (fun c_8 => ?_)
  · rw [bz_ne0] at c_8
    have c_8b := c_8
    obtain ⟨i, hi, rfl⟩ := (inP_lord rfl o1).mp c_8
    have hS := o5 i hi
    have L : ∀ k, k ≤ 16 → G X E SHP (0, 0) 18 [(0, .ref (E.1 + 0)), (1, .int (nI i)), (2, .int (nI (lset (fun t => fitA A i t (dS (aD A) i)) k))), (3, .int (nI k))] [] h := by
      refine loopN 16 _ (fun k hk ih => ?_)
      refine r_iload_n C dX7_tastes_18 rfl ?_
      refine r_bipush (16) C dX7_tastes_19 rfl ?_
      refine r_icmp_ge 61 C dX7_tastes_21 (by decide) (fun c_21 => ?_) (fun c_21 => ?_)
      · rw [cLe (x := 16) (c := nI k) (i := 16) (n := k) (rfl) (rfl) (by omega) (by omega)] at c_21
        refine r_iload_n C dX7_tastes_61 rfl ?_
        exact r_iret C F dX7_tastes_62 (by unfold vTastes; rw [if_neg (not_not_intro c_8b), cl_nI (by omega), show k = 16 by omega]; exact QK_same hA)
      · rw [cLe (x := 16) (c := nI k) (i := 16) (n := k) (rfl) (rfl) (by omega) (by omega)] at c_21
        refine r_aload_n C dX7_tastes_24 rfl ?_
        refine r_getR C dX7_tastes_25 flX7_50 (rfl) rfl ?_
        refine r_aload_n C dX7_tastes_28 rfl ?_
        refine r_getV (o) C dX7_tastes_29 flX7_19 (rfl) rfl (b4) (by first | decide | omega) ?_
        refine r_iload_n C dX7_tastes_32 rfl ?_
        refine r_iload_n C dX7_tastes_33 rfl ?_
        refine r_aload_n C dX7_tastes_34 rfl ?_
        refine r_getV (o) C dX7_tastes_35 flX7_19 (rfl) rfl (b4) (by first | decide | omega) ?_
        refine r_getR C dX7_tastes_38 flX7_147 (hO.1) rfl ?_
        refine r_iload_n C dX7_tastes_41 rfl ?_
        refine r_iald (i) C dX7_tastes_42 (hO.2.2.1) (rfl) (by omega) (by first | decide | omega) ?_
        rw [(eL i hi).2.1]
        refine r_cVi C F dX7_tastes_43 (s6_fits hO b8 b13 a9 a10 (i := i) (t := k) (s := dS (aD A) i) (by omega) (by omega) (by omega)) tw_615 m6_fits (rfl) rfl (by decide) rfl (Nat.le_of_ble_eq_true rfl) ?_
        refine r_if_eq 55 C dX7_tastes_46 (by decide) (fun c_46 => ?_) (fun c_46 => ?_)
        · refine r_inc (1) C dX7_tastes_55 rfl (by decide) rfl rfl ?_
          refine r_goto 18 C dX7_tastes_58 (by decide) ?_
          rw [bz_eq0, Bool.not_eq_true] at c_46
          exact (ih (by omega)).sub ⟨rfl, rfl, by rw [lset_f (p := (fun t => fitA A i t (dS (aD A) i))) c_46]; rfl, by rw [nI_succ]; rfl, trivial⟩
        · refine r_iload_n C dX7_tastes_49 rfl ?_
          refine r_iconst (1) C dX7_tastes_50 rfl ?_
          refine r_iload_n C dX7_tastes_51 rfl ?_
          refine r_ishl C dX7_tastes_52 ?_
          refine r_ior C dX7_tastes_53 ?_
          refine r_istore_n C dX7_tastes_54 (by decide) rfl ?_
          refine r_inc (1) C dX7_tastes_55 rfl (by decide) rfl rfl ?_
          refine r_goto 18 C dX7_tastes_58 (by decide) ?_
          rw [bz_ne0] at c_46
          exact (ih (by omega)).sub ⟨rfl, rfl, by rw [lset_t (p := (fun t => fitA A i t (dS (aD A) i))) (by omega) c_46]; rfl, by rw [nI_succ]; rfl, trivial⟩
    refine r_iconst (0) C dX7_tastes_14 rfl ?_
    refine r_istore_n C dX7_tastes_15 (by decide) rfl ?_
    refine r_iconst (0) C dX7_tastes_16 rfl ?_
    refine r_istore_n C dX7_tastes_17 (by decide) rfl ?_
    exact (L 0 (by decide)).sub ⟨rfl, rfl, rfl, rfl, trivial⟩
  · refine r_ldc C dX7_tastes_11 tw_389 ?_
    rw [bz_eq0] at c_8
    exact r_iret C F dX7_tastes_13 (by unfold vTastes; rw [if_pos c_8]; exact QK_same hA)
set_option maxHeartbeats 4000000 in
theorem s7_sads {A : At} (hA : CA h A) {x w : Int32} : Sp l E SHP 1 M7_sads [.ref (E.1 + 0), .int x, .int w] h (QK h (vSads A x w, A)) := by
  refine Sp.of (by decide) (Nat.le_of_ble_eq_true rfl) (fun X C F => ?_)
  have C : Ok X E RX7 cX7_sads 6 := C
  have F : Fn X l E SHP 1 (some FieldType.int) (QK h (vSads A x w, A)) := F
  show G X E SHP (0, 0) 0 [(0, .ref (E.1 + 0)), (1, .int x), (2, .int w)] [] h
  obtain ⟨o, hA0⟩ := id hA
  obtain ⟨⟨a1, a2, a3, a4, a5, a6, a7, a8, a9, a10, a11, a12⟩, ⟨b1, b2⟩, b3, ⟨b4, b5, b6⟩, ⟨b7, b8⟩, b9, b10, b11, b12, b13, b14⟩ := id hA0
  have hO : isH o := isH_o b6
  have ho : o ≤ 12 := by omega
  have ho4 : 4 ≤ o := by omega
  obtain ⟨okd, e1, e2, e3, e4, eL, eJ, eB, eF⟩ := id b8
  obtain ⟨o1, o2, o3, o4, o5, o6⟩ := id okd
  have p6 : 2 ^ dL (aD A) ≤ 64 := Nat.pow_le_pow_right (n := 2) (by decide) o1
  obtain ⟨k0, k1, k2, k3, k4, k5⟩ := id a5
  obtain ⟨u0, u1, u2, u3, uO, uM⟩ := id b10
  have hm64 : mI (aU A) < 64 := by omega
  refine r_aload_n C dX7_sads_0 rfl ?_
  refine r_getV (o) C dX7_sads_1 flX7_19 (rfl) rfl (b4) (by first | decide | omega) ?_
  refine r_iload_n C dX7_sads_4 rfl ?_
  refine r_cVi C F dX7_sads_5 (s0_hasLord hO b8) tw_385 m0_hasLord (hO.1) rfl (by decide) rfl (Nat.le_of_ble_eq_true rfl) ?_
  refine r_if_ne 14 C dX7_sads_8 (by decide) (fun c_8 => ?_) (fun c_8 => ?_)
  · refine r_iload_n C dX7_sads_14 rfl ?_
    refine r_if_lt 23 C dX7_sads_15 (by decide) (fun c_15 => ?_) (fun c_15 => ?_)
    · refine r_ldc C dX7_sads_23 tw_274 ?_
      rw [bz_ne0] at c_8
      exact r_iret C F dX7_sads_25 (by unfold vSads; rw [if_neg (not_not_intro c_8), if_pos (fun z => absurd c_15 (Int32.not_lt.mpr z.1))]; exact QK_same hA)
    · refine r_iload_n C dX7_sads_18 rfl ?_
      refine r_iconst (1) C dX7_sads_19 rfl ?_
      refine r_icmp_le 26 C dX7_sads_20 (by decide) (fun c_20 => ?_) (fun c_20 => ?_)
      · have c_w : inP w 0 1 := ⟨Int32.not_lt.mp c_15, c_20⟩
        rw [bz_ne0] at c_8
        have c_8b := c_8
        obtain ⟨i, hi, rfl⟩ := (inP_lord rfl o1).mp c_8
        have hS := o5 i hi
        have L : ∀ k, k ≤ 20 → G X E SHP (0, 0) 34 [(0, .ref (E.1 + 0)), (1, .int (nI i)), (2, .int w), (3, .int (lsK (fun s => fitA A i (dT (aD A) i) s) k)), (4, .int (gsK (fun s => fitA A i (dT (aD A) i) s) k)), (5, .int (nI (k + 1)))] [] h := by
          refine loopN 20 _ (fun k hk ih => ?_)
          have hls : lsK (fun s => fitA A i (dT (aD A) i) s) (k + 1) = if (fun s => fitA A i (dT (aD A) i) s) (k + 1) = true ∧ lsK (fun s => fitA A i (dT (aD A) i) s) k < 0 then nI (k + 1) else lsK (fun s => fitA A i (dT (aD A) i) s) k := rfl
          have hgs : gsK (fun s => fitA A i (dT (aD A) i) s) (k + 1) = if (fun s => fitA A i (dT (aD A) i) s) (k + 1) = true then nI (k + 1) else gsK (fun s => fitA A i (dT (aD A) i) s) k := rfl
          refine r_iload C dX7_sads_34 rfl ?_
          refine r_bipush (20) C dX7_sads_36 rfl ?_
          refine r_icmp_gt 88 C dX7_sads_38 (by decide) (fun c_38 => ?_) (fun c_38 => ?_)
          · rw [cLt (x := 20) (c := nI (k + 1)) (i := 20) (n := k + 1) (rfl) (rfl) (by omega) (by omega)] at c_38
            refine r_iload_n C dX7_sads_88 rfl ?_
            refine r_if_ne 96 C dX7_sads_89 (by decide) (fun c_89 => ?_) (fun c_89 => ?_)
            · refine r_iload C dX7_sads_96 rfl ?_
              exact r_iret C F dX7_sads_98 (by unfold vSads; rw [if_neg (not_not_intro c_8b), if_neg (not_not_intro c_w), cl_nI (by omega), if_neg c_89, show k = 20 by omega]; exact QK_same hA)
            · refine r_iload_n C dX7_sads_92 rfl ?_
              refine r_goto 98 C dX7_sads_93 (by decide) ?_
              exact r_iret C F dX7_sads_98 (by unfold vSads; rw [if_neg (not_not_intro c_8b), if_neg (not_not_intro c_w), cl_nI (by omega), if_pos c_89, show k = 20 by omega]; exact QK_same hA)
          · rw [cLt (x := 20) (c := nI (k + 1)) (i := 20) (n := k + 1) (rfl) (rfl) (by omega) (by omega)] at c_38
            refine r_aload_n C dX7_sads_41 rfl ?_
            refine r_getR C dX7_sads_42 flX7_50 (rfl) rfl ?_
            refine r_aload_n C dX7_sads_45 rfl ?_
            refine r_getV (o) C dX7_sads_46 flX7_19 (rfl) rfl (b4) (by first | decide | omega) ?_
            refine r_iload_n C dX7_sads_49 rfl ?_
            refine r_aload_n C dX7_sads_50 rfl ?_
            refine r_getV (o) C dX7_sads_51 flX7_19 (rfl) rfl (b4) (by first | decide | omega) ?_
            refine r_getR C dX7_sads_54 flX7_150 (hO.1) rfl ?_
            refine r_iload_n C dX7_sads_57 rfl ?_
            refine r_iald (i) C dX7_sads_58 (hO.2.2.2.1) (rfl) (by omega) (by first | decide | omega) ?_
            rw [(eL i hi).2.2]
            refine r_iload C dX7_sads_59 rfl ?_
            refine r_cVi C F dX7_sads_61 (s6_fits hO b8 b13 a9 a10 (i := i) (t := dT (aD A) i) (s := k + 1) (by omega) (by omega) (by omega)) tw_615 m6_fits (rfl) rfl (by decide) rfl (Nat.le_of_ble_eq_true rfl) ?_
            refine r_if_ne 70 C dX7_sads_64 (by decide) (fun c_64 => ?_) (fun c_64 => ?_)
            · refine r_iload_n C dX7_sads_70 rfl ?_
              refine r_iconst (-1) C dX7_sads_71 rfl ?_
              refine r_icmp_ne 78 C dX7_sads_72 (by decide) (fun c_72 => ?_) (fun c_72 => ?_)
              · refine r_iload C dX7_sads_78 rfl ?_
                refine r_istore C dX7_sads_80 (by decide) rfl ?_
                refine r_inc (1) C dX7_sads_82 rfl (by decide) rfl rfl ?_
                refine r_goto 34 C dX7_sads_85 (by decide) ?_
                rw [bz_ne0] at c_64
                have c_64 : (fun s => fitA A i (dT (aD A) i) s) (k + 1) = true := c_64
                exact (ih (by omega)).sub ⟨rfl, rfl, rfl, by rw [hls, if_neg (fun z => c_72 ((lsK_neg (by omega)).mp z.2))]; rfl, by rw [hgs, if_pos c_64]; rfl, by rw [nI_succ (k + 1)]; rfl, trivial⟩
              · refine r_iload C dX7_sads_75 rfl ?_
                refine r_istore_n C dX7_sads_77 (by decide) rfl ?_
                refine r_iload C dX7_sads_78 rfl ?_
                refine r_istore C dX7_sads_80 (by decide) rfl ?_
                refine r_inc (1) C dX7_sads_82 rfl (by decide) rfl rfl ?_
                refine r_goto 34 C dX7_sads_85 (by decide) ?_
                rw [bz_ne0] at c_64
                have c_64 : (fun s => fitA A i (dT (aD A) i) s) (k + 1) = true := c_64
                exact (ih (by omega)).sub ⟨rfl, rfl, rfl, by rw [hls, if_pos ⟨c_64, (lsK_neg (by omega)).mpr c_72⟩]; rfl, by rw [hgs, if_pos c_64]; rfl, by rw [nI_succ (k + 1)]; rfl, trivial⟩
            · refine r_goto 82 C dX7_sads_67 (by decide) ?_
              refine r_inc (1) C dX7_sads_82 rfl (by decide) rfl rfl ?_
              refine r_goto 34 C dX7_sads_85 (by decide) ?_
              rw [bz_eq0] at c_64
              have c_64 : ¬ (fun s => fitA A i (dT (aD A) i) s) (k + 1) = true := c_64
              exact (ih (by omega)).sub ⟨rfl, rfl, rfl, by rw [hls, if_neg (fun z => c_64 z.1)]; rfl, by rw [hgs, if_neg c_64]; rfl, by rw [nI_succ (k + 1)]; rfl, trivial⟩
        refine r_iconst (-1) C dX7_sads_26 rfl ?_
        refine r_istore_n C dX7_sads_27 (by decide) rfl ?_
        refine r_iconst (-1) C dX7_sads_28 rfl ?_
        refine r_istore C dX7_sads_29 (by decide) rfl ?_
        refine r_iconst (1) C dX7_sads_31 rfl ?_
        refine r_istore C dX7_sads_32 (by decide) rfl ?_
        exact (L 0 (by decide)).sub ⟨rfl, rfl, rfl, rfl, rfl, rfl, trivial⟩
      · refine r_ldc C dX7_sads_23 tw_274 ?_
        rw [bz_ne0] at c_8
        exact r_iret C F dX7_sads_25 (by unfold vSads; rw [if_neg (not_not_intro c_8), if_pos (fun z => c_20 z.2)]; exact QK_same hA)
  · refine r_ldc C dX7_sads_11 tw_389 ?_
    rw [bz_eq0] at c_8
    exact r_iret C F dX7_sads_13 (by unfold vSads; rw [if_pos c_8]; exact QK_same hA)
set_option maxHeartbeats 4000000 in
theorem s7_undo {A : At} (hA : CA h A) {x : Int32} : Sp l E SHP 4 M7_undo [.ref (E.1 + 0), .int x] h (QK h (opUndo A x)) := by
  refine Sp.of (by decide) (Nat.le_of_ble_eq_true rfl) (fun X C F => ?_)
  have C : Ok X E RX7 cX7_undo 2 := C
  have F : Fn X l E SHP 4 (some FieldType.int) (QK h (opUndo A x)) := F
  show G X E SHP (0, 0) 0 [(0, .ref (E.1 + 0)), (1, .int x)] [] h
  obtain ⟨o, hA0⟩ := id hA
  obtain ⟨⟨a1, a2, a3, a4, a5, a6, a7, a8, a9, a10, a11, a12⟩, ⟨b1, b2⟩, b3, ⟨b4, b5, b6⟩, ⟨b7, b8⟩, b9, b10, b11, b12, b13, b14⟩ := id hA0
  have hO : isH o := isH_o b6
  have ho : o ≤ 12 := by omega
  have ho4 : 4 ≤ o := by omega
  obtain ⟨okd, e1, e2, e3, e4, eL, eJ, eB, eF⟩ := id b8
  obtain ⟨o1, o2, o3, o4, o5, o6⟩ := id okd
  have p6 : 2 ^ dL (aD A) ≤ 64 := Nat.pow_le_pow_right (n := 2) (by decide) o1
  obtain ⟨k0, k1, k2, k3, k4, k5⟩ := id a5
  obtain ⟨u0, u1, u2, u3, uO, uM⟩ := id b10
  have hm64 : mI (aU A) < 64 := by omega
  refine r_iload_n C dX7_undo_0 rfl ?_
  refine r_iconst (1) C dX7_undo_1 rfl ?_
  refine r_icmp_lt 11 C dX7_undo_2 (by decide) (fun c_2 => ?_) (fun c_2 => ?_)
  · refine r_ldc C dX7_undo_11 tw_274 ?_
    exact r_iret C F dX7_undo_13 (by unfold opUndo; rw [if_pos (fun z => absurd c_2 (Int32.not_lt.mpr z.1))]; exact QK_same hA)
  · refine r_iload_n C dX7_undo_5 rfl ?_
    refine r_bipush (30) C dX7_undo_6 rfl ?_
    refine r_icmp_le 14 C dX7_undo_8 (by decide) (fun c_8 => ?_) (fun c_8 => ?_)
    · have c_x : inP x 1 30 := ⟨Int32.not_lt.mp c_2, c_8⟩
      obtain ⟨n, hn, rfl⟩ := inP_of (n := 30) rfl (by decide) ⟨Int32.le_trans (by decide) c_x.1, c_x.2⟩
      have hn1 : 1 ≤ n := (cLe (x := 1) (i := 1) rfl rfl (by omega) (by omega)).mp c_x.1
      refine r_iload_n C dX7_undo_14 rfl ?_
      refine r_aload_n C dX7_undo_15 rfl ?_
      refine r_getR C dX7_undo_16 flX7_36 (rfl) rfl ?_
      refine r_getI C dX7_undo_19 flX7_136 (rfl) rfl ?_
      refine r_icmp_le 28 C dX7_undo_22 (by decide) (fun c_22 => ?_) (fun c_22 => ?_)
      · rw [cLe (x := nI n) (c := h 23 1) (i := n) (n := (aB A).length) (rfl) (b11.2.1) (by omega) (by omega)] at c_22
        obtain ⟨u, hu⟩ : ∃ u, (aB A)[(aB A).length - n]? = some u := ⟨_, List.getElem?_eq_getElem (by omega)⟩
        have hmem := List.mem_of_getElem? hu
        refine r_aload_n C dX7_undo_28 rfl ?_
        refine r_getR C dX7_undo_29 flX7_36 (rfl) rfl ?_
        refine r_aload_n C dX7_undo_32 rfl ?_
        refine r_getR C dX7_undo_33 flX7_29 (rfl) rfl ?_
        refine r_iload_n C dX7_undo_36 rfl ?_
        refine r_callV C F dX7_undo_37 (s3_takeBack (u := u) b11 hn1 c_22 hu) tw_503 m3_takeBack (rfl) rfl (by decide) rfl (Nat.le_of_ble_eq_true rfl) (fun v g q => ?_)
        obtain ⟨rfl, z1, z2, z3⟩ := q
        show G X E SHP (0, 0) 40 _ [] g
        refine r_aload_n C dX7_undo_40 rfl ?_
        refine r_getR C dX7_undo_41 flX7_29 (rfl) rfl ?_
        refine r_getI C dX7_undo_44 flX7_118 (rfl) rfl ?_
        refine r_iret C F dX7_undo_47 ?_
        unfold opUndo
        rw [if_neg (not_not_intro c_x), cl_nI (by omega), hu]
        show QK h (if (aB A).length < n then _ else _) _ _
        rw [if_neg (by omega)]
        refine ⟨congrArg (fun z => some (Value.int z)) z1.2.2.1, ⟨o, CAo_of hA0 ⟨a1, a2, a3, a4, a7 u hmem, by rw [List.length_take]; omega, fun v hv => a7 v (List.mem_of_mem_take hv), a8, a9, a10, a11, a12⟩ ⟨by rw [z3 1 (by omega)]; exact b1, by rw [z3 2 (by omega)]; exact b2⟩ (by rw [z3 0 (by omega)]; exact b3) (by rw [z3 0 (by omega)]) (by rw [z3 0 (by omega)]) rfl rfl (fun a h1 h2 => z3 a (by omega)) (by rw [z3 0 (by omega)]; exact b9) z1 z2 (CIm_cg b12 (fun a h1 h2 => z3 a (by omega))) (CG_cg b13 (fun a h1 h2 => z3 a (by omega))) (CE_cg b14 (fun a h1 h2 => z3 a (by omega)))⟩, fun a ha => z3 a (by omega)⟩
      · rw [cLe (x := nI n) (c := h 23 1) (i := n) (n := (aB A).length) (rfl) (b11.2.1) (by omega) (by omega)] at c_22
        refine r_ldc C dX7_undo_25 tw_421 ?_
        refine r_iret C F dX7_undo_27 ?_
        unfold opUndo
        rw [if_neg (not_not_intro c_x), cl_nI (by omega)]
        cases hq : (aB A)[(aB A).length - n]? with
        | none => exact QK_same hA
        | some u =>
          show QK h (if (aB A).length < n then _ else _) _ _
          rw [if_pos (by omega)]
          exact QK_same hA
    · refine r_ldc C dX7_undo_11 tw_274 ?_
      exact r_iret C F dX7_undo_13 (by unfold opUndo; rw [if_pos (fun z => c_8 z.2)]; exact QK_same hA)
theorem CB_nil {g : Hp} : CB (up (up g 23 1 0) 23 2 0) [] := ⟨Nat.zero_le _, rfl, 0, by decide, rfl, fun r u q => (no_nil q).elim⟩
theorem isI_i {i : Nat} (hi : i ≤ 1) : isI (26 + 2 * i) := by
  rcases (show i = 0 ∨ i = 1 by omega) with rfl | rfl
  · exact isI_26
  · exact isI_28
theorem im_25 {f : Nat → Option (Mom × Nat)} (q : CIm h f) {i : Nat} (hi : i ≤ 1) : h 25 i = nI (26 + 2 * i) := by
  rcases (show i = 0 ∨ i = 1 by omega) with rfl | rfl
  · exact q.1
  · exact q.2.1
set_option maxHeartbeats 4000000 in
theorem s7_keep {A : At} (hA : CA h A) {x : Int32} : Sp l E SHP 4 M7_keep [.ref (E.1 + 0), .int x] h (QK h (opKeep A x)) := by
  refine Sp.of (by decide) (Nat.le_of_ble_eq_true rfl) (fun X C F => ?_)
  have C : Ok X E RX7 cX7_keep 2 := C
  have F : Fn X l E SHP 4 (some FieldType.int) (QK h (opKeep A x)) := F
  show G X E SHP (0, 0) 0 [(0, .ref (E.1 + 0)), (1, .int x)] [] h
  obtain ⟨o, hA0⟩ := id hA
  obtain ⟨⟨a1, a2, a3, a4, a5, a6, a7, a8, a9, a10, a11, a12⟩, ⟨b1, b2⟩, b3, ⟨b4, b5, b6⟩, ⟨b7, b8⟩, b9, b10, b11, b12, b13, b14⟩ := id hA0
  have hO : isH o := isH_o b6
  have ho : o ≤ 12 := by omega
  have ho4 : 4 ≤ o := by omega
  obtain ⟨okd, e1, e2, e3, e4, eL, eJ, eB, eF⟩ := id b8
  obtain ⟨o1, o2, o3, o4, o5, o6⟩ := id okd
  have p6 : 2 ^ dL (aD A) ≤ 64 := Nat.pow_le_pow_right (n := 2) (by decide) o1
  obtain ⟨k0, k1, k2, k3, k4, k5⟩ := id a5
  obtain ⟨u0, u1, u2, u3, uO, uM⟩ := id b10
  have hm64 : mI (aU A) < 64 := by omega
  refine r_iload_n C dX7_keep_0 rfl ?_
  refine r_cSi C F dX7_keep_1 (s7_isImage) tw_651 m7_isImage (by decide) rfl (Nat.le_of_ble_eq_true rfl) ?_
  refine r_if_ne 10 C dX7_keep_4 (by decide) (fun c_4 => ?_) (fun c_4 => ?_)
  · rw [bz_ne0] at c_4
    have c_4b := c_4
    obtain ⟨i, hi, rfl⟩ := inP_of (n := 1) rfl (by decide) c_4
    have hI := isI_i hi
    have h25 := im_25 b12 hi
    refine r_aload_n C dX7_keep_10 rfl ?_
    refine r_getR C dX7_keep_11 flX7_43 (rfl) rfl ?_
    refine r_iload_n C dX7_keep_14 rfl ?_
    refine r_aald (i) C dX7_keep_15 (rfl) (rfl) (by omega) (by first | decide | omega) h25 (by omega) (by omega) ?_
    refine r_aload_n C dX7_keep_16 rfl ?_
    refine r_getR C dX7_keep_17 flX7_29 (rfl) rfl ?_
    refine r_aload_n C dX7_keep_20 rfl ?_
    refine r_getI C dX7_keep_21 flX7_61 (rfl) rfl ?_
    refine r_callV C F dX7_keep_24 (s1_take b10 hI) tw_654 m1_take (hI.1) rfl (by decide) rfl (Nat.le_of_ble_eq_true rfl) (fun v g q => ?_)
    obtain ⟨rfl, z1, z2, z3, z4⟩ := q
    show G X E SHP (0, 0) 27 _ [] g
    refine r_aload_n C dX7_keep_27 rfl ?_
    refine r_getR C dX7_keep_28 flX7_36 (rfl) rfl ?_
    refine r_cVv C F dX7_keep_31 (s3_forget) tw_355 m3_forget (rfl) rfl (by decide) rfl (Nat.le_of_ble_eq_true rfl) ?_
    refine r_iconst (1) C dX7_keep_34 rfl ?_
    refine r_iret C F dX7_keep_35 ?_
    unfold opKeep
    rw [if_neg (not_not_intro c_4b), cl_nI (by omega)]
    have fr : ∀ a, a ≠ 26 + 2 * i → a ≠ 26 + 2 * i + 1 → a ≠ 23 → up (up g 23 1 0) 23 2 0 a = h a := fun a h1 h2 h3 => by rw [up_row _ _ _ _ h3, up_row _ _ _ _ h3]; exact z4 a h1 h2
    refine ⟨rfl, ⟨o, CAo_of hA0 ⟨a1, a2, a3, a4, a5, Nat.zero_le _, (fun _ q => absurd q List.not_mem_nil), fun k u s hk => ?_, a9, a10, a11, a12⟩ ⟨by rw [fr 1 (by omega) (by omega) (by omega)]; exact b1, by rw [fr 2 (by omega) (by omega) (by omega)]; exact b2⟩ (by rw [fr 0 (by omega) (by omega) (by omega)]; exact b3) (by rw [fr 0 (by omega) (by omega) (by omega)]) (by rw [fr 0 (by omega) (by omega) (by omega)]) rfl rfl (fun a h1 h2 => fr a (by omega) (by omega) (by omega)) (by rw [fr 0 (by omega) (by omega) (by omega)]; exact b9) (CM_cg b10 (fun a h1 h2 => fr a (by omega) (by omega) (by omega))) CB_nil ⟨by rw [fr 25 (by omega) (by omega) (by omega)]; exact b12.1, by rw [fr 25 (by omega) (by omega) (by omega)]; exact b12.2.1, fun k hk => ?_⟩ (CG_cg b13 (fun a h1 h2 => fr a (by omega) (by omega) (by omega))) (CE_cg b14 (fun a h1 h2 => fr a (by omega) (by omega) (by omega)))⟩, fun a ha => fr a (by omega) (by omega) (by omega)⟩
    · have hk : (if k = i then some (aU A, aS A) else aI A k) = some (u, s) := hk
      split at hk
      · cases hk; exact ⟨a5, a4⟩
      · exact a8 k u s hk
    · show up (up g 23 1 0) 23 2 0 (26 + 2 * k) 2 = b01 (if k = i then some (aU A, aS A) else aI A k).isSome ∧ ∀ u s, (if k = i then some (aU A, aS A) else aI A k) = some (u, s) → _
      by_cases e : k = i
      · subst e
        rw [if_pos rfl]
        refine ⟨?_, fun u s q => ?_⟩
        · rw [up_row _ _ _ _ (by omega), up_row _ _ _ _ (by omega)]; exact z3
        · cases q
          rw [up_row _ _ _ _ (by omega), up_row _ _ _ _ (by omega), up_row _ _ _ _ (by omega), up_row _ _ _ _ (by omega), show 27 + 2 * k = 26 + 2 * k + 1 by omega]
          exact ⟨z1, z2.trans b9⟩
      · rw [if_neg e, fr (26 + 2 * k) (by omega) (by omega) (by omega), fr (27 + 2 * k) (by omega) (by omega) (by omega)]
        exact b12.2.2 k hk
  · refine r_ldc C dX7_keep_7 tw_389 ?_
    rw [bz_eq0] at c_4
    exact r_iret C F dX7_keep_9 (by unfold opKeep; rw [if_pos c_4]; exact QK_same hA)
set_option maxHeartbeats 4000000 in
theorem s7_goBack {A : At} (hA : CA h A) {x : Int32} : Sp l E SHP 3 M7_goBack [.ref (E.1 + 0), .int x] h (QK h (opBack A x)) := by
  refine Sp.of (by decide) (Nat.le_of_ble_eq_true rfl) (fun X C F => ?_)
  have C : Ok X E RX7 cX7_goBack 2 := C
  have F : Fn X l E SHP 3 (some FieldType.int) (QK h (opBack A x)) := F
  show G X E SHP (0, 0) 0 [(0, .ref (E.1 + 0)), (1, .int x)] [] h
  obtain ⟨o, hA0⟩ := id hA
  obtain ⟨⟨a1, a2, a3, a4, a5, a6, a7, a8, a9, a10, a11, a12⟩, ⟨b1, b2⟩, b3, ⟨b4, b5, b6⟩, ⟨b7, b8⟩, b9, b10, b11, b12, b13, b14⟩ := id hA0
  have hO : isH o := isH_o b6
  have ho : o ≤ 12 := by omega
  have ho4 : 4 ≤ o := by omega
  obtain ⟨okd, e1, e2, e3, e4, eL, eJ, eB, eF⟩ := id b8
  obtain ⟨o1, o2, o3, o4, o5, o6⟩ := id okd
  have p6 : 2 ^ dL (aD A) ≤ 64 := Nat.pow_le_pow_right (n := 2) (by decide) o1
  obtain ⟨k0, k1, k2, k3, k4, k5⟩ := id a5
  obtain ⟨u0, u1, u2, u3, uO, uM⟩ := id b10
  have hm64 : mI (aU A) < 64 := by omega
  refine r_iload_n C dX7_goBack_0 rfl ?_
  refine r_cSi C F dX7_goBack_1 (s7_isImage) tw_651 m7_isImage (by decide) rfl (Nat.le_of_ble_eq_true rfl) ?_
  refine r_if_ne 10 C dX7_goBack_4 (by decide) (fun c_4 => ?_) (fun c_4 => ?_)
  · rw [bz_ne0] at c_4
    have c_4b := c_4
    obtain ⟨i, hi, rfl⟩ := inP_of (n := 1) rfl (by decide) c_4
    have hI := isI_i hi
    have h25 := im_25 b12 hi
    obtain ⟨y1, y2⟩ := b12.2.2 i (by omega)
    refine r_aload_n C dX7_goBack_10 rfl ?_
    refine r_getR C dX7_goBack_11 flX7_43 (rfl) rfl ?_
    refine r_iload_n C dX7_goBack_14 rfl ?_
    refine r_aald (i) C dX7_goBack_15 (rfl) (rfl) (by omega) (by first | decide | omega) h25 (by omega) (by omega) ?_
    refine r_getI C dX7_goBack_16 flX7_96 (hI.1) rfl ?_
    refine r_if_ne 25 C dX7_goBack_19 (by decide) (fun c_19 => ?_) (fun c_19 => ?_)
    · obtain ⟨⟨u, s⟩, hq⟩ := Option.isSome_iff_exists.mp (b01_n (y1 ▸ c_19))
      obtain ⟨y3, y4⟩ := y2 u s hq
      obtain ⟨y5, y6⟩ := a8 i u s hq
      refine r_aload_n C dX7_goBack_25 rfl ?_
      refine r_getR C dX7_goBack_26 flX7_29 (rfl) rfl ?_
      refine r_aload_n C dX7_goBack_29 rfl ?_
      refine r_getR C dX7_goBack_30 flX7_43 (rfl) rfl ?_
      refine r_iload_n C dX7_goBack_33 rfl ?_
      refine r_aald (i) C dX7_goBack_34 (rfl) (rfl) (by omega) (by first | decide | omega) h25 (by omega) (by omega) ?_
      refine r_getR C dX7_goBack_35 flX7_264 (hI.1) rfl ?_
      refine r_iconst (0) C dX7_goBack_38 rfl ?_
      refine r_callV C F dX7_goBack_39 (s2_copyFrom (a := 26 + 2 * i + 1) (b := 0) (N := 16) (u := u) hI.2.1 (by decide) (by decide) (by omega) (MomC_congr y3 (fun k _ => by rw [Nat.zero_add, show 27 + 2 * i = 26 + 2 * i + 1 by omega]))) tw_663 m2_copyFrom (rfl) rfl (by decide) rfl (Nat.le_of_ble_eq_true rfl) (fun v g q => ?_)
      obtain ⟨rfl, z1, z2⟩ := q
      show G X E SHP (0, 0) 42 _ [] g
      refine r_aload_n C dX7_goBack_42 rfl ?_
      refine r_aload_n C dX7_goBack_43 rfl ?_
      refine r_getR C dX7_goBack_44 flX7_43 (rfl) rfl ?_
      refine r_iload_n C dX7_goBack_47 rfl ?_
      refine r_aald (i) C dX7_goBack_48 (rfl) (rfl) (by omega) (by first | decide | omega) (show g 25 i = nI (26 + 2 * i) by rw [z2 25 (by omega)]; exact h25) (by omega) (by omega) ?_
      refine r_getI C dX7_goBack_49 flX7_271 (hI.1) rfl ?_
      refine r_putI C dX7_goBack_52 fwX7_61 (rfl) rfl ?_
      refine r_aload_n C dX7_goBack_55 rfl ?_
      refine r_getR C dX7_goBack_56 flX7_36 (rfl) rfl ?_
      refine r_cVv C F dX7_goBack_59 (s3_forget) tw_355 m3_forget (rfl) rfl (by decide) rfl (Nat.le_of_ble_eq_true rfl) ?_
      refine r_iconst (1) C dX7_goBack_62 rfl ?_
      refine r_iret C F dX7_goBack_63 ?_
      unfold opBack
      rw [if_neg (not_not_intro c_4b), cl_nI (by omega), hq]
      have hs : g (26 + 2 * i) 1 = nI s := by rw [z2 (26 + 2 * i) (by omega)]; exact y4
      rw [hs]
      have fr : ∀ a, a < 20 ∨ 22 < a → a ≠ 0 → a ≠ 23 → up (up (up g 0 8 (nI s)) 23 1 0) 23 2 0 a = h a := fun a h1 h2 h3 => by rw [up_row _ _ _ _ h3, up_row _ _ _ _ h3, up_row _ _ _ _ h2]; exact z2 a h1
      have fr0 : ∀ k, k ≠ 8 → up (up (up g 0 8 (nI s)) 23 1 0) 23 2 0 0 k = h 0 k := fun k hk => by rw [up_row _ _ _ _ (by decide), up_row _ _ _ _ (by decide), up_off _ _ _ _ hk, z2 0 (by omega)]
      refine ⟨rfl, ⟨o, CAo_of hA0 ⟨a1, a2, a3, y6, y5, Nat.zero_le _, (fun _ q => absurd q List.not_mem_nil), a8, a9, a10, a11, a12⟩ ⟨by rw [fr 1 (by omega) (by omega) (by omega)]; exact b1, by rw [fr 2 (by omega) (by omega) (by omega)]; exact b2⟩ (by rw [fr0 9 (by decide)]; exact b3) (fr0 1 (by decide)) (fr0 2 (by decide)) rfl rfl (fun a h1 h2 => fr a (by omega) (by omega) (by omega)) rfl (CM_cg z1 (fun a h1 h2 => by rw [up_row _ _ _ _ (by omega), up_row _ _ _ _ (by omega), up_row _ _ _ _ (by omega)])) CB_nil (CIm_cg b12 (fun a h1 h2 => fr a (by omega) (by omega) (by omega))) (CG_cg b13 (fun a h1 h2 => fr a (by omega) (by omega) (by omega))) (CE_cg b14 (fun a h1 h2 => fr a (by omega) (by omega) (by omega)))⟩, fun a ha => fr a (by omega) (by omega) (by omega)⟩
    · refine r_ldc C dX7_goBack_22 tw_421 ?_
      have hq : aI A i = none := Option.isNone_iff_eq_none.mp (by have := b01_f (y1 ▸ c_19); rw [← Option.not_isSome, this]; rfl)
      refine r_iret C F dX7_goBack_24 ?_
      unfold opBack
      rw [if_neg (not_not_intro c_4b), cl_nI (by omega), hq]
      exact QK_same hA
  · refine r_ldc C dX7_goBack_7 tw_389 ?_
    rw [bz_eq0] at c_4
    exact r_iret C F dX7_goBack_9 (by unfold opBack; rw [if_pos c_4]; exact QK_same hA)
