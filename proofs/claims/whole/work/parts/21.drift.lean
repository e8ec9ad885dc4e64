variable {l : Launch} {E : Ev} {h : Hp}
set_option maxHeartbeats 4000000 in
theorem s8_drift {A : At} {x : Int32} (hA : MA h A) : Sp l E SHP 4 M8_drift [.ref (E.1 + 49), .int x] h (QM h (opDrift A x)) := by
  refine Sp.of (by decide) (Nat.le_of_ble_eq_true rfl) (fun X C F => ?_)
  have C : Ok X E RX8 cX8_drift 7 := C
  have F : Fn X l E SHP 4 (some FieldType.int) (QM h (opDrift A x)) := F
  show G X E SHP (0, 0) 0 [(0, .ref (E.1 + 49)), (1, .int x)] [] h
  have L : ∀ n, n ≤ 40 → ∀ k, k ≤ n → ∀ (g : Hp) (B : At), MA g B → mT (aU B) ≤ 9000 + k → (∀ a, a < 49 → g a = h a) → driftN (n - k) B = driftN n A → inP (nI n) 1 40 → aH A = true → ¬ 9000 < mT (aU A) → x = nI n → G X E SHP (0, 0) 41 [(0, .ref (E.1 + 49)), (1, .int (nI n)), (2, .int (nI k))] [] g := by
    intro n hn
    refine loopN n _ (fun k hk ih g B hA hT hlow hd hin hH hT0 hxn => ?_)
    obtain ⟨⟨a1, a2, a3, a4, a5, a6, a7, a8, a9, a10, a11, a12⟩, ⟨b1, b2⟩, b3, b4, b5, b6, b7, ⟨b8, b9⟩, b10, ⟨b11, b12⟩, b13, b14⟩ := id hA
    obtain ⟨okd, e16, e17, e540, e541, eL, eJ⟩ := id b5
    obtain ⟨o1, o2, o3, o4, o5, o6⟩ := id okd
    have p6 : 2 ^ dL (aD B) ≤ 64 := Nat.pow_le_pow_right (n := 2) (by decide) o1
    obtain ⟨k0, k1, k2, k3, k4, k5⟩ := id a5
    have hm64 : mI (aU B) < 64 := by omega
    have hpc6 := pc_le (mI (aU B)) 6
    refine r_iload_n C dX8_drift_41 rfl ?_
    refine r_iload_n C dX8_drift_42 rfl ?_
    refine r_icmp_ge 165 C dX8_drift_43 (by decide) (fun c_43 => ?_) (fun c_43 => ?_)
    · rw [cLe (x := nI n) (c := nI k) (i := n) (n := k) (rfl) (rfl) (by omega) (by omega)] at c_43
      have hstop : driftN (n - k) B = B := by rw [show n - k = 0 by omega]; rfl
      refine r_aload_n C dX8_drift_165 rfl ?_
      refine r_getR C dX8_drift_166 flX8_35 (rfl) rfl ?_
      refine r_iconst (0) C dX8_drift_169 rfl ?_
      refine r_iald (0) C dX8_drift_170 (rfl) (rfl) (by decide) (by decide) ?_
      refine r_iret C F dX8_drift_171 ?_
      unfold opDrift
      rw [hxn, if_neg (not_not_intro hin), if_neg (by rw [hH]; decide), if_neg hT0, cl_nI (by omega), b7.1, ← hd, hstop]
      exact ⟨rfl, hA, hlow⟩
    · rw [cLe (x := nI n) (c := nI k) (i := n) (n := k) (rfl) (rfl) (by omega) (by omega)] at c_43
      have e0 : n - k = (n - (k + 1)) + 1 := by omega
      refine r_aload_n C dX8_drift_46 rfl ?_
      refine r_getI C dX8_drift_47 flX8_79 (rfl) rfl ?_
      refine r_if_le 165 C dX8_drift_50 (by decide) (fun c_50 => ?_) (fun c_50 => ?_)
      · rw [cLe (x := g 49 17) (c := 0) (i := dJ (aD B)) (n := 0) (e17) (rfl) (by omega) (by omega)] at c_50
        have hstop : driftN (n - k) B = B := by rw [e0]; exact if_neg (fun q => absurd q.1 (by omega))
        refine r_aload_n C dX8_drift_165 rfl ?_
        refine r_getR C dX8_drift_166 flX8_35 (rfl) rfl ?_
        refine r_iconst (0) C dX8_drift_169 rfl ?_
        refine r_iald (0) C dX8_drift_170 (rfl) (rfl) (by decide) (by decide) ?_
        refine r_iret C F dX8_drift_171 ?_
        unfold opDrift
        rw [hxn, if_neg (not_not_intro hin), if_neg (by rw [hH]; decide), if_neg hT0, cl_nI (by omega), b7.1, ← hd, hstop]
        exact ⟨rfl, hA, hlow⟩
      · rw [cLe (x := g 49 17) (c := 0) (i := dJ (aD B)) (n := 0) (e17) (rfl) (by omega) (by omega)] at c_50
        refine r_aload_n C dX8_drift_53 rfl ?_
        refine r_getR C dX8_drift_54 flX8_35 (rfl) rfl ?_
        refine r_iconst (0) C dX8_drift_57 rfl ?_
        refine r_iald (0) C dX8_drift_58 (rfl) (rfl) (by decide) (by decide) ?_
        refine r_cSi C F dX8_drift_59 (s8_bits) tw_918 m8_bits (by decide) rfl (Nat.le_of_ble_eq_true rfl) ?_
        refine r_iconst (1) C dX8_drift_62 rfl ?_
        refine r_icmp_le 165 C dX8_drift_63 (by decide) (fun c_63 => ?_) (fun c_63 => ?_)
        · rw [b7.1, bitsN_nI (by omega) 6 (by decide)] at c_63
          rw [cLe (x := nI (pc (mI (aU B)) 6)) (c := 1) (i := pc (mI (aU B)) 6) (n := 1) (rfl) (rfl) (by omega) (by omega)] at c_63
          have hstop : driftN (n - k) B = B := by rw [e0]; exact if_neg (fun q => absurd q.2 (by omega))
          refine r_aload_n C dX8_drift_165 rfl ?_
          refine r_getR C dX8_drift_166 flX8_35 (rfl) rfl ?_
          refine r_iconst (0) C dX8_drift_169 rfl ?_
          refine r_iald (0) C dX8_drift_170 (rfl) (rfl) (by decide) (by decide) ?_
          refine r_iret C F dX8_drift_171 ?_
          unfold opDrift
          rw [hxn, if_neg (not_not_intro hin), if_neg (by rw [hH]; decide), if_neg hT0, cl_nI (by omega), b7.1, ← hd, hstop]
          exact ⟨rfl, hA, hlow⟩
        · rw [b7.1, bitsN_nI (by omega) 6 (by decide)] at c_63
          rw [cLe (x := nI (pc (mI (aU B)) 6)) (c := 1) (i := pc (mI (aU B)) 6) (n := 1) (rfl) (rfl) (by omega) (by omega)] at c_63
          have hdd : driftN (n - (k + 1)) (dStep B) = driftN n A := by rw [← hd, e0]; exact (if_pos ⟨by omega, by omega⟩).symm
          have hr1 : lcg (aS B) / 65536 % pc (mI (aU B)) 6 < pc (mI (aU B)) 6 := Nat.mod_lt _ (by omega)
          obtain ⟨nt1, nt2, nt3⟩ := nth_dec _ hm64 _ (by omega) hr1
          have nt2 : dI B < 6 := nt2
          have hol : dO B < 64 := oth_lt hm64
          have hpo : pc (dO B) 6 + 1 = pc (mI (aU B)) 6 := pc_nd _ hm64 _ nt2 nt3
          have hr3 : lcg (lcg (lcg (aS B))) / 65536 % pc (dO B) 6 < pc (dO B) 6 := Nat.mod_lt _ (by omega)
          obtain ⟨nu1, nu2, nu3⟩ := nth_dec _ hol _ (by omega) hr3
          have nu2 : dA B < 6 := nu2
          have hj : dJk B < dJ (aD B) := Nat.mod_lt _ (by omega)
          have g3 := MA_seed hA (lcg_lt (lcg (lcg (aS B))))
          have e57 : noteM (up g 49 30 (nI (lcg (lcg (lcg (aS B)))))) (aB B).length 57 = g 57 := noteM_row _ _ (by decide) (by decide)
          have gR := RW_of (h := noteM (up g 49 30 (nI (lcg (lcg (lcg (aS B)))))) (aB B).length) (u := aU B) (a := 57) rfl (by rw [e57]; exact b7) a5 okd
          have gT : MA (upr (noteM (up g 49 30 (nI (lcg (lcg (lcg (aS B)))))) (aB B).length) 57 (telR (aD B) (g 57) (mI (aU B)) (mN (aU B)) (mM (aU B)) (dI B) (dJk B) (dA B))) (dTell B) := by
            unfold dTell d1
            exact MA_note (A := withS B (lcg (lcg (lcg (aS B))))) g3 (okM_tell okd a5 (by omega) (dI B) (dJk B) (dA B) hj) (MomR_tell (f := g 57) okd b7 (dI B) (dJk B) (dA B) hj)
          have g4 := MA_seed gT (lcg_lt (lcg (lcg (lcg (aS B)))))
          refine r_aload_n C dX8_drift_66 rfl ?_
          refine r_getR C dX8_drift_67 flX8_35 (rfl) rfl ?_
          refine r_iconst (0) C dX8_drift_70 rfl ?_
          refine r_iald (0) C dX8_drift_71 (rfl) (rfl) (by decide) (by decide) ?_
          refine r_aload_n C dX8_drift_72 rfl ?_
          refine r_aload_n C dX8_drift_73 rfl ?_
          refine r_getR C dX8_drift_74 flX8_35 (rfl) rfl ?_
          refine r_iconst (0) C dX8_drift_77 rfl ?_
          refine r_iald (0) C dX8_drift_78 (rfl) (rfl) (by decide) (by decide) ?_
          refine r_cSi C F dX8_drift_79 (s8_bits) tw_918 m8_bits (by decide) rfl (Nat.le_of_ble_eq_true rfl) ?_
          rw [b7.1, bitsN_nI (by omega) 6 (by decide)]
          refine r_cVi C F dX8_drift_82 (s8_draw (s := aS B) b6 a4 (by omega) (by omega)) tw_921 m8_draw (rfl) rfl (by decide) rfl (Nat.le_of_ble_eq_true rfl) ?_
          refine r_cSi C F dX8_drift_85 (s8_nthOf) tw_929 m8_nthOf (by decide) rfl (Nat.le_of_ble_eq_true rfl) ?_
          rw [nt1, show nthF (mI (aU B)) (lcg (aS B) / 65536 % pc (mI (aU B)) 6) = dI B from rfl]
          refine r_istore_n C dX8_drift_88 (by decide) rfl ?_
          refine r_aload_n C dX8_drift_89 rfl ?_
          refine r_aload_n C dX8_drift_90 rfl ?_
          refine r_getI C dX8_drift_91 flX8_79 (rfl) rfl ?_
          rw [show up g 49 30 (nI (lcg (aS B))) 49 17 = nI (dJ (aD B)) from e17]
          refine r_cVi C F dX8_drift_94 (s8_draw (s := lcg (aS B)) (c := dJ (aD B)) (up_self _ _ _ _) (lcg_lt _) (by omega) (by omega)) tw_921 m8_draw (rfl) rfl (by decide) rfl (Nat.le_of_ble_eq_true rfl) ?_
          rw [up_up, show lcg (lcg (aS B)) / 65536 % dJ (aD B) = dJk B from rfl]
          refine r_istore C dX8_drift_97 (by decide) rfl ?_
          refine r_aload_n C dX8_drift_99 rfl ?_
          refine r_getR C dX8_drift_100 flX8_35 (rfl) rfl ?_
          refine r_iconst (0) C dX8_drift_103 rfl ?_
          refine r_iald (0) C dX8_drift_104 (rfl) (rfl) (by decide) (by decide) ?_
          rw [show up g 49 30 (nI (lcg (lcg (aS B)))) 57 0 = nI (mI (aU B)) from b7.1]
          refine r_iconst (1) C dX8_drift_105 rfl ?_
          refine r_iload_n C dX8_drift_106 rfl ?_
          refine r_ishl C dX8_drift_107 ?_
          refine r_iconst (-1) C dX8_drift_108 rfl ?_
          refine r_ixor C dX8_drift_109 ?_
          refine r_iand C dX8_drift_110 ?_
          rw [shl1_nI (by omega), nx_nd, show nd (mI (aU B)) (2 ^ dI B) = dO B from rfl]
          refine r_istore C dX8_drift_111 (by decide) rfl ?_
          refine r_iload C dX8_drift_113 rfl ?_
          refine r_aload_n C dX8_drift_115 rfl ?_
          refine r_iload C dX8_drift_116 rfl ?_
          refine r_cSi C F dX8_drift_118 (s8_bits) tw_918 m8_bits (by decide) rfl (Nat.le_of_ble_eq_true rfl) ?_
          rw [bitsN_nI (by omega) 6 (by decide)]
          refine r_cVi C F dX8_drift_121 (s8_draw (s := lcg (lcg (aS B))) (c := pc (dO B) 6) (up_self _ _ _ _) (lcg_lt _) (by omega) (by omega)) tw_921 m8_draw (rfl) rfl (by decide) rfl (Nat.le_of_ble_eq_true rfl) ?_
          rw [up_up]
          refine r_cSi C F dX8_drift_124 (s8_nthOf) tw_929 m8_nthOf (by decide) rfl (Nat.le_of_ble_eq_true rfl) ?_
          rw [nu1, show nthF (dO B) (lcg (lcg (lcg (aS B))) / 65536 % pc (dO B) 6) = dA B from rfl]
          refine r_istore C dX8_drift_127 (by decide) rfl ?_
          refine r_aload_n C dX8_drift_129 rfl ?_
          refine r_cVv C F dX8_drift_130 (s8_note (b := (aB B).length) (show up g 49 30 (nI (lcg (lcg (lcg (aS B))))) 49 26 = nI (aB B).length from b8) a6) tw_883 m8_note (rfl) rfl (by decide) rfl (Nat.le_of_ble_eq_true rfl) ?_
          refine r_aload_n C dX8_drift_133 rfl ?_
          refine r_aload_n C dX8_drift_134 rfl ?_
          refine r_getR C dX8_drift_135 flX8_35 (rfl) rfl ?_
          refine r_iload_n C dX8_drift_138 rfl ?_
          refine r_iload C dX8_drift_139 rfl ?_
          refine r_iload C dX8_drift_141 rfl ?_
          refine r_cVv C F dX8_drift_143 (s8_tellOn (i := dI B) (j := dJk B) (b := dA B) (MH_note g3.2.2.2.2.1 _) gR (by omega) hj (by omega) (by decide)) tw_890 m8_tellOn (rfl) rfl (by decide) rfl (Nat.le_of_ble_eq_true rfl) ?_
          rw [e57]
          refine r_aload_n C dX8_drift_146 rfl ?_
          refine r_bipush (6) C dX8_drift_147 rfl ?_
          refine r_cVi C F dX8_drift_149 (s8_draw (s := lcg (lcg (lcg (aS B)))) (c := 6) (show upr (noteM (up g 49 30 (nI (lcg (lcg (lcg (aS B)))))) (aB B).length) 57 (telR (aD B) (g 57) (mI (aU B)) (mN (aU B)) (mM (aU B)) (dI B) (dJk B) (dA B)) 49 30 = nI (lcg (lcg (lcg (aS B)))) from gT.2.2.2.2.2.1) (lcg_lt _) (by decide) (by decide)) tw_921 m8_draw (rfl) rfl (by decide) rfl (Nat.le_of_ble_eq_true rfl) ?_
          refine r_if_ne 159 C dX8_drift_152 (by decide) (fun c_152 => ?_) (fun c_152 => ?_)
          · rw [cEq (x := nI (lcg (lcg (lcg (lcg (aS B)))) / 65536 % 6)) (c := 0) (i := lcg (lcg (lcg (lcg (aS B)))) / 65536 % 6) (n := 0) (rfl) (rfl) (by omega) (by omega)] at c_152
            refine r_inc (1) C dX8_drift_159 rfl (by decide) rfl rfl ?_
            refine r_goto 41 C dX8_drift_162 (by decide) ?_
            have eS : dStep B = withS (dTell B) (lcg (lcg (lcg (lcg (aS B))))) := if_neg c_152
            exact (ih (by omega) _ (dStep B) (by rw [eS]; exact g4) (by rw [eS]; show mT (aU B) + 1 ≤ 9000 + (k + 1); omega) (fun a2 ha2 => by rw [up_row _ _ _ _ (by omega), note_low _ _ _ a2 ha2, up_row _ _ _ _ (by omega)]; exact hlow a2 ha2) hdd hin hH hT0 hxn).sub ⟨rfl, rfl, by rw [nI_succ]; rfl, trivial⟩
          · rw [cEq (x := nI (lcg (lcg (lcg (lcg (aS B)))) / 65536 % 6)) (c := 0) (i := lcg (lcg (lcg (lcg (aS B)))) / 65536 % 6) (n := 0) (rfl) (rfl) (by omega) (by omega)] at c_152
            refine r_aload_n C dX8_drift_155 rfl ?_
            refine r_callV C F dX8_drift_156 (s8_passNightA g4 (by show mN (aU B) < 920 + (mT (aU B) + 1); omega)) tw_910 m8_passNight (rfl) rfl (by decide) rfl (Nat.le_of_ble_eq_true rfl) (fun v h1 hq => ?_)
            obtain ⟨rfl, g5, l5⟩ := hq
            refine r_inc (1) C dX8_drift_159 rfl (by decide) rfl rfl ?_
            refine r_goto 41 C dX8_drift_162 (by decide) ?_
            have eS : dStep B = nightOp (withS (dTell B) (lcg (lcg (lcg (lcg (aS B)))))) := if_pos c_152
            exact (ih (by omega) _ (dStep B) (by rw [eS]; exact g5) (by rw [eS]; show mT (aU B) + 1 ≤ 9000 + (k + 1); omega) (fun a2 ha2 => (l5 a2 ha2).trans (by rw [up_row _ _ _ _ (by omega), note_low _ _ _ a2 ha2, up_row _ _ _ _ (by omega)]; exact hlow a2 ha2)) hdd hin hH hT0 hxn).sub ⟨rfl, rfl, by rw [nI_succ]; rfl, trivial⟩
  obtain ⟨⟨a1, a2, a3, a4, a5, a6, a7, a8, a9, a10, a11, a12⟩, ⟨b1, b2⟩, b3, b4, b5, b6, b7, ⟨b8, b9⟩, b10, ⟨b11, b12⟩, b13, b14⟩ := id hA
  obtain ⟨okd, e16, e17, e540, e541, eL, eJ⟩ := id b5
  obtain ⟨o1, o2, o3, o4, o5, o6⟩ := id okd
  have p6 : 2 ^ dL (aD A) ≤ 64 := Nat.pow_le_pow_right (n := 2) (by decide) o1
  obtain ⟨k0, k1, k2, k3, k4, k5⟩ := id a5
  refine r_iload_n C dX8_drift_0 rfl ?_
  refine r_iconst (1) C dX8_drift_1 rfl ?_
  refine r_bipush (40) C dX8_drift_2 rfl ?_
  refine r_cSi C F dX8_drift_4 (s8_in) tw_790 m8_in (by decide) rfl (Nat.le_of_ble_eq_true rfl) ?_
  refine r_if_ne 13 C dX8_drift_7 (by decide) (fun c_7 => ?_) (fun c_7 => ?_)
  · rw [bz_ne0] at c_7
    refine r_aload_n C dX8_drift_13 rfl ?_
    refine r_getI C dX8_drift_14 flX8_148 (rfl) rfl ?_
    refine r_if_ne 23 C dX8_drift_17 (by decide) (fun c_17 => ?_) (fun c_17 => ?_)
    · rw [b4] at c_17
      have hH : aH A = true := by cases hq : aH A; (rw [hq] at c_17; exact absurd rfl c_17); rfl
      refine r_aload_n C dX8_drift_23 rfl ?_
      refine r_getR C dX8_drift_24 flX8_35 (rfl) rfl ?_
      refine r_bipush (9) C dX8_drift_27 rfl ?_
      refine r_iald (9) C dX8_drift_29 (rfl) (rfl) (by decide) (by decide) ?_
      refine r_sipush (9000) C dX8_drift_30 rfl ?_
      refine r_icmp_le 39 C dX8_drift_33 (by decide) (fun c_33 => ?_) (fun c_33 => ?_)
      · rw [cLe (x := h 57 9) (c := 9000) (i := mT (aU A)) (n := 9000) (b7.2.2.2.1) (rfl) (by omega) (by omega)] at c_33
        refine r_iconst (0) C dX8_drift_39 rfl ?_
        refine r_istore_n C dX8_drift_40 (by decide) rfl ?_
        obtain ⟨n, hn, hxn⟩ := inP_of (n := 40) rfl (by decide) ⟨Int32.le_trans (by decide) c_7.1, c_7.2⟩
        subst hxn
        exact (L n hn 0 (by omega) h A hA (by omega) (fun _ _ => rfl) rfl c_7 hH (by omega) rfl).sub ⟨rfl, rfl, rfl, trivial⟩
      · rw [cLe (x := h 57 9) (c := 9000) (i := mT (aU A)) (n := 9000) (b7.2.2.2.1) (rfl) (by omega) (by omega)] at c_33
        refine r_ldc C dX8_drift_36 tw_794 ?_
        exact r_iret C F dX8_drift_38 (by unfold opDrift; rw [if_neg (not_not_intro c_7), if_neg (by rw [hH]; decide), if_pos (by omega)]; exact ⟨rfl, hA, fun _ _ => rfl⟩)
    · rw [b4] at c_17
      have hH : aH A = false := by cases hq : aH A; rfl; (rw [hq] at c_17; exact absurd c_17 (by decide))
      refine r_ldc C dX8_drift_20 tw_882 ?_
      exact r_iret C F dX8_drift_22 (by unfold opDrift; rw [if_neg (not_not_intro c_7), if_pos hH]; exact ⟨rfl, hA, fun _ _ => rfl⟩)
  · rw [bz_eq0] at c_7
    refine r_ldc C dX8_drift_10 tw_793 ?_
    exact r_iret C F dX8_drift_12 (by unfold opDrift; rw [if_pos c_7]; exact ⟨rfl, hA, fun _ _ => rfl⟩)
