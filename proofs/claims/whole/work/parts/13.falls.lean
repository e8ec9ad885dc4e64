variable {l : Launch} {E : Ev} {h : Hp}
/-- a row of the model's: who is in, nights, how often told -/
def RW (h : Hp) (a m t : Nat) (tm : Nat → Nat) : Prop := SHP[a]? = some (.inr (0, 16)) ∧ h a 0 = nI m ∧ m < 64 ∧ h a 8 = nI t ∧ t ≤ 100000 ∧ ∀ j, j < 6 → h a (10 + j) = nI (tm j) ∧ tm j ≤ 100000
theorem okJ {D : HDt} (q : okD D) {j : Nat} (hj : j < dJ D) : j < 6 := Nat.lt_of_lt_of_le hj q.2.1
theorem oth_lt {m i : Nat} (hm : m < 64) : othF m i < 64 := nd_lt (n := 6) hm
theorem hdF_le {D : HDt} (q : okD D) {t i : Nat} (hi : i < dL D) : hdF D t i ≤ 20 := by
  have := q.2.2.2.2.1 i hi
  unfold hdF
  omega
set_option maxHeartbeats 4000000 in
theorem s8_fallsBy {D : HDt} {a m t i j b : Nat} {tm : Nat → Nat} (hM : MH h D) (hR : RW h a m t tm) (hi : i < 6) (hj : j < dJ D) (hb6 : b < 6) : Sp l E SHP 2 M8_fallsBy [.ref (E.1 + 49), .ref (E.1 + a), .int (nI i), .int (nI j), .int (nI b)] h (PD (some (.int (nI (falF D m t tm i j b)))) h) := by
  refine Sp.of (by decide) (Nat.le_of_ble_eq_true rfl) (fun X C F => ?_)
  have C : Ok X E RX8 cX8_fallsBy 11 := C
  have F : Fn X l E SHP 2 (some FieldType.int) (PD (some (.int (nI (falF D m t tm i j b)))) h) := F
  show G X E SHP (0, 0) 0 [(0, .ref (E.1 + 49)), (1, .ref (E.1 + a)), (2, .int (nI i)), (3, .int (nI j)), (4, .int (nI b))] [] h
  have hM0 := hM
  obtain ⟨okd, e16, e17, e540, e541, eL, eJ⟩ := hM
  have okd0 := okd
  obtain ⟨o1, o2, o3, o4, o5, o6⟩ := okd
  obtain ⟨ha, h0, hm, ht, hb, htm⟩ := hR
  have p6 : 2 ^ dL D ≤ 64 := Nat.pow_le_pow_right (n := 2) (by decide) o1
  have hj6 : j < 6 := by omega
  have hol : othF m i < 64 := oth_lt hm
  have L : ∀ k, k ≤ dL D → G X E SHP (0, 0) 20 [(0, .ref (E.1 + 49)), (1, .ref (E.1 + a)), (2, .int (nI i)), (3, .int (nI j)), (4, .int (nI b)), (5, .int (nI (othF m i))), (6, .int (nI (cnt (fun o => (othF m i).testBit o && likes D o j) k))), (7, .int (nI (lset (fun o => (othF m i).testBit o && decide (hdF D t o ≤ amu (dF D j / 2 ^ tm j) (likes D o j) (o == b))) k))), (8, .int (nI k))] [] h := by
    refine loopN (dL D) _ (fun k hk ih => ?_)
    have hcl := cnt_le (fun o => (othF m i).testBit o && likes D o j) k
    refine r_iload C dX8_fallsBy_20 rfl ?_
    refine r_aload_n C dX8_fallsBy_22 rfl ?_
    refine r_getI C dX8_fallsBy_23 flX8_72 (rfl) rfl ?_
    refine r_icmp_ge 136 C dX8_fallsBy_26 (by decide) (fun c_26 => ?_) (fun c_26 => ?_)
    · rw [cLe (x := h 49 16) (c := nI k) (i := dL D) (n := k) (e16) (rfl) (by omega) (by omega)] at c_26
      have hk2 : k = dL D := by omega
      subst hk2
      have hund : undF D m i j ≤ 6 := Nat.le_trans (cnt_le _ _) o1
      refine r_iload C dX8_fallsBy_136 rfl ?_
      refine r_aload_n C dX8_fallsBy_138 rfl ?_
      refine r_getR C dX8_fallsBy_139 flX8_26 (rfl) rfl ?_
      refine r_iconst (0) C dX8_fallsBy_142 rfl ?_
      refine r_iald (0) C dX8_fallsBy_143 (rfl) (rfl) (by decide) (by decide) ?_
      refine r_icmp_ge 151 C dX8_fallsBy_144 (by decide) (fun c_144 => ?_) (fun c_144 => ?_)
      · rw [cLe (x := h 54 0) (c := nI (cnt (fun o => (othF m i).testBit o && likes D o j) (dL D))) (i := dU D) (n := undF D m i j) (e540) (rfl) (by omega) (by omega)] at c_144
        have hfal : falF D m t tm i j b = clF D t (othF m i) (lauF D m t (dF D j / 2 ^ tm j) i j b) := if_neg (by omega)
        refine r_aload_n C dX8_fallsBy_151 rfl ?_
        refine r_aload_n C dX8_fallsBy_152 rfl ?_
        refine r_iload C dX8_fallsBy_153 rfl ?_
        refine r_iload C dX8_fallsBy_155 rfl ?_
        refine r_cVi C F dX8_fallsBy_157 (s8_caught (t := t) (m0 := lauF D m t (dF D j / 2 ^ tm j) i j b) (my := othF m i) hM0 ha ht hb (lset_lt _ _) hol) tw_902 m8_caught (rfl) rfl (by decide) rfl (Nat.le_of_ble_eq_true rfl) ?_
        exact r_iret C F dX8_fallsBy_160 (pd_i (by first | (rw [hfal]; done) | (rw [hfal]; rfl)) (rfl))
      · rw [cLe (x := h 54 0) (c := nI (cnt (fun o => (othF m i).testBit o && likes D o j) (dL D))) (i := dU D) (n := undF D m i j) (e540) (rfl) (by omega) (by omega)] at c_144
        have hfal : falF D m t tm i j b = 0 := if_pos (by omega)
        refine r_iconst (0) C dX8_fallsBy_147 rfl ?_
        refine r_goto 160 C dX8_fallsBy_148 (by decide) ?_
        exact r_iret C F dX8_fallsBy_160 (pd_i (by first | (rw [hfal]; done) | (rw [hfal]; rfl)) (rfl))
    · rw [cLe (x := h 49 16) (c := nI k) (i := dL D) (n := k) (e16) (rfl) (by omega) (by omega)] at c_26
      refine r_iload C dX8_fallsBy_29 rfl ?_
      refine r_iload C dX8_fallsBy_31 rfl ?_
      refine r_cSi C F dX8_fallsBy_33 (s8_has) tw_879 m8_has (by decide) rfl (Nat.le_of_ble_eq_true rfl) ?_
      refine r_if_eq 130 C dX8_fallsBy_36 (by decide) (fun c_36 => ?_) (fun c_36 => ?_)
      · rw [bz_eq0, hasP_nI (by omega) (by omega), Bool.not_eq_true] at c_36
        refine r_inc (1) C dX8_fallsBy_130 rfl (by decide) rfl rfl ?_
        refine r_goto 20 C dX8_fallsBy_133 (by decide) ?_
        exact (ih (by omega)).sub ⟨rfl, rfl, rfl, rfl, rfl, rfl, (by rw [show cnt (fun o => (othF m i).testBit o && likes D o j) (k + 1) = cnt (fun o => (othF m i).testBit o && likes D o j) k by simp [cnt, c_36]]; rfl), (by rw [show lset (fun o => (othF m i).testBit o && decide (hdF D t o ≤ amu (dF D j / 2 ^ tm j) (likes D o j) (o == b))) (k + 1) = lset (fun o => (othF m i).testBit o && decide (hdF D t o ≤ amu (dF D j / 2 ^ tm j) (likes D o j) (o == b))) k by simp [lset, c_36]]; rfl), by rw [nI_succ]; rfl, trivial⟩
      · rw [bz_ne0, hasP_nI (by omega) (by omega)] at c_36
        have hkl : k < dL D := by omega
        have hf30 : dF D j / 2 ^ tm j ≤ 30 := Nat.le_trans (Nat.div_le_self _ _) (o6 j hj).2.2
        refine r_aload_n C dX8_fallsBy_39 rfl ?_
        refine r_iload C dX8_fallsBy_40 rfl ?_
        refine r_iload_n C dX8_fallsBy_42 rfl ?_
        refine r_cVi C F dX8_fallsBy_43 (s8_hasTaste hM0 hkl hj) tw_898 m8_hasTaste (rfl) rfl (by decide) rfl (Nat.le_of_ble_eq_true rfl) ?_
        refine r_istore C dX8_fallsBy_46 (by decide) rfl ?_
        refine r_iload C dX8_fallsBy_48 rfl ?_
        refine r_iload C dX8_fallsBy_50 rfl ?_
        refine r_if_eq 59 C dX8_fallsBy_52 (by decide) (fun c_52 => ?_) (fun c_52 => ?_)
        · have c_52b := c_52
          rw [bz_eq0, Bool.not_eq_true] at c_52
          refine r_iconst (0) C dX8_fallsBy_59 rfl ?_
          refine r_iadd C dX8_fallsBy_60 ?_
          refine r_istore C dX8_fallsBy_61 (by decide) rfl ?_
          refine r_iload C dX8_fallsBy_63 rfl ?_
          refine r_if_eq 77 C dX8_fallsBy_65 (by decide) (fun c_65 => ?_) (fun c_65 => ?_)
          · refine r_aload_n C dX8_fallsBy_77 rfl ?_
            refine r_aload_n C dX8_fallsBy_78 rfl ?_
            refine r_iload_n C dX8_fallsBy_79 rfl ?_
            refine r_cVi C F dX8_fallsBy_80 (s8_funOf hM0 ha hj (htm j hj6).1 (htm j hj6).2) tw_867 m8_funOf (rfl) rfl (by decide) rfl (Nat.le_of_ble_eq_true rfl) ?_
            refine r_iconst (2) C dX8_fallsBy_83 rfl ?_
            refine r_idiv C dX8_fallsBy_84 (by decide) ?_
            refine r_istore C dX8_fallsBy_85 (by decide) rfl ?_
            refine r_iload C dX8_fallsBy_87 rfl ?_
            refine r_iload C dX8_fallsBy_89 rfl ?_
            refine r_icmp_ne 99 C dX8_fallsBy_91 (by decide) (fun c_91 => ?_) (fun c_91 => ?_)
            · rw [cEq (x := nI k) (c := nI b) (i := k) (n := b) (rfl) (rfl) (by omega) (by omega)] at c_91
              refine r_iload C dX8_fallsBy_99 rfl ?_
              refine r_iconst (2) C dX8_fallsBy_101 rfl ?_
              refine r_idiv C dX8_fallsBy_102 (by decide) ?_
              refine r_istore C dX8_fallsBy_103 (by decide) rfl ?_
              refine r_iload C dX8_fallsBy_105 rfl ?_
              refine r_iload C dX8_fallsBy_107 rfl ?_
              refine r_aload_n C dX8_fallsBy_109 rfl ?_
              refine r_aload_n C dX8_fallsBy_110 rfl ?_
              refine r_iload C dX8_fallsBy_111 rfl ?_
              refine r_cVi C F dX8_fallsBy_113 (s8_holdOf hM0 ha ht hb hkl) tw_855 m8_holdOf (rfl) rfl (by decide) rfl (Nat.le_of_ble_eq_true rfl) ?_
              refine r_icmp_lt 126 C dX8_fallsBy_116 (by decide) (fun c_116 => ?_) (fun c_116 => ?_)
              · refine r_iconst (0) C dX8_fallsBy_126 rfl ?_
                refine r_ior C dX8_fallsBy_127 ?_
                refine r_istore C dX8_fallsBy_128 (by decide) rfl ?_
                refine r_inc (1) C dX8_fallsBy_130 rfl (by decide) rfl rfl ?_
                refine r_goto 20 C dX8_fallsBy_133 (by decide) ?_
                rw [show nI (dF D j / 2 ^ tm j) / 2 = nI (dF D j / 2 ^ tm j / 2) from pk_div (by omega) (by decide) (by decide), show nI (dF D j / 2 ^ tm j / 2) / 2 = nI (dF D j / 2 ^ tm j / 2 / 2) from pk_div (by omega) (by decide) (by decide), nI_ltI (by omega) (by have := hdF_le okd0 (t := t) hkl; omega)] at c_116
                have hv : decide (hdF D t k ≤ dF D j / 2 ^ tm j / 2 / 2) = false := by
                  rw [decide_eq_false_iff_not]; omega
                have ha2 : amu (dF D j / 2 ^ tm j) (likes D k j) (k == b) = dF D j / 2 ^ tm j / 2 / 2 := by
                  rw [c_52, show (k == b) = false from beq_eq_false_iff_ne.mpr c_91]; rfl
                exact (ih (by omega)).sub ⟨rfl, rfl, rfl, rfl, rfl, rfl, (by rw [show cnt (fun o => (othF m i).testBit o && likes D o j) (k + 1) = cnt (fun o => (othF m i).testBit o && likes D o j) k + 0 by simp [cnt, c_36, c_52], ← nI_add]; rfl), (by rw [show lset (fun o => (othF m i).testBit o && decide (hdF D t o ≤ amu (dF D j / 2 ^ tm j) (likes D o j) (o == b))) (k + 1) = lset (fun o => (othF m i).testBit o && decide (hdF D t o ≤ amu (dF D j / 2 ^ tm j) (likes D o j) (o == b))) k ||| 0 by show lset (fun o => (othF m i).testBit o && decide (hdF D t o ≤ amu (dF D j / 2 ^ tm j) (likes D o j) (o == b))) k ||| (if ((othF m i).testBit k && decide (hdF D t k ≤ amu (dF D j / 2 ^ tm j) (likes D k j) (k == b))) = true then 2 ^ k else 0) = _; rw [ha2, hv, c_36]; rfl, ← nx_or]; rfl), by rw [nI_succ]; rfl, trivial⟩
              · refine r_iconst (1) C dX8_fallsBy_119 rfl ?_
                refine r_iload C dX8_fallsBy_120 rfl ?_
                refine r_ishl C dX8_fallsBy_122 ?_
                refine r_goto 127 C dX8_fallsBy_123 (by decide) ?_
                refine r_ior C dX8_fallsBy_127 ?_
                refine r_istore C dX8_fallsBy_128 (by decide) rfl ?_
                refine r_inc (1) C dX8_fallsBy_130 rfl (by decide) rfl rfl ?_
                refine r_goto 20 C dX8_fallsBy_133 (by decide) ?_
                rw [show nI (dF D j / 2 ^ tm j) / 2 = nI (dF D j / 2 ^ tm j / 2) from pk_div (by omega) (by decide) (by decide), show nI (dF D j / 2 ^ tm j / 2) / 2 = nI (dF D j / 2 ^ tm j / 2 / 2) from pk_div (by omega) (by decide) (by decide), nI_ltI (by omega) (by have := hdF_le okd0 (t := t) hkl; omega)] at c_116
                have hv : decide (hdF D t k ≤ dF D j / 2 ^ tm j / 2 / 2) = true := by
                  rw [decide_eq_true_eq]; omega
                have ha2 : amu (dF D j / 2 ^ tm j) (likes D k j) (k == b) = dF D j / 2 ^ tm j / 2 / 2 := by
                  rw [c_52, show (k == b) = false from beq_eq_false_iff_ne.mpr c_91]; rfl
                exact (ih (by omega)).sub ⟨rfl, rfl, rfl, rfl, rfl, rfl, (by rw [show cnt (fun o => (othF m i).testBit o && likes D o j) (k + 1) = cnt (fun o => (othF m i).testBit o && likes D o j) k + 0 by simp [cnt, c_36, c_52], ← nI_add]; rfl), (by rw [show lset (fun o => (othF m i).testBit o && decide (hdF D t o ≤ amu (dF D j / 2 ^ tm j) (likes D o j) (o == b))) (k + 1) = lset (fun o => (othF m i).testBit o && decide (hdF D t o ≤ amu (dF D j / 2 ^ tm j) (likes D o j) (o == b))) k ||| 2 ^ k by show lset (fun o => (othF m i).testBit o && decide (hdF D t o ≤ amu (dF D j / 2 ^ tm j) (likes D o j) (o == b))) k ||| (if ((othF m i).testBit k && decide (hdF D t k ≤ amu (dF D j / 2 ^ tm j) (likes D k j) (k == b))) = true then 2 ^ k else 0) = _; rw [ha2, hv, c_36]; rfl, ← nx_or, ← shl1_nI (by omega)]; rfl), by rw [nI_succ]; rfl, trivial⟩
            · rw [cEq (x := nI k) (c := nI b) (i := k) (n := b) (rfl) (rfl) (by omega) (by omega)] at c_91
              refine r_iload C dX8_fallsBy_94 rfl ?_
              refine r_goto 103 C dX8_fallsBy_96 (by decide) ?_
              refine r_istore C dX8_fallsBy_103 (by decide) rfl ?_
              refine r_iload C dX8_fallsBy_105 rfl ?_
              refine r_iload C dX8_fallsBy_107 rfl ?_
              refine r_aload_n C dX8_fallsBy_109 rfl ?_
              refine r_aload_n C dX8_fallsBy_110 rfl ?_
              refine r_iload C dX8_fallsBy_111 rfl ?_
              refine r_cVi C F dX8_fallsBy_113 (s8_holdOf hM0 ha ht hb hkl) tw_855 m8_holdOf (rfl) rfl (by decide) rfl (Nat.le_of_ble_eq_true rfl) ?_
              refine r_icmp_lt 126 C dX8_fallsBy_116 (by decide) (fun c_116 => ?_) (fun c_116 => ?_)
              · refine r_iconst (0) C dX8_fallsBy_126 rfl ?_
                refine r_ior C dX8_fallsBy_127 ?_
                refine r_istore C dX8_fallsBy_128 (by decide) rfl ?_
                refine r_inc (1) C dX8_fallsBy_130 rfl (by decide) rfl rfl ?_
                refine r_goto 20 C dX8_fallsBy_133 (by decide) ?_
                rw [show nI (dF D j / 2 ^ tm j) / 2 = nI (dF D j / 2 ^ tm j / 2) from pk_div (by omega) (by decide) (by decide), nI_ltI (by omega) (by have := hdF_le okd0 (t := t) hkl; omega)] at c_116
                have hv : decide (hdF D t k ≤ dF D j / 2 ^ tm j / 2) = false := by
                  rw [decide_eq_false_iff_not]; omega
                have ha2 : amu (dF D j / 2 ^ tm j) (likes D k j) (k == b) = dF D j / 2 ^ tm j / 2 := by
                  rw [c_52, show (k == b) = true from beq_iff_eq.mpr c_91]; rfl
                exact (ih (by omega)).sub ⟨rfl, rfl, rfl, rfl, rfl, rfl, (by rw [show cnt (fun o => (othF m i).testBit o && likes D o j) (k + 1) = cnt (fun o => (othF m i).testBit o && likes D o j) k + 0 by simp [cnt, c_36, c_52], ← nI_add]; rfl), (by rw [show lset (fun o => (othF m i).testBit o && decide (hdF D t o ≤ amu (dF D j / 2 ^ tm j) (likes D o j) (o == b))) (k + 1) = lset (fun o => (othF m i).testBit o && decide (hdF D t o ≤ amu (dF D j / 2 ^ tm j) (likes D o j) (o == b))) k ||| 0 by show lset (fun o => (othF m i).testBit o && decide (hdF D t o ≤ amu (dF D j / 2 ^ tm j) (likes D o j) (o == b))) k ||| (if ((othF m i).testBit k && decide (hdF D t k ≤ amu (dF D j / 2 ^ tm j) (likes D k j) (k == b))) = true then 2 ^ k else 0) = _; rw [ha2, hv, c_36]; rfl, ← nx_or]; rfl), by rw [nI_succ]; rfl, trivial⟩
              · refine r_iconst (1) C dX8_fallsBy_119 rfl ?_
                refine r_iload C dX8_fallsBy_120 rfl ?_
                refine r_ishl C dX8_fallsBy_122 ?_
                refine r_goto 127 C dX8_fallsBy_123 (by decide) ?_
                refine r_ior C dX8_fallsBy_127 ?_
                refine r_istore C dX8_fallsBy_128 (by decide) rfl ?_
                refine r_inc (1) C dX8_fallsBy_130 rfl (by decide) rfl rfl ?_
                refine r_goto 20 C dX8_fallsBy_133 (by decide) ?_
                rw [show nI (dF D j / 2 ^ tm j) / 2 = nI (dF D j / 2 ^ tm j / 2) from pk_div (by omega) (by decide) (by decide), nI_ltI (by omega) (by have := hdF_le okd0 (t := t) hkl; omega)] at c_116
                have hv : decide (hdF D t k ≤ dF D j / 2 ^ tm j / 2) = true := by
                  rw [decide_eq_true_eq]; omega
                have ha2 : amu (dF D j / 2 ^ tm j) (likes D k j) (k == b) = dF D j / 2 ^ tm j / 2 := by
                  rw [c_52, show (k == b) = true from beq_iff_eq.mpr c_91]; rfl
                exact (ih (by omega)).sub ⟨rfl, rfl, rfl, rfl, rfl, rfl, (by rw [show cnt (fun o => (othF m i).testBit o && likes D o j) (k + 1) = cnt (fun o => (othF m i).testBit o && likes D o j) k + 0 by simp [cnt, c_36, c_52], ← nI_add]; rfl), (by rw [show lset (fun o => (othF m i).testBit o && decide (hdF D t o ≤ amu (dF D j / 2 ^ tm j) (likes D o j) (o == b))) (k + 1) = lset (fun o => (othF m i).testBit o && decide (hdF D t o ≤ amu (dF D j / 2 ^ tm j) (likes D o j) (o == b))) k ||| 2 ^ k by show lset (fun o => (othF m i).testBit o && decide (hdF D t o ≤ amu (dF D j / 2 ^ tm j) (likes D o j) (o == b))) k ||| (if ((othF m i).testBit k && decide (hdF D t k ≤ amu (dF D j / 2 ^ tm j) (likes D k j) (k == b))) = true then 2 ^ k else 0) = _; rw [ha2, hv, c_36]; rfl, ← nx_or, ← shl1_nI (by omega)]; rfl), by rw [nI_succ]; rfl, trivial⟩
          · exact absurd c_52b c_65
        · have c_52b := c_52
          rw [bz_ne0] at c_52
          refine r_iconst (1) C dX8_fallsBy_55 rfl ?_
          refine r_goto 60 C dX8_fallsBy_56 (by decide) ?_
          refine r_iadd C dX8_fallsBy_60 ?_
          refine r_istore C dX8_fallsBy_61 (by decide) rfl ?_
          refine r_iload C dX8_fallsBy_63 rfl ?_
          refine r_if_eq 77 C dX8_fallsBy_65 (by decide) (fun c_65 => ?_) (fun c_65 => ?_)
          · exact absurd c_65 c_52b
          · refine r_aload_n C dX8_fallsBy_68 rfl ?_
            refine r_aload_n C dX8_fallsBy_69 rfl ?_
            refine r_iload_n C dX8_fallsBy_70 rfl ?_
            refine r_cVi C F dX8_fallsBy_71 (s8_funOf hM0 ha hj (htm j hj6).1 (htm j hj6).2) tw_867 m8_funOf (rfl) rfl (by decide) rfl (Nat.le_of_ble_eq_true rfl) ?_
            refine r_goto 85 C dX8_fallsBy_74 (by decide) ?_
            refine r_istore C dX8_fallsBy_85 (by decide) rfl ?_
            refine r_iload C dX8_fallsBy_87 rfl ?_
            refine r_iload C dX8_fallsBy_89 rfl ?_
            refine r_icmp_ne 99 C dX8_fallsBy_91 (by decide) (fun c_91 => ?_) (fun c_91 => ?_)
            · rw [cEq (x := nI k) (c := nI b) (i := k) (n := b) (rfl) (rfl) (by omega) (by omega)] at c_91
              refine r_iload C dX8_fallsBy_99 rfl ?_
              refine r_iconst (2) C dX8_fallsBy_101 rfl ?_
              refine r_idiv C dX8_fallsBy_102 (by decide) ?_
              refine r_istore C dX8_fallsBy_103 (by decide) rfl ?_
              refine r_iload C dX8_fallsBy_105 rfl ?_
              refine r_iload C dX8_fallsBy_107 rfl ?_
              refine r_aload_n C dX8_fallsBy_109 rfl ?_
              refine r_aload_n C dX8_fallsBy_110 rfl ?_
              refine r_iload C dX8_fallsBy_111 rfl ?_
              refine r_cVi C F dX8_fallsBy_113 (s8_holdOf hM0 ha ht hb hkl) tw_855 m8_holdOf (rfl) rfl (by decide) rfl (Nat.le_of_ble_eq_true rfl) ?_
              refine r_icmp_lt 126 C dX8_fallsBy_116 (by decide) (fun c_116 => ?_) (fun c_116 => ?_)
              · refine r_iconst (0) C dX8_fallsBy_126 rfl ?_
                refine r_ior C dX8_fallsBy_127 ?_
                refine r_istore C dX8_fallsBy_128 (by decide) rfl ?_
                refine r_inc (1) C dX8_fallsBy_130 rfl (by decide) rfl rfl ?_
                refine r_goto 20 C dX8_fallsBy_133 (by decide) ?_
                rw [show nI (dF D j / 2 ^ tm j) / 2 = nI (dF D j / 2 ^ tm j / 2) from pk_div (by omega) (by decide) (by decide), nI_ltI (by omega) (by have := hdF_le okd0 (t := t) hkl; omega)] at c_116
                have hv : decide (hdF D t k ≤ dF D j / 2 ^ tm j / 2) = false := by
                  rw [decide_eq_false_iff_not]; omega
                have ha2 : amu (dF D j / 2 ^ tm j) (likes D k j) (k == b) = dF D j / 2 ^ tm j / 2 := by
                  rw [c_52, show (k == b) = false from beq_eq_false_iff_ne.mpr c_91]; rfl
                exact (ih (by omega)).sub ⟨rfl, rfl, rfl, rfl, rfl, rfl, (by rw [show cnt (fun o => (othF m i).testBit o && likes D o j) (k + 1) = cnt (fun o => (othF m i).testBit o && likes D o j) k + 1 by simp [cnt, c_36, c_52], ← nI_add]; rfl), (by rw [show lset (fun o => (othF m i).testBit o && decide (hdF D t o ≤ amu (dF D j / 2 ^ tm j) (likes D o j) (o == b))) (k + 1) = lset (fun o => (othF m i).testBit o && decide (hdF D t o ≤ amu (dF D j / 2 ^ tm j) (likes D o j) (o == b))) k ||| 0 by show lset (fun o => (othF m i).testBit o && decide (hdF D t o ≤ amu (dF D j / 2 ^ tm j) (likes D o j) (o == b))) k ||| (if ((othF m i).testBit k && decide (hdF D t k ≤ amu (dF D j / 2 ^ tm j) (likes D k j) (k == b))) = true then 2 ^ k else 0) = _; rw [ha2, hv, c_36]; rfl, ← nx_or]; rfl), by rw [nI_succ]; rfl, trivial⟩
              · refine r_iconst (1) C dX8_fallsBy_119 rfl ?_
                refine r_iload C dX8_fallsBy_120 rfl ?_
                refine r_ishl C dX8_fallsBy_122 ?_
                refine r_goto 127 C dX8_fallsBy_123 (by decide) ?_
                refine r_ior C dX8_fallsBy_127 ?_
                refine r_istore C dX8_fallsBy_128 (by decide) rfl ?_
                refine r_inc (1) C dX8_fallsBy_130 rfl (by decide) rfl rfl ?_
                refine r_goto 20 C dX8_fallsBy_133 (by decide) ?_
                rw [show nI (dF D j / 2 ^ tm j) / 2 = nI (dF D j / 2 ^ tm j / 2) from pk_div (by omega) (by decide) (by decide), nI_ltI (by omega) (by have := hdF_le okd0 (t := t) hkl; omega)] at c_116
                have hv : decide (hdF D t k ≤ dF D j / 2 ^ tm j / 2) = true := by
                  rw [decide_eq_true_eq]; omega
                have ha2 : amu (dF D j / 2 ^ tm j) (likes D k j) (k == b) = dF D j / 2 ^ tm j / 2 := by
                  rw [c_52, show (k == b) = false from beq_eq_false_iff_ne.mpr c_91]; rfl
                exact (ih (by omega)).sub ⟨rfl, rfl, rfl, rfl, rfl, rfl, (by rw [show cnt (fun o => (othF m i).testBit o && likes D o j) (k + 1) = cnt (fun o => (othF m i).testBit o && likes D o j) k + 1 by simp [cnt, c_36, c_52], ← nI_add]; rfl), (by rw [show lset (fun o => (othF m i).testBit o && decide (hdF D t o ≤ amu (dF D j / 2 ^ tm j) (likes D o j) (o == b))) (k + 1) = lset (fun o => (othF m i).testBit o && decide (hdF D t o ≤ amu (dF D j / 2 ^ tm j) (likes D o j) (o == b))) k ||| 2 ^ k by show lset (fun o => (othF m i).testBit o && decide (hdF D t o ≤ amu (dF D j / 2 ^ tm j) (likes D o j) (o == b))) k ||| (if ((othF m i).testBit k && decide (hdF D t k ≤ amu (dF D j / 2 ^ tm j) (likes D k j) (k == b))) = true then 2 ^ k else 0) = _; rw [ha2, hv, c_36]; rfl, ← nx_or, ← shl1_nI (by omega)]; rfl), by rw [nI_succ]; rfl, trivial⟩
            · rw [cEq (x := nI k) (c := nI b) (i := k) (n := b) (rfl) (rfl) (by omega) (by omega)] at c_91
              refine r_iload C dX8_fallsBy_94 rfl ?_
              refine r_goto 103 C dX8_fallsBy_96 (by decide) ?_
              refine r_istore C dX8_fallsBy_103 (by decide) rfl ?_
              refine r_iload C dX8_fallsBy_105 rfl ?_
              refine r_iload C dX8_fallsBy_107 rfl ?_
              refine r_aload_n C dX8_fallsBy_109 rfl ?_
              refine r_aload_n C dX8_fallsBy_110 rfl ?_
              refine r_iload C dX8_fallsBy_111 rfl ?_
              refine r_cVi C F dX8_fallsBy_113 (s8_holdOf hM0 ha ht hb hkl) tw_855 m8_holdOf (rfl) rfl (by decide) rfl (Nat.le_of_ble_eq_true rfl) ?_
              refine r_icmp_lt 126 C dX8_fallsBy_116 (by decide) (fun c_116 => ?_) (fun c_116 => ?_)
              · refine r_iconst (0) C dX8_fallsBy_126 rfl ?_
                refine r_ior C dX8_fallsBy_127 ?_
                refine r_istore C dX8_fallsBy_128 (by decide) rfl ?_
                refine r_inc (1) C dX8_fallsBy_130 rfl (by decide) rfl rfl ?_
                refine r_goto 20 C dX8_fallsBy_133 (by decide) ?_
                rw [nI_ltI (by omega) (by have := hdF_le okd0 (t := t) hkl; omega)] at c_116
                have hv : decide (hdF D t k ≤ dF D j / 2 ^ tm j) = false := by
                  rw [decide_eq_false_iff_not]; omega
                have ha2 : amu (dF D j / 2 ^ tm j) (likes D k j) (k == b) = dF D j / 2 ^ tm j := by
                  rw [c_52, show (k == b) = true from beq_iff_eq.mpr c_91]; rfl
                exact (ih (by omega)).sub ⟨rfl, rfl, rfl, rfl, rfl, rfl, (by rw [show cnt (fun o => (othF m i).testBit o && likes D o j) (k + 1) = cnt (fun o => (othF m i).testBit o && likes D o j) k + 1 by simp [cnt, c_36, c_52], ← nI_add]; rfl), (by rw [show lset (fun o => (othF m i).testBit o && decide (hdF D t o ≤ amu (dF D j / 2 ^ tm j) (likes D o j) (o == b))) (k + 1) = lset (fun o => (othF m i).testBit o && decide (hdF D t o ≤ amu (dF D j / 2 ^ tm j) (likes D o j) (o == b))) k ||| 0 by show lset (fun o => (othF m i).testBit o && decide (hdF D t o ≤ amu (dF D j / 2 ^ tm j) (likes D o j) (o == b))) k ||| (if ((othF m i).testBit k && decide (hdF D t k ≤ amu (dF D j / 2 ^ tm j) (likes D k j) (k == b))) = true then 2 ^ k else 0) = _; rw [ha2, hv, c_36]; rfl, ← nx_or]; rfl), by rw [nI_succ]; rfl, trivial⟩
              · refine r_iconst (1) C dX8_fallsBy_119 rfl ?_
                refine r_iload C dX8_fallsBy_120 rfl ?_
                refine r_ishl C dX8_fallsBy_122 ?_
                refine r_goto 127 C dX8_fallsBy_123 (by decide) ?_
                refine r_ior C dX8_fallsBy_127 ?_
                refine r_istore C dX8_fallsBy_128 (by decide) rfl ?_
                refine r_inc (1) C dX8_fallsBy_130 rfl (by decide) rfl rfl ?_
                refine r_goto 20 C dX8_fallsBy_133 (by decide) ?_
                rw [nI_ltI (by omega) (by have := hdF_le okd0 (t := t) hkl; omega)] at c_116
                have hv : decide (hdF D t k ≤ dF D j / 2 ^ tm j) = true := by
                  rw [decide_eq_true_eq]; omega
                have ha2 : amu (dF D j / 2 ^ tm j) (likes D k j) (k == b) = dF D j / 2 ^ tm j := by
                  rw [c_52, show (k == b) = true from beq_iff_eq.mpr c_91]; rfl
                exact (ih (by omega)).sub ⟨rfl, rfl, rfl, rfl, rfl, rfl, (by rw [show cnt (fun o => (othF m i).testBit o && likes D o j) (k + 1) = cnt (fun o => (othF m i).testBit o && likes D o j) k + 1 by simp [cnt, c_36, c_52], ← nI_add]; rfl), (by rw [show lset (fun o => (othF m i).testBit o && decide (hdF D t o ≤ amu (dF D j / 2 ^ tm j) (likes D o j) (o == b))) (k + 1) = lset (fun o => (othF m i).testBit o && decide (hdF D t o ≤ amu (dF D j / 2 ^ tm j) (likes D o j) (o == b))) k ||| 2 ^ k by show lset (fun o => (othF m i).testBit o && decide (hdF D t o ≤ amu (dF D j / 2 ^ tm j) (likes D o j) (o == b))) k ||| (if ((othF m i).testBit k && decide (hdF D t k ≤ amu (dF D j / 2 ^ tm j) (likes D k j) (k == b))) = true then 2 ^ k else 0) = _; rw [ha2, hv, c_36]; rfl, ← nx_or, ← shl1_nI (by omega)]; rfl), by rw [nI_succ]; rfl, trivial⟩
  refine r_aload_n C dX8_fallsBy_0 rfl ?_
  refine r_iconst (0) C dX8_fallsBy_1 rfl ?_
  refine r_iald (0) C dX8_fallsBy_2 (ha) (rfl) (by decide) (by decide) ?_
  refine r_iconst (1) C dX8_fallsBy_3 rfl ?_
  refine r_iload_n C dX8_fallsBy_4 rfl ?_
  refine r_ishl C dX8_fallsBy_5 ?_
  refine r_iconst (-1) C dX8_fallsBy_6 rfl ?_
  refine r_ixor C dX8_fallsBy_7 ?_
  refine r_iand C dX8_fallsBy_8 ?_
  rw [h0, shl1_nI (by omega), nx_nd]
  refine r_istore C dX8_fallsBy_9 (by decide) rfl ?_
  refine r_iconst (0) C dX8_fallsBy_11 rfl ?_
  refine r_istore C dX8_fallsBy_12 (by decide) rfl ?_
  refine r_iconst (0) C dX8_fallsBy_14 rfl ?_
  refine r_istore C dX8_fallsBy_15 (by decide) rfl ?_
  refine r_iconst (0) C dX8_fallsBy_17 rfl ?_
  refine r_istore C dX8_fallsBy_18 (by decide) rfl ?_
  exact (L 0 (by omega)).sub ⟨rfl, rfl, rfl, rfl, rfl, rfl, rfl, rfl, rfl, trivial⟩
