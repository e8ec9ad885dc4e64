variable {l : Launch} {E : Ev} {h : Hp}
theorem tb_z {m k : Nat} (q : nI ((m.testBit k).toNat) = 0) : m.testBit k = false := by
  cases hb : m.testBit k with
  | false => rfl
  | true => rw [hb] at q; exact absurd q (by decide)
theorem tb_n {m k : Nat} (q : ¬ nI ((m.testBit k).toNat) = 0) : m.testBit k = true := by
  cases hb : m.testBit k with
  | true => rfl
  | false => rw [hb] at q; exact absurd rfl q
theorem lset_f {p : Nat → Bool} {k : Nat} (q : p k = false) : lset p (k + 1) = lset p k := by
  show lset p k ||| (if p k then 2 ^ k else 0) = _
  rw [q, if_neg (by decide), Nat.or_zero]
theorem lset_t {p : Nat → Bool} {k : Nat} (hk : k < 32) (q : p k = true) : nI (lset p (k + 1)) = nI (lset p k) ||| 1 <<< (nI k &&& 31) := by
  show nI (lset p k ||| (if p k then 2 ^ k else 0)) = _
  rw [q, if_pos rfl, shl1_nI hk, nx_or]
theorem cnt_pc (m : Nat) : ∀ n, pc m n = cnt (fun o => m.testBit o) n
  | 0 => rfl
  | n + 1 => by
    show pc m n + (m.testBit n).toNat = cnt _ n + (if m.testBit n then 1 else 0)
    rw [cnt_pc m n]
    cases m.testBit n <;> rfl
theorem cnt_ext {p q : Nat → Bool} {L : Nat} : ∀ n, L ≤ n → (∀ k, k < n → p k = (decide (k < L) && q k)) → cnt p n = cnt q L
  | 0, hL, _ => by rw [show L = 0 by omega]; rfl
  | n + 1, hL, e => by
    by_cases c : L = n + 1
    · subst c
      exact cnt_congr _ (fun k hk => by rw [e k hk, decide_eq_true hk, Bool.true_and])
    · show cnt p n + (if p n then 1 else 0) = _
      rw [cnt_ext n (by omega) (fun k hk => e k (by omega)), e n (by omega), decide_eq_false (by omega)]
      rfl
theorem pc_and {m L : Nat} {p : Nat → Bool} (hL : L ≤ 6) : pc (m &&& lset p L) 6 = cnt (fun o => m.testBit o && p o) L := by
  rw [cnt_pc]
  exact cnt_ext 6 hL (fun k _ => by rw [Nat.testBit_and, lset_bit]; cases m.testBit k <;> cases decide (k < L) <;> rfl)
/-- whom it amuses enough -/
def amL (D : HDt) (my t f j a : Nat) : Nat → Bool := fun o => my.testBit o && decide (hdF D t o ≤ amu f (likes D o j) (o == a))
set_option maxHeartbeats 4000000 in
theorem s5_amused {o t : Nat} {D : HDt} {tm : Nat → Nat} (hO : isH o) (ho : o ≤ 12) (hT : CT h o D t tm) {my j a : Nat} (hmy : my < 64) (hj : j < dJ D) (ha : a < 64) (htm : tm j < 2147483648) : Sp l E SHP 1 M5_amused [.ref (E.1 + 36), .int (nI my), .int (nI j), .int (nI a)] h (PD (some (.int (nI (lset (amL D my t (dF D j / 2 ^ tm j) j a) (dL D))))) h) := by
  refine Sp.of (by decide) (Nat.le_of_ble_eq_true rfl) (fun X C F => ?_)
  have C : Ok X E RX5 cX5_amused 9 := C
  have F : Fn X l E SHP 1 (some FieldType.int) (PD (some (.int (nI (lset (amL D my t (dF D j / 2 ^ tm j) j a) (dL D))))) h) := F
  show G X E SHP (0, 0) 0 [(0, .ref (E.1 + 36)), (1, .int (nI my)), (2, .int (nI j)), (3, .int (nI a))] [] h
  obtain ⟨q1, hH, q3, q4⟩ := id hT
  obtain ⟨okd, e1, e2, e3, e4, eL, eJ, eB, eF⟩ := id hH
  obtain ⟨o1, o2, o3, o4, o5, o6⟩ := id okd
  have hf30 := (o6 j hj).2.2
  have hK := (o6 j hj).1
  have hfle : dF D j / 2 ^ tm j ≤ 30 := Nat.le_trans (Nat.div_le_self _ _) hf30
  generalize hf : dF D j / 2 ^ tm j = f at hfle F ⊢
  have L : ∀ k, k ≤ dL D → G X E SHP (0, 0) 41 [(0, .ref (E.1 + 36)), (1, .int (nI my)), (3, .int (nI a)), (4, .int (nI f)), (5, .int (nI (lset (fun i => (dT D i).testBit (dK D j)) (dL D)))), (6, .int (nI (lset (amL D my t f j a) k))), (7, .int (nI k))] [] h := by
    refine loopN (dL D) _ (fun k hk ih => ?_)
    have hhd : k < dL D → hdF D t k ≤ 20 := fun z => hdF_le okd z
    have hfb : k < dL D → (lset (fun i => (dT D i).testBit (dK D j)) (dL D)).testBit k = likes D k j := fun z => by rw [lset_bit, decide_eq_true z, Bool.true_and]; rfl
    have hfl : lset (fun i => (dT D i).testBit (dK D j)) (dL D) < 64 := Nat.lt_of_lt_of_le (lset_lt _ _) (Nat.pow_le_pow_right (n := 2) (by decide) o1)
    refine r_iload C dX5_amused_41 rfl ?_
    refine r_aload_n C dX5_amused_43 rfl ?_
    refine r_getV (o) C dX5_amused_44 flX5_12 (rfl) rfl (q1) (by first | decide | omega) ?_
    refine r_getI C dX5_amused_47 flX5_31 (hO.1) rfl ?_
    refine r_icmp_ge 125 C dX5_amused_50 (by decide) (fun c_50 => ?_) (fun c_50 => ?_)
    · rw [cLe (x := h o 3) (c := nI k) (i := dL D) (n := k) (e3) (rfl) (by omega) (by omega)] at c_50
      refine r_iload C dX5_amused_125 rfl ?_
      exact r_iret C F dX5_amused_127 (pd_i (by rw [show k = dL D by omega]) (rfl))
    · rw [cLe (x := h o 3) (c := nI k) (i := dL D) (n := k) (e3) (rfl) (by omega) (by omega)] at c_50
      refine r_iload_n C dX5_amused_53 rfl ?_
      refine r_iload C dX5_amused_54 rfl ?_
      refine r_ishr C dX5_amused_56 ?_
      refine r_iconst (1) C dX5_amused_57 rfl ?_
      refine r_iand C dX5_amused_58 ?_
      rw [bit_nI (by omega) (by omega)]
      refine r_if_ne 65 C dX5_amused_59 (by decide) (fun c_59 => ?_) (fun c_59 => ?_)
      · have c_59 := tb_n c_59
        refine r_iload C dX5_amused_65 rfl ?_
        refine r_iload C dX5_amused_67 rfl ?_
        refine r_ishr C dX5_amused_69 ?_
        refine r_iconst (1) C dX5_amused_70 rfl ?_
        refine r_iand C dX5_amused_71 ?_
        rw [bit_nI (by omega) (by omega)]
        refine r_if_eq 80 C dX5_amused_72 (by decide) (fun c_72 => ?_) (fun c_72 => ?_)
        · have c_72 := tb_z c_72
          rw [hfb (by omega)] at c_72
          refine r_iload C dX5_amused_80 rfl ?_
          refine r_iconst (2) C dX5_amused_82 rfl ?_
          refine r_idiv C dX5_amused_83 (by decide) ?_
          first | rw [show nI f / 2 = nI (f / 2) from pk_div (by omega) (by decide) (by decide)] | skip
          refine r_istore C dX5_amused_84 (by decide) rfl ?_
          refine r_iload C dX5_amused_86 rfl ?_
          refine r_iload_n C dX5_amused_88 rfl ?_
          refine r_icmp_eq 98 C dX5_amused_89 (by decide) (fun c_89 => ?_) (fun c_89 => ?_)
          · rw [cEq (x := nI k) (c := nI a) (i := k) (n := a) (rfl) (rfl) (by omega) (by omega)] at c_89
            refine r_iload C dX5_amused_98 rfl ?_
            refine r_aload_n C dX5_amused_100 rfl ?_
            refine r_getR C dX5_amused_101 flX5_18 (rfl) rfl ?_
            refine r_iload C dX5_amused_104 rfl ?_
            refine r_iald (k) C dX5_amused_106 (rfl) (rfl) (by omega) (by first | decide | omega) ?_
            refine r_icmp_lt 119 C dX5_amused_107 (by decide) (fun c_107 => ?_) (fun c_107 => ?_)
            · refine r_inc (1) C dX5_amused_119 rfl (by decide) rfl rfl ?_
              refine r_goto 41 C dX5_amused_122 (by decide) ?_
              have ha : amu f (likes D k j) (k == a) = f / 2 := by
                unfold amu
                rw [show (k == a) = true from beq_iff_eq.mpr c_89, c_72]
                rfl
              rw [q3 k (by omega), cLt (x := nI (f / 2)) (c := nI (hdF D t k)) (i := f / 2) (n := hdF D t k) rfl rfl (by omega) (by have := hhd (by omega); omega)] at c_107
              exact (ih (by omega)).sub ⟨rfl, rfl, rfl, rfl, rfl, by rw [lset_f (show (amL D my t f j a) k = false by unfold amL; rw [ha, c_59, Bool.true_and]; exact decide_eq_false (by omega))]; rfl, by rw [nI_succ]; rfl, trivial⟩
            · refine r_iload C dX5_amused_110 rfl ?_
              refine r_iconst (1) C dX5_amused_112 rfl ?_
              refine r_iload C dX5_amused_113 rfl ?_
              refine r_ishl C dX5_amused_115 ?_
              refine r_ior C dX5_amused_116 ?_
              refine r_istore C dX5_amused_117 (by decide) rfl ?_
              refine r_inc (1) C dX5_amused_119 rfl (by decide) rfl rfl ?_
              refine r_goto 41 C dX5_amused_122 (by decide) ?_
              have ha : amu f (likes D k j) (k == a) = f / 2 := by
                unfold amu
                rw [show (k == a) = true from beq_iff_eq.mpr c_89, c_72]
                rfl
              rw [q3 k (by omega), cLt (x := nI (f / 2)) (c := nI (hdF D t k)) (i := f / 2) (n := hdF D t k) rfl rfl (by omega) (by have := hhd (by omega); omega)] at c_107
              exact (ih (by omega)).sub ⟨rfl, rfl, rfl, rfl, rfl, by rw [lset_t (by omega) (show (amL D my t f j a) k = true by unfold amL; rw [ha, c_59, Bool.true_and]; exact decide_eq_true (by omega))]; rfl, by rw [nI_succ]; rfl, trivial⟩
          · rw [cEq (x := nI k) (c := nI a) (i := k) (n := a) (rfl) (rfl) (by omega) (by omega)] at c_89
            refine r_iload C dX5_amused_92 rfl ?_
            refine r_iconst (2) C dX5_amused_94 rfl ?_
            refine r_idiv C dX5_amused_95 (by decide) ?_
            first | rw [show nI (f / 2) / 2 = nI (f / 2 / 2) from pk_div (by omega) (by decide) (by decide)] | rw [show nI f / 2 = nI (f / 2) from pk_div (by omega) (by decide) (by decide)]
            refine r_istore C dX5_amused_96 (by decide) rfl ?_
            refine r_iload C dX5_amused_98 rfl ?_
            refine r_aload_n C dX5_amused_100 rfl ?_
            refine r_getR C dX5_amused_101 flX5_18 (rfl) rfl ?_
            refine r_iload C dX5_amused_104 rfl ?_
            refine r_iald (k) C dX5_amused_106 (rfl) (rfl) (by omega) (by first | decide | omega) ?_
            refine r_icmp_lt 119 C dX5_amused_107 (by decide) (fun c_107 => ?_) (fun c_107 => ?_)
            · refine r_inc (1) C dX5_amused_119 rfl (by decide) rfl rfl ?_
              refine r_goto 41 C dX5_amused_122 (by decide) ?_
              have ha : amu f (likes D k j) (k == a) = f / 2 / 2 := by
                unfold amu
                rw [show (k == a) = false from beq_eq_false_iff_ne.mpr c_89, c_72]
                rfl
              rw [q3 k (by omega), cLt (x := nI (f / 2 / 2)) (c := nI (hdF D t k)) (i := f / 2 / 2) (n := hdF D t k) rfl rfl (by omega) (by have := hhd (by omega); omega)] at c_107
              exact (ih (by omega)).sub ⟨rfl, rfl, rfl, rfl, rfl, by rw [lset_f (show (amL D my t f j a) k = false by unfold amL; rw [ha, c_59, Bool.true_and]; exact decide_eq_false (by omega))]; rfl, by rw [nI_succ]; rfl, trivial⟩
            · refine r_iload C dX5_amused_110 rfl ?_
              refine r_iconst (1) C dX5_amused_112 rfl ?_
              refine r_iload C dX5_amused_113 rfl ?_
              refine r_ishl C dX5_amused_115 ?_
              refine r_ior C dX5_amused_116 ?_
              refine r_istore C dX5_amused_117 (by decide) rfl ?_
              refine r_inc (1) C dX5_amused_119 rfl (by decide) rfl rfl ?_
              refine r_goto 41 C dX5_amused_122 (by decide) ?_
              have ha : amu f (likes D k j) (k == a) = f / 2 / 2 := by
                unfold amu
                rw [show (k == a) = false from beq_eq_false_iff_ne.mpr c_89, c_72]
                rfl
              rw [q3 k (by omega), cLt (x := nI (f / 2 / 2)) (c := nI (hdF D t k)) (i := f / 2 / 2) (n := hdF D t k) rfl rfl (by omega) (by have := hhd (by omega); omega)] at c_107
              exact (ih (by omega)).sub ⟨rfl, rfl, rfl, rfl, rfl, by rw [lset_t (by omega) (show (amL D my t f j a) k = true by unfold amL; rw [ha, c_59, Bool.true_and]; exact decide_eq_true (by omega))]; rfl, by rw [nI_succ]; rfl, trivial⟩
        · have c_72 := tb_n c_72
          rw [hfb (by omega)] at c_72
          refine r_iload C dX5_amused_75 rfl ?_
          refine r_goto 84 C dX5_amused_77 (by decide) ?_
          first | rw [show nI f / 2 = nI (f / 2) from pk_div (by omega) (by decide) (by decide)] | skip
          refine r_istore C dX5_amused_84 (by decide) rfl ?_
          refine r_iload C dX5_amused_86 rfl ?_
          refine r_iload_n C dX5_amused_88 rfl ?_
          refine r_icmp_eq 98 C dX5_amused_89 (by decide) (fun c_89 => ?_) (fun c_89 => ?_)
          · rw [cEq (x := nI k) (c := nI a) (i := k) (n := a) (rfl) (rfl) (by omega) (by omega)] at c_89
            refine r_iload C dX5_amused_98 rfl ?_
            refine r_aload_n C dX5_amused_100 rfl ?_
            refine r_getR C dX5_amused_101 flX5_18 (rfl) rfl ?_
            refine r_iload C dX5_amused_104 rfl ?_
            refine r_iald (k) C dX5_amused_106 (rfl) (rfl) (by omega) (by first | decide | omega) ?_
            refine r_icmp_lt 119 C dX5_amused_107 (by decide) (fun c_107 => ?_) (fun c_107 => ?_)
            · refine r_inc (1) C dX5_amused_119 rfl (by decide) rfl rfl ?_
              refine r_goto 41 C dX5_amused_122 (by decide) ?_
              have ha : amu f (likes D k j) (k == a) = f := by
                unfold amu
                rw [show (k == a) = true from beq_iff_eq.mpr c_89, c_72]
                rfl
              rw [q3 k (by omega), cLt (x := nI (f)) (c := nI (hdF D t k)) (i := f) (n := hdF D t k) rfl rfl (by omega) (by have := hhd (by omega); omega)] at c_107
              exact (ih (by omega)).sub ⟨rfl, rfl, rfl, rfl, rfl, by rw [lset_f (show (amL D my t f j a) k = false by unfold amL; rw [ha, c_59, Bool.true_and]; exact decide_eq_false (by omega))]; rfl, by rw [nI_succ]; rfl, trivial⟩
            · refine r_iload C dX5_amused_110 rfl ?_
              refine r_iconst (1) C dX5_amused_112 rfl ?_
              refine r_iload C dX5_amused_113 rfl ?_
              refine r_ishl C dX5_amused_115 ?_
              refine r_ior C dX5_amused_116 ?_
              refine r_istore C dX5_amused_117 (by decide) rfl ?_
              refine r_inc (1) C dX5_amused_119 rfl (by decide) rfl rfl ?_
              refine r_goto 41 C dX5_amused_122 (by decide) ?_
              have ha : amu f (likes D k j) (k == a) = f := by
                unfold amu
                rw [show (k == a) = true from beq_iff_eq.mpr c_89, c_72]
                rfl
              rw [q3 k (by omega), cLt (x := nI (f)) (c := nI (hdF D t k)) (i := f) (n := hdF D t k) rfl rfl (by omega) (by have := hhd (by omega); omega)] at c_107
              exact (ih (by omega)).sub ⟨rfl, rfl, rfl, rfl, rfl, by rw [lset_t (by omega) (show (amL D my t f j a) k = true by unfold amL; rw [ha, c_59, Bool.true_and]; exact decide_eq_true (by omega))]; rfl, by rw [nI_succ]; rfl, trivial⟩
          · rw [cEq (x := nI k) (c := nI a) (i := k) (n := a) (rfl) (rfl) (by omega) (by omega)] at c_89
            refine r_iload C dX5_amused_92 rfl ?_
            refine r_iconst (2) C dX5_amused_94 rfl ?_
            refine r_idiv C dX5_amused_95 (by decide) ?_
            first | rw [show nI (f / 2) / 2 = nI (f / 2 / 2) from pk_div (by omega) (by decide) (by decide)] | rw [show nI f / 2 = nI (f / 2) from pk_div (by omega) (by decide) (by decide)]
            refine r_istore C dX5_amused_96 (by decide) rfl ?_
            refine r_iload C dX5_amused_98 rfl ?_
            refine r_aload_n C dX5_amused_100 rfl ?_
            refine r_getR C dX5_amused_101 flX5_18 (rfl) rfl ?_
            refine r_iload C dX5_amused_104 rfl ?_
            refine r_iald (k) C dX5_amused_106 (rfl) (rfl) (by omega) (by first | decide | omega) ?_
            refine r_icmp_lt 119 C dX5_amused_107 (by decide) (fun c_107 => ?_) (fun c_107 => ?_)
            · refine r_inc (1) C dX5_amused_119 rfl (by decide) rfl rfl ?_
              refine r_goto 41 C dX5_amused_122 (by decide) ?_
              have ha : amu f (likes D k j) (k == a) = f / 2 := by
                unfold amu
                rw [show (k == a) = false from beq_eq_false_iff_ne.mpr c_89, c_72]
                rfl
              rw [q3 k (by omega), cLt (x := nI (f / 2)) (c := nI (hdF D t k)) (i := f / 2) (n := hdF D t k) rfl rfl (by omega) (by have := hhd (by omega); omega)] at c_107
              exact (ih (by omega)).sub ⟨rfl, rfl, rfl, rfl, rfl, by rw [lset_f (show (amL D my t f j a) k = false by unfold amL; rw [ha, c_59, Bool.true_and]; exact decide_eq_false (by omega))]; rfl, by rw [nI_succ]; rfl, trivial⟩
            · refine r_iload C dX5_amused_110 rfl ?_
              refine r_iconst (1) C dX5_amused_112 rfl ?_
              refine r_iload C dX5_amused_113 rfl ?_
              refine r_ishl C dX5_amused_115 ?_
              refine r_ior C dX5_amused_116 ?_
              refine r_istore C dX5_amused_117 (by decide) rfl ?_
              refine r_inc (1) C dX5_amused_119 rfl (by decide) rfl rfl ?_
              refine r_goto 41 C dX5_amused_122 (by decide) ?_
              have ha : amu f (likes D k j) (k == a) = f / 2 := by
                unfold amu
                rw [show (k == a) = false from beq_eq_false_iff_ne.mpr c_89, c_72]
                rfl
              rw [q3 k (by omega), cLt (x := nI (f / 2)) (c := nI (hdF D t k)) (i := f / 2) (n := hdF D t k) rfl rfl (by omega) (by have := hhd (by omega); omega)] at c_107
              exact (ih (by omega)).sub ⟨rfl, rfl, rfl, rfl, rfl, by rw [lset_t (by omega) (show (amL D my t f j a) k = true by unfold amL; rw [ha, c_59, Bool.true_and]; exact decide_eq_true (by omega))]; rfl, by rw [nI_succ]; rfl, trivial⟩
      · have c_59 := tb_z c_59
        refine r_goto 119 C dX5_amused_62 (by decide) ?_
        refine r_inc (1) C dX5_amused_119 rfl (by decide) rfl rfl ?_
        refine r_goto 41 C dX5_amused_122 (by decide) ?_
        exact (ih (by omega)).sub ⟨rfl, rfl, rfl, rfl, rfl, by rw [lset_f (show (amL D my t f j a) k = false by unfold amL; rw [c_59, Bool.false_and])]; rfl, by rw [nI_succ]; rfl, trivial⟩
  refine r_aload_n C dX5_amused_0 rfl ?_
  refine r_getV (o) C dX5_amused_1 flX5_12 (rfl) rfl (q1) (by first | decide | omega) ?_
  refine r_iload_n C dX5_amused_4 rfl ?_
  refine r_aload_n C dX5_amused_5 rfl ?_
  refine r_getR C dX5_amused_6 flX5_22 (rfl) rfl ?_
  refine r_iload_n C dX5_amused_9 rfl ?_
  refine r_iald (j) C dX5_amused_10 (rfl) (rfl) (by omega) (by first | decide | omega) ?_
  rw [q4 j hj]
  refine r_cVi C F dX5_amused_11 (s0_wornFun hO hH (j := j) (t := tm j) hj htm) tw_440 m0_wornFun (hO.1) rfl (by decide) rfl (Nat.le_of_ble_eq_true rfl) ?_
  rw [hf]
  refine r_istore C dX5_amused_14 (by decide) rfl ?_
  refine r_aload_n C dX5_amused_16 rfl ?_
  refine r_getV (o) C dX5_amused_17 flX5_12 (rfl) rfl (q1) (by first | decide | omega) ?_
  refine r_getR C dX5_amused_20 flX5_48 (hO.1) rfl ?_
  refine r_aload_n C dX5_amused_23 rfl ?_
  refine r_getV (o) C dX5_amused_24 flX5_12 (rfl) rfl (q1) (by first | decide | omega) ?_
  refine r_getR C dX5_amused_27 flX5_51 (hO.1) rfl ?_
  refine r_iload_n C dX5_amused_30 rfl ?_
  refine r_iald (j) C dX5_amused_31 (hO.2.2.2.2.1) (rfl) (by omega) (by first | decide | omega) ?_
  rw [(eJ j hj).1]
  refine r_iald (dK D j) C dX5_amused_32 (hO.2.2.2.2.2.2.2) (rfl) (by omega) (by first | decide | omega) ?_
  rw [eF (dK D j) (by omega)]
  refine r_istore C dX5_amused_33 (by decide) rfl ?_
  refine r_iconst (0) C dX5_amused_35 rfl ?_
  refine r_istore C dX5_amused_36 (by decide) rfl ?_
  refine r_iconst (0) C dX5_amused_38 rfl ?_
  refine r_istore C dX5_amused_39 (by decide) rfl ?_
  exact (L 0 (by omega)).sub ⟨rfl, rfl, rfl, rfl, rfl, rfl, rfl, trivial⟩
