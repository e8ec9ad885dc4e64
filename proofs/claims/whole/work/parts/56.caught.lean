variable {l : Launch} {E : Ev} {h : Hp}
/-- the lords of a bench -/
def bn (D : HDt) (b : Nat) : Nat := lset (fun i => dB D i == b) (dL D)
theorem bn_bit {D : HDt} {b k : Nat} : (bn D b).testBit k = true ↔ k < dL D ∧ dB D k = b := by
  unfold bn
  rw [lset_bit, Bool.and_eq_true, decide_eq_true_eq, beq_iff_eq]
theorem bn_lt {D : HDt} (o1 : dL D ≤ 6) (b : Nat) : bn D b < 64 := Nat.lt_of_lt_of_le (lset_lt _ _) (Nat.pow_le_pow_right (n := 2) (by decide) o1)
/-- what caughtOn comes to -/
def CO (D : HDt) (t my b x r : Nat) : Prop := r < 64 ∧ sub (x &&& bn D b) r ∧ sub r (bn D b) ∧ (∀ i, i < dL D → dB D i = b → my.testBit i = true → r.testBit i = false → ¬ hdF D t i ≤ 3 * pc r 6) ∧ ∀ Y, sub (x &&& bn D b) Y → Closed D t my Y → sub r Y
theorem pc_bes {D : HDt} {b i r : Nat} (o1 : dL D ≤ 6) (hr : sub r (bn D b)) (hi : dB D i = b) : pc r 6 = besN D r i := by
  unfold besN
  rw [cnt_pc]
  refine cnt_ext 6 o1 (fun k _ => ?_)
  cases hk : r.testBit k with
  | false => simp
  | true =>
    obtain ⟨z1, z2⟩ := bn_bit.mp (hr k hk)
    simp [z1, z2, hi]
theorem pc_lt : ∀ a, a < 64 → ∀ m, m < 64 → ¬ m = 0 → a &&& m = 0 → pc a 6 < pc (a ||| m) 6 := by decide +kernel
theorem pc_pos : ∀ a, a < 64 → ¬ a = 0 → 1 ≤ pc a 6 := by decide +kernel
/-- who catches it next -/
def moB (D : HDt) (t my b a : Nat) : Nat → Bool := fun i => (nd (bn D b &&& my) a).testBit i && decide (hdF D t i ≤ 3 * pc a 6)
theorem mo_bit {D : HDt} {t my b a k : Nat} : (lset (moB D t my b a) (dL D)).testBit k = true ↔ k < dL D ∧ dB D k = b ∧ my.testBit k = true ∧ a.testBit k = false ∧ hdF D t k ≤ 3 * pc a 6 := by
  rw [lset_bit]
  unfold moB
  rw [Bool.and_eq_true, decide_eq_true_eq, Bool.and_eq_true, decide_eq_true_eq, nd_bit, Bool.and_eq_true, Nat.testBit_and, Bool.and_eq_true, bn_bit, Bool.not_eq_true']
  constructor
  · rintro ⟨a1, ⟨⟨⟨a2, a3⟩, a4⟩, a5⟩, a6⟩; exact ⟨a1, a3, a4, a5, a6⟩
  · rintro ⟨a1, a3, a4, a5, a6⟩; exact ⟨a1, ⟨⟨⟨a1, a3⟩, a4⟩, a5⟩, a6⟩
theorem mo_in {D : HDt} {t my b a x : Nat} (o1 : dL D ≤ 6) (h2 : sub a (bn D b)) (h3 : ∀ Y, sub (x &&& bn D b) Y → Closed D t my Y → sub a Y) : ∀ Y, sub (x &&& bn D b) Y → Closed D t my Y → sub (a ||| lset (moB D t my b a) (dL D)) Y := by
  intro Y y1 y2 k hk
  rw [Nat.testBit_or, Bool.or_eq_true] at hk
  rcases hk with c | c
  · exact h3 Y y1 y2 k c
  · obtain ⟨z1, z2, z3, z4, z5⟩ := mo_bit.mp c
    cases hY : Y.testBit k with
    | true => rfl
    | false =>
      refine absurd ?_ (y2 k z1 z3 hY)
      rw [pc_bes o1 h2 z2] at z5
      exact Nat.le_trans z5 (Nat.mul_le_mul_left 3 (bes_mono (h3 Y y1 y2)))
theorem bit_ne {m : Nat} (q : ¬ m = 0) : ∃ k, m.testBit k = true := Nat.exists_testBit_of_ne_zero q
theorem bit_0 {m : Nat} (q : m = 0) (k : Nat) : m.testBit k = false := by rw [q, Nat.zero_testBit]
set_option maxHeartbeats 4000000 in
theorem s5_caughtOn {o t : Nat} {D : HDt} {tm : Nat → Nat} (hO : isH o) (ho : o ≤ 12) (hT : CT h o D t tm) {my x b : Nat} (hmy : my < 64) (hx : x < 64) (hne : ¬ x &&& bn D b = 0) : Sp l E SHP 1 M5_caughtOn [.ref (E.1 + 36), .int (nI (bn D b)), .int (nI x), .int (nI my)] h (fun v g => g = h ∧ ∃ r, v = some (.int (nI r)) ∧ CO D t my b x r) := by
  refine Sp.of (by decide) (Nat.le_of_ble_eq_true rfl) (fun X C F => ?_)
  have C : Ok X E RX5 cX5_caughtOn 10 := C
  have F : Fn X l E SHP 1 (some FieldType.int) (fun v g => g = h ∧ ∃ r, v = some (.int (nI r)) ∧ CO D t my b x r) := F
  show G X E SHP (0, 0) 0 [(0, .ref (E.1 + 36)), (1, .int (nI (bn D b))), (2, .int (nI x)), (3, .int (nI my))] [] h
  obtain ⟨q1, hH, q3, q4⟩ := id hT
  obtain ⟨okd, e1, e2, e3, e4, eL, eJ, eB, eF⟩ := id hH
  obtain ⟨o1, o2, o3, o4, o5, o6⟩ := id okd
  have hbn := bn_lt o1 b
  have Lp : ∀ r, r ≤ 6 → ∀ a, a < 64 → sub (x &&& bn D b) a → sub a (bn D b) → (∀ Y, sub (x &&& bn D b) Y → Closed D t my Y → sub a Y) → r + 1 ≤ pc a 6 → G X E SHP (0, 0) 8 [(0, .ref (E.1 + 36)), (1, .int (nI (bn D b))), (3, .int (nI my)), (4, .int (nI a)), (5, .int (nI r))] [] h := by
    refine loopN 6 _ (fun r hr ih a ha h1 h2 h3 h4 => ?_)
    have hp6 := pc_le a 6
    have hnd : nd (bn D b &&& my) a < 64 := nd_lt (n := 6) (Nat.and_lt_two_pow _ hmy)
    have hml : lset (moB D t my b a) (dL D) < 64 := Nat.lt_of_lt_of_le (lset_lt _ _) (Nat.pow_le_pow_right (n := 2) (by decide) o1)
    have Lq : ∀ k, k ≤ dL D → G X E SHP (0, 0) 40 [(0, .ref (E.1 + 36)), (1, .int (nI (bn D b))), (3, .int (nI my)), (4, .int (nI a)), (5, .int (nI r)), (6, .int (nI (3 * pc a 6))), (7, .int (nI (lset (moB D t my b a) k))), (8, .int (nI (nd (bn D b &&& my) a))), (9, .int (nI k))] [] h := by
      refine loopN (dL D) _ (fun k hk ih2 => ?_)
      have hhd : k < dL D → hdF D t k ≤ 20 := fun z => hdF_le okd z
      refine r_iload C dX5_caughtOn_40 rfl ?_
      refine r_aload_n C dX5_caughtOn_42 rfl ?_
      refine r_getV (o) C dX5_caughtOn_43 flX5_12 (rfl) rfl (q1) (by first | decide | omega) ?_
      refine r_getI C dX5_caughtOn_46 flX5_31 (hO.1) rfl ?_
      refine r_icmp_ge 89 C dX5_caughtOn_49 (by decide) (fun c_49 => ?_) (fun c_49 => ?_)
      · rw [cLe (x := h o 3) (c := nI k) (i := dL D) (n := k) (e3) (rfl) (by omega) (by omega)] at c_49
        have hk2 : k = dL D := by omega
        subst hk2
        refine r_iload C dX5_caughtOn_89 rfl ?_
        refine r_if_ne 97 C dX5_caughtOn_91 (by decide) (fun c_91 => ?_) (fun c_91 => ?_)
        · have c_91 : ¬ lset (moB D t my b a) (dL D) = 0 := fun z => c_91 (by rw [z]; rfl)
          refine r_iload C dX5_caughtOn_97 rfl ?_
          refine r_iload C dX5_caughtOn_99 rfl ?_
          refine r_ior C dX5_caughtOn_101 ?_
          refine r_istore C dX5_caughtOn_102 (by decide) rfl ?_
          refine r_inc (1) C dX5_caughtOn_104 rfl (by decide) rfl rfl ?_
          refine r_goto 8 C dX5_caughtOn_107 (by decide) ?_
          refine (ih ?_ (a ||| lset (moB D t my b a) (dL D)) (Nat.or_lt_two_pow (n := 6) ha hml) ?_ ?_ (mo_in o1 h2 h3) ?_).sub ⟨rfl, rfl, rfl, by rw [← nx_or]; rfl, by rw [nI_succ]; rfl, trivial⟩
          · omega
          · intro k hk; rw [Nat.testBit_or, h1 k hk, Bool.true_or]
          · intro k hk
            rw [Nat.testBit_or, Bool.or_eq_true] at hk
            rcases hk with c | c
            · exact h2 k c
            · obtain ⟨z1, z2, -⟩ := mo_bit.mp c
              exact bn_bit.mpr ⟨z1, z2⟩
          · have := pc_lt a ha _ hml c_91 (Nat.eq_of_testBit_eq fun k => by
              rw [Nat.testBit_and, Nat.zero_testBit]
              cases hm : (lset (moB D t my b a) (dL D)).testBit k with
              | false => rw [Bool.and_false]
              | true => rw [(mo_bit.mp hm).2.2.2.1, Bool.false_and])
            omega
        · have c_91 := nI_z (by omega) c_91
          refine r_goto 110 C dX5_caughtOn_94 (by decide) ?_
          refine (show G X E SHP (0, 0) 110 [(4, .int (nI a))] [] h from ?_).sub ⟨rfl, trivial⟩
          refine r_iload C dX5_caughtOn_110 rfl ?_
          refine r_iret C F dX5_caughtOn_112 ⟨rfl, a, rfl, ha, h1, h2, fun i y1 y2 y3 y4 y5 => ?_, h3⟩
          have := mo_bit.mpr ⟨y1, y2, y3, y4, y5⟩
          rw [bit_0 c_91] at this
          cases this
      · rw [cLe (x := h o 3) (c := nI k) (i := dL D) (n := k) (e3) (rfl) (by omega) (by omega)] at c_49
        refine r_iload C dX5_caughtOn_52 rfl ?_
        refine r_iload C dX5_caughtOn_54 rfl ?_
        refine r_ishr C dX5_caughtOn_56 ?_
        refine r_iconst (1) C dX5_caughtOn_57 rfl ?_
        refine r_iand C dX5_caughtOn_58 ?_
        rw [bit_nI (by omega) (by omega)]
        refine r_if_eq 83 C dX5_caughtOn_59 (by decide) (fun c_59 => ?_) (fun c_59 => ?_)
        · have c_59 := tb_z c_59
          refine r_inc (1) C dX5_caughtOn_83 rfl (by decide) rfl rfl ?_
          refine r_goto 40 C dX5_caughtOn_86 (by decide) ?_
          exact (ih2 (by omega)).sub ⟨rfl, rfl, rfl, rfl, rfl, rfl, by rw [lset_f (show (moB D t my b a) k = false by unfold moB; rw [c_59, Bool.false_and])]; rfl, rfl, by rw [nI_succ]; rfl, trivial⟩
        · have c_59 := tb_n c_59
          refine r_iload C dX5_caughtOn_62 rfl ?_
          refine r_aload_n C dX5_caughtOn_64 rfl ?_
          refine r_getR C dX5_caughtOn_65 flX5_18 (rfl) rfl ?_
          refine r_iload C dX5_caughtOn_68 rfl ?_
          refine r_iald (k) C dX5_caughtOn_70 (rfl) (rfl) (by omega) (by first | decide | omega) ?_
          refine r_icmp_lt 83 C dX5_caughtOn_71 (by decide) (fun c_71 => ?_) (fun c_71 => ?_)
          · refine r_inc (1) C dX5_caughtOn_83 rfl (by decide) rfl rfl ?_
            refine r_goto 40 C dX5_caughtOn_86 (by decide) ?_
            rw [q3 k (by omega), cLt (x := nI (3 * pc a 6)) (c := nI (hdF D t k)) (i := 3 * pc a 6) (n := hdF D t k) rfl rfl (by omega) (by have := hhd (by omega); omega)] at c_71
            exact (ih2 (by omega)).sub ⟨rfl, rfl, rfl, rfl, rfl, rfl, by rw [lset_f (show (moB D t my b a) k = false by unfold moB; rw [c_59, Bool.true_and]; exact decide_eq_false (by omega))]; rfl, rfl, by rw [nI_succ]; rfl, trivial⟩
          · refine r_iload C dX5_caughtOn_74 rfl ?_
            refine r_iconst (1) C dX5_caughtOn_76 rfl ?_
            refine r_iload C dX5_caughtOn_77 rfl ?_
            refine r_ishl C dX5_caughtOn_79 ?_
            refine r_ior C dX5_caughtOn_80 ?_
            refine r_istore C dX5_caughtOn_81 (by decide) rfl ?_
            refine r_inc (1) C dX5_caughtOn_83 rfl (by decide) rfl rfl ?_
            refine r_goto 40 C dX5_caughtOn_86 (by decide) ?_
            rw [q3 k (by omega), cLt (x := nI (3 * pc a 6)) (c := nI (hdF D t k)) (i := 3 * pc a 6) (n := hdF D t k) rfl rfl (by omega) (by have := hhd (by omega); omega)] at c_71
            exact (ih2 (by omega)).sub ⟨rfl, rfl, rfl, rfl, rfl, rfl, by rw [lset_t (by omega) (show (moB D t my b a) k = true by unfold moB; rw [c_59, Bool.true_and]; exact decide_eq_true (by omega))]; rfl, rfl, by rw [nI_succ]; rfl, trivial⟩
    refine r_iload C dX5_caughtOn_8 rfl ?_
    refine r_bipush (6) C dX5_caughtOn_10 rfl ?_
    refine r_icmp_ge 110 C dX5_caughtOn_12 (by decide) (fun c_12 => ?_) (fun c_12 => ?_)
    · exact absurd ((cLe (x := 6) (c := nI r) (i := 6) (n := r) rfl rfl (by omega) (by omega)).mp c_12) (by omega)
    · refine r_iconst (3) C dX5_caughtOn_15 rfl ?_
      refine r_iload C dX5_caughtOn_16 rfl ?_
      refine r_cSi C F dX5_caughtOn_18 (sJ6_bitCount ha) tw_435 mJ6_bitCount (by decide) rfl (Nat.le_of_ble_eq_true rfl) ?_
      refine r_imul C dX5_caughtOn_21 ?_
      rw [nI_lit3]
      refine r_istore C dX5_caughtOn_22 (by decide) rfl ?_
      refine r_iconst (0) C dX5_caughtOn_24 rfl ?_
      refine r_istore C dX5_caughtOn_25 (by decide) rfl ?_
      refine r_iload_n C dX5_caughtOn_27 rfl ?_
      refine r_iload_n C dX5_caughtOn_28 rfl ?_
      refine r_iand C dX5_caughtOn_29 ?_
      refine r_iload C dX5_caughtOn_30 rfl ?_
      refine r_iconst (-1) C dX5_caughtOn_32 rfl ?_
      refine r_ixor C dX5_caughtOn_33 ?_
      refine r_iand C dX5_caughtOn_34 ?_
      rw [nx_and, nx_nd]
      refine r_istore C dX5_caughtOn_35 (by decide) rfl ?_
      refine r_iconst (0) C dX5_caughtOn_37 rfl ?_
      refine r_istore C dX5_caughtOn_38 (by decide) rfl ?_
      exact (Lq 0 (by omega)).sub ⟨rfl, rfl, rfl, rfl, rfl, rfl, rfl, rfl, rfl, trivial⟩
  refine r_iload_n C dX5_caughtOn_0 rfl ?_
  refine r_iload_n C dX5_caughtOn_1 rfl ?_
  refine r_iand C dX5_caughtOn_2 ?_
  rw [nx_and]
  refine r_istore C dX5_caughtOn_3 (by decide) rfl ?_
  refine r_iconst (0) C dX5_caughtOn_5 rfl ?_
  refine r_istore C dX5_caughtOn_6 (by decide) rfl ?_
  exact (Lp 0 (by decide) (x &&& bn D b) (Nat.and_lt_two_pow (n := 6) _ hbn) (sub_rfl _) (fun k hk => by rw [Nat.testBit_and, Bool.and_eq_true] at hk; exact hk.2) (fun Y y _ => y) (pc_pos _ (Nat.and_lt_two_pow (n := 6) _ hbn) hne)).sub ⟨rfl, rfl, rfl, rfl, rfl, trivial⟩
