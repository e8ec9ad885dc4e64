variable {l : Launch} {E : Ev} {h : Hp}
def canT (D : HDt) (m i c : Nat) : Bool := decide (c / 10 < dJ D) && (decide (¬ c % 10 = i) && m.testBit (c % 10))
/-- what tryAll lays down -/
noncomputable def thT (D : HDt) (m t : Nat) (tm : Nat → Nat) (i c : Nat) : Int32 := if canT D m i c = true then nI (falF D m t tm i (c / 10) (c % 10)) else -1
theorem falF_64 {D : HDt} (q : okD D) (m t : Nat) (tm : Nat → Nat) (i j a : Nat) : falF D m t tm i j a < 64 := Nat.lt_of_lt_of_le (falF_lt q _ _ _ _ _ _) (Nat.pow_le_pow_right (n := 2) (by decide) q.1)
theorem nI_nm1 : ∀ n, n < 64 → ¬ nI n = -1 := by decide +kernel
set_option maxHeartbeats 4000000 in
theorem s5_tryAll {o t : Nat} {D : HDt} {tm : Nat → Nat} (hO : isH o) (ho : o ≤ 12) (hT : CT h o D t tm) {m i : Nat} (hm : m < 64) (hi : i < 6) (htm : ∀ j, tm j < 2147483648) : Sp l E SHP 4 M5_tryAll [.ref (E.1 + 36), .int (nI m), .int (nI i)] h (PD none (upr h 47 (fil (h 47) (thT D m t tm i) 60))) := by
  refine Sp.of (by decide) (Nat.le_of_ble_eq_true rfl) (fun X C F => ?_)
  have C : Ok X E RX5 cX5_tryAll 7 := C
  have F : Fn X l E SHP 4 none (PD none (upr h 47 (fil (h 47) (thT D m t tm i) 60))) := F
  show G X E SHP (0, 0) 0 [(0, .ref (E.1 + 36)), (1, .int (nI m)), (2, .int (nI i))] [] h
  have Lp : ∀ c, c ≤ 60 → G X E SHP (0, 0) 2 [(0, .ref (E.1 + 36)), (1, .int (nI m)), (2, .int (nI i)), (3, .int (nI c))] [] (upr h 47 (fil (h 47) (thT D m t tm i) c)) := by
    refine loopN 60 _ (fun c hc ih => ?_)
    have hT2 : CT (upr h 47 (fil (h 47) (thT D m t tm i) c)) o D t tm := CT_cg hT ho (fun a ha => upr_row _ _ _ (by omega))
    generalize hg : upr h 47 (fil (h 47) (thT D m t tm i) c) = g at hT2 ⊢
    obtain ⟨q1, hH, q3, q4⟩ := id hT2
    obtain ⟨okd, e1, e2, e3, e4, eL, eJ, eB, eF⟩ := id hH
    obtain ⟨o1, o2, o3, o4, o5, o6⟩ := id okd
    refine r_iload_n C dX5_tryAll_2 rfl ?_
    refine r_bipush (60) C dX5_tryAll_3 rfl ?_
    refine r_icmp_ge 85 C dX5_tryAll_5 (by decide) (fun c_5 => ?_) (fun c_5 => ?_)
    · rw [cLe (x := 60) (c := nI c) (i := 60) (n := c) (rfl) (rfl) (by omega) (by omega)] at c_5
      exact r_vret C F dX5_tryAll_85 (pd_v (by rw [← hg, show c = 60 by omega]))
    · rw [cLe (x := 60) (c := nI c) (i := 60) (n := c) (rfl) (rfl) (by omega) (by omega)] at c_5
      refine r_iload_n C dX5_tryAll_8 rfl ?_
      refine r_bipush (10) C dX5_tryAll_9 rfl ?_
      refine r_idiv C dX5_tryAll_11 (by decide) ?_
      rw [show nI c / 10 = nI (c / 10) from pk_div (by omega) (by decide) (by decide)]
      refine r_istore C dX5_tryAll_12 (by decide) rfl ?_
      refine r_iload_n C dX5_tryAll_14 rfl ?_
      refine r_bipush (10) C dX5_tryAll_15 rfl ?_
      refine r_irem C dX5_tryAll_17 (by decide) ?_
      rw [show nI c - nI c / 10 * 10 = nI (c % 10) from pk_rem (by omega) (by decide) (by decide)]
      refine r_istore C dX5_tryAll_18 (by decide) rfl ?_
      refine r_iload C dX5_tryAll_20 rfl ?_
      refine r_aload_n C dX5_tryAll_22 rfl ?_
      refine r_getV (o) C dX5_tryAll_23 flX5_12 (rfl) rfl (q1) (by first | decide | omega) ?_
      refine r_getI C dX5_tryAll_26 flX5_44 (hO.1) rfl ?_
      refine r_icmp_ge 51 C dX5_tryAll_29 (by decide) (fun c_29 => ?_) (fun c_29 => ?_)
      · rw [cLe (x := g o 4) (c := nI (c / 10)) (i := dJ D) (n := c / 10) (e4) (rfl) (by omega) (by omega)] at c_29
        refine r_iconst (0) C dX5_tryAll_51 rfl ?_
        refine r_istore C dX5_tryAll_52 (by decide) rfl ?_
        refine r_aload_n C dX5_tryAll_54 rfl ?_
        refine r_getR C dX5_tryAll_55 flX5_25 (rfl) rfl ?_
        refine r_iload_n C dX5_tryAll_58 rfl ?_
        refine r_iload C dX5_tryAll_59 rfl ?_
        refine r_if_eq 77 C dX5_tryAll_61 (by decide) (fun c_61 => ?_) (fun c_61 => ?_)
        · refine r_iconst (-1) C dX5_tryAll_77 rfl ?_
          refine r_iast (c) C dX5_tryAll_78 (rfl) (rfl) (by omega) (by first | decide | omega) ?_
          refine r_inc (1) C dX5_tryAll_79 rfl (by decide) rfl rfl ?_
          refine r_goto 2 C dX5_tryAll_82 (by decide) ?_
          have hct : canT D m i c = false := by unfold canT; rw [decide_eq_false (show ¬ c / 10 < dJ D by omega), Bool.false_and]
          refine (G.eq (ih (by omega)) rfl rfl ?_).sub ⟨rfl, rfl, rfl, by rw [nI_succ]; rfl, trivial⟩
          rw [← hg, up_upr]
          exact congrArg _ (fil_s (h 47) (thT D m t tm i) c (by unfold thT; rw [hct]; exact (if_neg (by decide)).symm))
        · exact absurd rfl c_61
      · rw [cLe (x := g o 4) (c := nI (c / 10)) (i := dJ D) (n := c / 10) (e4) (rfl) (by omega) (by omega)] at c_29
        refine r_iload C dX5_tryAll_32 rfl ?_
        refine r_iload_n C dX5_tryAll_34 rfl ?_
        refine r_icmp_eq 51 C dX5_tryAll_35 (by decide) (fun c_35 => ?_) (fun c_35 => ?_)
        · rw [cEq (x := nI (c % 10)) (c := nI i) (i := c % 10) (n := i) (rfl) (rfl) (by omega) (by omega)] at c_35
          refine r_iconst (0) C dX5_tryAll_51 rfl ?_
          refine r_istore C dX5_tryAll_52 (by decide) rfl ?_
          refine r_aload_n C dX5_tryAll_54 rfl ?_
          refine r_getR C dX5_tryAll_55 flX5_25 (rfl) rfl ?_
          refine r_iload_n C dX5_tryAll_58 rfl ?_
          refine r_iload C dX5_tryAll_59 rfl ?_
          refine r_if_eq 77 C dX5_tryAll_61 (by decide) (fun c_61 => ?_) (fun c_61 => ?_)
          · refine r_iconst (-1) C dX5_tryAll_77 rfl ?_
            refine r_iast (c) C dX5_tryAll_78 (rfl) (rfl) (by omega) (by first | decide | omega) ?_
            refine r_inc (1) C dX5_tryAll_79 rfl (by decide) rfl rfl ?_
            refine r_goto 2 C dX5_tryAll_82 (by decide) ?_
            have hct : canT D m i c = false := by unfold canT; rw [decide_eq_false (show ¬ ¬ c % 10 = i by omega), Bool.false_and, Bool.and_false]
            refine (G.eq (ih (by omega)) rfl rfl ?_).sub ⟨rfl, rfl, rfl, by rw [nI_succ]; rfl, trivial⟩
            rw [← hg, up_upr]
            exact congrArg _ (fil_s (h 47) (thT D m t tm i) c (by unfold thT; rw [hct]; exact (if_neg (by decide)).symm))
          · exact absurd rfl c_61
        · rw [cEq (x := nI (c % 10)) (c := nI i) (i := c % 10) (n := i) (rfl) (rfl) (by omega) (by omega)] at c_35
          refine r_iload_n C dX5_tryAll_38 rfl ?_
          refine r_iload C dX5_tryAll_39 rfl ?_
          refine r_ishr C dX5_tryAll_41 ?_
          refine r_iconst (1) C dX5_tryAll_42 rfl ?_
          refine r_iand C dX5_tryAll_43 ?_
          rw [bit_nI (by omega) (by omega)]
          refine r_if_eq 51 C dX5_tryAll_44 (by decide) (fun c_44 => ?_) (fun c_44 => ?_)
          · have c_44 := tb_z c_44
            refine r_iconst (0) C dX5_tryAll_51 rfl ?_
            refine r_istore C dX5_tryAll_52 (by decide) rfl ?_
            refine r_aload_n C dX5_tryAll_54 rfl ?_
            refine r_getR C dX5_tryAll_55 flX5_25 (rfl) rfl ?_
            refine r_iload_n C dX5_tryAll_58 rfl ?_
            refine r_iload C dX5_tryAll_59 rfl ?_
            refine r_if_eq 77 C dX5_tryAll_61 (by decide) (fun c_61 => ?_) (fun c_61 => ?_)
            · refine r_iconst (-1) C dX5_tryAll_77 rfl ?_
              refine r_iast (c) C dX5_tryAll_78 (rfl) (rfl) (by omega) (by first | decide | omega) ?_
              refine r_inc (1) C dX5_tryAll_79 rfl (by decide) rfl rfl ?_
              refine r_goto 2 C dX5_tryAll_82 (by decide) ?_
              have hct : canT D m i c = false := by unfold canT; rw [c_44, Bool.and_false, Bool.and_false]
              refine (G.eq (ih (by omega)) rfl rfl ?_).sub ⟨rfl, rfl, rfl, by rw [nI_succ]; rfl, trivial⟩
              rw [← hg, up_upr]
              exact congrArg _ (fil_s (h 47) (thT D m t tm i) c (by unfold thT; rw [hct]; exact (if_neg (by decide)).symm))
            · exact absurd rfl c_61
          · have c_44 := tb_n c_44
            refine r_iconst (1) C dX5_tryAll_47 rfl ?_
            refine r_goto 52 C dX5_tryAll_48 (by decide) ?_
            refine r_istore C dX5_tryAll_52 (by decide) rfl ?_
            refine r_aload_n C dX5_tryAll_54 rfl ?_
            refine r_getR C dX5_tryAll_55 flX5_25 (rfl) rfl ?_
            refine r_iload_n C dX5_tryAll_58 rfl ?_
            refine r_iload C dX5_tryAll_59 rfl ?_
            refine r_if_eq 77 C dX5_tryAll_61 (by decide) (fun c_61 => ?_) (fun c_61 => ?_)
            · exact absurd c_61 (by decide)
            · refine r_aload_n C dX5_tryAll_64 rfl ?_
              refine r_iload_n C dX5_tryAll_65 rfl ?_
              refine r_iload_n C dX5_tryAll_66 rfl ?_
              refine r_iload C dX5_tryAll_67 rfl ?_
              refine r_iload C dX5_tryAll_69 rfl ?_
              refine r_cVi C F dX5_tryAll_71 (s5_outBy hO ho hT2 (m := m) (i := i) (j := c / 10) (a := c % 10) hm hi (by omega) (by omega) (htm _)) tw_527 m5_outBy (rfl) rfl (by decide) rfl (Nat.le_of_ble_eq_true rfl) ?_
              refine r_goto 78 C dX5_tryAll_74 (by decide) ?_
              refine r_iast (c) C dX5_tryAll_78 (rfl) (rfl) (by omega) (by first | decide | omega) ?_
              refine r_inc (1) C dX5_tryAll_79 rfl (by decide) rfl rfl ?_
              refine r_goto 2 C dX5_tryAll_82 (by decide) ?_
              have hct : canT D m i c = true := by unfold canT; rw [c_44, decide_eq_true (show c / 10 < dJ D by omega), decide_eq_true c_35]; rfl
              refine (G.eq (ih (by omega)) rfl rfl ?_).sub ⟨rfl, rfl, rfl, by rw [nI_succ]; rfl, trivial⟩
              rw [← hg, up_upr]
              exact congrArg _ (fil_s (h 47) (thT D m t tm i) c (by unfold thT; rw [hct]; exact (if_pos rfl).symm))
  refine r_iconst (0) C dX5_tryAll_0 rfl ?_
  refine r_istore_n C dX5_tryAll_1 (by decide) rfl ?_
  exact (G.eq (Lp 0 (by decide)) rfl rfl (by rw [fil_0]; exact (upr_id rfl).symm)).sub ⟨rfl, rfl, rfl, rfl, trivial⟩
noncomputable def rF (D : HDt) (m t : Nat) (tm : Nat → Nat) (i j a : Nat) : Nat := if j < dJ D ∧ ¬ a = i ∧ m.testBit a = true then falF D m t tm i j a else 0
theorem thT_at {D : HDt} {m t : Nat} {tm : Nat → Nat} {i j a : Nat} (ha : a < 10) : thT D m t tm i (10 * j + a) = if j < dJ D ∧ ¬ a = i ∧ m.testBit a = true then nI (falF D m t tm i j a) else -1 := by
  unfold thT canT
  rw [show (10 * j + a) / 10 = j by omega, show (10 * j + a) % 10 = a by omega]
  by_cases c : j < dJ D ∧ ¬ a = i ∧ m.testBit a = true
  · rw [if_pos c, if_pos (by simp [c.1, c.2.1, c.2.2])]
  · rw [if_neg c, if_neg (by simp; exact fun h1 h2 => by cases hb : m.testBit a with | false => rfl | true => exact absurd ⟨h1, h2, hb⟩ c)]
theorem rF_lt {D : HDt} (q : okD D) (m t : Nat) (tm : Nat → Nat) (i j a : Nat) : rF D m t tm i j a < 2 ^ 6 := by
  unfold rF
  split
  · exact falF_64 q _ _ _ _ _ _
  · decide
set_option maxHeartbeats 4000000 in
theorem s5_reachOf {D : HDt} {m t : Nat} {tm : Nat → Nat} {i : Nat} (okd : okD D) (hV : ∀ c, c < 60 → h 47 c = thT D m t tm i c) {j : Nat} (hj : j < 6) : Sp l E SHP 0 M5_reachOf [.ref (E.1 + 36), .int (nI j)] h (PD (some (.int (nI (orN (rF D m t tm i j) 6)))) h) := by
  refine Sp.of (by decide) (Nat.le_of_ble_eq_true rfl) (fun X C F => ?_)
  have C : Ok X E RX5 cX5_reachOf 5 := C
  have F : Fn X l E SHP 0 (some FieldType.int) (PD (some (.int (nI (orN (rF D m t tm i j) 6)))) h) := F
  show G X E SHP (0, 0) 0 [(0, .ref (E.1 + 36)), (1, .int (nI j))] [] h
  have Lp : ∀ k, k ≤ 6 → G X E SHP (0, 0) 4 [(0, .ref (E.1 + 36)), (1, .int (nI j)), (2, .int (nI (orN (rF D m t tm i j) k))), (3, .int (nI k))] [] h := by
    refine loopN 6 _ (fun k hk ih => ?_)
    refine r_iload_n C dX5_reachOf_4 rfl ?_
    refine r_bipush (6) C dX5_reachOf_5 rfl ?_
    refine r_icmp_ge 40 C dX5_reachOf_7 (by decide) (fun c_7 => ?_) (fun c_7 => ?_)
    · rw [cLe (x := 6) (c := nI k) (i := 6) (n := k) (rfl) (rfl) (by omega) (by omega)] at c_7
      refine r_iload_n C dX5_reachOf_40 rfl ?_
      exact r_iret C F dX5_reachOf_41 (pd_i (by rw [show k = 6 by omega]) (rfl))
    · rw [cLe (x := 6) (c := nI k) (i := 6) (n := k) (rfl) (rfl) (by omega) (by omega)] at c_7
      refine r_aload_n C dX5_reachOf_10 rfl ?_
      refine r_getR C dX5_reachOf_11 flX5_25 (rfl) rfl ?_
      refine r_bipush (10) C dX5_reachOf_14 rfl ?_
      refine r_iload_n C dX5_reachOf_16 rfl ?_
      refine r_imul C dX5_reachOf_17 ?_
      refine r_iload_n C dX5_reachOf_18 rfl ?_
      refine r_iadd C dX5_reachOf_19 ?_
      rw [show (10 : Int32) * nI j = nI (10 * j) from pk_mul 10 j, show nI (10 * j) + nI k = nI (10 * j + k) from nI_add _ _]
      refine r_iald (10 * j + k) C dX5_reachOf_20 (rfl) (rfl) (by omega) (by first | decide | omega) ?_
      refine r_istore C dX5_reachOf_21 (by decide) rfl ?_
      refine r_iload C dX5_reachOf_23 rfl ?_
      refine r_iconst (-1) C dX5_reachOf_25 rfl ?_
      refine r_icmp_eq 34 C dX5_reachOf_26 (by decide) (fun c_26 => ?_) (fun c_26 => ?_)
      · refine r_inc (1) C dX5_reachOf_34 rfl (by decide) rfl rfl ?_
        refine r_goto 4 C dX5_reachOf_37 (by decide) ?_
        have hz : (rF D m t tm i j) k = 0 := by
          unfold rF
          rw [hV _ (by omega), thT_at (by omega)] at c_26
          split
          · rename_i c
            rw [if_pos c] at c_26
            exact absurd c_26 (nI_nm1 _ (falF_64 okd _ _ _ _ _ _))
          · rfl
        exact (ih (by omega)).sub ⟨rfl, rfl, by show _ = some (Value.int (nI (orN (rF D m t tm i j) k ||| (rF D m t tm i j) k))); rw [hz, Nat.or_zero]; rfl, by rw [nI_succ]; rfl, trivial⟩
      · refine r_iload_n C dX5_reachOf_29 rfl ?_
        refine r_iload C dX5_reachOf_30 rfl ?_
        refine r_ior C dX5_reachOf_32 ?_
        refine r_istore_n C dX5_reachOf_33 (by decide) rfl ?_
        refine r_inc (1) C dX5_reachOf_34 rfl (by decide) rfl rfl ?_
        refine r_goto 4 C dX5_reachOf_37 (by decide) ?_
        have hz : h 47 (10 * j + k) = nI ((rF D m t tm i j) k) := by
          unfold rF
          rw [hV _ (by omega), thT_at (by omega)] at c_26 ⊢
          split
          · rfl
          · rename_i c
            rw [if_neg c] at c_26
            exact absurd rfl c_26
        exact (ih (by omega)).sub ⟨rfl, rfl, by show _ = some (Value.int (nI (orN (rF D m t tm i j) k ||| (rF D m t tm i j) k))); rw [← nx_or, ← hz]; rfl, by rw [nI_succ]; rfl, trivial⟩
  refine r_iconst (0) C dX5_reachOf_0 rfl ?_
  refine r_istore_n C dX5_reachOf_1 (by decide) rfl ?_
  refine r_iconst (0) C dX5_reachOf_2 rfl ?_
  refine r_istore_n C dX5_reachOf_3 (by decide) rfl ?_
  exact (Lp 0 (by decide)).sub ⟨rfl, rfl, rfl, rfl, trivial⟩
set_option maxHeartbeats 4000000 in
theorem s5_reachOfAll {o : Nat} {D : HDt} (hO : isH o) (hH : CHl h o D) {m t : Nat} {tm : Nat → Nat} {i : Nat} (ho : o ≤ 12) (q1 : h 36 0 = nI o) (hV : ∀ c, c < 60 → h 47 c = thT D m t tm i c) {s : Nat} (hs : s < 64) : Sp l E SHP 1 M5_reachOfAll [.ref (E.1 + 36), .int (nI s)] h (PD (some (.int (nI (orN (fun j => if s.testBit j = true then orN (rF D m t tm i j) 6 else 0) (dJ D))))) h) := by
  refine Sp.of (by decide) (Nat.le_of_ble_eq_true rfl) (fun X C F => ?_)
  have C : Ok X E RX5 cX5_reachOfAll 4 := C
  have F : Fn X l E SHP 1 (some FieldType.int) (PD (some (.int (nI (orN (fun j => if s.testBit j = true then orN (rF D m t tm i j) 6 else 0) (dJ D))))) h) := F
  show G X E SHP (0, 0) 0 [(0, .ref (E.1 + 36)), (1, .int (nI s))] [] h
  obtain ⟨okd, e1, e2, e3, e4, eL, eJ, eB, eF⟩ := id hH
  obtain ⟨o1, o2, o3, o4, o5, o6⟩ := id okd
  have Lp : ∀ k, k ≤ dJ D → G X E SHP (0, 0) 4 [(0, .ref (E.1 + 36)), (1, .int (nI s)), (2, .int (nI (orN (fun j => if s.testBit j = true then orN (rF D m t tm i j) 6 else 0) k))), (3, .int (nI k))] [] h := by
    refine loopN (dJ D) _ (fun k hk ih => ?_)
    refine r_iload_n C dX5_reachOfAll_4 rfl ?_
    refine r_aload_n C dX5_reachOfAll_5 rfl ?_
    refine r_getV (o) C dX5_reachOfAll_6 flX5_12 (rfl) rfl (q1) (by first | decide | omega) ?_
    refine r_getI C dX5_reachOfAll_9 flX5_44 (hO.1) rfl ?_
    refine r_icmp_ge 37 C dX5_reachOfAll_12 (by decide) (fun c_12 => ?_) (fun c_12 => ?_)
    · rw [cLe (x := h o 4) (c := nI k) (i := dJ D) (n := k) (e4) (rfl) (by omega) (by omega)] at c_12
      refine r_iload_n C dX5_reachOfAll_37 rfl ?_
      exact r_iret C F dX5_reachOfAll_38 (pd_i (by rw [show k = dJ D by omega]) (rfl))
    · rw [cLe (x := h o 4) (c := nI k) (i := dJ D) (n := k) (e4) (rfl) (by omega) (by omega)] at c_12
      refine r_iload_n C dX5_reachOfAll_15 rfl ?_
      refine r_iload_n C dX5_reachOfAll_16 rfl ?_
      refine r_ishr C dX5_reachOfAll_17 ?_
      refine r_iconst (1) C dX5_reachOfAll_18 rfl ?_
      refine r_iand C dX5_reachOfAll_19 ?_
      rw [bit_nI (by omega) (by omega)]
      refine r_if_eq 31 C dX5_reachOfAll_20 (by decide) (fun c_20 => ?_) (fun c_20 => ?_)
      · have c_20 := tb_z c_20
        refine r_inc (1) C dX5_reachOfAll_31 rfl (by decide) rfl rfl ?_
        refine r_goto 4 C dX5_reachOfAll_34 (by decide) ?_
        exact (ih (by omega)).sub ⟨rfl, rfl, by show _ = some (Value.int (nI (orN (fun j => if s.testBit j = true then orN (rF D m t tm i j) 6 else 0) k ||| (if s.testBit k = true then orN (rF D m t tm i k) 6 else 0)))); rw [if_neg (by rw [c_20]; decide), Nat.or_zero]; rfl, by rw [nI_succ]; rfl, trivial⟩
      · have c_20 := tb_n c_20
        refine r_iload_n C dX5_reachOfAll_23 rfl ?_
        refine r_aload_n C dX5_reachOfAll_24 rfl ?_
        refine r_iload_n C dX5_reachOfAll_25 rfl ?_
        refine r_cVi C F dX5_reachOfAll_26 (s5_reachOf okd hV (j := k) (by omega)) tw_573 m5_reachOf (rfl) rfl (by decide) rfl (Nat.le_of_ble_eq_true rfl) ?_
        refine r_ior C dX5_reachOfAll_29 ?_
        refine r_istore_n C dX5_reachOfAll_30 (by decide) rfl ?_
        refine r_inc (1) C dX5_reachOfAll_31 rfl (by decide) rfl rfl ?_
        refine r_goto 4 C dX5_reachOfAll_34 (by decide) ?_
        exact (ih (by omega)).sub ⟨rfl, rfl, by show _ = some (Value.int (nI (orN (fun j => if s.testBit j = true then orN (rF D m t tm i j) 6 else 0) k ||| (if s.testBit k = true then orN (rF D m t tm i k) 6 else 0)))); rw [if_pos c_20, ← nx_or]; rfl, by rw [nI_succ]; rfl, trivial⟩
  refine r_iconst (0) C dX5_reachOfAll_0 rfl ?_
  refine r_istore_n C dX5_reachOfAll_1 (by decide) rfl ?_
  refine r_iconst (0) C dX5_reachOfAll_2 rfl ?_
  refine r_istore_n C dX5_reachOfAll_3 (by decide) rfl ?_
  exact (Lp 0 (Nat.zero_le _)).sub ⟨rfl, rfl, rfl, rfl, trivial⟩
