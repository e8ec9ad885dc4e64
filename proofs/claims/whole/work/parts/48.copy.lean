variable {l : Launch} {E : Ev} {h : Hp}
/-- the class's row of a moment -/
def MomC (f : Nat → Int32) (u : Mom) : Prop := f 0 = nI (mI u) ∧ f 1 = nI (mN u) ∧ f 2 = nI (mT u) ∧ f 3 = nI (mL u) ∧ (∀ i, i < 6 → f (4 + i) = mO u i) ∧ ∀ j, j < 6 → f (10 + j) = nI (mM u j)
set_option maxHeartbeats 4000000 in
theorem s2_copyFrom {a b N : Nat} {u : Mom} (ha : SHP[a]? = some (.inr (0, N))) (hN : N ≤ 1000) (hb : b + 16 ≤ N) (ne : a ≠ 20 ∧ a ≠ 21 ∧ a ≠ 22) (hC : MomC (fun k => h a (b + k)) u) : Sp l E SHP 2 M2_copyFrom [.ref (E.1 + 20), .ref (E.1 + a), .int (nI b)] h (QU h u) := by
  refine Sp.of (by decide) (Nat.le_of_ble_eq_true rfl) (fun X C F => ?_)
  have C : Ok X E RX2 cX2_copyFrom 3 := C
  have F : Fn X l E SHP 2 none (QU h u) := F
  show G X E SHP (0, 0) 0 [(0, .ref (E.1 + 20)), (1, .ref (E.1 + a)), (2, .int (nI b))] [] h
  refine r_iload_n C dX2_copyFrom_0 rfl ?_
  refine r_if_lt 13 C dX2_copyFrom_1 (by decide) (fun c_1 => ?_) (fun c_1 => ?_)
  · exact absurd c_1 (Int32.not_lt.mpr ((nI_leI (a := 0) (by decide) (by omega)).mpr (Nat.zero_le _)))
  · refine r_iload_n C dX2_copyFrom_4 rfl ?_
    refine r_bipush (16) C dX2_copyFrom_5 rfl ?_
    refine r_iadd C dX2_copyFrom_7 ?_
    rw [show nI b + 16 = nI (b + 16) from nI_add b 16]
    refine r_aload_n C dX2_copyFrom_8 rfl ?_
    refine r_alen (ty := 0) (nI (N)) C dX2_copyFrom_9 (ha) rfl ?_
    refine r_icmp_le 14 C dX2_copyFrom_10 (by decide) (fun c_10 => ?_) (fun c_10 => ?_)
    · refine r_aload_n C dX2_copyFrom_14 rfl ?_
      refine r_aload_n C dX2_copyFrom_15 rfl ?_
      refine r_iload_n C dX2_copyFrom_16 rfl ?_
      have hz : b < N := by omega
      refine r_iald (b) C dX2_copyFrom_17 (ha) (rfl) (by omega) (by first | decide | omega) ?_
      refine r_putI C dX2_copyFrom_18 fwX2_18 (rfl) rfl ?_
      refine r_aload_n C dX2_copyFrom_21 rfl ?_
      refine r_aload_n C dX2_copyFrom_22 rfl ?_
      refine r_iload_n C dX2_copyFrom_23 rfl ?_
      refine r_iconst (1) C dX2_copyFrom_24 rfl ?_
      refine r_iadd C dX2_copyFrom_25 ?_
      refine r_iald (b + 1) C dX2_copyFrom_26 (ha) (nI_add b 1) (by omega) (by first | decide | omega) ?_
      refine r_putI C dX2_copyFrom_27 fwX2_22 (rfl) rfl ?_
      refine r_aload_n C dX2_copyFrom_30 rfl ?_
      refine r_aload_n C dX2_copyFrom_31 rfl ?_
      refine r_iload_n C dX2_copyFrom_32 rfl ?_
      refine r_iconst (2) C dX2_copyFrom_33 rfl ?_
      refine r_iadd C dX2_copyFrom_34 ?_
      refine r_iald (b + 2) C dX2_copyFrom_35 (ha) (nI_add b 2) (by omega) (by first | decide | omega) ?_
      refine r_putI C dX2_copyFrom_36 fwX2_25 (rfl) rfl ?_
      refine r_aload_n C dX2_copyFrom_39 rfl ?_
      refine r_aload_n C dX2_copyFrom_40 rfl ?_
      refine r_iload_n C dX2_copyFrom_41 rfl ?_
      refine r_iconst (3) C dX2_copyFrom_42 rfl ?_
      refine r_iadd C dX2_copyFrom_43 ?_
      refine r_iald (b + 3) C dX2_copyFrom_44 (ha) (nI_add b 3) (by omega) (by first | decide | omega) ?_
      refine r_putI C dX2_copyFrom_45 fwX2_28 (rfl) rfl ?_
      refine r_aload_n C dX2_copyFrom_48 rfl ?_
      refine r_iload_n C dX2_copyFrom_49 rfl ?_
      refine r_iconst (4) C dX2_copyFrom_50 rfl ?_
      refine r_iadd C dX2_copyFrom_51 ?_
      refine r_aload_n C dX2_copyFrom_52 rfl ?_
      refine r_getR C dX2_copyFrom_53 flX2_9 (rfl) rfl ?_
      refine r_iconst (0) C dX2_copyFrom_56 rfl ?_
      refine r_bipush (6) C dX2_copyFrom_57 rfl ?_
      refine r_acp (b + 4) (0) (6) C F dX2_copyFrom_59 tw_457 ha rfl (show nI b + 4 = nI (b + 4) from nI_add b 4) rfl rfl (by omega) (by decide) (by omega) (by decide) (by decide) (Nat.le_of_ble_eq_true rfl) ?_
      refine r_aload_n C dX2_copyFrom_62 rfl ?_
      refine r_iload_n C dX2_copyFrom_63 rfl ?_
      refine r_iconst (4) C dX2_copyFrom_64 rfl ?_
      refine r_iadd C dX2_copyFrom_65 ?_
      refine r_bipush (6) C dX2_copyFrom_66 rfl ?_
      refine r_iadd C dX2_copyFrom_68 ?_
      refine r_aload_n C dX2_copyFrom_69 rfl ?_
      refine r_getR C dX2_copyFrom_70 flX2_15 (rfl) rfl ?_
      refine r_iconst (0) C dX2_copyFrom_73 rfl ?_
      refine r_bipush (6) C dX2_copyFrom_74 rfl ?_
      refine r_acp (b + 10) (0) (6) C F dX2_copyFrom_76 tw_457 ha rfl (show nI b + 4 + 6 = nI (b + 10) by rw [show nI b + 4 = nI (b + 4) from nI_add b 4]; exact nI_add (b + 4) 6) rfl rfl (by omega) (by decide) (by omega) (by decide) (by decide) (Nat.le_of_ble_eq_true rfl) ?_
      obtain ⟨m0, m1, m2, m3, m4, m5⟩ := hC
      refine r_vret C F dX2_copyFrom_79 ⟨rfl, ⟨?_, ?_, ?_, ?_, fun i hi => ?_, fun j hj => ?_⟩, fun c hc => ?_⟩
      · rw [upr_row (a := 20) _ _ _ (by decide), upr_row (a := 20) _ _ _ (by decide), up_off _ _ _ _ (by decide), up_off _ _ _ _ (by decide), up_off _ _ _ _ (by decide), up_self]; exact m0
      · rw [upr_row (a := 20) _ _ _ (by decide), upr_row (a := 20) _ _ _ (by decide), up_off _ _ _ _ (by decide), up_off _ _ _ _ (by decide), up_self, up_row _ _ _ _ ne.1]; exact m1
      · rw [upr_row (a := 20) _ _ _ (by decide), upr_row (a := 20) _ _ _ (by decide), up_off _ _ _ _ (by decide), up_self, up_row _ _ _ _ ne.1, up_row _ _ _ _ ne.1]; exact m2
      · rw [upr_row (a := 20) _ _ _ (by decide), upr_row (a := 20) _ _ _ (by decide), up_self, up_row _ _ _ _ ne.1, up_row _ _ _ _ ne.1, up_row _ _ _ _ ne.1]; exact m3
      · rw [upr_row (a := 21) _ _ _ (by decide), upr_self]
        unfold va_cpy
        rw [if_pos (by omega), up_row _ _ _ _ ne.1, up_row _ _ _ _ ne.1, up_row _ _ _ _ ne.1, up_row _ _ _ _ ne.1, Nat.sub_zero, Nat.add_assoc]
        exact m4 i hi
      · rw [upr_self]
        unfold va_cpy
        rw [if_pos (by omega), upr_row _ _ _ ne.2.1, up_row _ _ _ _ ne.1, up_row _ _ _ _ ne.1, up_row _ _ _ _ ne.1, up_row _ _ _ _ ne.1, Nat.sub_zero, Nat.add_assoc]
        exact m5 j hj
      · rw [upr_row _ _ _ (by omega), upr_row _ _ _ (by omega), up_row _ _ _ _ (by omega), up_row _ _ _ _ (by omega), up_row _ _ _ _ (by omega), up_row _ _ _ _ (by omega)]
    · exact absurd ((nI_leI (by omega) (by omega)).mpr hb) c_10
