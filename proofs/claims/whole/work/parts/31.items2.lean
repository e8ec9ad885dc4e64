variable {l : Launch} {E : Ev} {h : Hp}
set_option maxHeartbeats 4000000 in
theorem s8_isLordItem {t : Nat → Int32} {n p q r : Nat} (hT : TX h t n) (hp0 : h 49 2 = nI p) (hp : p ≤ n) (hq3 : h 49 3 = nI q) (hr0 : h 49 10 = nI r) (hr6 : r ≤ 6) : Sp l E SHP 3 M8_isLordItem [.ref (E.1 + 49)] h (QR h (if r = 6 then .inl (q, 3) else clL t n p) (fun x g => pP h g ∧ g 49 2 = nI x.2 ∧ x.2 ≤ n ∧ g 49 9 = h 49 9 ∧ g 49 10 = nI (r + 1) ∧ g 49 11 = h 49 11 ∧ g 51 = h 51 ∧ g 53 = h 53 ∧ (∀ k, k < 3 * r → g 52 k = h 52 k) ∧ g 52 (3 * r + 0) = nI x.1.1 ∧ g 52 (3 * r + 1) = nI x.1.2.1 ∧ g 52 (3 * r + 2) = nI x.1.2.2)) := by
  refine Sp.of (by decide) (Nat.le_of_ble_eq_true rfl) (fun X C F => ?_)
  have C : Ok X E RX8 cX8_isLordItem 2 := C
  have F : Fn X l E SHP 3 (some FieldType.boolean) (QR h (if r = 6 then .inl (q, 3) else clL t n p) (fun x g => pP h g ∧ g 49 2 = nI x.2 ∧ x.2 ≤ n ∧ g 49 9 = h 49 9 ∧ g 49 10 = nI (r + 1) ∧ g 49 11 = h 49 11 ∧ g 51 = h 51 ∧ g 53 = h 53 ∧ (∀ k, k < 3 * r → g 52 k = h 52 k) ∧ g 52 (3 * r + 0) = nI x.1.1 ∧ g 52 (3 * r + 1) = nI x.1.2.1 ∧ g 52 (3 * r + 2) = nI x.1.2.2)) := F
  show G X E SHP (0, 0) 0 [(0, .ref (E.1 + 49))] [] h
  refine r_aload_n C dX8_isLordItem_0 rfl ?_
  refine r_getI C dX8_isLordItem_1 flX8_127 (rfl) rfl ?_
  refine r_bipush (6) C dX8_isLordItem_4 rfl ?_
  refine r_icmp_ne 15 C dX8_isLordItem_6 (by decide) (fun c_6 => ?_) (fun c_6 => ?_)
  · rw [cEq (x := h 49 10) (c := 6) (i := r) (n := 6) (hr0) (rfl) (by omega) (by omega)] at c_6
    have hr6n := c_6
    refine r_iconst (0) C dX8_isLordItem_15 rfl ?_
    refine r_istore_n C dX8_isLordItem_16 (by decide) rfl ?_
    refine r_iload_n C dX8_isLordItem_17 rfl ?_
    refine r_iconst (3) C dX8_isLordItem_18 rfl ?_
    refine r_icmp_ge 84 C dX8_isLordItem_19 (by decide) (fun c_19 => ?_) (fun c_19 => ?_)
    · first | exact absurd c_19 (by decide) | exact absurd (by decide) c_19
    · refine r_aload_n C dX8_isLordItem_22 rfl ?_
      refine r_iload_n C dX8_isLordItem_23 rfl ?_
      refine r_iconst (1) C dX8_isLordItem_24 rfl ?_
      refine r_icmp_ne 32 C dX8_isLordItem_25 (by decide) (fun c_25 => ?_) (fun c_25 => ?_)
      · refine r_iconst (0) C dX8_isLordItem_32 rfl ?_
        refine r_iload_n C dX8_isLordItem_33 rfl ?_
        refine r_if_ne 41 C dX8_isLordItem_34 (by decide) (fun c_34 => ?_) (fun c_34 => ?_)
        · first | exact absurd c_34 (by decide) | exact absurd (by decide) c_34
        · refine r_iconst (2) C dX8_isLordItem_37 rfl ?_
          refine r_goto 53 C dX8_isLordItem_38 (by decide) ?_
          refine r_callV C F dX8_isLordItem_53 (s8_isNumber (t := t) (n := n) (lo := 0) (hi := 2) (p := p) (hT) (hp0) (hp) (by decide) (by decide)) tw_819 m8_isNumber (rfl) rfl (by decide) rfl (Nat.le_of_ble_eq_true rfl) (fun v g1 hq1 => ?_)
          obtain ⟨rfl, hq1⟩ := hq1
          refine r_if_ne 61 C dX8_isLordItem_56 (by decide) (fun c_56 => ?_) (fun c_56 => ?_)
          · obtain ⟨a, hxa⟩ := rdB_t c_56
            rw [hxa] at hq1
            refine r_aload_n C dX8_isLordItem_61 rfl ?_
            refine r_getR C dX8_isLordItem_62 flX8_20 (rfl) rfl ?_
            refine r_iconst (3) C dX8_isLordItem_65 rfl ?_
            refine r_aload_n C dX8_isLordItem_66 rfl ?_
            refine r_getI C dX8_isLordItem_67 flX8_127 (rfl) rfl ?_
            refine r_imul C dX8_isLordItem_70 ?_
            refine r_iload_n C dX8_isLordItem_71 rfl ?_
            refine r_iadd C dX8_isLordItem_72 ?_
            refine r_aload_n C dX8_isLordItem_73 rfl ?_
            refine r_getI C dX8_isLordItem_74 flX8_97 (rfl) rfl ?_
            refine r_iast (3 * r + 0) C dX8_isLordItem_77 (rfl) (by rw [show g1 49 10 = nI r by rw [hq1.1.2 10 (by decide)]; exact hr0]; exact ix3k r 0) (by omega) (by decide) ?_
            refine r_inc (1) C dX8_isLordItem_78 rfl (by decide) rfl rfl ?_
            refine r_goto 17 C dX8_isLordItem_81 (by decide) ?_
            obtain ⟨y1, y2, y3, hle1⟩ := hq1
            have f1_0 : pP h (up g1 52 (3 * r + 0) (g1 49 5)) := (pP.rf.tr (y1.P (by decide))).upx _ (by decide)
            have f1_1 : up g1 52 (3 * r + 0) (g1 49 5) 49 2 = nI a.2 := by rw [up_row _ _ _ _ (by decide)]; exact y3
            have f1_2 : up g1 52 (3 * r + 0) (g1 49 5) 49 9 = h 49 9 := by rw [up_row _ _ _ _ (by decide), y1.2 9 (by decide)]
            have f1_3 : up g1 52 (3 * r + 0) (g1 49 5) 49 10 = h 49 10 := by rw [up_row _ _ _ _ (by decide), y1.2 10 (by decide)]
            have f1_4 : up g1 52 (3 * r + 0) (g1 49 5) 49 11 = h 49 11 := by rw [up_row _ _ _ _ (by decide), y1.2 11 (by decide)]
            have f1_5 : up g1 52 (3 * r + 0) (g1 49 5) 51 = h 51 := by rw [up_row _ _ _ _ (by decide), y1.1 51 (by decide)]
            have f1_6 : up g1 52 (3 * r + 0) (g1 49 5) 53 = h 53 := by rw [up_row _ _ _ _ (by decide), y1.1 53 (by decide)]
            have f1_7 : ∀ k, k < 3 * r → up g1 52 (3 * r + 0) (g1 49 5) 52 k = h 52 k := fun j hj => by rw [up_off _ _ _ _ (by omega), y1.1 52 (by decide)]
            have f1_8 : up g1 52 (3 * r + 0) (g1 49 5) 52 (3 * r + 0) = nI a.1 := by rw [up_self]; exact y2
            generalize up g1 52 (3 * r + 0) (g1 49 5) = G1 at f1_0 f1_1 f1_2 f1_3 f1_4 f1_5 f1_6 f1_7 f1_8 ⊢
            refine r_iload_n C dX8_isLordItem_17 rfl ?_
            refine r_iconst (3) C dX8_isLordItem_18 rfl ?_
            refine r_icmp_ge 84 C dX8_isLordItem_19 (by decide) (fun c_19 => ?_) (fun c_19 => ?_)
            · first | exact absurd c_19 (by decide) | exact absurd (by decide) c_19
            · refine r_aload_n C dX8_isLordItem_22 rfl ?_
              refine r_iload_n C dX8_isLordItem_23 rfl ?_
              refine r_iconst (1) C dX8_isLordItem_24 rfl ?_
              refine r_icmp_ne 32 C dX8_isLordItem_25 (by decide) (fun c_25 => ?_) (fun c_25 => ?_)
              · first | exact absurd c_25 (by decide) | exact absurd (by decide) c_25
              · refine r_iconst (1) C dX8_isLordItem_28 rfl ?_
                refine r_goto 33 C dX8_isLordItem_29 (by decide) ?_
                refine r_iload_n C dX8_isLordItem_33 rfl ?_
                refine r_if_ne 41 C dX8_isLordItem_34 (by decide) (fun c_34 => ?_) (fun c_34 => ?_)
                · refine r_iload_n C dX8_isLordItem_41 rfl ?_
                  refine r_iconst (1) C dX8_isLordItem_42 rfl ?_
                  refine r_icmp_ne 51 C dX8_isLordItem_43 (by decide) (fun c_43 => ?_) (fun c_43 => ?_)
                  · first | exact absurd c_43 (by decide) | exact absurd (by decide) c_43
                  · refine r_bipush (20) C dX8_isLordItem_46 rfl ?_
                    refine r_goto 53 C dX8_isLordItem_48 (by decide) ?_
                    refine r_callV C F dX8_isLordItem_53 (s8_isNumber (t := t) (n := n) (lo := 1) (hi := 20) (p := a.2) (hT.s f1_0) (f1_1) (hle1) (by decide) (by decide)) tw_819 m8_isNumber (rfl) rfl (by decide) rfl (Nat.le_of_ble_eq_true rfl) (fun v g2 hq2 => ?_)
                    obtain ⟨rfl, hq2⟩ := hq2
                    refine r_if_ne 61 C dX8_isLordItem_56 (by decide) (fun c_56 => ?_) (fun c_56 => ?_)
                    · obtain ⟨b, hxb⟩ := rdB_t c_56
                      rw [hxb] at hq2
                      refine r_aload_n C dX8_isLordItem_61 rfl ?_
                      refine r_getR C dX8_isLordItem_62 flX8_20 (rfl) rfl ?_
                      refine r_iconst (3) C dX8_isLordItem_65 rfl ?_
                      refine r_aload_n C dX8_isLordItem_66 rfl ?_
                      refine r_getI C dX8_isLordItem_67 flX8_127 (rfl) rfl ?_
                      refine r_imul C dX8_isLordItem_70 ?_
                      refine r_iload_n C dX8_isLordItem_71 rfl ?_
                      refine r_iadd C dX8_isLordItem_72 ?_
                      refine r_aload_n C dX8_isLordItem_73 rfl ?_
                      refine r_getI C dX8_isLordItem_74 flX8_97 (rfl) rfl ?_
                      refine r_iast (3 * r + 1) C dX8_isLordItem_77 (rfl) (by rw [show g2 49 10 = nI r by rw [hq2.1.2 10 (by decide), f1_3]; exact hr0]; exact ix3k r 1) (by omega) (by decide) ?_
                      refine r_inc (1) C dX8_isLordItem_78 rfl (by decide) rfl rfl ?_
                      refine r_goto 17 C dX8_isLordItem_81 (by decide) ?_
                      obtain ⟨y1, y2, y3, hle2⟩ := hq2
                      have f2_0 : pP h (up g2 52 (3 * r + 1) (g2 49 5)) := (f1_0.tr (y1.P (by decide))).upx _ (by decide)
                      have f2_1 : up g2 52 (3 * r + 1) (g2 49 5) 49 2 = nI b.2 := by rw [up_row _ _ _ _ (by decide)]; exact y3
                      have f2_2 : up g2 52 (3 * r + 1) (g2 49 5) 49 9 = h 49 9 := by rw [up_row _ _ _ _ (by decide), y1.2 9 (by decide)]; exact f1_2
                      have f2_3 : up g2 52 (3 * r + 1) (g2 49 5) 49 10 = h 49 10 := by rw [up_row _ _ _ _ (by decide), y1.2 10 (by decide)]; exact f1_3
                      have f2_4 : up g2 52 (3 * r + 1) (g2 49 5) 49 11 = h 49 11 := by rw [up_row _ _ _ _ (by decide), y1.2 11 (by decide)]; exact f1_4
                      have f2_5 : up g2 52 (3 * r + 1) (g2 49 5) 51 = h 51 := by rw [up_row _ _ _ _ (by decide), y1.1 51 (by decide)]; exact f1_5
                      have f2_6 : up g2 52 (3 * r + 1) (g2 49 5) 53 = h 53 := by rw [up_row _ _ _ _ (by decide), y1.1 53 (by decide)]; exact f1_6
                      have f2_7 : ∀ k, k < 3 * r → up g2 52 (3 * r + 1) (g2 49 5) 52 k = h 52 k := fun j hj => by rw [up_off _ _ _ _ (by omega), y1.1 52 (by decide)]; exact f1_7 j hj
                      have f2_8 : up g2 52 (3 * r + 1) (g2 49 5) 52 (3 * r + 0) = nI a.1 := by rw [up_off _ _ _ _ (by omega), y1.1 52 (by decide)]; exact f1_8
                      have f2_9 : up g2 52 (3 * r + 1) (g2 49 5) 52 (3 * r + 1) = nI b.1 := by rw [up_self]; exact y2
                      generalize up g2 52 (3 * r + 1) (g2 49 5) = G2 at f2_0 f2_1 f2_2 f2_3 f2_4 f2_5 f2_6 f2_7 f2_8 f2_9 ⊢
                      refine r_iload_n C dX8_isLordItem_17 rfl ?_
                      refine r_iconst (3) C dX8_isLordItem_18 rfl ?_
                      refine r_icmp_ge 84 C dX8_isLordItem_19 (by decide) (fun c_19 => ?_) (fun c_19 => ?_)
                      · first | exact absurd c_19 (by decide) | exact absurd (by decide) c_19
                      · refine r_aload_n C dX8_isLordItem_22 rfl ?_
                        refine r_iload_n C dX8_isLordItem_23 rfl ?_
                        refine r_iconst (1) C dX8_isLordItem_24 rfl ?_
                        refine r_icmp_ne 32 C dX8_isLordItem_25 (by decide) (fun c_25 => ?_) (fun c_25 => ?_)
                        · refine r_iconst (0) C dX8_isLordItem_32 rfl ?_
                          refine r_iload_n C dX8_isLordItem_33 rfl ?_
                          refine r_if_ne 41 C dX8_isLordItem_34 (by decide) (fun c_34 => ?_) (fun c_34 => ?_)
                          · refine r_iload_n C dX8_isLordItem_41 rfl ?_
                            refine r_iconst (1) C dX8_isLordItem_42 rfl ?_
                            refine r_icmp_ne 51 C dX8_isLordItem_43 (by decide) (fun c_43 => ?_) (fun c_43 => ?_)
                            · refine r_bipush (15) C dX8_isLordItem_51 rfl ?_
                              refine r_callV C F dX8_isLordItem_53 (s8_isNumber (t := t) (n := n) (lo := 0) (hi := 15) (p := b.2) (hT.s f2_0) (f2_1) (hle2) (by decide) (by decide)) tw_819 m8_isNumber (rfl) rfl (by decide) rfl (Nat.le_of_ble_eq_true rfl) (fun v g3 hq3 => ?_)
                              obtain ⟨rfl, hq3⟩ := hq3
                              refine r_if_ne 61 C dX8_isLordItem_56 (by decide) (fun c_56 => ?_) (fun c_56 => ?_)
                              · obtain ⟨c, hxc⟩ := rdB_t c_56
                                rw [hxc] at hq3
                                refine r_aload_n C dX8_isLordItem_61 rfl ?_
                                refine r_getR C dX8_isLordItem_62 flX8_20 (rfl) rfl ?_
                                refine r_iconst (3) C dX8_isLordItem_65 rfl ?_
                                refine r_aload_n C dX8_isLordItem_66 rfl ?_
                                refine r_getI C dX8_isLordItem_67 flX8_127 (rfl) rfl ?_
                                refine r_imul C dX8_isLordItem_70 ?_
                                refine r_iload_n C dX8_isLordItem_71 rfl ?_
                                refine r_iadd C dX8_isLordItem_72 ?_
                                refine r_aload_n C dX8_isLordItem_73 rfl ?_
                                refine r_getI C dX8_isLordItem_74 flX8_97 (rfl) rfl ?_
                                refine r_iast (3 * r + 2) C dX8_isLordItem_77 (rfl) (by rw [show g3 49 10 = nI r by rw [hq3.1.2 10 (by decide), f2_3]; exact hr0]; exact ix3k r 2) (by omega) (by decide) ?_
                                refine r_inc (1) C dX8_isLordItem_78 rfl (by decide) rfl rfl ?_
                                refine r_goto 17 C dX8_isLordItem_81 (by decide) ?_
                                obtain ⟨y1, y2, y3, hle3⟩ := hq3
                                have f3_0 : pP h (up g3 52 (3 * r + 2) (g3 49 5)) := (f2_0.tr (y1.P (by decide))).upx _ (by decide)
                                have f3_1 : up g3 52 (3 * r + 2) (g3 49 5) 49 2 = nI c.2 := by rw [up_row _ _ _ _ (by decide)]; exact y3
                                have f3_2 : up g3 52 (3 * r + 2) (g3 49 5) 49 9 = h 49 9 := by rw [up_row _ _ _ _ (by decide), y1.2 9 (by decide)]; exact f2_2
                                have f3_3 : up g3 52 (3 * r + 2) (g3 49 5) 49 10 = h 49 10 := by rw [up_row _ _ _ _ (by decide), y1.2 10 (by decide)]; exact f2_3
                                have f3_4 : up g3 52 (3 * r + 2) (g3 49 5) 49 11 = h 49 11 := by rw [up_row _ _ _ _ (by decide), y1.2 11 (by decide)]; exact f2_4
                                have f3_5 : up g3 52 (3 * r + 2) (g3 49 5) 51 = h 51 := by rw [up_row _ _ _ _ (by decide), y1.1 51 (by decide)]; exact f2_5
                                have f3_6 : up g3 52 (3 * r + 2) (g3 49 5) 53 = h 53 := by rw [up_row _ _ _ _ (by decide), y1.1 53 (by decide)]; exact f2_6
                                have f3_7 : ∀ k, k < 3 * r → up g3 52 (3 * r + 2) (g3 49 5) 52 k = h 52 k := fun j hj => by rw [up_off _ _ _ _ (by omega), y1.1 52 (by decide)]; exact f2_7 j hj
                                have f3_8 : up g3 52 (3 * r + 2) (g3 49 5) 52 (3 * r + 0) = nI a.1 := by rw [up_off _ _ _ _ (by omega), y1.1 52 (by decide)]; exact f2_8
                                have f3_9 : up g3 52 (3 * r + 2) (g3 49 5) 52 (3 * r + 1) = nI b.1 := by rw [up_off _ _ _ _ (by omega), y1.1 52 (by decide)]; exact f2_9
                                have f3_10 : up g3 52 (3 * r + 2) (g3 49 5) 52 (3 * r + 2) = nI c.1 := by rw [up_self]; exact y2
                                generalize up g3 52 (3 * r + 2) (g3 49 5) = G3 at f3_0 f3_1 f3_2 f3_3 f3_4 f3_5 f3_6 f3_7 f3_8 f3_9 f3_10 ⊢
                                refine r_iload_n C dX8_isLordItem_17 rfl ?_
                                refine r_iconst (3) C dX8_isLordItem_18 rfl ?_
                                refine r_icmp_ge 84 C dX8_isLordItem_19 (by decide) (fun c_19 => ?_) (fun c_19 => ?_)
                                · refine r_aload_n C dX8_isLordItem_84 rfl ?_
                                  refine r_dup C dX8_isLordItem_85 rfl ?_
                                  refine r_getI C dX8_isLordItem_86 flX8_127 (rfl) rfl ?_
                                  refine r_iconst (1) C dX8_isLordItem_89 rfl ?_
                                  refine r_iadd C dX8_isLordItem_90 ?_
                                  refine r_putI C dX8_isLordItem_91 fwX8_127 (rfl) rfl ?_
                                  have hE1 : pP h (up G3 49 10 (G3 49 10 + 1)) := f3_0.up49 _ (by decide)
                                  have hE2 : up G3 49 10 (G3 49 10 + 1) 49 2 = nI c.2 := by rw [up_off _ _ _ _ (by decide)]; exact f3_1
                                  refine r_aload_n C dX8_isLordItem_94 rfl ?_
                                  refine r_callV C F dX8_isLordItem_95 (s8_isEnd (t := t) (n := n) (p := c.2) (hT.s hE1) hE2 hle3) tw_823 m8_isEnd (rfl) rfl (by decide) rfl (Nat.le_of_ble_eq_true rfl) (fun v ge hqe => ?_)
                                  obtain ⟨rfl, hqe⟩ := hqe
                                  refine r_zret C F dX8_isLordItem_98 (narrow_rdB _) ?_
                                  have hcl : clL t n p = bnd (rdE t n c.2) fun q => .inr ((a.1, b.1, c.1), q) := by unfold clL; rw [bnd_r hxa, bnd_r hxb, bnd_r hxc]
                                  rw [if_neg hr6n, hcl]
                                  cases hr : rdE t n c.2 with
                                  | inl e =>
                                    rw [hr] at hqe
                                    exact ⟨rfl, hE1.tr hqe.1, hqe.2⟩
                                  | inr q =>
                                    rw [hr] at hqe
                                    obtain ⟨s1, s2, s3⟩ := hqe
                                    refine ⟨rfl, hE1.tr (s1.P (by decide)), s2, s3, ?_, ?_, ?_, ?_, ?_, ?_, ?_, ?_, ?_⟩
                                    · rw [s1.2 9 (by decide), up_off _ _ _ _ (by decide)]; exact f3_2
                                    · rw [s1.2 10 (by decide), up_self, f3_3, hr0, nI_1]
                                    · rw [s1.2 11 (by decide), up_off _ _ _ _ (by decide)]; exact f3_4
                                    · rw [s1.1 51 (by decide), up_row _ _ _ _ (by decide)]; exact f3_5
                                    · rw [s1.1 53 (by decide), up_row _ _ _ _ (by decide)]; exact f3_6
                                    · intro k hk; rw [s1.1 52 (by decide), up_row _ _ _ _ (by decide)]; exact f3_7 k hk
                                    · rw [s1.1 52 (by decide), up_row _ _ _ _ (by decide)]; exact f3_8
                                    · rw [s1.1 52 (by decide), up_row _ _ _ _ (by decide)]; exact f3_9
                                    · rw [s1.1 52 (by decide), up_row _ _ _ _ (by decide)]; exact f3_10
                                · first | exact absurd c_19 (by decide) | exact absurd (by decide) c_19
                              · obtain ⟨e, hxc⟩ := rdB_f c_56
                                rw [hxc] at hq3
                                refine r_iconst (0) C dX8_isLordItem_59 rfl ?_
                                exact r_zret C F dX8_isLordItem_60 rfl (by rw [if_neg hr6n, show clL t n p = .inl e by unfold clL; rw [bnd_r hxa, bnd_r hxb, bnd_l hxc]]; exact ⟨rfl, f2_0.tr hq3.1, hq3.2⟩)
                            · first | exact absurd c_43 (by decide) | exact absurd (by decide) c_43
                          · first | exact absurd c_34 (by decide) | exact absurd (by decide) c_34
                        · first | exact absurd c_25 (by decide) | exact absurd (by decide) c_25
                    · obtain ⟨e, hxb⟩ := rdB_f c_56
                      rw [hxb] at hq2
                      refine r_iconst (0) C dX8_isLordItem_59 rfl ?_
                      exact r_zret C F dX8_isLordItem_60 rfl (by rw [if_neg hr6n, show clL t n p = .inl e by unfold clL; rw [bnd_r hxa, bnd_l hxb]]; exact ⟨rfl, f1_0.tr hq2.1, hq2.2⟩)
                · first | exact absurd c_34 (by decide) | exact absurd (by decide) c_34
          · obtain ⟨e, hxa⟩ := rdB_f c_56
            rw [hxa] at hq1
            refine r_iconst (0) C dX8_isLordItem_59 rfl ?_
            exact r_zret C F dX8_isLordItem_60 rfl (by rw [if_neg hr6n, show clL t n p = .inl e by unfold clL; rw [bnd_l hxa]]; exact ⟨rfl, hq1.1, hq1.2⟩)
      · first | exact absurd c_25 (by decide) | exact absurd (by decide) c_25
  · rw [cEq (x := h 49 10) (c := 6) (i := r) (n := 6) (hr0) (rfl) (by omega) (by omega)] at c_6
    refine r_aload_n C dX8_isLordItem_9 rfl ?_
    refine r_iconst (3) C dX8_isLordItem_10 rfl ?_
    refine r_cVi C F dX8_isLordItem_11 (s8_fails) tw_811 m8_fails (rfl) rfl (by decide) rfl (Nat.le_of_ble_eq_true rfl) ?_
    exact r_zret C F dX8_isLordItem_14 rfl (by rw [if_pos c_6]; exact ⟨rfl, (pP.rf.up49 _ (by decide)).up49 _ (by decide), (by show up _ 49 8 _ 49 7 = _; rw [up_off _ _ _ _ (by decide), up_self]; exact hq3), (by show up _ 49 8 _ 49 8 = _; rw [up_self]; rfl)⟩)
set_option maxHeartbeats 4000000 in
theorem s8_isJokeItem {t : Nat → Int32} {n p q r : Nat} (hT : TX h t n) (hp0 : h 49 2 = nI p) (hp : p ≤ n) (hq3 : h 49 3 = nI q) (hr0 : h 49 11 = nI r) (hr6 : r ≤ 6) : Sp l E SHP 3 M8_isJokeItem [.ref (E.1 + 49)] h (QR h (if r = 6 then .inl (q, 3) else clJ t n p) (fun x g => pP h g ∧ g 49 2 = nI x.2 ∧ x.2 ≤ n ∧ g 49 9 = h 49 9 ∧ g 49 11 = nI (r + 1) ∧ g 49 10 = h 49 10 ∧ g 51 = h 51 ∧ g 52 = h 52 ∧ (∀ k, k < 2 * r → g 53 k = h 53 k) ∧ g 53 (2 * r + 0) = nI x.1.1 ∧ g 53 (2 * r + 1) = nI x.1.2)) := by
  refine Sp.of (by decide) (Nat.le_of_ble_eq_true rfl) (fun X C F => ?_)
  have C : Ok X E RX8 cX8_isJokeItem 2 := C
  have F : Fn X l E SHP 3 (some FieldType.boolean) (QR h (if r = 6 then .inl (q, 3) else clJ t n p) (fun x g => pP h g ∧ g 49 2 = nI x.2 ∧ x.2 ≤ n ∧ g 49 9 = h 49 9 ∧ g 49 11 = nI (r + 1) ∧ g 49 10 = h 49 10 ∧ g 51 = h 51 ∧ g 52 = h 52 ∧ (∀ k, k < 2 * r → g 53 k = h 53 k) ∧ g 53 (2 * r + 0) = nI x.1.1 ∧ g 53 (2 * r + 1) = nI x.1.2)) := F
  show G X E SHP (0, 0) 0 [(0, .ref (E.1 + 49))] [] h
  refine r_aload_n C dX8_isJokeItem_0 rfl ?_
  refine r_getI C dX8_isJokeItem_1 flX8_130 (rfl) rfl ?_
  refine r_bipush (6) C dX8_isJokeItem_4 rfl ?_
  refine r_icmp_ne 15 C dX8_isJokeItem_6 (by decide) (fun c_6 => ?_) (fun c_6 => ?_)
  · rw [cEq (x := h 49 11) (c := 6) (i := r) (n := 6) (hr0) (rfl) (by omega) (by omega)] at c_6
    have hr6n := c_6
    refine r_iconst (0) C dX8_isJokeItem_15 rfl ?_
    refine r_istore_n C dX8_isJokeItem_16 (by decide) rfl ?_
    refine r_iload_n C dX8_isJokeItem_17 rfl ?_
    refine r_iconst (2) C dX8_isJokeItem_18 rfl ?_
    refine r_icmp_ge 65 C dX8_isJokeItem_19 (by decide) (fun c_19 => ?_) (fun c_19 => ?_)
    · first | exact absurd c_19 (by decide) | exact absurd (by decide) c_19
    · refine r_aload_n C dX8_isJokeItem_22 rfl ?_
      refine r_iload_n C dX8_isJokeItem_23 rfl ?_
      refine r_iload_n C dX8_isJokeItem_24 rfl ?_
      refine r_if_ne 32 C dX8_isJokeItem_25 (by decide) (fun c_25 => ?_) (fun c_25 => ?_)
      · first | exact absurd c_25 (by decide) | exact absurd (by decide) c_25
      · refine r_iconst (3) C dX8_isJokeItem_28 rfl ?_
        refine r_goto 34 C dX8_isJokeItem_29 (by decide) ?_
        refine r_callV C F dX8_isJokeItem_34 (s8_isNumber (t := t) (n := n) (lo := 0) (hi := 3) (p := p) (hT) (hp0) (hp) (by decide) (by decide)) tw_819 m8_isNumber (rfl) rfl (by decide) rfl (Nat.le_of_ble_eq_true rfl) (fun v g1 hq1 => ?_)
        obtain ⟨rfl, hq1⟩ := hq1
        refine r_if_ne 42 C dX8_isJokeItem_37 (by decide) (fun c_37 => ?_) (fun c_37 => ?_)
        · obtain ⟨a, hxa⟩ := rdB_t c_37
          rw [hxa] at hq1
          refine r_aload_n C dX8_isJokeItem_42 rfl ?_
          refine r_getR C dX8_isJokeItem_43 flX8_23 (rfl) rfl ?_
          refine r_iconst (2) C dX8_isJokeItem_46 rfl ?_
          refine r_aload_n C dX8_isJokeItem_47 rfl ?_
          refine r_getI C dX8_isJokeItem_48 flX8_130 (rfl) rfl ?_
          refine r_imul C dX8_isJokeItem_51 ?_
          refine r_iload_n C dX8_isJokeItem_52 rfl ?_
          refine r_iadd C dX8_isJokeItem_53 ?_
          refine r_aload_n C dX8_isJokeItem_54 rfl ?_
          refine r_getI C dX8_isJokeItem_55 flX8_97 (rfl) rfl ?_
          refine r_iast (2 * r + 0) C dX8_isJokeItem_58 (rfl) (by rw [show g1 49 11 = nI r by rw [hq1.1.2 11 (by decide)]; exact hr0]; exact ix2k r 0) (by omega) (by decide) ?_
          refine r_inc (1) C dX8_isJokeItem_59 rfl (by decide) rfl rfl ?_
          refine r_goto 17 C dX8_isJokeItem_62 (by decide) ?_
          obtain ⟨y1, y2, y3, hle1⟩ := hq1
          have f1_0 : pP h (up g1 53 (2 * r + 0) (g1 49 5)) := (pP.rf.tr (y1.P (by decide))).upx _ (by decide)
          have f1_1 : up g1 53 (2 * r + 0) (g1 49 5) 49 2 = nI a.2 := by rw [up_row _ _ _ _ (by decide)]; exact y3
          have f1_2 : up g1 53 (2 * r + 0) (g1 49 5) 49 9 = h 49 9 := by rw [up_row _ _ _ _ (by decide), y1.2 9 (by decide)]
          have f1_3 : up g1 53 (2 * r + 0) (g1 49 5) 49 11 = h 49 11 := by rw [up_row _ _ _ _ (by decide), y1.2 11 (by decide)]
          have f1_4 : up g1 53 (2 * r + 0) (g1 49 5) 49 10 = h 49 10 := by rw [up_row _ _ _ _ (by decide), y1.2 10 (by decide)]
          have f1_5 : up g1 53 (2 * r + 0) (g1 49 5) 51 = h 51 := by rw [up_row _ _ _ _ (by decide), y1.1 51 (by decide)]
          have f1_6 : up g1 53 (2 * r + 0) (g1 49 5) 52 = h 52 := by rw [up_row _ _ _ _ (by decide), y1.1 52 (by decide)]
          have f1_7 : ∀ k, k < 2 * r → up g1 53 (2 * r + 0) (g1 49 5) 53 k = h 53 k := fun j hj => by rw [up_off _ _ _ _ (by omega), y1.1 53 (by decide)]
          have f1_8 : up g1 53 (2 * r + 0) (g1 49 5) 53 (2 * r + 0) = nI a.1 := by rw [up_self]; exact y2
          generalize up g1 53 (2 * r + 0) (g1 49 5) = G1 at f1_0 f1_1 f1_2 f1_3 f1_4 f1_5 f1_6 f1_7 f1_8 ⊢
          refine r_iload_n C dX8_isJokeItem_17 rfl ?_
          refine r_iconst (2) C dX8_isJokeItem_18 rfl ?_
          refine r_icmp_ge 65 C dX8_isJokeItem_19 (by decide) (fun c_19 => ?_) (fun c_19 => ?_)
          · first | exact absurd c_19 (by decide) | exact absurd (by decide) c_19
          · refine r_aload_n C dX8_isJokeItem_22 rfl ?_
            refine r_iload_n C dX8_isJokeItem_23 rfl ?_
            refine r_iload_n C dX8_isJokeItem_24 rfl ?_
            refine r_if_ne 32 C dX8_isJokeItem_25 (by decide) (fun c_25 => ?_) (fun c_25 => ?_)
            · refine r_bipush (30) C dX8_isJokeItem_32 rfl ?_
              refine r_callV C F dX8_isJokeItem_34 (s8_isNumber (t := t) (n := n) (lo := 1) (hi := 30) (p := a.2) (hT.s f1_0) (f1_1) (hle1) (by decide) (by decide)) tw_819 m8_isNumber (rfl) rfl (by decide) rfl (Nat.le_of_ble_eq_true rfl) (fun v g2 hq2 => ?_)
              obtain ⟨rfl, hq2⟩ := hq2
              refine r_if_ne 42 C dX8_isJokeItem_37 (by decide) (fun c_37 => ?_) (fun c_37 => ?_)
              · obtain ⟨b, hxb⟩ := rdB_t c_37
                rw [hxb] at hq2
                refine r_aload_n C dX8_isJokeItem_42 rfl ?_
                refine r_getR C dX8_isJokeItem_43 flX8_23 (rfl) rfl ?_
                refine r_iconst (2) C dX8_isJokeItem_46 rfl ?_
                refine r_aload_n C dX8_isJokeItem_47 rfl ?_
                refine r_getI C dX8_isJokeItem_48 flX8_130 (rfl) rfl ?_
                refine r_imul C dX8_isJokeItem_51 ?_
                refine r_iload_n C dX8_isJokeItem_52 rfl ?_
                refine r_iadd C dX8_isJokeItem_53 ?_
                refine r_aload_n C dX8_isJokeItem_54 rfl ?_
                refine r_getI C dX8_isJokeItem_55 flX8_97 (rfl) rfl ?_
                refine r_iast (2 * r + 1) C dX8_isJokeItem_58 (rfl) (by rw [show g2 49 11 = nI r by rw [hq2.1.2 11 (by decide), f1_3]; exact hr0]; exact ix2k r 1) (by omega) (by decide) ?_
                refine r_inc (1) C dX8_isJokeItem_59 rfl (by decide) rfl rfl ?_
                refine r_goto 17 C dX8_isJokeItem_62 (by decide) ?_
                obtain ⟨y1, y2, y3, hle2⟩ := hq2
                have f2_0 : pP h (up g2 53 (2 * r + 1) (g2 49 5)) := (f1_0.tr (y1.P (by decide))).upx _ (by decide)
                have f2_1 : up g2 53 (2 * r + 1) (g2 49 5) 49 2 = nI b.2 := by rw [up_row _ _ _ _ (by decide)]; exact y3
                have f2_2 : up g2 53 (2 * r + 1) (g2 49 5) 49 9 = h 49 9 := by rw [up_row _ _ _ _ (by decide), y1.2 9 (by decide)]; exact f1_2
                have f2_3 : up g2 53 (2 * r + 1) (g2 49 5) 49 11 = h 49 11 := by rw [up_row _ _ _ _ (by decide), y1.2 11 (by decide)]; exact f1_3
                have f2_4 : up g2 53 (2 * r + 1) (g2 49 5) 49 10 = h 49 10 := by rw [up_row _ _ _ _ (by decide), y1.2 10 (by decide)]; exact f1_4
                have f2_5 : up g2 53 (2 * r + 1) (g2 49 5) 51 = h 51 := by rw [up_row _ _ _ _ (by decide), y1.1 51 (by decide)]; exact f1_5
                have f2_6 : up g2 53 (2 * r + 1) (g2 49 5) 52 = h 52 := by rw [up_row _ _ _ _ (by decide), y1.1 52 (by decide)]; exact f1_6
                have f2_7 : ∀ k, k < 2 * r → up g2 53 (2 * r + 1) (g2 49 5) 53 k = h 53 k := fun j hj => by rw [up_off _ _ _ _ (by omega), y1.1 53 (by decide)]; exact f1_7 j hj
                have f2_8 : up g2 53 (2 * r + 1) (g2 49 5) 53 (2 * r + 0) = nI a.1 := by rw [up_off _ _ _ _ (by omega), y1.1 53 (by decide)]; exact f1_8
                have f2_9 : up g2 53 (2 * r + 1) (g2 49 5) 53 (2 * r + 1) = nI b.1 := by rw [up_self]; exact y2
                generalize up g2 53 (2 * r + 1) (g2 49 5) = G2 at f2_0 f2_1 f2_2 f2_3 f2_4 f2_5 f2_6 f2_7 f2_8 f2_9 ⊢
                refine r_iload_n C dX8_isJokeItem_17 rfl ?_
                refine r_iconst (2) C dX8_isJokeItem_18 rfl ?_
                refine r_icmp_ge 65 C dX8_isJokeItem_19 (by decide) (fun c_19 => ?_) (fun c_19 => ?_)
                · refine r_aload_n C dX8_isJokeItem_65 rfl ?_
                  refine r_dup C dX8_isJokeItem_66 rfl ?_
                  refine r_getI C dX8_isJokeItem_67 flX8_130 (rfl) rfl ?_
                  refine r_iconst (1) C dX8_isJokeItem_70 rfl ?_
                  refine r_iadd C dX8_isJokeItem_71 ?_
                  refine r_putI C dX8_isJokeItem_72 fwX8_130 (rfl) rfl ?_
                  have hE1 : pP h (up G2 49 11 (G2 49 11 + 1)) := f2_0.up49 _ (by decide)
                  have hE2 : up G2 49 11 (G2 49 11 + 1) 49 2 = nI b.2 := by rw [up_off _ _ _ _ (by decide)]; exact f2_1
                  refine r_aload_n C dX8_isJokeItem_75 rfl ?_
                  refine r_callV C F dX8_isJokeItem_76 (s8_isEnd (t := t) (n := n) (p := b.2) (hT.s hE1) hE2 hle2) tw_823 m8_isEnd (rfl) rfl (by decide) rfl (Nat.le_of_ble_eq_true rfl) (fun v ge hqe => ?_)
                  obtain ⟨rfl, hqe⟩ := hqe
                  refine r_zret C F dX8_isJokeItem_79 (narrow_rdB _) ?_
                  have hcl : clJ t n p = bnd (rdE t n b.2) fun q => .inr ((a.1, b.1), q) := by unfold clJ; rw [bnd_r hxa, bnd_r hxb]
                  rw [if_neg hr6n, hcl]
                  cases hr : rdE t n b.2 with
                  | inl e =>
                    rw [hr] at hqe
                    exact ⟨rfl, hE1.tr hqe.1, hqe.2⟩
                  | inr q =>
                    rw [hr] at hqe
                    obtain ⟨s1, s2, s3⟩ := hqe
                    refine ⟨rfl, hE1.tr (s1.P (by decide)), s2, s3, ?_, ?_, ?_, ?_, ?_, ?_, ?_, ?_⟩
                    · rw [s1.2 9 (by decide), up_off _ _ _ _ (by decide)]; exact f2_2
                    · rw [s1.2 11 (by decide), up_self, f2_3, hr0, nI_1]
                    · rw [s1.2 10 (by decide), up_off _ _ _ _ (by decide)]; exact f2_4
                    · rw [s1.1 51 (by decide), up_row _ _ _ _ (by decide)]; exact f2_5
                    · rw [s1.1 52 (by decide), up_row _ _ _ _ (by decide)]; exact f2_6
                    · intro k hk; rw [s1.1 53 (by decide), up_row _ _ _ _ (by decide)]; exact f2_7 k hk
                    · rw [s1.1 53 (by decide), up_row _ _ _ _ (by decide)]; exact f2_8
                    · rw [s1.1 53 (by decide), up_row _ _ _ _ (by decide)]; exact f2_9
                · first | exact absurd c_19 (by decide) | exact absurd (by decide) c_19
              · obtain ⟨e, hxb⟩ := rdB_f c_37
                rw [hxb] at hq2
                refine r_iconst (0) C dX8_isJokeItem_40 rfl ?_
                exact r_zret C F dX8_isJokeItem_41 rfl (by rw [if_neg hr6n, show clJ t n p = .inl e by unfold clJ; rw [bnd_r hxa, bnd_l hxb]]; exact ⟨rfl, f1_0.tr hq2.1, hq2.2⟩)
            · first | exact absurd c_25 (by decide) | exact absurd (by decide) c_25
        · obtain ⟨e, hxa⟩ := rdB_f c_37
          rw [hxa] at hq1
          refine r_iconst (0) C dX8_isJokeItem_40 rfl ?_
          exact r_zret C F dX8_isJokeItem_41 rfl (by rw [if_neg hr6n, show clJ t n p = .inl e by unfold clJ; rw [bnd_l hxa]]; exact ⟨rfl, hq1.1, hq1.2⟩)
  · rw [cEq (x := h 49 11) (c := 6) (i := r) (n := 6) (hr0) (rfl) (by omega) (by omega)] at c_6
    refine r_aload_n C dX8_isJokeItem_9 rfl ?_
    refine r_iconst (3) C dX8_isJokeItem_10 rfl ?_
    refine r_cVi C F dX8_isJokeItem_11 (s8_fails) tw_811 m8_fails (rfl) rfl (by decide) rfl (Nat.le_of_ble_eq_true rfl) ?_
    exact r_zret C F dX8_isJokeItem_14 rfl (by rw [if_pos c_6]; exact ⟨rfl, (pP.rf.up49 _ (by decide)).up49 _ (by decide), (by show up _ 49 8 _ 49 7 = _; rw [up_off _ _ _ _ (by decide), up_self]; exact hq3), (by show up _ 49 8 _ 49 8 = _; rw [up_self]; rfl)⟩)
