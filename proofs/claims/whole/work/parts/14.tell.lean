variable {l : Launch} {E : Ev} {h : Hp}
theorem cl_ex (D : HDt) (t my x : Nat) : ∀ (f m : Nat), 2 ^ dL D ≤ m + f → m < 2 ^ dL D → sub x m → (∀ Y, sub x Y → Closed D t my Y → sub m Y) → ∃ r, IsCl D t my x r
  | 0, m, q1, q2, _, _ => absurd q2 (by omega)
  | f + 1, m, q1, q2, q3, q4 => by
    by_cases hz : sw D t my m (dL D) = m
    · exact ⟨m, q3, sw_closed hz, q4⟩
    · have hle := sw_le D t my m (dL D)
      exact cl_ex D t my x f (sw D t my m (dL D)) (by omega) (sw_lt D t my m _ q2 _ (Nat.le_refl _)) (sub_tr q3 (sw_sub D t my m _)) (fun Y y1 y2 => sw_in D t my m Y (q4 Y y1 y2) y2 _ (Nat.le_refl _))
theorem clF_is (D : HDt) (t my x : Nat) (hx : x < 2 ^ dL D) : IsCl D t my x (clF D t my x) := by
  obtain ⟨r, hr⟩ := cl_ex D t my x (2 ^ dL D) x (by omega) hx (sub_rfl _) (fun Y y1 _ => y1)
  rw [hr.eq]
  exact hr
theorem clF_lt (D : HDt) (t my x : Nat) (hx : x < 2 ^ dL D) : clF D t my x < 2 ^ dL D := (clF_is D t my x hx).lt hx
theorem falF_lt {D : HDt} (q : okD D) (m t : Nat) (tm : Nat → Nat) (i j a : Nat) : falF D m t tm i j a < 2 ^ dL D := by
  unfold falF
  split
  · exact Nat.two_pow_pos _
  · generalize hx : lauF D m t (dF D j / 2 ^ tm j) i j a = x
    have hx2 : x < 2 ^ dL D := by rw [← hx]; exact lset_lt _ _
    exact clF_lt _ _ _ _ hx2
def telK (f : Nat → Int32) (m S j i : Nat) : Nat → Int32 := fun k => if k = 0 then nI (nd m S) else if k = 10 + j then f (10 + j) + 1 else if k = 9 then f 9 + 1 else if k = 7 then nI S else if 1 ≤ k ∧ k ≤ i ∧ S.testBit (k - 1) = true then f 9 + 1 else f k
theorem telK_0 (h : Hp) (a m S j : Nat) (hj : j < 6) : up (up (up (up h a 0 (nI (nd m S))) a (10 + j) (h a (10 + j) + 1)) a 9 (h a 9 + 1)) a 7 (nI S) = upr h a (telK (h a) m S j 0) := by
  rw [show up h a 0 (nI (nd m S)) = upr h a (upd (h a) 0 (nI (nd m S))) from rfl, up_upr, up_upr, up_upr]
  refine upr_congr (fun k => ?_)
  unfold upd telK
  by_cases c7 : k = 7
  · rw [if_pos c7, if_neg (by omega), if_neg (by omega), if_neg (by omega), if_pos c7]
  rw [if_neg c7]
  by_cases c9 : k = 9
  · rw [if_pos c9, if_neg (by omega), if_neg (by omega), if_pos c9]
  rw [if_neg c9]
  by_cases cj : k = 10 + j
  · rw [if_pos cj, if_neg (by omega), if_pos cj]
  rw [if_neg cj]
  by_cases c0 : k = 0
  · rw [if_pos c0, if_pos c0]
  rw [if_neg c0, if_neg c0, if_neg cj, if_neg c9, if_neg c7, if_neg (by omega)]
theorem telK_s (f : Nat → Int32) (m S j i : Nat) (hj : j < 6) (hi : i < 6) : upd (telK f m S j i) (1 + i) (if S.testBit i = true then f 9 + 1 else f (1 + i)) = telK f m S j (i + 1) := funext fun k => by
  unfold upd telK
  by_cases c : k = 1 + i
  · subst c
    rw [if_pos rfl]
    by_cases z : S.testBit i = true
    · rw [if_pos z, if_neg (by omega), if_neg (by omega), if_neg (by omega), if_neg (by omega), show 1 + i - 1 = i by omega, if_pos ⟨by omega, by omega, z⟩]
    · rw [if_neg z, if_neg (by omega), if_neg (by omega), if_neg (by omega), if_neg (by omega), show 1 + i - 1 = i by omega, if_neg (fun q => z q.2.2)]
  · rw [if_neg c]
    by_cases z : 1 ≤ k ∧ k ≤ i ∧ S.testBit (k - 1) = true
    · rw [if_pos z, if_pos (show 1 ≤ k ∧ k ≤ i + 1 ∧ S.testBit (k - 1) = true from ⟨z.1, by omega, z.2.2⟩)]
    · rw [if_neg z, if_neg (show ¬ (1 ≤ k ∧ k ≤ i + 1 ∧ S.testBit (k - 1) = true) from fun q => z ⟨q.1, by omega, q.2.2⟩)]
theorem telK_9 (f : Nat → Int32) (m S j i : Nat) (hj : j < 6) : telK f m S j i 9 = f 9 + 1 := by
  unfold telK
  rw [if_neg (by omega), if_neg (by omega), if_pos rfl]
theorem telK_o (f : Nat → Int32) (m S j i : Nat) (hj : j < 6) (hi : i < 6) : telK f m S j i (1 + i) = f (1 + i) := by
  unfold telK
  rw [if_neg (by omega), if_neg (by omega), if_neg (by omega), if_neg (by omega), if_neg (by omega)]
/-- the row behind a telling -/
noncomputable def telR (D : HDt) (f : Nat → Int32) (m t : Nat) (tm : Nat → Nat) (i j b : Nat) : Nat → Int32 := telK f m (falF D m t tm i j b) j (dL D)
set_option maxHeartbeats 4000000 in
theorem s8_tellOn {D : HDt} {a m t i j b : Nat} {tm : Nat → Nat} (hM : MH h D) (hR : RW h a m t tm) (hi : i < 6) (hj : j < dJ D) (hb6 : b < 6) (ha49 : a ≠ 49) : Sp l E SHP 3 M8_tellOn [.ref (E.1 + 49), .ref (E.1 + a), .int (nI i), .int (nI j), .int (nI b)] h (PD none (upr h a (telR D (h a) m t tm i j b))) := by
  refine Sp.of (by decide) (Nat.le_of_ble_eq_true rfl) (fun X C F => ?_)
  have C : Ok X E RX8 cX8_tellOn 7 := C
  have F : Fn X l E SHP 3 none (PD none (upr h a (telR D (h a) m t tm i j b))) := F
  show G X E SHP (0, 0) 0 [(0, .ref (E.1 + 49)), (1, .ref (E.1 + a)), (2, .int (nI i)), (3, .int (nI j)), (4, .int (nI b))] [] h
  have hM0 := hM
  obtain ⟨okd, e16, e17, e540, e541, eL, eJ⟩ := hM
  have o1 := okd.1
  have hj6 := okJ okd hj
  have hR0 := hR
  obtain ⟨ha, h0, hm, ht, hb, htm⟩ := hR
  have hSlt : falF D m t tm i j b < 64 := Nat.lt_of_lt_of_le (falF_lt okd m t tm i j b) (Nat.pow_le_pow_right (n := 2) (by decide) o1)
  generalize hS : falF D m t tm i j b = S at hSlt
  have L : ∀ k, k ≤ dL D → G X E SHP (0, 0) 49 [(0, .ref (E.1 + 49)), (1, .ref (E.1 + a)), (5, .int (nI S)), (6, .int (nI k))] [] (upr h a (telK (h a) m S j k)) := by
    refine loopN (dL D) _ (fun k hk ih => ?_)
    refine r_iload C dX8_tellOn_49 rfl ?_
    refine r_aload_n C dX8_tellOn_51 rfl ?_
    refine r_getI C dX8_tellOn_52 flX8_72 (rfl) rfl ?_
    refine r_icmp_ge 93 C dX8_tellOn_55 (by decide) (fun c_55 => ?_) (fun c_55 => ?_)
    · rw [upr_row _ _ _ (show 49 ≠ a from fun z => ha49 z.symm)] at c_55
      rw [cLe (x := h 49 16) (c := nI k) (i := dL D) (n := k) (e16) (rfl) (by omega) (by omega)] at c_55
      exact r_vret C F dX8_tellOn_93 (pd_v (by unfold telR; rw [hS, show k = dL D by omega]))
    · rw [upr_row _ _ _ (show 49 ≠ a from fun z => ha49 z.symm)] at c_55
      rw [cLe (x := h 49 16) (c := nI k) (i := dL D) (n := k) (e16) (rfl) (by omega) (by omega)] at c_55
      refine r_aload_n C dX8_tellOn_58 rfl ?_
      refine r_iconst (1) C dX8_tellOn_59 rfl ?_
      refine r_iload C dX8_tellOn_60 rfl ?_
      refine r_iadd C dX8_tellOn_62 ?_
      refine r_iload C dX8_tellOn_63 rfl ?_
      refine r_iload C dX8_tellOn_65 rfl ?_
      refine r_cSi C F dX8_tellOn_67 (s8_has) tw_879 m8_has (by decide) rfl (Nat.le_of_ble_eq_true rfl) ?_
      refine r_if_eq 80 C dX8_tellOn_70 (by decide) (fun c_70 => ?_) (fun c_70 => ?_)
      · rw [bz_eq0, hasP_nI (by omega) (by omega)] at c_70
        have hst := telK_s (h a) m S j k hj6 (by omega)
        rw [if_neg c_70] at hst
        refine r_aload_n C dX8_tellOn_80 rfl ?_
        refine r_iconst (1) C dX8_tellOn_81 rfl ?_
        refine r_iload C dX8_tellOn_82 rfl ?_
        refine r_iadd C dX8_tellOn_84 ?_
        refine r_iald (1 + k) C dX8_tellOn_85 (ha) (ix1 k) (by omega) (by decide) ?_
        first | rw [upr_self, telK_9 _ _ _ _ _ hj6] | rw [upr_self, telK_o _ _ _ _ _ hj6 (by omega)]
        refine r_iast (1 + k) C dX8_tellOn_86 (ha) (ix1 k) (by omega) (by decide) ?_
        refine r_inc (1) C dX8_tellOn_87 rfl (by decide) rfl rfl ?_
        refine r_goto 49 C dX8_tellOn_90 (by decide) ?_
        exact (G.eq (ih (by omega)) rfl rfl (by rw [up_upr, hst])).sub ⟨rfl, rfl, rfl, by rw [nI_succ]; rfl, trivial⟩
      · rw [bz_ne0, hasP_nI (by omega) (by omega)] at c_70
        have hst := telK_s (h a) m S j k hj6 (by omega)
        rw [if_pos c_70] at hst
        refine r_aload_n C dX8_tellOn_73 rfl ?_
        refine r_bipush (9) C dX8_tellOn_74 rfl ?_
        refine r_iald (9) C dX8_tellOn_76 (ha) (rfl) (by decide) (by decide) ?_
        refine r_goto 86 C dX8_tellOn_77 (by decide) ?_
        first | rw [upr_self, telK_9 _ _ _ _ _ hj6] | rw [upr_self, telK_o _ _ _ _ _ hj6 (by omega)]
        refine r_iast (1 + k) C dX8_tellOn_86 (ha) (ix1 k) (by omega) (by decide) ?_
        refine r_inc (1) C dX8_tellOn_87 rfl (by decide) rfl rfl ?_
        refine r_goto 49 C dX8_tellOn_90 (by decide) ?_
        exact (G.eq (ih (by omega)) rfl rfl (by rw [up_upr, hst])).sub ⟨rfl, rfl, rfl, by rw [nI_succ]; rfl, trivial⟩
  refine r_aload_n C dX8_tellOn_0 rfl ?_
  refine r_aload_n C dX8_tellOn_1 rfl ?_
  refine r_iload_n C dX8_tellOn_2 rfl ?_
  refine r_iload_n C dX8_tellOn_3 rfl ?_
  refine r_iload C dX8_tellOn_4 rfl ?_
  refine r_cVi C F dX8_tellOn_6 (s8_fallsBy hM0 hR0 hi hj hb6) tw_894 m8_fallsBy (rfl) rfl (by decide) rfl (Nat.le_of_ble_eq_true rfl) ?_
  rw [hS]
  refine r_istore C dX8_tellOn_9 (by decide) rfl ?_
  refine r_aload_n C dX8_tellOn_11 rfl ?_
  refine r_iconst (0) C dX8_tellOn_12 rfl ?_
  refine r_aload_n C dX8_tellOn_13 rfl ?_
  refine r_iconst (0) C dX8_tellOn_14 rfl ?_
  refine r_iald (0) C dX8_tellOn_15 (ha) (rfl) (by decide) (by decide) ?_
  refine r_iload C dX8_tellOn_16 rfl ?_
  refine r_iconst (-1) C dX8_tellOn_18 rfl ?_
  refine r_ixor C dX8_tellOn_19 ?_
  refine r_iand C dX8_tellOn_20 ?_
  rw [h0, nx_nd]
  refine r_iast (0) C dX8_tellOn_21 (ha) (rfl) (by decide) (by decide) ?_
  refine r_aload_n C dX8_tellOn_22 rfl ?_
  refine r_bipush (10) C dX8_tellOn_23 rfl ?_
  refine r_iload_n C dX8_tellOn_25 rfl ?_
  refine r_iadd C dX8_tellOn_26 ?_
  refine r_dup2 C dX8_tellOn_27 rfl rfl ?_
  refine r_iald (10 + j) C dX8_tellOn_28 (ha) (ix10 j) (by omega) (by decide) ?_
  rw [up_off _ _ _ _ (by omega)]
  refine r_iconst (1) C dX8_tellOn_29 rfl ?_
  refine r_iadd C dX8_tellOn_30 ?_
  refine r_iast (10 + j) C dX8_tellOn_31 (ha) (ix10 j) (by omega) (by decide) ?_
  refine r_aload_n C dX8_tellOn_32 rfl ?_
  refine r_bipush (9) C dX8_tellOn_33 rfl ?_
  refine r_dup2 C dX8_tellOn_35 rfl rfl ?_
  refine r_iald (9) C dX8_tellOn_36 (ha) (rfl) (by decide) (by decide) ?_
  rw [up_off _ _ _ _ (by omega), up_off _ _ _ _ (by omega)]
  refine r_iconst (1) C dX8_tellOn_37 rfl ?_
  refine r_iadd C dX8_tellOn_38 ?_
  refine r_iast (9) C dX8_tellOn_39 (ha) (rfl) (by decide) (by decide) ?_
  refine r_aload_n C dX8_tellOn_40 rfl ?_
  refine r_bipush (7) C dX8_tellOn_41 rfl ?_
  refine r_iload C dX8_tellOn_43 rfl ?_
  refine r_iast (7) C dX8_tellOn_45 (ha) (rfl) (by decide) (by decide) ?_
  refine r_iconst (0) C dX8_tellOn_46 rfl ?_
  refine r_istore C dX8_tellOn_47 (by decide) rfl ?_
  exact (G.eq (L 0 (by omega)) rfl rfl (telK_0 h a m S j hj6)).sub ⟨rfl, rfl, rfl, rfl, trivial⟩
