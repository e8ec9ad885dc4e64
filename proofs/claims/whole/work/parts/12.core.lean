variable {l : Launch} {E : Ev} {h : Hp}
/-- the model's hall -/
def MH (h : Hp) (D : HDt) : Prop := okD D ∧ h 49 16 = nI (dL D) ∧ h 49 17 = nI (dJ D) ∧ h 54 0 = nI (dU D) ∧ h 54 1 = nI (dN D) ∧ (∀ i, i < dL D → h 55 (3 * i) = nI (dB D i) ∧ h 55 (3 * i + 1) = nI (dS D i) ∧ h 55 (3 * i + 2) = nI (dT D i)) ∧ ∀ j, j < dJ D → h 56 (2 * j) = nI (dK D j) ∧ h 56 (2 * j + 1) = nI (dF D j)
theorem MH.row {D : HDt} (q : MH h D) {a : Nat} (f : Nat → Int32) (e : a ≠ 49 ∧ a ≠ 54 ∧ a ≠ 55 ∧ a ≠ 56) : MH (upr h a f) D := by
  unfold MH
  rw [upr_row _ _ _ e.1.symm, upr_row _ _ _ e.2.1.symm, upr_row _ _ _ e.2.2.1.symm, upr_row _ _ _ e.2.2.2.symm]
  exact q
theorem MH.up {D : HDt} (q : MH h D) {a : Nat} (k : Nat) (x : Int32) (e : a ≠ 49 ∧ a ≠ 54 ∧ a ≠ 55 ∧ a ≠ 56) : MH (up h a k x) D := q.row _ e
theorem hold_v {s N t : Nat} (hs : s ≤ 20) (hN : N ≤ 3) (ht : t ≤ 100000) : (1 ≤ nI s - nI N * nI t → nI s - nI N * nI t = nI (max 1 (s - N * t))) ∧ (¬ 1 ≤ nI s - nI N * nI t → (1 : Int32) = nI (max 1 (s - N * t))) := by
  have hb : N * t ≤ 300000 := Nat.le_trans (Nat.mul_le_mul hN ht) (by decide)
  rw [pk_mul]
  rcases Nat.lt_or_ge (N * t) s with c | c
  · rw [pk_sub (Nat.le_of_lt c), show max 1 (s - N * t) = s - N * t by omega]
    exact ⟨fun _ => rfl, fun q => absurd ((cLe (x := 1) (i := 1) rfl rfl (by omega) (by omega)).mpr (by omega)) q⟩
  · rw [show max 1 (s - N * t) = 1 by omega]
    refine ⟨fun q => ?_, fun _ => rfl⟩
    rcases Nat.lt_or_ge s (N * t) with d | d
    · have h1 := pk_sneg (by omega : N * t < 2 ^ 30) d
      have h2 := Int32.le_iff_toInt_le.mp q
      have h3 := Int32.lt_iff_toInt_lt.mp h1
      rw [show (1 : Int32).toInt = 1 by decide] at h2
      rw [show (0 : Int32).toInt = 0 by decide] at h3
      omega
    · rw [pk_sub d, show s - N * t = 0 by omega] at q
      exact absurd q (by decide)
set_option maxHeartbeats 4000000 in
theorem s8_holdOf {D : HDt} {a i t : Nat} (hM : MH h D) (ha : SHP[a]? = some (.inr (0, 16))) (ht : h a 8 = nI t) (hb : t ≤ 100000) (hi : i < dL D) : Sp l E SHP 0 M8_holdOf [.ref (E.1 + 49), .ref (E.1 + a), .int (nI i)] h (PD (some (.int (nI (hdF D t i)))) h) := by
  refine Sp.of (by decide) (Nat.le_of_ble_eq_true rfl) (fun X C F => ?_)
  have C : Ok X E RX8 cX8_holdOf 4 := C
  have F : Fn X l E SHP 0 (some FieldType.int) (PD (some (.int (nI (hdF D t i)))) h) := F
  show G X E SHP (0, 0) 0 [(0, .ref (E.1 + 49)), (1, .ref (E.1 + a)), (2, .int (nI i))] [] h
  obtain ⟨okd, e16, e17, e540, e541, eL, eJ⟩ := hM
  obtain ⟨o1, o2, o3, o4, o5, o6⟩ := okd
  refine r_aload_n C dX8_holdOf_0 rfl ?_
  refine r_getR C dX8_holdOf_1 flX8_29 (rfl) rfl ?_
  refine r_iconst (3) C dX8_holdOf_4 rfl ?_
  refine r_iload_n C dX8_holdOf_5 rfl ?_
  refine r_imul C dX8_holdOf_6 ?_
  refine r_iconst (1) C dX8_holdOf_7 rfl ?_
  refine r_iadd C dX8_holdOf_8 ?_
  refine r_iald (3 * i + 1) C dX8_holdOf_9 (rfl) (ix31 i) (by omega) (by decide) ?_
  refine r_aload_n C dX8_holdOf_10 rfl ?_
  refine r_getR C dX8_holdOf_11 flX8_26 (rfl) rfl ?_
  refine r_iconst (1) C dX8_holdOf_14 rfl ?_
  refine r_iald (1) C dX8_holdOf_15 (rfl) (rfl) (by decide) (by decide) ?_
  refine r_aload_n C dX8_holdOf_16 rfl ?_
  refine r_bipush (8) C dX8_holdOf_17 rfl ?_
  refine r_iald (8) C dX8_holdOf_19 (ha) (rfl) (by decide) (by decide) ?_
  refine r_imul C dX8_holdOf_20 ?_
  refine r_isub C dX8_holdOf_21 ?_
  refine r_istore_n C dX8_holdOf_22 (by decide) rfl ?_
  have hv := hold_v (o5 i hi).2.2.1 o4 hb
  rw [← (eL i hi).2.1, ← e541, ← ht] at hv
  refine r_iload_n C dX8_holdOf_23 rfl ?_
  refine r_iconst (1) C dX8_holdOf_24 rfl ?_
  refine r_icmp_ge 32 C dX8_holdOf_25 (by decide) (fun c_25 => ?_) (fun c_25 => ?_)
  · refine r_iload_n C dX8_holdOf_32 rfl ?_
    exact r_iret C F dX8_holdOf_33 (pd_i (by first | exact hv.1 c_25 | exact hv.2 c_25) (rfl))
  · refine r_iconst (1) C dX8_holdOf_28 rfl ?_
    refine r_goto 33 C dX8_holdOf_29 (by decide) ?_
    exact r_iret C F dX8_holdOf_33 (pd_i (by first | exact hv.1 c_25 | exact hv.2 c_25) (rfl))
theorem half_s (f k : Nat) (hf : f < 2147483648) : nI (f / 2 ^ k) / 2 = nI (f / 2 ^ (k + 1)) := by
  have := pk_div (a := f / 2 ^ k) (d := 2) (Nat.lt_of_le_of_lt (Nat.div_le_self _ _) hf) (by decide) (by decide)
  rw [Nat.div_div_eq_div_mul, ← Nat.pow_succ] at this
  exact this
theorem half_0 {f k n : Nat} (h0 : f / 2 ^ k = 0) (hk : k ≤ n) : f / 2 ^ n = 0 := by
  have h1 : f < 2 ^ k := (Nat.div_eq_zero_iff_lt (Nat.two_pow_pos k)).mp h0
  exact Nat.div_eq_of_lt (Nat.lt_of_lt_of_le h1 (Nat.pow_le_pow_right (by decide) hk))
set_option maxHeartbeats 4000000 in
theorem s8_funOf {D : HDt} {a j t : Nat} (hM : MH h D) (ha : SHP[a]? = some (.inr (0, 16))) (hj : j < dJ D) (ht : h a (10 + j) = nI t) (hb : t ≤ 100000) : Sp l E SHP 0 M8_funOf [.ref (E.1 + 49), .ref (E.1 + a), .int (nI j)] h (PD (some (.int (nI (dF D j / 2 ^ t)))) h) := by
  refine Sp.of (by decide) (Nat.le_of_ble_eq_true rfl) (fun X C F => ?_)
  have C : Ok X E RX8 cX8_funOf 5 := C
  have F : Fn X l E SHP 0 (some FieldType.int) (PD (some (.int (nI (dF D j / 2 ^ t)))) h) := F
  show G X E SHP (0, 0) 0 [(0, .ref (E.1 + 49)), (1, .ref (E.1 + a)), (2, .int (nI j))] [] h
  obtain ⟨okd, e16, e17, e540, e541, eL, eJ⟩ := hM
  obtain ⟨o1, o2, o3, o4, o5, o6⟩ := okd
  have o7 := o6 j hj
  have L : ∀ k, k ≤ t → G X E SHP (0, 0) 14 [(0, .ref (E.1 + 49)), (1, .ref (E.1 + a)), (2, .int (nI j)), (3, .int (nI (dF D j / 2 ^ k))), (4, .int (nI k))] [] h := by
    refine loopN t _ (fun k hk ih => ?_)
    have hle : dF D j / 2 ^ k ≤ 30 := Nat.le_trans (Nat.div_le_self _ _) o7.2.2
    refine r_iload C dX8_funOf_14 rfl ?_
    refine r_aload_n C dX8_funOf_16 rfl ?_
    refine r_bipush (10) C dX8_funOf_17 rfl ?_
    refine r_iload_n C dX8_funOf_19 rfl ?_
    refine r_iadd C dX8_funOf_20 ?_
    refine r_iald (10 + j) C dX8_funOf_21 (ha) (ix10 j) (by omega) (by decide) ?_
    refine r_icmp_ge 39 C dX8_funOf_22 (by decide) (fun c_22 => ?_) (fun c_22 => ?_)
    · rw [cLe (x := h a (10 + j)) (c := nI k) (i := t) (n := k) (ht) (rfl) (by omega) (by omega)] at c_22
      refine r_iload_n C dX8_funOf_39 rfl ?_
      exact r_iret C F dX8_funOf_40 (pd_i (by first | rw [show k = t by omega] | rw [Nat.le_zero.mp c_26, half_0 (Nat.le_zero.mp c_26) hk]) (rfl))
    · rw [cLe (x := h a (10 + j)) (c := nI k) (i := t) (n := k) (ht) (rfl) (by omega) (by omega)] at c_22
      refine r_iload_n C dX8_funOf_25 rfl ?_
      refine r_if_le 39 C dX8_funOf_26 (by decide) (fun c_26 => ?_) (fun c_26 => ?_)
      · rw [cLe (x := nI (dF D j / 2 ^ k)) (c := 0) (i := dF D j / 2 ^ k) (n := 0) (rfl) (rfl) (by omega) (by omega)] at c_26
        refine r_iload_n C dX8_funOf_39 rfl ?_
        exact r_iret C F dX8_funOf_40 (pd_i (by first | rw [show k = t by omega] | rw [Nat.le_zero.mp c_26, half_0 (Nat.le_zero.mp c_26) hk]) (rfl))
      · rw [cLe (x := nI (dF D j / 2 ^ k)) (c := 0) (i := dF D j / 2 ^ k) (n := 0) (rfl) (rfl) (by omega) (by omega)] at c_26
        refine r_iload_n C dX8_funOf_29 rfl ?_
        refine r_iconst (2) C dX8_funOf_30 rfl ?_
        refine r_idiv C dX8_funOf_31 (by decide) ?_
        refine r_istore_n C dX8_funOf_32 (by decide) rfl ?_
        refine r_inc (1) C dX8_funOf_33 rfl (by decide) rfl rfl ?_
        refine r_goto 14 C dX8_funOf_36 (by decide) ?_
        exact (ih (by omega)).sub ⟨rfl, rfl, rfl, by rw [← half_s _ _ (by omega)]; rfl, by rw [nI_succ]; rfl, trivial⟩
  refine r_aload_n C dX8_funOf_0 rfl ?_
  refine r_getR C dX8_funOf_1 flX8_32 (rfl) rfl ?_
  refine r_iconst (2) C dX8_funOf_4 rfl ?_
  refine r_iload_n C dX8_funOf_5 rfl ?_
  refine r_imul C dX8_funOf_6 ?_
  refine r_iconst (1) C dX8_funOf_7 rfl ?_
  refine r_iadd C dX8_funOf_8 ?_
  refine r_iald (2 * j + 1) C dX8_funOf_9 (rfl) (ix21 j) (by omega) (by decide) ?_
  rw [(eJ j hj).2]
  refine r_istore_n C dX8_funOf_10 (by decide) rfl ?_
  refine r_iconst (0) C dX8_funOf_11 rfl ?_
  refine r_istore C dX8_funOf_12 (by decide) rfl ?_
  exact (L 0 (by omega)).sub ⟨rfl, rfl, rfl, by rw [Nat.pow_zero, Nat.div_one]; rfl, rfl, trivial⟩
set_option maxHeartbeats 4000000 in
theorem s8_hasTaste {D : HDt} {i j : Nat} (hM : MH h D) (hi : i < dL D) (hj : j < dJ D) : Sp l E SHP 1 M8_hasTaste [.ref (E.1 + 49), .int (nI i), .int (nI j)] h (PD (some (.int (bz (likes D i j = true)))) h) := by
  refine Sp.of (by decide) (Nat.le_of_ble_eq_true rfl) (fun X C F => ?_)
  have C : Ok X E RX8 cX8_hasTaste 3 := C
  have F : Fn X l E SHP 1 (some FieldType.boolean) (PD (some (.int (bz (likes D i j = true)))) h) := F
  show G X E SHP (0, 0) 0 [(0, .ref (E.1 + 49)), (1, .int (nI i)), (2, .int (nI j))] [] h
  obtain ⟨okd, e16, e17, e540, e541, eL, eJ⟩ := hM
  obtain ⟨o1, o2, o3, o4, o5, o6⟩ := okd
  refine r_aload_n C dX8_hasTaste_0 rfl ?_
  refine r_getR C dX8_hasTaste_1 flX8_29 (rfl) rfl ?_
  refine r_iconst (3) C dX8_hasTaste_4 rfl ?_
  refine r_iload_n C dX8_hasTaste_5 rfl ?_
  refine r_imul C dX8_hasTaste_6 ?_
  refine r_iconst (2) C dX8_hasTaste_7 rfl ?_
  refine r_iadd C dX8_hasTaste_8 ?_
  refine r_iald (3 * i + 2) C dX8_hasTaste_9 (rfl) (ix32 i) (by omega) (by decide) ?_
  refine r_aload_n C dX8_hasTaste_10 rfl ?_
  refine r_getR C dX8_hasTaste_11 flX8_32 (rfl) rfl ?_
  refine r_iconst (2) C dX8_hasTaste_14 rfl ?_
  refine r_iload_n C dX8_hasTaste_15 rfl ?_
  refine r_imul C dX8_hasTaste_16 ?_
  refine r_iald (2 * j) C dX8_hasTaste_17 (rfl) (nI_lit2 j) (by omega) (by decide) ?_
  rw [(eJ j hj).1, (eL i hi).2.2]
  refine r_cSi C F dX8_hasTaste_18 (s8_has) tw_879 m8_has (by decide) rfl (Nat.le_of_ble_eq_true rfl) ?_
  exact r_zret C F dX8_hasTaste_21 (by first | rfl | exact narrow_bz _) (pd_i (bz_congr (hasP_nI (by have := (o5 i hi).2.2.2; omega) (by have := (o6 j hj).1; omega))) (rfl))
set_option maxHeartbeats 4000000 in
theorem s8_caught {D : HDt} {a t m0 my : Nat} (hM : MH h D) (ha : SHP[a]? = some (.inr (0, 16))) (ht : h a 8 = nI t) (hb : t ≤ 100000) (hm0 : m0 < 2 ^ dL D) (hmy : my < 64) : Sp l E SHP 1 M8_caught [.ref (E.1 + 49), .ref (E.1 + a), .int (nI m0), .int (nI my)] h (PD (some (.int (nI (clF D t my m0)))) h) := by
  refine Sp.of (by decide) (Nat.le_of_ble_eq_true rfl) (fun X C F => ?_)
  have C : Ok X E RX8 cX8_caught 9 := C
  have F : Fn X l E SHP 1 (some FieldType.int) (PD (some (.int (nI (clF D t my m0)))) h) := F
  show G X E SHP (0, 0) 0 [(0, .ref (E.1 + 49)), (1, .ref (E.1 + a)), (2, .int (nI m0)), (3, .int (nI my))] [] h
  have hM0 := hM
  obtain ⟨okd, e16, e17, e540, e541, eL, eJ⟩ := hM
  obtain ⟨o1, o2, o3, o4, o5, o6⟩ := okd
  have p6 : 2 ^ dL D ≤ 64 := Nat.pow_le_pow_right (n := 2) (by decide) o1
  have EX : ∀ r, IsCl D t my m0 r → G X E SHP (0, 0) 6 [(0, .ref (E.1 + 49)), (1, .ref (E.1 + a)), (3, .int (nI my)), (4, .int (nI r)), (5, .int 0)] [] h := by
    intro r hr
    refine r_iload C dX8_caught_6 rfl ?_
    refine r_if_eq 142 C dX8_caught_8 (by decide) (fun c_8 => ?_) (fun c_8 => ?_)
    · refine r_iload C dX8_caught_142 rfl ?_
      exact r_iret C F dX8_caught_144 (pd_i (by rw [hr.eq]) (rfl))
    · exact absurd rfl c_8
  have OUT : ∀ (f m : Nat), 64 ≤ m + f → m < 2 ^ dL D → sub m0 m → (∀ Y, sub m0 Y → Closed D t my Y → sub m Y) → G X E SHP (0, 0) 6 [(0, .ref (E.1 + 49)), (1, .ref (E.1 + a)), (3, .int (nI my)), (4, .int (nI m)), (5, .int 1)] [] h := by
    intro f
    induction f with
    | zero => intro m q1 q2; omega
    | succ f ihf =>
      intro m q1 q2 q3 q4
      have MID : ∀ i, i ≤ dL D → G X E SHP (0, 0) 17 [(0, .ref (E.1 + 49)), (1, .ref (E.1 + a)), (3, .int (nI my)), (4, .int (nI (sw D t my m i))), (5, .int (bz (¬ sw D t my m i = m))), (6, .int (nI i))] [] h := by
        refine loopN (dL D) _ (fun i hi ih => ?_)
        have hmi := sw_lt D t my m (dL D) q2 i hi
        generalize hmm : sw D t my m i = mi at hmi ⊢
        have INN : i < dL D → ∀ k, k ≤ dL D → G X E SHP (0, 0) 32 [(0, .ref (E.1 + 49)), (1, .ref (E.1 + a)), (3, .int (nI my)), (4, .int (nI mi)), (5, .int (bz (¬ mi = m))), (6, .int (nI i)), (7, .int (nI (cnt (fun o => mi.testBit o && (dB D o == dB D i)) k))), (8, .int (nI k))] [] h := by
          intro hi2
          have hb1 := o5 i hi2
          refine loopN (dL D) _ (fun k hk ihk => ?_)
          have hcl := cnt_le (fun o => mi.testBit o && (dB D o == dB D i)) k
          refine r_iload C dX8_caught_32 rfl ?_
          refine r_aload_n C dX8_caught_34 rfl ?_
          refine r_getI C dX8_caught_35 flX8_72 (rfl) rfl ?_
          refine r_icmp_ge 88 C dX8_caught_38 (by decide) (fun c_38 => ?_) (fun c_38 => ?_)
          · rw [cLe (x := h 49 16) (c := nI k) (i := dL D) (n := k) (e16) (rfl) (by omega) (by omega)] at c_38
            refine r_iload_n C dX8_caught_88 rfl ?_
            refine r_iload C dX8_caught_89 rfl ?_
            refine r_cSi C F dX8_caught_91 (s8_has) tw_879 m8_has (by decide) rfl (Nat.le_of_ble_eq_true rfl) ?_
            refine r_if_eq 133 C dX8_caught_94 (by decide) (fun c_94 => ?_) (fun c_94 => ?_)
            · rw [bz_eq0, hasP_nI (by omega) (by omega), Bool.not_eq_true] at c_94
              have hA : swC D t my mi i = false := by simp [swC, c_94]
              have hB : sw D t my m (i + 1) = mi := by show (if swC D t my (sw D t my m i) i then sw D t my m i ||| 2 ^ i else sw D t my m i) = _; rw [hmm, hA]; rfl
              refine r_inc (1) C dX8_caught_133 rfl (by decide) rfl rfl ?_
              refine r_goto 17 C dX8_caught_136 (by decide) ?_
              first
              | exact (ih hi2).sub ⟨rfl, rfl, rfl, (by rw [hB, ← nx_or, ← shl1_nI (by omega)]; rfl), (by rw [bz_t (show ¬ sw D t my m (i + 1) = m by rw [hB]; exact fun z => absurd (lt_or c_104) (by have := sw_le D t my m i; omega))]; rfl), by rw [nI_succ]; rfl, trivial⟩
              | exact (ih hi2).sub ⟨rfl, rfl, rfl, (by rw [hB]; rfl), (by rw [hB]; rfl), by rw [nI_succ]; rfl, trivial⟩
            · rw [bz_ne0, hasP_nI (by omega) (by omega)] at c_94
              refine r_iload C dX8_caught_97 rfl ?_
              refine r_iload C dX8_caught_99 rfl ?_
              refine r_cSi C F dX8_caught_101 (s8_has) tw_879 m8_has (by decide) rfl (Nat.le_of_ble_eq_true rfl) ?_
              refine r_if_ne 133 C dX8_caught_104 (by decide) (fun c_104 => ?_) (fun c_104 => ?_)
              · rw [bz_ne0, hasP_nI (by omega) (by omega)] at c_104
                have hA : swC D t my mi i = false := by simp [swC, c_104]
                have hB : sw D t my m (i + 1) = mi := by show (if swC D t my (sw D t my m i) i then sw D t my m i ||| 2 ^ i else sw D t my m i) = _; rw [hmm, hA]; rfl
                refine r_inc (1) C dX8_caught_133 rfl (by decide) rfl rfl ?_
                refine r_goto 17 C dX8_caught_136 (by decide) ?_
                first
                | exact (ih hi2).sub ⟨rfl, rfl, rfl, (by rw [hB, ← nx_or, ← shl1_nI (by omega)]; rfl), (by rw [bz_t (show ¬ sw D t my m (i + 1) = m by rw [hB]; exact fun z => absurd (lt_or c_104) (by have := sw_le D t my m i; omega))]; rfl), by rw [nI_succ]; rfl, trivial⟩
                | exact (ih hi2).sub ⟨rfl, rfl, rfl, (by rw [hB]; rfl), (by rw [hB]; rfl), by rw [nI_succ]; rfl, trivial⟩
              · rw [bz_eq0, hasP_nI (by omega) (by omega), Bool.not_eq_true] at c_104
                have hk2 : k = dL D := by omega
                subst hk2
                refine r_iconst (3) C dX8_caught_107 rfl ?_
                refine r_iload C dX8_caught_108 rfl ?_
                refine r_imul C dX8_caught_110 ?_
                refine r_aload_n C dX8_caught_111 rfl ?_
                refine r_aload_n C dX8_caught_112 rfl ?_
                refine r_iload C dX8_caught_113 rfl ?_
                refine r_cVi C F dX8_caught_115 (s8_holdOf hM0 ha ht hb hi2) tw_855 m8_holdOf (rfl) rfl (by decide) rfl (Nat.le_of_ble_eq_true rfl) ?_
                refine r_icmp_lt 133 C dX8_caught_118 (by decide) (fun c_118 => ?_) (fun c_118 => ?_)
                · rw [nI_lit3, nI_ltI (by omega) (by unfold hdF; omega)] at c_118
                  have hA : swC D t my mi i = false := by simp only [swC, c_94, c_104, decide_eq_false (show ¬ hdF D t i ≤ 3 * besN D mi i from Nat.not_le.mpr c_118), Bool.and_false]
                  have hB : sw D t my m (i + 1) = mi := by show (if swC D t my (sw D t my m i) i then sw D t my m i ||| 2 ^ i else sw D t my m i) = _; rw [hmm, hA]; rfl
                  refine r_inc (1) C dX8_caught_133 rfl (by decide) rfl rfl ?_
                  refine r_goto 17 C dX8_caught_136 (by decide) ?_
                  first
                  | exact (ih hi2).sub ⟨rfl, rfl, rfl, (by rw [hB, ← nx_or, ← shl1_nI (by omega)]; rfl), (by rw [bz_t (show ¬ sw D t my m (i + 1) = m by rw [hB]; exact fun z => absurd (lt_or c_104) (by have := sw_le D t my m i; omega))]; rfl), by rw [nI_succ]; rfl, trivial⟩
                  | exact (ih hi2).sub ⟨rfl, rfl, rfl, (by rw [hB]; rfl), (by rw [hB]; rfl), by rw [nI_succ]; rfl, trivial⟩
                · rw [nI_lit3, nI_ltI (by omega) (by unfold hdF; omega)] at c_118
                  have hA : swC D t my mi i = true := by simp only [swC, c_94, c_104, decide_eq_true (show hdF D t i ≤ 3 * besN D mi i from Nat.not_lt.mp c_118), Bool.not_false, Bool.and_self]
                  have hB : sw D t my m (i + 1) = mi ||| 2 ^ i := by show (if swC D t my (sw D t my m i) i then sw D t my m i ||| 2 ^ i else sw D t my m i) = _; rw [hmm, hA]; rfl
                  refine r_iload C dX8_caught_121 rfl ?_
                  refine r_iconst (1) C dX8_caught_123 rfl ?_
                  refine r_iload C dX8_caught_124 rfl ?_
                  refine r_ishl C dX8_caught_126 ?_
                  refine r_ior C dX8_caught_127 ?_
                  refine r_istore C dX8_caught_128 (by decide) rfl ?_
                  refine r_iconst (1) C dX8_caught_130 rfl ?_
                  refine r_istore C dX8_caught_131 (by decide) rfl ?_
                  refine r_inc (1) C dX8_caught_133 rfl (by decide) rfl rfl ?_
                  refine r_goto 17 C dX8_caught_136 (by decide) ?_
                  first
                  | exact (ih hi2).sub ⟨rfl, rfl, rfl, (by rw [hB, ← nx_or, ← shl1_nI (by omega)]; rfl), (by rw [bz_t (show ¬ sw D t my m (i + 1) = m by rw [hB]; exact fun z => absurd (lt_or c_104) (by have := sw_le D t my m i; omega))]; rfl), by rw [nI_succ]; rfl, trivial⟩
                  | exact (ih hi2).sub ⟨rfl, rfl, rfl, (by rw [hB]; rfl), (by rw [hB]; rfl), by rw [nI_succ]; rfl, trivial⟩
          · rw [cLe (x := h 49 16) (c := nI k) (i := dL D) (n := k) (e16) (rfl) (by omega) (by omega)] at c_38
            refine r_iload C dX8_caught_41 rfl ?_
            refine r_iload C dX8_caught_43 rfl ?_
            refine r_iload C dX8_caught_45 rfl ?_
            refine r_cSi C F dX8_caught_47 (s8_has) tw_879 m8_has (by decide) rfl (Nat.le_of_ble_eq_true rfl) ?_
            refine r_if_eq 78 C dX8_caught_50 (by decide) (fun c_50 => ?_) (fun c_50 => ?_)
            · rw [bz_eq0, hasP_nI (by omega) (by omega), Bool.not_eq_true] at c_50
              refine r_iconst (0) C dX8_caught_78 rfl ?_
              refine r_iadd C dX8_caught_79 ?_
              refine r_istore C dX8_caught_80 (by decide) rfl ?_
              refine r_inc (1) C dX8_caught_82 rfl (by decide) rfl rfl ?_
              refine r_goto 32 C dX8_caught_85 (by decide) ?_
              exact (ihk (by omega)).sub ⟨rfl, rfl, rfl, rfl, rfl, rfl, (by rw [show cnt (fun o => mi.testBit o && (dB D o == dB D i)) (k + 1) = cnt (fun o => mi.testBit o && (dB D o == dB D i)) k + 0 by simp [cnt, c_50], ← nI_add]; rfl), by rw [nI_succ]; rfl, trivial⟩
            · rw [bz_ne0, hasP_nI (by omega) (by omega)] at c_50
              have hb2 := o5 k (by omega)
              refine r_aload_n C dX8_caught_53 rfl ?_
              refine r_getR C dX8_caught_54 flX8_29 (rfl) rfl ?_
              refine r_iconst (3) C dX8_caught_57 rfl ?_
              refine r_iload C dX8_caught_58 rfl ?_
              refine r_imul C dX8_caught_60 ?_
              refine r_iald (3 * k) C dX8_caught_61 (rfl) (nI_lit3 k) (by omega) (by decide) ?_
              refine r_aload_n C dX8_caught_62 rfl ?_
              refine r_getR C dX8_caught_63 flX8_29 (rfl) rfl ?_
              refine r_iconst (3) C dX8_caught_66 rfl ?_
              refine r_iload C dX8_caught_67 rfl ?_
              refine r_imul C dX8_caught_69 ?_
              refine r_iald (3 * i) C dX8_caught_70 (rfl) (nI_lit3 i) (by omega) (by decide) ?_
              refine r_icmp_ne 78 C dX8_caught_71 (by decide) (fun c_71 => ?_) (fun c_71 => ?_)
              · rw [(eL k (by omega)).1, (eL i hi2).1, nI_eq (by omega) (by omega)] at c_71
                refine r_iconst (0) C dX8_caught_78 rfl ?_
                refine r_iadd C dX8_caught_79 ?_
                refine r_istore C dX8_caught_80 (by decide) rfl ?_
                refine r_inc (1) C dX8_caught_82 rfl (by decide) rfl rfl ?_
                refine r_goto 32 C dX8_caught_85 (by decide) ?_
                exact (ihk (by omega)).sub ⟨rfl, rfl, rfl, rfl, rfl, rfl, (by rw [show cnt (fun o => mi.testBit o && (dB D o == dB D i)) (k + 1) = cnt (fun o => mi.testBit o && (dB D o == dB D i)) k + 0 by simp [cnt, c_50, c_71], ← nI_add]; rfl), by rw [nI_succ]; rfl, trivial⟩
              · rw [(eL k (by omega)).1, (eL i hi2).1, nI_eq (by omega) (by omega)] at c_71
                refine r_iconst (1) C dX8_caught_74 rfl ?_
                refine r_goto 79 C dX8_caught_75 (by decide) ?_
                refine r_iadd C dX8_caught_79 ?_
                refine r_istore C dX8_caught_80 (by decide) rfl ?_
                refine r_inc (1) C dX8_caught_82 rfl (by decide) rfl rfl ?_
                refine r_goto 32 C dX8_caught_85 (by decide) ?_
                exact (ihk (by omega)).sub ⟨rfl, rfl, rfl, rfl, rfl, rfl, (by rw [show cnt (fun o => mi.testBit o && (dB D o == dB D i)) (k + 1) = cnt (fun o => mi.testBit o && (dB D o == dB D i)) k + 1 by simp [cnt, c_50, c_71], ← nI_add]; rfl), by rw [nI_succ]; rfl, trivial⟩
        refine r_iload C dX8_caught_17 rfl ?_
        refine r_aload_n C dX8_caught_19 rfl ?_
        refine r_getI C dX8_caught_20 flX8_72 (rfl) rfl ?_
        refine r_icmp_ge 139 C dX8_caught_23 (by decide) (fun c_23 => ?_) (fun c_23 => ?_)
        · rw [cLe (x := h 49 16) (c := nI i) (i := dL D) (n := i) (e16) (rfl) (by omega) (by omega)] at c_23
          refine r_goto 6 C dX8_caught_139 (by decide) ?_
          have hin : i = dL D := by omega
          subst hin
          by_cases hz : mi = m
          · exact (EX mi ⟨hz ▸ q3, hz ▸ sw_closed (hmm.trans hz), hz ▸ q4⟩).sub ⟨rfl, rfl, rfl, rfl, by rw [bz_f (not_not_intro hz)]; rfl, trivial⟩
          · have hle := sw_le D t my m (dL D)
            exact (ihf mi (by omega) hmi (hmm ▸ sub_tr q3 (sw_sub D t my m _)) (fun Y y1 y2 => hmm ▸ sw_in D t my m Y (q4 Y y1 y2) y2 _ (Nat.le_refl _))).sub ⟨rfl, rfl, rfl, rfl, by rw [bz_t hz]; rfl, trivial⟩
        · rw [cLe (x := h 49 16) (c := nI i) (i := dL D) (n := i) (e16) (rfl) (by omega) (by omega)] at c_23
          refine r_iconst (0) C dX8_caught_26 rfl ?_
          refine r_istore C dX8_caught_27 (by decide) rfl ?_
          refine r_iconst (0) C dX8_caught_29 rfl ?_
          refine r_istore C dX8_caught_30 (by decide) rfl ?_
          exact (INN (by omega) 0 (by omega)).sub ⟨rfl, rfl, rfl, rfl, rfl, rfl, rfl, rfl, trivial⟩
      refine r_iload C dX8_caught_6 rfl ?_
      refine r_if_eq 142 C dX8_caught_8 (by decide) (fun c_8 => ?_) (fun c_8 => ?_)
      · exact absurd c_8 (by decide)
      · refine r_iconst (0) C dX8_caught_11 rfl ?_
        refine r_istore C dX8_caught_12 (by decide) rfl ?_
        refine r_iconst (0) C dX8_caught_14 rfl ?_
        refine r_istore C dX8_caught_15 (by decide) rfl ?_
        exact (MID 0 (by omega)).sub ⟨rfl, rfl, rfl, rfl, by rw [bz_f (not_not_intro (show sw D t my m 0 = m from rfl))]; rfl, rfl, trivial⟩
  refine r_iload_n C dX8_caught_0 rfl ?_
  refine r_istore C dX8_caught_1 (by decide) rfl ?_
  refine r_iconst (1) C dX8_caught_3 rfl ?_
  refine r_istore C dX8_caught_4 (by decide) rfl ?_
  exact (OUT 64 m0 (by omega) hm0 (sub_rfl _) (fun Y y1 _ => y1)).sub ⟨rfl, rfl, rfl, rfl, rfl, trivial⟩
