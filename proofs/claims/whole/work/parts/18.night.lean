variable {l : Launch} {E : Ev} {h : Hp}
def nigK (f : Nat → Int32) (tm : Nat → Nat) (n : Nat) : Nat → Int32 := fun k => if k = 8 then f 8 + 1 else if 10 ≤ k ∧ k < 10 + n then nI (tm (k - 10) - 1) else f k
theorem nigK_s (f : Nat → Int32) (tm : Nat → Nat) (n : Nat) : upd (nigK f tm n) (10 + n) (nI (tm n - 1)) = nigK f tm (n + 1) := funext fun k => by
  unfold upd nigK
  by_cases c : k = 10 + n
  · subst c
    rw [if_pos rfl, if_neg (by omega), if_pos (by omega), show 10 + n - 10 = n by omega]
  · rw [if_neg c]
    by_cases z : 10 ≤ k ∧ k < 10 + n
    · rw [if_pos z, if_pos (show 10 ≤ k ∧ k < 10 + (n + 1) from ⟨z.1, by omega⟩)]
    · rw [if_neg z, if_neg (show ¬ (10 ≤ k ∧ k < 10 + (n + 1)) by omega)]
theorem nigK_at (f : Nat → Int32) (tm : Nat → Nat) (n : Nat) : nigK f tm n (10 + n) = f (10 + n) := by
  unfold nigK
  rw [if_neg (by omega), if_neg (by omega)]
theorem MomR_night {D : HDt} {u : Mom} {f : Nat → Int32} (q : MomR f u) (ok : okM D u) : MomR (nigK f (mM u) (dJ D)) (nightA u) := by
  obtain ⟨q0, q7, q8, q9, qo, qt⟩ := q
  refine ⟨?_, ?_, ?_, ?_, fun k hk => ?_, fun k hk => ?_⟩
  · show nigK f _ _ 0 = _
    unfold nigK
    rw [if_neg (by omega), if_neg (by omega)]; exact q0
  · show nigK f _ _ 7 = _
    unfold nigK
    rw [if_neg (by omega), if_neg (by omega)]; exact q7
  · show nigK f _ _ 8 = _
    unfold nigK
    rw [if_pos rfl, q8, nI_1]; rfl
  · show nigK f _ _ 9 = _
    unfold nigK
    rw [if_neg (by omega), if_neg (by omega)]; exact q9
  · show nigK f _ _ (1 + k) = _
    unfold nigK
    rw [if_neg (by omega), if_neg (by omega)]; exact qo k hk
  · show nigK f _ _ (10 + k) = nI (mM u k - 1)
    unfold nigK
    rw [if_neg (by omega), show 10 + k - 10 = k by omega]
    by_cases z : k < dJ D
    · rw [if_pos ⟨by omega, by omega⟩]
    · rw [if_neg (by omega), qt k hk, ok.2.2.2.2.2 k (by omega)]
set_option maxHeartbeats 4000000 in
theorem s8_passNight {b nj : Nat} {tm : Nat → Nat} (hb : h 49 26 = nI b) (hb30 : b ≤ 30) (hnj : h 49 17 = nI nj) (hnj6 : nj ≤ 6) (htm : ∀ j, j < 6 → h 57 (10 + j) = nI (tm j) ∧ tm j ≤ 100000) : Sp l E SHP 2 M8_passNight [.ref (E.1 + 49)] h (PD none (upr (noteM h b) 57 (nigK (h 57) tm nj))) := by
  refine Sp.of (by decide) (Nat.le_of_ble_eq_true rfl) (fun X C F => ?_)
  have C : Ok X E RX8 cX8_passNight 2 := C
  have F : Fn X l E SHP 2 none (PD none (upr (noteM h b) 57 (nigK (h 57) tm nj))) := F
  show G X E SHP (0, 0) 0 [(0, .ref (E.1 + 49))] [] h
  have e57 : noteM h b 57 = h 57 := noteM_row h _ (by decide) (by decide)
  have L : ∀ k, k ≤ nj → G X E SHP (0, 0) 17 [(0, .ref (E.1 + 49)), (1, .int (nI k))] [] (upr (noteM h b) 57 (nigK (h 57) tm k)) := by
    refine loopN nj _ (fun k hk ih => ?_)
    refine r_iload_n C dX8_passNight_17 rfl ?_
    refine r_aload_n C dX8_passNight_18 rfl ?_
    refine r_getI C dX8_passNight_19 flX8_79 (rfl) rfl ?_
    refine r_icmp_ge 60 C dX8_passNight_22 (by decide) (fun c_22 => ?_) (fun c_22 => ?_)
    · rw [cLe (x := upr (noteM h b) 57 (nigK (h 57) tm k) 49 17) (c := nI k) (i := nj) (n := k) ((by rw [upr_row _ _ _ (by decide), noteM_49 h _ (by decide)]; exact hnj)) (rfl) (by omega) (by omega)] at c_22
      exact r_vret C F dX8_passNight_60 (pd_v (by rw [show k = nj by omega]))
    · rw [cLe (x := upr (noteM h b) 57 (nigK (h 57) tm k) 49 17) (c := nI k) (i := nj) (n := k) ((by rw [upr_row _ _ _ (by decide), noteM_49 h _ (by decide)]; exact hnj)) (rfl) (by omega) (by omega)] at c_22
      have htk := htm k (by omega)
      have hst := nigK_s (h 57) tm k
      refine r_aload_n C dX8_passNight_25 rfl ?_
      refine r_getR C dX8_passNight_26 flX8_35 (rfl) rfl ?_
      refine r_bipush (10) C dX8_passNight_29 rfl ?_
      refine r_iload_n C dX8_passNight_31 rfl ?_
      refine r_iadd C dX8_passNight_32 ?_
      refine r_dup2 C dX8_passNight_33 rfl rfl ?_
      refine r_iald (10 + k) C dX8_passNight_34 (rfl) (ix10 k) (by omega) (by decide) ?_
      refine r_aload_n C dX8_passNight_35 rfl ?_
      refine r_getR C dX8_passNight_36 flX8_35 (rfl) rfl ?_
      refine r_bipush (10) C dX8_passNight_39 rfl ?_
      refine r_iload_n C dX8_passNight_41 rfl ?_
      refine r_iadd C dX8_passNight_42 ?_
      refine r_iald (10 + k) C dX8_passNight_43 (rfl) (ix10 k) (by omega) (by decide) ?_
      refine r_if_le 51 C dX8_passNight_44 (by decide) (fun c_44 => ?_) (fun c_44 => ?_)
      · rw [upr_self, nigK_at, htk.1] at c_44
        rw [cLe (x := nI (tm k)) (c := 0) (i := tm k) (n := 0) (rfl) (rfl) (by omega) (by omega)] at c_44
        refine r_iconst (0) C dX8_passNight_51 rfl ?_
        refine r_isub C dX8_passNight_52 ?_
        refine r_iast (10 + k) C dX8_passNight_53 (rfl) (ix10 k) (by omega) (by decide) ?_
        refine r_inc (1) C dX8_passNight_54 rfl (by decide) rfl rfl ?_
        refine r_goto 17 C dX8_passNight_57 (by decide) ?_
        exact (G.eq (ih (by omega)) rfl rfl (by rw [upr_self, nigK_at, htk.1, show nI (tm k) - 0 = nI (tm k - 1) by rw [show tm k = 0 by omega]; rfl, up_upr, hst])).sub ⟨rfl, by rw [nI_succ]; rfl, trivial⟩
      · rw [upr_self, nigK_at, htk.1] at c_44
        rw [cLe (x := nI (tm k)) (c := 0) (i := tm k) (n := 0) (rfl) (rfl) (by omega) (by omega)] at c_44
        refine r_iconst (1) C dX8_passNight_47 rfl ?_
        refine r_goto 52 C dX8_passNight_48 (by decide) ?_
        refine r_isub C dX8_passNight_52 ?_
        refine r_iast (10 + k) C dX8_passNight_53 (rfl) (ix10 k) (by omega) (by decide) ?_
        refine r_inc (1) C dX8_passNight_54 rfl (by decide) rfl rfl ?_
        refine r_goto 17 C dX8_passNight_57 (by decide) ?_
        exact (G.eq (ih (by omega)) rfl rfl (by rw [upr_self, nigK_at, htk.1, show nI (tm k) - 1 = nI (tm k - 1) from pk_sub (b := 1) (by omega), up_upr, hst])).sub ⟨rfl, by rw [nI_succ]; rfl, trivial⟩
  refine r_aload_n C dX8_passNight_0 rfl ?_
  refine r_cVv C F dX8_passNight_1 (s8_note hb hb30) tw_883 m8_note (rfl) rfl (by decide) rfl (Nat.le_of_ble_eq_true rfl) ?_
  refine r_aload_n C dX8_passNight_4 rfl ?_
  refine r_getR C dX8_passNight_5 flX8_35 (rfl) rfl ?_
  refine r_bipush (8) C dX8_passNight_8 rfl ?_
  refine r_dup2 C dX8_passNight_10 rfl rfl ?_
  refine r_iald (8) C dX8_passNight_11 (rfl) (rfl) (by decide) (by decide) ?_
  refine r_iconst (1) C dX8_passNight_12 rfl ?_
  refine r_iadd C dX8_passNight_13 ?_
  refine r_iast (8) C dX8_passNight_14 (rfl) (rfl) (by decide) (by decide) ?_
  refine r_iconst (0) C dX8_passNight_15 rfl ?_
  refine r_istore_n C dX8_passNight_16 (by decide) rfl ?_
  refine (G.eq (L 0 (by omega)) rfl rfl ?_).sub ⟨rfl, rfl, trivial⟩
  rw [show up (noteM h b) 57 8 (noteM h b 57 8 + 1) = upr (noteM h b) 57 (upd (noteM h b 57) 8 (noteM h b 57 8 + 1)) from rfl, e57]
  refine upr_congr (fun k => ?_)
  unfold upd nigK
  by_cases c : k = 8
  · rw [if_pos c, if_pos c]
  · rw [if_neg c, if_neg c, if_neg (by omega)]
theorem pn_A {A : At} (hA : MA h A) (hN : mN (aU A) < 920 + mT (aU A)) : MA (upr (noteM h (aB A).length) 57 (nigK (h 57) (mM (aU A)) (dJ (aD A)))) (nightOp A) := by
  obtain ⟨⟨a1, a2, a3, a4, a5, a6, a7, a8, a9, a10, a11, a12⟩, b1, b3, b4, b5, b6, b7, b8⟩ := id hA
  exact MA_note hA (okM_night a5 hN) (MomR_night b7 a5)
theorem htm_A {A : At} (hA : MA h A) : ∀ j, j < 6 → h 57 (10 + j) = nI (mM (aU A) j) ∧ mM (aU A) j ≤ 100000 := by
  obtain ⟨⟨a1, a2, a3, a4, a5, a6, a7, a8, a9, a10, a11, a12⟩, b1, b3, b4, b5, b6, b7, b8⟩ := id hA
  exact fun j hj => ⟨b7.2.2.2.2.2 j hj, by have := a5.2.2.2.2.1 j; have := a5.2.2.1; omega⟩
theorem s8_passNightA {A : At} (hA : MA h A) (hN : mN (aU A) < 920 + mT (aU A)) : Sp l E SHP 2 M8_passNight [.ref (E.1 + 49)] h (fun v h' => v = none ∧ MA h' (nightOp A) ∧ ∀ a, a < 49 → h' a = h a) := by
  obtain ⟨⟨a1, a2, a3, a4, a5, a6, a7, a8, a9, a10, a11, a12⟩, b1, b3, b4, b5, b6, b7, ⟨b8, b9⟩, b10⟩ := id hA
  refine (s8_passNight b8 a6 b5.2.2.1 a2.2.1 (htm_A hA)).weaken (fun v h' q => ?_)
  obtain ⟨rfl, rfl⟩ := q
  exact ⟨rfl, pn_A hA hN, note_low h _ _⟩
theorem nightsA_mN (A : At) : ∀ k, mN (aU (nightsA A k)) = mN (aU A) + k ∧ mT (aU (nightsA A k)) = mT (aU A)
  | 0 => ⟨rfl, rfl⟩
  | k + 1 => by
    obtain ⟨e1, e2⟩ := nightsA_mN A k
    refine ⟨?_, e2⟩
    show mN (aU (nightsA A k)) + 1 = _
    rw [e1]; rfl
set_option maxHeartbeats 4000000 in
theorem s8_night {A : At} {x : Int32} (hA : MA h A) : Sp l E SHP 3 M8_night [.ref (E.1 + 49), .int x] h (QM h (opNight A x)) := by
  refine Sp.of (by decide) (Nat.le_of_ble_eq_true rfl) (fun X C F => ?_)
  have C : Ok X E RX8 cX8_night 3 := C
  have F : Fn X l E SHP 3 (some FieldType.int) (QM h (opNight A x)) := F
  show G X E SHP (0, 0) 0 [(0, .ref (E.1 + 49)), (1, .int x)] [] h
  obtain ⟨⟨a1, a2, a3, a4, a5, a6, a7, a8, a9, a10, a11, a12⟩, ⟨b1, b2⟩, b3, b4, b5, b6, b7, ⟨b8, b9⟩, b10, ⟨b11, b12⟩, b13, b14⟩ := id hA
  obtain ⟨okd, e16, e17, e540, e541, eL, eJ⟩ := id b5
  obtain ⟨o1, o2, o3, o4, o5, o6⟩ := id okd
  have p6 : 2 ^ dL (aD A) ≤ 64 := Nat.pow_le_pow_right (n := 2) (by decide) o1
  obtain ⟨k0, k1, k2, k3, k4, k5⟩ := id a5
  have L : ∀ n, n ≤ 20 → mN (aU A) ≤ 900 → ∀ k, k ≤ n → ∀ g, MA g (nightsA A k) → (∀ a, a < 49 → g a = h a) → inP (nI n) 1 20 → aH A = true → x = nI n → G X E SHP (0, 0) 41 [(0, .ref (E.1 + 49)), (1, .int (nI n)), (2, .int (nI k))] [] g := by
    intro n hn h900
    refine loopN n _ (fun k hk ih g hg hlow hin hH hxn => ?_)
    obtain ⟨n1, n2⟩ := nightsA_mN A k
    refine r_iload_n C dX8_night_41 rfl ?_
    refine r_iload_n C dX8_night_42 rfl ?_
    refine r_icmp_ge 56 C dX8_night_43 (by decide) (fun c_43 => ?_) (fun c_43 => ?_)
    · rw [cLe (x := nI n) (c := nI k) (i := n) (n := k) (rfl) (rfl) (by omega) (by omega)] at c_43
      refine r_aload_n C dX8_night_56 rfl ?_
      refine r_getR C dX8_night_57 flX8_35 (rfl) rfl ?_
      refine r_bipush (8) C dX8_night_60 rfl ?_
      refine r_iald (8) C dX8_night_62 (rfl) (rfl) (by decide) (by decide) ?_
      refine r_iret C F dX8_night_63 ?_
      have hk2 : k = n := by omega
      subst hk2
      unfold opNight
      rw [hxn, if_neg (not_not_intro hin), if_neg (by rw [hH]; decide), if_neg (by omega), cl_nI (by omega), hg.2.2.2.2.2.2.1.2.2.1, n1]
      exact ⟨rfl, hg, hlow⟩
    · rw [cLe (x := nI n) (c := nI k) (i := n) (n := k) (rfl) (rfl) (by omega) (by omega)] at c_43
      refine r_aload_n C dX8_night_46 rfl ?_
      refine r_callV C F dX8_night_47 (s8_passNightA hg (by omega)) tw_910 m8_passNight (rfl) rfl (by decide) rfl (Nat.le_of_ble_eq_true rfl) (fun v h1 hq => ?_)
      obtain ⟨rfl, hg1, hl1⟩ := hq
      refine r_inc (1) C dX8_night_50 rfl (by decide) rfl rfl ?_
      refine r_goto 41 C dX8_night_53 (by decide) ?_
      exact (ih (by omega) _ hg1 (fun a ha => (hl1 a ha).trans (hlow a ha)) hin hH hxn).sub ⟨rfl, rfl, by rw [nI_succ]; rfl, trivial⟩
  refine r_iload_n C dX8_night_0 rfl ?_
  refine r_iconst (1) C dX8_night_1 rfl ?_
  refine r_bipush (20) C dX8_night_2 rfl ?_
  refine r_cSi C F dX8_night_4 (s8_in) tw_790 m8_in (by decide) rfl (Nat.le_of_ble_eq_true rfl) ?_
  refine r_if_ne 13 C dX8_night_7 (by decide) (fun c_7 => ?_) (fun c_7 => ?_)
  · rw [bz_ne0] at c_7
    refine r_aload_n C dX8_night_13 rfl ?_
    refine r_getI C dX8_night_14 flX8_148 (rfl) rfl ?_
    refine r_if_ne 23 C dX8_night_17 (by decide) (fun c_17 => ?_) (fun c_17 => ?_)
    · rw [b4] at c_17
      have hH : aH A = true := by cases hq : aH A; (rw [hq] at c_17; exact absurd rfl c_17); rfl
      refine r_aload_n C dX8_night_23 rfl ?_
      refine r_getR C dX8_night_24 flX8_35 (rfl) rfl ?_
      refine r_bipush (8) C dX8_night_27 rfl ?_
      refine r_iald (8) C dX8_night_29 (rfl) (rfl) (by decide) (by decide) ?_
      refine r_sipush (900) C dX8_night_30 rfl ?_
      refine r_icmp_le 39 C dX8_night_33 (by decide) (fun c_33 => ?_) (fun c_33 => ?_)
      · rw [cLe (x := h 57 8) (c := 900) (i := mN (aU A)) (n := 900) (b7.2.2.1) (rfl) (by omega) (by omega)] at c_33
        refine r_iconst (0) C dX8_night_39 rfl ?_
        refine r_istore_n C dX8_night_40 (by decide) rfl ?_
        obtain ⟨n, hn, hxn⟩ := inP_of (n := 20) rfl (by decide) ⟨Int32.le_trans (by decide) c_7.1, c_7.2⟩
        subst hxn
        exact (L n hn c_33 0 (by omega) h hA (fun _ _ => rfl) c_7 hH rfl).sub ⟨rfl, rfl, rfl, trivial⟩
      · rw [cLe (x := h 57 8) (c := 900) (i := mN (aU A)) (n := 900) (b7.2.2.1) (rfl) (by omega) (by omega)] at c_33
        refine r_ldc C dX8_night_36 tw_794 ?_
        exact r_iret C F dX8_night_38 (by unfold opNight; rw [if_neg (not_not_intro c_7), if_neg (by rw [hH]; decide), if_pos (by omega)]; exact ⟨rfl, hA, fun _ _ => rfl⟩)
    · rw [b4] at c_17
      have hH : aH A = false := by cases hq : aH A; rfl; (rw [hq] at c_17; exact absurd c_17 (by decide))
      refine r_ldc C dX8_night_20 tw_882 ?_
      exact r_iret C F dX8_night_22 (by unfold opNight; rw [if_neg (not_not_intro c_7), if_pos hH]; exact ⟨rfl, hA, fun _ _ => rfl⟩)
  · rw [bz_eq0] at c_7
    refine r_ldc C dX8_night_10 tw_793 ?_
    exact r_iret C F dX8_night_12 (by unfold opNight; rw [if_pos c_7]; exact ⟨rfl, hA, fun _ _ => rfl⟩)
