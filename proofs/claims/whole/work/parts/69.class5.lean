variable {l : Launch} {E : Ev} {h : Hp}
theorem or_lset (p : Nat → Bool) : ∀ n, orN (fun i => if p i = true then 2 ^ i else 0) n = lset p n
  | 0 => rfl
  | n + 1 => by
    show orN _ n ||| _ = lset p n ||| _
    rw [or_lset p n]
theorem cnt_ex {p : Nat → Bool} : ∀ n, ¬ cnt p n = 0 → ∃ k, k < n ∧ p k = true
  | 0, z => absurd rfl z
  | n + 1, z => by
    cases hp : p n with
    | true => exact ⟨n, by omega, hp⟩
    | false =>
      have e : cnt p (n + 1) = cnt p n := by show cnt p n + (if p n then 1 else 0) = _; rw [hp]; rfl
      rw [e] at z
      obtain ⟨k, h1, h2⟩ := cnt_ex n z
      exact ⟨k, by omega, h2⟩
theorem cnt_at {p : Nat → Bool} {k n : Nat} (hk : k < n) (hp : p k = true) : 0 < cnt p n := by
  have h1 := cnt_mn p n (show k + 1 ≤ n by omega)
  have h2 : cnt p (k + 1) = cnt p k + 1 := by show cnt p k + (if p k then 1 else 0) = _; rw [hp]; rfl
  omega
theorem sure_0 {A : At} {i s : Nat} : sureF A i s = 0 ↔ cnt (just A i s) 60 = 0 := by
  constructor
  · intro z
    apply Classical.byContradiction
    intro y
    obtain ⟨c, h1, h2⟩ := cnt_ex 60 y
    have : (sureF A i s).testBit (c / 10) = true := (orN_bit _ _ _).mpr ⟨c, h1, ifb.mpr ⟨h2, Nat.testBit_two_pow_self⟩⟩
    rw [bit_0 z] at this
    cases this
  · intro z
    refine bit_ext (fun k => ⟨fun q => ?_, fun q => by rw [Nat.zero_testBit] at q; cases q⟩)
    obtain ⟨c, h1, h2⟩ := (orN_bit _ _ _).mp q
    have := cnt_at h1 (ifb.mp h2).1
    omega
set_option maxHeartbeats 4000000 in
theorem s7_wired {A : At} (hA : CA h A) {y : Int32} : Sp l E SHP 5 M7_wired [.ref (E.1 + 0), .int y] h (QK h (vWired A y, A)) := by
  refine Sp.of (by decide) (Nat.le_of_ble_eq_true rfl) (fun X C F => ?_)
  have C : Ok X E RX7 cX7_wired 4 := C
  have F : Fn X l E SHP 5 (some FieldType.int) (QK h (vWired A y, A)) := F
  show G X E SHP (0, 0) 0 [(0, .ref (E.1 + 0)), (1, .int y)] [] h
  obtain ⟨o, hA0⟩ := id hA
  obtain ⟨⟨a1, a2, a3, a4, a5, a6, a7, a8, a9, a10, a11, a12⟩, ⟨b1, b2⟩, b3, ⟨b4, b5, b6⟩, ⟨b7, b8⟩, b9, b10, b11, b12, b13, b14⟩ := id hA0
  have hO : isH o := isH_o b6
  have ho : o ≤ 12 := by omega
  have ho4 : 4 ≤ o := by omega
  obtain ⟨okd, e1, e2, e3, e4, eL, eJ, eB, eF⟩ := id b8
  obtain ⟨o1, o2, o3, o4, o5, o6⟩ := id okd
  have p6 : 2 ^ dL (aD A) ≤ 64 := Nat.pow_le_pow_right (n := 2) (by decide) o1
  obtain ⟨k0, k1, k2, k3, k4, k5⟩ := id a5
  obtain ⟨u0, u1, u2, u3, uO, uM⟩ := id b10
  have hm64 : mI (aU A) < 64 := by omega
  refine r_aload_n C dX7_wired_0 rfl ?_
  refine r_getV (o) C dX7_wired_1 flX7_19 (rfl) rfl (b4) (by first | decide | omega) ?_
  refine r_iload_n C dX7_wired_4 rfl ?_
  refine r_cVi C F dX7_wired_5 (s0_hasAll hO b8) tw_578 m0_hasAll (hO.1) rfl (by decide) rfl (Nat.le_of_ble_eq_true rfl) ?_
  refine r_if_ne 14 C dX7_wired_8 (by decide) (fun c_8 => ?_) (fun c_8 => ?_)
  · rw [bz_ne0] at c_8
    have c_8b := c_8
    obtain ⟨s, hs, rfl⟩ := inP_of (n := 2 ^ dL (aD A) - 1) rfl (by omega) c_8
    have hs64 : s < 64 := by omega
    have hds : s < 2147483648 := by omega
    refine r_aload_n C dX7_wired_14 rfl ?_
    refine r_getR C dX7_wired_15 flX7_57 (rfl) rfl ?_
    refine r_aload_n C dX7_wired_18 rfl ?_
    refine r_getV (o) C dX7_wired_19 flX7_19 (rfl) rfl (b4) (by first | decide | omega) ?_
    refine r_aload_n C dX7_wired_22 rfl ?_
    refine r_getR C dX7_wired_23 flX7_29 (rfl) rfl ?_
    refine r_callV C F dX7_wired_26 (s5_startFrom hO b8 ho b10 (by omega)) tw_426 m5_startFrom (rfl) rfl (by decide) rfl (Nat.le_of_ble_eq_true rfl) (fun v g q => ?_)
    obtain ⟨rfl, z1, z2⟩ := q
    have hA2 : CAo g A o := CAo_tr hA0 (fun a ha => z2 a (by omega) (by omega) (by omega))
    have u02 : g 20 0 = nI (mI (aU A)) := by rw [z2 20 (by decide) (by decide) (by decide)]; exact u0
    have b42 : g 0 1 = nI o := by rw [z2 0 (by decide) (by decide) (by decide)]; exact b4
    have hhi : ∀ a, 49 ≤ a → g a = h a := fun a ha => z2 a (by omega) (by omega) (by omega)
    show G X E SHP (0, 0) 29 _ [] g
    have L : ∀ k, k ≤ dL (aD A) → ∀ gk : Hp, (∀ a, a ≠ 47 → gk a = g a) → G X E SHP (0, 0) 33 [(0, .ref (E.1 + 0)), (1, .int (nI s)), (2, .int (nI (lset (fun i => (mI (aU A)).testBit i && !decide (sureF A i s = 0)) k))), (3, .int (nI k))] [] gk := by
      refine loopN (dL (aD A)) _ (fun k hk ih gk rk => ?_)
      have hTk : CT gk o (aD A) (mN (aU A)) (mM (aU A)) := CT_cg z1 ho (fun a ha => rk a (by omega))
      have hMk : CM gk (aU A) := CM_cg b10 (fun a h1 h2 => by rw [rk a (by omega)]; exact z2 a (by omega) (by omega) (by omega))
      have b4k : gk 0 1 = nI o := by rw [rk 0 (by decide)]; exact b42
      have e3k : gk o 3 = nI (dL (aD A)) := hTk.2.1.2.2.2.1
      have e4k : gk o 4 = nI (dJ (aD A)) := hTk.2.1.2.2.2.2.1
      have hAk : CAo gk A o := CAo_tr hA2 (fun a ha => rk a (by omega))
      have hhk : ∀ a, 49 ≤ a → gk a = h a := fun a ha => by rw [rk a (by omega)]; exact hhi a ha
      refine r_iload_n C dX7_wired_33 rfl ?_
      refine r_aload_n C dX7_wired_34 rfl ?_
      refine r_getV (o) C dX7_wired_35 flX7_19 (rfl) rfl (b4k) (by first | decide | omega) ?_
      refine r_getI C dX7_wired_38 flX7_100 (hO.1) rfl ?_
      refine r_icmp_ge 96 C dX7_wired_41 (by decide) (fun c_41 => ?_) (fun c_41 => ?_)
      · rw [cLe (x := gk o 3) (c := nI k) (i := dL (aD A)) (n := k) (e3k) (rfl) (by omega) (by omega)] at c_41
        refine r_iload_n C dX7_wired_96 rfl ?_
        refine r_iret C F dX7_wired_97 ?_
        unfold vWired
        rw [if_neg (not_not_intro c_8b), cl_nI hds]
        unfold wirF
        rw [or_lset, show k = dL (aD A) by omega]
        exact ⟨rfl, ⟨o, hAk⟩, hhk⟩
      · rw [cLe (x := gk o 3) (c := nI k) (i := dL (aD A)) (n := k) (e3k) (rfl) (by omega) (by omega)] at c_41
        refine r_aload_n C dX7_wired_44 rfl ?_
        refine r_getR C dX7_wired_45 flX7_29 (rfl) rfl ?_
        refine r_iload_n C dX7_wired_48 rfl ?_
        refine r_cVi C F dX7_wired_49 (s2_isIn hMk (i := k) hm64 (by omega)) tw_417 m2_isIn (rfl) rfl (by decide) rfl (Nat.le_of_ble_eq_true rfl) ?_
        refine r_if_ne 58 C dX7_wired_52 (by decide) (fun c_52 => ?_) (fun c_52 => ?_)
        · refine r_aload_n C dX7_wired_58 rfl ?_
          refine r_getR C dX7_wired_59 flX7_57 (rfl) rfl ?_
          refine r_aload_n C dX7_wired_62 rfl ?_
          refine r_getR C dX7_wired_63 flX7_29 (rfl) rfl ?_
          refine r_getI C dX7_wired_66 flX7_121 (rfl) rfl ?_
          rw [hMk.1]
          refine r_iload_n C dX7_wired_69 rfl ?_
          refine r_callV C F dX7_wired_70 (s5_tryAll hO ho hTk (m := mI (aU A)) (i := k) hm64 (by omega) (fun j => by have := k4 j; omega)) tw_548 m5_tryAll (rfl) rfl (by decide) rfl (Nat.le_of_ble_eq_true rfl) (fun v g1 q => ?_)
          obtain ⟨rfl, rfl⟩ := q
          have hV : ∀ c, c < 60 → upr gk 47 (fil (gk 47) (thT (aD A) (mI (aU A)) (mN (aU A)) (mM (aU A)) k) 60) 47 c = thT (aD A) (mI (aU A)) (mN (aU A)) (mM (aU A)) k c := fun c hc => by rw [upr_self]; exact fil_lt hc
          have r1 : ∀ a, a ≠ 47 → upr gk 47 (fil (gk 47) (thT (aD A) (mI (aU A)) (mN (aU A)) (mM (aU A)) k) 60) a = g a := fun a ha => by rw [upr_row _ _ _ ha]; exact rk a ha
          generalize upr gk 47 (fil (gk 47) (thT (aD A) (mI (aU A)) (mN (aU A)) (mM (aU A)) k) 60) = g1 at hV r1 ⊢
          show G X E SHP (0, 0) 73 _ [] g1
          refine r_aload_n C dX7_wired_73 rfl ?_
          refine r_getR C dX7_wired_74 flX7_57 (rfl) rfl ?_
          refine r_iload_n C dX7_wired_77 rfl ?_
          refine r_cVi C F dX7_wired_78 (s5_howManyFit (x := nI s)) tw_583 m5_howManyFit (rfl) rfl (by decide) rfl (Nat.le_of_ble_eq_true rfl) ?_
          refine r_if_le 90 C dX7_wired_81 (by decide) (fun c_81 => ?_) (fun c_81 => ?_)
          · refine r_inc (1) C dX7_wired_90 rfl (by decide) rfl rfl ?_
            refine r_goto 33 C dX7_wired_93 (by decide) ?_
            rw [bz_ne0] at c_52
            rw [cnt_congr 60 (show ∀ c, c < 60 → (fun c => decide (g1 47 c = nI s)) c = just A k s c from fun c hc => by show decide (g1 47 c = nI s) = _; rw [hV c hc]; exact just_T okd k0 hs64)] at c_81
            have hcl := cnt_le (just A k s) 60
            rw [cLe (x := nI (cnt (just A k s) 60)) (c := 0) (i := cnt (just A k s) 60) (n := 0) rfl rfl (by omega) (by omega)] at c_81
            exact (ih (by omega) g1 r1).sub ⟨rfl, rfl, by rw [lset_f (show (fun i => (mI (aU A)).testBit i && !decide (sureF A i s = 0)) k = false by show ((mI (aU A)).testBit k && !decide (sureF A k s = 0)) = false; rw [decide_eq_true (sure_0.mpr (by omega))]; simp)]; rfl, by rw [nI_succ]; rfl, trivial⟩
          · refine r_iload_n C dX7_wired_84 rfl ?_
            refine r_iconst (1) C dX7_wired_85 rfl ?_
            refine r_iload_n C dX7_wired_86 rfl ?_
            refine r_ishl C dX7_wired_87 ?_
            refine r_ior C dX7_wired_88 ?_
            refine r_istore_n C dX7_wired_89 (by decide) rfl ?_
            refine r_inc (1) C dX7_wired_90 rfl (by decide) rfl rfl ?_
            refine r_goto 33 C dX7_wired_93 (by decide) ?_
            rw [bz_ne0] at c_52
            rw [cnt_congr 60 (show ∀ c, c < 60 → (fun c => decide (g1 47 c = nI s)) c = just A k s c from fun c hc => by show decide (g1 47 c = nI s) = _; rw [hV c hc]; exact just_T okd k0 hs64)] at c_81
            have hcl := cnt_le (just A k s) 60
            rw [cLe (x := nI (cnt (just A k s) 60)) (c := 0) (i := cnt (just A k s) 60) (n := 0) rfl rfl (by omega) (by omega)] at c_81
            exact (ih (by omega) g1 r1).sub ⟨rfl, rfl, by rw [lset_t (by omega) (show (fun i => (mI (aU A)).testBit i && !decide (sureF A i s = 0)) k = true by show ((mI (aU A)).testBit k && !decide (sureF A k s = 0)) = true; rw [c_52, decide_eq_false (fun z => c_81 (by rw [sure_0.mp z]; exact Nat.le_refl 0))]; rfl)]; rfl, by rw [nI_succ]; rfl, trivial⟩
        · refine r_goto 90 C dX7_wired_55 (by decide) ?_
          refine r_inc (1) C dX7_wired_90 rfl (by decide) rfl rfl ?_
          refine r_goto 33 C dX7_wired_93 (by decide) ?_
          rw [bz_eq0, Bool.not_eq_true] at c_52
          exact (ih (by omega) gk rk).sub ⟨rfl, rfl, by rw [lset_f (show (fun i => (mI (aU A)).testBit i && !decide (sureF A i s = 0)) k = false by show ((mI (aU A)).testBit k && _) = false; rw [c_52, Bool.false_and])]; rfl, by rw [nI_succ]; rfl, trivial⟩
    refine r_iconst (0) C dX7_wired_29 rfl ?_
    refine r_istore_n C dX7_wired_30 (by decide) rfl ?_
    refine r_iconst (0) C dX7_wired_31 rfl ?_
    refine r_istore_n C dX7_wired_32 (by decide) rfl ?_
    exact (L 0 (Nat.zero_le _) g (fun _ _ => rfl)).sub ⟨rfl, rfl, rfl, rfl, trivial⟩
  · refine r_ldc C dX7_wired_11 tw_389 ?_
    rw [bz_eq0] at c_8
    exact r_iret C F dX7_wired_13 (by unfold vWired; rw [if_pos c_8]; exact QK_same hA)
noncomputable def sfJ (A : At) (i j : Nat) : Nat := orN (rF (aD A) (mI (aU A)) (mN (aU A)) (mM (aU A)) i j) 6
noncomputable def sfL (A : At) (i : Nat) : Nat := if (mI (aU A)).testBit i = true then orN (sfJ A i) (dJ (aD A)) else 0
theorem sf_eq {A : At} (hm : mI (aU A) < 2 ^ dL (aD A)) (o1 : dL (aD A) ≤ 6) : orN (sfL A) (dL (aD A)) = orN (s1 A) (dL (aD A)) := by
  refine bit_ext (fun b => ?_)
  rw [orN_bit, orN_bit]
  constructor
  · rintro ⟨i, hi, q⟩
    unfold sfL at q
    obtain ⟨q1, q2⟩ := ifb.mp q
    obtain ⟨j, hj, q3⟩ := (orN_bit _ _ _).mp q2
    obtain ⟨a, ha, q4⟩ := (orN_bit _ _ _).mp q3
    unfold rF at q4
    obtain ⟨⟨-, q5, q6⟩, q7⟩ := ifb.mp q4
    exact ⟨i, hi, (orN_bit _ _ _).mpr ⟨a, bit_lt hm q6, (orN_bit _ _ _).mpr ⟨j, hj, ifb.mpr ⟨⟨fun z => q5 z.symm, q1, q6⟩, q7⟩⟩⟩⟩
  · rintro ⟨i, hi, q⟩
    obtain ⟨a, ha, q2⟩ := (orN_bit _ _ _).mp q
    obtain ⟨j, hj, q3⟩ := (orN_bit _ _ _).mp q2
    unfold sP at q3
    obtain ⟨⟨q4, q5, q6⟩, q7⟩ := ifb.mp q3
    refine ⟨i, hi, ?_⟩
    unfold sfL
    exact ifb.mpr ⟨q5, (orN_bit _ _ _).mpr ⟨j, hj, (orN_bit _ _ _).mpr ⟨a, by omega, ifb.mpr ⟨⟨hj, fun z => q4 z.symm, q6⟩, q7⟩⟩⟩⟩
set_option maxHeartbeats 4000000 in
theorem s7_safe {A : At} (hA : CA h A) : Sp l E SHP 5 M7_safe [.ref (E.1 + 0)] h (QK h (vSafe A, A)) := by
  refine Sp.of (by decide) (Nat.le_of_ble_eq_true rfl) (fun X C F => ?_)
  have C : Ok X E RX7 cX7_safe 4 := C
  have F : Fn X l E SHP 5 (some FieldType.int) (QK h (vSafe A, A)) := F
  show G X E SHP (0, 0) 0 [(0, .ref (E.1 + 0))] [] h
  obtain ⟨o, hA0⟩ := id hA
  obtain ⟨⟨a1, a2, a3, a4, a5, a6, a7, a8, a9, a10, a11, a12⟩, ⟨b1, b2⟩, b3, ⟨b4, b5, b6⟩, ⟨b7, b8⟩, b9, b10, b11, b12, b13, b14⟩ := id hA0
  have hO : isH o := isH_o b6
  have ho : o ≤ 12 := by omega
  have ho4 : 4 ≤ o := by omega
  obtain ⟨okd, e1, e2, e3, e4, eL, eJ, eB, eF⟩ := id b8
  obtain ⟨o1, o2, o3, o4, o5, o6⟩ := id okd
  have p6 : 2 ^ dL (aD A) ≤ 64 := Nat.pow_le_pow_right (n := 2) (by decide) o1
  obtain ⟨k0, k1, k2, k3, k4, k5⟩ := id a5
  obtain ⟨u0, u1, u2, u3, uO, uM⟩ := id b10
  have hm64 : mI (aU A) < 64 := by omega
  refine r_aload_n C dX7_safe_0 rfl ?_
  refine r_getR C dX7_safe_1 flX7_57 (rfl) rfl ?_
  refine r_aload_n C dX7_safe_4 rfl ?_
  refine r_getV (o) C dX7_safe_5 flX7_19 (rfl) rfl (b4) (by first | decide | omega) ?_
  refine r_aload_n C dX7_safe_8 rfl ?_
  refine r_getR C dX7_safe_9 flX7_29 (rfl) rfl ?_
  refine r_callV C F dX7_safe_12 (s5_startFrom hO b8 ho b10 (by omega)) tw_426 m5_startFrom (rfl) rfl (by decide) rfl (Nat.le_of_ble_eq_true rfl) (fun v g q => ?_)
  obtain ⟨rfl, z1, z2⟩ := q
  have hA2 : CAo g A o := CAo_tr hA0 (fun a ha => z2 a (by omega) (by omega) (by omega))
  have u02 : g 20 0 = nI (mI (aU A)) := by rw [z2 20 (by decide) (by decide) (by decide)]; exact u0
  have b42 : g 0 1 = nI o := by rw [z2 0 (by decide) (by decide) (by decide)]; exact b4
  have hhi : ∀ a, 49 ≤ a → g a = h a := fun a ha => z2 a (by omega) (by omega) (by omega)
  show G X E SHP (0, 0) 15 _ [] g
  have L : ∀ k, k ≤ dL (aD A) → ∀ gk : Hp, (∀ a, a ≠ 47 → gk a = g a) → G X E SHP (0, 0) 19 [(0, .ref (E.1 + 0)), (1, .int (nI (orN (sfL A) k))), (2, .int (nI k))] [] gk := by
    refine loopN (dL (aD A)) _ (fun k hk ih gk rk => ?_)
    have hTk : CT gk o (aD A) (mN (aU A)) (mM (aU A)) := CT_cg z1 ho (fun a ha => rk a (by omega))
    have hMk : CM gk (aU A) := CM_cg b10 (fun a h1 h2 => by rw [rk a (by omega)]; exact z2 a (by omega) (by omega) (by omega))
    have b4k : gk 0 1 = nI o := by rw [rk 0 (by decide)]; exact b42
    have e3k : gk o 3 = nI (dL (aD A)) := hTk.2.1.2.2.2.1
    have e4k : gk o 4 = nI (dJ (aD A)) := hTk.2.1.2.2.2.2.1
    have hAk : CAo gk A o := CAo_tr hA2 (fun a ha => rk a (by omega))
    have hhk : ∀ a, 49 ≤ a → gk a = h a := fun a ha => by rw [rk a (by omega)]; exact hhi a ha
    refine r_iload_n C dX7_safe_19 rfl ?_
    refine r_aload_n C dX7_safe_20 rfl ?_
    refine r_getV (o) C dX7_safe_21 flX7_19 (rfl) rfl (b4k) (by first | decide | omega) ?_
    refine r_getI C dX7_safe_24 flX7_100 (hO.1) rfl ?_
    refine r_icmp_ge 95 C dX7_safe_27 (by decide) (fun c_27 => ?_) (fun c_27 => ?_)
    · rw [cLe (x := gk o 3) (c := nI k) (i := dL (aD A)) (n := k) (e3k) (rfl) (by omega) (by omega)] at c_27
      refine r_aload_n C dX7_safe_95 rfl ?_
      refine r_getR C dX7_safe_96 flX7_29 (rfl) rfl ?_
      
      refine r_getI C dX7_safe_99 flX7_121 (rfl) rfl ?_
      rw [hMk.1]
      refine r_iload_n C dX7_safe_102 rfl ?_
      refine r_iconst (-1) C dX7_safe_103 rfl ?_
      refine r_ixor C dX7_safe_104 ?_
      refine r_iand C dX7_safe_105 ?_
      rw [nx_nd]
      refine r_iret C F dX7_safe_106 ?_
      unfold vSafe
      rw [← sf_eq k0 o1, show k = dL (aD A) by omega]
      exact ⟨rfl, ⟨o, hAk⟩, hhk⟩
    · rw [cLe (x := gk o 3) (c := nI k) (i := dL (aD A)) (n := k) (e3k) (rfl) (by omega) (by omega)] at c_27
      refine r_aload_n C dX7_safe_30 rfl ?_
      refine r_getR C dX7_safe_31 flX7_29 (rfl) rfl ?_
      refine r_iload_n C dX7_safe_34 rfl ?_
      refine r_cVi C F dX7_safe_35 (s2_isIn hMk (i := k) hm64 (by omega)) tw_417 m2_isIn (rfl) rfl (by decide) rfl (Nat.le_of_ble_eq_true rfl) ?_
      refine r_if_ne 44 C dX7_safe_38 (by decide) (fun c_38 => ?_) (fun c_38 => ?_)
      · rw [bz_ne0] at c_38
        refine r_aload_n C dX7_safe_44 rfl ?_
        refine r_getR C dX7_safe_45 flX7_57 (rfl) rfl ?_
        refine r_aload_n C dX7_safe_48 rfl ?_
        refine r_getR C dX7_safe_49 flX7_29 (rfl) rfl ?_
        refine r_getI C dX7_safe_52 flX7_121 (rfl) rfl ?_
        rw [hMk.1]
        refine r_iload_n C dX7_safe_55 rfl ?_
        refine r_callV C F dX7_safe_56 (s5_tryAll hO ho hTk (m := mI (aU A)) (i := k) hm64 (by omega) (fun j => by have := k4 j; omega)) tw_548 m5_tryAll (rfl) rfl (by decide) rfl (Nat.le_of_ble_eq_true rfl) (fun v g1 q => ?_)
        obtain ⟨rfl, rfl⟩ := q
        have hV : ∀ c, c < 60 → upr gk 47 (fil (gk 47) (thT (aD A) (mI (aU A)) (mN (aU A)) (mM (aU A)) k) 60) 47 c = thT (aD A) (mI (aU A)) (mN (aU A)) (mM (aU A)) k c := fun c hc => by rw [upr_self]; exact fil_lt hc
        have r1 : ∀ a, a ≠ 47 → upr gk 47 (fil (gk 47) (thT (aD A) (mI (aU A)) (mN (aU A)) (mM (aU A)) k) 60) a = g a := fun a ha => by rw [upr_row _ _ _ ha]; exact rk a ha
        generalize upr gk 47 (fil (gk 47) (thT (aD A) (mI (aU A)) (mN (aU A)) (mM (aU A)) k) 60) = g1 at hV r1 ⊢
        show G X E SHP (0, 0) 59 _ [] g1
        have hT1 : CT g1 o (aD A) (mN (aU A)) (mM (aU A)) := CT_cg z1 ho (fun a ha => r1 a (by omega))
        have hM1 : CM g1 (aU A) := CM_cg b10 (fun a h1 h2 => by rw [r1 a (by omega)]; exact z2 a (by omega) (by omega) (by omega))
        have b41 : g1 0 1 = nI o := by rw [r1 0 (by decide)]; exact b42
        have e31 : g1 o 3 = nI (dL (aD A)) := hT1.2.1.2.2.2.1
        have e41 : g1 o 4 = nI (dJ (aD A)) := hT1.2.1.2.2.2.2.1
        have hA1 : CAo g1 A o := CAo_tr hA2 (fun a ha => r1 a (by omega))
        have hh1 : ∀ a, 49 ≤ a → g1 a = h a := fun a ha => by rw [r1 a (by omega)]; exact hhi a ha
        have LJ : ∀ j, j ≤ dJ (aD A) → G X E SHP (0, 0) 61 [(0, .ref (E.1 + 0)), (1, .int (nI (orN (sfL A) k ||| orN (sfJ A k) j))), (2, .int (nI k)), (3, .int (nI j))] [] g1 := by
          refine loopN (dJ (aD A)) _ (fun j hj ih3 => ?_)
          refine r_iload_n C dX7_safe_61 rfl ?_
          refine r_aload_n C dX7_safe_62 rfl ?_
          refine r_getV (o) C dX7_safe_63 flX7_19 (rfl) rfl (b41) (by first | decide | omega) ?_
          refine r_getI C dX7_safe_66 flX7_112 (hO.1) rfl ?_
          refine r_icmp_ge 89 C dX7_safe_69 (by decide) (fun c_69 => ?_) (fun c_69 => ?_)
          · rw [cLe (x := g1 o 4) (c := nI j) (i := dJ (aD A)) (n := j) (e41) (rfl) (by omega) (by omega)] at c_69
            refine r_inc (1) C dX7_safe_89 rfl (by decide) rfl rfl ?_
            refine r_goto 19 C dX7_safe_92 (by decide) ?_
            rw [show j = dJ (aD A) by omega]
            have hl : orN (sfL A) (k + 1) = orN (sfL A) k ||| orN (sfJ A k) (dJ (aD A)) := by
              show orN (sfL A) k ||| sfL A k = _
              unfold sfL
              rw [if_pos c_38]
            exact (ih (by omega) g1 r1).sub ⟨rfl, by rw [hl]; rfl, by rw [nI_succ]; rfl, trivial⟩
          · rw [cLe (x := g1 o 4) (c := nI j) (i := dJ (aD A)) (n := j) (e41) (rfl) (by omega) (by omega)] at c_69
            refine r_iload_n C dX7_safe_72 rfl ?_
            refine r_aload_n C dX7_safe_73 rfl ?_
            refine r_getR C dX7_safe_74 flX7_57 (rfl) rfl ?_
            refine r_iload_n C dX7_safe_77 rfl ?_
            refine r_cVi C F dX7_safe_78 (s5_reachOf okd hV (j := j) (by omega)) tw_552 m5_reachOf (rfl) rfl (by decide) rfl (Nat.le_of_ble_eq_true rfl) ?_
            refine r_ior C dX7_safe_81 ?_
            refine r_istore_n C dX7_safe_82 (by decide) rfl ?_
            refine r_inc (1) C dX7_safe_83 rfl (by decide) rfl rfl ?_
            refine r_goto 61 C dX7_safe_86 (by decide) ?_
            exact (ih3 (by omega)).sub ⟨rfl, by show _ = some (Value.int (nI (orN (sfL A) k ||| (orN (sfJ A k) j ||| sfJ A k j)))); rw [← Nat.or_assoc, show nI (orN (sfL A) k ||| orN (sfJ A k) j ||| sfJ A k j) = nI (orN (sfL A) k ||| orN (sfJ A k) j) ||| nI (sfJ A k j) from (nx_or _ _).symm]; rfl, rfl, by rw [nI_succ]; rfl, trivial⟩
        refine r_iconst (0) C dX7_safe_59 rfl ?_
        refine r_istore_n C dX7_safe_60 (by decide) rfl ?_
        exact (LJ 0 (Nat.zero_le _)).sub ⟨rfl, by show _ = some (Value.int (nI (orN (sfL A) k ||| 0))); rw [Nat.or_zero]; rfl, rfl, rfl, trivial⟩
      · rw [bz_eq0] at c_38
        refine r_goto 89 C dX7_safe_41 (by decide) ?_
        refine r_inc (1) C dX7_safe_89 rfl (by decide) rfl rfl ?_
        refine r_goto 19 C dX7_safe_92 (by decide) ?_
        have hl : orN (sfL A) (k + 1) = orN (sfL A) k := by
          show orN (sfL A) k ||| sfL A k = _
          unfold sfL
          rw [if_neg c_38, Nat.or_zero]
        exact (ih (by omega) gk rk).sub ⟨rfl, by rw [hl]; rfl, by rw [nI_succ]; rfl, trivial⟩
  refine r_iconst (0) C dX7_safe_15 rfl ?_
  refine r_istore_n C dX7_safe_16 (by decide) rfl ?_
  refine r_iconst (0) C dX7_safe_17 rfl ?_
  refine r_istore_n C dX7_safe_18 (by decide) rfl ?_
  exact (L 0 (Nat.zero_le _) g (fun _ _ => rfl)).sub ⟨rfl, rfl, rfl, trivial⟩
