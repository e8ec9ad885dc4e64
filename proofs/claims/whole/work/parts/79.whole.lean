variable {l : Launch} {E : Ev} {h : Hp}
theorem sub5 : ∀ L, L < 321 → (nI L - 5).toInt = (L : Int) - 5 := by decide +kernel
set_option maxHeartbeats 4000000 in
theorem law_loop {X : Cx} {b L : Nat} {xs : Nat → Int32} (C : Ok X E RL cL_law 4) (N : OkN X E 0 600000 7302250) (Lx : Ln X l) (hRm : ∀ d1 w, d1 ≤ 40 → w ≤ 40 → Rm X d1 w) (Y : OkX X E b L xs) (hL : L ≤ 320) (RET : ∀ (ls : LSt) (g : Hp), G X E SHP (68, 1994) 947 ls [.int 1] g) : ∀ k, k ≤ 64 → ∀ h : Hp, Both h → G X E SHP (68, 1994) 18 (LSl E b k) [] h := by
  refine loopN 64 _ (fun k hk ih h hB => ?_)
  refine r_iload_n C dL_law_18 rfl ?_
  refine r_aload_n C dL_law_19 rfl ?_
  refine n_slen C Y dL_law_20 ?_
  refine r_iconst (5) C dL_law_21 rfl ?_
  refine r_isub C dL_law_22 ?_
  refine r_icmp_gt 946 C dL_law_23 (by decide) (fun c_23 => ?_) (fun c_23 => ?_)
  · refine r_iconst (1) C dL_law_946 rfl ?_
    exact RET _ h
  · have hk5 : 5 * k + 5 ≤ L := by
      rcases Nat.lt_or_ge L (5 * k + 5) with z | z
      · refine absurd (Int32.lt_iff_toInt_lt.mpr ?_) c_23
        rw [sub5 L (by omega), nI_toInt (by omega)]
        omega
      · exact z
    have K : ∀ g : Hp, Both g → G X E SHP (68, 1994) 940 (LSl E b k) [] g := by
      intro g hg
      refine r_inc (5) C dL_law_940 rfl (by decide) rfl rfl ?_
      refine r_goto 18 C dL_law_943 (by decide) ?_
      exact (ih (by omega) g hg).sub (show subL [(0, .ref b), (1, .ref (E.1 + 0)), (2, .ref (E.1 + 49)), (3, .int (nI (5 * (k + 1))))] _ from ⟨rfl, rfl, rfl, by rw [show nI (5 * (k + 1)) = nI (5 * k) + 5 from (nI_add (5 * k) 5).symm]; rfl, trivial⟩)
    refine r_aload_n C dL_law_26 rfl ?_
    refine r_iload_n C dL_law_27 rfl ?_
    refine n_sld (5 * k) C Y dL_law_28 rfl (by omega) hL ?_
    refine r_bipush (31) C dL_law_29 rfl ?_
    refine r_iand C dL_law_31 ?_
    generalize xs (5 * k) &&& 31 = v0
    rcases pk_ix v0 (n := 28) (by decide) with q | q | ⟨j, hj, hq⟩
    · refine r_tsw_out 940 C dL_law_32 (Or.inl (by have := Int32.lt_iff_toInt_lt.mp q; simpa using this)) (by decide) ?_
      exact K h hB
    · refine r_tsw_out 940 C dL_law_32 (Or.inr (by have := Int32.le_iff_toInt_le.mp q; rw [nI_toInt (by decide)] at this; omega)) (by decide) ?_
      exact K h hB
    · subst hq
      match j, hj with
      | 0, _ =>
        refine r_tsw_in 160 C dL_law_32 (by decide) (by decide) rfl (by decide) ?_
        exact law_c0 C N Lx hRm Y hk5 hL hB K
      | 1, _ =>
        refine r_tsw_in 183 C dL_law_32 (by decide) (by decide) rfl (by decide) ?_
        exact law_c1 C N Lx hRm Y hk5 hL hB K
      | 2, _ =>
        refine r_tsw_in 196 C dL_law_32 (by decide) (by decide) rfl (by decide) ?_
        exact law_c2 C N Lx hRm Y hk5 hL hB K
      | 3, _ =>
        refine r_tsw_in 209 C dL_law_32 (by decide) (by decide) rfl (by decide) ?_
        exact law_c3 C N Lx hRm Y hk5 hL hB K
      | 4, _ =>
        refine r_tsw_in 232 C dL_law_32 (by decide) (by decide) rfl (by decide) ?_
        exact law_c4 C N Lx hRm Y hk5 hL hB K
      | 5, _ =>
        refine r_tsw_in 265 C dL_law_32 (by decide) (by decide) rfl (by decide) ?_
        exact law_c5 C N Lx hRm Y hk5 hL hB K
      | 6, _ =>
        refine r_tsw_in 298 C dL_law_32 (by decide) (by decide) rfl (by decide) ?_
        exact law_c6 C N Lx hRm Y hk5 hL hB K
      | 7, _ =>
        refine r_tsw_in 341 C dL_law_32 (by decide) (by decide) rfl (by decide) ?_
        exact law_c7 C N Lx hRm Y hk5 hL hB K
      | 8, _ =>
        refine r_tsw_in 364 C dL_law_32 (by decide) (by decide) rfl (by decide) ?_
        exact law_c8 C N Lx hRm Y hk5 hL hB K
      | 9, _ =>
        refine r_tsw_in 387 C dL_law_32 (by decide) (by decide) rfl (by decide) ?_
        exact law_c9 C N Lx hRm Y hk5 hL hB K
      | 10, _ =>
        refine r_tsw_in 410 C dL_law_32 (by decide) (by decide) rfl (by decide) ?_
        exact law_c10 C N Lx hRm Y hk5 hL hB K
      | 11, _ =>
        refine r_tsw_in 453 C dL_law_32 (by decide) (by decide) rfl (by decide) ?_
        exact law_c11 C N Lx hRm Y hk5 hL hB K
      | 12, _ =>
        refine r_tsw_in 486 C dL_law_32 (by decide) (by decide) rfl (by decide) ?_
        exact law_c12 C N Lx hRm Y hk5 hL hB K
      | 13, _ =>
        refine r_tsw_in 539 C dL_law_32 (by decide) (by decide) rfl (by decide) ?_
        exact law_c13 C N Lx hRm Y hk5 hL hB K
      | 14, _ =>
        refine r_tsw_in 552 C dL_law_32 (by decide) (by decide) rfl (by decide) ?_
        exact law_c14 C N Lx hRm Y hk5 hL hB K
      | 15, _ =>
        refine r_tsw_in 575 C dL_law_32 (by decide) (by decide) rfl (by decide) ?_
        exact law_c15 C N Lx hRm Y hk5 hL hB K
      | 16, _ =>
        refine r_tsw_in 598 C dL_law_32 (by decide) (by decide) rfl (by decide) ?_
        exact law_c16 C N Lx hRm Y hk5 hL hB K
      | 17, _ =>
        refine r_tsw_in 641 C dL_law_32 (by decide) (by decide) rfl (by decide) ?_
        exact law_c17 C N Lx hRm Y hk5 hL hB K
      | 18, _ =>
        refine r_tsw_in 674 C dL_law_32 (by decide) (by decide) rfl (by decide) ?_
        exact law_c18 C N Lx hRm Y hk5 hL hB K
      | 19, _ =>
        refine r_tsw_in 697 C dL_law_32 (by decide) (by decide) rfl (by decide) ?_
        exact law_c19 C N Lx hRm Y hk5 hL hB K
      | 20, _ =>
        refine r_tsw_in 756 C dL_law_32 (by decide) (by decide) rfl (by decide) ?_
        exact law_c20 C N Lx hRm Y hk5 hL hB K
      | 21, _ =>
        refine r_tsw_in 779 C dL_law_32 (by decide) (by decide) rfl (by decide) ?_
        exact law_c21 C N Lx hRm Y hk5 hL hB K
      | 22, _ =>
        refine r_tsw_in 812 C dL_law_32 (by decide) (by decide) rfl (by decide) ?_
        exact law_c22 C N Lx hRm Y hk5 hL hB K
      | 23, _ =>
        refine r_tsw_in 845 C dL_law_32 (by decide) (by decide) rfl (by decide) ?_
        exact law_c23 C N Lx hRm Y hk5 hL hB K
      | 24, _ =>
        refine r_tsw_in 858 C dL_law_32 (by decide) (by decide) rfl (by decide) ?_
        exact law_c24 C N Lx hRm Y hk5 hL hB K
      | 25, _ =>
        refine r_tsw_in 871 C dL_law_32 (by decide) (by decide) rfl (by decide) ?_
        exact law_c25 C N Lx hRm Y hk5 hL hB K
      | 26, _ =>
        refine r_tsw_in 894 C dL_law_32 (by decide) (by decide) rfl (by decide) ?_
        exact law_c26 C N Lx hRm Y hk5 hL hB K
      | 27, _ =>
        refine r_tsw_in 917 C dL_law_32 (by decide) (by decide) rfl (by decide) ?_
        exact law_c27 C N Lx hRm Y hk5 hL hB K
      | n + 28, hj => exact absurd hj (by omega)
set_option maxHeartbeats 4000000 in
theorem law_go {X : Cx} {b L : Nat} {xs : Nat → Int32} (C : Ok X E RL cL_law 4) (N : OkN X E 0 600000 7302250) (Lx : Ln X l) (hRm : ∀ d1 w, d1 ≤ 40 → w ≤ 40 → Rm X d1 w) (Y : OkX X E b L xs) (hL : L ≤ 320) (RET : ∀ (ls : LSt) (g : Hp), G X E SHP (68, 1994) 947 ls [.int 1] g) : G X E [] (0, 0) 0 [(0, .ref b)] [] (fun _ _ => 0) := by
  refine m_new (0) C N rfl rfl (fun _ => rfl) dL_law_0 (r := (RX7, TX7, 10)) rfl tw_13 tw_14 tw_1 tyX7 tyX7_ok hf7 (by decide) (by decide) rfl rfl (S' := [.inl (7, [1, 1, 1, 1, 1, 1, 1, 1, 0, 0])]) ?_
  refine r_dup C dL_law_3 rfl ?_
  refine n_init C N Lx (hRm _ _ (by decide) (by decide)) rfl dL_law_4 (s7_init (fun _ _ => rfl)) tw_15 mi7 (Nat.le_of_ble_eq_true rfl) (by decide) (by decide) (fun v g q => ?_)
  obtain ⟨rfl, rfl⟩ := q
  refine G.S (S' := SHP.take 49) ?_ rfl
  show G X E (SHP.take 49) (49, 1052) 7 [(0, .ref b)] [.ref (E.1 + 0)] hC0
  refine r_astore_n C dL_law_7 (by decide) rfl ?_
  refine m_new (49) C N rfl rfl (fun _ => rfl) dL_law_8 (r := (RX8, TX8, 37)) rfl tw_664 tw_665 tw_9 tyX8 tyX8_ok hf8 (by decide) (by decide) rfl rfl (S' := SHP.take 49 ++ [.inl (8, [0, 1, 0, 0, 0, 0, 0, 0, 0, 0, 0, 0, 1, 1, 1, 0, 0, 0, 1, 1, 1, 1, 1, 1, 1, 1, 0, 1, 1, 1, 0, 0, 1, 0, 1, 1, 0])]) ?_
  refine r_dup C dL_law_11 rfl ?_
  refine n_init C N Lx (hRm _ _ (by decide) (by decide)) rfl dL_law_12 (s8_init (fun a ha k => ?_)) tw_666 mi8 (Nat.le_of_ble_eq_true rfl) (by decide) (by decide) (fun v g q => ?_)
  · unfold hC0
    rw [up_row _ _ _ _ (by omega), up_row _ _ _ _ (by omega), up_row _ _ _ _ (by omega), up_row _ _ _ _ (by omega), up_row _ _ _ _ (by omega), up_row _ _ _ _ (by omega), up_row _ _ _ _ (by omega)]
  obtain ⟨rfl, rfl⟩ := q
  show G X E SHP (68, 1994) 15 [(1, .ref (E.1 + 0)), (0, .ref b)] [.ref (E.1 + 49)] hM0
  refine r_astore_n C dL_law_15 (by decide) rfl ?_
  refine r_iconst (0) C dL_law_16 rfl ?_
  refine r_istore_n C dL_law_17 (by decide) rfl ?_
  exact (law_loop C N Lx hRm Y hL RET 0 (Nat.zero_le _) hM0 Both_0).sub (show subL [(0, .ref b), (1, .ref (E.1 + 0)), (2, .ref (E.1 + 49)), (3, .int (nI (5 * 0)))] _ from ⟨rfl, rfl, rfl, rfl, trivial⟩)
set_option maxHeartbeats 8000000 in
set_option maxRecDepth 100000 in
theorem whole_start {p : Program} {e : Env} {s : State} {m : MethodId} {below : List Frame} {meth : Method} {c : Code} (l : Launch) {b L : Nat} {xs : Nat → Int32} (hL : L ≤ 320) (C0 : lw_At p s m meth c b L xs) : W p l e room_1 s m #[Value.ref b] below meth c s.heap [] 0 0 (lw_Z below #[Value.ref b] s) (entryFrame m ([Value.ref b] : List Value).toArray 4) := by
  obtain ⟨hx, hb, hr, hml, hown, hts, hX, hbl, hlocks, hgv⟩ := id C0
  have hs := flat_of_before _ hgv
  obtain ⟨cl0, iS0, hKn0⟩ := u_known (C := RX0) (T := TX0) (N := 12) (n := 12) hts inX0 (hts _ tw_51)
  obtain ⟨cl1, iS1, hKn1⟩ := u_known (C := RX1) (T := TX1) (N := 3) (n := 3) hts inX1 (hts _ tw_166)
  obtain ⟨cl2, iS2, hKn2⟩ := u_known (C := RX2) (T := TX2) (N := 6) (n := 6) hts inX2 (hts _ tw_115)
  obtain ⟨cl3, iS3, hKn3⟩ := u_known (C := RX3) (T := TX3) (N := 3) (n := 3) hts inX3 (hts _ tw_148)
  obtain ⟨cl4, iS4, hKn4⟩ := u_known (C := RX4) (T := TX4) (N := 6) (n := 6) hts inX4 (hts _ tw_22)
  obtain ⟨cl5, iS5, hKn5⟩ := u_known (C := RX5) (T := TX5) (N := 5) (n := 5) hts inX5 (hts _ tw_216)
  obtain ⟨cl6, iS6, hKn6⟩ := u_known (C := RX6) (T := TX6) (N := 7) (n := 7) hts inX6 (hts _ tw_185)
  obtain ⟨cl7, iS7, hKn7⟩ := u_known (C := RX7) (T := TX7) (N := 10) (n := 10) hts inX7 (hts _ tw_14)
  obtain ⟨cl8, iS8, hKn8⟩ := u_known (C := RX8) (T := TX8) (N := 37) (n := 37) hts inX8 (hts _ tw_665)
  obtain ⟨cI, kI, compI, f1, f2, f3⟩ := Cond.arrayClass_spec (hts _ tw_49)
  obtain ⟨cZ, kZ, compZ, g1, g2, g3⟩ := Cond.arrayClass_spec (hts _ tw_214)
  obtain ⟨compQ, cQ, kQ, q1, -, q3, q4, q5⟩ := Cond.arrayOver_spec (hts _ tw_165)
  obtain ⟨t0, ht0, hT0⟩ := va_Tof (tm := (Term.static "LastLaugh" "HALL_LEAST" "[I")) (ty := .int) (N := 2) (f := fun j => .int (stV 0 j)) (A := fun q => s.heap.size ≤ q) (by decide) (hs (Cond.arrayOf (Term.static "LastLaugh" "HALL_LEAST" "[I") .int) (by decide +kernel)) (va_eqt (z := 2) (hs (Cond.eq (.length (Term.static "LastLaugh" "HALL_LEAST" "[I")) (.int 2)) (by decide +kernel))) (two (P := fun j => (Term.elem (Term.static "LastLaugh" "HALL_LEAST" "[I") (.int (Int32.ofNat j))).eval #[Value.ref b] s none [] s = some (Value.int (stV 0 j))) (va_eqt (hs (Cond.eq (.elem (Term.static "LastLaugh" "HALL_LEAST" "[I") (.int 0)) (.int 0)) (by decide +kernel))) (va_eqt (hs (Cond.eq (.elem (Term.static "LastLaugh" "HALL_LEAST" "[I") (.int 1)) (.int 0)) (by decide +kernel)))) (fun a ha => Nat.not_le.mpr ha)
  have hZ0 : va_Z "LastLaugh" "HALL_LEAST" "[I" (.ref t0) (fun q => s.heap.size ≤ q) s s.heap := va_Zof (hts _ tw_309) (hts _ tw_1) ht0 (fun a ha => Nat.not_le.mpr ha)
  obtain ⟨t1, ht1, hT1⟩ := va_Tof (tm := (Term.static "LastLaugh" "HALL_MOST" "[I")) (ty := .int) (N := 2) (f := fun j => .int (stV 1 j)) (A := fun q => s.heap.size ≤ q) (by decide) (hs (Cond.arrayOf (Term.static "LastLaugh" "HALL_MOST" "[I") .int) (by decide +kernel)) (va_eqt (z := 2) (hs (Cond.eq (.length (Term.static "LastLaugh" "HALL_MOST" "[I")) (.int 2)) (by decide +kernel))) (two (P := fun j => (Term.elem (Term.static "LastLaugh" "HALL_MOST" "[I") (.int (Int32.ofNat j))).eval #[Value.ref b] s none [] s = some (Value.int (stV 1 j))) (va_eqt (hs (Cond.eq (.elem (Term.static "LastLaugh" "HALL_MOST" "[I") (.int 0)) (.int 5)) (by decide +kernel))) (va_eqt (hs (Cond.eq (.elem (Term.static "LastLaugh" "HALL_MOST" "[I") (.int 1)) (.int 3)) (by decide +kernel)))) (fun a ha => Nat.not_le.mpr ha)
  have hZ1 : va_Z "LastLaugh" "HALL_MOST" "[I" (.ref t1) (fun q => s.heap.size ≤ q) s s.heap := va_Zof (hts _ tw_311) (hts _ tw_1) ht1 (fun a ha => Nat.not_le.mpr ha)
  obtain ⟨t2, ht2, hT2⟩ := va_Tof (tm := (Term.static "LastLaugh" "LORD_LEAST" "[I")) (ty := .int) (N := 3) (f := fun j => .int (stV 2 j)) (A := fun q => s.heap.size ≤ q) (by decide) (hs (Cond.arrayOf (Term.static "LastLaugh" "LORD_LEAST" "[I") .int) (by decide +kernel)) (va_eqt (z := 3) (hs (Cond.eq (.length (Term.static "LastLaugh" "LORD_LEAST" "[I")) (.int 3)) (by decide +kernel))) (three (P := fun j => (Term.elem (Term.static "LastLaugh" "LORD_LEAST" "[I") (.int (Int32.ofNat j))).eval #[Value.ref b] s none [] s = some (Value.int (stV 2 j))) (va_eqt (hs (Cond.eq (.elem (Term.static "LastLaugh" "LORD_LEAST" "[I") (.int 0)) (.int 0)) (by decide +kernel))) (va_eqt (hs (Cond.eq (.elem (Term.static "LastLaugh" "LORD_LEAST" "[I") (.int 1)) (.int 1)) (by decide +kernel))) (va_eqt (hs (Cond.eq (.elem (Term.static "LastLaugh" "LORD_LEAST" "[I") (.int 2)) (.int 0)) (by decide +kernel)))) (fun a ha => Nat.not_le.mpr ha)
  have hZ2 : va_Z "LastLaugh" "LORD_LEAST" "[I" (.ref t2) (fun q => s.heap.size ≤ q) s s.heap := va_Zof (hts _ tw_328) (hts _ tw_1) ht2 (fun a ha => Nat.not_le.mpr ha)
  obtain ⟨t3, ht3, hT3⟩ := va_Tof (tm := (Term.static "LastLaugh" "LORD_MOST" "[I")) (ty := .int) (N := 3) (f := fun j => .int (stV 3 j)) (A := fun q => s.heap.size ≤ q) (by decide) (hs (Cond.arrayOf (Term.static "LastLaugh" "LORD_MOST" "[I") .int) (by decide +kernel)) (va_eqt (z := 3) (hs (Cond.eq (.length (Term.static "LastLaugh" "LORD_MOST" "[I")) (.int 3)) (by decide +kernel))) (three (P := fun j => (Term.elem (Term.static "LastLaugh" "LORD_MOST" "[I") (.int (Int32.ofNat j))).eval #[Value.ref b] s none [] s = some (Value.int (stV 3 j))) (va_eqt (hs (Cond.eq (.elem (Term.static "LastLaugh" "LORD_MOST" "[I") (.int 0)) (.int 2)) (by decide +kernel))) (va_eqt (hs (Cond.eq (.elem (Term.static "LastLaugh" "LORD_MOST" "[I") (.int 1)) (.int 20)) (by decide +kernel))) (va_eqt (hs (Cond.eq (.elem (Term.static "LastLaugh" "LORD_MOST" "[I") (.int 2)) (.int 15)) (by decide +kernel)))) (fun a ha => Nat.not_le.mpr ha)
  have hZ3 : va_Z "LastLaugh" "LORD_MOST" "[I" (.ref t3) (fun q => s.heap.size ≤ q) s s.heap := va_Zof (hts _ tw_330) (hts _ tw_1) ht3 (fun a ha => Nat.not_le.mpr ha)
  obtain ⟨t4, ht4, hT4⟩ := va_Tof (tm := (Term.static "LastLaugh" "JOKE_LEAST" "[I")) (ty := .int) (N := 2) (f := fun j => .int (stV 4 j)) (A := fun q => s.heap.size ≤ q) (by decide) (hs (Cond.arrayOf (Term.static "LastLaugh" "JOKE_LEAST" "[I") .int) (by decide +kernel)) (va_eqt (z := 2) (hs (Cond.eq (.length (Term.static "LastLaugh" "JOKE_LEAST" "[I")) (.int 2)) (by decide +kernel))) (two (P := fun j => (Term.elem (Term.static "LastLaugh" "JOKE_LEAST" "[I") (.int (Int32.ofNat j))).eval #[Value.ref b] s none [] s = some (Value.int (stV 4 j))) (va_eqt (hs (Cond.eq (.elem (Term.static "LastLaugh" "JOKE_LEAST" "[I") (.int 0)) (.int 0)) (by decide +kernel))) (va_eqt (hs (Cond.eq (.elem (Term.static "LastLaugh" "JOKE_LEAST" "[I") (.int 1)) (.int 1)) (by decide +kernel)))) (fun a ha => Nat.not_le.mpr ha)
  have hZ4 : va_Z "LastLaugh" "JOKE_LEAST" "[I" (.ref t4) (fun q => s.heap.size ≤ q) s s.heap := va_Zof (hts _ tw_336) (hts _ tw_1) ht4 (fun a ha => Nat.not_le.mpr ha)
  obtain ⟨t5, ht5, hT5⟩ := va_Tof (tm := (Term.static "LastLaugh" "JOKE_MOST" "[I")) (ty := .int) (N := 2) (f := fun j => .int (stV 5 j)) (A := fun q => s.heap.size ≤ q) (by decide) (hs (Cond.arrayOf (Term.static "LastLaugh" "JOKE_MOST" "[I") .int) (by decide +kernel)) (va_eqt (z := 2) (hs (Cond.eq (.length (Term.static "LastLaugh" "JOKE_MOST" "[I")) (.int 2)) (by decide +kernel))) (two (P := fun j => (Term.elem (Term.static "LastLaugh" "JOKE_MOST" "[I") (.int (Int32.ofNat j))).eval #[Value.ref b] s none [] s = some (Value.int (stV 5 j))) (va_eqt (hs (Cond.eq (.elem (Term.static "LastLaugh" "JOKE_MOST" "[I") (.int 0)) (.int 3)) (by decide +kernel))) (va_eqt (hs (Cond.eq (.elem (Term.static "LastLaugh" "JOKE_MOST" "[I") (.int 1)) (.int 30)) (by decide +kernel)))) (fun a ha => Nat.not_le.mpr ha)
  have hZ5 : va_Z "LastLaugh" "JOKE_MOST" "[I" (.ref t5) (fun q => s.heap.size ≤ q) s s.heap := va_Zof (hts _ tw_338) (hts _ tw_1) ht5 (fun a ha => Nat.not_le.mpr ha)
  let E : Ev := (s.heap.size, (fun k => if k = 0 then cl0 else if k = 1 then cl1 else if k = 2 then cl2 else if k = 3 then cl3 else if k = 4 then cl4 else if k = 5 then cl5 else if k = 6 then cl6 else if k = 7 then cl7 else cl8, fun k => if k = 0 then iS0 else if k = 1 then iS1 else if k = 2 then iS2 else if k = 3 then iS3 else if k = 4 then iS4 else if k = 5 then iS5 else if k = 6 then iS6 else if k = 7 then iS7 else iS8), (cI, cZ, cQ), fun i => if i = 0 then t0 else if i = 1 then t1 else if i = 2 then t2 else if i = 3 then t3 else if i = 4 then t4 else t5)
  have hK : va_K E.2.1 classes (tysE E) s := by
    refine ⟨fun k q hq => ?_, fun k q hq => ?_⟩
    · match k, hq with
      | 0, hq => cases hq; exact hKn0
      | 1, hq => cases hq; exact hKn1
      | 2, hq => cases hq; exact hKn2
      | 3, hq => cases hq; exact hKn3
      | 4, hq => cases hq; exact hKn4
      | 5, hq => cases hq; exact hKn5
      | 6, hq => cases hq; exact hKn6
      | 7, hq => cases hq; exact hKn7
      | 8, hq => cases hq; exact hKn8
      | k + 9, hq => simp [classes] at hq
    · match k, hq with
      | 0, hq => cases hq; exact ⟨fun n z => ⟨(fun k h => by cases h), kI, f2, compI, f3⟩, f1⟩
      | 1, hq => cases hq; exact ⟨fun n z => ⟨(fun k h => by cases h), kZ, g2, compZ, g3⟩, g1⟩
      | 2, hq => cases hq; exact ⟨fun n z => ⟨(fun k h => by cases h), kQ, q3, compQ, q4⟩, kQ, compQ, q3, q4, q1, q5⟩
      | k + 3, hq => simp [tysE] at hq
  have hSZ : SZ E s := by
    intro i hi
    match i, hi with
    | 0, _ => exact ⟨hZ0, hT0, va_Nw.of rfl (hts _ tw_308)⟩
    | 1, _ => exact ⟨hZ1, hT1, va_Nw.of rfl (hts _ tw_310)⟩
    | 2, _ => exact ⟨hZ2, hT2, va_Nw.of rfl (hts _ tw_327)⟩
    | 3, _ => exact ⟨hZ3, hT3, va_Nw.of rfl (hts _ tw_329)⟩
    | 4, _ => exact ⟨hZ4, hT4, va_Nw.of rfl (hts _ tw_335)⟩
    | 5, _ => exact ⟨hZ5, hT5, va_Nw.of rfl (hts _ tw_337)⟩
  have hNZ : NZ s := by
    refine ⟨va_AO.of (hts _ tw_165), ?_⟩
    refine List.forall_mem_cons.mpr ⟨va_Nw.of rfl (hts _ tw_23), List.forall_mem_cons.mpr ⟨va_Nw.of rfl (hts _ tw_52), List.forall_mem_cons.mpr ⟨va_Nw.of rfl (hts _ tw_116), List.forall_mem_cons.mpr ⟨va_Nw.of rfl (hts _ tw_149), List.forall_mem_cons.mpr ⟨va_Nw.of rfl (hts _ tw_167), List.forall_mem_cons.mpr ⟨va_Nw.of rfl (hts _ tw_186), List.forall_mem_cons.mpr ⟨va_Nw.of rfl (hts _ tw_217), List.forall_mem_cons.mpr ⟨va_Nw.of rfl (hts _ tw_222), fun _ q => absurd q List.not_mem_nil⟩⟩⟩⟩⟩⟩⟩⟩
  let X : Cx := (p, l, e, room_1, s, m, #[Value.ref b], below, meth, c, lw_Z below #[Value.ref b] s)
  have C : Ok X E RL cL_law 4 := ⟨hx, hb, hml, hown, fun w q => hts w (tblG_in w q), hK, hSZ, hlocks⟩
  have N : OkN X E 0 600000 7302250 := ⟨hNZ, rfl, Nat.le_of_ble_eq_true rfl, Nat.le_of_ble_eq_true rfl, Nat.le_of_ble_eq_true rfl, Nat.le_of_ble_eq_true rfl⟩
  have Lx : Ln X l := rfl
  have hRm : ∀ d1 w, d1 ≤ 40 → w ≤ 40 → Rm X d1 w := fun d1 w h1 h2 => ⟨by show d1 + 1 ≤ 2048; omega, by show 8 + (w + 11) + 40 * d1 ≤ 84000; omega⟩
  have Y : OkX X E b L xs := ⟨hX, hbl, rfl⟩
  have RET : ∀ (ls : LSt) (g : Hp), G X E SHP (68, 1994) 947 ls [.int 1] g := by
    intro ls g H locs lsA hP hS hl
    refine va_forget (fun q hq => hS.2.2 q hq) ?_
    refine W.widen (k := 600000) (n := 7302250) (Nat.le_of_ble_eq_true rfl) (Nat.le_of_ble_eq_true rfl) ?_
    exact lw_ret hx hb hr hlocks dL_law_947
  have GX : G X E [] (0, 0) 0 [(0, .ref b)] [] (fun _ _ => 0) := by
    clear_value X E
    exact law_go C N Lx hRm Y hL RET
  have hl := lv_entry [Value.ref b] (n := 4) (Nat.le_of_ble_eq_true rfl)
  rw [lg_entry_eq]
  exact GX s.heap [] _ (fun k q h => by cases h) va_S.rf (by rw [hml]; exact LH.of hl)
