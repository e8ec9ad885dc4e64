variable {l : Launch} {E : Ev} {h : Hp}
/-- the class's moment -/
def CM (h : Hp) (u : Mom) : Prop := h 20 0 = nI (mI u) ∧ h 20 1 = nI (mN u) ∧ h 20 2 = nI (mT u) ∧ h 20 3 = nI (mL u) ∧ (∀ i, i < 6 → h 21 i = mO u i) ∧ ∀ j, j < 6 → h 22 j = nI (mM u j)
def frM (h g : Hp) : Prop := ∀ a, a < 20 ∨ 22 < a → g a = h a
def QU (h : Hp) (u : Mom) : Pst := fun v g => v = none ∧ CM g u ∧ frM h g
def lauA (u : Mom) (j S : Nat) : Mom := (nd (mI u) S, mN u, mT u + 1, S, (fun k => if S.testBit k = true then nI (mT u + 1) else mO u k), fun k => if k = j then mM u k + 1 else mM u k)
theorem fil_n {f v : Nat → Int32} {k : Nat} (e : f k = v k) : fil f v k = fil f v (k + 1) := funext fun j => by
  unfold fil
  by_cases c : j < k
  · rw [if_pos c, if_pos (by omega)]
  · by_cases z : j = k
    · rw [if_neg c, if_pos (by omega), z]; exact e
    · rw [if_neg c, if_neg (by omega)]
set_option maxHeartbeats 4000000 in
theorem s2_begin {D : HDt} : Sp l E SHP 0 M2_begin [.ref (E.1 + 20), .int (nI (2 ^ dL D - 1))] h (QU h (beginA D)) := by
  refine Sp.of (by decide) (Nat.le_of_ble_eq_true rfl) (fun X C F => ?_)
  have C : Ok X E RX2 cX2_begin 3 := C
  have F : Fn X l E SHP 0 none (QU h (beginA D)) := F
  show G X E SHP (0, 0) 0 [(0, .ref (E.1 + 20)), (1, .int (nI (2 ^ dL D - 1)))] [] h
  refine r_aload_n C dX2_begin_0 rfl ?_
  refine r_iload_n C dX2_begin_1 rfl ?_
  refine r_putI C dX2_begin_2 fwX2_18 (rfl) rfl ?_
  refine r_aload_n C dX2_begin_5 rfl ?_
  refine r_iconst (0) C dX2_begin_6 rfl ?_
  refine r_putI C dX2_begin_7 fwX2_22 (rfl) rfl ?_
  refine r_aload_n C dX2_begin_10 rfl ?_
  refine r_iconst (0) C dX2_begin_11 rfl ?_
  refine r_putI C dX2_begin_12 fwX2_25 (rfl) rfl ?_
  refine r_aload_n C dX2_begin_15 rfl ?_
  refine r_iconst (0) C dX2_begin_16 rfl ?_
  refine r_putI C dX2_begin_17 fwX2_28 (rfl) rfl ?_
  have fa : ∀ a, a ≠ 20 → (up (up (up (up h 20 0 (nI (2 ^ dL D - 1))) 20 1 0) 20 2 0) 20 3 0) a = h a := fun a ha => by rw [up_row _ _ _ _ ha, up_row _ _ _ _ ha, up_row _ _ _ _ ha, up_row _ _ _ _ ha]
  have f0 : (up (up (up (up h 20 0 (nI (2 ^ dL D - 1))) 20 1 0) 20 2 0) 20 3 0) 20 0 = nI (2 ^ dL D - 1) := rfl
  have f1 : (up (up (up (up h 20 0 (nI (2 ^ dL D - 1))) 20 1 0) 20 2 0) 20 3 0) 20 1 = 0 := rfl
  have f2 : (up (up (up (up h 20 0 (nI (2 ^ dL D - 1))) 20 1 0) 20 2 0) 20 3 0) 20 2 = 0 := rfl
  have f3 : (up (up (up (up h 20 0 (nI (2 ^ dL D - 1))) 20 1 0) 20 2 0) 20 3 0) 20 3 = 0 := rfl
  generalize up (up (up (up h 20 0 (nI (2 ^ dL D - 1))) 20 1 0) 20 2 0) 20 3 0 = g0 at fa f0 f1 f2 f3 ⊢
  have L2 : ∀ k, k ≤ 6 → G X E SHP (0, 0) 43 [(0, .ref (E.1 + 20)), (2, .int (nI k))] [] (upr (upr g0 21 (fil (g0 21) (fun _ => -1) 6)) 22 (fil (g0 22) (fun _ => 0) k)) := by
    refine loopN 6 _ (fun k hk ih => ?_)
    refine r_iload_n C dX2_begin_43 rfl ?_
    refine r_bipush (6) C dX2_begin_44 rfl ?_
    refine r_icmp_ge 62 C dX2_begin_46 (by decide) (fun c_46 => ?_) (fun c_46 => ?_)
    · rw [cLe (x := 6) (c := nI k) (i := 6) (n := k) (rfl) (rfl) (by omega) (by omega)] at c_46
      have hk2 : k = 6 := by omega
      subst hk2
      exact r_vret C F dX2_begin_62 ⟨rfl, ⟨f0, f1, f2, f3, (fun i hi => fil_lt (f := g0 21) (v := fun _ => -1) hi), (fun i hi => fil_lt (f := g0 22) (v := fun _ => 0) hi)⟩, (fun a ha => by rw [upr_row _ _ _ (by omega), upr_row _ _ _ (by omega)]; exact fa a (by omega))⟩
    · rw [cLe (x := 6) (c := nI k) (i := 6) (n := k) (rfl) (rfl) (by omega) (by omega)] at c_46
      refine r_aload_n C dX2_begin_49 rfl ?_
      refine r_getR C dX2_begin_50 flX2_15 (rfl) rfl ?_
      refine r_iload_n C dX2_begin_53 rfl ?_
      refine r_iconst (0) C dX2_begin_54 rfl ?_
      refine r_iast (k) C dX2_begin_55 (rfl) (rfl) (by omega) (by decide) ?_
      refine r_inc (1) C dX2_begin_56 rfl (by decide) rfl rfl ?_
      refine r_goto 43 C dX2_begin_59 (by decide) ?_
      exact (G.eq (ih (by omega)) rfl rfl (by rw [up_upr]; exact congrArg _ (fil_s (g0 22) (fun _ => 0) k rfl))).sub ⟨rfl, by rw [nI_succ]; rfl, trivial⟩
  have L1 : ∀ k, k ≤ 6 → G X E SHP (0, 0) 22 [(0, .ref (E.1 + 20)), (2, .int (nI k))] [] (upr g0 21 (fil (g0 21) (fun _ => -1) k)) := by
    refine loopN 6 _ (fun k hk ih => ?_)
    refine r_iload_n C dX2_begin_22 rfl ?_
    refine r_bipush (6) C dX2_begin_23 rfl ?_
    refine r_icmp_ge 41 C dX2_begin_25 (by decide) (fun c_25 => ?_) (fun c_25 => ?_)
    · rw [cLe (x := 6) (c := nI k) (i := 6) (n := k) (rfl) (rfl) (by omega) (by omega)] at c_25
      refine r_iconst (0) C dX2_begin_41 rfl ?_
      refine r_istore_n C dX2_begin_42 (by decide) rfl ?_
      have hk2 : k = 6 := by omega
      subst hk2
      exact (G.eq (L2 0 (by omega)) rfl rfl (by rw [fil_0 (g0 22)]; exact (upr_id rfl).symm)).sub ⟨rfl, rfl, trivial⟩
    · rw [cLe (x := 6) (c := nI k) (i := 6) (n := k) (rfl) (rfl) (by omega) (by omega)] at c_25
      refine r_aload_n C dX2_begin_28 rfl ?_
      refine r_getR C dX2_begin_29 flX2_9 (rfl) rfl ?_
      refine r_iload_n C dX2_begin_32 rfl ?_
      refine r_iconst (-1) C dX2_begin_33 rfl ?_
      refine r_iast (k) C dX2_begin_34 (rfl) (rfl) (by omega) (by decide) ?_
      refine r_inc (1) C dX2_begin_35 rfl (by decide) rfl rfl ?_
      refine r_goto 22 C dX2_begin_38 (by decide) ?_
      exact (G.eq (ih (by omega)) rfl rfl (by rw [up_upr]; exact congrArg _ (fil_s (g0 21) (fun _ => -1) k rfl))).sub ⟨rfl, by rw [nI_succ]; rfl, trivial⟩
  refine r_iconst (0) C dX2_begin_20 rfl ?_
  refine r_istore_n C dX2_begin_21 (by decide) rfl ?_
  exact (G.eq (L1 0 (by omega)) rfl rfl (by rw [fil_0]; exact (upr_id rfl).symm)).sub ⟨rfl, rfl, trivial⟩
set_option maxHeartbeats 4000000 in
theorem s2_isIn {u : Mom} (hU : CM h u) {i : Nat} (hm : mI u < 64) (hi : i < 32) : Sp l E SHP 0 M2_isIn [.ref (E.1 + 20), .int (nI i)] h (PD (some (.int (bz ((mI u).testBit i = true)))) h) := by
  refine Sp.of (by decide) (Nat.le_of_ble_eq_true rfl) (fun X C F => ?_)
  have C : Ok X E RX2 cX2_isIn 2 := C
  have F : Fn X l E SHP 0 (some FieldType.boolean) (PD (some (.int (bz ((mI u).testBit i = true)))) h) := F
  show G X E SHP (0, 0) 0 [(0, .ref (E.1 + 20)), (1, .int (nI i))] [] h
  obtain ⟨e0, e1, e2, e3, eO, eM⟩ := id hU
  refine r_aload_n C dX2_isIn_0 rfl ?_
  refine r_getI C dX2_isIn_1 flX2_18 (rfl) rfl ?_
  refine r_iload_n C dX2_isIn_4 rfl ?_
  rw [e0]
  refine r_ishr C dX2_isIn_5 ?_
  refine r_iconst (1) C dX2_isIn_6 rfl ?_
  refine r_iand C dX2_isIn_7 ?_
  rw [bit_nI (by omega) hi]
  refine r_if_eq 15 C dX2_isIn_8 (by decide) (fun c_8 => ?_) (fun c_8 => ?_)
  · refine r_iconst (0) C dX2_isIn_15 rfl ?_
    refine r_zret C F dX2_isIn_16 rfl (pd_i (bz_f (fun z => by rw [z] at c_8; exact absurd c_8 (by decide))).symm rfl)
  · refine r_iconst (1) C dX2_isIn_11 rfl ?_
    refine r_goto 16 C dX2_isIn_12 (by decide) ?_
    refine r_zret C F dX2_isIn_16 rfl (pd_i (bz_t (by
      cases hb : (mI u).testBit i with
      | true => rfl
      | false => rw [hb] at c_8; exact absurd rfl c_8)).symm rfl)
set_option maxHeartbeats 4000000 in
theorem s2_letNightPass {u : Mom} (hU : CM h u) (hm : ∀ j, mM u j ≤ 100000) : Sp l E SHP 0 M2_letNightPass [.ref (E.1 + 20)] h (QU h (nightA u)) := by
  refine Sp.of (by decide) (Nat.le_of_ble_eq_true rfl) (fun X C F => ?_)
  have C : Ok X E RX2 cX2_letNightPass 2 := C
  have F : Fn X l E SHP 0 none (QU h (nightA u)) := F
  show G X E SHP (0, 0) 0 [(0, .ref (E.1 + 20))] [] h
  obtain ⟨e0, e1, e2, e3, eO, eM⟩ := id hU
  have L : ∀ k, k ≤ 6 → G X E SHP (0, 0) 12 [(0, .ref (E.1 + 20)), (1, .int (nI k))] [] (upr (up h 20 1 (h 20 1 + 1)) 22 (fil (h 22) (fun j => nI (mM u j - 1)) k)) := by
    refine loopN 6 _ (fun k hk ih => ?_)
    refine r_iload_n C dX2_letNightPass_12 rfl ?_
    refine r_bipush (6) C dX2_letNightPass_13 rfl ?_
    refine r_icmp_ge 43 C dX2_letNightPass_15 (by decide) (fun c_15 => ?_) (fun c_15 => ?_)
    · rw [cLe (x := 6) (c := nI k) (i := 6) (n := k) (rfl) (rfl) (by omega) (by omega)] at c_15
      have hk2 : k = 6 := by omega
      subst hk2
      exact r_vret C F dX2_letNightPass_43 ⟨rfl, ⟨e0, (by show h 20 1 + 1 = nI (mN u + 1); rw [e1]; exact (nI_succ _).symm), e2, e3, eO, (fun i hi => fil_lt (f := h 22) (v := fun j => nI (mM u j - 1)) hi)⟩, (fun a ha => by rw [upr_row _ _ _ (by omega), up_row _ _ _ _ (by omega)])⟩
    · rw [cLe (x := 6) (c := nI k) (i := 6) (n := k) (rfl) (rfl) (by omega) (by omega)] at c_15
      have hr : (upr (up h 20 1 (h 20 1 + 1)) 22 (fil (h 22) (fun j => nI (mM u j - 1)) k)) 22 k = nI (mM u k) := by rw [upr_self]; exact (if_neg (Nat.lt_irrefl k)).trans (eM k (by omega))
      have hmk := hm k
      refine r_aload_n C dX2_letNightPass_18 rfl ?_
      refine r_getR C dX2_letNightPass_19 flX2_15 (rfl) rfl ?_
      refine r_iload_n C dX2_letNightPass_22 rfl ?_
      refine r_iald (k) C dX2_letNightPass_23 (rfl) (rfl) (by omega) (by decide) ?_
      rw [hr]
      refine r_if_le 37 C dX2_letNightPass_24 (by decide) (fun c_24 => ?_) (fun c_24 => ?_)
      · rw [cLe (x := nI (mM u k)) (c := 0) (i := mM u k) (n := 0) (rfl) (rfl) (by omega) (by omega)] at c_24
        refine r_inc (1) C dX2_letNightPass_37 rfl (by decide) rfl rfl ?_
        refine r_goto 12 C dX2_letNightPass_40 (by decide) ?_
        exact (G.eq (ih (by omega)) rfl rfl (by rw [fil_n (show h 22 k = nI (mM u k - 1) by rw [eM k (by omega), show mM u k = 0 by omega])])).sub ⟨rfl, by rw [nI_succ]; rfl, trivial⟩
      · rw [cLe (x := nI (mM u k)) (c := 0) (i := mM u k) (n := 0) (rfl) (rfl) (by omega) (by omega)] at c_24
        refine r_aload_n C dX2_letNightPass_27 rfl ?_
        refine r_getR C dX2_letNightPass_28 flX2_15 (rfl) rfl ?_
        refine r_iload_n C dX2_letNightPass_31 rfl ?_
        refine r_dup2 C dX2_letNightPass_32 rfl rfl ?_
        refine r_iald (k) C dX2_letNightPass_33 (rfl) (rfl) (by omega) (by decide) ?_
        refine r_iconst (1) C dX2_letNightPass_34 rfl ?_
        refine r_isub C dX2_letNightPass_35 ?_
        refine r_iast (k) C dX2_letNightPass_36 (rfl) (rfl) (by omega) (by decide) ?_
        refine r_inc (1) C dX2_letNightPass_37 rfl (by decide) rfl rfl ?_
        refine r_goto 12 C dX2_letNightPass_40 (by decide) ?_
        exact (G.eq (ih (by omega)) rfl rfl (by rw [up_upr]; exact congrArg _ (fil_s (h 22) (fun j => nI (mM u j - 1)) k (by rw [hr]; exact pk_sub (b := 1) (by omega))))).sub ⟨rfl, by rw [nI_succ]; rfl, trivial⟩
  refine r_aload_n C dX2_letNightPass_0 rfl ?_
  refine r_dup C dX2_letNightPass_1 rfl ?_
  refine r_getI C dX2_letNightPass_2 flX2_22 (rfl) rfl ?_
  refine r_iconst (1) C dX2_letNightPass_5 rfl ?_
  refine r_iadd C dX2_letNightPass_6 ?_
  refine r_putI C dX2_letNightPass_7 fwX2_22 (rfl) rfl ?_
  refine r_iconst (0) C dX2_letNightPass_10 rfl ?_
  refine r_istore_n C dX2_letNightPass_11 (by decide) rfl ?_
  exact (G.eq (L 0 (by omega)) rfl rfl (by rw [fil_0]; exact (upr_id rfl).symm)).sub ⟨rfl, rfl, trivial⟩
set_option maxHeartbeats 4000000 in
theorem s2_letLaugh {u : Mom} (hU : CM h u) {j S : Nat} (hj : j < 6) (hS : S < 64) : Sp l E SHP 0 M2_letLaugh [.ref (E.1 + 20), .int (nI j), .int (nI S)] h (QU h (lauA u j S)) := by
  refine Sp.of (by decide) (Nat.le_of_ble_eq_true rfl) (fun X C F => ?_)
  have C : Ok X E RX2 cX2_letLaugh 4 := C
  have F : Fn X l E SHP 0 none (QU h (lauA u j S)) := F
  show G X E SHP (0, 0) 0 [(0, .ref (E.1 + 20)), (1, .int (nI j)), (2, .int (nI S))] [] h
  obtain ⟨e0, e1, e2, e3, eO, eM⟩ := id hU
  refine r_aload_n C dX2_letLaugh_0 rfl ?_
  refine r_dup C dX2_letLaugh_1 rfl ?_
  refine r_getI C dX2_letLaugh_2 flX2_25 (rfl) rfl ?_
  refine r_iconst (1) C dX2_letLaugh_5 rfl ?_
  refine r_iadd C dX2_letLaugh_6 ?_
  refine r_putI C dX2_letLaugh_7 fwX2_25 (rfl) rfl ?_
  refine r_aload_n C dX2_letLaugh_10 rfl ?_
  refine r_getR C dX2_letLaugh_11 flX2_15 (rfl) rfl ?_
  refine r_iload_n C dX2_letLaugh_14 rfl ?_
  refine r_dup2 C dX2_letLaugh_15 rfl rfl ?_
  refine r_iald (j) C dX2_letLaugh_16 (rfl) (rfl) (by omega) (by decide) ?_
  refine r_iconst (1) C dX2_letLaugh_17 rfl ?_
  refine r_iadd C dX2_letLaugh_18 ?_
  refine r_iast (j) C dX2_letLaugh_19 (rfl) (rfl) (by omega) (by decide) ?_
  refine r_aload_n C dX2_letLaugh_20 rfl ?_
  refine r_iload_n C dX2_letLaugh_21 rfl ?_
  refine r_putI C dX2_letLaugh_22 fwX2_28 (rfl) rfl ?_
  refine r_aload_n C dX2_letLaugh_25 rfl ?_
  refine r_dup C dX2_letLaugh_26 rfl ?_
  refine r_getI C dX2_letLaugh_27 flX2_18 (rfl) rfl ?_
  refine r_iload_n C dX2_letLaugh_30 rfl ?_
  refine r_iconst (-1) C dX2_letLaugh_31 rfl ?_
  refine r_ixor C dX2_letLaugh_32 ?_
  refine r_iand C dX2_letLaugh_33 ?_
  refine r_putI C dX2_letLaugh_34 fwX2_18 (rfl) rfl ?_
  have fa : ∀ a, a ≠ 20 → a ≠ 22 → (up (up (up (up h 20 2 (h 20 2 + 1)) 22 j ((up h 20 2 (h 20 2 + 1)) 22 j + 1)) 20 3 (nI S)) 20 0 ((up (up (up h 20 2 (h 20 2 + 1)) 22 j ((up h 20 2 (h 20 2 + 1)) 22 j + 1)) 20 3 (nI S)) 20 0 &&& (nI S ^^^ -1))) a = h a := fun a ha hb => by rw [up_row _ _ _ _ ha, up_row _ _ _ _ ha, up_row _ _ _ _ hb, up_row _ _ _ _ ha]
  have f0 : (up (up (up (up h 20 2 (h 20 2 + 1)) 22 j ((up h 20 2 (h 20 2 + 1)) 22 j + 1)) 20 3 (nI S)) 20 0 ((up (up (up h 20 2 (h 20 2 + 1)) 22 j ((up h 20 2 (h 20 2 + 1)) 22 j + 1)) 20 3 (nI S)) 20 0 &&& (nI S ^^^ -1))) 20 0 = nI (nd (mI u) S) := by show h 20 0 &&& (nI S ^^^ -1) = _; rw [e0]; exact nx_nd _ _
  have f1 : (up (up (up (up h 20 2 (h 20 2 + 1)) 22 j ((up h 20 2 (h 20 2 + 1)) 22 j + 1)) 20 3 (nI S)) 20 0 ((up (up (up h 20 2 (h 20 2 + 1)) 22 j ((up h 20 2 (h 20 2 + 1)) 22 j + 1)) 20 3 (nI S)) 20 0 &&& (nI S ^^^ -1))) 20 1 = nI (mN u) := e1
  have f2 : (up (up (up (up h 20 2 (h 20 2 + 1)) 22 j ((up h 20 2 (h 20 2 + 1)) 22 j + 1)) 20 3 (nI S)) 20 0 ((up (up (up h 20 2 (h 20 2 + 1)) 22 j ((up h 20 2 (h 20 2 + 1)) 22 j + 1)) 20 3 (nI S)) 20 0 &&& (nI S ^^^ -1))) 20 2 = nI (mT u + 1) := by show h 20 2 + 1 = _; rw [e2]; exact (nI_succ _).symm
  have f3 : (up (up (up (up h 20 2 (h 20 2 + 1)) 22 j ((up h 20 2 (h 20 2 + 1)) 22 j + 1)) 20 3 (nI S)) 20 0 ((up (up (up h 20 2 (h 20 2 + 1)) 22 j ((up h 20 2 (h 20 2 + 1)) 22 j + 1)) 20 3 (nI S)) 20 0 &&& (nI S ^^^ -1))) 20 3 = nI S := rfl
  have f4 : ∀ k, k < 6 → (up (up (up (up h 20 2 (h 20 2 + 1)) 22 j ((up h 20 2 (h 20 2 + 1)) 22 j + 1)) 20 3 (nI S)) 20 0 ((up (up (up h 20 2 (h 20 2 + 1)) 22 j ((up h 20 2 (h 20 2 + 1)) 22 j + 1)) 20 3 (nI S)) 20 0 &&& (nI S ^^^ -1))) 22 k = nI (if k = j then mM u k + 1 else mM u k) := fun k hk => by
    rw [up_row (a := 22) _ _ _ _ (by decide), up_row (a := 22) _ _ _ _ (by decide), up_if, up_row (a := 22) _ _ _ _ (by decide)]
    by_cases c : k = j
    · rw [if_pos c, if_pos c, c, eM j hj]; exact (nI_succ _).symm
    · rw [if_neg c, if_neg c, eM k hk]
  generalize up (up (up (up h 20 2 (h 20 2 + 1)) 22 j ((up h 20 2 (h 20 2 + 1)) 22 j + 1)) 20 3 (nI S)) 20 0 ((up (up (up h 20 2 (h 20 2 + 1)) 22 j ((up h 20 2 (h 20 2 + 1)) 22 j + 1)) 20 3 (nI S)) 20 0 &&& (nI S ^^^ -1)) = g0 at fa f0 f1 f2 f3 f4 ⊢
  have L : ∀ k, k ≤ 6 → G X E SHP (0, 0) 39 [(0, .ref (E.1 + 20)), (2, .int (nI S)), (3, .int (nI k))] [] (upr g0 21 (fil (h 21) (fun k => if S.testBit k = true then nI (mT u + 1) else mO u k) k)) := by
    refine loopN 6 _ (fun k hk ih => ?_)
    refine r_iload_n C dX2_letLaugh_39 rfl ?_
    refine r_bipush (6) C dX2_letLaugh_40 rfl ?_
    refine r_icmp_ge 69 C dX2_letLaugh_42 (by decide) (fun c_42 => ?_) (fun c_42 => ?_)
    · rw [cLe (x := 6) (c := nI k) (i := 6) (n := k) (rfl) (rfl) (by omega) (by omega)] at c_42
      have hk2 : k = 6 := by omega
      subst hk2
      exact r_vret C F dX2_letLaugh_69 ⟨rfl, ⟨f0, f1, f2, f3, (fun i hi => fil_lt (f := h 21) (v := (fun k => if S.testBit k = true then nI (mT u + 1) else mO u k)) hi), f4⟩, (fun a ha => by rw [upr_row _ _ _ (by omega)]; exact fa a (by omega) (by omega))⟩
    · rw [cLe (x := 6) (c := nI k) (i := 6) (n := k) (rfl) (rfl) (by omega) (by omega)] at c_42
      refine r_iload_n C dX2_letLaugh_45 rfl ?_
      refine r_iload_n C dX2_letLaugh_46 rfl ?_
      refine r_ishr C dX2_letLaugh_47 ?_
      refine r_iconst (1) C dX2_letLaugh_48 rfl ?_
      refine r_iand C dX2_letLaugh_49 ?_
      rw [bit_nI (by omega) (by omega)]
      refine r_if_eq 63 C dX2_letLaugh_50 (by decide) (fun c_50 => ?_) (fun c_50 => ?_)
      · have c_50 : S.testBit k = false := by
          cases hb : S.testBit k with
          | false => rfl
          | true => rw [hb] at c_50; exact absurd c_50 (by decide)
        refine r_inc (1) C dX2_letLaugh_63 rfl (by decide) rfl rfl ?_
        refine r_goto 39 C dX2_letLaugh_66 (by decide) ?_
        exact (G.eq (ih (by omega)) rfl rfl (by rw [fil_n (show h 21 k = (if S.testBit k = true then nI (mT u + 1) else mO u k) by rw [c_50, if_neg (by decide)]; exact eO k (by omega))])).sub ⟨rfl, rfl, by rw [nI_succ]; rfl, trivial⟩
      · have c_50 : S.testBit k = true := by
          cases hb : S.testBit k with
          | true => rfl
          | false => rw [hb] at c_50; exact absurd rfl c_50
        refine r_aload_n C dX2_letLaugh_53 rfl ?_
        refine r_getR C dX2_letLaugh_54 flX2_9 (rfl) rfl ?_
        refine r_iload_n C dX2_letLaugh_57 rfl ?_
        refine r_aload_n C dX2_letLaugh_58 rfl ?_
        refine r_getI C dX2_letLaugh_59 flX2_25 (rfl) rfl ?_
        refine r_iast (k) C dX2_letLaugh_62 (rfl) (rfl) (by omega) (by decide) ?_
        refine r_inc (1) C dX2_letLaugh_63 rfl (by decide) rfl rfl ?_
        refine r_goto 39 C dX2_letLaugh_66 (by decide) ?_
        exact (G.eq (ih (by omega)) rfl rfl (by rw [up_upr]; exact congrArg _ (fil_s (h 21) (fun k => if S.testBit k = true then nI (mT u + 1) else mO u k) k (by rw [upr_row (a := 20) _ _ _ (by decide), f2, c_50, if_pos rfl])))).sub ⟨rfl, rfl, by rw [nI_succ]; rfl, trivial⟩
  refine r_iconst (0) C dX2_letLaugh_37 rfl ?_
  refine r_istore_n C dX2_letLaugh_38 (by decide) rfl ?_
  exact (G.eq (L 0 (by omega)) rfl rfl (by rw [fil_0, ← fa 21 (by decide) (by decide)]; exact (upr_id rfl).symm)).sub ⟨rfl, rfl, rfl, trivial⟩
