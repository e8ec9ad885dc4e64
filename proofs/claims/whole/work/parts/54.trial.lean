variable {l : Launch} {E : Ev} {h : Hp}
/-- the trial holds the hall at o, holds, how often told -/
def CT (h : Hp) (o : Nat) (D : HDt) (t : Nat) (tm : Nat → Nat) : Prop := h 36 0 = nI o ∧ CHl h o D ∧ (∀ k, k < dL D → h 45 k = nI (hdF D t k)) ∧ ∀ j, j < dJ D → h 46 j = nI (tm j)
theorem CT_cg {g : Hp} {o t : Nat} {D : HDt} {tm : Nat → Nat} (q : CT h o D t tm) (ho : o ≤ 12) (e : ∀ a, a < 20 ∨ a = 36 ∨ a = 45 ∨ a = 46 → g a = h a) : CT g o D t tm := by
  obtain ⟨q1, q2, q3, q4⟩ := q
  refine ⟨by rw [e 36 (by omega)]; exact q1, CH_cg q2 (fun a h1 h2 => e a (by omega)), by rw [e 45 (by omega)]; exact q3, by rw [e 46 (by omega)]; exact q4⟩
def QS (h : Hp) (o : Nat) (D : HDt) (t : Nat) (tm : Nat → Nat) : Pst := fun v g => v = none ∧ CT g o D t tm ∧ ∀ a, a ≠ 36 → a ≠ 45 → a ≠ 46 → g a = h a
set_option maxHeartbeats 4000000 in
theorem s5_startFrom {o : Nat} {D : HDt} (hO : isH o) (hH : CHl h o D) {u : Mom} (ho : o ≤ 12) (hU : CM h u) (ht : mN u ≤ 100000) : Sp l E SHP 2 M5_startFrom [.ref (E.1 + 36), .ref (E.1 + o), .ref (E.1 + 20)] h (QS h o D (mN u) (mM u)) := by
  refine Sp.of (by decide) (Nat.le_of_ble_eq_true rfl) (fun X C F => ?_)
  have C : Ok X E RX5 cX5_startFrom 4 := C
  have F : Fn X l E SHP 2 none (QS h o D (mN u) (mM u)) := F
  show G X E SHP (0, 0) 0 [(0, .ref (E.1 + 36)), (1, .ref (E.1 + o)), (2, .ref (E.1 + 20))] [] h
  obtain ⟨okd, e1, e2, e3, e4, eL, eJ, eB, eF⟩ := id hH
  obtain ⟨o1, o2, o3, o4, o5, o6⟩ := id okd
  obtain ⟨u0, u1, u2, u3, uO, uM⟩ := id hU
  have L2 : ∀ k, k ≤ dJ D → G X E SHP (0, 0) 44 [(0, .ref (E.1 + 36)), (2, .ref (E.1 + 20)), (3, .int (nI k))] [] (upr (upr (up h 36 0 (nI o)) 45 (fil (h 45) (fun k => nI (hdF D (mN u) k)) (dL D))) 46 (fil (h 46) (fun j => nI (mM u j)) k)) := by
    refine loopN (dJ D) _ (fun k hk ih => ?_)
    have ek : (upr (upr (up h 36 0 (nI o)) 45 (fil (h 45) (fun k => nI (hdF D (mN u) k)) (dL D))) 46 (fil (h 46) (fun j => nI (mM u j)) k)) o 4 = nI (dJ D) := by rw [upr_row _ _ _ (by omega), upr_row _ _ _ (by omega), up_row _ _ _ _ (by omega)]; exact e4
    refine r_iload_n C dX5_startFrom_44 rfl ?_
    refine r_aload_n C dX5_startFrom_45 rfl ?_
    refine r_getV (o) C dX5_startFrom_46 flX5_12 (rfl) rfl (rfl) (by first | decide | omega) ?_
    refine r_getI C dX5_startFrom_49 flX5_44 (hO.1) rfl ?_
    refine r_icmp_ge 73 C dX5_startFrom_52 (by decide) (fun c_52 => ?_) (fun c_52 => ?_)
    · rw [cLe (x := (upr (upr (up h 36 0 (nI o)) 45 (fil (h 45) (fun k => nI (hdF D (mN u) k)) (dL D))) 46 (fil (h 46) (fun j => nI (mM u j)) k)) o 4) (c := nI k) (i := dJ D) (n := k) (ek) (rfl) (by omega) (by omega)] at c_52
      have hk2 : k = dJ D := by omega
      subst hk2
      refine r_vret C F dX5_startFrom_73 ⟨rfl, ⟨rfl, CH_cg hH (fun a h1 h2 => ?_), fun k hk => fil_lt (f := h 45) (v := (fun k => nI (hdF D (mN u) k))) hk, fun j hj => fil_lt (f := h 46) (v := (fun j => nI (mM u j))) hj⟩, fun a h1 h2 h3 => ?_⟩
      · rw [upr_row _ _ _ (by omega), upr_row _ _ _ (by omega), up_row _ _ _ _ (by omega)]
      · rw [upr_row _ _ _ h3, upr_row _ _ _ h2, up_row _ _ _ _ h1]
    · rw [cLe (x := (upr (upr (up h 36 0 (nI o)) 45 (fil (h 45) (fun k => nI (hdF D (mN u) k)) (dL D))) 46 (fil (h 46) (fun j => nI (mM u j)) k)) o 4) (c := nI k) (i := dJ D) (n := k) (ek) (rfl) (by omega) (by omega)] at c_52
      refine r_aload_n C dX5_startFrom_55 rfl ?_
      refine r_getR C dX5_startFrom_56 flX5_22 (rfl) rfl ?_
      refine r_iload_n C dX5_startFrom_59 rfl ?_
      refine r_aload_n C dX5_startFrom_60 rfl ?_
      refine r_getR C dX5_startFrom_61 flX5_47 (rfl) rfl ?_
      refine r_iload_n C dX5_startFrom_64 rfl ?_
      refine r_iald (k) C dX5_startFrom_65 (rfl) (rfl) (by omega) (by first | decide | omega) ?_
      refine r_iast (k) C dX5_startFrom_66 (rfl) (rfl) (by omega) (by first | decide | omega) ?_
      refine r_inc (1) C dX5_startFrom_67 rfl (by decide) rfl rfl ?_
      refine r_goto 44 C dX5_startFrom_70 (by decide) ?_
      exact (G.eq (ih (by omega)) rfl rfl (by rw [up_upr]; exact congrArg _ (fil_s (h 46) (fun j => nI (mM u j)) k (uM k (by omega))))).sub ⟨rfl, rfl, by rw [nI_succ]; rfl, trivial⟩
  have L1 : ∀ k, k ≤ dL D → G X E SHP (0, 0) 7 [(0, .ref (E.1 + 36)), (2, .ref (E.1 + 20)), (3, .int (nI k))] [] (upr (up h 36 0 (nI o)) 45 (fil (h 45) (fun k => nI (hdF D (mN u) k)) k)) := by
    refine loopN (dL D) _ (fun k hk ih => ?_)
    have ek : (upr (up h 36 0 (nI o)) 45 (fil (h 45) (fun k => nI (hdF D (mN u) k)) k)) o 3 = nI (dL D) := by rw [upr_row _ _ _ (by omega), up_row _ _ _ _ (by omega)]; exact e3
    refine r_iload_n C dX5_startFrom_7 rfl ?_
    refine r_aload_n C dX5_startFrom_8 rfl ?_
    refine r_getV (o) C dX5_startFrom_9 flX5_12 (rfl) rfl (rfl) (by first | decide | omega) ?_
    refine r_getI C dX5_startFrom_12 flX5_31 (hO.1) rfl ?_
    refine r_icmp_ge 42 C dX5_startFrom_15 (by decide) (fun c_15 => ?_) (fun c_15 => ?_)
    · rw [cLe (x := (upr (up h 36 0 (nI o)) 45 (fil (h 45) (fun k => nI (hdF D (mN u) k)) k)) o 3) (c := nI k) (i := dL D) (n := k) (ek) (rfl) (by omega) (by omega)] at c_15
      refine r_iconst (0) C dX5_startFrom_42 rfl ?_
      refine r_istore_n C dX5_startFrom_43 (by decide) rfl ?_
      have hk2 : k = dL D := by omega
      subst hk2
      exact (G.eq (L2 0 (by omega)) rfl rfl (by rw [fil_0 (h 46)]; exact (upr_id rfl).symm)).sub ⟨rfl, rfl, rfl, trivial⟩
    · rw [cLe (x := (upr (up h 36 0 (nI o)) 45 (fil (h 45) (fun k => nI (hdF D (mN u) k)) k)) o 3) (c := nI k) (i := dL D) (n := k) (ek) (rfl) (by omega) (by omega)] at c_15
      refine r_aload_n C dX5_startFrom_18 rfl ?_
      refine r_getR C dX5_startFrom_19 flX5_18 (rfl) rfl ?_
      refine r_iload_n C dX5_startFrom_22 rfl ?_
      refine r_aload_n C dX5_startFrom_23 rfl ?_
      refine r_getV (o) C dX5_startFrom_24 flX5_12 (rfl) rfl (rfl) (by first | decide | omega) ?_
      refine r_iload_n C dX5_startFrom_27 rfl ?_
      refine r_aload_n C dX5_startFrom_28 rfl ?_
      refine r_getI C dX5_startFrom_29 flX5_35 (rfl) rfl ?_
      rw [show (upr (up h 36 0 (nI o)) 45 (fil (h 45) (fun k => nI (hdF D (mN u) k)) k)) 20 1 = nI (mN u) from u1]
      refine r_cVi C F dX5_startFrom_32 (s0_holdOf hO (D := D) (CH_cg hH (fun a h1 h2 => by rw [upr_row _ _ _ (by omega), up_row _ _ _ _ (by omega)])) (i := k) (t := mN u) (by omega) ht) tw_430 m0_holdOf (hO.1) rfl (by decide) rfl (Nat.le_of_ble_eq_true rfl) ?_
      refine r_iast (k) C dX5_startFrom_35 (rfl) (rfl) (by omega) (by first | decide | omega) ?_
      refine r_inc (1) C dX5_startFrom_36 rfl (by decide) rfl rfl ?_
      refine r_goto 7 C dX5_startFrom_39 (by decide) ?_
      exact (G.eq (ih (by omega)) rfl rfl (by rw [up_upr]; exact congrArg _ (fil_s (h 45) (fun k => nI (hdF D (mN u) k)) k rfl))).sub ⟨rfl, rfl, by rw [nI_succ]; rfl, trivial⟩
  refine r_aload_n C dX5_startFrom_0 rfl ?_
  refine r_aload_n C dX5_startFrom_1 rfl ?_
  refine r_putV C dX5_startFrom_2 fwX5_12 (rfl) rfl (by first | decide | omega) ?_
  refine r_iconst (0) C dX5_startFrom_5 rfl ?_
  refine r_istore_n C dX5_startFrom_6 (by decide) rfl ?_
  exact (G.eq (L1 0 (by omega)) rfl rfl (by rw [fil_0]; exact (upr_id rfl).symm)).sub ⟨rfl, rfl, rfl, trivial⟩
set_option maxHeartbeats 4000000 in
theorem s5_thingAt {x : Int32} : Sp l E SHP 0 M5_thingAt [.ref (E.1 + 36), .int x] h (PD (some (.int (if inP x 0 2 then h 48 (cl x) else -1))) h) := by
  refine Sp.of (by decide) (Nat.le_of_ble_eq_true rfl) (fun X C F => ?_)
  have C : Ok X E RX5 cX5_thingAt 2 := C
  have F : Fn X l E SHP 0 (some FieldType.int) (PD (some (.int (if inP x 0 2 then h 48 (cl x) else -1))) h) := F
  show G X E SHP (0, 0) 0 [(0, .ref (E.1 + 36)), (1, .int x)] [] h
  refine r_iload_n C dX5_thingAt_0 rfl ?_
  refine r_if_lt 18 C dX5_thingAt_1 (by decide) (fun c_1 => ?_) (fun c_1 => ?_)
  · refine r_iconst (-1) C dX5_thingAt_18 rfl ?_
    exact r_iret C F dX5_thingAt_19 (pd_i (if_neg (fun z => absurd c_1 (Int32.not_lt.mpr z.1))).symm rfl)
  · refine r_iload_n C dX5_thingAt_4 rfl ?_
    refine r_iconst (3) C dX5_thingAt_5 rfl ?_
    refine r_icmp_ge 18 C dX5_thingAt_6 (by decide) (fun c_6 => ?_) (fun c_6 => ?_)
    · refine r_iconst (-1) C dX5_thingAt_18 rfl ?_
      exact r_iret C F dX5_thingAt_19 (pd_i (if_neg (fun z => absurd (Int32.le_trans c_6 z.2) (by decide))).symm rfl)
    · obtain ⟨k, hk, rfl⟩ := inP_of (n := 2) rfl (by decide) (show inP x 0 2 from ⟨Int32.not_lt.mp c_1, Int32.not_lt.mp (fun z => c_6 (by revert z; rw [Int32.lt_iff_toInt_lt, Int32.le_iff_toInt_le]; intro z; have : (2 : Int32).toInt = 2 := rfl; have h3 : (3 : Int32).toInt = 3 := rfl; omega))⟩)
      refine r_aload_n C dX5_thingAt_9 rfl ?_
      refine r_getR C dX5_thingAt_10 flX5_28 (rfl) rfl ?_
      refine r_iload_n C dX5_thingAt_13 rfl ?_
      refine r_iald (k) C dX5_thingAt_14 (rfl) (rfl) (by omega) (by decide) ?_
      refine r_goto 19 C dX5_thingAt_15 (by decide) ?_
      exact r_iret C F dX5_thingAt_19 (pd_i (by rw [if_pos ⟨(nI_leI (a := 0) (by decide) (by omega)).mpr (Nat.zero_le _), (nI_leI (b := 2) (by omega) (by decide)).mpr (by omega)⟩, cl_nI (by omega)]) rfl)
