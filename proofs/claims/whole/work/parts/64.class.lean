variable {l : Launch} {E : Ev} {h : Hp}
/-! ===== the class holds A ===== -/
def CIm (h : Hp) (f : Nat → Option (Mom × Nat)) : Prop := h 25 0 = nI 26 ∧ h 25 1 = nI 28 ∧ ∀ i, i < 2 → h (26 + 2 * i) 2 = b01 (f i).isSome ∧ ∀ u s, f i = some (u, s) → MomC (h (27 + 2 * i)) u ∧ h (26 + 2 * i) 1 = nI s
def CAo (h : Hp) (A : At) (o : Nat) : Prop := okA A ∧ (h 1 2 = nI (aX A).length ∧ ∀ k x, (aX A)[k]? = some x → h 2 k = x) ∧ h 0 9 = aF A ∧ (h 0 1 = nI o ∧ h 0 2 = nI (16 - o) ∧ (o = 4 ∨ o = 12)) ∧ (h o 0 = b01 (aH A) ∧ CHl h o (aD A)) ∧ h 0 8 = nI (aS A) ∧ CM h (aU A) ∧ CB h (aB A) ∧ CIm h (aI A) ∧ CG h (aG A) ∧ CE h (aE A)
def CA (h : Hp) (A : At) : Prop := ∃ o, CAo h A o
def QK (h : Hp) (r : Int32 × At) : Pst := fun v g => v = some (.int r.1) ∧ CA g r.2 ∧ ∀ a, 49 ≤ a → g a = h a
theorem QK_same {A : At} {v : Int32} (hA : CA h A) : QK h (v, A) (some (.int v)) h := ⟨rfl, hA, fun _ _ => rfl⟩
theorem isH_o {o : Nat} (q : o = 4 ∨ o = 12) : isH o := by
  rcases q with rfl | rfl
  · exact isH_4
  · exact isH_12
theorem CM_cg {g : Hp} {u : Mom} (q : CM h u) (e : ∀ a, 20 ≤ a → a ≤ 22 → g a = h a) : CM g u := by
  unfold CM at *
  rw [e 20 (by omega) (by omega), e 21 (by omega) (by omega), e 22 (by omega) (by omega)]
  exact q
theorem CB_cg {g : Hp} {B : List Mom} (q : CB h B) (e : ∀ a, a = 23 ∨ a = 24 → g a = h a) : CB g B := by
  unfold CB at *
  rw [e 23 (by omega), e 24 (by omega)]
  exact q
theorem CIm_cg {g : Hp} {f : Nat → Option (Mom × Nat)} (q : CIm h f) (e : ∀ a, 25 ≤ a → a ≤ 29 → g a = h a) : CIm g f := by
  obtain ⟨q1, q2, q3⟩ := q
  refine ⟨by rw [e 25 (by omega) (by omega)]; exact q1, by rw [e 25 (by omega) (by omega)]; exact q2, fun i hi => ?_⟩
  rw [e (26 + 2 * i) (by omega) (by omega), e (27 + 2 * i) (by omega) (by omega)]
  exact q3 i hi
theorem CG_cg {g : Hp} {L : List (Nat × Nat × Bool)} (q : CG h L) (e : ∀ a, 30 ≤ a → a ≤ 35 → g a = h a) : CG g L := by
  unfold CG at *
  rw [e 30 (by omega) (by omega), e 31 (by omega) (by omega), e 32 (by omega) (by omega), e 33 (by omega) (by omega)]
  exact q
theorem CE_cg {g : Hp} {L : List (Nat × Nat)} (q : CE h L) (e : ∀ a, 30 ≤ a → a ≤ 35 → g a = h a) : CE g L := by
  unfold CE at *
  rw [e 30 (by omega) (by omega), e 34 (by omega) (by omega), e 35 (by omega) (by omega)]
  exact q
/-- what the trial writes counts for nothing -/
theorem CAo_tr {g : Hp} {A : At} {o : Nat} (q : CAo h A o) (e : ∀ a, a < 36 → g a = h a) : CAo g A o := by
  obtain ⟨a, ⟨b1, b2⟩, b3, ⟨b4, b5, b6⟩, ⟨b7, b8⟩, b9, b10, b11, b12, b13, b14⟩ := q
  exact ⟨a, ⟨by rw [e 1 (by omega)]; exact b1, by rw [e 2 (by omega)]; exact b2⟩, by rw [e 0 (by omega)]; exact b3, ⟨by rw [e 0 (by omega)]; exact b4, by rw [e 0 (by omega)]; exact b5, b6⟩, ⟨by rw [e o (by omega)]; exact b7, CH_cg b8 (fun a h1 h2 => e a (by omega))⟩, by rw [e 0 (by omega)]; exact b9, CM_cg b10 (fun a h1 h2 => e a (by omega)), CB_cg b11 (fun a h1 => e a (by omega)), CIm_cg b12 (fun a h1 h2 => e a (by omega)), CG_cg b13 (fun a h1 h2 => e a (by omega)), CE_cg b14 (fun a h1 h2 => e a (by omega))⟩
theorem king_d : ∀ m, m < 64 → kingF m = if pc m 6 = 1 then nI (tzF m) else -1 := by decide +kernel
theorem pc1_pos : ∀ m, m < 64 → pc m 6 = 1 → 0 < m := by decide +kernel
set_option maxHeartbeats 4000000 in
theorem s7_isThing {A : At} (hA : CA h A) {x y z : Int32} : Sp l E SHP 1 M7_isThing [.ref (E.1 + 0), .int x, .int y, .int z] h (PD (some (.int (bz (thingA (aD A) x y z)))) h) := by
  refine Sp.of (by decide) (Nat.le_of_ble_eq_true rfl) (fun X C F => ?_)
  have C : Ok X E RX7 cX7_isThing 4 := C
  have F : Fn X l E SHP 1 (some FieldType.boolean) (PD (some (.int (bz (thingA (aD A) x y z)))) h) := F
  show G X E SHP (0, 0) 0 [(0, .ref (E.1 + 0)), (1, .int x), (2, .int y), (3, .int z)] [] h
  obtain ⟨o, hA0⟩ := id hA
  obtain ⟨⟨a1, a2, a3, a4, a5, a6, a7, a8, a9, a10, a11, a12⟩, ⟨b1, b2⟩, b3, ⟨b4, b5, b6⟩, ⟨b7, b8⟩, b9, b10, b11, b12, b13, b14⟩ := id hA0
  have hO : isH o := isH_o b6
  have ho : o ≤ 12 := by omega
  have ho4 : 4 ≤ o := by omega
  obtain ⟨okd, e1, e2, e3, e4, eL, eJ, eB, eF⟩ := id b8
  obtain ⟨o1, o2, o3, o4, o5, o6⟩ := id okd
  have p6 : 2 ^ dL (aD A) ≤ 64 := Nat.pow_le_pow_right (n := 2) (by decide) o1
  obtain ⟨k0, k1, k2, k3, k4, k5⟩ := id a5
  obtain ⟨u0, u1, u2, u3, uO, uM⟩ := id b10
  have hm64 : mI (aU A) < 64 := by omega
  refine r_aload_n C dX7_isThing_0 rfl ?_
  refine r_getV (o) C dX7_isThing_1 flX7_19 (rfl) rfl (b4) (by first | decide | omega) ?_
  refine r_iload_n C dX7_isThing_4 rfl ?_
  refine r_cVi C F dX7_isThing_5 (s0_hasLord hO b8) tw_385 m0_hasLord (hO.1) rfl (by decide) rfl (Nat.le_of_ble_eq_true rfl) ?_
  refine r_if_eq 42 C dX7_isThing_8 (by decide) (fun c_8 => ?_) (fun c_8 => ?_)
  · refine r_iconst (0) C dX7_isThing_42 rfl ?_
    rw [bz_eq0] at c_8
    exact r_zret C F dX7_isThing_43 rfl (pd_i (bz_f (fun z => c_8 z.1)).symm rfl)
  · refine r_aload_n C dX7_isThing_11 rfl ?_
    refine r_getV (o) C dX7_isThing_12 flX7_19 (rfl) rfl (b4) (by first | decide | omega) ?_
    refine r_iload_n C dX7_isThing_15 rfl ?_
    refine r_cVi C F dX7_isThing_16 (s0_hasJoke hO b8) tw_401 m0_hasJoke (hO.1) rfl (by decide) rfl (Nat.le_of_ble_eq_true rfl) ?_
    refine r_if_eq 42 C dX7_isThing_19 (by decide) (fun c_19 => ?_) (fun c_19 => ?_)
    · refine r_iconst (0) C dX7_isThing_42 rfl ?_
      rw [bz_eq0] at c_19
      exact r_zret C F dX7_isThing_43 rfl (pd_i (bz_f (fun z => c_19 z.2.1)).symm rfl)
    · refine r_aload_n C dX7_isThing_22 rfl ?_
      refine r_getV (o) C dX7_isThing_23 flX7_19 (rfl) rfl (b4) (by first | decide | omega) ?_
      refine r_iload_n C dX7_isThing_26 rfl ?_
      refine r_cVi C F dX7_isThing_27 (s0_hasLord hO b8) tw_385 m0_hasLord (hO.1) rfl (by decide) rfl (Nat.le_of_ble_eq_true rfl) ?_
      refine r_if_eq 42 C dX7_isThing_30 (by decide) (fun c_30 => ?_) (fun c_30 => ?_)
      · refine r_iconst (0) C dX7_isThing_42 rfl ?_
        rw [bz_eq0] at c_30
        exact r_zret C F dX7_isThing_43 rfl (pd_i (bz_f (fun z => c_30 z.2.2.1)).symm rfl)
      · refine r_iload_n C dX7_isThing_33 rfl ?_
        refine r_iload_n C dX7_isThing_34 rfl ?_
        refine r_icmp_eq 42 C dX7_isThing_35 (by decide) (fun c_35 => ?_) (fun c_35 => ?_)
        · refine r_iconst (0) C dX7_isThing_42 rfl ?_
          exact r_zret C F dX7_isThing_43 rfl (pd_i (bz_f (fun z => z.2.2.2 c_35)).symm rfl)
        · refine r_iconst (1) C dX7_isThing_38 rfl ?_
          refine r_goto 43 C dX7_isThing_39 (by decide) ?_
          rw [bz_ne0] at c_8 c_19 c_30
          exact r_zret C F dX7_isThing_43 rfl (pd_i (bz_t ⟨c_8, c_19, c_30, c_35⟩).symm rfl)
set_option maxHeartbeats 4000000 in
theorem s7_king {A : At} (hA : CA h A) : Sp l E SHP 1 M7_king [.ref (E.1 + 0)] h (PD (some (.int (kingF (mI (aU A))))) h) := by
  refine Sp.of (by decide) (Nat.le_of_ble_eq_true rfl) (fun X C F => ?_)
  have C : Ok X E RX7 cX7_king 1 := C
  have F : Fn X l E SHP 1 (some FieldType.int) (PD (some (.int (kingF (mI (aU A))))) h) := F
  show G X E SHP (0, 0) 0 [(0, .ref (E.1 + 0))] [] h
  obtain ⟨o, hA0⟩ := id hA
  obtain ⟨⟨a1, a2, a3, a4, a5, a6, a7, a8, a9, a10, a11, a12⟩, ⟨b1, b2⟩, b3, ⟨b4, b5, b6⟩, ⟨b7, b8⟩, b9, b10, b11, b12, b13, b14⟩ := id hA0
  have hO : isH o := isH_o b6
  have ho : o ≤ 12 := by omega
  have ho4 : 4 ≤ o := by omega
  obtain ⟨okd, e1, e2, e3, e4, eL, eJ, eB, eF⟩ := id b8
  obtain ⟨o1, o2, o3, o4, o5, o6⟩ := id okd
  have p6 : 2 ^ dL (aD A) ≤ 64 := Nat.pow_le_pow_right (n := 2) (by decide) o1
  obtain ⟨k0, k1, k2, k3, k4, k5⟩ := id a5
  obtain ⟨u0, u1, u2, u3, uO, uM⟩ := id b10
  have hm64 : mI (aU A) < 64 := by omega
  refine r_aload_n C dX7_king_0 rfl ?_
  refine r_getR C dX7_king_1 flX7_29 (rfl) rfl ?_
  refine r_getI C dX7_king_4 flX7_121 (rfl) rfl ?_
  rw [u0]
  refine r_cSi C F dX7_king_7 (sJ6_bitCount hm64) tw_371 mJ6_bitCount (by decide) rfl (Nat.le_of_ble_eq_true rfl) ?_
  refine r_iconst (1) C dX7_king_10 rfl ?_
  refine r_icmp_ne 27 C dX7_king_11 (by decide) (fun c_11 => ?_) (fun c_11 => ?_)
  · have hpc := pc_le (mI (aU A)) 6
    rw [cEq (x := nI (pc (mI (aU A)) 6)) (c := 1) (i := pc (mI (aU A)) 6) (n := 1) (rfl) (rfl) (by omega) (by omega)] at c_11
    refine r_iconst (-1) C dX7_king_27 rfl ?_
    exact r_iret C F dX7_king_28 (pd_i (by rw [king_d _ hm64, if_neg c_11]) rfl)
  · have hpc := pc_le (mI (aU A)) 6
    rw [cEq (x := nI (pc (mI (aU A)) 6)) (c := 1) (i := pc (mI (aU A)) 6) (n := 1) (rfl) (rfl) (by omega) (by omega)] at c_11
    refine r_aload_n C dX7_king_14 rfl ?_
    refine r_getR C dX7_king_15 flX7_29 (rfl) rfl ?_
    refine r_getI C dX7_king_18 flX7_121 (rfl) rfl ?_
    rw [u0]
    refine r_cSi C F dX7_king_21 (sJ6_numberOfTrailingZeros hm64 (pc1_pos _ hm64 c_11)) tw_377 mJ6_numberOfTrailingZeros (by decide) rfl (Nat.le_of_ble_eq_true rfl) ?_
    refine r_goto 28 C dX7_king_24 (by decide) ?_
    exact r_iret C F dX7_king_28 (pd_i (by rw [king_d _ hm64, if_pos c_11]) rfl)
set_option maxHeartbeats 4000000 in
theorem s7_told {A : At} (hA : CA h A) {w : Int32} : Sp l E SHP 2 M7_told [.ref (E.1 + 0), .int w] h (QK h (vTold A w, A)) := by
  refine Sp.of (by decide) (Nat.le_of_ble_eq_true rfl) (fun X C F => ?_)
  have C : Ok X E RX7 cX7_told 2 := C
  have F : Fn X l E SHP 2 (some FieldType.int) (QK h (vTold A w, A)) := F
  show G X E SHP (0, 0) 0 [(0, .ref (E.1 + 0)), (1, .int w)] [] h
  obtain ⟨o, hA0⟩ := id hA
  obtain ⟨⟨a1, a2, a3, a4, a5, a6, a7, a8, a9, a10, a11, a12⟩, ⟨b1, b2⟩, b3, ⟨b4, b5, b6⟩, ⟨b7, b8⟩, b9, b10, b11, b12, b13, b14⟩ := id hA0
  have hO : isH o := isH_o b6
  have ho : o ≤ 12 := by omega
  have ho4 : 4 ≤ o := by omega
  obtain ⟨okd, e1, e2, e3, e4, eL, eJ, eB, eF⟩ := id b8
  obtain ⟨o1, o2, o3, o4, o5, o6⟩ := id okd
  have p6 : 2 ^ dL (aD A) ≤ 64 := Nat.pow_le_pow_right (n := 2) (by decide) o1
  obtain ⟨k0, k1, k2, k3, k4, k5⟩ := id a5
  obtain ⟨u0, u1, u2, u3, uO, uM⟩ := id b10
  have hm64 : mI (aU A) < 64 := by omega
  refine r_iload_n C dX7_told_0 rfl ?_
  rcases pk_ix w (n := 14) (by decide) with q | q | ⟨j, hj, hq⟩
  · refine r_tsw_out 189 C dX7_told_1 (Or.inl (by have := Int32.lt_iff_toInt_lt.mp q; simpa using this)) (by decide) ?_
    refine r_ldc C dX7_told_189 tw_274 ?_
    exact r_iret C F dX7_told_191 (by unfold vTold; rw [if_pos (Or.inl q)]; exact QK_same hA)
  · refine r_tsw_out 189 C dX7_told_1 (Or.inr (by have := Int32.le_iff_toInt_le.mp q; rw [nI_toInt (by decide)] at this; omega)) (by decide) ?_
    refine r_ldc C dX7_told_189 tw_274 ?_
    exact r_iret C F dX7_told_191 (by unfold vTold; rw [if_pos (Or.inr q)]; exact QK_same hA)
  · subst hq
    match j, hj with
    | 0, _ =>
      refine r_tsw_in 72 C dX7_told_1 (by decide) (by decide) rfl (by decide) ?_
      refine r_aload_n C dX7_told_72 rfl ?_
      refine r_getV (o) C dX7_told_73 flX7_19 (rfl) rfl (b4) (by first | decide | omega) ?_
      refine r_getI C dX7_told_76 flX7_103 (hO.1) rfl ?_
      refine r_if_eq 86 C dX7_told_79 (by decide) (fun c_79 => ?_) (fun c_79 => ?_)
      · refine r_iconst (0) C dX7_told_86 rfl ?_
        have hh : aH A = false := b01_f (b7 ▸ c_79)
        exact r_iret C F dX7_told_87 (by unfold vTold; rw [if_neg (fun z => z.elim (fun y => absurd y (by decide)) (fun y => absurd y (by decide)))]; show QK h (b01 (aH A), A) _ _; rw [hh]; exact QK_same hA)
      · refine r_iconst (1) C dX7_told_82 rfl ?_
        refine r_goto 87 C dX7_told_83 (by decide) ?_
        have hh : aH A = true := b01_n (b7 ▸ c_79)
        exact r_iret C F dX7_told_87 (by unfold vTold; rw [if_neg (fun z => z.elim (fun y => absurd y (by decide)) (fun y => absurd y (by decide)))]; show QK h (b01 (aH A), A) _ _; rw [hh]; exact QK_same hA)
    | 1, _ =>
      refine r_tsw_in 88 C dX7_told_1 (by decide) (by decide) rfl (by decide) ?_
      refine r_aload_n C dX7_told_88 rfl ?_
      refine r_getV (o) C dX7_told_89 flX7_19 (rfl) rfl (b4) (by first | decide | omega) ?_
      refine r_getI C dX7_told_92 flX7_106 (hO.1) rfl ?_
      exact r_iret C F dX7_told_95 (by unfold vTold; rw [if_neg (fun z => z.elim (fun y => absurd y (by decide)) (fun y => absurd y (by decide)))]; exact ⟨congrArg (fun z => some (Value.int z)) (e1), hA, fun _ _ => rfl⟩)
    | 2, _ =>
      refine r_tsw_in 96 C dX7_told_1 (by decide) (by decide) rfl (by decide) ?_
      refine r_aload_n C dX7_told_96 rfl ?_
      refine r_getV (o) C dX7_told_97 flX7_19 (rfl) rfl (b4) (by first | decide | omega) ?_
      refine r_getI C dX7_told_100 flX7_109 (hO.1) rfl ?_
      exact r_iret C F dX7_told_103 (by unfold vTold; rw [if_neg (fun z => z.elim (fun y => absurd y (by decide)) (fun y => absurd y (by decide)))]; exact ⟨congrArg (fun z => some (Value.int z)) (e2), hA, fun _ _ => rfl⟩)
    | 3, _ =>
      refine r_tsw_in 104 C dX7_told_1 (by decide) (by decide) rfl (by decide) ?_
      refine r_aload_n C dX7_told_104 rfl ?_
      refine r_getV (o) C dX7_told_105 flX7_19 (rfl) rfl (b4) (by first | decide | omega) ?_
      refine r_getI C dX7_told_108 flX7_100 (hO.1) rfl ?_
      exact r_iret C F dX7_told_111 (by unfold vTold; rw [if_neg (fun z => z.elim (fun y => absurd y (by decide)) (fun y => absurd y (by decide)))]; exact ⟨congrArg (fun z => some (Value.int z)) (e3), hA, fun _ _ => rfl⟩)
    | 4, _ =>
      refine r_tsw_in 112 C dX7_told_1 (by decide) (by decide) rfl (by decide) ?_
      refine r_aload_n C dX7_told_112 rfl ?_
      refine r_getV (o) C dX7_told_113 flX7_19 (rfl) rfl (b4) (by first | decide | omega) ?_
      refine r_getI C dX7_told_116 flX7_112 (hO.1) rfl ?_
      exact r_iret C F dX7_told_119 (by unfold vTold; rw [if_neg (fun z => z.elim (fun y => absurd y (by decide)) (fun y => absurd y (by decide)))]; exact ⟨congrArg (fun z => some (Value.int z)) (e4), hA, fun _ _ => rfl⟩)
    | 5, _ =>
      refine r_tsw_in 120 C dX7_told_1 (by decide) (by decide) rfl (by decide) ?_
      refine r_aload_n C dX7_told_120 rfl ?_
      refine r_getR C dX7_told_121 flX7_12 (rfl) rfl ?_
      refine r_getI C dX7_told_124 flX7_69 (rfl) rfl ?_
      exact r_iret C F dX7_told_127 (by unfold vTold; rw [if_neg (fun z => z.elim (fun y => absurd y (by decide)) (fun y => absurd y (by decide)))]; exact ⟨congrArg (fun z => some (Value.int z)) (b1), hA, fun _ _ => rfl⟩)
    | 6, _ =>
      refine r_tsw_in 128 C dX7_told_1 (by decide) (by decide) rfl (by decide) ?_
      refine r_aload_n C dX7_told_128 rfl ?_
      refine r_getR C dX7_told_129 flX7_29 (rfl) rfl ?_
      refine r_getI C dX7_told_132 flX7_115 (rfl) rfl ?_
      exact r_iret C F dX7_told_135 (by unfold vTold; rw [if_neg (fun z => z.elim (fun y => absurd y (by decide)) (fun y => absurd y (by decide)))]; exact ⟨congrArg (fun z => some (Value.int z)) (u1), hA, fun _ _ => rfl⟩)
    | 7, _ =>
      refine r_tsw_in 136 C dX7_told_1 (by decide) (by decide) rfl (by decide) ?_
      refine r_aload_n C dX7_told_136 rfl ?_
      refine r_getR C dX7_told_137 flX7_29 (rfl) rfl ?_
      refine r_getI C dX7_told_140 flX7_118 (rfl) rfl ?_
      exact r_iret C F dX7_told_143 (by unfold vTold; rw [if_neg (fun z => z.elim (fun y => absurd y (by decide)) (fun y => absurd y (by decide)))]; exact ⟨congrArg (fun z => some (Value.int z)) (u2), hA, fun _ _ => rfl⟩)
    | 8, _ =>
      refine r_tsw_in 144 C dX7_told_1 (by decide) (by decide) rfl (by decide) ?_
      refine r_aload_n C dX7_told_144 rfl ?_
      refine r_getR C dX7_told_145 flX7_29 (rfl) rfl ?_
      refine r_getI C dX7_told_148 flX7_121 (rfl) rfl ?_
      exact r_iret C F dX7_told_151 (by unfold vTold; rw [if_neg (fun z => z.elim (fun y => absurd y (by decide)) (fun y => absurd y (by decide)))]; exact ⟨congrArg (fun z => some (Value.int z)) (u0), hA, fun _ _ => rfl⟩)
    | 9, _ =>
      refine r_tsw_in 152 C dX7_told_1 (by decide) (by decide) rfl (by decide) ?_
      refine r_aload_n C dX7_told_152 rfl ?_
      refine r_cVi C F dX7_told_153 (s7_king hA) tw_367 m7_king (rfl) rfl (by decide) rfl (Nat.le_of_ble_eq_true rfl) ?_
      exact r_iret C F dX7_told_156 (by unfold vTold; rw [if_neg (fun z => z.elim (fun y => absurd y (by decide)) (fun y => absurd y (by decide)))]; exact QK_same hA)
    | 10, _ =>
      refine r_tsw_in 157 C dX7_told_1 (by decide) (by decide) rfl (by decide) ?_
      refine r_aload_n C dX7_told_157 rfl ?_
      refine r_getR C dX7_told_158 flX7_29 (rfl) rfl ?_
      refine r_getI C dX7_told_161 flX7_127 (rfl) rfl ?_
      exact r_iret C F dX7_told_164 (by unfold vTold; rw [if_neg (fun z => z.elim (fun y => absurd y (by decide)) (fun y => absurd y (by decide)))]; exact ⟨congrArg (fun z => some (Value.int z)) (u3), hA, fun _ _ => rfl⟩)
    | 11, _ =>
      refine r_tsw_in 165 C dX7_told_1 (by decide) (by decide) rfl (by decide) ?_
      refine r_aload_n C dX7_told_165 rfl ?_
      refine r_getR C dX7_told_166 flX7_50 (rfl) rfl ?_
      refine r_getI C dX7_told_169 flX7_130 (rfl) rfl ?_
      exact r_iret C F dX7_told_172 (by unfold vTold; rw [if_neg (fun z => z.elim (fun y => absurd y (by decide)) (fun y => absurd y (by decide)))]; exact ⟨congrArg (fun z => some (Value.int z)) (b13.1), hA, fun _ _ => rfl⟩)
    | 12, _ =>
      refine r_tsw_in 173 C dX7_told_1 (by decide) (by decide) rfl (by decide) ?_
      refine r_aload_n C dX7_told_173 rfl ?_
      refine r_getR C dX7_told_174 flX7_50 (rfl) rfl ?_
      refine r_getI C dX7_told_177 flX7_133 (rfl) rfl ?_
      exact r_iret C F dX7_told_180 (by unfold vTold; rw [if_neg (fun z => z.elim (fun y => absurd y (by decide)) (fun y => absurd y (by decide)))]; exact ⟨congrArg (fun z => some (Value.int z)) (b14.1), hA, fun _ _ => rfl⟩)
    | 13, _ =>
      refine r_tsw_in 181 C dX7_told_1 (by decide) (by decide) rfl (by decide) ?_
      refine r_aload_n C dX7_told_181 rfl ?_
      refine r_getR C dX7_told_182 flX7_36 (rfl) rfl ?_
      refine r_getI C dX7_told_185 flX7_136 (rfl) rfl ?_
      exact r_iret C F dX7_told_188 (by unfold vTold; rw [if_neg (fun z => z.elim (fun y => absurd y (by decide)) (fun y => absurd y (by decide)))]; exact ⟨congrArg (fun z => some (Value.int z)) (b11.2.1), hA, fun _ _ => rfl⟩)
set_option maxHeartbeats 4000000 in
theorem s7_lord {A : At} (hA : CA h A) {x w : Int32} : Sp l E SHP 2 M7_lord [.ref (E.1 + 0), .int x, .int w] h (QK h (vLord A x w, A)) := by
  refine Sp.of (by decide) (Nat.le_of_ble_eq_true rfl) (fun X C F => ?_)
  have C : Ok X E RX7 cX7_lord 3 := C
  have F : Fn X l E SHP 2 (some FieldType.int) (QK h (vLord A x w, A)) := F
  show G X E SHP (0, 0) 0 [(0, .ref (E.1 + 0)), (1, .int x), (2, .int w)] [] h
  obtain ⟨o, hA0⟩ := id hA
  obtain ⟨⟨a1, a2, a3, a4, a5, a6, a7, a8, a9, a10, a11, a12⟩, ⟨b1, b2⟩, b3, ⟨b4, b5, b6⟩, ⟨b7, b8⟩, b9, b10, b11, b12, b13, b14⟩ := id hA0
  have hO : isH o := isH_o b6
  have ho : o ≤ 12 := by omega
  have ho4 : 4 ≤ o := by omega
  obtain ⟨okd, e1, e2, e3, e4, eL, eJ, eB, eF⟩ := id b8
  obtain ⟨o1, o2, o3, o4, o5, o6⟩ := id okd
  have p6 : 2 ^ dL (aD A) ≤ 64 := Nat.pow_le_pow_right (n := 2) (by decide) o1
  obtain ⟨k0, k1, k2, k3, k4, k5⟩ := id a5
  obtain ⟨u0, u1, u2, u3, uO, uM⟩ := id b10
  have hm64 : mI (aU A) < 64 := by omega
  refine r_aload_n C dX7_lord_0 rfl ?_
  refine r_getV (o) C dX7_lord_1 flX7_19 (rfl) rfl (b4) (by first | decide | omega) ?_
  refine r_iload_n C dX7_lord_4 rfl ?_
  refine r_cVi C F dX7_lord_5 (s0_hasLord hO b8) tw_385 m0_hasLord (hO.1) rfl (by decide) rfl (Nat.le_of_ble_eq_true rfl) ?_
  refine r_if_ne 14 C dX7_lord_8 (by decide) (fun c_8 => ?_) (fun c_8 => ?_)
  · rw [bz_ne0] at c_8
    have c_8b := c_8
    obtain ⟨i, hi, rfl⟩ := (inP_lord rfl o1).mp c_8
    refine r_iload_n C dX7_lord_14 rfl ?_
    rcases pk_ix w (n := 5) (by decide) with q | q | ⟨j, hj, hq⟩
    · refine r_tsw_out 104 C dX7_lord_15 (Or.inl (by have := Int32.lt_iff_toInt_lt.mp q; simpa using this)) (by decide) ?_
      refine r_ldc C dX7_lord_104 tw_274 ?_
      exact r_iret C F dX7_lord_106 (by unfold vLord; rw [if_neg (not_not_intro c_8b), if_pos (fun z => absurd q (Int32.not_lt.mpr z.1))]; exact QK_same hA)
    · refine r_tsw_out 104 C dX7_lord_15 (Or.inr (by have := Int32.le_iff_toInt_le.mp q; rw [nI_toInt (by decide)] at this; omega)) (by decide) ?_
      refine r_ldc C dX7_lord_104 tw_274 ?_
      exact r_iret C F dX7_lord_106 (by unfold vLord; rw [if_neg (not_not_intro c_8b), if_pos (fun z => absurd (Int32.le_trans q z.2) (by decide))]; exact QK_same hA)
    · subst hq
      match j, hj with
      | 0, _ =>
        refine r_tsw_in 48 C dX7_lord_15 (by decide) (by decide) rfl (by decide) ?_
        refine r_aload_n C dX7_lord_48 rfl ?_
        refine r_getV (o) C dX7_lord_49 flX7_19 (rfl) rfl (b4) (by first | decide | omega) ?_
        refine r_getR C dX7_lord_52 flX7_143 (hO.1) rfl ?_
        refine r_iload_n C dX7_lord_55 rfl ?_
        refine r_iald (i) C dX7_lord_56 (hO.2.1) (rfl) (by omega) (by first | decide | omega) ?_
        exact r_iret C F dX7_lord_57 (by unfold vLord; rw [if_neg (not_not_intro c_8b), if_neg (not_not_intro (by decide)), cl_nI (by omega)]; exact ⟨congrArg (fun z => some (Value.int z)) ((eL i hi).1), hA, fun _ _ => rfl⟩)
      | 1, _ =>
        refine r_tsw_in 58 C dX7_lord_15 (by decide) (by decide) rfl (by decide) ?_
        refine r_aload_n C dX7_lord_58 rfl ?_
        refine r_getV (o) C dX7_lord_59 flX7_19 (rfl) rfl (b4) (by first | decide | omega) ?_
        refine r_getR C dX7_lord_62 flX7_147 (hO.1) rfl ?_
        refine r_iload_n C dX7_lord_65 rfl ?_
        refine r_iald (i) C dX7_lord_66 (hO.2.2.1) (rfl) (by omega) (by first | decide | omega) ?_
        exact r_iret C F dX7_lord_67 (by unfold vLord; rw [if_neg (not_not_intro c_8b), if_neg (not_not_intro (by decide)), cl_nI (by omega)]; exact ⟨congrArg (fun z => some (Value.int z)) ((eL i hi).2.1), hA, fun _ _ => rfl⟩)
      | 2, _ =>
        refine r_tsw_in 68 C dX7_lord_15 (by decide) (by decide) rfl (by decide) ?_
        refine r_aload_n C dX7_lord_68 rfl ?_
        refine r_getV (o) C dX7_lord_69 flX7_19 (rfl) rfl (b4) (by first | decide | omega) ?_
        refine r_getR C dX7_lord_72 flX7_150 (hO.1) rfl ?_
        refine r_iload_n C dX7_lord_75 rfl ?_
        refine r_iald (i) C dX7_lord_76 (hO.2.2.2.1) (rfl) (by omega) (by first | decide | omega) ?_
        exact r_iret C F dX7_lord_77 (by unfold vLord; rw [if_neg (not_not_intro c_8b), if_neg (not_not_intro (by decide)), cl_nI (by omega)]; exact ⟨congrArg (fun z => some (Value.int z)) ((eL i hi).2.2), hA, fun _ _ => rfl⟩)
      | 3, _ =>
        refine r_tsw_in 78 C dX7_lord_15 (by decide) (by decide) rfl (by decide) ?_
        refine r_aload_n C dX7_lord_78 rfl ?_
        refine r_getV (o) C dX7_lord_79 flX7_19 (rfl) rfl (b4) (by first | decide | omega) ?_
        refine r_iload_n C dX7_lord_82 rfl ?_
        refine r_aload_n C dX7_lord_83 rfl ?_
        refine r_getR C dX7_lord_84 flX7_29 (rfl) rfl ?_
        refine r_getI C dX7_lord_87 flX7_115 (rfl) rfl ?_
        rw [u1]
        refine r_cVi C F dX7_lord_90 (s0_holdOf hO b8 (i := i) (t := mN (aU A)) hi (by omega)) tw_390 m0_holdOf (hO.1) rfl (by decide) rfl (Nat.le_of_ble_eq_true rfl) ?_
        exact r_iret C F dX7_lord_93 (by unfold vLord; rw [if_neg (not_not_intro c_8b), if_neg (not_not_intro (by decide)), cl_nI (by omega)]; exact ⟨congrArg (fun z => some (Value.int z)) (rfl), hA, fun _ _ => rfl⟩)
      | 4, _ =>
        refine r_tsw_in 94 C dX7_lord_15 (by decide) (by decide) rfl (by decide) ?_
        refine r_aload_n C dX7_lord_94 rfl ?_
        refine r_getR C dX7_lord_95 flX7_29 (rfl) rfl ?_
        refine r_getR C dX7_lord_98 flX7_157 (rfl) rfl ?_
        refine r_iload_n C dX7_lord_101 rfl ?_
        refine r_iald (i) C dX7_lord_102 (rfl) (rfl) (by omega) (by first | decide | omega) ?_
        exact r_iret C F dX7_lord_103 (by unfold vLord; rw [if_neg (not_not_intro c_8b), if_neg (not_not_intro (by decide)), cl_nI (by omega)]; exact ⟨congrArg (fun z => some (Value.int z)) (uO i (by omega)), hA, fun _ _ => rfl⟩)
  · refine r_ldc C dX7_lord_11 tw_389 ?_
    rw [bz_eq0] at c_8
    exact r_iret C F dX7_lord_13 (by unfold vLord; rw [if_pos c_8]; exact QK_same hA)
set_option maxHeartbeats 4000000 in
theorem s7_joke {A : At} (hA : CA h A) {x w : Int32} : Sp l E SHP 1 M7_joke [.ref (E.1 + 0), .int x, .int w] h (QK h (vJoke A x w, A)) := by
  refine Sp.of (by decide) (Nat.le_of_ble_eq_true rfl) (fun X C F => ?_)
  have C : Ok X E RX7 cX7_joke 3 := C
  have F : Fn X l E SHP 1 (some FieldType.int) (QK h (vJoke A x w, A)) := F
  show G X E SHP (0, 0) 0 [(0, .ref (E.1 + 0)), (1, .int x), (2, .int w)] [] h
  obtain ⟨o, hA0⟩ := id hA
  obtain ⟨⟨a1, a2, a3, a4, a5, a6, a7, a8, a9, a10, a11, a12⟩, ⟨b1, b2⟩, b3, ⟨b4, b5, b6⟩, ⟨b7, b8⟩, b9, b10, b11, b12, b13, b14⟩ := id hA0
  have hO : isH o := isH_o b6
  have ho : o ≤ 12 := by omega
  have ho4 : 4 ≤ o := by omega
  obtain ⟨okd, e1, e2, e3, e4, eL, eJ, eB, eF⟩ := id b8
  obtain ⟨o1, o2, o3, o4, o5, o6⟩ := id okd
  have p6 : 2 ^ dL (aD A) ≤ 64 := Nat.pow_le_pow_right (n := 2) (by decide) o1
  obtain ⟨k0, k1, k2, k3, k4, k5⟩ := id a5
  obtain ⟨u0, u1, u2, u3, uO, uM⟩ := id b10
  have hm64 : mI (aU A) < 64 := by omega
  refine r_aload_n C dX7_joke_0 rfl ?_
  refine r_getV (o) C dX7_joke_1 flX7_19 (rfl) rfl (b4) (by first | decide | omega) ?_
  refine r_iload_n C dX7_joke_4 rfl ?_
  refine r_cVi C F dX7_joke_5 (s0_hasJoke hO b8) tw_401 m0_hasJoke (hO.1) rfl (by decide) rfl (Nat.le_of_ble_eq_true rfl) ?_
  refine r_if_ne 14 C dX7_joke_8 (by decide) (fun c_8 => ?_) (fun c_8 => ?_)
  · rw [bz_ne0] at c_8
    have c_8b := c_8
    obtain ⟨i, hi, rfl⟩ := (inP_lord rfl o2).mp c_8
    refine r_iload_n C dX7_joke_14 rfl ?_
    rcases pk_ix w (n := 4) (by decide) with q | q | ⟨j, hj, hq⟩
    · refine r_tsw_out 92 C dX7_joke_15 (Or.inl (by have := Int32.lt_iff_toInt_lt.mp q; simpa using this)) (by decide) ?_
      refine r_ldc C dX7_joke_92 tw_274 ?_
      exact r_iret C F dX7_joke_94 (by unfold vJoke; rw [if_neg (not_not_intro c_8b), if_pos (fun z => absurd q (Int32.not_lt.mpr z.1))]; exact QK_same hA)
    · refine r_tsw_out 92 C dX7_joke_15 (Or.inr (by have := Int32.le_iff_toInt_le.mp q; rw [nI_toInt (by decide)] at this; omega)) (by decide) ?_
      refine r_ldc C dX7_joke_92 tw_274 ?_
      exact r_iret C F dX7_joke_94 (by unfold vJoke; rw [if_neg (not_not_intro c_8b), if_pos (fun z => absurd (Int32.le_trans q z.2) (by decide))]; exact QK_same hA)
    · subst hq
      match j, hj with
      | 0, _ =>
        refine r_tsw_in 44 C dX7_joke_15 (by decide) (by decide) rfl (by decide) ?_
        refine r_aload_n C dX7_joke_44 rfl ?_
        refine r_getV (o) C dX7_joke_45 flX7_19 (rfl) rfl (b4) (by first | decide | omega) ?_
        refine r_getR C dX7_joke_48 flX7_163 (hO.1) rfl ?_
        refine r_iload_n C dX7_joke_51 rfl ?_
        refine r_iald (i) C dX7_joke_52 (hO.2.2.2.2.1) (rfl) (by omega) (by first | decide | omega) ?_
        exact r_iret C F dX7_joke_53 (by unfold vJoke; rw [if_neg (not_not_intro c_8b), if_neg (not_not_intro (by decide)), cl_nI (by omega)]; exact ⟨congrArg (fun z => some (Value.int z)) ((eJ i hi).1), hA, fun _ _ => rfl⟩)
      | 1, _ =>
        refine r_tsw_in 54 C dX7_joke_15 (by decide) (by decide) rfl (by decide) ?_
        refine r_aload_n C dX7_joke_54 rfl ?_
        refine r_getV (o) C dX7_joke_55 flX7_19 (rfl) rfl (b4) (by first | decide | omega) ?_
        refine r_getR C dX7_joke_58 flX7_166 (hO.1) rfl ?_
        refine r_iload_n C dX7_joke_61 rfl ?_
        refine r_iald (i) C dX7_joke_62 (hO.2.2.2.2.2.1) (rfl) (by omega) (by first | decide | omega) ?_
        exact r_iret C F dX7_joke_63 (by unfold vJoke; rw [if_neg (not_not_intro c_8b), if_neg (not_not_intro (by decide)), cl_nI (by omega)]; exact ⟨congrArg (fun z => some (Value.int z)) ((eJ i hi).2), hA, fun _ _ => rfl⟩)
      | 2, _ =>
        refine r_tsw_in 64 C dX7_joke_15 (by decide) (by decide) rfl (by decide) ?_
        refine r_aload_n C dX7_joke_64 rfl ?_
        refine r_getV (o) C dX7_joke_65 flX7_19 (rfl) rfl (b4) (by first | decide | omega) ?_
        refine r_iload_n C dX7_joke_68 rfl ?_
        refine r_aload_n C dX7_joke_69 rfl ?_
        refine r_getR C dX7_joke_70 flX7_29 (rfl) rfl ?_
        refine r_getR C dX7_joke_73 flX7_169 (rfl) rfl ?_
        refine r_iload_n C dX7_joke_76 rfl ?_
        refine r_iald (i) C dX7_joke_77 (rfl) (rfl) (by omega) (by first | decide | omega) ?_
        rw [uM i (by omega)]
        refine r_cVi C F dX7_joke_78 (s0_wornFun hO b8 (j := i) (t := mM (aU A) i) hi (by have := k4 i; omega)) tw_405 m0_wornFun (hO.1) rfl (by decide) rfl (Nat.le_of_ble_eq_true rfl) ?_
        exact r_iret C F dX7_joke_81 (by unfold vJoke; rw [if_neg (not_not_intro c_8b), if_neg (not_not_intro (by decide)), cl_nI (by omega)]; exact ⟨congrArg (fun z => some (Value.int z)) (rfl), hA, fun _ _ => rfl⟩)
      | 3, _ =>
        refine r_tsw_in 82 C dX7_joke_15 (by decide) (by decide) rfl (by decide) ?_
        refine r_aload_n C dX7_joke_82 rfl ?_
        refine r_getR C dX7_joke_83 flX7_29 (rfl) rfl ?_
        refine r_getR C dX7_joke_86 flX7_169 (rfl) rfl ?_
        refine r_iload_n C dX7_joke_89 rfl ?_
        refine r_iald (i) C dX7_joke_90 (rfl) (rfl) (by omega) (by first | decide | omega) ?_
        exact r_iret C F dX7_joke_91 (by unfold vJoke; rw [if_neg (not_not_intro c_8b), if_neg (not_not_intro (by decide)), cl_nI (by omega)]; exact ⟨congrArg (fun z => some (Value.int z)) (uM i (by omega)), hA, fun _ _ => rfl⟩)
  · refine r_ldc C dX7_joke_11 tw_389 ?_
    rw [bz_eq0] at c_8
    exact r_iret C F dX7_joke_13 (by unfold vJoke; rw [if_pos c_8]; exact QK_same hA)
