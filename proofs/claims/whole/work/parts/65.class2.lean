variable {l : Launch} {E : Ev} {h : Hp}
theorem CAo_of {g : Hp} {A A' : At} {o : Nat} (q : CAo h A o) (ok : okA A') (hx : g 1 2 = nI (aX A').length ∧ ∀ k x, (aX A')[k]? = some x → g 2 k = x) (hf : g 0 9 = aF A') (h1 : g 0 1 = h 0 1) (h2 : g 0 2 = h 0 2) (hh : aH A' = aH A) (hD : aD A' = aD A) (fr : ∀ a, 4 ≤ a → a ≤ 19 → g a = h a) (hs : g 0 8 = nI (aS A')) (c1 : CM g (aU A')) (c2 : CB g (aB A')) (c3 : CIm g (aI A')) (c4 : CG g (aG A')) (c5 : CE g (aE A')) : CAo g A' o := by
  obtain ⟨a, ⟨b1, b2⟩, b3, ⟨b4, b5, b6⟩, ⟨b7, b8⟩, b9, b10, b11, b12, b13, b14⟩ := q
  exact ⟨ok, hx, hf, ⟨by rw [h1]; exact b4, by rw [h2]; exact b5, b6⟩, ⟨by rw [fr o (by omega) (by omega), hh]; exact b7, by rw [hD]; exact CH_cg b8 (fun a h1 h2 => fr a (by omega) (by omega))⟩, hs, c1, c2, c3, c4, c5⟩
theorem s7_faultA {A : At} (hA : CA h A) : Sp l E SHP 0 M7_fault [.ref (E.1 + 0)] h (QK h (aF A, A)) := by
  obtain ⟨o, hA0⟩ := id hA
  obtain ⟨⟨a1, a2, a3, a4, a5, a6, a7, a8, a9, a10, a11, a12⟩, ⟨b1, b2⟩, b3, ⟨b4, b5, b6⟩, ⟨b7, b8⟩, b9, b10, b11, b12, b13, b14⟩ := id hA0
  refine s7_fault.weaken (fun w h' q => ?_)
  obtain ⟨rfl, rfl⟩ := q
  rw [b3]
  exact QK_same hA
theorem s7_seedA {A : At} {v : Int32} (hA : CA h A) : Sp l E SHP 0 M7_seed [.ref (E.1 + 0), .int v] h (QK h (opSeed A v)) := by
  obtain ⟨o, hA0⟩ := id hA
  obtain ⟨⟨a1, a2, a3, a4, a5, a6, a7, a8, a9, a10, a11, a12⟩, ⟨b1, b2⟩, b3, ⟨b4, b5, b6⟩, ⟨b7, b8⟩, b9, b10, b11, b12, b13, b14⟩ := id hA0
  refine s7_seed.weaken (fun w h' q => ?_)
  obtain ⟨rfl, rfl⟩ := q
  unfold opSeed
  by_cases c : v < 0
  · rw [if_pos c, if_pos c, if_pos c]
    exact QK_same hA
  · rw [if_neg c, if_neg c, if_neg c]
    obtain ⟨j, hj, rfl⟩ := nI_of c
    rw [cl_nI hj]
    exact ⟨congrArg (fun z => some (Value.int z)) b9, ⟨o, CAo_of hA0 ⟨a1, a2, a3, hj, a5, a6, a7, a8, a9, a10, a11, a12⟩ ⟨b1, b2⟩ b3 rfl rfl rfl rfl (fun a h1 h2 => up_row _ _ _ _ (by omega)) (up_self _ _ _ _) (CM_cg b10 (fun a h1 h2 => up_row _ _ _ _ (by omega))) (CB_cg b11 (fun a h1 => up_row _ _ _ _ (by omega))) (CIm_cg b12 (fun a h1 h2 => up_row _ _ _ _ (by omega))) (CG_cg b13 (fun a h1 h2 => up_row _ _ _ _ (by omega))) (CE_cg b14 (fun a h1 h2 => up_row _ _ _ _ (by omega)))⟩, fun a ha => up_row _ _ _ _ (by omega)⟩
theorem CE_snoc {L : List (Nat × Nat)} {p : Nat × Nat} {g : Hp} (q : CE h L) (e6 : g 30 6 = nI (L.length + 1)) (e4 : g 34 = upd (h 34) L.length (nI p.1)) (e5 : g 35 = upd (h 35) L.length (nI p.2)) : CE g (L ++ [p]) := by
  refine ⟨by rw [e6, List.length_append]; rfl, fun r x hr => ?_⟩
  rw [e4, e5]
  rcases get_snoc hr with ⟨c1, c2⟩ | ⟨rfl, rfl⟩
  · have := q.2 r x c2
    rw [show upd (h 34) L.length (nI p.1) r = h 34 r from if_neg (by omega), show upd (h 35) L.length (nI p.2) r = h 35 r from if_neg (by omega)]
    exact this
  · exact ⟨if_pos rfl, if_pos rfl⟩
theorem CG_snoc {L : List (Nat × Nat × Bool)} {p : Nat × Nat × Bool} {g : Hp} (q : CG h L) (e6 : g 30 5 = nI (L.length + 1)) (e1 : g 31 = upd (h 31) L.length (nI p.1)) (e2 : g 32 = upd (h 32) L.length (nI p.2.1)) (e3 : g 33 = upd (h 33) L.length (b01 p.2.2)) : CG g (L ++ [p]) := by
  refine ⟨by rw [e6, List.length_append]; rfl, fun r x hr => ?_⟩
  rw [e1, e2, e3]
  rcases get_snoc hr with ⟨c1, c2⟩ | ⟨rfl, rfl⟩
  · have := q.2 r x c2
    rw [show upd (h 31) L.length (nI p.1) r = h 31 r from if_neg (by omega), show upd (h 32) L.length (nI p.2.1) r = h 32 r from if_neg (by omega), show upd (h 33) L.length (b01 p.2.2) r = h 33 r from if_neg (by omega)]
    exact this
  · exact ⟨if_pos rfl, if_pos rfl, if_pos rfl⟩
theorem b01_d (b : Bool) : decide (¬ b01 b = 0) = b := by cases b <;> decide
set_option maxHeartbeats 4000000 in
theorem s7_feed {A : At} (hA : CA h A) {x : Int32} : Sp l E SHP 1 M7_feed [.ref (E.1 + 0), .int x] h (QK h (opFeed A x)) := by
  refine Sp.of (by decide) (Nat.le_of_ble_eq_true rfl) (fun X C F => ?_)
  have C : Ok X E RX7 cX7_feed 2 := C
  have F : Fn X l E SHP 1 (some FieldType.int) (QK h (opFeed A x)) := F
  show G X E SHP (0, 0) 0 [(0, .ref (E.1 + 0)), (1, .int x)] [] h
  obtain ⟨o, hA0⟩ := id hA
  obtain ⟨⟨a1, a2, a3, a4, a5, a6, a7, a8, a9, a10, a11, a12⟩, ⟨b1, b2⟩, b3, ⟨b4, b5, b6⟩, ⟨b7, b8⟩, b9, b10, b11, b12, b13, b14⟩ := id hA0
  have hO : isH o := isH_o b6
  have ho : o ≤ 12 := by omega
  have ho4 : 4 ≤ o := by omega
  obtain ⟨okd, e1, e2, e3, e4, eL, eJ, eB, eF⟩ := id b8
  obtain ⟨o1, o2, o3, o4, o5, o6⟩ := id okd
  have p6 : 2 ^ dL (aD A) ≤ 64 := Nat.pow_le_pow_right (n := 2) (by decide) o1
  obtain ⟨k0, k1, k2, k3, k4, k5⟩ := id a5
  obtain ⟨u0, u1, u2, u3, uO, uM⟩ := id b10
  have hm64 : mI (aU A) < 64 := by omega
  refine r_iload_n C dX7_feed_0 rfl ?_
  refine r_if_lt 11 C dX7_feed_1 (by decide) (fun c_1 => ?_) (fun c_1 => ?_)
  · refine r_ldc C dX7_feed_11 tw_274 ?_
    exact r_iret C F dX7_feed_13 (by unfold opFeed; rw [if_pos (fun z => absurd c_1 (Int32.not_lt.mpr z.1))]; exact QK_same hA)
  · refine r_iload_n C dX7_feed_4 rfl ?_
    refine r_sipush (255) C dX7_feed_5 rfl ?_
    refine r_icmp_le 14 C dX7_feed_8 (by decide) (fun c_8 => ?_) (fun c_8 => ?_)
    · refine r_aload_n C dX7_feed_14 rfl ?_
      refine r_getR C dX7_feed_15 flX7_12 (rfl) rfl ?_
      refine r_getI C dX7_feed_18 flX7_69 (rfl) rfl ?_
      refine r_sipush (200) C dX7_feed_21 rfl ?_
      refine r_icmp_lt 30 C dX7_feed_24 (by decide) (fun c_24 => ?_) (fun c_24 => ?_)
      · rw [cLt (x := h 1 2) (c := 200) (i := (aX A).length) (n := 200) (b1) (rfl) (by omega) (by omega)] at c_24
        refine r_aload_n C dX7_feed_30 rfl ?_
        refine r_getR C dX7_feed_31 flX7_12 (rfl) rfl ?_
        refine r_iload_n C dX7_feed_34 rfl ?_
        refine r_cVv C F dX7_feed_35 (s4_add b1 (by omega)) tw_276 m4_add (rfl) rfl (by decide) rfl (Nat.le_of_ble_eq_true rfl) ?_
        refine r_aload_n C dX7_feed_38 rfl ?_
        refine r_getR C dX7_feed_39 flX7_12 (rfl) rfl ?_
        refine r_getI C dX7_feed_42 flX7_69 (rfl) rfl ?_
        refine r_iret C F dX7_feed_45 ?_
        unfold opFeed
        rw [if_neg (not_not_intro ⟨Int32.not_lt.mp c_1, c_8⟩), if_neg (by omega)]
        refine ⟨rfl, ⟨o, CAo_of hA0 ⟨by rw [List.length_append]; simp; omega, a2, a3, a4, a5, a6, a7, a8, a9, a10, a11, a12⟩ ⟨?_, fun k y q => ?_⟩ b3 rfl rfl rfl rfl (fun a h1 h2 => by rw [up_row _ _ _ _ (by omega), up_row _ _ _ _ (by omega)]) b9 (CM_cg b10 (fun a h1 h2 => by rw [up_row _ _ _ _ (by omega), up_row _ _ _ _ (by omega)])) (CB_cg b11 (fun a h1 => by rw [up_row _ _ _ _ (by omega), up_row _ _ _ _ (by omega)])) (CIm_cg b12 (fun a h1 h2 => by rw [up_row _ _ _ _ (by omega), up_row _ _ _ _ (by omega)])) (CG_cg b13 (fun a h1 h2 => by rw [up_row _ _ _ _ (by omega), up_row _ _ _ _ (by omega)])) (CE_cg b14 (fun a h1 h2 => by rw [up_row _ _ _ _ (by omega), up_row _ _ _ _ (by omega)]))⟩, fun a ha => by rw [up_row _ _ _ _ (by omega), up_row _ _ _ _ (by omega)]⟩
        · rw [up_self, List.length_append]; rfl
        · rw [up_row _ _ _ _ (by decide), up_if]
          rcases get_snoc q with ⟨z1, z2⟩ | ⟨rfl, rfl⟩
          · rw [if_neg (by omega)]; exact b2 k y z2
          · rw [if_pos rfl]
      · rw [cLt (x := h 1 2) (c := 200) (i := (aX A).length) (n := 200) (b1) (rfl) (by omega) (by omega)] at c_24
        refine r_ldc C dX7_feed_27 tw_275 ?_
        exact r_iret C F dX7_feed_29 (by unfold opFeed; rw [if_neg (not_not_intro ⟨Int32.not_lt.mp c_1, c_8⟩), if_pos (by omega)]; exact QK_same hA)
    · refine r_ldc C dX7_feed_11 tw_274 ?_
      exact r_iret C F dX7_feed_13 (by unfold opFeed; rw [if_pos (fun z => c_8 z.2)]; exact QK_same hA)
set_option maxHeartbeats 4000000 in
theorem s7_judge {A : At} (hA : CA h A) : Sp l E SHP 1 M7_judge [.ref (E.1 + 0)] h (QK h (vJudge A, A)) := by
  refine Sp.of (by decide) (Nat.le_of_ble_eq_true rfl) (fun X C F => ?_)
  have C : Ok X E RX7 cX7_judge 1 := C
  have F : Fn X l E SHP 1 (some FieldType.int) (QK h (vJudge A, A)) := F
  show G X E SHP (0, 0) 0 [(0, .ref (E.1 + 0))] [] h
  obtain ⟨o, hA0⟩ := id hA
  obtain ⟨⟨a1, a2, a3, a4, a5, a6, a7, a8, a9, a10, a11, a12⟩, ⟨b1, b2⟩, b3, ⟨b4, b5, b6⟩, ⟨b7, b8⟩, b9, b10, b11, b12, b13, b14⟩ := id hA0
  have hO : isH o := isH_o b6
  have ho : o ≤ 12 := by omega
  have ho4 : 4 ≤ o := by omega
  obtain ⟨okd, e1, e2, e3, e4, eL, eJ, eB, eF⟩ := id b8
  obtain ⟨o1, o2, o3, o4, o5, o6⟩ := id okd
  have p6 : 2 ^ dL (aD A) ≤ 64 := Nat.pow_le_pow_right (n := 2) (by decide) o1
  obtain ⟨k0, k1, k2, k3, k4, k5⟩ := id a5
  obtain ⟨u0, u1, u2, u3, uO, uM⟩ := id b10
  have hm64 : mI (aU A) < 64 := by omega
  refine r_aload_n C dX7_judge_0 rfl ?_
  refine r_getR C dX7_judge_1 flX7_50 (rfl) rfl ?_
  refine r_aload_n C dX7_judge_4 rfl ?_
  refine r_getR C dX7_judge_5 flX7_29 (rfl) rfl ?_
  refine r_getI C dX7_judge_8 flX7_118 (rfl) rfl ?_
  refine r_aload_n C dX7_judge_11 rfl ?_
  refine r_getR C dX7_judge_12 flX7_29 (rfl) rfl ?_
  refine r_getI C dX7_judge_15 flX7_121 (rfl) rfl ?_
  rw [u2, u0]
  refine r_cVi C F dX7_judge_18 (s6_firstWrong b14 a11 a12 (T := mT (aU A)) (I := mI (aU A)) (by omega) hm64) tw_635 m6_firstWrong (rfl) rfl (by decide) rfl (Nat.le_of_ble_eq_true rfl) ?_
  exact r_iret C F dX7_judge_21 (QK_same hA)
set_option maxHeartbeats 4000000 in
theorem s7_tear {A : At} (hA : CA h A) : Sp l E SHP 1 M7_tear [.ref (E.1 + 0)] h (QK h (opTear A)) := by
  refine Sp.of (by decide) (Nat.le_of_ble_eq_true rfl) (fun X C F => ?_)
  have C : Ok X E RX7 cX7_tear 2 := C
  have F : Fn X l E SHP 1 (some FieldType.int) (QK h (opTear A)) := F
  show G X E SHP (0, 0) 0 [(0, .ref (E.1 + 0))] [] h
  obtain ⟨o, hA0⟩ := id hA
  obtain ⟨⟨a1, a2, a3, a4, a5, a6, a7, a8, a9, a10, a11, a12⟩, ⟨b1, b2⟩, b3, ⟨b4, b5, b6⟩, ⟨b7, b8⟩, b9, b10, b11, b12, b13, b14⟩ := id hA0
  have hO : isH o := isH_o b6
  have ho : o ≤ 12 := by omega
  have ho4 : 4 ≤ o := by omega
  obtain ⟨okd, e1, e2, e3, e4, eL, eJ, eB, eF⟩ := id b8
  obtain ⟨o1, o2, o3, o4, o5, o6⟩ := id okd
  have p6 : 2 ^ dL (aD A) ≤ 64 := Nat.pow_le_pow_right (n := 2) (by decide) o1
  obtain ⟨k0, k1, k2, k3, k4, k5⟩ := id a5
  obtain ⟨u0, u1, u2, u3, uO, uM⟩ := id b10
  have hm64 : mI (aU A) < 64 := by omega
  refine r_aload_n C dX7_tear_0 rfl ?_
  refine r_getR C dX7_tear_1 flX7_50 (rfl) rfl ?_
  refine r_getI C dX7_tear_4 flX7_130 (rfl) rfl ?_
  refine r_aload_n C dX7_tear_7 rfl ?_
  refine r_getR C dX7_tear_8 flX7_50 (rfl) rfl ?_
  refine r_getI C dX7_tear_11 flX7_133 (rfl) rfl ?_
  refine r_iadd C dX7_tear_14 ?_
  refine r_istore_n C dX7_tear_15 (by decide) rfl ?_
  refine r_aload_n C dX7_tear_16 rfl ?_
  refine r_getR C dX7_tear_17 flX7_50 (rfl) rfl ?_
  refine r_cVv C F dX7_tear_20 (s6_forget) tw_351 m6_forget (rfl) rfl (by decide) rfl (Nat.le_of_ble_eq_true rfl) ?_
  refine r_iload_n C dX7_tear_23 rfl ?_
  refine r_iret C F dX7_tear_24 ⟨?_, ⟨o, CAo_of hA0 ⟨a1, a2, a3, a4, a5, a6, a7, a8, Nat.zero_le _, (fun _ q => absurd q List.not_mem_nil), Nat.zero_le _, (fun _ q => absurd q List.not_mem_nil)⟩ ⟨b1, b2⟩ b3 rfl rfl rfl rfl (fun a h1 h2 => by rw [up_row _ _ _ _ (by omega), up_row _ _ _ _ (by omega)]) b9 (CM_cg b10 (fun a h1 h2 => by rw [up_row _ _ _ _ (by omega), up_row _ _ _ _ (by omega)])) (CB_cg b11 (fun a h1 => by rw [up_row _ _ _ _ (by omega), up_row _ _ _ _ (by omega)])) (CIm_cg b12 (fun a h1 h2 => by rw [up_row _ _ _ _ (by omega), up_row _ _ _ _ (by omega)])) ⟨rfl, (fun r u q => (no_nil q).elim)⟩ ⟨rfl, (fun r u q => (no_nil q).elim)⟩⟩, fun a ha => by rw [up_row _ _ _ _ (by omega), up_row _ _ _ _ (by omega)]⟩
  rw [b13.1, b14.1, nI_add]; rfl
set_option maxHeartbeats 4000000 in
theorem s7_see {A : At} (hA : CA h A) {x y : Int32} {zz : Bool} : Sp l E SHP 1 M7_see [.ref (E.1 + 0), .int x, .int y, .int (b01 zz)] h (QK h (opSee A x y (b01 zz))) := by
  refine Sp.of (by decide) (Nat.le_of_ble_eq_true rfl) (fun X C F => ?_)
  have C : Ok X E RX7 cX7_see 4 := C
  have F : Fn X l E SHP 1 (some FieldType.int) (QK h (opSee A x y (b01 zz))) := F
  show G X E SHP (0, 0) 0 [(0, .ref (E.1 + 0)), (1, .int x), (2, .int y), (3, .int (b01 zz))] [] h
  obtain ⟨o, hA0⟩ := id hA
  obtain ⟨⟨a1, a2, a3, a4, a5, a6, a7, a8, a9, a10, a11, a12⟩, ⟨b1, b2⟩, b3, ⟨b4, b5, b6⟩, ⟨b7, b8⟩, b9, b10, b11, b12, b13, b14⟩ := id hA0
  have hO : isH o := isH_o b6
  have ho : o ≤ 12 := by omega
  have ho4 : 4 ≤ o := by omega
  obtain ⟨okd, e1, e2, e3, e4, eL, eJ, eB, eF⟩ := id b8
  obtain ⟨o1, o2, o3, o4, o5, o6⟩ := id okd
  have p6 : 2 ^ dL (aD A) ≤ 64 := Nat.pow_le_pow_right (n := 2) (by decide) o1
  obtain ⟨k0, k1, k2, k3, k4, k5⟩ := id a5
  obtain ⟨u0, u1, u2, u3, uO, uM⟩ := id b10
  have hm64 : mI (aU A) < 64 := by omega
  refine r_aload_n C dX7_see_0 rfl ?_
  refine r_getV (o) C dX7_see_1 flX7_19 (rfl) rfl (b4) (by first | decide | omega) ?_
  refine r_iload_n C dX7_see_4 rfl ?_
  refine r_cVi C F dX7_see_5 (s0_hasLord hO b8) tw_385 m0_hasLord (hO.1) rfl (by decide) rfl (Nat.le_of_ble_eq_true rfl) ?_
  refine r_if_eq 22 C dX7_see_8 (by decide) (fun c_8 => ?_) (fun c_8 => ?_)
  · refine r_ldc C dX7_see_22 tw_389 ?_
    rw [bz_eq0] at c_8
    exact r_iret C F dX7_see_24 (by unfold opSee; rw [if_pos (fun z => c_8 z.1)]; exact QK_same hA)
  · refine r_aload_n C dX7_see_11 rfl ?_
    refine r_getV (o) C dX7_see_12 flX7_19 (rfl) rfl (b4) (by first | decide | omega) ?_
    refine r_iload_n C dX7_see_15 rfl ?_
    refine r_cVi C F dX7_see_16 (s0_hasJoke hO b8) tw_401 m0_hasJoke (hO.1) rfl (by decide) rfl (Nat.le_of_ble_eq_true rfl) ?_
    refine r_if_ne 25 C dX7_see_19 (by decide) (fun c_19 => ?_) (fun c_19 => ?_)
    · rw [bz_ne0] at c_8 c_19
      refine r_aload_n C dX7_see_25 rfl ?_
      refine r_getR C dX7_see_26 flX7_50 (rfl) rfl ?_
      refine r_getI C dX7_see_29 flX7_130 (rfl) rfl ?_
      refine r_bipush (6) C dX7_see_32 rfl ?_
      refine r_icmp_lt 40 C dX7_see_34 (by decide) (fun c_34 => ?_) (fun c_34 => ?_)
      · rw [cLt (x := h 30 5) (c := 6) (i := (aG A).length) (n := 6) (b13.1) (rfl) (by omega) (by omega)] at c_34
        refine r_aload_n C dX7_see_40 rfl ?_
        refine r_getR C dX7_see_41 flX7_50 (rfl) rfl ?_
        refine r_iload_n C dX7_see_44 rfl ?_
        refine r_iload_n C dX7_see_45 rfl ?_
        refine r_iload_n C dX7_see_46 rfl ?_
        refine r_cVv C F dX7_see_47 (s6_addSeen (z := zz) b13.1 (by omega)) tw_607 m6_addSeen (rfl) rfl (by decide) rfl (Nat.le_of_ble_eq_true rfl) ?_
        refine r_aload_n C dX7_see_50 rfl ?_
        refine r_getR C dX7_see_51 flX7_50 (rfl) rfl ?_
        refine r_getI C dX7_see_54 flX7_130 (rfl) rfl ?_
        have c8 := c_8
        have c19 := c_19
        obtain ⟨i, hi, rfl⟩ := (inP_lord rfl o1).mp c8
        obtain ⟨j, hj, rfl⟩ := (inP_lord rfl o2).mp c19
        refine r_iret C F dX7_see_57 ?_
        unfold opSee
        rw [if_neg (not_not_intro ⟨c_8, c_19⟩), if_neg (by omega), b01_d, cl_nI (by omega), cl_nI (by omega)]
        refine ⟨rfl, ⟨o, CAo_of hA0 ⟨a1, a2, a3, a4, a5, a6, a7, a8, by rw [List.length_append]; simp; omega, fun q hq => ?_, a11, a12⟩ ⟨b1, b2⟩ b3 rfl rfl rfl rfl (fun a h1 h2 => by rw [up_row _ _ _ _ (by omega), up_row _ _ _ _ (by omega), up_row _ _ _ _ (by omega), up_row _ _ _ _ (by omega)]) b9 (CM_cg b10 (fun a h1 h2 => by rw [up_row _ _ _ _ (by omega), up_row _ _ _ _ (by omega), up_row _ _ _ _ (by omega), up_row _ _ _ _ (by omega)])) (CB_cg b11 (fun a h1 => by rw [up_row _ _ _ _ (by omega), up_row _ _ _ _ (by omega), up_row _ _ _ _ (by omega), up_row _ _ _ _ (by omega)])) (CIm_cg b12 (fun a h1 h2 => by rw [up_row _ _ _ _ (by omega), up_row _ _ _ _ (by omega), up_row _ _ _ _ (by omega), up_row _ _ _ _ (by omega)])) (CG_snoc b13 (up_self _ _ _ _) rfl rfl rfl) ⟨b14.1, b14.2⟩⟩, fun a ha => by rw [up_row _ _ _ _ (by omega), up_row _ _ _ _ (by omega), up_row _ _ _ _ (by omega), up_row _ _ _ _ (by omega)]⟩
        rcases List.mem_append.mp hq with z | z
        · exact a10 q z
        · rw [List.mem_singleton.mp z]; exact ⟨hi, hj⟩
      · rw [cLt (x := h 30 5) (c := 6) (i := (aG A).length) (n := 6) (b13.1) (rfl) (by omega) (by omega)] at c_34
        refine r_ldc C dX7_see_37 tw_275 ?_
        exact r_iret C F dX7_see_39 (by unfold opSee; rw [if_neg (not_not_intro ⟨c_8, c_19⟩), if_pos (by omega)]; exact QK_same hA)
    · refine r_ldc C dX7_see_22 tw_389 ?_
      rw [bz_eq0] at c_19
      exact r_iret C F dX7_see_24 (by unfold opSee; rw [if_pos (fun z => c_19 z.2)]; exact QK_same hA)
set_option maxHeartbeats 4000000 in
theorem s7_write {A : At} (hA : CA h A) {x y : Int32} : Sp l E SHP 2 M7_write [.ref (E.1 + 0), .int x, .int y] h (QK h (opWrite A x y)) := by
  refine Sp.of (by decide) (Nat.le_of_ble_eq_true rfl) (fun X C F => ?_)
  have C : Ok X E RX7 cX7_write 3 := C
  have F : Fn X l E SHP 2 (some FieldType.int) (QK h (opWrite A x y)) := F
  show G X E SHP (0, 0) 0 [(0, .ref (E.1 + 0)), (1, .int x), (2, .int y)] [] h
  obtain ⟨o, hA0⟩ := id hA
  obtain ⟨⟨a1, a2, a3, a4, a5, a6, a7, a8, a9, a10, a11, a12⟩, ⟨b1, b2⟩, b3, ⟨b4, b5, b6⟩, ⟨b7, b8⟩, b9, b10, b11, b12, b13, b14⟩ := id hA0
  have hO : isH o := isH_o b6
  have ho : o ≤ 12 := by omega
  have ho4 : 4 ≤ o := by omega
  obtain ⟨okd, e1, e2, e3, e4, eL, eJ, eB, eF⟩ := id b8
  obtain ⟨o1, o2, o3, o4, o5, o6⟩ := id okd
  have p6 : 2 ^ dL (aD A) ≤ 64 := Nat.pow_le_pow_right (n := 2) (by decide) o1
  obtain ⟨k0, k1, k2, k3, k4, k5⟩ := id a5
  obtain ⟨u0, u1, u2, u3, uO, uM⟩ := id b10
  have hm64 : mI (aU A) < 64 := by omega
  refine r_aload_n C dX7_write_0 rfl ?_
  refine r_getV (o) C dX7_write_1 flX7_19 (rfl) rfl (b4) (by first | decide | omega) ?_
  refine r_iload_n C dX7_write_4 rfl ?_
  refine r_cVi C F dX7_write_5 (s0_hasAll hO b8) tw_578 m0_hasAll (hO.1) rfl (by decide) rfl (Nat.le_of_ble_eq_true rfl) ?_
  refine r_if_ne 14 C dX7_write_8 (by decide) (fun c_8 => ?_) (fun c_8 => ?_)
  · refine r_iload_n C dX7_write_14 rfl ?_
    refine r_if_lt 25 C dX7_write_15 (by decide) (fun c_15 => ?_) (fun c_15 => ?_)
    · refine r_ldc C dX7_write_25 tw_274 ?_
      rw [bz_ne0] at c_8
      exact r_iret C F dX7_write_27 (by unfold opWrite; rw [if_neg (not_not_intro c_8), if_pos (fun z => absurd c_15 (Int32.not_lt.mpr z.1))]; exact QK_same hA)
    · refine r_iload_n C dX7_write_18 rfl ?_
      refine r_sipush (999) C dX7_write_19 rfl ?_
      refine r_icmp_le 28 C dX7_write_22 (by decide) (fun c_22 => ?_) (fun c_22 => ?_)
      · refine r_aload_n C dX7_write_28 rfl ?_
        refine r_getR C dX7_write_29 flX7_50 (rfl) rfl ?_
        refine r_getI C dX7_write_32 flX7_133 (rfl) rfl ?_
        refine r_bipush (20) C dX7_write_35 rfl ?_
        refine r_icmp_lt 43 C dX7_write_37 (by decide) (fun c_37 => ?_) (fun c_37 => ?_)
        · rw [cLt (x := h 30 6) (c := 20) (i := (aE A).length) (n := 20) (b14.1) (rfl) (by omega) (by omega)] at c_37
          refine r_aload_n C dX7_write_43 rfl ?_
          refine r_getR C dX7_write_44 flX7_50 (rfl) rfl ?_
          refine r_iload_n C dX7_write_47 rfl ?_
          refine r_iload_n C dX7_write_48 rfl ?_
          refine r_cVv C F dX7_write_49 (s6_addEntry b14.1 (by omega)) tw_627 m6_addEntry (rfl) rfl (by decide) rfl (Nat.le_of_ble_eq_true rfl) ?_
          refine r_aload_n C dX7_write_52 rfl ?_
          refine r_getR C dX7_write_53 flX7_50 (rfl) rfl ?_
          refine r_getI C dX7_write_56 flX7_133 (rfl) rfl ?_
          rw [bz_ne0] at c_8
          have c15 : inP x 0 999 := ⟨Int32.not_lt.mp c_15, c_22⟩
          obtain ⟨i, hi, rfl⟩ := inP_of (n := 999) rfl (by decide) c15
          obtain ⟨j, hj, rfl⟩ := inP_of (n := 2 ^ dL (aD A) - 1) rfl (by omega) c_8
          refine r_iret C F dX7_write_59 ?_
          unfold opWrite
          rw [if_neg (not_not_intro c_8), if_neg (not_not_intro c15), if_neg (by omega), cl_nI (by omega), cl_nI (by omega)]
          refine ⟨rfl, ⟨o, CAo_of hA0 ⟨a1, a2, a3, a4, a5, a6, a7, a8, a9, a10, by rw [List.length_append]; simp; omega, fun q hq => ?_⟩ ⟨b1, b2⟩ b3 rfl rfl rfl rfl (fun a h1 h2 => by rw [up_row _ _ _ _ (by omega), up_row _ _ _ _ (by omega), up_row _ _ _ _ (by omega)]) b9 (CM_cg b10 (fun a h1 h2 => by rw [up_row _ _ _ _ (by omega), up_row _ _ _ _ (by omega), up_row _ _ _ _ (by omega)])) (CB_cg b11 (fun a h1 => by rw [up_row _ _ _ _ (by omega), up_row _ _ _ _ (by omega), up_row _ _ _ _ (by omega)])) (CIm_cg b12 (fun a h1 h2 => by rw [up_row _ _ _ _ (by omega), up_row _ _ _ _ (by omega), up_row _ _ _ _ (by omega)])) ⟨b13.1, b13.2⟩ (CE_snoc b14 (up_self _ _ _ _) rfl rfl)⟩, fun a ha => by rw [up_row _ _ _ _ (by omega), up_row _ _ _ _ (by omega), up_row _ _ _ _ (by omega)]⟩
          rcases List.mem_append.mp hq with z | z
          · exact a12 q z
          · rw [List.mem_singleton.mp z]; exact ⟨hi, by show j < 64; omega⟩
        · rw [cLt (x := h 30 6) (c := 20) (i := (aE A).length) (n := 20) (b14.1) (rfl) (by omega) (by omega)] at c_37
          refine r_ldc C dX7_write_40 tw_275 ?_
          rw [bz_ne0] at c_8
          exact r_iret C F dX7_write_42 (by unfold opWrite; rw [if_neg (not_not_intro c_8), if_neg (not_not_intro ⟨Int32.not_lt.mp c_15, c_22⟩), if_pos (by omega)]; exact QK_same hA)
      · refine r_ldc C dX7_write_25 tw_274 ?_
        rw [bz_ne0] at c_8
        exact r_iret C F dX7_write_27 (by unfold opWrite; rw [if_neg (not_not_intro c_8), if_pos (fun z => c_22 z.2)]; exact QK_same hA)
  · refine r_ldc C dX7_write_11 tw_389 ?_
    rw [bz_eq0] at c_8
    exact r_iret C F dX7_write_13 (by unfold opWrite; rw [if_pos c_8]; exact QK_same hA)
