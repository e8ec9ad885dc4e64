variable {l : Launch} {E : Ev} {h : Hp}
theorem lmask (a : Nat) : lN a &&& 2147483647 = lN (a % 2147483648) := by
  apply Int64.toBitVec_inj.1
  show BitVec.ofNat 64 a &&& BitVec.ofNat 64 2147483647 = BitVec.ofNat 64 (a % 2147483648)
  apply BitVec.eq_of_toNat_eq
  rw [BitVec.toNat_and, BitVec.toNat_ofNat, BitVec.toNat_ofNat, BitVec.toNat_ofNat]
  have h1 := Nat.and_two_pow_sub_one_eq_mod (a % 2 ^ 64) 31
  rw [show (2147483647 : Nat) % 2 ^ 64 = 2 ^ 31 - 1 by decide, h1]
  omega
theorem lcg_m {s : Nat} (hs : s < 2147483648) : ((nI s).toInt64 * 1103515245 + 12345 &&& 2147483647).toInt32 = nI (lcg s) := by
  have e1 : (nI s).toInt64 * 1103515245 + 12345 = lN (s * 1103515245 + 12345) := by
    rw [nI_l hs, show (1103515245 : Int64) = lN 1103515245 from rfl, show (12345 : Int64) = lN 12345 from rfl, lN_mul, lN_add]
  rw [e1, lmask, lN_i, lcg_def]
def meS (m r : Nat) : Nat → Nat → Nat → Nat
  | 0, _, _ => 0
  | f + 1, k, b => if m.testBit k = true then (if b = r then k else meS m r f (k + 1) (b + 1)) else meS m r f (k + 1) b
theorem me_dec0 : ∀ m, m < 64 → ∀ r, r < 6 → r < pc m 6 → nI (meS m r 6 0 0) = nthS (nI m) 6 0 (nI r) := by decide +kernel
theorem me_dec {m r : Nat} (hm : m < 64) (hp : r < pc m 6) : nI (meS m r 6 0 0) = nI (nthF m r) := by
  have := pc_le m 6
  rw [me_dec0 m hm r (by omega) hp]
  exact (nth_dec m hm r (by omega) hp).1
set_option maxHeartbeats 4000000 in
theorem s7_draw {s c : Nat} (hs : h 0 8 = nI s) (hs1 : s < 2147483648) (hc : 0 < c) (hc1 : c < 2147483648) : Sp l E SHP 0 M7_draw [.ref (E.1 + 0), .int (nI c)] h (PD (some (.int (nI (lcg s / 65536 % c)))) (up h 0 8 (nI (lcg s)))) := by
  refine Sp.of (by decide) (Nat.le_of_ble_eq_true rfl) (fun X C F => ?_)
  have C : Ok X E RX7 cX7_draw 2 := C
  have F : Fn X l E SHP 0 (some FieldType.int) (PD (some (.int (nI (lcg s / 65536 % c)))) (up h 0 8 (nI (lcg s)))) := F
  show G X E SHP (0, 0) 0 [(0, .ref (E.1 + 0)), (1, .int (nI c))] [] h
  refine r_aload_n C dX7_draw_0 rfl ?_
  refine r_aload_n C dX7_draw_1 rfl ?_
  refine r_getI C dX7_draw_2 flX7_61 (rfl) rfl ?_
  refine r_i2l C dX7_draw_5 ?_
  refine r_ldc2 C dX7_draw_6 tw_492 ?_
  refine r_lmul C dX7_draw_9 ?_
  refine r_ldc2 C dX7_draw_10 tw_493 ?_
  refine r_ladd C dX7_draw_13 ?_
  refine r_ldc2 C dX7_draw_14 tw_494 ?_
  refine r_land C dX7_draw_17 ?_
  refine r_l2i C dX7_draw_18 ?_
  rw [hs, show ((nI s).toInt64 * 1103515245 + 12345 &&& 2147483647).toInt32 = nI (lcg s) from lcg_m hs1]
  refine r_putI C dX7_draw_19 fwX7_61 (rfl) rfl ?_
  refine r_iload_n C dX7_draw_22 rfl ?_
  refine r_iconst (1) C dX7_draw_23 rfl ?_
  refine r_icmp_ge 31 C dX7_draw_24 (by decide) (fun c_24 => ?_) (fun c_24 => ?_)
  · refine r_aload_n C dX7_draw_31 rfl ?_
    refine r_getI C dX7_draw_32 flX7_61 (rfl) rfl ?_
    refine r_ldcw C dX7_draw_35 tw_495 ?_
    refine r_idiv C dX7_draw_38 (by decide) ?_
    rw [up_self, show nI (lcg s) / 65536 = nI (lcg s / 65536) from pk_div (lcg_lt s) (by decide) (by decide)]
    refine r_iload_n C dX7_draw_39 rfl ?_
    refine r_irem C dX7_draw_40 (nI_ne0 hc hc1) ?_
    exact r_iret C F dX7_draw_41 (pd_i (pk_rem (by have := lcg_lt s; omega) hc hc1) (rfl))
  · exact absurd ((cLe (x := 1) (c := nI c) (i := 1) (n := c) rfl rfl (by omega) (by omega)).mpr (by omega)) c_24
set_option maxHeartbeats 4000000 in
theorem s7_memberAt {m r : Nat} (hm : m < 64) (hr : r < 6) (hp : r < pc m 6) : Sp l E SHP 0 M7_memberAt [.int (nI m), .int (nI r)] h (PD (some (.int (nI (nthF m r)))) h) := by
  refine Sp.of (by decide) (Nat.le_of_ble_eq_true rfl) (fun X C F => ?_)
  have C : Ok X E RX7 cX7_memberAt 4 := C
  have F : Fn X l E SHP 0 (some FieldType.int) (PD (some (.int (nI (nthF m r)))) h) := F
  show G X E SHP (0, 0) 0 [(0, .int (nI m)), (1, .int (nI r))] [] h
  have L : ∀ k, k ≤ 6 → ∀ b, b ≤ k → meS m r (6 - k) k b = meS m r 6 0 0 → G X E SHP (0, 0) 4 [(0, .int (nI m)), (1, .int (nI r)), (2, .int (nI b)), (3, .int (nI k))] [] h := by
    refine loopN 6 _ (fun k hk ih b hb e => ?_)
    refine r_iload_n C dX7_memberAt_4 rfl ?_
    refine r_bipush (6) C dX7_memberAt_5 rfl ?_
    refine r_icmp_ge 37 C dX7_memberAt_7 (by decide) (fun c_7 => ?_) (fun c_7 => ?_)
    · rw [cLe (x := 6) (c := nI k) (i := 6) (n := k) (rfl) (rfl) (by omega) (by omega)] at c_7
      refine r_iconst (0) C dX7_memberAt_37 rfl ?_
      exact r_iret C F dX7_memberAt_38 (pd_i (by rw [← me_dec hm hp, ← e, show 6 - k = 0 by omega]; rfl) rfl)
    · rw [cLe (x := 6) (c := nI k) (i := 6) (n := k) (rfl) (rfl) (by omega) (by omega)] at c_7
      have e2 : meS m r (6 - k) k b = if m.testBit k = true then (if b = r then k else meS m r (6 - (k + 1)) (k + 1) (b + 1)) else meS m r (6 - (k + 1)) (k + 1) b := by rw [show 6 - k = (6 - (k + 1)) + 1 by omega]; rfl
      rw [e] at e2
      refine r_iload_n C dX7_memberAt_10 rfl ?_
      refine r_iload_n C dX7_memberAt_11 rfl ?_
      refine r_ishr C dX7_memberAt_12 ?_
      refine r_iconst (1) C dX7_memberAt_13 rfl ?_
      refine r_iand C dX7_memberAt_14 ?_
      rw [bit_nI (by omega) (by omega)]
      refine r_if_ne 21 C dX7_memberAt_15 (by decide) (fun c_15 => ?_) (fun c_15 => ?_)
      · have c_15 := tb_n c_15
        rw [if_pos c_15] at e2
        refine r_iload_n C dX7_memberAt_21 rfl ?_
        refine r_iload_n C dX7_memberAt_22 rfl ?_
        refine r_icmp_ne 28 C dX7_memberAt_23 (by decide) (fun c_23 => ?_) (fun c_23 => ?_)
        · rw [cEq (x := nI b) (c := nI r) (i := b) (n := r) (rfl) (rfl) (by omega) (by omega)] at c_23
          rw [if_neg c_23] at e2
          refine r_inc (1) C dX7_memberAt_28 rfl (by decide) rfl rfl ?_
          refine r_inc (1) C dX7_memberAt_31 rfl (by decide) rfl rfl ?_
          refine r_goto 4 C dX7_memberAt_34 (by decide) ?_
          exact (ih (by omega) (b + 1) (by omega) e2.symm).sub ⟨rfl, rfl, by rw [nI_succ]; rfl, by rw [nI_succ]; rfl, trivial⟩
        · rw [cEq (x := nI b) (c := nI r) (i := b) (n := r) (rfl) (rfl) (by omega) (by omega)] at c_23
          rw [if_pos c_23] at e2
          refine r_iload_n C dX7_memberAt_26 rfl ?_
          exact r_iret C F dX7_memberAt_27 (pd_i (by rw [← me_dec hm hp, e2]) rfl)
      · have c_15 := tb_z c_15
        rw [if_neg (by rw [c_15]; decide)] at e2
        refine r_goto 31 C dX7_memberAt_18 (by decide) ?_
        refine r_inc (1) C dX7_memberAt_31 rfl (by decide) rfl rfl ?_
        refine r_goto 4 C dX7_memberAt_34 (by decide) ?_
        exact (ih (by omega) b (by omega) e2.symm).sub ⟨rfl, rfl, rfl, by rw [nI_succ]; rfl, trivial⟩
  refine r_iconst (0) C dX7_memberAt_0 rfl ?_
  refine r_istore_n C dX7_memberAt_1 (by decide) rfl ?_
  refine r_iconst (0) C dX7_memberAt_2 rfl ?_
  refine r_istore_n C dX7_memberAt_3 (by decide) rfl ?_
  exact (L 0 (by decide) 0 (Nat.le_refl 0) rfl).sub ⟨rfl, rfl, rfl, rfl, trivial⟩
set_option maxHeartbeats 4000000 in
theorem s7_drawOf {s m : Nat} (hs : h 0 8 = nI s) (hs1 : s < 2147483648) (hm : m < 64) (hp : 0 < pc m 6) : Sp l E SHP 1 M7_drawOf [.ref (E.1 + 0), .int (nI m)] h (PD (some (.int (nI (nthF m (lcg s / 65536 % pc m 6))))) (up h 0 8 (nI (lcg s)))) := by
  refine Sp.of (by decide) (Nat.le_of_ble_eq_true rfl) (fun X C F => ?_)
  have C : Ok X E RX7 cX7_drawOf 2 := C
  have F : Fn X l E SHP 1 (some FieldType.int) (PD (some (.int (nI (nthF m (lcg s / 65536 % pc m 6))))) (up h 0 8 (nI (lcg s)))) := F
  show G X E SHP (0, 0) 0 [(0, .ref (E.1 + 0)), (1, .int (nI m))] [] h
  have hple := pc_le m 6
  have hml := Nat.mod_lt (lcg s / 65536) hp
  refine r_iload_n C dX7_drawOf_0 rfl ?_
  refine r_aload_n C dX7_drawOf_1 rfl ?_
  refine r_iload_n C dX7_drawOf_2 rfl ?_
  refine r_cSi C F dX7_drawOf_3 (sJ6_bitCount hm) tw_371 mJ6_bitCount (by decide) rfl (Nat.le_of_ble_eq_true rfl) ?_
  refine r_cVi C F dX7_drawOf_6 (s7_draw hs hs1 hp (by omega)) tw_488 m7_draw (rfl) rfl (by decide) rfl (Nat.le_of_ble_eq_true rfl) ?_
  refine r_cSi C F dX7_drawOf_9 (s7_memberAt (m := m) (r := lcg s / 65536 % pc m 6) hm (by omega) hml) tw_496 m7_memberAt (by decide) rfl (Nat.le_of_ble_eq_true rfl) ?_
  exact r_iret C F dX7_drawOf_12 (pd_i (rfl) (rfl))
theorem pc_nd1 {m i : Nat} (hm : m < 64) (hi : i < 6) (hb : m.testBit i = true) : pc (othF m i) 6 + 1 = pc m 6 := pc_nd m hm i hi hb
theorem dStep_mT (A : At) : mT (aU (dStep A)) = mT (aU A) + 1 ∧ aD (dStep A) = aD A := by
  unfold dStep
  split
  · exact ⟨rfl, rfl⟩
  · exact ⟨rfl, rfl⟩
set_option maxHeartbeats 4000000 in
theorem s7_tellByDraws {A : At} (hA : CA h A) (hj0 : 0 < dJ (aD A)) (hp2 : 1 < pc (mI (aU A)) 6) (hT : mT (aU A) ≤ 9040) : Sp l E SHP 5 M7_tellByDraws [.ref (E.1 + 0)] h (QV h (dStep A)) := by
  refine Sp.of (by decide) (Nat.le_of_ble_eq_true rfl) (fun X C F => ?_)
  have C : Ok X E RX7 cX7_tellByDraws 4 := C
  have F : Fn X l E SHP 5 none (QV h (dStep A)) := F
  show G X E SHP (0, 0) 0 [(0, .ref (E.1 + 0))] [] h
  obtain ⟨o, hA0⟩ := id hA
  obtain ⟨⟨a1, a2, a3, a4, a5, a6, a7, a8, a9, a10, a11, a12⟩, ⟨b1, b2⟩, b3, ⟨b4, b5, b6⟩, ⟨b7, b8⟩, b9, b10, b11, b12, b13, b14⟩ := id hA0
  have hO : isH o := isH_o b6
  have ho : o ≤ 12 := by omega
  have ho4 : 4 ≤ o := by omega
  obtain ⟨okd, e1, e2, e3, e4, eL, eJ, eB, eF⟩ := id b8
  obtain ⟨o1, o2, o3, o4, o5, o6⟩ := id okd
  have p6 : 2 ^ dL (aD A) ≤ 64 := Nat.pow_le_pow_right (n := 2) (by decide) o1
  obtain ⟨k0, k1, k2, k3, k4, k5⟩ := id a5
  obtain ⟨u0, u1, u2, u3, uO, uM⟩ := id b10
  have hm64 : mI (aU A) < 64 := by omega
  have hpm := pc_le (mI (aU A)) 6
  obtain ⟨n1, n2, n3⟩ := nth_dec (mI (aU A)) hm64 (d1 A / 65536 % pc (mI (aU A)) 6) (by have := Nat.mod_lt (d1 A / 65536) (show 0 < pc (mI (aU A)) 6 by omega); omega) (Nat.mod_lt _ (by omega))
  have hIe : nthF (mI (aU A)) (lcg (aS A) / 65536 % pc (mI (aU A)) 6) = dI A := rfl
  have hI6 : dI A < 6 := n2
  have hIb : (mI (aU A)).testBit (dI A) = true := n3
  have hIl : dI A < dL (aD A) := bit_lt k0 hIb
  have hO64 : dO A < 64 := oth_lt hm64
  have hOp : pc (dO A) 6 + 1 = pc (mI (aU A)) 6 := pc_nd1 hm64 hI6 hIb
  obtain ⟨m1, m2, m3⟩ := nth_dec (dO A) hO64 (lcg (lcg (d1 A)) / 65536 % pc (dO A) 6) (by have := Nat.mod_lt (lcg (lcg (d1 A)) / 65536) (show 0 < pc (dO A) 6 by omega); omega) (Nat.mod_lt _ (by omega))
  have hAb : (dO A).testBit (dA A) = true := m3
  have hAl : dA A < dL (aD A) := bit_lt k0 (by have := hAb; unfold dO othF at this; rw [nd_bit, Bool.and_eq_true] at this; exact this.1)
  have hJl : dJk A < dJ (aD A) := Nat.mod_lt _ hj0
  have S1 := CAo_seed hA0 (lcg_lt (aS A))
  have S2 := CAo_seed S1 (lcg_lt (d1 A))
  have S3 := CAo_seed S2 (lcg_lt (lcg (d1 A)))
  have E4 : (up h 0 8 (nI (lcg (aS A)))) o 4 = nI (dJ (aD A)) := by rw [up_row _ _ _ _ (by omega)]; exact e4
  refine r_aload_n C dX7_tellByDraws_0 rfl ?_
  refine r_aload_n C dX7_tellByDraws_1 rfl ?_
  refine r_getR C dX7_tellByDraws_2 flX7_29 (rfl) rfl ?_
  refine r_getI C dX7_tellByDraws_5 flX7_121 (rfl) rfl ?_
  rw [u0]
  refine r_cVi C F dX7_tellByDraws_8 (s7_drawOf (s := aS A) b9 a4 (m := mI (aU A)) hm64 (by omega)) tw_484 m7_drawOf (rfl) rfl (by decide) rfl (Nat.le_of_ble_eq_true rfl) ?_
  rw [hIe]
  refine r_istore_n C dX7_tellByDraws_11 (by decide) rfl ?_
  refine r_aload_n C dX7_tellByDraws_12 rfl ?_
  refine r_aload_n C dX7_tellByDraws_13 rfl ?_
  refine r_getV (o) C dX7_tellByDraws_14 flX7_19 (rfl) rfl (b4) (by first | decide | omega) ?_
  refine r_getI C dX7_tellByDraws_17 flX7_112 (hO.1) rfl ?_
  rw [E4]
  refine r_cVi C F dX7_tellByDraws_20 (s7_draw (s := lcg (aS A)) (c := dJ (aD A)) (up_self _ _ _ _) (lcg_lt _) hj0 (by omega)) tw_488 m7_draw (rfl) rfl (by decide) rfl (Nat.le_of_ble_eq_true rfl) ?_
  rw [show lcg (lcg (aS A)) / 65536 % dJ (aD A) = dJk A from rfl, show lcg (lcg (aS A)) = lcg (d1 A) from rfl]
  refine r_istore_n C dX7_tellByDraws_23 (by decide) rfl ?_
  refine r_aload_n C dX7_tellByDraws_24 rfl ?_
  refine r_aload_n C dX7_tellByDraws_25 rfl ?_
  refine r_getR C dX7_tellByDraws_26 flX7_29 (rfl) rfl ?_
  refine r_getI C dX7_tellByDraws_29 flX7_121 (rfl) rfl ?_
  refine r_iconst (1) C dX7_tellByDraws_32 rfl ?_
  refine r_iload_n C dX7_tellByDraws_33 rfl ?_
  refine r_ishl C dX7_tellByDraws_34 ?_
  refine r_iconst (-1) C dX7_tellByDraws_35 rfl ?_
  refine r_ixor C dX7_tellByDraws_36 ?_
  refine r_iand C dX7_tellByDraws_37 ?_
  rw [show (up (up h 0 8 (nI (lcg (aS A)))) 0 8 (nI (lcg (d1 A)))) 20 0 = nI (mI (aU A)) from u0, shl1_nI (by omega), nx_nd, show nd (mI (aU A)) (2 ^ dI A) = dO A from rfl]
  refine r_cVi C F dX7_tellByDraws_38 (s7_drawOf (s := lcg (d1 A)) (m := dO A) (up_self _ _ _ _) (lcg_lt _) hO64 (by omega)) tw_484 m7_drawOf (rfl) rfl (by decide) rfl (Nat.le_of_ble_eq_true rfl) ?_
  rw [show nthF (dO A) (lcg (lcg (d1 A)) / 65536 % pc (dO A) 6) = dA A from rfl]
  have fr3 : ∀ a, 49 ≤ a → (up (up (up h 0 8 (nI (lcg (aS A)))) 0 8 (nI (lcg (d1 A)))) 0 8 (nI (lcg (lcg (d1 A))))) a = h a := fun a ha => by rw [up_row _ _ _ _ (by omega), up_row _ _ _ _ (by omega), up_row _ _ _ _ (by omega)]
  generalize up (up (up h 0 8 (nI (lcg (aS A)))) 0 8 (nI (lcg (d1 A)))) 0 8 (nI (lcg (lcg (d1 A)))) = g3 at S3 fr3 ⊢
  refine r_istore_n C dX7_tellByDraws_41 (by decide) rfl ?_
  refine r_aload_n C dX7_tellByDraws_42 rfl ?_
  refine r_iload_n C dX7_tellByDraws_43 rfl ?_
  refine r_iload_n C dX7_tellByDraws_44 rfl ?_
  refine r_iload_n C dX7_tellByDraws_45 rfl ?_
  refine r_callV C F dX7_tellByDraws_46 (s7_tellNow (A := withS (withS (withS A (lcg (aS A))) (lcg (d1 A))) (lcg (lcg (d1 A)))) (i := dI A) (j := dJk A) (k := dA A) ⟨o, S3⟩ hIl hJl hAl hT) tw_422 m7_tellNow (rfl) rfl (by decide) rfl (Nat.le_of_ble_eq_true rfl) (fun v g q => ?_)
  obtain ⟨rfl, ⟨o2, y1⟩, y2⟩ := q
  have y1 : CAo g (dTell A) o2 := y1
  have S4 := CAo_seed y1 (lcg_lt (lcg (lcg (d1 A))))
  show G X E SHP (0, 0) 49 _ [] g
  refine r_aload_n C dX7_tellByDraws_49 rfl ?_
  refine r_bipush (6) C dX7_tellByDraws_50 rfl ?_
  refine r_cVi C F dX7_tellByDraws_52 (s7_draw (s := lcg (lcg (d1 A))) (c := 6) y1.2.2.2.2.2.1 (lcg_lt _) (by decide) (by decide)) tw_488 m7_draw (rfl) rfl (by decide) rfl (Nat.le_of_ble_eq_true rfl) ?_
  refine r_if_ne 62 C dX7_tellByDraws_55 (by decide) (fun c_55 => ?_) (fun c_55 => ?_)
  · rw [cEq (x := nI (lcg (lcg (lcg (d1 A))) / 65536 % 6)) (c := 0) (i := lcg (lcg (lcg (d1 A))) / 65536 % 6) (n := 0) (rfl) (rfl) (by omega) (by omega)] at c_55
    refine r_vret C F dX7_tellByDraws_62 ?_
    unfold dStep
    rw [if_neg c_55]
    exact ⟨rfl, ⟨o2, S4⟩, fun a ha => by rw [up_row _ _ _ _ (by omega), y2 a ha]; exact fr3 a ha⟩
  · rw [cEq (x := nI (lcg (lcg (lcg (d1 A))) / 65536 % 6)) (c := 0) (i := lcg (lcg (lcg (d1 A))) / 65536 % 6) (n := 0) (rfl) (rfl) (by omega) (by omega)] at c_55
    refine r_aload_n C dX7_tellByDraws_58 rfl ?_
    refine r_callV C F dX7_tellByDraws_59 (s7_passNight (A := withS (dTell A) (lcg (lcg (lcg (d1 A))))) ⟨o2, S4⟩ (by show mN (aU A) < 920 + (mT (aU A) + 1); omega)) tw_468 m7_passNight (rfl) rfl (by decide) rfl (Nat.le_of_ble_eq_true rfl) (fun v g5 q => ?_)
    obtain ⟨rfl, x1, x2⟩ := q
    show G X E SHP (0, 0) 62 _ [] g5
    refine r_vret C F dX7_tellByDraws_62 ?_
    unfold dStep
    rw [if_pos c_55]
    exact ⟨rfl, x1, fun a ha => by rw [x2 a ha, up_row _ _ _ _ (by omega), y2 a ha]; exact fr3 a ha⟩
set_option maxHeartbeats 4000000 in
theorem s7_drift {A : At} (hA : CA h A) {x : Int32} : Sp l E SHP 6 M7_drift [.ref (E.1 + 0), .int x] h (QK h (opDrift A x)) := by
  refine Sp.of (by decide) (Nat.le_of_ble_eq_true rfl) (fun X C F => ?_)
  have C : Ok X E RX7 cX7_drift 3 := C
  have F : Fn X l E SHP 6 (some FieldType.int) (QK h (opDrift A x)) := F
  show G X E SHP (0, 0) 0 [(0, .ref (E.1 + 0)), (1, .int x)] [] h
  obtain ⟨o, hA0⟩ := id hA
  obtain ⟨⟨a1, a2, a3, a4, a5, a6, a7, a8, a9, a10, a11, a12⟩, ⟨b1, b2⟩, b3, ⟨b4, b5, b6⟩, ⟨b7, b8⟩, b9, b10, b11, b12, b13, b14⟩ := id hA0
  have hO : isH o := isH_o b6
  have ho : o ≤ 12 := by omega
  have ho4 : 4 ≤ o := by omega
  obtain ⟨okd, e1, e2, e3, e4, eL, eJ, eB, eF⟩ := id b8
  obtain ⟨o1, o2, o3, o4, o5, o6⟩ := id okd
  have p6 : 2 ^ dL (aD A) ≤ 64 := Nat.pow_le_pow_right (n := 2) (by decide) o1
  obtain ⟨k0, k1, k2, k3, k4, k5⟩ := id a5
  obtain ⟨u0, u1, u2, u3, uO, uM⟩ := id b10
  have hm64 : mI (aU A) < 64 := by omega
  refine r_iload_n C dX7_drift_0 rfl ?_
  refine r_iconst (1) C dX7_drift_1 rfl ?_
  refine r_icmp_lt 11 C dX7_drift_2 (by decide) (fun c_2 => ?_) (fun c_2 => ?_)
  · refine r_ldc C dX7_drift_11 tw_274 ?_
    exact r_iret C F dX7_drift_13 (by unfold opDrift; rw [if_pos (fun z => absurd c_2 (Int32.not_lt.mpr z.1))]; exact QK_same hA)
  · refine r_iload_n C dX7_drift_5 rfl ?_
    refine r_bipush (40) C dX7_drift_6 rfl ?_
    refine r_icmp_le 14 C dX7_drift_8 (by decide) (fun c_8 => ?_) (fun c_8 => ?_)
    · refine r_aload_n C dX7_drift_14 rfl ?_
      refine r_getV (o) C dX7_drift_15 flX7_19 (rfl) rfl (b4) (by first | decide | omega) ?_
      refine r_getI C dX7_drift_18 flX7_103 (hO.1) rfl ?_
      refine r_if_ne 27 C dX7_drift_21 (by decide) (fun c_21 => ?_) (fun c_21 => ?_)
      · refine r_aload_n C dX7_drift_27 rfl ?_
        refine r_getR C dX7_drift_28 flX7_29 (rfl) rfl ?_
        refine r_getI C dX7_drift_31 flX7_118 (rfl) rfl ?_
        refine r_sipush (9000) C dX7_drift_34 rfl ?_
        refine r_icmp_le 43 C dX7_drift_37 (by decide) (fun c_37 => ?_) (fun c_37 => ?_)
        · rw [cLe (x := h 20 2) (c := 9000) (i := mT (aU A)) (n := 9000) (u2) (rfl) (by omega) (by omega)] at c_37
          have c_x : inP x 1 40 := ⟨Int32.not_lt.mp c_2, c_8⟩
          obtain ⟨n, hn, rfl⟩ := inP_of (n := 40) rfl (by decide) ⟨Int32.le_trans (by decide) c_x.1, c_x.2⟩
          have hth : aH A = true := b01_n (b7 ▸ c_21)
          have FIN : ∀ (g : Hp) (B : At), CA g B → B = driftN n A → (∀ a, 49 ≤ a → g a = h a) → G X E SHP (0, 0) 84 [(0, .ref (E.1 + 0))] [] g := by
            intro g B hg hB fr
            subst hB
            obtain ⟨o', w⟩ := id hg
            refine r_aload_n C dX7_drift_84 rfl ?_
            refine r_getR C dX7_drift_85 flX7_29 (rfl) rfl ?_
            refine r_getI C dX7_drift_88 flX7_121 (rfl) rfl ?_
            refine r_iret C F dX7_drift_91 ?_
            unfold opDrift
            rw [if_neg (not_not_intro c_x), if_neg (by rw [hth]; decide), if_neg (by omega), cl_nI (by omega)]
            exact ⟨congrArg (fun z => some (Value.int z)) w.2.2.2.2.2.2.1.1, hg, fr⟩
          have L : ∀ k, k ≤ n → ∀ (g : Hp) (B : At), CA g B → driftN (n - k) B = driftN n A → mT (aU B) ≤ 9000 + k → (∀ a, 49 ≤ a → g a = h a) → G X E SHP (0, 0) 45 [(0, .ref (E.1 + 0)), (1, .int (nI n)), (2, .int (nI k))] [] g := by
            refine loopN n _ (fun k hk ih g B hg hB hTk fr => ?_)
            obtain ⟨o', w⟩ := id hg
            have hOk := isH_o w.2.2.2.1.2.2
            have ho' : o' ≤ 12 := by have := w.2.2.2.1.2.2; omega
            have ok0 := w.1.2.2.2.2.1.1
            have ok1 := w.2.2.2.2.1.2.1.1
            have ok2 := w.2.2.2.2.1.2.1.2.1
            have hm2 : mI (aU B) < 64 := Nat.lt_of_lt_of_le ok0 (Nat.pow_le_pow_right (n := 2) (by decide) ok1)
            have hpl := pc_le (mI (aU B)) 6
            have e4' : g o' 4 = nI (dJ (aD B)) := w.2.2.2.2.1.2.2.2.2.2.1
            have hst : ¬ n ≤ k → driftN (n - k) B = if 0 < dJ (aD B) ∧ 1 < pc (mI (aU B)) 6 then driftN (n - (k + 1)) (dStep B) else B := fun z => by rw [show n - k = (n - (k + 1)) + 1 by omega]; rfl
            refine r_iload_n C dX7_drift_45 rfl ?_
            refine r_iload_n C dX7_drift_46 rfl ?_
            refine r_icmp_ge 84 C dX7_drift_47 (by decide) (fun c_47 => ?_) (fun c_47 => ?_)
            · rw [cLe (x := nI n) (c := nI k) (i := n) (n := k) (rfl) (rfl) (by omega) (by omega)] at c_47
              exact (FIN g B hg (by rw [show n - k = 0 by omega] at hB; exact hB) fr).sub ⟨rfl, trivial⟩
            · rw [cLe (x := nI n) (c := nI k) (i := n) (n := k) (rfl) (rfl) (by omega) (by omega)] at c_47
              refine r_aload_n C dX7_drift_50 rfl ?_
              refine r_getR C dX7_drift_51 flX7_29 (rfl) rfl ?_
              refine r_getI C dX7_drift_54 flX7_121 (rfl) rfl ?_
              rw [w.2.2.2.2.2.2.1.1]
              refine r_cSi C F dX7_drift_57 (sJ6_bitCount hm2) tw_371 mJ6_bitCount (by decide) rfl (Nat.le_of_ble_eq_true rfl) ?_
              refine r_iconst (1) C dX7_drift_60 rfl ?_
              refine r_icmp_le 84 C dX7_drift_61 (by decide) (fun c_61 => ?_) (fun c_61 => ?_)
              · rw [cLe (x := nI (pc (mI (aU B)) 6)) (c := 1) (i := pc (mI (aU B)) 6) (n := 1) (rfl) (rfl) (by omega) (by omega)] at c_61
                exact (FIN g B hg (by rw [hst c_47, if_neg (fun z => by omega)] at hB; exact hB) fr).sub ⟨rfl, trivial⟩
              · rw [cLe (x := nI (pc (mI (aU B)) 6)) (c := 1) (i := pc (mI (aU B)) 6) (n := 1) (rfl) (rfl) (by omega) (by omega)] at c_61
                refine r_aload_n C dX7_drift_64 rfl ?_
                refine r_getV (o') C dX7_drift_65 flX7_19 (rfl) rfl (w.2.2.2.1.1) (by first | decide | omega) ?_
                refine r_getI C dX7_drift_68 flX7_112 (hOk.1) rfl ?_
                refine r_if_le 84 C dX7_drift_71 (by decide) (fun c_71 => ?_) (fun c_71 => ?_)
                · rw [cLe (x := g o' 4) (c := 0) (i := dJ (aD B)) (n := 0) (e4') (rfl) (by omega) (by omega)] at c_71
                  exact (FIN g B hg (by rw [hst c_47, if_neg (fun z => by omega)] at hB; exact hB) fr).sub ⟨rfl, trivial⟩
                · rw [cLe (x := g o' 4) (c := 0) (i := dJ (aD B)) (n := 0) (e4') (rfl) (by omega) (by omega)] at c_71
                  refine r_aload_n C dX7_drift_74 rfl ?_
                  refine r_callV C F dX7_drift_75 (s7_tellByDraws hg (by omega) (by omega) (by omega)) tw_480 m7_tellByDraws (rfl) rfl (by decide) rfl (Nat.le_of_ble_eq_true rfl) (fun v g2 q => ?_)
                  obtain ⟨rfl, y1, y2⟩ := q
                  show G X E SHP (0, 0) 78 _ [] g2
                  refine r_inc (1) C dX7_drift_78 rfl (by decide) rfl rfl ?_
                  refine r_goto 45 C dX7_drift_81 (by decide) ?_
                  exact (ih (by omega) g2 (dStep B) y1 (by rw [hst c_47, if_pos ⟨by omega, by omega⟩] at hB; exact hB) (by rw [(dStep_mT B).1]; omega) (fun a ha => (y2 a ha).trans (fr a ha))).sub ⟨rfl, rfl, by rw [nI_succ]; rfl, trivial⟩
          refine r_iconst (0) C dX7_drift_43 rfl ?_
          refine r_istore_n C dX7_drift_44 (by decide) rfl ?_
          exact (L 0 (Nat.zero_le _) h A hA rfl (by omega) (fun _ _ => rfl)).sub ⟨rfl, rfl, rfl, trivial⟩
        · rw [cLe (x := h 20 2) (c := 9000) (i := mT (aU A)) (n := 9000) (u2) (rfl) (by omega) (by omega)] at c_37
          refine r_ldc C dX7_drift_40 tw_275 ?_
          have hth : aH A = true := b01_n (b7 ▸ c_21)
          exact r_iret C F dX7_drift_42 (by unfold opDrift; rw [if_neg (not_not_intro ⟨Int32.not_lt.mp c_2, c_8⟩), if_neg (by rw [hth]; decide), if_pos (by omega)]; exact QK_same hA)
      · refine r_ldc C dX7_drift_24 tw_421 ?_
        have hth : aH A = false := b01_f (b7 ▸ c_21)
        exact r_iret C F dX7_drift_26 (by unfold opDrift; rw [if_neg (not_not_intro ⟨Int32.not_lt.mp c_2, c_8⟩), if_pos hth]; exact QK_same hA)
    · refine r_ldc C dX7_drift_11 tw_274 ?_
      exact r_iret C F dX7_drift_13 (by unfold opDrift; rw [if_pos (fun z => c_8 z.2)]; exact QK_same hA)
