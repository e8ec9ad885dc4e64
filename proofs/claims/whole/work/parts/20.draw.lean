variable {l : Launch} {E : Ev} {h : Hp}
theorem lcg_ex (s : Nat) : ∃ n, n = (s * 1103515245 + 12345) % 2147483648 := ⟨_, rfl⟩
noncomputable def lcg (s : Nat) : Nat := Classical.choose (lcg_ex s)
theorem lcg_def (s : Nat) : lcg s = (s * 1103515245 + 12345) % 2147483648 := Classical.choose_spec (lcg_ex s)
theorem lcg_lt (s : Nat) : lcg s < 2147483648 := by rw [lcg_def]; exact Nat.mod_lt _ (by decide)
theorem lcg_l {s : Nat} (hs : s < 2147483648) : (let a := (nI s).toInt64 * 1103515245 + 12345; (a - a / 2147483648 * 2147483648).toInt32) = nI (lcg s) := by
  have e1 : (nI s).toInt64 * 1103515245 + 12345 = lN (s * 1103515245 + 12345) := by
    rw [nI_l hs, show (1103515245 : Int64) = lN 1103515245 from rfl, show (12345 : Int64) = lN 12345 from rfl, lN_mul, lN_add]
  show ((nI s).toInt64 * 1103515245 + 12345 - ((nI s).toInt64 * 1103515245 + 12345) / 2147483648 * 2147483648).toInt32 = _
  rw [e1, show (2147483648 : Int64) = lN 2147483648 from rfl, pk_lRem (by omega) (by decide) (by decide), lN_i, lcg_def]
def nthS (set : Int32) : Nat → Nat → Int32 → Int32
  | 0, _, _ => -1
  | f + 1, k, n => if hasP set (nI k) then (if n = 0 then nI k else nthS set f (k + 1) (n + (-1))) else nthS set f (k + 1) n
theorem nthF_ex (m r : Nat) : ∃ n, n = (nthS (nI m) 6 0 (nI r)).toNatClampNeg := ⟨_, rfl⟩
noncomputable def nthF (m r : Nat) : Nat := Classical.choose (nthF_ex m r)
theorem nthF_def (m r : Nat) : nthF m r = (nthS (nI m) 6 0 (nI r)).toNatClampNeg := Classical.choose_spec (nthF_ex m r)
theorem nth_dec0 : ∀ m, m < 64 → ∀ r, r < 6 → r < pc m 6 → nthS (nI m) 6 0 (nI r) = nI (nthS (nI m) 6 0 (nI r)).toNatClampNeg ∧ (nthS (nI m) 6 0 (nI r)).toNatClampNeg < 6 ∧ m.testBit (nthS (nI m) 6 0 (nI r)).toNatClampNeg = true := by decide +kernel
theorem nth_dec (m : Nat) (hm : m < 64) (r : Nat) (hr : r < 6) (hp : r < pc m 6) : nthS (nI m) 6 0 (nI r) = nI (nthF m r) ∧ nthF m r < 6 ∧ m.testBit (nthF m r) = true := by
  rw [nthF_def]
  exact nth_dec0 m hm r hr hp
theorem pc_nd : ∀ m, m < 64 → ∀ i, i < 6 → m.testBit i = true → pc (nd m (2 ^ i)) 6 + 1 = pc m 6 := by decide +kernel
set_option maxHeartbeats 4000000 in
theorem s8_draw {s c : Nat} (hs : h 49 30 = nI s) (hs1 : s < 2147483648) (hc : 0 < c) (hc1 : c < 2147483648) : Sp l E SHP 0 M8_draw [.ref (E.1 + 49), .int (nI c)] h (PD (some (.int (nI (lcg s / 65536 % c)))) (up h 49 30 (nI (lcg s)))) := by
  refine Sp.of (by decide) (Nat.le_of_ble_eq_true rfl) (fun X C F => ?_)
  have C : Ok X E RX8 cX8_draw 2 := C
  have F : Fn X l E SHP 0 (some FieldType.int) (PD (some (.int (nI (lcg s / 65536 % c)))) (up h 49 30 (nI (lcg s)))) := F
  show G X E SHP (0, 0) 0 [(0, .ref (E.1 + 49)), (1, .int (nI c))] [] h
  refine r_aload_n C dX8_draw_0 rfl ?_
  refine r_aload_n C dX8_draw_1 rfl ?_
  refine r_getI C dX8_draw_2 flX8_207 (rfl) rfl ?_
  refine r_i2l C dX8_draw_5 ?_
  refine r_ldc2 C dX8_draw_6 tw_925 ?_
  refine r_lmul C dX8_draw_9 ?_
  refine r_ldc2 C dX8_draw_10 tw_926 ?_
  refine r_ladd C dX8_draw_13 ?_
  refine r_ldc2 C dX8_draw_14 tw_927 ?_
  refine r_lrem C dX8_draw_17 (by decide) ?_
  refine r_l2i C dX8_draw_18 ?_
  rw [hs, show (((nI s).toInt64 * 1103515245 + 12345) - ((nI s).toInt64 * 1103515245 + 12345) / 2147483648 * 2147483648).toInt32 = nI (lcg s) from lcg_l hs1]
  refine r_putI C dX8_draw_19 fwX8_207 (rfl) rfl ?_
  refine r_aload_n C dX8_draw_22 rfl ?_
  refine r_getI C dX8_draw_23 flX8_207 (rfl) rfl ?_
  refine r_ldc C dX8_draw_26 tw_928 ?_
  refine r_idiv C dX8_draw_28 (by decide) ?_
  rw [up_self, show nI (lcg s) / 65536 = nI (lcg s / 65536) from pk_div (lcg_lt s) (by decide) (by decide)]
  refine r_iload_n C dX8_draw_29 rfl ?_
  refine r_irem C dX8_draw_30 (nI_ne0 hc hc1) ?_
  exact r_iret C F dX8_draw_31 (pd_i (pk_rem (by have := lcg_lt s; omega) hc hc1) (rfl))
set_option maxHeartbeats 4000000 in
theorem s8_nthOf {set n : Int32} : Sp l E SHP 1 M8_nthOf [.int set, .int n] h (PD (some (.int (nthS set 6 0 n))) h) := by
  refine Sp.of (by decide) (Nat.le_of_ble_eq_true rfl) (fun X C F => ?_)
  have C : Ok X E RX8 cX8_nthOf 4 := C
  have F : Fn X l E SHP 1 (some FieldType.int) (PD (some (.int (nthS set 6 0 n))) h) := F
  show G X E SHP (0, 0) 0 [(0, .int set), (1, .int n)] [] h
  have L : ∀ k, k ≤ 6 → ∀ x, nthS set (6 - k) k x = nthS set 6 0 n → G X E SHP (0, 0) 4 [(0, .int set), (2, .int x), (3, .int (nI k))] [] h := by
    refine loopN 6 _ (fun k hk ih x e => ?_)
    refine r_iload_n C dX8_nthOf_4 rfl ?_
    refine r_bipush (6) C dX8_nthOf_5 rfl ?_
    refine r_icmp_ge 33 C dX8_nthOf_7 (by decide) (fun c_7 => ?_) (fun c_7 => ?_)
    · rw [cLe (x := 6) (c := nI k) (i := 6) (n := k) (rfl) (rfl) (by omega) (by omega)] at c_7
      rw [show 6 - k = 0 by omega] at e
      refine r_iconst (-1) C dX8_nthOf_33 rfl ?_
      exact r_iret C F dX8_nthOf_34 (pd_i e rfl)
    · rw [cLe (x := 6) (c := nI k) (i := 6) (n := k) (rfl) (rfl) (by omega) (by omega)] at c_7
      have e0 : 6 - k = (6 - (k + 1)) + 1 := by omega
      rw [e0] at e
      refine r_iload_n C dX8_nthOf_10 rfl ?_
      refine r_iload_n C dX8_nthOf_11 rfl ?_
      refine r_cSi C F dX8_nthOf_12 (s8_has) tw_879 m8_has (by decide) rfl (Nat.le_of_ble_eq_true rfl) ?_
      refine r_if_eq 27 C dX8_nthOf_15 (by decide) (fun c_15 => ?_) (fun c_15 => ?_)
      · rw [bz_eq0] at c_15
        have e1 : nthS set (6 - (k + 1)) (k + 1) x = nthS set 6 0 n := by rw [← e]; exact (if_neg c_15).symm
        refine r_inc (1) C dX8_nthOf_27 rfl (by decide) rfl rfl ?_
        refine r_goto 4 C dX8_nthOf_30 (by decide) ?_
        exact (ih (by omega) _ e1).sub ⟨rfl, rfl, by rw [nI_succ]; rfl, trivial⟩
      · rw [bz_ne0] at c_15
        refine r_iload_n C dX8_nthOf_18 rfl ?_
        refine r_if_ne 24 C dX8_nthOf_19 (by decide) (fun c_19 => ?_) (fun c_19 => ?_)
        · have e1 : nthS set (6 - (k + 1)) (k + 1) (x + (-1)) = nthS set 6 0 n := by rw [← e]; show _ = if hasP set (nI k) then (if x = 0 then nI k else nthS set (6 - (k + 1)) (k + 1) (x + (-1))) else _; rw [if_pos c_15, if_neg c_19]
          refine r_inc (-1) C dX8_nthOf_24 rfl (by decide) rfl rfl ?_
          refine r_inc (1) C dX8_nthOf_27 rfl (by decide) rfl rfl ?_
          refine r_goto 4 C dX8_nthOf_30 (by decide) ?_
          exact (ih (by omega) _ e1).sub ⟨rfl, rfl, by rw [nI_succ]; rfl, trivial⟩
        · have e1 : nI k = nthS set 6 0 n := by rw [← e]; show _ = if hasP set (nI k) then (if x = 0 then nI k else nthS set (6 - (k + 1)) (k + 1) (x + (-1))) else _; rw [if_pos c_15, if_pos c_19]
          refine r_iload_n C dX8_nthOf_22 rfl ?_
          exact r_iret C F dX8_nthOf_23 (pd_i e1 rfl)
  refine r_iload_n C dX8_nthOf_0 rfl ?_
  refine r_istore_n C dX8_nthOf_1 (by decide) rfl ?_
  refine r_iconst (0) C dX8_nthOf_2 rfl ?_
  refine r_istore_n C dX8_nthOf_3 (by decide) rfl ?_
  exact (L 0 (by decide) n rfl).sub ⟨rfl, rfl, rfl, trivial⟩
abbrev withS (A : At) (s : Nat) : At := (aX A, aF A, aH A, aD A, s, aU A, aB A, aI A, aG A, aE A)
noncomputable def d1 (A : At) : Nat := lcg (aS A)
noncomputable def dI (A : At) : Nat := nthF (mI (aU A)) (d1 A / 65536 % pc (mI (aU A)) 6)
noncomputable def dJk (A : At) : Nat := lcg (d1 A) / 65536 % dJ (aD A)
noncomputable def dO (A : At) : Nat := othF (mI (aU A)) (dI A)
noncomputable def dA (A : At) : Nat := nthF (dO A) (lcg (lcg (d1 A)) / 65536 % pc (dO A) 6)
noncomputable def dTell (A : At) : At := withU (withS A (lcg (lcg (d1 A)))) (tellA (aD A) (aU A) (dI A) (dJk A) (dA A)) (pushA (aB A) (aU A))
noncomputable def dStep (A : At) : At := if lcg (lcg (lcg (d1 A))) / 65536 % 6 = 0 then nightOp (withS (dTell A) (lcg (lcg (lcg (d1 A))))) else withS (dTell A) (lcg (lcg (lcg (d1 A))))
noncomputable def driftN : Nat → At → At
  | 0, A => A
  | k + 1, A => if 0 < dJ (aD A) ∧ 1 < pc (mI (aU A)) 6 then driftN k (dStep A) else A
noncomputable def opDrift (A : At) (x : Int32) : Int32 × At := if ¬ inP x 1 40 then (-1000000002, A) else if aH A = false then (-1000000003, A) else if 9000 < mT (aU A) then (-1000000004, A) else (nI (mI (aU (driftN (cl x) A))), driftN (cl x) A)
theorem MA_seed {A : At} (hA : MA h A) {s : Nat} (hs : s < 2147483648) : MA (up h 49 30 (nI s)) (withS A s) := by
  obtain ⟨⟨a1, a2, a3, a4, a5, a6, a7, a8, a9, a10, a11, a12⟩, ⟨b1, b2⟩, b3, b4, b5, b6, b7, ⟨b8, b9⟩, b10, ⟨b11, b12⟩, b13, b14⟩ := id hA
  exact ⟨⟨a1, a2, a3, hs, a5, a6, a7, a8, a9, a10, a11, a12⟩, ⟨b1, b2⟩, b3, b4, b5, (show up h 49 30 (nI s) 49 30 = nI s from up_self _ _ _ _), b7, ⟨b8, b9⟩, b10, ⟨b11, b12⟩, b13, b14⟩
theorem up_low (h : Hp) (k : Nat) (x : Int32) : ∀ a, a < 49 → up h 49 k x a = h a := fun a ha => up_row _ _ _ _ (by omega)
theorem s8_drawA {A : At} {c : Nat} (hA : MA h A) (hc : 0 < c) (hc1 : c < 2147483648) : Sp l E SHP 0 M8_draw [.ref (E.1 + 49), .int (nI c)] h (PD (some (.int (nI (lcg (aS A) / 65536 % c)))) (up h 49 30 (nI (lcg (aS A))))) := by
  obtain ⟨⟨a1, a2, a3, a4, a5, a6, a7, a8, a9, a10, a11, a12⟩, ⟨b1, b2⟩, b3, b4, b5, b6, b7, ⟨b8, b9⟩, b10, ⟨b11, b12⟩, b13, b14⟩ := id hA
  exact s8_draw b6 a4 hc hc1
