variable {l : Launch} {E : Ev} {h : Hp}
def rnH (g : Hp) (r : Rd (Nat × Nat)) : Hp := match r with
  | .inr _ => g
  | .inl e => if g 1 3 = 0 then up (up g 1 3 (nI e.2)) 1 4 (nI e.1) else g
theorem dg_pos {t : Nat → Int32} {n q : Nat} (c : q < n ∧ isDg (t q)) : 0 < dg t n q := by
  unfold dg
  rw [show n - q = (n - q - 1) + 1 by omega]
  show 0 < (if q < n ∧ isDg (t q) then dgN t n (n - q - 1) (q + 1) + 1 else 0)
  rw [if_pos c]
  omega
theorem dg_zero {t : Nat → Int32} {n q : Nat} (c : ¬ (q < n ∧ isDg (t q))) : dg t n q = 0 := by
  unfold dg
  cases n - q with
  | zero => rfl
  | succ k => exact if_neg c
set_option maxHeartbeats 4000000 in
theorem s4_readNumber {n p lo hi : Nat} (hn : h 1 2 = nI n) (hl : n ≤ 200) (hx : h 1 5 = nI p) (hp : p ≤ n) (hlo : lo ≤ 100) (hhi : hi ≤ 100) : Sp l E SHP 1 M4_readNumber [.ref (E.1 + 1), .int (nI lo), .int (nI hi)] h (PD (some (.int (nI (vl (h 2) (sk (h 2) n p) (dg (h 2) n (sk (h 2) n p)))))) (rnH (up h 1 5 (nI (sk (h 2) n p + dg (h 2) n (sk (h 2) n p)))) (rdN (h 2) n lo hi p))) := by
  refine Sp.of (by decide) (Nat.le_of_ble_eq_true rfl) (fun X C F => ?_)
  have C : Ok X E RX4 cX4_readNumber 6 := C
  have F : Fn X l E SHP 1 (some FieldType.int) (PD (some (.int (nI (vl (h 2) (sk (h 2) n p) (dg (h 2) n (sk (h 2) n p)))))) (rnH (up h 1 5 (nI (sk (h 2) n p + dg (h 2) n (sk (h 2) n p)))) (rdN (h 2) n lo hi p))) := F
  show G X E SHP (0, 0) 0 [(0, .ref (E.1 + 1)), (1, .int (nI lo)), (2, .int (nI hi))] [] h
  have hs := sk_le (t := h 2) hp
  generalize hq : sk (h 2) n p = q at hs F ⊢
  have T : ∀ f, f = dg (h 2) n q → f ≤ 200 → vl (h 2) q f < 1000 → G X E SHP (0, 0) 81 [(0, .ref (E.1 + 1)), (1, .int (nI lo)), (2, .int (nI hi)), (3, .int (nI q)), (4, .int (nI (vl (h 2) q f)))] [] (up h 1 5 (nI (q + f))) := by
    intro f hf hf2 hv
    refine r_aload_n C dX4_readNumber_81 rfl ?_
    refine r_getI C dX4_readNumber_82 flX4_33 (rfl) rfl ?_
    refine r_iload_n C dX4_readNumber_85 rfl ?_
    refine r_isub C dX4_readNumber_86 ?_
    rw [show (up h 1 5 (nI (q + f))) 1 5 - nI q = nI f from (pk_sub (Nat.le_add_right q f)).trans (by rw [Nat.add_sub_cancel_left])]
    refine r_istore C dX4_readNumber_87 (by decide) rfl ?_
    refine r_iload C dX4_readNumber_89 rfl ?_
    refine r_if_ne 103 C dX4_readNumber_91 (by decide) (fun c_91 => ?_) (fun c_91 => ?_)
    · rw [cEq (x := nI f) (c := 0) (i := f) (n := 0) (rfl) (rfl) (by omega) (by omega)] at c_91
      refine r_iload C dX4_readNumber_103 rfl ?_
      refine r_iconst (3) C dX4_readNumber_105 rfl ?_
      refine r_icmp_gt 121 C dX4_readNumber_106 (by decide) (fun c_106 => ?_) (fun c_106 => ?_)
      · rw [cLt (x := 3) (c := nI f) (i := 3) (n := f) (rfl) (rfl) (by omega) (by omega)] at c_106
        refine r_aload_n C dX4_readNumber_121 rfl ?_
        refine r_iconst (2) C dX4_readNumber_122 rfl ?_
        refine r_iload_n C dX4_readNumber_123 rfl ?_
        refine r_cVv C F dX4_readNumber_124 (s4_noteFault) tw_304 m4_noteFault (rfl) rfl (by decide) rfl (Nat.le_of_ble_eq_true rfl) ?_
        refine r_iload C dX4_readNumber_127 rfl ?_
        have er : rdN (h 2) n lo hi p = .inl (q, 2) := by unfold rdN; rw [hq, if_pos (Decidable.byContradiction fun z => by have := dg_zero z; omega), if_neg (by rw [← hf]; omega)]
        exact r_iret C F dX4_readNumber_129 (pd_i (by rw [hf]) (by rw [er, ← hf]; rfl))
      · rw [cLt (x := 3) (c := nI f) (i := 3) (n := f) (rfl) (rfl) (by omega) (by omega)] at c_106
        refine r_iload C dX4_readNumber_109 rfl ?_
        refine r_iload_n C dX4_readNumber_111 rfl ?_
        refine r_icmp_lt 121 C dX4_readNumber_112 (by decide) (fun c_112 => ?_) (fun c_112 => ?_)
        · rw [cLt (x := nI (vl (h 2) q f)) (c := nI lo) (i := vl (h 2) q f) (n := lo) (rfl) (rfl) (by omega) (by omega)] at c_112
          refine r_aload_n C dX4_readNumber_121 rfl ?_
          refine r_iconst (2) C dX4_readNumber_122 rfl ?_
          refine r_iload_n C dX4_readNumber_123 rfl ?_
          refine r_cVv C F dX4_readNumber_124 (s4_noteFault) tw_304 m4_noteFault (rfl) rfl (by decide) rfl (Nat.le_of_ble_eq_true rfl) ?_
          refine r_iload C dX4_readNumber_127 rfl ?_
          have er : rdN (h 2) n lo hi p = .inl (q, 2) := by unfold rdN; rw [hq, if_pos (Decidable.byContradiction fun z => by have := dg_zero z; omega), if_neg (by rw [← hf]; omega)]
          exact r_iret C F dX4_readNumber_129 (pd_i (by rw [hf]) (by rw [er, ← hf]; rfl))
        · rw [cLt (x := nI (vl (h 2) q f)) (c := nI lo) (i := vl (h 2) q f) (n := lo) (rfl) (rfl) (by omega) (by omega)] at c_112
          refine r_iload C dX4_readNumber_115 rfl ?_
          refine r_iload_n C dX4_readNumber_117 rfl ?_
          refine r_icmp_le 127 C dX4_readNumber_118 (by decide) (fun c_118 => ?_) (fun c_118 => ?_)
          · rw [cLe (x := nI (vl (h 2) q f)) (c := nI hi) (i := vl (h 2) q f) (n := hi) (rfl) (rfl) (by omega) (by omega)] at c_118
            refine r_iload C dX4_readNumber_127 rfl ?_
            have er : rdN (h 2) n lo hi p = .inr (vl (h 2) q f, q + f) := by unfold rdN; rw [hq, if_pos (Decidable.byContradiction fun z => by have := dg_zero z; omega), ← hf, if_pos ⟨by omega, by omega, by omega⟩]
            exact r_iret C F dX4_readNumber_129 (pd_i (by rw [hf]) (by rw [er, ← hf]; rfl))
          · rw [cLe (x := nI (vl (h 2) q f)) (c := nI hi) (i := vl (h 2) q f) (n := hi) (rfl) (rfl) (by omega) (by omega)] at c_118
            refine r_aload_n C dX4_readNumber_121 rfl ?_
            refine r_iconst (2) C dX4_readNumber_122 rfl ?_
            refine r_iload_n C dX4_readNumber_123 rfl ?_
            refine r_cVv C F dX4_readNumber_124 (s4_noteFault) tw_304 m4_noteFault (rfl) rfl (by decide) rfl (Nat.le_of_ble_eq_true rfl) ?_
            refine r_iload C dX4_readNumber_127 rfl ?_
            have er : rdN (h 2) n lo hi p = .inl (q, 2) := by unfold rdN; rw [hq, if_pos (Decidable.byContradiction fun z => by have := dg_zero z; omega), if_neg (by rw [← hf]; omega)]
            exact r_iret C F dX4_readNumber_129 (pd_i (by rw [hf]) (by rw [er, ← hf]; rfl))
    · rw [cEq (x := nI f) (c := 0) (i := f) (n := 0) (rfl) (rfl) (by omega) (by omega)] at c_91
      refine r_aload_n C dX4_readNumber_94 rfl ?_
      refine r_iconst (1) C dX4_readNumber_95 rfl ?_
      refine r_iload_n C dX4_readNumber_96 rfl ?_
      refine r_cVv C F dX4_readNumber_97 (s4_noteFault) tw_304 m4_noteFault (rfl) rfl (by decide) rfl (Nat.le_of_ble_eq_true rfl) ?_
      refine r_goto 127 C dX4_readNumber_100 (by decide) ?_
      refine r_iload C dX4_readNumber_127 rfl ?_
      have er : rdN (h 2) n lo hi p = .inl (q, 1) := by unfold rdN; rw [hq, if_neg (fun z => by have := dg_pos z; omega)]
      exact r_iret C F dX4_readNumber_129 (pd_i (by rw [hf]) (by rw [er, ← hf]; rfl))
  have DG : ∀ f, f ≤ n - q → (∀ m, m < f → isDg (h 2 (q + m))) → dgN (h 2) n (n - (q + f)) (q + f) + f = dg (h 2) n q → G X E SHP (0, 0) 12 [(0, .ref (E.1 + 1)), (1, .int (nI lo)), (2, .int (nI hi)), (3, .int (nI q)), (4, .int (nI (vl (h 2) q f)))] [] (up h 1 5 (nI (q + f))) := by
    refine loopN (n - q) _ (fun f hf ih hall hcnt => ?_)
    have hvl := (vl_lt (t := h 2) (q := q) f hall).1
    refine r_aload_n C dX4_readNumber_12 rfl ?_
    refine r_getI C dX4_readNumber_13 flX4_33 (rfl) rfl ?_
    refine r_aload_n C dX4_readNumber_16 rfl ?_
    refine r_getI C dX4_readNumber_17 flX4_18 (rfl) rfl ?_
    refine r_icmp_ge 81 C dX4_readNumber_20 (by decide) (fun c_20 => ?_) (fun c_20 => ?_)
    · have c_20 : n ≤ q + f := (cLe (x := h 1 2) (c := nI (q + f)) (i := n) (n := q + f) hn rfl (by omega) (by omega)).mp c_20
      have h0 : dgN (h 2) n (n - (q + f)) (q + f) = 0 := by
        rw [show n - (q + f) = 0 by omega]; rfl
      exact T f (by omega) (by omega) hvl
    · have c_20 : ¬ n ≤ q + f := fun z => c_20 ((cLe (x := h 1 2) (c := nI (q + f)) (i := n) (n := q + f) hn rfl (by omega) (by omega)).mpr z)
      refine r_aload_n C dX4_readNumber_23 rfl ?_
      refine r_getR C dX4_readNumber_24 flX4_9 (rfl) rfl ?_
      refine r_aload_n C dX4_readNumber_27 rfl ?_
      refine r_getI C dX4_readNumber_28 flX4_33 (rfl) rfl ?_
      refine r_iald (q + f) C dX4_readNumber_31 (rfl) (rfl) (by omega) (by decide) ?_
      refine r_cSi C F dX4_readNumber_32 (s4_isFigure) tw_320 m4_isFigure (by decide) rfl (Nat.le_of_ble_eq_true rfl) ?_
      refine r_if_eq 81 C dX4_readNumber_35 (by decide) (fun c_35 => ?_) (fun c_35 => ?_)
      · rw [bz_eq0] at c_35
        have c_35 : ¬ isDg (h 2 (q + f)) := c_35
        have h0 : dgN (h 2) n (n - (q + f)) (q + f) = 0 := by
          rw [show n - (q + f) = (n - (q + f) - 1) + 1 by omega]
          exact if_neg (fun z => c_35 z.2)
        exact T f (by omega) (by omega) hvl
      · rw [bz_ne0] at c_35
        have c_35 : isDg (h 2 (q + f)) := c_35
        obtain ⟨d, hd1, hd2, hd3⟩ := isDg_nI c_35
        have hval : nI (vl (h 2) q f) * 10 + (up h 1 5 (nI (q + f))) 2 (q + f) - 48 = nI (10 * vl (h 2) q f + (d - 48)) := by
          rw [show (up h 1 5 (nI (q + f))) 2 (q + f) = nI d from hd3, show nI (vl (h 2) q f) * 10 = nI (vl (h 2) q f * 10) from pk_mul _ 10, show nI (vl (h 2) q f * 10) + nI d = nI (vl (h 2) q f * 10 + d) from nI_add _ _]
          exact (pk_sub (b := 48) (by omega)).trans (by rw [show vl (h 2) q f * 10 + d - 48 = 10 * vl (h 2) q f + (d - 48) by omega])
        refine r_aload_n C dX4_readNumber_38 rfl ?_
        refine r_getI C dX4_readNumber_39 flX4_33 (rfl) rfl ?_
        refine r_iload_n C dX4_readNumber_42 rfl ?_
        refine r_isub C dX4_readNumber_43 ?_
        rw [show (up h 1 5 (nI (q + f))) 1 5 - nI q = nI f from (pk_sub (Nat.le_add_right q f)).trans (by rw [Nat.add_sub_cancel_left])]
        refine r_iconst (3) C dX4_readNumber_44 rfl ?_
        refine r_icmp_ge 68 C dX4_readNumber_45 (by decide) (fun c_45 => ?_) (fun c_45 => ?_)
        · rw [cLe (x := 3) (c := nI f) (i := 3) (n := f) (rfl) (rfl) (by omega) (by omega)] at c_45
          refine r_aload_n C dX4_readNumber_68 rfl ?_
          refine r_dup C dX4_readNumber_69 rfl ?_
          refine r_getI C dX4_readNumber_70 flX4_33 (rfl) rfl ?_
          refine r_iconst (1) C dX4_readNumber_73 rfl ?_
          refine r_iadd C dX4_readNumber_74 ?_
          refine r_putI C dX4_readNumber_75 fwX4_33 (rfl) rfl ?_
          refine r_goto 12 C dX4_readNumber_78 (by decide) ?_
          have hvs : vl (h 2) q (f + 1) = vl (h 2) q f := by
            show (if f < 3 then 10 * vl (h 2) q f + ((h 2 (q + f)).toNatClampNeg - 48) else vl (h 2) q f) = _
            rw [if_neg (by omega)]
          refine (G.eq (ih (by omega) (fun m hm => by by_cases e : m = f; (rw [e]; exact c_35); exact hall m (by omega)) (by rw [← hcnt, show n - (q + f) = (n - (q + (f + 1))) + 1 by omega]; show _ = (if q + f < n ∧ isDg (h 2 (q + f)) then dgN (h 2) n (n - (q + (f + 1))) (q + f + 1) + 1 else 0) + f; rw [if_pos ⟨by omega, c_35⟩, show q + f + 1 = q + (f + 1) by omega]; omega)) rfl rfl ?_).sub ⟨rfl, rfl, rfl, rfl, by rw [hvs]; rfl, trivial⟩
          rw [up_up, up_self, ← Nat.add_assoc, nI_succ]
        · rw [cLe (x := 3) (c := nI f) (i := 3) (n := f) (rfl) (rfl) (by omega) (by omega)] at c_45
          refine r_iload C dX4_readNumber_48 rfl ?_
          refine r_bipush (10) C dX4_readNumber_50 rfl ?_
          refine r_imul C dX4_readNumber_52 ?_
          refine r_aload_n C dX4_readNumber_53 rfl ?_
          refine r_getR C dX4_readNumber_54 flX4_9 (rfl) rfl ?_
          refine r_aload_n C dX4_readNumber_57 rfl ?_
          refine r_getI C dX4_readNumber_58 flX4_33 (rfl) rfl ?_
          refine r_iald (q + f) C dX4_readNumber_61 (rfl) (rfl) (by omega) (by decide) ?_
          refine r_iadd C dX4_readNumber_62 ?_
          refine r_bipush (48) C dX4_readNumber_63 rfl ?_
          refine r_isub C dX4_readNumber_65 ?_
          rw [hval]
          refine r_istore C dX4_readNumber_66 (by decide) rfl ?_
          refine r_aload_n C dX4_readNumber_68 rfl ?_
          refine r_dup C dX4_readNumber_69 rfl ?_
          refine r_getI C dX4_readNumber_70 flX4_33 (rfl) rfl ?_
          refine r_iconst (1) C dX4_readNumber_73 rfl ?_
          refine r_iadd C dX4_readNumber_74 ?_
          refine r_putI C dX4_readNumber_75 fwX4_33 (rfl) rfl ?_
          refine r_goto 12 C dX4_readNumber_78 (by decide) ?_
          have hvs : vl (h 2) q (f + 1) = 10 * vl (h 2) q f + (d - 48) := by
            show (if f < 3 then 10 * vl (h 2) q f + ((h 2 (q + f)).toNatClampNeg - 48) else vl (h 2) q f) = _
            rw [if_pos (by omega), hd3, show (nI d).toNatClampNeg = d from cl_nI (by omega)]
          refine (G.eq (ih (by omega) (fun m hm => by by_cases e : m = f; (rw [e]; exact c_35); exact hall m (by omega)) (by rw [← hcnt, show n - (q + f) = (n - (q + (f + 1))) + 1 by omega]; show _ = (if q + f < n ∧ isDg (h 2 (q + f)) then dgN (h 2) n (n - (q + (f + 1))) (q + f + 1) + 1 else 0) + f; rw [if_pos ⟨by omega, c_35⟩, show q + f + 1 = q + (f + 1) by omega]; omega)) rfl rfl ?_).sub ⟨rfl, rfl, rfl, rfl, by rw [hvs]; rfl, trivial⟩
          rw [up_up, up_self, ← Nat.add_assoc, nI_succ]
  refine r_aload_n C dX4_readNumber_0 rfl ?_
  refine r_cVv C F dX4_readNumber_1 (s4_skipBlanks rfl hn hl hx hp) tw_292 m4_skipBlanks (rfl) rfl (by decide) rfl (Nat.le_of_ble_eq_true rfl) ?_
  rw [hq]
  refine r_aload_n C dX4_readNumber_4 rfl ?_
  refine r_getI C dX4_readNumber_5 flX4_33 (rfl) rfl ?_
  refine r_istore_n C dX4_readNumber_8 (by decide) rfl ?_
  refine r_iconst (0) C dX4_readNumber_9 rfl ?_
  refine r_istore C dX4_readNumber_10 (by decide) rfl ?_
  exact (G.eq (DG 0 (Nat.zero_le _) (fun m hm => absurd hm (Nat.not_lt_zero m)) rfl) rfl rfl rfl).sub ⟨rfl, rfl, rfl, rfl, rfl, trivial⟩
