variable {l : Launch} {E : Ev} {h : Hp}
def sgV (D : HDt) (t : Nat) (j : Nat) : Nat := if t.testBit (dK D j) = true then dF D j else dF D j / 2
def sgOk (D : HDt) (i t s : Nat) (q : Nat × Nat × Bool) : Bool := !(q.1 == i) || (decide (s ≤ sgV D t q.2.1) == q.2.2)
def fitA (A : At) (i t s : Nat) : Bool := (aG A).all (sgOk (aD A) i t s)
theorem all_take {α : Type} {p : α → Bool} {L : List α} {k : Nat} {a : α} (e : L[k]? = some a) : (L.take (k + 1)).all p = ((L.take k).all p && p a) := by
  obtain ⟨hk, he⟩ := List.getElem?_eq_some_iff.mp e
  rw [List.take_add_one, List.all_append, e]
  simp
def vTastes (A : At) (x : Int32) : Int32 := if ¬ lordP A x then -1000000001 else nI (lset (fun t => fitA A (cl x) t (dS (aD A) (cl x))) 16)
def lsK (p : Nat → Bool) : Nat → Int32
  | 0 => -1
  | k + 1 => if p (k + 1) = true ∧ lsK p k < 0 then nI (k + 1) else lsK p k
def gsK (p : Nat → Bool) : Nat → Int32
  | 0 => -1
  | k + 1 => if p (k + 1) = true then nI (k + 1) else gsK p k
def vSads (A : At) (x w : Int32) : Int32 := if ¬ lordP A x then -1000000001 else if ¬ inP w 0 1 then -1000000002 else if w = 0 then lsK (fun s => fitA A (cl x) (dT (aD A) (cl x)) s) 20 else gsK (fun s => fitA A (cl x) (dT (aD A) (cl x)) s) 20
theorem sgV_le {D : HDt} (okd : okD D) {t j : Nat} (hj : j < dJ D) : sgV D t j ≤ 30 := by
  have := (okd.2.2.2.2.2 j hj).2.2
  unfold sgV
  split <;> omega
set_option maxHeartbeats 4000000 in
theorem s8_isSo {A : At} {i t s : Nat} (hA : MA h A) (hi : i < 6) (ht : t < 16) (hs : s ≤ 20) : Sp l E SHP 1 M8_isSo [.ref (E.1 + 49), .int (nI i), .int (nI t), .int (nI s)] h (PD (some (.int (bz (fitA A i t s = true)))) h) := by
  refine Sp.of (by decide) (Nat.le_of_ble_eq_true rfl) (fun X C F => ?_)
  have C : Ok X E RX8 cX8_isSo 9 := C
  have F : Fn X l E SHP 1 (some FieldType.boolean) (PD (some (.int (bz (fitA A i t s = true)))) h) := F
  show G X E SHP (0, 0) 0 [(0, .ref (E.1 + 49)), (1, .int (nI i)), (2, .int (nI t)), (3, .int (nI s))] [] h
  obtain ⟨⟨a1, a2, a3, a4, a5, a6, a7, a8, a9, a10, a11, a12⟩, ⟨b1, b2⟩, b3, b4, b5, b6, b7, ⟨b8, b9⟩, b10, ⟨b11, b12⟩, b13, b14⟩ := id hA
  obtain ⟨okd, e16, e17, e540, e541, eL, eJ⟩ := id b5
  obtain ⟨o1, o2, o3, o4, o5, o6⟩ := id okd
  have p6 : 2 ^ dL (aD A) ≤ 64 := Nat.pow_le_pow_right (n := 2) (by decide) o1
  obtain ⟨k0, k1, k2, k3, k4, k5⟩ := id a5
  have L : ∀ k, k ≤ (aG A).length → G X E SHP (0, 0) 6 [(0, .ref (E.1 + 49)), (1, .int (nI i)), (2, .int (nI t)), (3, .int (nI s)), (4, .int (bz (((aG A).take k).all (sgOk (aD A) i t s) = true))), (5, .int (nI k))] [] h := by
    refine loopN (aG A).length _ (fun k hk ih => ?_)
    refine r_iload C dX8_isSo_6 rfl ?_
    refine r_aload_n C dX8_isSo_8 rfl ?_
    refine r_getI C dX8_isSo_9 flX8_151 (rfl) rfl ?_
    refine r_icmp_ge 124 C dX8_isSo_12 (by decide) (fun c_12 => ?_) (fun c_12 => ?_)
    · rw [cLe (x := h 49 31) (c := nI k) (i := (aG A).length) (n := k) (b11) (rfl) (by omega) (by omega)] at c_12
      refine r_iload C dX8_isSo_124 rfl ?_
      exact r_zret C F dX8_isSo_126 (narrow_bz _) (pd_i (by rw [show k = (aG A).length by omega, List.take_length]; rfl) (rfl))
    · rw [cLe (x := h 49 31) (c := nI k) (i := (aG A).length) (n := k) (b11) (rfl) (by omega) (by omega)] at c_12
      obtain ⟨q, hq⟩ : ∃ q, (aG A)[k]? = some q := ⟨_, List.getElem?_eq_getElem (by omega)⟩
      obtain ⟨d1, d2, d3⟩ := b12 k q hq
      obtain ⟨hq1, hq2⟩ := a10 q (List.mem_of_getElem? hq)
      have hst := all_take (p := sgOk (aD A) i t s) hq
      have hvl := sgV_le okd (t := t) hq2
      have hf30 := (o6 q.2.1 hq2).2.2
      refine r_aload_n C dX8_isSo_15 rfl ?_
      refine r_getR C dX8_isSo_16 flX8_60 (rfl) rfl ?_
      refine r_iconst (3) C dX8_isSo_19 rfl ?_
      refine r_iload C dX8_isSo_20 rfl ?_
      refine r_imul C dX8_isSo_22 ?_
      refine r_iconst (1) C dX8_isSo_23 rfl ?_
      refine r_iadd C dX8_isSo_24 ?_
      refine r_iald (3 * k + 1) C dX8_isSo_25 (rfl) (ix31 k) (by omega) (by decide) ?_
      rw [d2]
      refine r_istore C dX8_isSo_26 (by decide) rfl ?_
      refine r_aload_n C dX8_isSo_28 rfl ?_
      refine r_getR C dX8_isSo_29 flX8_32 (rfl) rfl ?_
      refine r_iconst (2) C dX8_isSo_32 rfl ?_
      refine r_iload C dX8_isSo_33 rfl ?_
      refine r_imul C dX8_isSo_35 ?_
      refine r_iconst (1) C dX8_isSo_36 rfl ?_
      refine r_iadd C dX8_isSo_37 ?_
      refine r_iald (2 * q.2.1 + 1) C dX8_isSo_38 (rfl) (ix21 q.2.1) (by omega) (by decide) ?_
      rw [(eJ q.2.1 hq2).2]
      refine r_istore C dX8_isSo_39 (by decide) rfl ?_
      refine r_iload_n C dX8_isSo_41 rfl ?_
      refine r_aload_n C dX8_isSo_42 rfl ?_
      refine r_getR C dX8_isSo_43 flX8_32 (rfl) rfl ?_
      refine r_iconst (2) C dX8_isSo_46 rfl ?_
      refine r_iload C dX8_isSo_47 rfl ?_
      refine r_imul C dX8_isSo_49 ?_
      refine r_iald (2 * q.2.1) C dX8_isSo_50 (rfl) (nI_lit2 q.2.1) (by omega) (by decide) ?_
      rw [(eJ q.2.1 hq2).1]
      refine r_cSi C F dX8_isSo_51 (s8_has) tw_879 m8_has (by decide) rfl (Nat.le_of_ble_eq_true rfl) ?_
      refine r_if_eq 62 C dX8_isSo_54 (by decide) (fun c_54 => ?_) (fun c_54 => ?_)
      · rw [bz_eq0, hasP_nI (by omega) (by have := (o6 q.2.1 hq2).1; omega)] at c_54
        have hv : sgV (aD A) t q.2.1 = dF (aD A) q.2.1 / 2 := if_neg c_54
        refine r_iload C dX8_isSo_62 rfl ?_
        refine r_iconst (2) C dX8_isSo_64 rfl ?_
        refine r_idiv C dX8_isSo_65 (by decide) ?_
        first | rw [show nI (dF (aD A) q.2.1) / 2 = nI (dF (aD A) q.2.1 / 2) from pk_div (by omega) (by decide) (by decide), ← hv] | rw [show dF (aD A) q.2.1 = sgV (aD A) t q.2.1 from hv.symm]
        refine r_istore C dX8_isSo_66 (by decide) rfl ?_
        refine r_iload C dX8_isSo_68 rfl ?_
        refine r_if_eq 115 C dX8_isSo_70 (by decide) (fun c_70 => ?_) (fun c_70 => ?_)
        · rw [bz_eq0, Bool.not_eq_true] at c_70
          refine r_iconst (0) C dX8_isSo_115 rfl ?_
          refine r_istore C dX8_isSo_116 (by decide) rfl ?_
          refine r_inc (1) C dX8_isSo_118 rfl (by decide) rfl rfl ?_
          refine r_goto 6 C dX8_isSo_121 (by decide) ?_
          exact (ih (by omega)).sub ⟨rfl, rfl, rfl, rfl, (by rw [hst, bz_f (show ¬ (((aG A).take k).all (sgOk (aD A) i t s) && sgOk (aD A) i t s q) = true by rw [c_70, Bool.false_and]; decide)]; rfl), by rw [nI_succ]; rfl, trivial⟩
        · rw [bz_ne0] at c_70
          refine r_aload_n C dX8_isSo_73 rfl ?_
          refine r_getR C dX8_isSo_74 flX8_60 (rfl) rfl ?_
          refine r_iconst (3) C dX8_isSo_77 rfl ?_
          refine r_iload C dX8_isSo_78 rfl ?_
          refine r_imul C dX8_isSo_80 ?_
          refine r_iald (3 * k) C dX8_isSo_81 (rfl) (nI_lit3 k) (by omega) (by decide) ?_
          refine r_iload_n C dX8_isSo_82 rfl ?_
          refine r_icmp_ne 111 C dX8_isSo_83 (by decide) (fun c_83 => ?_) (fun c_83 => ?_)
          · rw [d1] at c_83
            rw [cEq (x := nI q.1) (c := nI i) (i := q.1) (n := i) (rfl) (rfl) (by omega) (by omega)] at c_83
            refine r_iconst (1) C dX8_isSo_111 rfl ?_
            refine r_goto 116 C dX8_isSo_112 (by decide) ?_
            refine r_istore C dX8_isSo_116 (by decide) rfl ?_
            refine r_inc (1) C dX8_isSo_118 rfl (by decide) rfl rfl ?_
            refine r_goto 6 C dX8_isSo_121 (by decide) ?_
            exact (ih (by omega)).sub ⟨rfl, rfl, rfl, rfl, (by rw [hst, bz_t (show (((aG A).take k).all (sgOk (aD A) i t s) && sgOk (aD A) i t s q) = true by rw [c_70, show sgOk (aD A) i t s q = true by unfold sgOk; rw [show (q.1 == i) = false from beq_eq_false_iff_ne.mpr c_83]; rfl]; rfl)]; rfl), by rw [nI_succ]; rfl, trivial⟩
          · rw [d1] at c_83
            rw [cEq (x := nI q.1) (c := nI i) (i := q.1) (n := i) (rfl) (rfl) (by omega) (by omega)] at c_83
            refine r_iload C dX8_isSo_86 rfl ?_
            refine r_iload_n C dX8_isSo_88 rfl ?_
            refine r_icmp_lt 96 C dX8_isSo_89 (by decide) (fun c_89 => ?_) (fun c_89 => ?_)
            · rw [cLt (x := nI (sgV (aD A) t q.2.1)) (c := nI s) (i := sgV (aD A) t q.2.1) (n := s) (rfl) (rfl) (by omega) (by omega)] at c_89
              refine r_iconst (0) C dX8_isSo_96 rfl ?_
              refine r_aload_n C dX8_isSo_97 rfl ?_
              refine r_getR C dX8_isSo_98 flX8_60 (rfl) rfl ?_
              refine r_iconst (3) C dX8_isSo_101 rfl ?_
              refine r_iload C dX8_isSo_102 rfl ?_
              refine r_imul C dX8_isSo_104 ?_
              refine r_iconst (2) C dX8_isSo_105 rfl ?_
              refine r_iadd C dX8_isSo_106 ?_
              refine r_iald (3 * k + 2) C dX8_isSo_107 (rfl) (ix32 k) (by omega) (by decide) ?_
              refine r_icmp_ne 115 C dX8_isSo_108 (by decide) (fun c_108 => ?_) (fun c_108 => ?_)
              · rw [d3] at c_108
                refine r_iconst (0) C dX8_isSo_115 rfl ?_
                refine r_istore C dX8_isSo_116 (by decide) rfl ?_
                refine r_inc (1) C dX8_isSo_118 rfl (by decide) rfl rfl ?_
                refine r_goto 6 C dX8_isSo_121 (by decide) ?_
                have hso : sgOk (aD A) i t s q = false := by
                  unfold sgOk
                  rw [show (q.1 == i) = true from beq_iff_eq.mpr c_83, decide_eq_false (show ¬ s ≤ sgV (aD A) t q.2.1 by omega)]
                  cases hb : q.2.2
                  · rw [hb] at c_108; first | rfl | exact absurd rfl c_108 | exact absurd c_108 (by decide)
                  · rw [hb] at c_108; first | rfl | exact absurd rfl c_108 | exact absurd c_108 (by decide)
                exact (ih (by omega)).sub ⟨rfl, rfl, rfl, rfl, (by rw [hst, bz_f (show ¬ (((aG A).take k).all (sgOk (aD A) i t s) && sgOk (aD A) i t s q) = true by rw [hso, Bool.and_false]; decide)]; rfl), by rw [nI_succ]; rfl, trivial⟩
              · rw [d3] at c_108
                refine r_iconst (1) C dX8_isSo_111 rfl ?_
                refine r_goto 116 C dX8_isSo_112 (by decide) ?_
                refine r_istore C dX8_isSo_116 (by decide) rfl ?_
                refine r_inc (1) C dX8_isSo_118 rfl (by decide) rfl rfl ?_
                refine r_goto 6 C dX8_isSo_121 (by decide) ?_
                have hso : sgOk (aD A) i t s q = true := by
                  unfold sgOk
                  rw [show (q.1 == i) = true from beq_iff_eq.mpr c_83, decide_eq_false (show ¬ s ≤ sgV (aD A) t q.2.1 by omega)]
                  cases hb : q.2.2
                  · rw [hb] at c_108; first | rfl | exact absurd rfl c_108 | exact absurd c_108 (by decide)
                  · rw [hb] at c_108; first | rfl | exact absurd rfl c_108 | exact absurd c_108 (by decide)
                exact (ih (by omega)).sub ⟨rfl, rfl, rfl, rfl, (by rw [hst, bz_t (show (((aG A).take k).all (sgOk (aD A) i t s) && sgOk (aD A) i t s q) = true by rw [c_70, hso]; rfl)]; rfl), by rw [nI_succ]; rfl, trivial⟩
            · rw [cLt (x := nI (sgV (aD A) t q.2.1)) (c := nI s) (i := sgV (aD A) t q.2.1) (n := s) (rfl) (rfl) (by omega) (by omega)] at c_89
              refine r_iconst (1) C dX8_isSo_92 rfl ?_
              refine r_goto 97 C dX8_isSo_93 (by decide) ?_
              refine r_aload_n C dX8_isSo_97 rfl ?_
              refine r_getR C dX8_isSo_98 flX8_60 (rfl) rfl ?_
              refine r_iconst (3) C dX8_isSo_101 rfl ?_
              refine r_iload C dX8_isSo_102 rfl ?_
              refine r_imul C dX8_isSo_104 ?_
              refine r_iconst (2) C dX8_isSo_105 rfl ?_
              refine r_iadd C dX8_isSo_106 ?_
              refine r_iald (3 * k + 2) C dX8_isSo_107 (rfl) (ix32 k) (by omega) (by decide) ?_
              refine r_icmp_ne 115 C dX8_isSo_108 (by decide) (fun c_108 => ?_) (fun c_108 => ?_)
              · rw [d3] at c_108
                refine r_iconst (0) C dX8_isSo_115 rfl ?_
                refine r_istore C dX8_isSo_116 (by decide) rfl ?_
                refine r_inc (1) C dX8_isSo_118 rfl (by decide) rfl rfl ?_
                refine r_goto 6 C dX8_isSo_121 (by decide) ?_
                have hso : sgOk (aD A) i t s q = false := by
                  unfold sgOk
                  rw [show (q.1 == i) = true from beq_iff_eq.mpr c_83, decide_eq_true (show s ≤ sgV (aD A) t q.2.1 by omega)]
                  cases hb : q.2.2
                  · rw [hb] at c_108; first | rfl | exact absurd rfl c_108 | exact absurd c_108 (by decide)
                  · rw [hb] at c_108; first | rfl | exact absurd rfl c_108 | exact absurd c_108 (by decide)
                exact (ih (by omega)).sub ⟨rfl, rfl, rfl, rfl, (by rw [hst, bz_f (show ¬ (((aG A).take k).all (sgOk (aD A) i t s) && sgOk (aD A) i t s q) = true by rw [hso, Bool.and_false]; decide)]; rfl), by rw [nI_succ]; rfl, trivial⟩
              · rw [d3] at c_108
                refine r_iconst (1) C dX8_isSo_111 rfl ?_
                refine r_goto 116 C dX8_isSo_112 (by decide) ?_
                refine r_istore C dX8_isSo_116 (by decide) rfl ?_
                refine r_inc (1) C dX8_isSo_118 rfl (by decide) rfl rfl ?_
                refine r_goto 6 C dX8_isSo_121 (by decide) ?_
                have hso : sgOk (aD A) i t s q = true := by
                  unfold sgOk
                  rw [show (q.1 == i) = true from beq_iff_eq.mpr c_83, decide_eq_true (show s ≤ sgV (aD A) t q.2.1 by omega)]
                  cases hb : q.2.2
                  · rw [hb] at c_108; first | rfl | exact absurd rfl c_108 | exact absurd c_108 (by decide)
                  · rw [hb] at c_108; first | rfl | exact absurd rfl c_108 | exact absurd c_108 (by decide)
                exact (ih (by omega)).sub ⟨rfl, rfl, rfl, rfl, (by rw [hst, bz_t (show (((aG A).take k).all (sgOk (aD A) i t s) && sgOk (aD A) i t s q) = true by rw [c_70, hso]; rfl)]; rfl), by rw [nI_succ]; rfl, trivial⟩
      · rw [bz_ne0, hasP_nI (by omega) (by have := (o6 q.2.1 hq2).1; omega)] at c_54
        have hv : sgV (aD A) t q.2.1 = dF (aD A) q.2.1 := if_pos c_54
        refine r_iload C dX8_isSo_57 rfl ?_
        refine r_goto 66 C dX8_isSo_59 (by decide) ?_
        first | rw [show nI (dF (aD A) q.2.1) / 2 = nI (dF (aD A) q.2.1 / 2) from pk_div (by omega) (by decide) (by decide), ← hv] | rw [show dF (aD A) q.2.1 = sgV (aD A) t q.2.1 from hv.symm]
        refine r_istore C dX8_isSo_66 (by decide) rfl ?_
        refine r_iload C dX8_isSo_68 rfl ?_
        refine r_if_eq 115 C dX8_isSo_70 (by decide) (fun c_70 => ?_) (fun c_70 => ?_)
        · rw [bz_eq0, Bool.not_eq_true] at c_70
          refine r_iconst (0) C dX8_isSo_115 rfl ?_
          refine r_istore C dX8_isSo_116 (by decide) rfl ?_
          refine r_inc (1) C dX8_isSo_118 rfl (by decide) rfl rfl ?_
          refine r_goto 6 C dX8_isSo_121 (by decide) ?_
          exact (ih (by omega)).sub ⟨rfl, rfl, rfl, rfl, (by rw [hst, bz_f (show ¬ (((aG A).take k).all (sgOk (aD A) i t s) && sgOk (aD A) i t s q) = true by rw [c_70, Bool.false_and]; decide)]; rfl), by rw [nI_succ]; rfl, trivial⟩
        · rw [bz_ne0] at c_70
          refine r_aload_n C dX8_isSo_73 rfl ?_
          refine r_getR C dX8_isSo_74 flX8_60 (rfl) rfl ?_
          refine r_iconst (3) C dX8_isSo_77 rfl ?_
          refine r_iload C dX8_isSo_78 rfl ?_
          refine r_imul C dX8_isSo_80 ?_
          refine r_iald (3 * k) C dX8_isSo_81 (rfl) (nI_lit3 k) (by omega) (by decide) ?_
          refine r_iload_n C dX8_isSo_82 rfl ?_
          refine r_icmp_ne 111 C dX8_isSo_83 (by decide) (fun c_83 => ?_) (fun c_83 => ?_)
          · rw [d1] at c_83
            rw [cEq (x := nI q.1) (c := nI i) (i := q.1) (n := i) (rfl) (rfl) (by omega) (by omega)] at c_83
            refine r_iconst (1) C dX8_isSo_111 rfl ?_
            refine r_goto 116 C dX8_isSo_112 (by decide) ?_
            refine r_istore C dX8_isSo_116 (by decide) rfl ?_
            refine r_inc (1) C dX8_isSo_118 rfl (by decide) rfl rfl ?_
            refine r_goto 6 C dX8_isSo_121 (by decide) ?_
            exact (ih (by omega)).sub ⟨rfl, rfl, rfl, rfl, (by rw [hst, bz_t (show (((aG A).take k).all (sgOk (aD A) i t s) && sgOk (aD A) i t s q) = true by rw [c_70, show sgOk (aD A) i t s q = true by unfold sgOk; rw [show (q.1 == i) = false from beq_eq_false_iff_ne.mpr c_83]; rfl]; rfl)]; rfl), by rw [nI_succ]; rfl, trivial⟩
          · rw [d1] at c_83
            rw [cEq (x := nI q.1) (c := nI i) (i := q.1) (n := i) (rfl) (rfl) (by omega) (by omega)] at c_83
            refine r_iload C dX8_isSo_86 rfl ?_
            refine r_iload_n C dX8_isSo_88 rfl ?_
            refine r_icmp_lt 96 C dX8_isSo_89 (by decide) (fun c_89 => ?_) (fun c_89 => ?_)
            · rw [cLt (x := nI (sgV (aD A) t q.2.1)) (c := nI s) (i := sgV (aD A) t q.2.1) (n := s) (rfl) (rfl) (by omega) (by omega)] at c_89
              refine r_iconst (0) C dX8_isSo_96 rfl ?_
              refine r_aload_n C dX8_isSo_97 rfl ?_
              refine r_getR C dX8_isSo_98 flX8_60 (rfl) rfl ?_
              refine r_iconst (3) C dX8_isSo_101 rfl ?_
              refine r_iload C dX8_isSo_102 rfl ?_
              refine r_imul C dX8_isSo_104 ?_
              refine r_iconst (2) C dX8_isSo_105 rfl ?_
              refine r_iadd C dX8_isSo_106 ?_
              refine r_iald (3 * k + 2) C dX8_isSo_107 (rfl) (ix32 k) (by omega) (by decide) ?_
              refine r_icmp_ne 115 C dX8_isSo_108 (by decide) (fun c_108 => ?_) (fun c_108 => ?_)
              · rw [d3] at c_108
                refine r_iconst (0) C dX8_isSo_115 rfl ?_
                refine r_istore C dX8_isSo_116 (by decide) rfl ?_
                refine r_inc (1) C dX8_isSo_118 rfl (by decide) rfl rfl ?_
                refine r_goto 6 C dX8_isSo_121 (by decide) ?_
                have hso : sgOk (aD A) i t s q = false := by
                  unfold sgOk
                  rw [show (q.1 == i) = true from beq_iff_eq.mpr c_83, decide_eq_false (show ¬ s ≤ sgV (aD A) t q.2.1 by omega)]
                  cases hb : q.2.2
                  · rw [hb] at c_108; first | rfl | exact absurd rfl c_108 | exact absurd c_108 (by decide)
                  · rw [hb] at c_108; first | rfl | exact absurd rfl c_108 | exact absurd c_108 (by decide)
                exact (ih (by omega)).sub ⟨rfl, rfl, rfl, rfl, (by rw [hst, bz_f (show ¬ (((aG A).take k).all (sgOk (aD A) i t s) && sgOk (aD A) i t s q) = true by rw [hso, Bool.and_false]; decide)]; rfl), by rw [nI_succ]; rfl, trivial⟩
              · rw [d3] at c_108
                refine r_iconst (1) C dX8_isSo_111 rfl ?_
                refine r_goto 116 C dX8_isSo_112 (by decide) ?_
                refine r_istore C dX8_isSo_116 (by decide) rfl ?_
                refine r_inc (1) C dX8_isSo_118 rfl (by decide) rfl rfl ?_
                refine r_goto 6 C dX8_isSo_121 (by decide) ?_
                have hso : sgOk (aD A) i t s q = true := by
                  unfold sgOk
                  rw [show (q.1 == i) = true from beq_iff_eq.mpr c_83, decide_eq_false (show ¬ s ≤ sgV (aD A) t q.2.1 by omega)]
                  cases hb : q.2.2
                  · rw [hb] at c_108; first | rfl | exact absurd rfl c_108 | exact absurd c_108 (by decide)
                  · rw [hb] at c_108; first | rfl | exact absurd rfl c_108 | exact absurd c_108 (by decide)
                exact (ih (by omega)).sub ⟨rfl, rfl, rfl, rfl, (by rw [hst, bz_t (show (((aG A).take k).all (sgOk (aD A) i t s) && sgOk (aD A) i t s q) = true by rw [c_70, hso]; rfl)]; rfl), by rw [nI_succ]; rfl, trivial⟩
            · rw [cLt (x := nI (sgV (aD A) t q.2.1)) (c := nI s) (i := sgV (aD A) t q.2.1) (n := s) (rfl) (rfl) (by omega) (by omega)] at c_89
              refine r_iconst (1) C dX8_isSo_92 rfl ?_
              refine r_goto 97 C dX8_isSo_93 (by decide) ?_
              refine r_aload_n C dX8_isSo_97 rfl ?_
              refine r_getR C dX8_isSo_98 flX8_60 (rfl) rfl ?_
              refine r_iconst (3) C dX8_isSo_101 rfl ?_
              refine r_iload C dX8_isSo_102 rfl ?_
              refine r_imul C dX8_isSo_104 ?_
              refine r_iconst (2) C dX8_isSo_105 rfl ?_
              refine r_iadd C dX8_isSo_106 ?_
              refine r_iald (3 * k + 2) C dX8_isSo_107 (rfl) (ix32 k) (by omega) (by decide) ?_
              refine r_icmp_ne 115 C dX8_isSo_108 (by decide) (fun c_108 => ?_) (fun c_108 => ?_)
              · rw [d3] at c_108
                refine r_iconst (0) C dX8_isSo_115 rfl ?_
                refine r_istore C dX8_isSo_116 (by decide) rfl ?_
                refine r_inc (1) C dX8_isSo_118 rfl (by decide) rfl rfl ?_
                refine r_goto 6 C dX8_isSo_121 (by decide) ?_
                have hso : sgOk (aD A) i t s q = false := by
                  unfold sgOk
                  rw [show (q.1 == i) = true from beq_iff_eq.mpr c_83, decide_eq_true (show s ≤ sgV (aD A) t q.2.1 by omega)]
                  cases hb : q.2.2
                  · rw [hb] at c_108; first | rfl | exact absurd rfl c_108 | exact absurd c_108 (by decide)
                  · rw [hb] at c_108; first | rfl | exact absurd rfl c_108 | exact absurd c_108 (by decide)
                exact (ih (by omega)).sub ⟨rfl, rfl, rfl, rfl, (by rw [hst, bz_f (show ¬ (((aG A).take k).all (sgOk (aD A) i t s) && sgOk (aD A) i t s q) = true by rw [hso, Bool.and_false]; decide)]; rfl), by rw [nI_succ]; rfl, trivial⟩
              · rw [d3] at c_108
                refine r_iconst (1) C dX8_isSo_111 rfl ?_
                refine r_goto 116 C dX8_isSo_112 (by decide) ?_
                refine r_istore C dX8_isSo_116 (by decide) rfl ?_
                refine r_inc (1) C dX8_isSo_118 rfl (by decide) rfl rfl ?_
                refine r_goto 6 C dX8_isSo_121 (by decide) ?_
                have hso : sgOk (aD A) i t s q = true := by
                  unfold sgOk
                  rw [show (q.1 == i) = true from beq_iff_eq.mpr c_83, decide_eq_true (show s ≤ sgV (aD A) t q.2.1 by omega)]
                  cases hb : q.2.2
                  · rw [hb] at c_108; first | rfl | exact absurd rfl c_108 | exact absurd c_108 (by decide)
                  · rw [hb] at c_108; first | rfl | exact absurd rfl c_108 | exact absurd c_108 (by decide)
                exact (ih (by omega)).sub ⟨rfl, rfl, rfl, rfl, (by rw [hst, bz_t (show (((aG A).take k).all (sgOk (aD A) i t s) && sgOk (aD A) i t s q) = true by rw [c_70, hso]; rfl)]; rfl), by rw [nI_succ]; rfl, trivial⟩
  refine r_iconst (1) C dX8_isSo_0 rfl ?_
  refine r_istore C dX8_isSo_1 (by decide) rfl ?_
  refine r_iconst (0) C dX8_isSo_3 rfl ?_
  refine r_istore C dX8_isSo_4 (by decide) rfl ?_
  exact (L 0 (by omega)).sub ⟨rfl, rfl, rfl, rfl, rfl, rfl, trivial⟩
set_option maxHeartbeats 4000000 in
theorem s8_tastes {A : At} {x : Int32} (hA : MA h A) : Sp l E SHP 2 M8_tastes [.ref (E.1 + 49), .int x] h (QM h (vTastes A x, A)) := by
  refine Sp.of (by decide) (Nat.le_of_ble_eq_true rfl) (fun X C F => ?_)
  have C : Ok X E RX8 cX8_tastes 4 := C
  have F : Fn X l E SHP 2 (some FieldType.int) (QM h (vTastes A x, A)) := F
  show G X E SHP (0, 0) 0 [(0, .ref (E.1 + 49)), (1, .int x)] [] h
  obtain ⟨⟨a1, a2, a3, a4, a5, a6, a7, a8, a9, a10, a11, a12⟩, ⟨b1, b2⟩, b3, b4, b5, b6, b7, ⟨b8, b9⟩, b10, ⟨b11, b12⟩, b13, b14⟩ := id hA
  obtain ⟨okd, e16, e17, e540, e541, eL, eJ⟩ := id b5
  obtain ⟨o1, o2, o3, o4, o5, o6⟩ := id okd
  have p6 : 2 ^ dL (aD A) ≤ 64 := Nat.pow_le_pow_right (n := 2) (by decide) o1
  obtain ⟨k0, k1, k2, k3, k4, k5⟩ := id a5
  have L : ∀ i, i < dL (aD A) → lordP A x → x = nI i → ∀ k, k ≤ 16 → G X E SHP (0, 0) 15 [(0, .ref (E.1 + 49)), (1, .int (nI i)), (2, .int (nI (lset (fun t => fitA A i t (dS (aD A) i)) k))), (3, .int (nI k))] [] h := by
    intro i hi hlo hxi
    have hS := o5 i hi
    refine loopN 16 _ (fun k hk ih => ?_)
    refine r_iload_n C dX8_tastes_15 rfl ?_
    refine r_bipush (16) C dX8_tastes_16 rfl ?_
    refine r_icmp_ge 56 C dX8_tastes_18 (by decide) (fun c_18 => ?_) (fun c_18 => ?_)
    · rw [cLe (x := 16) (c := nI k) (i := 16) (n := k) (rfl) (rfl) (by omega) (by omega)] at c_18
      refine r_iload_n C dX8_tastes_56 rfl ?_
      refine r_iret C F dX8_tastes_57 ?_
      unfold vTastes
      rw [if_neg (not_not_intro hlo), hxi, cl_nI (by omega), show 16 = k by omega]
      exact QM_same hA
    · rw [cLe (x := 16) (c := nI k) (i := 16) (n := k) (rfl) (rfl) (by omega) (by omega)] at c_18
      refine r_iload_n C dX8_tastes_21 rfl ?_
      refine r_aload_n C dX8_tastes_22 rfl ?_
      refine r_iload_n C dX8_tastes_23 rfl ?_
      refine r_iload_n C dX8_tastes_24 rfl ?_
      refine r_aload_n C dX8_tastes_25 rfl ?_
      refine r_getR C dX8_tastes_26 flX8_29 (rfl) rfl ?_
      refine r_iconst (3) C dX8_tastes_29 rfl ?_
      refine r_iload_n C dX8_tastes_30 rfl ?_
      refine r_imul C dX8_tastes_31 ?_
      refine r_iconst (1) C dX8_tastes_32 rfl ?_
      refine r_iadd C dX8_tastes_33 ?_
      refine r_iald (3 * i + 1) C dX8_tastes_34 (rfl) (ix31 i) (by omega) (by decide) ?_
      rw [(eL i hi).2.1]
      refine r_cVi C F dX8_tastes_35 (s8_isSo hA (by omega) (by omega) (by omega)) tw_1008 m8_isSo (rfl) rfl (by decide) rfl (Nat.le_of_ble_eq_true rfl) ?_
      refine r_if_eq 47 C dX8_tastes_38 (by decide) (fun c_38 => ?_) (fun c_38 => ?_)
      · rw [bz_eq0, Bool.not_eq_true] at c_38
        refine r_iconst (0) C dX8_tastes_47 rfl ?_
        refine r_ior C dX8_tastes_48 ?_
        refine r_istore_n C dX8_tastes_49 (by decide) rfl ?_
        refine r_inc (1) C dX8_tastes_50 rfl (by decide) rfl rfl ?_
        refine r_goto 15 C dX8_tastes_53 (by decide) ?_
        exact (ih (by omega)).sub ⟨rfl, rfl, (by rw [show lset (fun t => fitA A i t (dS (aD A) i)) (k + 1) = lset (fun t => fitA A i t (dS (aD A) i)) k ||| 0 by simp [lset, c_38], ← nx_or]; rfl), by rw [nI_succ]; rfl, trivial⟩
      · rw [bz_ne0] at c_38
        refine r_iconst (1) C dX8_tastes_41 rfl ?_
        refine r_iload_n C dX8_tastes_42 rfl ?_
        refine r_ishl C dX8_tastes_43 ?_
        refine r_goto 48 C dX8_tastes_44 (by decide) ?_
        refine r_ior C dX8_tastes_48 ?_
        refine r_istore_n C dX8_tastes_49 (by decide) rfl ?_
        refine r_inc (1) C dX8_tastes_50 rfl (by decide) rfl rfl ?_
        refine r_goto 15 C dX8_tastes_53 (by decide) ?_
        exact (ih (by omega)).sub ⟨rfl, rfl, (by rw [show lset (fun t => fitA A i t (dS (aD A) i)) (k + 1) = lset (fun t => fitA A i t (dS (aD A) i)) k ||| 2 ^ k by simp [lset, c_38], ← nx_or, ← shl1_nI (by omega)]; rfl), by rw [nI_succ]; rfl, trivial⟩
  refine r_aload_n C dX8_tastes_0 rfl ?_
  refine r_iload_n C dX8_tastes_1 rfl ?_
  refine r_cVi C F dX8_tastes_2 (s8_isLord) tw_850 m8_isLord (rfl) rfl (by decide) rfl (Nat.le_of_ble_eq_true rfl) ?_
  refine r_if_ne 11 C dX8_tastes_5 (by decide) (fun c_5 => ?_) (fun c_5 => ?_)
  · rw [bz_ne0, e16] at c_5
    refine r_iconst (0) C dX8_tastes_11 rfl ?_
    refine r_istore_n C dX8_tastes_12 (by decide) rfl ?_
    refine r_iconst (0) C dX8_tastes_13 rfl ?_
    refine r_istore_n C dX8_tastes_14 (by decide) rfl ?_
    obtain ⟨i, hi, hxi⟩ := (inP_lord rfl o1).mp c_5
    exact (L i hi c_5 hxi 0 (by omega)).sub ⟨rfl, by rw [← hxi]; rfl, rfl, rfl, trivial⟩
  · rw [bz_eq0, e16] at c_5
    refine r_ldc C dX8_tastes_8 tw_854 ?_
    exact r_iret C F dX8_tastes_10 (by unfold vTastes; rw [if_pos c_5]; exact QM_same hA)
set_option maxHeartbeats 4000000 in
theorem s8_sads {A : At} {x w : Int32} (hA : MA h A) : Sp l E SHP 2 M8_sads [.ref (E.1 + 49), .int x, .int w] h (QM h (vSads A x w, A)) := by
  refine Sp.of (by decide) (Nat.le_of_ble_eq_true rfl) (fun X C F => ?_)
  have C : Ok X E RX8 cX8_sads 7 := C
  have F : Fn X l E SHP 2 (some FieldType.int) (QM h (vSads A x w, A)) := F
  show G X E SHP (0, 0) 0 [(0, .ref (E.1 + 49)), (1, .int x), (2, .int w)] [] h
  obtain ⟨⟨a1, a2, a3, a4, a5, a6, a7, a8, a9, a10, a11, a12⟩, ⟨b1, b2⟩, b3, b4, b5, b6, b7, ⟨b8, b9⟩, b10, ⟨b11, b12⟩, b13, b14⟩ := id hA
  obtain ⟨okd, e16, e17, e540, e541, eL, eJ⟩ := id b5
  obtain ⟨o1, o2, o3, o4, o5, o6⟩ := id okd
  have p6 : 2 ^ dL (aD A) ≤ 64 := Nat.pow_le_pow_right (n := 2) (by decide) o1
  obtain ⟨k0, k1, k2, k3, k4, k5⟩ := id a5
  have L : ∀ i, i < dL (aD A) → lordP A x → x = nI i → inP w 0 1 → ∀ k, k ≤ 20 → G X E SHP (0, 0) 31 [(0, .ref (E.1 + 49)), (1, .int (nI i)), (2, .int w), (3, .int (lsK (fun s => fitA A i (dT (aD A) i) s) k)), (4, .int (gsK (fun s => fitA A i (dT (aD A) i) s) k)), (5, .int (nI (k + 1)))] [] h := by
    intro i hi hlo hxi hw
    have hS := o5 i hi
    refine loopN 20 _ (fun k hk ih => ?_)
    refine r_iload C dX8_sads_31 rfl ?_
    refine r_bipush (20) C dX8_sads_33 rfl ?_
    refine r_icmp_gt 93 C dX8_sads_35 (by decide) (fun c_35 => ?_) (fun c_35 => ?_)
    · rw [cLt (x := 20) (c := nI (k + 1)) (i := 20) (n := k + 1) (rfl) (rfl) (by omega) (by omega)] at c_35
      refine r_iload_n C dX8_sads_93 rfl ?_
      refine r_if_ne 101 C dX8_sads_94 (by decide) (fun c_94 => ?_) (fun c_94 => ?_)
      · refine r_iload C dX8_sads_101 rfl ?_
        refine r_iret C F dX8_sads_103 ?_
        unfold vSads
        rw [if_neg (not_not_intro hlo), if_neg (not_not_intro hw), if_neg c_94, hxi, cl_nI (by omega), show 20 = k by omega]
        exact QM_same hA
      · refine r_iload_n C dX8_sads_97 rfl ?_
        refine r_goto 103 C dX8_sads_98 (by decide) ?_
        refine r_iret C F dX8_sads_103 ?_
        unfold vSads
        rw [if_neg (not_not_intro hlo), if_neg (not_not_intro hw), if_pos c_94, hxi, cl_nI (by omega), show 20 = k by omega]
        exact QM_same hA
    · rw [cLt (x := 20) (c := nI (k + 1)) (i := 20) (n := k + 1) (rfl) (rfl) (by omega) (by omega)] at c_35
      refine r_aload_n C dX8_sads_38 rfl ?_
      refine r_iload_n C dX8_sads_39 rfl ?_
      refine r_aload_n C dX8_sads_40 rfl ?_
      refine r_getR C dX8_sads_41 flX8_29 (rfl) rfl ?_
      refine r_iconst (3) C dX8_sads_44 rfl ?_
      refine r_iload_n C dX8_sads_45 rfl ?_
      refine r_imul C dX8_sads_46 ?_
      refine r_iconst (2) C dX8_sads_47 rfl ?_
      refine r_iadd C dX8_sads_48 ?_
      refine r_iald (3 * i + 2) C dX8_sads_49 (rfl) (ix32 i) (by omega) (by decide) ?_
      rw [(eL i hi).2.2]
      refine r_iload C dX8_sads_50 rfl ?_
      refine r_cVi C F dX8_sads_52 (s8_isSo hA (by omega) (by omega) (by omega)) tw_1008 m8_isSo (rfl) rfl (by decide) rfl (Nat.le_of_ble_eq_true rfl) ?_
      refine r_istore C dX8_sads_55 (by decide) rfl ?_
      refine r_iload C dX8_sads_57 rfl ?_
      refine r_if_eq 71 C dX8_sads_59 (by decide) (fun c_59 => ?_) (fun c_59 => ?_)
      · have c_59b := c_59
        rw [bz_eq0, Bool.not_eq_true] at c_59
        refine r_iload_n C dX8_sads_71 rfl ?_
        refine r_istore_n C dX8_sads_72 (by decide) rfl ?_
        refine r_iload C dX8_sads_73 rfl ?_
        refine r_if_eq 83 C dX8_sads_75 (by decide) (fun c_75 => ?_) (fun c_75 => ?_)
        · refine r_iload C dX8_sads_83 rfl ?_
          refine r_istore C dX8_sads_85 (by decide) rfl ?_
          refine r_inc (1) C dX8_sads_87 rfl (by decide) rfl rfl ?_
          refine r_goto 31 C dX8_sads_90 (by decide) ?_
          exact (ih (by omega)).sub ⟨rfl, rfl, rfl, (by rw [show lsK (fun s => fitA A i (dT (aD A) i) s) (k + 1) = lsK (fun s => fitA A i (dT (aD A) i) s) k by simp [lsK, c_59]]; rfl), (by rw [show gsK (fun s => fitA A i (dT (aD A) i) s) (k + 1) = gsK (fun s => fitA A i (dT (aD A) i) s) k by simp [gsK, c_59]]; rfl), by rw [nI_succ (k + 1)]; rfl, trivial⟩
        · exact absurd c_59b c_75
      · have c_59b := c_59
        rw [bz_ne0] at c_59
        refine r_iload_n C dX8_sads_62 rfl ?_
        refine r_if_ge 71 C dX8_sads_63 (by decide) (fun c_63 => ?_) (fun c_63 => ?_)
        · refine r_iload_n C dX8_sads_71 rfl ?_
          refine r_istore_n C dX8_sads_72 (by decide) rfl ?_
          refine r_iload C dX8_sads_73 rfl ?_
          refine r_if_eq 83 C dX8_sads_75 (by decide) (fun c_75 => ?_) (fun c_75 => ?_)
          · exact absurd c_75 c_59b
          · refine r_iload C dX8_sads_78 rfl ?_
            refine r_goto 85 C dX8_sads_80 (by decide) ?_
            refine r_istore C dX8_sads_85 (by decide) rfl ?_
            refine r_inc (1) C dX8_sads_87 rfl (by decide) rfl rfl ?_
            refine r_goto 31 C dX8_sads_90 (by decide) ?_
            exact (ih (by omega)).sub ⟨rfl, rfl, rfl, (by rw [show lsK (fun s => fitA A i (dT (aD A) i) s) (k + 1) = lsK (fun s => fitA A i (dT (aD A) i) s) k from if_neg (fun q => Int32.not_lt.mpr c_63 q.2)]; rfl), (by rw [show gsK (fun s => fitA A i (dT (aD A) i) s) (k + 1) = nI (k + 1) from if_pos c_59]; rfl), by rw [nI_succ (k + 1)]; rfl, trivial⟩
        · refine r_iload C dX8_sads_66 rfl ?_
          refine r_goto 72 C dX8_sads_68 (by decide) ?_
          refine r_istore_n C dX8_sads_72 (by decide) rfl ?_
          refine r_iload C dX8_sads_73 rfl ?_
          refine r_if_eq 83 C dX8_sads_75 (by decide) (fun c_75 => ?_) (fun c_75 => ?_)
          · exact absurd c_75 c_59b
          · refine r_iload C dX8_sads_78 rfl ?_
            refine r_goto 85 C dX8_sads_80 (by decide) ?_
            refine r_istore C dX8_sads_85 (by decide) rfl ?_
            refine r_inc (1) C dX8_sads_87 rfl (by decide) rfl rfl ?_
            refine r_goto 31 C dX8_sads_90 (by decide) ?_
            exact (ih (by omega)).sub ⟨rfl, rfl, rfl, (by rw [show lsK (fun s => fitA A i (dT (aD A) i) s) (k + 1) = nI (k + 1) from if_pos ⟨c_59, Int32.not_le.mp c_63⟩]; rfl), (by rw [show gsK (fun s => fitA A i (dT (aD A) i) s) (k + 1) = nI (k + 1) from if_pos c_59]; rfl), by rw [nI_succ (k + 1)]; rfl, trivial⟩
  refine r_aload_n C dX8_sads_0 rfl ?_
  refine r_iload_n C dX8_sads_1 rfl ?_
  refine r_cVi C F dX8_sads_2 (s8_isLord) tw_850 m8_isLord (rfl) rfl (by decide) rfl (Nat.le_of_ble_eq_true rfl) ?_
  refine r_if_ne 11 C dX8_sads_5 (by decide) (fun c_5 => ?_) (fun c_5 => ?_)
  · rw [bz_ne0, e16] at c_5
    refine r_iload_n C dX8_sads_11 rfl ?_
    refine r_iconst (0) C dX8_sads_12 rfl ?_
    refine r_iconst (1) C dX8_sads_13 rfl ?_
    refine r_cSi C F dX8_sads_14 (s8_in) tw_790 m8_in (by decide) rfl (Nat.le_of_ble_eq_true rfl) ?_
    refine r_if_ne 23 C dX8_sads_17 (by decide) (fun c_17 => ?_) (fun c_17 => ?_)
    · rw [bz_ne0] at c_17
      refine r_iconst (-1) C dX8_sads_23 rfl ?_
      refine r_istore_n C dX8_sads_24 (by decide) rfl ?_
      refine r_iconst (-1) C dX8_sads_25 rfl ?_
      refine r_istore C dX8_sads_26 (by decide) rfl ?_
      refine r_iconst (1) C dX8_sads_28 rfl ?_
      refine r_istore C dX8_sads_29 (by decide) rfl ?_
      obtain ⟨i, hi, hxi⟩ := (inP_lord rfl o1).mp c_5
      exact (L i hi c_5 hxi c_17 0 (by omega)).sub ⟨rfl, by rw [← hxi]; rfl, rfl, rfl, rfl, rfl, trivial⟩
    · rw [bz_eq0] at c_17
      refine r_ldc C dX8_sads_20 tw_793 ?_
      exact r_iret C F dX8_sads_22 (by unfold vSads; rw [if_neg (not_not_intro c_5), if_pos c_17]; exact QM_same hA)
  · rw [bz_eq0, e16] at c_5
    refine r_ldc C dX8_sads_8 tw_854 ?_
    exact r_iret C F dX8_sads_10 (by unfold vSads; rw [if_pos c_5]; exact QM_same hA)
def judA (T m : Nat) : List (Nat × Nat) → Nat → Int32
  | [], _ => -1
  | q :: L, k => if q.1 = T ∧ ¬ q.2 = m then nI k else judA T m L (k + 1)
def vJudge (A : At) : Int32 := judA (mT (aU A)) (mI (aU A)) (aE A) 0
theorem jud_A {A : At} (hA : MA h A) : ∀ (L : List (Nat × Nat)) (k : Nat), (aE A).drop k = L → judF h L.length k = judA (mT (aU A)) (mI (aU A)) L k
  | [], k, _ => rfl
  | q :: L, k, e => by
    obtain ⟨⟨a1, a2, a3, a4, a5, a6, a7, a8, a9, a10, a11, a12⟩, ⟨b1, b2⟩, b3, b4, b5, b6, b7, ⟨b8, b9⟩, b10, ⟨b11, b12⟩, b13, b14⟩ := id hA
    have hq : (aE A)[k]? = some q := by
      have : ((aE A).drop k)[0]? = some q := by rw [e]; rfl
      rw [List.getElem?_drop] at this
      exact this
    have hd : (aE A).drop (k + 1) = L := by
      rw [← List.drop_drop (i := 1) (j := k), e]
      rfl
    obtain ⟨d1, d2⟩ := b14 k q hq
    obtain ⟨c1, c2⟩ := a12 q (List.mem_of_getElem? hq)
    have p6 : 2 ^ dL (aD A) ≤ 64 := Nat.pow_le_pow_right (n := 2) (by decide) a2.1
    have hI : mI (aU A) < 64 := Nat.lt_of_lt_of_le a5.1 p6
    have hT := a5.2.2.1
    show (if h 66 (2 * k) = h 57 9 ∧ ¬ h 66 (2 * k + 1) = h 57 0 then nI k else judF h L.length (k + 1)) = if q.1 = mT (aU A) ∧ ¬ q.2 = mI (aU A) then nI k else judA (mT (aU A)) (mI (aU A)) L (k + 1)
    rw [jud_A hA L (k + 1) hd, d1, d2, b7.1, b7.2.2.2.1]
    by_cases c : q.1 = mT (aU A) ∧ ¬ q.2 = mI (aU A)
    · rw [if_pos c, if_pos ⟨congrArg nI c.1, fun z => c.2 ((nI_eq (by omega) (by omega)).mp z)⟩]
    · rw [if_neg c, if_neg (fun z => c ⟨(nI_eq (by omega) (by omega)).mp z.1, fun y => z.2 (congrArg nI y)⟩)]
theorem s8_judgeA {A : At} (hA : MA h A) : Sp l E SHP 0 M8_judge [.ref (E.1 + 49)] h (QM h (vJudge A, A)) := by
  obtain ⟨⟨a1, a2, a3, a4, a5, a6, a7, a8, a9, a10, a11, a12⟩, ⟨b1, b2⟩, b3, b4, b5, b6, b7, ⟨b8, b9⟩, b10, ⟨b11, b12⟩, b13, b14⟩ := id hA
  refine (s8_judge b13 a11).weaken (fun w h' q => ?_)
  obtain ⟨rfl, rfl⟩ := q
  rw [jud_A hA (aE A) 0 rfl]
  exact QM_same hA
theorem s8_faultA {A : At} (hA : MA h A) : Sp l E SHP 0 M8_fault [.ref (E.1 + 49)] h (QM h (aF A, A)) := by
  refine s8_fault.weaken (fun w h' q => ?_)
  obtain ⟨rfl, rfl⟩ := q
  rw [hA.2.2.1]
  exact QM_same hA
def kingF (m : Nat) : Int32 := aloF (nI m) 6
def toldN (A : At) : Nat → Int32
  | 0 => b01 (aH A) | 1 => nI (dU (aD A)) | 2 => nI (dN (aD A)) | 3 => nI (dL (aD A)) | 4 => nI (dJ (aD A)) | 5 => nI (aX A).length | 6 => nI (mN (aU A)) | 7 => nI (mT (aU A)) | 8 => nI (mI (aU A)) | 9 => kingF (mI (aU A)) | 10 => nI (mL (aU A)) | 11 => nI (aG A).length | 12 => nI (aE A).length | _ => nI (aB A).length
def vTold (A : At) (w : Int32) : Int32 := if w < 0 ∨ nI 14 ≤ w then -1000000002 else toldN A (cl w)
theorem s8_toldA {A : At} {w : Int32} (hA : MA h A) : Sp l E SHP 1 M8_told [.ref (E.1 + 49), .int w] h (QM h (vTold A w, A)) := by
  obtain ⟨⟨a1, a2, a3, a4, a5, a6, a7, a8, a9, a10, a11, a12⟩, ⟨b1, b2⟩, b3, b4, b5, b6, b7, ⟨b8, b9⟩, b10, ⟨b11, b12⟩, b13, b14⟩ := id hA
  obtain ⟨okd, e16, e17, e540, e541, eL, eJ⟩ := id b5
  obtain ⟨q0, q7, q8, q9, qo, qt⟩ := id b7
  have e : toldV h w = vTold A w := by
    unfold toldV vTold
    by_cases c : w < 0 ∨ nI 14 ≤ w
    · rw [if_pos c, if_pos c]
    · rw [if_neg c, if_neg c]
      rcases pk_ix w (n := 14) (by decide) with q | q | ⟨j, hj, rfl⟩
      · exact absurd (Or.inl q) c
      · exact absurd (Or.inr q) c
      · rw [cl_nI (by omega)]
        match j, hj with
        | 0, _ =>
          show bz (¬ h 49 15 = 0) = b01 (aH A)
          rw [b4]
          cases aH A <;> rfl
        | 1, _ => exact e540
        | 2, _ => exact e541
        | 3, _ => exact e16
        | 4, _ => exact e17
        | 5, _ => exact b1
        | 6, _ => exact q8
        | 7, _ => exact q9
        | 8, _ => exact q0
        | 9, _ =>
          show aloF (h 57 0) 6 = _
          rw [q0]; rfl
        | 10, _ => exact q7
        | 11, _ => exact b11
        | 12, _ => exact b13
        | 13, _ => exact b8
  refine s8_told.weaken (fun v h' q => ?_)
  obtain ⟨rfl, rfl⟩ := q
  rw [e]
  exact QM_same hA
def lordN (A : At) (i : Nat) : Nat → Int32
  | 0 => nI (dB (aD A) i) | 1 => nI (dS (aD A) i) | 2 => nI (dT (aD A) i) | 3 => nI (hdF (aD A) (mN (aU A)) i) | _ => mO (aU A) i
def vLord (A : At) (x w : Int32) : Int32 := if ¬ lordP A x then -1000000001 else if ¬ inP w 0 4 then -1000000002 else lordN A (cl x) (cl w)
theorem s8_lordA {A : At} {x w : Int32} (hA : MA h A) : Sp l E SHP 2 M8_lord [.ref (E.1 + 49), .int x, .int w] h (QM h (vLord A x w, A)) := by
  obtain ⟨⟨a1, a2, a3, a4, a5, a6, a7, a8, a9, a10, a11, a12⟩, ⟨b1, b2⟩, b3, b4, b5, b6, b7, b8⟩ := id hA
  obtain ⟨okd, e16, e17, e540, e541, eL, eJ⟩ := id b5
  obtain ⟨q0, q7, q8, q9, qo, qt⟩ := id b7
  have e : lordV h (aD A) (mN (aU A)) x w = vLord A x w := by
    unfold lordV vLord
    rw [e16]
    by_cases c : ¬ lordP A x
    · rw [if_pos c, if_pos c]
    · rw [if_neg c, if_neg c]
      by_cases d : ¬ inP w 0 4
      · rw [if_pos d, if_pos d]
      · rw [if_neg d, if_neg d]
        obtain ⟨i, hi, rfl⟩ := (inP_lord rfl okd.1).mp (Decidable.not_not.mp c)
        obtain ⟨k, hk, rfl⟩ := inP_of (n := 4) rfl (by decide) (Decidable.not_not.mp d)
        have o1 := okd.1
        show _ = lordN A (nI i).toNatClampNeg (nI k).toNatClampNeg
        rw [show (nI i).toNatClampNeg = i from nI_clamp (by omega), show (nI k).toNatClampNeg = k from nI_clamp (by omega)]
        match k, hk with
        | 0, _ => rw [if_pos (by decide)]; exact (eL i hi).1
        | 1, _ => rw [if_pos (by decide)]; exact (eL i hi).2.1
        | 2, _ => rw [if_pos (by decide)]; exact (eL i hi).2.2
        | 3, _ => rw [if_neg (by decide), if_pos (by decide)]; rfl
        | 4, _ => rw [if_neg (by decide), if_neg (by decide)]; exact qo i (by omega)
  refine (s8_lord b5 q8 (by have := a5.2.2.2.1; have := a5.2.2.1; omega)).weaken (fun v h' q => ?_)
  obtain ⟨rfl, rfl⟩ := q
  rw [e]
  exact QM_same hA
def jokeN (A : At) (i : Nat) : Nat → Int32
  | 0 => nI (dK (aD A) i) | 1 => nI (dF (aD A) i) | 2 => nI (dF (aD A) i / 2 ^ mM (aU A) i) | _ => nI (mM (aU A) i)
def vJoke (A : At) (x w : Int32) : Int32 := if ¬ inP x 0 (nI (dJ (aD A)) - 1) then -1000000001 else if ¬ inP w 0 3 then -1000000002 else jokeN A (cl x) (cl w)
theorem s8_jokeA {A : At} {x w : Int32} (hA : MA h A) : Sp l E SHP 2 M8_joke [.ref (E.1 + 49), .int x, .int w] h (QM h (vJoke A x w, A)) := by
  obtain ⟨⟨a1, a2, a3, a4, a5, a6, a7, a8, a9, a10, a11, a12⟩, ⟨b1, b2⟩, b3, b4, b5, b6, b7, b8⟩ := id hA
  obtain ⟨okd, e16, e17, e540, e541, eL, eJ⟩ := id b5
  obtain ⟨q0, q7, q8, q9, qo, qt⟩ := id b7
  have e : jokeV h (aD A) (mM (aU A)) x w = vJoke A x w := by
    unfold jokeV vJoke
    rw [e17]
    by_cases c : ¬ inP x 0 (nI (dJ (aD A)) - 1)
    · rw [if_pos c, if_pos c]
    · rw [if_neg c, if_neg c]
      by_cases d : ¬ inP w 0 3
      · rw [if_pos d, if_pos d]
      · rw [if_neg d, if_neg d]
        obtain ⟨i, hi, rfl⟩ := (inP_lord rfl okd.2.1).mp (Decidable.not_not.mp c)
        obtain ⟨k, hk, rfl⟩ := inP_of (n := 3) rfl (by decide) (Decidable.not_not.mp d)
        have o2 := okd.2.1
        show _ = jokeN A (nI i).toNatClampNeg (nI k).toNatClampNeg
        rw [show (nI i).toNatClampNeg = i from nI_clamp (by omega), show (nI k).toNatClampNeg = k from nI_clamp (by omega)]
        match k, hk with
        | 0, _ => rw [if_pos (by decide)]; exact (eJ i hi).1
        | 1, _ => rw [if_pos (by decide)]; exact (eJ i hi).2
        | 2, _ => rw [if_neg (by decide), if_pos (by decide)]; rfl
        | 3, _ => rw [if_neg (by decide), if_neg (by decide)]; exact qt i (by omega)
  refine (s8_joke b5 (htm_A hA)).weaken (fun v h' q => ?_)
  obtain ⟨rfl, rfl⟩ := q
  rw [e]
  exact QM_same hA
