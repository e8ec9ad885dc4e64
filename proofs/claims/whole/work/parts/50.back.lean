variable {l : Launch} {E : Ev} {h : Hp}
def QB (h : Hp) (u : Mom) (B : List Mom) : Pst := fun v g => v = none ∧ CM g u ∧ CB g B ∧ ∀ a, a < 20 ∨ 24 < a → g a = h a
set_option maxHeartbeats 4000000 in
theorem s3_takeBack {B : List Mom} {u : Mom} {n : Nat} (hB : CB h B) (hn : 1 ≤ n) (hn2 : n ≤ B.length) (hu : B[B.length - n]? = some u) : Sp l E SHP 3 M3_takeBack [.ref (E.1 + 23), .ref (E.1 + 20), .int (nI n)] h (QB h u (B.take (B.length - n))) := by
  refine Sp.of (by decide) (Nat.le_of_ble_eq_true rfl) (fun X C F => ?_)
  have C : Ok X E RX3 cX3_takeBack 3 := C
  have F : Fn X l E SHP 3 none (QB h u (B.take (B.length - n))) := F
  show G X E SHP (0, 0) 0 [(0, .ref (E.1 + 23)), (1, .ref (E.1 + 20)), (2, .int (nI n))] [] h
  obtain ⟨hl, hk1, nx, hx, hnx, hr⟩ := hB
  refine r_iload_n C dX3_takeBack_0 rfl ?_
  refine r_iconst (1) C dX3_takeBack_1 rfl ?_
  refine r_icmp_lt 13 C dX3_takeBack_2 (by decide) (fun c_2 => ?_) (fun c_2 => ?_)
  · exact absurd ((cLt (x := nI n) (c := 1) (i := n) (n := 1) rfl rfl (by omega) (by omega)).mp c_2) (by omega)
  · refine r_iload_n C dX3_takeBack_5 rfl ?_
    refine r_aload_n C dX3_takeBack_6 rfl ?_
    refine r_getI C dX3_takeBack_7 flX3_17 (rfl) rfl ?_
    refine r_icmp_le 14 C dX3_takeBack_10 (by decide) (fun c_10 => ?_) (fun c_10 => ?_)
    · refine r_aload_n C dX3_takeBack_14 rfl ?_
      refine r_aload_n C dX3_takeBack_15 rfl ?_
      refine r_getI C dX3_takeBack_16 flX3_21 (rfl) rfl ?_
      refine r_bipush (30) C dX3_takeBack_19 rfl ?_
      refine r_iadd C dX3_takeBack_21 ?_
      refine r_iload_n C dX3_takeBack_22 rfl ?_
      refine r_isub C dX3_takeBack_23 ?_
      rw [hnx, show nI nx + 30 = nI (nx + 30) from nI_add nx 30, show nI (nx + 30) - nI n = nI (nx + 30 - n) from pk_sub (by omega)]
      refine r_bipush (30) C dX3_takeBack_24 rfl ?_
      refine r_irem C dX3_takeBack_26 (by decide) ?_
      rw [show nI (nx + 30 - n) - nI (nx + 30 - n) / 30 * 30 = nI ((nx + 30 - n) % 30) from pk_rem (by omega) (by decide) (by decide)]
      refine r_putI C dX3_takeBack_27 fwX3_21 (rfl) rfl ?_
      refine r_aload_n C dX3_takeBack_30 rfl ?_
      refine r_dup C dX3_takeBack_31 rfl ?_
      refine r_getI C dX3_takeBack_32 flX3_17 (rfl) rfl ?_
      refine r_iload_n C dX3_takeBack_35 rfl ?_
      refine r_isub C dX3_takeBack_36 ?_
      rw [show up h 23 2 (nI ((nx + 30 - n) % 30)) 23 1 - nI n = nI (B.length - n) by rw [up_off _ _ _ _ (by decide), hk1]; exact pk_sub hn2]
      refine r_putI C dX3_takeBack_37 fwX3_17 (rfl) rfl ?_
      have g2 : up (up h 23 2 (nI ((nx + 30 - n) % 30))) 23 1 (nI (B.length - n)) 23 2 = nI ((nx + 30 - n) % 30) := by rw [up_off _ _ _ _ (by decide), up_self]
      have g1 : up (up h 23 2 (nI ((nx + 30 - n) % 30))) 23 1 (nI (B.length - n)) 23 1 = nI (B.length - n) := up_self _ _ _ _
      have ga : ∀ a, a ≠ 23 → up (up h 23 2 (nI ((nx + 30 - n) % 30))) 23 1 (nI (B.length - n)) a = h a := fun a ha => by rw [up_row _ _ _ _ ha, up_row _ _ _ _ ha]
      generalize up (up h 23 2 (nI ((nx + 30 - n) % 30))) 23 1 (nI (B.length - n)) = g at g1 g2 ga ⊢
      refine r_aload_n C dX3_takeBack_40 rfl ?_
      refine r_aload_n C dX3_takeBack_41 rfl ?_
      refine r_getR C dX3_takeBack_42 flX3_11 (rfl) rfl ?_
      refine r_aload_n C dX3_takeBack_45 rfl ?_
      refine r_getI C dX3_takeBack_46 flX3_21 (rfl) rfl ?_
      refine r_bipush (16) C dX3_takeBack_49 rfl ?_
      refine r_imul C dX3_takeBack_51 ?_
      rw [g2, show nI ((nx + 30 - n) % 30) * 16 = nI (16 * ((nx + 30 - n) % 30)) by rw [Nat.mul_comm]; exact pk_mul _ 16]
      refine r_callV C F dX3_takeBack_52 (s2_copyFrom (u := u) (a := 24) (b := 16 * ((nx + 30 - n) % 30)) (N := 480) rfl (by decide) (by omega) (by decide) (by rw [ga 24 (by decide)]; have := hr _ _ hu; rw [show (nx + 30 - B.length + (B.length - n)) % 30 = (nx + 30 - n) % 30 by omega] at this; exact this)) tw_507 m2_copyFrom (rfl) rfl (by decide) rfl (Nat.le_of_ble_eq_true rfl) (fun v g3 q => ?_)
      obtain ⟨rfl, q1, q2⟩ := q
      show G X E SHP (0, 0) 55 _ [] g3
      refine r_vret C F dX3_takeBack_55 ⟨rfl, q1, ⟨?_, ?_, (nx + 30 - n) % 30, by omega, ?_, ?_⟩, fun a ha => ?_⟩
      · rw [List.length_take]; omega
      · rw [q2 23 (by omega), g1, List.length_take, show min (B.length - n) B.length = B.length - n by omega]
      · rw [q2 23 (by omega), g2]
      · intro r v q
        rw [List.length_take, show min (B.length - n) B.length = B.length - n by omega, q2 24 (by omega), ga 24 (by decide)]
        rw [List.getElem?_take] at q
        split at q
        · have := hr r v q
          rw [show ((nx + 30 - n) % 30 + 30 - (B.length - n) + r) % 30 = (nx + 30 - B.length + r) % 30 by omega]
          exact this
        · cases q
      · rw [q2 a (by omega)]; exact ga a (by omega)
    · exact absurd ((cLe (x := nI n) (c := h 23 1) (i := n) (n := B.length) rfl hk1 (by omega) (by omega)).mpr hn2) c_10
def isI (c : Nat) : Prop := SHP[c]? = some (.inl (1, [(c + 1) + 3, 0, 0])) ∧ SHP[c + 1]? = some (.inr (0, 16)) ∧ 22 < c
theorem isI_26 : isI 26 := ⟨rfl, rfl, by decide⟩
theorem isI_28 : isI 28 := ⟨rfl, rfl, by decide⟩
set_option maxHeartbeats 4000000 in
theorem s1_take {c : Nat} {u : Mom} {x : Int32} (hU : CM h u) (hc : isI c) : Sp l E SHP 3 M1_take [.ref (E.1 + c), .ref (E.1 + 20), .int x] h (fun v g => v = none ∧ MomC (g (c + 1)) u ∧ g c 1 = x ∧ g c 2 = 1 ∧ ∀ a, a ≠ c → a ≠ c + 1 → g a = h a) := by
  refine Sp.of (by decide) (Nat.le_of_ble_eq_true rfl) (fun X C F => ?_)
  have C : Ok X E RX1 cX1_take 3 := C
  have F : Fn X l E SHP 3 none (fun v g => v = none ∧ MomC (g (c + 1)) u ∧ g c 1 = x ∧ g c 2 = 1 ∧ ∀ a, a ≠ c → a ≠ c + 1 → g a = h a) := F
  show G X E SHP (0, 0) 0 [(0, .ref (E.1 + c)), (1, .ref (E.1 + 20)), (2, .int x)] [] h
  refine r_aload_n C dX1_take_0 rfl ?_
  refine r_aload_n C dX1_take_1 rfl ?_
  refine r_getR C dX1_take_2 flX1_9 (hc.1) rfl ?_
  refine r_iconst (0) C dX1_take_5 rfl ?_
  refine r_callV C F dX1_take_6 (s2_copyTo (a := c + 1) (b := 0) (N := 16) hU hc.2.1 (by decide) (by decide) (by have := hc.2.2; omega)) tw_658 m2_copyTo (rfl) rfl (by decide) rfl (Nat.le_of_ble_eq_true rfl) (fun v g q => ?_)
  obtain ⟨rfl, q1, q2, q3⟩ := q
  show G X E SHP (0, 0) 9 _ [] g
  refine r_aload_n C dX1_take_9 rfl ?_
  refine r_iload_n C dX1_take_10 rfl ?_
  refine r_putI C dX1_take_11 fwX1_19 (hc.1) rfl ?_
  refine r_aload_n C dX1_take_14 rfl ?_
  refine r_iconst (1) C dX1_take_15 rfl ?_
  refine r_putZ C dX1_take_16 fwX1_23 (hc.1) rfl (by first | exact Or.inl rfl | exact Or.inr rfl) ?_
  refine r_vret C F dX1_take_19 ⟨rfl, ?_, ?_, ?_, fun a h1 h2 => ?_⟩
  · rw [up_row _ _ _ _ (by omega), up_row _ _ _ _ (by omega)]
    exact MomC_congr q1 (fun k _ => by rw [Nat.zero_add])
  · rw [up_off _ _ _ _ (by decide), up_self]
  · rw [up_self]
  · rw [up_row _ _ _ _ h1, up_row _ _ _ _ h1]; exact q3 a h2
set_option maxHeartbeats 4000000 in
theorem s6_fits {o : Nat} {D : HDt} (hO : isH o) (hH : CHl h o D) {L : List (Nat × Nat × Bool)} {i t s : Nat} (hC : CG h L) (hl : L.length ≤ 6) (hb : ∀ q ∈ L, q.1 < dL D ∧ q.2.1 < dJ D) (hi : i < 6) (ht : t < 16) (hs : s ≤ 20) : Sp l E SHP 0 M6_fits [.ref (E.1 + 30), .ref (E.1 + o), .int (nI i), .int (nI t), .int (nI s)] h (PD (some (.int (bz (L.all (sgOk D i t s) = true)))) h) := by
  refine Sp.of (by decide) (Nat.le_of_ble_eq_true rfl) (fun X C F => ?_)
  have C : Ok X E RX6 cX6_fits 9 := C
  have F : Fn X l E SHP 0 (some FieldType.boolean) (PD (some (.int (bz (L.all (sgOk D i t s) = true)))) h) := F
  show G X E SHP (0, 0) 0 [(0, .ref (E.1 + 30)), (1, .ref (E.1 + o)), (2, .int (nI i)), (3, .int (nI t)), (4, .int (nI s))] [] h
  obtain ⟨okd, e1, e2, e3, e4, eL, eJ, eB, eF⟩ := id hH
  obtain ⟨o1, o2, o3, o4, o5, o6⟩ := id okd
  have Lp : ∀ k, k ≤ L.length → (L.take k).all (sgOk D i t s) = true → G X E SHP (0, 0) 3 [(0, .ref (E.1 + 30)), (1, .ref (E.1 + o)), (2, .int (nI i)), (3, .int (nI t)), (4, .int (nI s)), (5, .int (nI k))] [] h := by
    refine loopN L.length _ (fun k hk ih hall => ?_)
    refine r_iload C dX6_fits_3 rfl ?_
    refine r_aload_n C dX6_fits_5 rfl ?_
    refine r_getI C dX6_fits_6 flX6_28 (rfl) rfl ?_
    refine r_icmp_ge 112 C dX6_fits_9 (by decide) (fun c_9 => ?_) (fun c_9 => ?_)
    · rw [cLe (x := h 30 5) (c := nI k) (i := L.length) (n := k) (hC.1) (rfl) (by omega) (by omega)] at c_9
      refine r_iconst (1) C dX6_fits_112 rfl ?_
      exact r_zret C F dX6_fits_113 rfl (pd_i (bz_t (by rw [show k = L.length by omega, List.take_length] at hall; exact hall)).symm rfl)
    · rw [cLe (x := h 30 5) (c := nI k) (i := L.length) (n := k) (hC.1) (rfl) (by omega) (by omega)] at c_9
      obtain ⟨q, hq⟩ : ∃ q, L[k]? = some q := ⟨_, List.getElem?_eq_getElem (by omega)⟩
      obtain ⟨d1, d2, d3⟩ := hC.2 k q hq
      obtain ⟨hq1, hq2⟩ := hb q (List.mem_of_getElem? hq)
      have hst := all_take (p := sgOk D i t s) hq
      have hvl := sgV_le okd (t := t) hq2
      have hf30 := (o6 q.2.1 hq2).2.2
      have hk3 := (o6 q.2.1 hq2).1
      refine r_aload_n C dX6_fits_12 rfl ?_
      refine r_getR C dX6_fits_13 flX6_9 (rfl) rfl ?_
      refine r_iload C dX6_fits_16 rfl ?_
      refine r_iald (k) C dX6_fits_18 (rfl) (rfl) (by omega) (by first | decide | omega) ?_
      refine r_iload_n C dX6_fits_19 rfl ?_
      refine r_icmp_eq 26 C dX6_fits_20 (by decide) (fun c_20 => ?_) (fun c_20 => ?_)
      · rw [d1] at c_20
        rw [cEq (x := nI q.1) (c := nI i) (i := q.1) (n := i) (rfl) (rfl) (by omega) (by omega)] at c_20
        refine r_aload_n C dX6_fits_26 rfl ?_
        refine r_getR C dX6_fits_27 flX6_15 (rfl) rfl ?_
        refine r_iload C dX6_fits_30 rfl ?_
        refine r_iald (k) C dX6_fits_32 (rfl) (rfl) (by omega) (by first | decide | omega) ?_
        rw [d2]
        refine r_istore C dX6_fits_33 (by decide) rfl ?_
        refine r_iload_n C dX6_fits_35 rfl ?_
        refine r_aload_n C dX6_fits_36 rfl ?_
        refine r_getR C dX6_fits_37 flX6_35 (hO.1) rfl ?_
        refine r_iload C dX6_fits_40 rfl ?_
        refine r_iald (q.2.1) C dX6_fits_42 (hO.2.2.2.2.1) (rfl) (by omega) (by first | decide | omega) ?_
        rw [(eJ q.2.1 hq2).1]
        refine r_ishr C dX6_fits_43 ?_
        refine r_iconst (1) C dX6_fits_44 rfl ?_
        refine r_iand C dX6_fits_45 ?_
        rw [bit_nI (by omega) (by omega)]
        refine r_if_eq 53 C dX6_fits_46 (by decide) (fun c_46 => ?_) (fun c_46 => ?_)
        · have c_46 : ¬ t.testBit (dK D q.2.1) = true := fun z => by rw [z] at c_46; exact absurd c_46 (by decide)
          have hv : sgV D t q.2.1 = dF D q.2.1 / 2 := if_neg c_46
          refine r_iconst (0) C dX6_fits_53 rfl ?_
          refine r_istore C dX6_fits_54 (by decide) rfl ?_
          refine r_iload C dX6_fits_56 rfl ?_
          refine r_if_eq 71 C dX6_fits_58 (by decide) (fun c_58 => ?_) (fun c_58 => ?_)
          · refine r_aload_n C dX6_fits_71 rfl ?_
            refine r_getR C dX6_fits_72 flX6_40 (hO.1) rfl ?_
            refine r_iload C dX6_fits_75 rfl ?_
            refine r_iald (q.2.1) C dX6_fits_77 (hO.2.2.2.2.2.1) (rfl) (by omega) (by first | decide | omega) ?_
            rw [(eJ q.2.1 hq2).2]
            refine r_iconst (2) C dX6_fits_78 rfl ?_
            refine r_idiv C dX6_fits_79 (by decide) ?_
            first | rw [show nI (dF D q.2.1) / 2 = nI (dF D q.2.1 / 2) from pk_div (by omega) (by decide) (by decide), ← hv] | skip
            refine r_istore C dX6_fits_80 (by decide) rfl ?_
            refine r_iload C dX6_fits_82 rfl ?_
            refine r_iload C dX6_fits_84 rfl ?_
            refine r_icmp_lt 93 C dX6_fits_86 (by decide) (fun c_86 => ?_) (fun c_86 => ?_)
            · rw [cLt (x := nI (sgV D t q.2.1)) (c := nI s) (i := sgV D t q.2.1) (n := s) (rfl) (rfl) (by omega) (by omega)] at c_86
              refine r_iconst (0) C dX6_fits_93 rfl ?_
              refine r_aload_n C dX6_fits_94 rfl ?_
              refine r_getR C dX6_fits_95 flX6_18 (rfl) rfl ?_
              refine r_iload C dX6_fits_98 rfl ?_
              refine r_zald (k) C dX6_fits_100 (rfl) (rfl) (by omega) (by first | decide | omega) ?_
              refine r_icmp_eq 106 C dX6_fits_101 (by decide) (fun c_101 => ?_) (fun c_101 => ?_)
              · rw [d3] at c_101
                refine r_inc (1) C dX6_fits_106 rfl (by decide) rfl rfl ?_
                refine r_goto 3 C dX6_fits_109 (by decide) ?_
                have hso : sgOk D i t s q = true := by
                  unfold sgOk
                  rw [show (q.1 == i) = true from beq_iff_eq.mpr c_20, decide_eq_false (show ¬ s ≤ sgV D t q.2.1 by omega)]
                  cases hb : q.2.2
                  · rw [hb] at c_101; first | rfl | exact absurd rfl c_101 | exact absurd c_101 (by decide)
                  · rw [hb] at c_101; first | rfl | exact absurd rfl c_101 | exact absurd c_101 (by decide)
                exact (ih (by omega) (by rw [hst, hall, Bool.true_and]; exact hso)).sub ⟨rfl, rfl, rfl, rfl, rfl, by rw [nI_succ]; rfl, trivial⟩
              · rw [d3] at c_101
                refine r_iconst (0) C dX6_fits_104 rfl ?_
                have hso : sgOk D i t s q = false := by
                  unfold sgOk
                  rw [show (q.1 == i) = true from beq_iff_eq.mpr c_20, decide_eq_false (show ¬ s ≤ sgV D t q.2.1 by omega)]
                  cases hb : q.2.2
                  · rw [hb] at c_101; first | rfl | exact absurd rfl c_101 | exact absurd c_101 (by decide)
                  · rw [hb] at c_101; first | rfl | exact absurd rfl c_101 | exact absurd c_101 (by decide)
                exact r_zret C F dX6_fits_105 rfl (pd_i (bz_f (fun z => by have := List.all_eq_true.mp z q (List.mem_of_getElem? hq); rw [hso] at this; cases this)).symm rfl)
            · rw [cLt (x := nI (sgV D t q.2.1)) (c := nI s) (i := sgV D t q.2.1) (n := s) (rfl) (rfl) (by omega) (by omega)] at c_86
              refine r_iconst (1) C dX6_fits_89 rfl ?_
              refine r_goto 94 C dX6_fits_90 (by decide) ?_
              refine r_aload_n C dX6_fits_94 rfl ?_
              refine r_getR C dX6_fits_95 flX6_18 (rfl) rfl ?_
              refine r_iload C dX6_fits_98 rfl ?_
              refine r_zald (k) C dX6_fits_100 (rfl) (rfl) (by omega) (by first | decide | omega) ?_
              refine r_icmp_eq 106 C dX6_fits_101 (by decide) (fun c_101 => ?_) (fun c_101 => ?_)
              · rw [d3] at c_101
                refine r_inc (1) C dX6_fits_106 rfl (by decide) rfl rfl ?_
                refine r_goto 3 C dX6_fits_109 (by decide) ?_
                have hso : sgOk D i t s q = true := by
                  unfold sgOk
                  rw [show (q.1 == i) = true from beq_iff_eq.mpr c_20, decide_eq_true (show s ≤ sgV D t q.2.1 by omega)]
                  cases hb : q.2.2
                  · rw [hb] at c_101; first | rfl | exact absurd rfl c_101 | exact absurd c_101 (by decide)
                  · rw [hb] at c_101; first | rfl | exact absurd rfl c_101 | exact absurd c_101 (by decide)
                exact (ih (by omega) (by rw [hst, hall, Bool.true_and]; exact hso)).sub ⟨rfl, rfl, rfl, rfl, rfl, by rw [nI_succ]; rfl, trivial⟩
              · rw [d3] at c_101
                refine r_iconst (0) C dX6_fits_104 rfl ?_
                have hso : sgOk D i t s q = false := by
                  unfold sgOk
                  rw [show (q.1 == i) = true from beq_iff_eq.mpr c_20, decide_eq_true (show s ≤ sgV D t q.2.1 by omega)]
                  cases hb : q.2.2
                  · rw [hb] at c_101; first | rfl | exact absurd rfl c_101 | exact absurd c_101 (by decide)
                  · rw [hb] at c_101; first | rfl | exact absurd rfl c_101 | exact absurd c_101 (by decide)
                exact r_zret C F dX6_fits_105 rfl (pd_i (bz_f (fun z => by have := List.all_eq_true.mp z q (List.mem_of_getElem? hq); rw [hso] at this; cases this)).symm rfl)
          · exact absurd rfl c_58
        · have c_46 : t.testBit (dK D q.2.1) = true := by
            cases hb : t.testBit (dK D q.2.1) with
            | true => rfl
            | false => rw [hb] at c_46; exact absurd rfl c_46
          have hv : sgV D t q.2.1 = dF D q.2.1 := if_pos c_46
          refine r_iconst (1) C dX6_fits_49 rfl ?_
          refine r_goto 54 C dX6_fits_50 (by decide) ?_
          refine r_istore C dX6_fits_54 (by decide) rfl ?_
          refine r_iload C dX6_fits_56 rfl ?_
          refine r_if_eq 71 C dX6_fits_58 (by decide) (fun c_58 => ?_) (fun c_58 => ?_)
          · exact absurd c_58 (by decide)
          · refine r_aload_n C dX6_fits_61 rfl ?_
            refine r_getR C dX6_fits_62 flX6_40 (hO.1) rfl ?_
            refine r_iload C dX6_fits_65 rfl ?_
            refine r_iald (q.2.1) C dX6_fits_67 (hO.2.2.2.2.2.1) (rfl) (by omega) (by first | decide | omega) ?_
            rw [(eJ q.2.1 hq2).2, ← hv]
            refine r_goto 80 C dX6_fits_68 (by decide) ?_
            first | rw [show nI (dF D q.2.1) / 2 = nI (dF D q.2.1 / 2) from pk_div (by omega) (by decide) (by decide), ← hv] | skip
            refine r_istore C dX6_fits_80 (by decide) rfl ?_
            refine r_iload C dX6_fits_82 rfl ?_
            refine r_iload C dX6_fits_84 rfl ?_
            refine r_icmp_lt 93 C dX6_fits_86 (by decide) (fun c_86 => ?_) (fun c_86 => ?_)
            · rw [cLt (x := nI (sgV D t q.2.1)) (c := nI s) (i := sgV D t q.2.1) (n := s) (rfl) (rfl) (by omega) (by omega)] at c_86
              refine r_iconst (0) C dX6_fits_93 rfl ?_
              refine r_aload_n C dX6_fits_94 rfl ?_
              refine r_getR C dX6_fits_95 flX6_18 (rfl) rfl ?_
              refine r_iload C dX6_fits_98 rfl ?_
              refine r_zald (k) C dX6_fits_100 (rfl) (rfl) (by omega) (by first | decide | omega) ?_
              refine r_icmp_eq 106 C dX6_fits_101 (by decide) (fun c_101 => ?_) (fun c_101 => ?_)
              · rw [d3] at c_101
                refine r_inc (1) C dX6_fits_106 rfl (by decide) rfl rfl ?_
                refine r_goto 3 C dX6_fits_109 (by decide) ?_
                have hso : sgOk D i t s q = true := by
                  unfold sgOk
                  rw [show (q.1 == i) = true from beq_iff_eq.mpr c_20, decide_eq_false (show ¬ s ≤ sgV D t q.2.1 by omega)]
                  cases hb : q.2.2
                  · rw [hb] at c_101; first | rfl | exact absurd rfl c_101 | exact absurd c_101 (by decide)
                  · rw [hb] at c_101; first | rfl | exact absurd rfl c_101 | exact absurd c_101 (by decide)
                exact (ih (by omega) (by rw [hst, hall, Bool.true_and]; exact hso)).sub ⟨rfl, rfl, rfl, rfl, rfl, by rw [nI_succ]; rfl, trivial⟩
              · rw [d3] at c_101
                refine r_iconst (0) C dX6_fits_104 rfl ?_
                have hso : sgOk D i t s q = false := by
                  unfold sgOk
                  rw [show (q.1 == i) = true from beq_iff_eq.mpr c_20, decide_eq_false (show ¬ s ≤ sgV D t q.2.1 by omega)]
                  cases hb : q.2.2
                  · rw [hb] at c_101; first | rfl | exact absurd rfl c_101 | exact absurd c_101 (by decide)
                  · rw [hb] at c_101; first | rfl | exact absurd rfl c_101 | exact absurd c_101 (by decide)
                exact r_zret C F dX6_fits_105 rfl (pd_i (bz_f (fun z => by have := List.all_eq_true.mp z q (List.mem_of_getElem? hq); rw [hso] at this; cases this)).symm rfl)
            · rw [cLt (x := nI (sgV D t q.2.1)) (c := nI s) (i := sgV D t q.2.1) (n := s) (rfl) (rfl) (by omega) (by omega)] at c_86
              refine r_iconst (1) C dX6_fits_89 rfl ?_
              refine r_goto 94 C dX6_fits_90 (by decide) ?_
              refine r_aload_n C dX6_fits_94 rfl ?_
              refine r_getR C dX6_fits_95 flX6_18 (rfl) rfl ?_
              refine r_iload C dX6_fits_98 rfl ?_
              refine r_zald (k) C dX6_fits_100 (rfl) (rfl) (by omega) (by first | decide | omega) ?_
              refine r_icmp_eq 106 C dX6_fits_101 (by decide) (fun c_101 => ?_) (fun c_101 => ?_)
              · rw [d3] at c_101
                refine r_inc (1) C dX6_fits_106 rfl (by decide) rfl rfl ?_
                refine r_goto 3 C dX6_fits_109 (by decide) ?_
                have hso : sgOk D i t s q = true := by
                  unfold sgOk
                  rw [show (q.1 == i) = true from beq_iff_eq.mpr c_20, decide_eq_true (show s ≤ sgV D t q.2.1 by omega)]
                  cases hb : q.2.2
                  · rw [hb] at c_101; first | rfl | exact absurd rfl c_101 | exact absurd c_101 (by decide)
                  · rw [hb] at c_101; first | rfl | exact absurd rfl c_101 | exact absurd c_101 (by decide)
                exact (ih (by omega) (by rw [hst, hall, Bool.true_and]; exact hso)).sub ⟨rfl, rfl, rfl, rfl, rfl, by rw [nI_succ]; rfl, trivial⟩
              · rw [d3] at c_101
                refine r_iconst (0) C dX6_fits_104 rfl ?_
                have hso : sgOk D i t s q = false := by
                  unfold sgOk
                  rw [show (q.1 == i) = true from beq_iff_eq.mpr c_20, decide_eq_true (show s ≤ sgV D t q.2.1 by omega)]
                  cases hb : q.2.2
                  · rw [hb] at c_101; first | rfl | exact absurd rfl c_101 | exact absurd c_101 (by decide)
                  · rw [hb] at c_101; first | rfl | exact absurd rfl c_101 | exact absurd c_101 (by decide)
                exact r_zret C F dX6_fits_105 rfl (pd_i (bz_f (fun z => by have := List.all_eq_true.mp z q (List.mem_of_getElem? hq); rw [hso] at this; cases this)).symm rfl)
      · rw [d1] at c_20
        rw [cEq (x := nI q.1) (c := nI i) (i := q.1) (n := i) (rfl) (rfl) (by omega) (by omega)] at c_20
        refine r_goto 106 C dX6_fits_23 (by decide) ?_
        refine r_inc (1) C dX6_fits_106 rfl (by decide) rfl rfl ?_
        refine r_goto 3 C dX6_fits_109 (by decide) ?_
        exact (ih (by omega) (by rw [hst, hall, Bool.true_and]; unfold sgOk; rw [show (q.1 == i) = false from beq_eq_false_iff_ne.mpr c_20]; rfl)).sub ⟨rfl, rfl, rfl, rfl, rfl, by rw [nI_succ]; rfl, trivial⟩
  refine r_iconst (0) C dX6_fits_0 rfl ?_
  refine r_istore C dX6_fits_1 (by decide) rfl ?_
  exact (Lp 0 (Nat.zero_le _) rfl).sub ⟨rfl, rfl, rfl, rfl, rfl, rfl, trivial⟩
